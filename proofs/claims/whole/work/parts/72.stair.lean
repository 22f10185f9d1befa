/-! stair: the head of the text, then the whole -/
theorem X2_empty_l : ∀ (k fu i : Nat) (m : Mem), i + k = 7 → k < fu → (∀ r, r < i → m 3 r = -1) → ∃ m', fX2_empty_l22 fu (nI i) m = some m' ∧ m' 0 = m 0 ∧ ∀ r, r < 7 → m' 3 r = -1 := by
  intro k
  induction k with
  | zero =>
    intro fu i m hi hf h
    obtain ⟨f, rfl, -⟩ := fs hf
    have c : (7 : Int32) ≤ nI i := nI_le (a := 7) (by omega) (by omega)
    exact ⟨m, by simp only [fX2_empty_l22, fX2_empty_b22, if_pos c], rfl, fun r hr => h r (by omega)⟩
  | succ k ih =>
    intro fu i m hi hf h
    obtain ⟨f, rfl, hf'⟩ := fs hf
    have c : ¬ (7 : Int32) ≤ nI i := nI_ge (b := 7) (by omega) (by omega)
    obtain ⟨m', g, a, b⟩ := ih f (i + 1) (mp m 3 i (-1)) (by omega) (by omega) (fun r hr => by
      rw [mp_at, va_up_self]
      by_cases hri : r = i
      · subst hri; rw [upd_s]
      · rw [upd_n _ _ hri]; exact h r (by omega))
    refine ⟨m', ?_, a, b⟩
    simp only [fX2_empty_l22, fX2_empty_b22, if_neg c, chk_of (bIn_n (show i < 7 by omega) (by decide)), nc (show i < 2 ^ 31 by omega), n1a]
    exact g
theorem X2_empty (m : Mem) : ∃ m', fX2_empty m = some m' ∧ (m' 0 0 = 0 ∧ m' 0 1 = 0 ∧ m' 0 2 = 0 ∧ m' 0 3 = 0) ∧ ∀ r, r < 7 → m' 3 r = -1 := by
  obtain ⟨m', g, a, b⟩ := X2_empty_l 7 FU 0 (mp (mp (mp (mp m 0 0 0) 0 1 0) 0 2 0) 0 3 0) (by omega) (by have := FU_eq; omega) (fun r hr => by omega)
  refine ⟨m', g, ?_, b⟩
  rw [a]
  exact ⟨rfl, rfl, rfl, rfl⟩
theorem head_ok {M0 N0 : Mem} {B : Nat → Nat} {len : Nat} (hTM : TM M0 B len) (hTN : TN N0 B len) {M N : Mem} (hM : kpM M0 M) (hN : kpN N0 N) (hm2 : M 134 2 = 0) (hm3 : M 134 3 = 0) (hm7 : ∀ r, r < 7 → M 137 r = -1) (hn0 : N 7 0 = 0) (hn17 : N 7 17 = 0) : Out M0 N0 (fX3_readInto_l11 FU 0 0 0 M) (fX6_reads N) := by
  have hl := hTM.2.1
  obtain ⟨f, hF⟩ : ∃ f, FU = f + 1 + 1 + 1 + 1 + 1 := ⟨995, FU_eq⟩
  have hf := FU_eq
  rw [hF]
  unfold fX6_reads
  have hN1 : kpN N0 (mp N 0 18 0) := hN.tr (kpN_0 (by omega))
  have h1 : (mp N 0 18 0) 0 18 = nI 0 := by rw [mp0_0, upd_s]; rfl
  have s1 : fX6_sign 109 (mp N 0 18 0) = _ := X6_sgn (c := 109) (hTN.kp hN1) (Nat.zero_le _) h1 (by omega)
  have c1 : fX3_readInto_l11 (f + 1 + 1 + 1 + 1 + 1) 0 0 0 M = _ := cl_sgn (p := 0) (t := 0) (x2 := 0) (c := 109) (hTM.kp hM) (Nat.zero_le _) (Nat.le_refl _) (by decide) (by decide) (by omega) (fun w => acc_0)
  have r0 : (if (0 : Int32) = 7 then (5 : Int32) else 0 + 1) = 1 := by decide
  rw [s1, c1, r0]
  by_cases g1 : sgn B len 0 109 = true
  · have l1 := sgn_lt g1
    rw [if_pos g1, if_pos g1, bdI_s, if_neg i10]
    have hN2 : kpN N0 (mp (mp N 0 18 0) 0 18 (nI (0 + 1))) := hN1.tr (kpN_0 (by omega))
    have h2 : (mp (mp N 0 18 0) 0 18 (nI (0 + 1))) 0 18 = nI (0 + 1) := by rw [mp0_0, upd_s]
    have s2 : fX6_number 16 4 12 (mp (mp N 0 18 0) 0 18 (nI (0 + 1))) = _ := X6_num (lo := 4) (hi := 12) (k := 16) (hTN.kp hN2) (show 0 + 1 ≤ len by omega) h2 (by omega) (by omega) (by omega)
    obtain ⟨M1, k1, c2⟩ := cl_num (f := f + 1 + 1 + 1) (p := 0 + 1) (t := 0 + 1) (x2 := 1) (k := 0) (lo := 4) (hi := 12) (hTM.kp hM) (show 0 + 1 ≤ len by omega) (Nat.le_refl _) (by decide) (by decide) (by omega) (by omega) (fun w => acc_1)
    rw [s2, c2]
    by_cases g2 : nd B len (0 + 1) = 0 ∨ nd B len (0 + 1) = 3
    · rw [if_pos g2, if_pos g2, bdI_s, if_pos rfl]
      exact Out.bad (hM.tr (kpM_134 k1)) hN2 (by omega) h2 rfl rfl
    · rw [if_neg g2, if_neg g2]
      obtain ⟨in2, d2⟩ := nd_in g2
      by_cases g3 : inR (nv B len (0 + 1)) 4 12 = true
      · rw [if_pos g3, if_pos g3, bdI_s, if_neg i10]
        have hM3 : kpM M0 (mp M 134 0 (nI (nv B len (0 + 1)))) := hM.tr (kpM_mp (by omega))
        have hN3 := (hN2.tr (kpN_0 (k := 18) (v := nI (0 + 1 + nd B len (0 + 1))) (by omega))).tr (kpN_7 (k := 16) (v := nI (nv B len (0 + 1))))
        generalize hp3 : 0 + 1 + nd B len (0 + 1) = p3 at *
        have h3 : (mp (mp (mp (mp N 0 18 0) 0 18 (nI (0 + 1))) 0 18 (nI p3)) 7 16 (nI (nv B len (0 + 1)))) 0 18 = nI p3 := by rw [mp7_0, mp0_0, upd_s]
        have s3 : fX6_sign 44 (mp (mp (mp (mp N 0 18 0) 0 18 (nI (0 + 1))) 0 18 (nI p3)) 7 16 (nI (nv B len (0 + 1)))) = _ := X6_sgn (c := 44) (hTN.kp hN3) in2 h3 (by omega)
        have r2 : (if (1 : Int32) + 1 = 7 then (5 : Int32) else 1 + 1 + 1) = 3 := by decide
        have e2 : (1 : Int32) + 1 = 2 := by decide
        rw [s3, cl_sgn (x2 := 1 + 1) (c := 44) (hTM.kp hM3) in2 (by omega) (by decide) (by decide) (by omega) (fun w => acc_2), r2]
        by_cases g4 : sgn B len p3 44 = true
        · have l4 := sgn_lt g4
          rw [if_pos g4, if_pos g4, bdI_s, if_neg i10]
          have hN4 := hN3.tr (kpN_0 (k := 18) (v := nI (p3 + 1)) (by omega))
          have h4 : (mp (mp (mp (mp (mp N 0 18 0) 0 18 (nI (0 + 1))) 0 18 (nI p3)) 7 16 (nI (nv B len (0 + 1)))) 0 18 (nI (p3 + 1))) 0 18 = nI (p3 + 1) := by rw [mp0_0, upd_s]
          have s4 : fX6_number 1 0 2 (mp (mp (mp (mp (mp N 0 18 0) 0 18 (nI (0 + 1))) 0 18 (nI p3)) 7 16 (nI (nv B len (0 + 1)))) 0 18 (nI (p3 + 1))) = _ := X6_num (lo := 0) (hi := 2) (k := 1) (hTN.kp hN4) (show p3 + 1 ≤ len by omega) h4 (by omega) (by omega) (by omega)
          obtain ⟨M5, k5, c5⟩ := cl_num (f := f + 1) (p := p3 + 1) (t := 0 + 1 + 1 + 1) (x2 := 3) (k := 1) (lo := 0) (hi := 2) (hTM.kp hM3) (show p3 + 1 ≤ len by omega) (by omega) (by decide) (by decide) (by omega) (by omega) (fun w => acc_3)
          rw [s4, c5]
          by_cases g5 : nd B len (p3 + 1) = 0 ∨ nd B len (p3 + 1) = 3
          · rw [if_pos g5, if_pos g5, bdI_s, if_pos rfl]
            exact Out.bad (hM3.tr (kpM_134 k5)) hN4 (by omega) h4 rfl rfl
          · rw [if_neg g5, if_neg g5]
            obtain ⟨in5, d5⟩ := nd_in g5
            by_cases g6 : inR (nv B len (p3 + 1)) 0 2 = true
            · rw [if_pos g6, if_pos g6, bdI_s, if_neg i10]
              have hM6 : kpM M0 (mp (mp M 134 0 (nI (nv B len (0 + 1)))) 134 1 (nI (nv B len (p3 + 1)))) := hM3.tr (kpM_mp (by omega))
              have hN6 := (hN4.tr (kpN_0 (k := 18) (v := nI (p3 + 1 + nd B len (p3 + 1))) (by omega))).tr (kpN_7 (k := 1) (v := nI (nv B len (p3 + 1))))
              generalize hp6 : p3 + 1 + nd B len (p3 + 1) = p6 at *
              have h6 : (mp (mp (mp (mp (mp (mp (mp N 0 18 0) 0 18 (nI (0 + 1))) 0 18 (nI p3)) 7 16 (nI (nv B len (0 + 1)))) 0 18 (nI (p3 + 1))) 0 18 (nI p6)) 7 1 (nI (nv B len (p3 + 1)))) 0 18 = nI p6 := by rw [mp7_0, mp0_0, upd_s]
              have s6 : fX6_sign 59 (mp (mp (mp (mp (mp (mp (mp N 0 18 0) 0 18 (nI (0 + 1))) 0 18 (nI p3)) 7 16 (nI (nv B len (0 + 1)))) 0 18 (nI (p3 + 1))) 0 18 (nI p6)) 7 1 (nI (nv B len (p3 + 1)))) = _ := X6_sgn (c := 59) (hTN.kp hN6) in5 h6 (by omega)
              have r6 : (if (3 : Int32) + 1 = 7 then (5 : Int32) else 3 + 1 + 1) = 5 := by decide
              rw [s6, cl_sgn (x2 := 3 + 1) (c := 59) (hTM.kp hM6) in5 (by omega) (by decide) (by decide) (by omega) (fun w => acc_4), r6]
              by_cases g7 : sgn B len p6 59 = true
              · have l7 := sgn_lt g7
                rw [if_pos g7, if_pos g7, bdI_s, if_neg i10]
                dsimp only
                refine riders_l (s := nv B len (0 + 1)) hTM hTN 90 f FU (p6 + 1) (0 + 1 + 1 + 1 + 1 + 1) 0 _ _ (by omega) (by omega) (by omega) (by omega) (by omega) hM6 (hN6.tr (kpN_0 (k := 18) (by omega))) (by rw [mp0_0, upd_s]) ?_
                unfold inR at g3 g6
                simp only [Bool.and_eq_true, decide_eq_true_eq] at g3 g6
                have x16 : (mp (mp (mp (mp (mp (mp (mp (mp N 0 18 0) 0 18 (nI (0 + 1))) 0 18 (nI p3)) 7 16 (nI (nv B len (0 + 1)))) 0 18 (nI (p3 + 1))) 0 18 (nI p6)) 7 1 (nI (nv B len (p3 + 1)))) 0 18 (nI (p6 + 1))) 7 = upd (upd (N 7) 16 (nI (nv B len (0 + 1)))) 1 (nI (nv B len (p3 + 1))) := by
                  rw [mp0_7, mp7_7, mp0_7, mp0_7, mp7_7, mp0_7, mp0_7, mp0_7]
                have y134 : (mp (mp M 134 0 (nI (nv B len (0 + 1)))) 134 1 (nI (nv B len (p3 + 1)))) 134 = upd (upd (M 134) 0 (nI (nv B len (0 + 1)))) 1 (nI (nv B len (p3 + 1))) := by
                  rw [mp_at, va_up_self, mp_at, va_up_self]
                have y137 : (mp (mp M 134 0 (nI (nv B len (0 + 1)))) 134 1 (nI (nv B len (p3 + 1)))) 137 = M 137 := by
                  rw [mp_at, va_up_ne _ _ (by omega), mp_at, va_up_ne _ _ (by omega)]
                unfold DR
                rw [x16, y134, y137]
                refine ⟨⟨?_, ?_, by omega⟩, ⟨?_, ?_, g3.2, g3.1⟩, ⟨?_, ?_⟩, ⟨?_, ?_⟩, hm7, fun r hr => by omega⟩
                · rw [upd_n _ _ (by omega), upd_n _ _ (by omega), hm3]; rfl
                · rw [upd_n _ _ (by omega), upd_n _ _ (by omega), hn17]; rfl
                · rw [upd_n _ _ (by omega), upd_s]
                · rw [upd_n _ _ (by omega), upd_s]
                · rw [upd_s, upd_s]
                · rw [upd_s]
                  have : nv B len (p3 + 1) = 0 ∨ nv B len (p3 + 1) = 1 ∨ nv B len (p3 + 1) = 2 := by omega
                  rcases this with h | h | h <;> rw [h]
                  · exact Or.inl rfl
                  · exact Or.inr (Or.inl rfl)
                  · exact Or.inr (Or.inr rfl)
                · rw [upd_n _ _ (by omega), upd_n _ _ (by omega), hm2]
                · rw [upd_n _ _ (by omega), upd_n _ _ (by omega), hn0]
              · rw [if_neg g7, if_neg g7, bdI_s, if_pos rfl]
                exact Out.bad hM6 hN6 (by omega) h6 rfl rfl
            · rw [if_neg g6, if_neg g6, bdI_s, if_pos rfl]
              exact Out.bad (hM3.tr (kpM_134 k5)) hN4 (by omega) h4 rfl rfl
        · rw [if_neg g4, if_neg g4, bdI_s, if_pos rfl]
          exact Out.bad hM3 hN3 (by omega) h3 rfl rfl
      · rw [if_neg g3, if_neg g3, bdI_s, if_pos rfl]
        exact Out.bad (hM.tr (kpM_134 k1)) hN2 (by omega) h2 rfl rfl
  · rw [if_neg g1, if_neg g1, bdI_s, if_pos rfl]
    exact Out.bad hM hN1 (by omega) h1 rfl rfl
theorem stair_2 : ∀ (k fu i : Nat) (N : Mem), i + k = 25 → k < fu → (∀ j, j < i → N 7 j = 0) → ∃ N', fX6_stair_l2 fu (nI i) N = fX6_stair_b21 N' ∧ kpN N N' ∧ ∀ j, j < 25 → N' 7 j = 0 := by
  intro k
  induction k with
  | zero =>
    intro fu i N hi hf h
    obtain ⟨f, rfl, -⟩ := fs hf
    have c : (25 : Int32) ≤ nI i := nI_le (a := 25) (by omega) (by omega)
    exact ⟨N, by simp only [fX6_stair_l2, fX6_stair_b2, if_pos c], kpN.rf, fun r hr => h r (by omega)⟩
  | succ k ih =>
    intro fu i N hi hf h
    obtain ⟨f, rfl, hf'⟩ := fs hf
    have c : ¬ (25 : Int32) ≤ nI i := nI_ge (b := 25) (by omega) (by omega)
    obtain ⟨N', g, a, b⟩ := ih f (i + 1) (mp N 7 i 0) (by omega) (by omega) (fun r hr => by
      rw [mp7_7]
      by_cases hri : r = i
      · subst hri; rw [upd_s]
      · rw [upd_n _ _ hri]; exact h r (by omega))
    refine ⟨N', ?_, kpN_7.tr a, b⟩
    simp only [fX6_stair_l2, fX6_stair_b2, if_neg c, chk_of (bIn_n (show i < 25 by omega) (by decide)), nc (show i < 2 ^ 31 by omega), n1a]
    exact g
theorem stair_53 {N : Mem} : ∀ (k fu i : Nat) (w : Nat → Int32), i + k = 25 → k < fu → (∀ j, j < i → w j = N 7 j) → ∃ w', fX6_stair_l53 fu (nI i) (va_up N 6 w) = fX6_stair_b77 (va_up N 6 w') ∧ ∀ j, j < 25 → w' j = N 7 j := by
  intro k
  induction k with
  | zero =>
    intro fu i w hi hf h
    obtain ⟨f, rfl, -⟩ := fs hf
    have c : (25 : Int32) ≤ nI i := nI_le (a := 25) (by omega) (by omega)
    exact ⟨w, by simp only [fX6_stair_l53, fX6_stair_b53, if_pos c], fun r hr => h r (by omega)⟩
  | succ k ih =>
    intro fu i w hi hf h
    obtain ⟨f, rfl, hf'⟩ := fs hf
    have c : ¬ (25 : Int32) ≤ nI i := nI_ge (b := 25) (by omega) (by omega)
    have e7 : (va_up N 6 w) 7 = N 7 := va_up_ne _ _ (by omega)
    have e6 : (va_up N 6 w) 6 = w := va_up_self _ _ _
    obtain ⟨w', g, b⟩ := ih f (i + 1) (upd w i (N 7 i)) (by omega) (by omega) (fun r hr => by
      by_cases hri : r = i
      · subst hri; rw [upd_s]
      · rw [upd_n _ _ hri]; exact h r (by omega))
    refine ⟨w', ?_, b⟩
    simp only [fX6_stair_l53, fX6_stair_b53, if_neg c, chk_of (bIn_n (show i < 25 by omega) (by decide)), nc (show i < 2 ^ 31 by omega), n1a, e7, mp_at, e6, va_up_u]
    exact g
theorem q_stair : EqI fX5_stair fX6_stair := fun M N h => by
  obtain ⟨h1, ⟨k, hk, e1, e2, e3⟩, h3, h4, h5, h6, h7⟩ := id h
  obtain ⟨B, hB⟩ : ∃ B : Nat → Nat, ∀ j, j < k → M 3 j = nI (B j) ∧ B j < 256 := by
    refine ⟨fun j => if hj : j < k then (e3 j hj).2.choose else 0, fun j hj => ?_⟩
    dsimp only
    rw [dif_pos hj]
    exact ⟨(e3 j hj).2.choose_spec.2, (e3 j hj).2.choose_spec.1⟩
  have hTM : TM M B k := ⟨e1, hk, hB⟩
  have hTN : TN N B k := ⟨e2, hk, fun j hj => ⟨by rw [← (e3 j hj).1]; exact (hB j hj).1, (hB j hj).2⟩⟩
  unfold fX5_stair fX6_stair fX3_readInto
  obtain ⟨m', g1, ⟨a0, a1, a2, a3⟩, a4⟩ := X2_empty (gS M 134)
  obtain ⟨N1, g2, kN, z⟩ := stair_2 25 FU 0 N (by omega) (by have := FU_eq; omega) (fun j hj => by omega)
  have g2' : fX6_stair_l2 FU 0 N = fX6_stair_b21 N1 := g2
  rw [g1, bdV_s, g2']
  unfold fX6_stair_b21
  have hh := head_ok (M0 := M) (N0 := N) hTM hTN (M := pS M 134 m') (N := N1) (kpM_pS (by omega)) kN a2 a3 a4 (z 0 (by omega)) (z 17 (by omega))
  rcases hh with ⟨p, w, M', N', hp, hx, hy, kM, kN', h18, h19⟩ | ⟨n, s, M', N', hx, hy, kM, kN', hR, hn⟩
  · rw [hx, hy, bdI_s, bdI_s, if_neg (show ¬ nI p = -1000000 from oI_ne (by omega)), if_pos rfl]
    have e18 : (mp (mp N' 0 6 0) 0 7 ((mp N' 0 6 0) 0 19)) 0 18 = nI p := by rw [mp0_0, upd_n _ _ (by omega), mp0_0, upd_n _ _ (by omega)]; exact h18
    have e19 : (mp N' 0 6 0) 0 19 = w := by rw [mp0_0, upd_n _ _ (by omega)]; exact h19
    have hMo : ∀ i, i < 134 ∨ (142 ≤ i ∧ i < 168) → i ≠ 2 → (mp (mp M' 2 2 w) 2 1 0) i = M i := fun i hi h2 => by rw [va_ne h2, va_ne h2]; exact kM i hi
    have hNo : ∀ i, i ≠ 0 → i ≠ 4 → i ≠ 7 → i ≠ 11 → i ≠ 12 → (mp (mp N' 0 6 0) 0 7 w) i = N i := fun i q0 q4 q7 q11 q12 => by rw [va_ne q0, va_ne q0]; exact kN'.1 i q0 q4 q7 q11 q12
    have hN0 : ∀ j, j < 18 → j ≠ 6 → j ≠ 7 → (mp (mp N' 0 6 0) 0 7 w) 0 j = N 0 j := fun j hj q6 q7 => by rw [mp0_0, upd_n _ _ q7, mp0_0, upd_n _ _ q6]; exact kN'.2 j hj
    refine ⟨-1000100 - nI p, mp (mp M' 2 2 w) 2 1 0, mp (mp N' 0 6 0) 0 7 w, rfl, by rw [e18]; dsimp only; rw [e19], ?_⟩
    refine ⟨RRa_c (fun i _ _ => hMo i (by omega) (by omega)) (hNo 6 (by omega) (by omega) (by omega) (by omega) (by omega)) (hNo 10 (by omega) (by omega) (by omega) (by omega) (by omega)) (hN0 13 (by omega) (by omega) (by omega)) h1, ⟨0, by omega, ?_, ?_, fun j hj => by omega⟩, ?_, ?_, RRd_c (fun i _ _ => hMo i (by omega) (by omega)) (hNo 1 (by omega) (by omega) (by omega) (by omega) (by omega)) (hNo 2 (by omega) (by omega) (by omega) (by omega) (by omega)) (hNo 3 (by omega) (by omega) (by omega) (by omega) (by omega)) h5, RRe_c (fun i _ _ => hMo i (by omega) (by omega)) (hNo 8 (by omega) (by omega) (by omega) (by omega) (by omega)) (hNo 9 (by omega) (by omega) (by omega) (by omega) (by omega)) h6, ?_⟩
    · rw [mp_at, va_up_self, upd_s]; rfl
    · rw [mp0_0, upd_n _ _ (by omega), mp0_0, upd_s]; rfl
    · rw [mp_at, va_up_self, upd_n _ _ (by omega), mp_at, va_up_self, upd_s, mp0_0, upd_s]
    · rw [hMo 0 (by omega) (by omega), hN0 4 (by omega) (by omega) (by omega)]; exact h4
    · rw [hMo 132 (by omega) (by omega), hMo 133 (by omega) (by omega), hN0 17 (by omega) (by omega) (by omega), hNo 13 (by omega) (by omega) (by omega) (by omega) (by omega)]; exact h7
  · rw [hx, hy, bdI_s, bdI_s, if_pos rfl, if_neg i10]
    obtain ⟨M7, g3, q1, q2, q3⟩ := X2_become (c := 4) (d := 134) (mp M' 2 1 0) (by omega)
    obtain ⟨w, g4, hw⟩ := stair_53 (N := mp N' 0 6 0) 25 FU 0 ((mp N' 0 6 0) 6) (by omega) (by have := FU_eq; omega) (fun j hj => by omega)
    rw [va_up_eta] at g4
    have g4' : fX6_stair_l53 FU 0 (mp N' 0 6 0) = fX6_stair_b77 (va_up (mp N' 0 6 0) 6 w) := g4
    rw [g3, bdV_s, g4']
    simp only [fX0_forgetAll, bdV_s, fX6_stair_b77, chk_of q17, c17]
    have hMo : ∀ i, i < 134 ∨ (142 ≤ i ∧ i < 168) → i ≠ 2 → i ≠ 4 → i ≠ 5 → i ≠ 6 → i ≠ 7 → i ≠ 9 → (mp M7 9 2 0) i = M i := fun i hi h2 r4 r5 r6 r7 r9 => by rw [va_ne r9, q1 i r4 r5 r6 r7, va_ne h2]; exact kM i hi
    have e4 : ∀ i, i < 4 → (mp M7 9 2 0) (4 + i) = M7 (4 + i) := fun i hi => va_ne (by omega)
    have hNo : ∀ i, i ≠ 0 → i ≠ 6 → i ≠ 4 → i ≠ 7 → i ≠ 11 → i ≠ 12 → (mp (va_up (mp N' 0 6 0) 6 w) 0 13 0) i = N i := fun i r0 r6 r4 r7 r11 r12 => by rw [va_ne r0, va_up_ne _ _ r6, va_ne r0]; exact kN'.1 i r0 r4 r7 r11 r12
    have hN0 : ∀ j, j < 18 → j ≠ 6 → j ≠ 13 → (mp (va_up (mp N' 0 6 0) 6 w) 0 13 0) 0 j = N 0 j := fun j hj r6 r13 => by rw [mp_k r13, va_up_ne _ _ (by omega), mp_k r6]; exact kN'.2 j hj
    have hw' : ∀ j, j < 25 → w j = N' 7 j := fun j hj => by rw [hw j hj, mp0_7]
    have e6 : (mp (va_up (mp N' 0 6 0) 6 w) 0 13 0) 6 = w := by rw [va_ne (by omega), va_up_self]
    have hR4 : RS (gS (mp M7 9 2 0) 4) ((mp (va_up (mp N' 0 6 0) 6 w) 0 13 0) 6) n s := by
      have hR' : RS (gS (mp M' 2 1 0) 134) (N' 7) n s := hR.congr (fun k _ => by
        show (mp M' 2 1 0) (134 + 0) k = M' (134 + 0) k
        rw [va_ne (by omega)]) (fun i r _ _ _ => by
        show (mp M' 2 1 0) (134 + i) r = M' (134 + i) r
        rw [va_ne (by omega)]) (fun _ _ => rfl)
      refine (hR'.become q2 q3).congr (fun k _ => ?_) (fun i r _ hi _ => ?_) (fun j hj => ?_)
      · show (mp M7 9 2 0) (4 + 0) k = M7 (4 + 0) k
        rw [e4 0 (by omega)]
      · show (mp M7 9 2 0) (4 + i) r = M7 (4 + i) r
        rw [e4 i (by omega)]
      · rw [e6]; exact hw' j hj
    obtain ⟨n0, s0, hR0, ⟨k0, x0, b1, b2, b3, b4, b5, b6⟩⟩ := h1
    have e9 : (mp M7 9 2 0) 9 1 = nI x0 := by
      rw [mp_k (by omega), q1 9 (by omega) (by omega) (by omega) (by omega), va_ne (by omega), kM 9 (by omega)]
      exact b4
    refine ⟨(mp M7 9 2 0) 4 3, mp M7 9 2 0, mp (va_up (mp N' 0 6 0) 6 w) 0 13 0, rfl, ?_, ⟨n, s, hR4, actsR_0 ⟨x0, b2, e9⟩ mp_s mp_s⟩, ⟨0, by omega, ?_, ?_, fun j hj => by omega⟩, ?_, ?_, RRd_c (fun i _ _ => hMo i (by omega) (by omega) (by omega) (by omega) (by omega) (by omega) (by omega)) (hNo 1 (by omega) (by omega) (by omega) (by omega) (by omega) (by omega)) (hNo 2 (by omega) (by omega) (by omega) (by omega) (by omega) (by omega)) (hNo 3 (by omega) (by omega) (by omega) (by omega) (by omega) (by omega)) h5, RRe_c (fun i _ _ => hMo i (by omega) (by omega) (by omega) (by omega) (by omega) (by omega) (by omega)) (hNo 8 (by omega) (by omega) (by omega) (by omega) (by omega) (by omega)) (hNo 9 (by omega) (by omega) (by omega) (by omega) (by omega) (by omega)) h6, ?_⟩
    · have : (mp M7 9 2 0) 4 3 = (mp (va_up (mp N' 0 6 0) 6 w) 0 13 0) 6 17 := by
        have r1 := hR4.1.1
        have r2 := hR4.1.2.1
        rw [r2]
        exact r1
      rw [this]
    · rw [va_ne (by omega), q1 2 (by omega) (by omega) (by omega) (by omega), mp_at, va_up_self, upd_s]; rfl
    · rw [mp_k (by omega), va_up_ne _ _ (by omega), mp0_0, upd_s]; rfl
    · rw [va_ne (by omega), q1 2 (by omega) (by omega) (by omega) (by omega), mp_k (by omega), kM 2 (by omega), hN0 7 (by omega) (by omega) (by omega)]; exact h3
    · rw [hMo 0 (by omega) (by omega) (by omega) (by omega) (by omega) (by omega) (by omega), hN0 4 (by omega) (by omega) (by omega)]; exact h4
    · rw [hMo 132 (by omega) (by omega) (by omega) (by omega) (by omega) (by omega) (by omega), hMo 133 (by omega) (by omega) (by omega) (by omega) (by omega) (by omega) (by omega), hN0 17 (by omega) (by omega) (by omega), hNo 13 (by omega) (by omega) (by omega) (by omega) (by omega) (by omega)]; exact h7
