/-! fits -/
set_option maxRecDepth 100000 in
theorem or_bit12 : ∀ i, i < 12 → ∀ b, b < 2 ^ i → nI b ||| ((1 : Int32) <<< (nI i &&& 31)) = nI (b + 2 ^ i) := by decide +kernel
theorem shl_0 : ∀ i, i < 32 → (0 : Int32) <<< (nI i &&& 31) = 0 := by decide +kernel
theorem or_b2i {P : Nat → Bool} {i : Nat} (h : i < 12) : nI (bN P i) ||| (b2i (P i) <<< (nI i &&& 31)) = nI (bN P (i + 1)) := by
  show _ = nI (bN P i + (if P i = true then 2 ^ i else 0))
  cases hP : P i with
  | false => rw [b2i_f, shl_0 i (by omega), or_0]; rfl
  | true => rw [b2i_t, or_bit12 i h _ (bN_lt P i)]; rfl
theorem X6_isSo_f {n s : Nat} {M0 N0 : Mem} {x y : Int32} {t : Nat} (ht : t < 900) : ∀ (k fu i : Nat) (M N : Mem), i + k = t → k < fu → FR M0 N0 M N n s → ∃ N', fX6_isSo_l6 x y (nI t) fu 0 (nI i) N = some (0, N') ∧ kpN N0 N' := by
  intro k
  induction k with
  | zero =>
    intro fu i M N hi hf h
    obtain ⟨f, rfl, -⟩ := fs hf
    have c : nI t ≤ nI i := nI_le (by omega) (by omega)
    refine ⟨N, ?_, h.2.1⟩
    simp only [fX6_isSo_l6, fX6_isSo_b6, if_pos c, chk_of (show ((0 : Int32) == 0 || (0 : Int32) == 1) = true by decide)]
  | succ k ih =>
    intro fu i M N hi hf h
    obtain ⟨f, rfl, hf'⟩ := fs hf
    have c : ¬ nI t ≤ nI i := nI_ge (by omega) (by omega)
    obtain ⟨r, m', N1, g1, g2, h1, -⟩ := h.tk
    obtain ⟨N2, g3, hk⟩ := ih f (i + 1) _ N1 (by omega) (by omega) h1
    refine ⟨N2, ?_, hk⟩
    simp only [fX6_isSo_l6, fX6_isSo_b6, fX6_isSo_b49, fX6_isSo_b50, if_neg c, g2, bdV_s, if_true, n1a]
    exact g3
theorem fit_l {n s r q c a t : Nat} {M0 N0 : Mem} (hr : r < n) (hq : q < 8) (hc : c = 142 + 2 * q) (hat : a + t ≤ 40) (hit : ∀ k, k < 40 → M0 (c + 1) k = N0 3 (40 * q + k)) : ∀ (k fu i : Nat) (M N : Mem), i + k = t → k < fu → FR M0 N0 M N n s → ∃ b M' N', fX5_trialFits_l3 (nI r) c (nI a) (nI t) fu (nI i) M = some (b2i b, M') ∧ fX6_isSo_l6 (nI r) (nI (40 * q + a)) (nI t) fu 1 (nI i) N = some (b2i b, N') ∧ kpM M0 M' ∧ kpN N0 N' := by
  intro k
  induction k with
  | zero =>
    intro fu i M N hi hf h
    obtain ⟨f, rfl, -⟩ := fs hf
    have cc : nI t ≤ nI i := nI_le (by omega) (by omega)
    refine ⟨true, M, N, ?_, ?_, h.1, h.2.1⟩
    · simp only [fX5_trialFits_l3, fX5_trialFits_b3, if_pos cc, b2i_t]
    · simp only [fX6_isSo_l6, fX6_isSo_b6, if_pos cc, chk_of (show ((1 : Int32) == 0 || (1 : Int32) == 1) = true by decide), b2i_t]
  | succ k ih =>
    intro fu i M N hi hf h
    obtain ⟨f, rfl, hf'⟩ := fs hf
    have cc : ¬ nI t ≤ nI i := nI_ge (by omega) (by omega)
    have hn := h.2.2.1.2.2
    obtain ⟨rr, m', N1, g1, g2, h1, -⟩ := h.tk
    have e1 : (pS M 134 m') 137 r = N1 11 (2 + r) := (h1.2.2.2.2.2.2 r hr).1.2.2
    have e2 : (pS M 134 m') (c + 1) (a + i) = N1 3 (40 * q + a + i) := by
      rw [h1.1 (c + 1) (by omega), hit (a + i) (by omega), h1.2.1.1 3 (by omega) (by omega) (by omega) (by omega) (by omega), show 40 * q + (a + i) = 40 * q + a + i by omega]
    simp only [fX5_trialFits_l3, fX5_trialFits_b3, if_neg cc, g1, bdI_s, chk_of (bIn_n (show r < 7 by omega) (by decide)), nI_add, chk_of (bIn_n (show a + i < 40 by omega) (by decide)), nc (show r < 2 ^ 31 by omega), nc (show a + i < 2 ^ 31 by omega), e1, e2, n1a, fX6_isSo_l6, fX6_isSo_b6, fX6_isSo_b49, fX6_isSo_b50, g2, bdV_s, i10, if_false, n2a, chk_of (bIn_n (show 2 + r < 25 by omega) (by decide)), chk_of (bIn_n (show 40 * q + a + i < 320 by omega) (by decide)), nc (show 2 + r < 2 ^ 31 by omega), nc (show 40 * q + a + i < 2 ^ 31 by omega)]
    by_cases he : N1 11 (2 + r) = N1 3 (40 * q + a + i)
    · simp only [if_pos he]
      exact ih f (i + 1) _ N1 (by omega) (by omega) h1
    · simp only [if_neg he]
      obtain ⟨N2, g3, hk⟩ := X6_isSo_f (x := nI r) (y := nI (40 * q + a)) (t := t) (by omega) k f (i + 1) _ N1 (by omega) (by omega) h1
      exact ⟨false, _, N2, rfl, g3, h1.1, hk⟩
theorem fit {n s r q c a t : Nat} {M0 N0 M N : Mem} (hr : r < n) (hq : q < 8) (hc : c = 142 + 2 * q) (hat : a + t ≤ 40) (hit : ∀ k, k < 40 → M0 (c + 1) k = N0 3 (40 * q + k)) (h : FR M0 N0 M N n s) : ∃ b M' N', fX5_trialFits (nI r) c (nI a) (nI t) M = some (b2i b, M') ∧ fX6_isSo (nI r) (nI (40 * q + a)) (nI t) N = some (b2i b, N') ∧ kpM M0 M' ∧ kpN N0 N' :=
  fit_l hr hq hc hat hit t FU 0 M N (by omega) (by have := FU_eq; omega) h
theorem FR.kind {M0 N0 M N : Mem} {n s q k : Nat} (h : FR M0 N0 M N n s) (hq : q < 7) (h1 : 1 ≤ k) (h5 : k ≤ 5) : FR M0 N0 (mp M 135 q (nI k)) (mp N 11 (18 + q) (nI k)) n s := by
  refine ⟨h.1.tr (kpM_mp (by omega)), h.2.1.tr kpN_mp, ?_⟩
  rw [show gS (mp M 135 q (nI k)) 134 = mp (gS M 134) 1 q (nI k) from gS_mp (c := 134) (i := 1), show (mp N 11 (18 + q) (nI k)) 11 = upd (N 11) (18 + q) (nI k) from va_up_self _ _ _]
  exact h.2.2.kind hq h1 h5
theorem FR.lane {M0 N0 M N : Mem} {n s q : Nat} {v : Int32} (h : FR M0 N0 M N n s) (hq : q < 7) (hv : okL v) : FR M0 N0 (mp M 136 q v) (mp N 11 (9 + q) v) n s := by
  refine ⟨h.1.tr (kpM_mp (by omega)), h.2.1.tr kpN_mp, ?_⟩
  rw [show gS (mp M 136 q v) 134 = mp (gS M 134) 2 q v from gS_mp (c := 134) (i := 2), show (mp N 11 (9 + q) v) 11 = upd (N 11) (9 + q) v from va_up_self _ _ _]
  exact h.2.2.lane hq hv
theorem FR.speed {M0 N0 M N : Mem} {n s : Nat} {v : Int32} (h : FR M0 N0 M N n s) (hv : v = 0 ∨ v = 1 ∨ v = 2) : FR M0 N0 (mp M 134 1 v) (mp N 11 1 v) n s := by
  refine ⟨h.1.tr (kpM_mp (by omega)), h.2.1.tr kpN_mp, ?_⟩
  rw [show gS (mp M 134 1 v) 134 = mp (gS M 134) 0 1 v from gS_mp (c := 134) (i := 0), show (mp N 11 1 v) 11 = upd (N 11) 1 v from va_up_self _ _ _]
  exact h.2.2.speed hv
theorem kpN_fin {N0 N : Mem} (h : kpN N0 N) : ∀ k, k < 18 → N 0 k = N0 0 k := h.2
/-- the end of a fit: both say the set, and no finding -/
theorem RR.fit {M0 N0 M N : Mem} (h0 : RR M0 N0) (hM : kpM M0 M) (hN : kpN N0 N) {j : Nat} (hj : j < 2 ^ 31) : ∃ r M' N', (bdI (some (nI j, M)) (fun r19 M21 => bdI (fX5_fine r19 M21) (fun r22 M24 => some ((r22 : Int32), M24)))) = some (r, M') ∧ (bdI (fX6_ends (nI j) N) (fun r2 M4 => some ((r2 : Int32), M4))) = some (r, N') ∧ RR M' N' := by
  simp only [bdI_s, X5_fine, X6_ends_n _ hj]
  exact ⟨_, _, _, rfl, rfl, (h0.keep hM hN).fin 0⟩
theorem o1_b {b : Bool} : fX5_oneIf (b2i b) = some (b2i b) := X5_oneIf
theorem fit_kinds {n s r q a t : Nat} {on0 : Int32} {M0 N0 : Mem} (h0 : RR M0 N0) (hR : RS (gS M0 4) (N0 6) n s) (hr : r < n) (hq : q < 8) (hat : a + t ≤ 40) (hit : ∀ k, k < 40 → M0 (142 + 2 * q + 1) k = N0 3 (40 * q + k)) {y : Int32} : ∀ (k fu v : Nat) (M N : Mem) (P : Nat → Bool), v + k = 5 + 1 → 1 ≤ v → k < fu → kpM M0 M → kpN N0 N → ∃ (rr : Int32) (M1 : Mem) (j : Nat) (N1 : Mem), j < 4096 ∧ rr = nI j ∧ fX5_kindsThatFit_l6 (nI r) (142 + 2 * q) (nI a) (nI t) fu (nI (bN P v)) (nI v) M = some (rr, M1) ∧ fX6_fits_l153 (nI r) y (nI a) (nI t) 0 fu (nI (bN P v)) (nI (40 * q + a)) 5 on0 (nI v) N = bdI (fX6_ends rr N1) (fun r2 M4 => some ((r2 : Int32), M4)) ∧ kpM M0 M1 ∧ kpN N0 N1 := by
  have hn := hR.1.2.2
  intro k
  induction k with
  | zero =>
    intro fu v M N P hv hlo hf hM hN
    obtain ⟨f, rfl, -⟩ := fs hf
    have cc : (5 : Int32) < nI v := nI_lt (a := 5) (by omega) (by omega)
    have hb : bN P v < 4096 := Nat.lt_of_lt_of_le (bN_lt P v) (Nat.pow_le_pow_right (by omega) (by omega) : 2 ^ v ≤ 2 ^ 12)
    refine ⟨nI (bN P v), M, bN P v, N, hb, rfl, ?_, ?_, hM, hN⟩
    · simp only [fX5_kindsThatFit_l6, fX5_kindsThatFit_b6, if_pos cc]
    · simp only [fX6_fits_l153, fX6_fits_b153, if_pos cc]
  | succ k ih =>
    intro fu v M N P hv hlo hf hM hN
    obtain ⟨f, rfl, hf'⟩ := fs hf
    have cc : ¬ (5 : Int32) < nI v := nI_nlt (a := 5) (by omega) (by omega)
    obtain ⟨M1, N1, g1, g2, hF⟩ := FR_start hM hN hR
    have hF2 := hF.kind (q := r) (k := v) (by omega) (by omega) (by omega)
    obtain ⟨b, M2, N2, g3, g4, hk1, hk2⟩ := fit hr hq rfl hat hit hF2
    have hP : bN P v = bN (fun i => if i = v then b else P i) v := bN_congr v (fun i hi => by rw [if_neg (by omega)])
    have hor := or_b2i (P := fun i => if i = v then b else P i) (i := v) (by omega)
    simp only [if_true] at hor
    rw [hP]
    obtain ⟨rr, M3, j, N3, hj, er, q1, q2, q3, q4⟩ := ih f (v + 1) M2 N2 (fun i => if i = v then b else P i) (by omega) (by omega) (by omega) hk1 hk2
    refine ⟨rr, M3, j, N3, hj, er, ?_, ?_, q3, q4⟩
    · simp only [fX5_kindsThatFit_l6, fX5_kindsThatFit_b6, if_neg cc, g1, bdV_s, chk_of (bIn_n (show r < 7 by omega) (by decide)), nc (show r < 2 ^ 31 by omega), g3, bdI_s, o1_b, bdP_s, hor, n1a]
      exact q1
    · simp only [fX6_fits_l153, fX6_fits_b153, fX6_fits_b202, fX6_fits_b237, fX6_fits_b241, fX6_fits_b242, fX6_fits_b279, fX6_fits_b280, if_neg cc, g2, bdV_s, show ¬ (1 : Int32) = 0 by decide, show ¬ (2 : Int32) = 0 by decide, show ¬ (2 : Int32) = 1 by decide, show (0 : Int32) < 3 by decide, show (1 : Int32) < 3 by decide, show (2 : Int32) < 3 by decide, i10, if_true, if_false, n9a, n18a, n2a, chk_of (bIn_n (show 18 + r < 25 by omega) (by decide)), nc (show 18 + r < 2 ^ 31 by omega), g4, bdI_s, b2i_0, n1a]
      cases b with
      | false =>
        rw [b2i_f, shl_0 v (by omega), or_0] at hor
        simp only [if_true, or_0]
        rw [hor]
        exact q2
      | true =>
        rw [b2i_t] at hor
        simp only [Bool.true_eq_false, if_false]
        rw [hor]
        exact q2
theorem fit_lanes {n s r q a t : Nat} {on0 : Int32} {M0 N0 : Mem} (h0 : RR M0 N0) (hR : RS (gS M0 4) (N0 6) n s) (hr : r < n) (hq : q < 8) (hat : a + t ≤ 40) (hit : ∀ k, k < 40 → M0 (142 + 2 * q + 1) k = N0 3 (40 * q + k)) {y : Int32} : ∀ (k fu v : Nat) (M N : Mem) (P : Nat → Bool), v + k = 1 + 1 → 0 ≤ v → k < fu → kpM M0 M → kpN N0 N → ∃ (rr : Int32) (M1 : Mem) (j : Nat) (N1 : Mem), j < 4096 ∧ rr = nI j ∧ fX5_lanesThatFit_l6 (nI r) (142 + 2 * q) (nI a) (nI t) fu (nI (bN P v)) (nI v) M = some (rr, M1) ∧ fX6_fits_l153 (nI r) y (nI a) (nI t) 1 fu (nI (bN P v)) (nI (40 * q + a)) 1 on0 (nI v) N = bdI (fX6_ends rr N1) (fun r2 M4 => some ((r2 : Int32), M4)) ∧ kpM M0 M1 ∧ kpN N0 N1 := by
  have hn := hR.1.2.2
  intro k
  induction k with
  | zero =>
    intro fu v M N P hv hlo hf hM hN
    obtain ⟨f, rfl, -⟩ := fs hf
    have cc : (1 : Int32) < nI v := nI_lt (a := 1) (by omega) (by omega)
    have hb : bN P v < 4096 := Nat.lt_of_lt_of_le (bN_lt P v) (Nat.pow_le_pow_right (by omega) (by omega) : 2 ^ v ≤ 2 ^ 12)
    refine ⟨nI (bN P v), M, bN P v, N, hb, rfl, ?_, ?_, hM, hN⟩
    · simp only [fX5_lanesThatFit_l6, fX5_lanesThatFit_b6, if_pos cc]
    · simp only [fX6_fits_l153, fX6_fits_b153, if_pos cc]
  | succ k ih =>
    intro fu v M N P hv hlo hf hM hN
    obtain ⟨f, rfl, hf'⟩ := fs hf
    have cc : ¬ (1 : Int32) < nI v := nI_nlt (a := 1) (by omega) (by omega)
    obtain ⟨M1, N1, g1, g2, hF⟩ := FR_start hM hN hR
    have hF2 := hF.lane (q := r) (v := nI v) (by omega) (by
      have : v = 0 ∨ v = 1 := by omega
      rcases this with rfl | rfl
      · exact Or.inl rfl
      · exact Or.inr rfl)
    obtain ⟨b, M2, N2, g3, g4, hk1, hk2⟩ := fit hr hq rfl hat hit hF2
    have hP : bN P v = bN (fun i => if i = v then b else P i) v := bN_congr v (fun i hi => by rw [if_neg (by omega)])
    have hor := or_b2i (P := fun i => if i = v then b else P i) (i := v) (by omega)
    simp only [if_true] at hor
    rw [hP]
    obtain ⟨rr, M3, j, N3, hj, er, q1, q2, q3, q4⟩ := ih f (v + 1) M2 N2 (fun i => if i = v then b else P i) (by omega) (by omega) (by omega) hk1 hk2
    refine ⟨rr, M3, j, N3, hj, er, ?_, ?_, q3, q4⟩
    · simp only [fX5_lanesThatFit_l6, fX5_lanesThatFit_b6, if_neg cc, g1, bdV_s, chk_of (bIn_n (show r < 7 by omega) (by decide)), nc (show r < 2 ^ 31 by omega), g3, bdI_s, o1_b, bdP_s, hor, n1a]
      exact q1
    · simp only [fX6_fits_l153, fX6_fits_b153, fX6_fits_b202, fX6_fits_b237, fX6_fits_b241, fX6_fits_b242, fX6_fits_b279, fX6_fits_b280, if_neg cc, g2, bdV_s, show ¬ (1 : Int32) = 0 by decide, show ¬ (2 : Int32) = 0 by decide, show ¬ (2 : Int32) = 1 by decide, show (0 : Int32) < 3 by decide, show (1 : Int32) < 3 by decide, show (2 : Int32) < 3 by decide, i10, if_true, if_false, n9a, n18a, n2a, chk_of (bIn_n (show 9 + r < 25 by omega) (by decide)), nc (show 9 + r < 2 ^ 31 by omega), g4, bdI_s, b2i_0, n1a]
      cases b with
      | false =>
        rw [b2i_f, shl_0 v (by omega), or_0] at hor
        simp only [if_true, or_0]
        rw [hor]
        exact q2
      | true =>
        rw [b2i_t] at hor
        simp only [Bool.true_eq_false, if_false]
        rw [hor]
        exact q2
theorem fit_speeds {n s r q a t : Nat} {on0 : Int32} {M0 N0 : Mem} (h0 : RR M0 N0) (hR : RS (gS M0 4) (N0 6) n s) (hr : r < n) (hq : q < 8) (hat : a + t ≤ 40) (hit : ∀ k, k < 40 → M0 (142 + 2 * q + 1) k = N0 3 (40 * q + k)) {y : Int32} : ∀ (k fu v : Nat) (M N : Mem) (P : Nat → Bool), v + k = 2 + 1 → 0 ≤ v → k < fu → kpM M0 M → kpN N0 N → ∃ (rr : Int32) (M1 : Mem) (j : Nat) (N1 : Mem), j < 4096 ∧ rr = nI j ∧ fX5_speedsThatFit_l6 (nI r) (142 + 2 * q) (nI a) (nI t) fu (nI (bN P v)) (nI v) M = some (rr, M1) ∧ fX6_fits_l153 (nI r) y (nI a) (nI t) 2 fu (nI (bN P v)) (nI (40 * q + a)) 2 on0 (nI v) N = bdI (fX6_ends rr N1) (fun r2 M4 => some ((r2 : Int32), M4)) ∧ kpM M0 M1 ∧ kpN N0 N1 := by
  have hn := hR.1.2.2
  intro k
  induction k with
  | zero =>
    intro fu v M N P hv hlo hf hM hN
    obtain ⟨f, rfl, -⟩ := fs hf
    have cc : (2 : Int32) < nI v := nI_lt (a := 2) (by omega) (by omega)
    have hb : bN P v < 4096 := Nat.lt_of_lt_of_le (bN_lt P v) (Nat.pow_le_pow_right (by omega) (by omega) : 2 ^ v ≤ 2 ^ 12)
    refine ⟨nI (bN P v), M, bN P v, N, hb, rfl, ?_, ?_, hM, hN⟩
    · simp only [fX5_speedsThatFit_l6, fX5_speedsThatFit_b6, if_pos cc]
    · simp only [fX6_fits_l153, fX6_fits_b153, if_pos cc]
  | succ k ih =>
    intro fu v M N P hv hlo hf hM hN
    obtain ⟨f, rfl, hf'⟩ := fs hf
    have cc : ¬ (2 : Int32) < nI v := nI_nlt (a := 2) (by omega) (by omega)
    obtain ⟨M1, N1, g1, g2, hF⟩ := FR_start hM hN hR
    have hF2 := hF.speed (v := nI v) (by
      have : v = 0 ∨ v = 1 ∨ v = 2 := by omega
      rcases this with rfl | rfl | rfl
      · exact Or.inl rfl
      · exact Or.inr (Or.inl rfl)
      · exact Or.inr (Or.inr rfl))
    obtain ⟨b, M2, N2, g3, g4, hk1, hk2⟩ := fit hr hq rfl hat hit hF2
    have hP : bN P v = bN (fun i => if i = v then b else P i) v := bN_congr v (fun i hi => by rw [if_neg (by omega)])
    have hor := or_b2i (P := fun i => if i = v then b else P i) (i := v) (by omega)
    simp only [if_true] at hor
    rw [hP]
    obtain ⟨rr, M3, j, N3, hj, er, q1, q2, q3, q4⟩ := ih f (v + 1) M2 N2 (fun i => if i = v then b else P i) (by omega) (by omega) (by omega) hk1 hk2
    refine ⟨rr, M3, j, N3, hj, er, ?_, ?_, q3, q4⟩
    · simp only [fX5_speedsThatFit_l6, fX5_speedsThatFit_b6, if_neg cc, g1, bdV_s, chk_of (bIn_n (show r < 7 by omega) (by decide)), nc (show r < 2 ^ 31 by omega), g3, bdI_s, o1_b, bdP_s, hor, n1a]
      exact q1
    · simp only [fX6_fits_l153, fX6_fits_b153, fX6_fits_b202, fX6_fits_b237, fX6_fits_b241, fX6_fits_b242, fX6_fits_b279, fX6_fits_b280, if_neg cc, g2, bdV_s, show ¬ (1 : Int32) = 0 by decide, show ¬ (2 : Int32) = 0 by decide, show ¬ (2 : Int32) = 1 by decide, show (0 : Int32) < 3 by decide, show (1 : Int32) < 3 by decide, show (2 : Int32) < 3 by decide, i10, if_true, if_false, n9a, n18a, n2a, chk_of q1_25, c1_, g4, bdI_s, b2i_0, n1a]
      cases b with
      | false =>
        rw [b2i_f, shl_0 v (by omega), or_0] at hor
        simp only [if_true, or_0]
        rw [hor]
        exact q2
      | true =>
        rw [b2i_t] at hor
        simp only [Bool.true_eq_false, if_false]
        rw [hor]
        exact q2
theorem fit_starts {n s r q a t : Nat} {M0 N0 : Mem} (h0 : RR M0 N0) (hR : RS (gS M0 4) (N0 6) n s) (hr : r < n) (hq : q < 8) (hat : a + t ≤ 40) (hit : ∀ k, k < 40 → M0 (142 + 2 * q + 1) k = N0 3 (40 * q + k)) {y : Int32} : ∀ (k fu v : Nat) (M N : Mem) (P : Nat → Bool), v + k = s → k < fu → kpM M0 M → kpN N0 N → ∃ (rr : Int32) (M1 : Mem) (j : Nat) (N1 : Mem), j < 4096 ∧ rr = nI j ∧ fX5_startsThatFit_l19 (nI r) (142 + 2 * q) (nI a) (nI t) fu (nI (bN P v)) (nI v) M = some (rr, M1) ∧ fX6_fits_l153 (nI r) y (nI a) (nI t) 3 fu (nI (bN P v)) (nI (40 * q + a)) (nI s - 1) 1 (nI v) N = bdI (fX6_ends rr N1) (fun r2 M4 => some ((r2 : Int32), M4)) ∧ kpM M0 M1 ∧ kpN N0 N1 := by
  have hn := hR.1.2.2
  have hs := hR.2.1.2.2.1
  intro k
  induction k with
  | zero =>
    intro fu v M N P hv hf hM hN
    obtain ⟨f, rfl, -⟩ := fs hf
    have e : v = s := by omega
    subst e
    have c1 : nI v ≤ nI v := Int32.le_refl _
    have cc : nI v - 1 < nI v := (sub1_lt hs).mpr c1
    have hb : bN P v < 4096 := Nat.lt_of_lt_of_le (bN_lt P v) (Nat.pow_le_pow_right (by omega) (by omega) : 2 ^ v ≤ 2 ^ 12)
    have e0 : M 4 0 = nI v := by rw [hM 4 (by omega)]; exact hR.2.1.1
    refine ⟨nI (bN P v), M, bN P v, N, hb, rfl, ?_, ?_, hM, hN⟩
    · simp only [fX5_startsThatFit_l19, fX5_startsThatFit_b19, e0, if_pos c1]
    · simp only [fX6_fits_l153, fX6_fits_b153, if_pos cc]
  | succ k ih =>
    intro fu v M N P hv hf hM hN
    obtain ⟨f, rfl, hf'⟩ := fs hf
    have c1 : ¬ nI s ≤ nI v := nI_ge (by omega) (by omega)
    have cc : ¬ nI s - 1 < nI v := fun z => c1 ((sub1_lt hs).mp z)
    have e0 : M 4 0 = nI s := by rw [hM 4 (by omega)]; exact hR.2.1.1
    have hR' : RS (gS M 4) (N 6) n s := hR.congr (fun k _ => by
      show M 4 k = M0 4 k
      rw [hM 4 (by omega)]) (fun i r _ _ _ => by
      show M (4 + i) r = M0 (4 + i) r
      rw [hM _ (by omega)]) (fun j _ => by rw [hN.1 6 (by omega) (by omega) (by omega) (by omega) (by omega)])
    have hfr : fX2_isFree (nI r) (nI v) (gS M 4) = some (b2i (fr n (rK (N 6)) (rL (N 6)) (rA (N 6)) r (nI v) (N 6 (9 + r)))) := by
      rw [X2_isFree hR'.1.1 hn (by omega), hR'.fr hr, show gS M 4 2 r = N 6 (9 + r) from (hR'.2.2.2.2 r hr).1.2.1]
    obtain ⟨M1, N1, g1, g2, hF⟩ := FR_start hM hN hR
    have e16 : N1 6 = N 6 := by rw [hF.2.1.1 6 (by omega) (by omega) (by omega) (by omega) (by omega), hN.1 6 (by omega) (by omega) (by omega) (by omega) (by omega)]
    have hfr2 : fX6_isFree (nI r) (nI v) (N 6 (9 + r)) (gC N1 6) = some (b2i (fr n (rK (N 6)) (rL (N 6)) (rA (N 6)) r (nI v) (N 6 (9 + r)))) := by
      have := X6_isFree (M := gC N1 6) (n := n) (r := r) (st := nI v) (ln := N 6 (9 + r)) (by show N1 6 17 = nI n; rw [e16]; exact hR'.1.2.1) hn (by omega)
      rw [this]
      show some (b2i (fr n (rK (N1 6)) (rL (N1 6)) (rA (N1 6)) r (nI v) (N 6 (9 + r)))) = _
      rw [e16]
    have hF2 := hF.at (q := r) (v := nI v) (by omega) (Or.inr (Or.inr ⟨v, by omega, rfl⟩))
    obtain ⟨b, M2, N2, g3, g4, hk1, hk2⟩ := fit hr hq rfl hat hit hF2
    by_cases hfree : fr n (rK (N 6)) (rL (N 6)) (rA (N 6)) r (nI v) (N 6 (9 + r)) = true
    · rw [hfree] at hfr hfr2
      have hP : bN P v = bN (fun i => if i = v then b else P i) v := bN_congr v (fun i hi => by rw [if_neg (by omega)])
      have hor := or_b2i (P := fun i => if i = v then b else P i) (i := v) (by omega)
      simp only [if_true] at hor
      rw [hP]
      obtain ⟨rr, M3, j, N3, hj, er, q1, q2, q3, q4⟩ := ih f (v + 1) M2 N2 (fun i => if i = v then b else P i) (by omega) (by omega) hk1 hk2
      refine ⟨rr, M3, j, N3, hj, er, ?_, ?_, q3, q4⟩
      · simp only [fX5_startsThatFit_l19, fX5_startsThatFit_b19, fX5_startsThatFit_b86, e0, if_neg c1, hfr, bdP_s, b2i_t, i10, if_false, g1, bdV_s, chk_of (bIn_n (show r < 7 by omega) (by decide)), nc (show r < 2 ^ 31 by omega), g3, bdI_s, o1_b, hor, n1a]
        exact q1
      · simp only [fX6_fits_l153, fX6_fits_b153, fX6_fits_b202, fX6_fits_b237, fX6_fits_b241, fX6_fits_b242, fX6_fits_b279, fX6_fits_b280, if_neg cc, g2, bdV_s, show ¬ (3 : Int32) = 0 by decide, show ¬ (3 : Int32) = 1 by decide, show ¬ (3 : Int32) = 2 by decide, show ¬ (3 : Int32) < 3 by decide, i10, if_true, if_false, n9a, n2a, chk_of (bIn_n (show 9 + r < 25 by omega) (by decide)), nc (show 9 + r < 2 ^ 31 by omega), chk_of (bIn_n (show 2 + r < 25 by omega) (by decide)), nc (show 2 + r < 2 ^ 31 by omega), e16, hfr2, bdP_s, b2i_t, g4, bdI_s, b2i_0, n1a]
        cases b with
        | false =>
          rw [b2i_f, shl_0 v (by omega), or_0] at hor
          simp only [if_true, or_0]
          rw [hor]
          exact q2
        | true =>
          rw [b2i_t] at hor
          simp only [Bool.true_eq_false, if_false]
          rw [hor]
          exact q2
    · rw [Bool.not_eq_true] at hfree
      rw [hfree] at hfr hfr2
      have hP : bN P v = bN (fun i => if i = v then false else P i) (v + 1) := by
        show _ = bN (fun i => if i = v then false else P i) v + (if (if v = v then false else P v) = true then 2 ^ v else 0)
        rw [if_pos rfl, if_neg (by decide), Nat.add_zero]
        exact bN_congr v (fun i hi => by rw [if_neg (by omega)])
      rw [hP]
      obtain ⟨rr, M3, j, N3, hj, er, q1, q2, q3, q4⟩ := ih f (v + 1) M (mp N1 11 (2 + r) (nI v)) (fun i => if i = v then false else P i) (by omega) (by omega) hM (hF.2.1.tr kpN_mp)
      refine ⟨rr, M3, j, N3, hj, er, ?_, ?_, q3, q4⟩
      · simp only [fX5_startsThatFit_l19, fX5_startsThatFit_b19, fX5_startsThatFit_b86, e0, if_neg c1, hfr, bdP_s, b2i_f, if_true, n1a]
        exact q1
      · simp only [fX6_fits_l153, fX6_fits_b153, fX6_fits_b202, fX6_fits_b237, fX6_fits_b241, fX6_fits_b242, fX6_fits_b279, fX6_fits_b280, if_neg cc, g2, bdV_s, show ¬ (3 : Int32) = 0 by decide, show ¬ (3 : Int32) = 1 by decide, show ¬ (3 : Int32) = 2 by decide, show ¬ (3 : Int32) < 3 by decide, i10, if_true, if_false, n9a, n2a, chk_of (bIn_n (show 9 + r < 25 by omega) (by decide)), nc (show 9 + r < 2 ^ 31 by omega), chk_of (bIn_n (show 2 + r < 25 by omega) (by decide)), nc (show 2 + r < 2 ^ 31 by omega), e16, hfr2, bdP_s, b2i_f, or_0, n1a]
        exact q2
theorem fit_off {n s r q a t : Nat} {M0 N0 : Mem} (hR : RS (gS M0 4) (N0 6) n s) (hr : r < n) {y : Int32} : ∀ (k fu v : Nat) (N : Mem), v + k = s → k < fu → kpN N0 N → ∃ N1, fX6_fits_l153 (nI r) y (nI a) (nI t) 3 fu 0 (nI (40 * q + a)) (nI s - 1) 0 (nI v) N = bdI (fX6_ends 0 N1) (fun r2 M4 => some ((r2 : Int32), M4)) ∧ kpN N0 N1 := by
  have hn := hR.1.2.2
  have hs := hR.2.1.2.2.1
  intro k
  induction k with
  | zero =>
    intro fu v N hv hf hN
    obtain ⟨f, rfl, -⟩ := fs hf
    have e : v = s := by omega
    subst e
    have cc : nI v - 1 < nI v := (sub1_lt hs).mpr (Int32.le_refl _)
    refine ⟨N, ?_, hN⟩
    simp only [fX6_fits_l153, fX6_fits_b153, if_pos cc]
  | succ k ih =>
    intro fu v N hv hf hN
    obtain ⟨f, rfl, hf'⟩ := fs hf
    have c1 : ¬ nI s ≤ nI v := nI_ge (by omega) (by omega)
    have cc : ¬ nI s - 1 < nI v := fun z => c1 ((sub1_lt hs).mp z)
    obtain ⟨w, g2, -⟩ := X6_starts N
    obtain ⟨N1, q1, q2⟩ := ih f (v + 1) (mp (va_up N 11 w) 11 (2 + r) (nI v)) (by omega) (by omega) ((hN.tr kpN_11).tr kpN_mp)
    refine ⟨N1, ?_, q2⟩
    simp only [fX6_fits_l153, fX6_fits_b153, fX6_fits_b202, fX6_fits_b237, fX6_fits_b241, fX6_fits_b242, fX6_fits_b279, fX6_fits_b280, if_neg cc, g2, bdV_s, show ¬ (3 : Int32) = 0 by decide, show ¬ (3 : Int32) = 1 by decide, show ¬ (3 : Int32) = 2 by decide, show ¬ (3 : Int32) < 3 by decide, i10, if_true, if_false, n2a, chk_of (bIn_n (show 2 + r < 25 by omega) (by decide)), nc (show 2 + r < 2 ^ 31 by omega), or_0, n1a]
    exact q1
theorem q_fits (x y z u v : Int32) : EqI (fX5_fits x y z u v) (fX6_fits x y z u v) := fun M N h => by
  obtain ⟨n, s, hR, ha⟩ := h.1
  have e1 : M 4 3 = nI n := hR.1.1
  have hn := hR.1.2.2
  unfold fX5_fits fX6_fits
  simp only [X5_noRider e1, X6_isRider hR.1.2.1, X5_noRow, X6_isRow, X5_outside, X6_inB, bdP_s]
  by_cases hb : inB x 0 (nI n - 1) = true
  · obtain ⟨r, hr, rfl⟩ := inB_r (by omega) hb
    simp only [hb, Bool.not_true, Bool.not_false, b2i_f, b2i_t, i10, eq_self, if_true, if_false]
    by_cases hb2 : inB y 0 7 = true
    · obtain ⟨q, hq, rfl⟩ := inB_n (k := 7) (by decide) hb2
      simp only [hb2, Bool.not_true, Bool.not_false, b2i_f, b2i_t, i10, eq_self, if_true, if_false]
      by_cases hb3 : inB u 1 12 = true
      · simp only [hb3, Bool.not_true, Bool.not_false, b2i_f, b2i_t, i10, eq_self, if_true, if_false]
        by_cases hb4 : inB v 0 3 = true
        · simp only [hb4, Bool.not_true, Bool.not_false, b2i_f, b2i_t, i10, eq_self, if_true, if_false, chk_of (bIn_n (show q < 8 by omega) (by decide)), nc (show q < 2 ^ 31 by omega), X5_found, X6_ends_1, X6_ends_2]
          rcases h.2.2.2.2.1 q (by omega) with ⟨e1', e2⟩ | ⟨e1', e2, e3, ⟨k, hk, e4⟩, e5, e6⟩
          · rw [e1', e2, if_neg i10, if_neg (by decide)]
            simp only [bdI_s]
            exact ⟨_, _, _, rfl, rfl, h.fin 1⟩
          · rw [e1', if_pos rfl, if_pos (show (0 : Int32) ≤ N 1 q by rw [e4]; exact nI_pos' (by omega)), X1_holds (e2.trans e4) hk, X6_lies (by omega) e4 hk]
            simp only [bdP_s]
            by_cases hh : hold k z u = true
            · obtain ⟨a, t, rfl, rfl, hab⟩ := hold_n hh
              rw [hh, b2i_t, if_neg i10, if_neg i10]
              have hit : ∀ k, k < 40 → M (142 + 2 * q + 1) k = N 3 (40 * q + k) := e6
              have hoA := (hR.2.2.2.2 r hr).2.2.1
              have eon : N 6 (2 + r) = gS M 4 3 r := (hR.2.2.2.2 r hr).1.2.2.symm
              have hfin : ∀ (rr : Int32) (j : Nat) (M1 N1 : Mem) (f g : Option (Int32 × Mem)), rr = nI j → j < 4096 → f = some (rr, M1) → g = bdI (fX6_ends rr N1) (fun r2 M4 => some ((r2 : Int32), M4)) → kpM M M1 → kpN N N1 → ∃ r' M' N', (bdI f (fun r19 M21 => bdI (fX5_fine r19 M21) (fun r22 M24 => some ((r22 : Int32), M24)))) = some (r', M') ∧ g = some (r', N') ∧ RR M' N' := by
                intro rr j M1 N1 f g er hj hf hg k1 k2
                rw [hf, hg, er]
                exact h.fit k1 k2 (by omega)
              simp only [nI_40, fX6_fits_b94, fX6_fits_b134, n2a, chk_of (bIn_n (show 2 + r < 25 by omega) (by decide)), nc (show 2 + r < 2 ^ 31 by omega), X6_isOn, bdP_s]
              by_cases v0 : v = 0
              · subst v0
                simp only [if_true]
                obtain ⟨rr, M1, j, N1, hj, er, q1, q2, q3, q4⟩ := fit_kinds (on0 := b2i (on (N 6 (2 + r)))) (y := nI q) h hR hr (show q < 8 by omega) (show a + t ≤ 40 by omega) hit 5 FU 1 M N (fun _ => false) (by omega) (by omega) (by have := FU_eq; omega) kpM.rf kpN.rf
                exact hfin rr j M1 N1 _ _ er hj q1 q2 q3 q4
              · by_cases v1 : v = 1
                · subst v1
                  simp only [i10, if_true, if_false]
                  obtain ⟨rr, M1, j, N1, hj, er, q1, q2, q3, q4⟩ := fit_lanes (on0 := b2i (on (N 6 (2 + r)))) (y := nI q) h hR hr (show q < 8 by omega) (show a + t ≤ 40 by omega) hit 2 FU 0 M N (fun _ => false) (by omega) (by omega) (by have := FU_eq; omega) kpM.rf kpN.rf
                  exact hfin rr j M1 N1 _ _ er hj q1 q2 q3 q4
                · by_cases v2 : v = 2
                  · subst v2
                    simp only [show ¬ (2 : Int32) = 0 by decide, show ¬ (2 : Int32) = 1 by decide, if_true, if_false]
                    obtain ⟨rr, M1, j, N1, hj, er, q1, q2, q3, q4⟩ := fit_speeds (on0 := b2i (on (N 6 (2 + r)))) (y := nI q) h hR hr (show q < 8 by omega) (show a + t ≤ 40 by omega) hit 3 FU 0 M N (fun _ => false) (by omega) (by omega) (by have := FU_eq; omega) kpM.rf kpN.rf
                    exact hfin rr j M1 N1 _ _ er hj q1 q2 q3 q4
                  · have v3 : v = 3 := by
                      obtain ⟨w, hw, rfl⟩ := inB_n (k := 3) (by decide) hb4
                      have : w ≠ 0 := fun e => v0 (by rw [e]; rfl)
                      have : w ≠ 1 := fun e => v1 (by rw [e]; rfl)
                      have : w ≠ 2 := fun e => v2 (by rw [e]; rfl)
                      have : w = 3 := by omega
                      rw [this]; rfl
                    subst v3
                    simp only [show ¬ (3 : Int32) = 0 by decide, show ¬ (3 : Int32) = 1 by decide, show ¬ (3 : Int32) = 2 by decide, if_true, if_false, chk_of q16, c16, hR.2.1.2.1]
                    have hon := X2_isOn (m := gS M 4) hR.2.1.1 hR.2.1.2.2.1 (show r < 7 by omega) (by rw [← eon]; exact hoA)
                    rw [← eon] at hon
                    unfold fX5_startsThatFit
                    rw [hon]
                    simp only [bdP_s]
                    by_cases ho : on (N 6 (2 + r)) = true
                    · rw [ho, b2i_t, if_neg i10]
                      obtain ⟨rr, M1, j, N1, hj, er, q1, q2, q3, q4⟩ := fit_starts (y := nI q) h hR hr (show q < 8 by omega) (show a + t ≤ 40 by omega) hit s FU 0 M N (fun _ => false) (by omega) (by have := FU_eq; have := hR.2.1.2.2.1; omega) kpM.rf kpN.rf
                      exact hfin rr j M1 N1 _ _ er hj q1 q2 q3 q4
                    · rw [Bool.not_eq_true] at ho
                      rw [ho, b2i_f, if_pos rfl]
                      obtain ⟨N1, q1, q2⟩ := fit_off (q := q) (a := a) (t := t) (y := nI q) hR hr s FU 0 N (by omega) (by have := FU_eq; have := hR.2.1.2.2.1; omega) kpN.rf
                      exact hfin 0 0 M N1 _ _ rfl (by omega) rfl q1 kpM.rf q2
            · rw [Bool.not_eq_true] at hh
              rw [hh, b2i_f, if_pos rfl, if_pos rfl]
              simp only [bdI_s]
              exact ⟨_, _, _, rfl, rfl, h.fin 2⟩
        · rw [Bool.not_eq_true] at hb4
          simp only [hb4, Bool.not_true, Bool.not_false, b2i_f, b2i_t, i10, eq_self, if_true, if_false]
          exact ⟨_, M, N, rfl, rfl, h⟩
      · rw [Bool.not_eq_true] at hb3
        simp only [hb3, Bool.not_true, Bool.not_false, b2i_f, b2i_t, i10, eq_self, if_true, if_false]
        exact ⟨_, M, N, rfl, rfl, h⟩
    · rw [Bool.not_eq_true] at hb2
      simp only [hb2, Bool.not_true, Bool.not_false, b2i_f, b2i_t, i10, eq_self, if_true, if_false]
      exact ⟨_, M, N, rfl, rfl, h⟩
  · rw [Bool.not_eq_true] at hb
    simp only [hb, Bool.not_true, Bool.not_false, b2i_f, b2i_t, i10, eq_self, if_true, if_false]
    exact ⟨_, M, N, rfl, rfl, h⟩
