/-! absent: one set, then all -/
theorem ab_try {M0 N0 M N : Mem} {n s Q c r t z : Nat} {p4 : Int32} (hR : RS (gS M0 4) (N0 6) n s) (hM : kpM M0 M) (hN : kpN N0 N) (hQe : Q = bN (fun r => decide (rA (N0 6) r = -1)) n) (hc : c < 128) (hs : sub c Q = true) (hr : r < n) (ht : t < 900) (hz : z ≤ 10) : ∃ (b : Bool) (M1 m2 m3 N1 N' : Mem) (o : Int32), fX2_become 134 4 M = some M1 ∧ fX2_takeOff (nI c) (gS M1 134) = some m2 ∧ fX2_passUntilOff (nI r) (nI t) (gS (pS M1 134 m2) 134) = some (o, m3) ∧ (o = -1000000 ↔ b = false) ∧ fX6_starts N = some N1 ∧ (∀ k56 x6 x7, fX6_absent_l90 (nI r) (nI t) (nI z) p4 k56 FU (nI Q) x6 x7 (nI c) 1 0 N1 = k56 (nI Q) (x6 + (if b = true then nI (pwA Q c z n) else 0)) x7 (nI (c + 1)) N') ∧ kpM M0 (pS (pS M1 134 m2) 134 m3) ∧ kpN N0 N' := by
  obtain ⟨M1, N1, g1, g2, hF⟩ := FR_start hM hN hR
  have hn := hR.1.2.2
  have h2n : 2 ^ n ≤ 128 := (Nat.pow_le_pow_right (by omega) hn : 2 ^ n ≤ 2 ^ 7)
  have hQn : Q < 2 ^ n := by rw [hQe]; exact bN_lt _ n
  have hQ8 : Q < 128 := by omega
  obtain ⟨-, hsb⟩ := sb_all hQ8 hc hs
  have e17 : N1 6 17 = nI n := by rw [hF.2.1.1 6 (by omega) (by omega) (by omega) (by omega) (by omega)]; exact hR.1.2.1
  obtain ⟨w0, g0, hw0⟩ := X6_starts N
  have e11 : ∀ j, j < 25 → N1 11 j = N0 6 j := fun j hj => by
    have : N1 = va_up N 11 w0 := by rw [g2] at g0; exact Option.some.inj g0
    rw [this, va_up_self, hw0 j hj, hN.1 6 (by omega) (by omega) (by omega) (by omega) (by omega)]
  have hq : ∀ r, r < n → tb Q r = true → N1 11 (2 + r) = -1 := fun r hr h => by
    rw [hQe, bN_tb n hn hr] at h
    rw [e11 _ (by omega)]
    exact of_decide_eq_true h
  have hab := fun k56 x6 x7 => ab_l90 (N := N1) (p1 := nI r) (p2 := nI t) (p4 := p4) (x6 := x6) (x7 := x7) (k56 := k56) e17 hn hQ8 hc hz hsb hq n FU 0 (N1 11) (by omega) (by have := FU_eq; omega) (fun r hr => by omega) (fun _ _ => rfl)
  obtain ⟨w, -, hw1, hw2⟩ := hab (fun _ _ _ _ _ => none) 0 0
  have hRt : RS (va_up (gS M1 134) 3 (mpL n (tkO c (gS M1 134 3)) (gS M1 134 3))) w n s := hF.2.2.takes hw1 hw2
  have hF2 : FR M0 N0 (pS M1 134 (va_up (gS M1 134) 3 (mpL n (tkO c (gS M1 134 3)) (gS M1 134 3)))) (va_up N1 11 w) n s := ⟨hF.1.tr (kpM_pS (by omega)), hF.2.1.tr kpN_11, by rw [va_up_self]; exact hRt.pS⟩
  obtain ⟨m3, g3⟩ := X2_puo (b := t) hr ht hF2.2.2.okT
  obtain ⟨M', N', -, tk, hF3, hsq⟩ := FR.run t _ _ hF2
  have hoff : (N' 11 (2 + r) = 99) = (offA n s (gS (pS M1 134 (va_up (gS M1 134) 3 (mpL n (tkO c (gS M1 134 3)) (gS M1 134 3)))) 134) r t = true) := by
    have e := hsq 0
    rw [Nat.add_zero] at e
    unfold offA
    rw [← e, decide_eq_true_eq]
    have : sqM n s (gS M' 134) 0 r = N' 11 (2 + r) := (hF3.2.2.2.2.2.2 r hr).1.2.2
    rw [this]
  refine ⟨offA n s (gS (pS M1 134 (va_up (gS M1 134) 3 (mpL n (tkO c (gS M1 134 3)) (gS M1 134 3)))) 134) r t, M1, _, m3, N1, N', _, g1, X2_takeOff hF.2.2.1.1 hn hc, g3, ?_, g2, fun k56 x6 x7 => ?_, hF2.1.tr (kpM_pS (by omega)), hF3.2.1⟩
  · have hm := ff_mono (sqM_99 (r := r) hF2.2.2.okT) t 0
    rw [Nat.zero_add] at hm
    rw [← hm]
    cases hff : ff (offA n s (gS (pS M1 134 (va_up (gS M1 134) 3 (mpL n (tkO c (gS M1 134 3)) (gS M1 134 3)))) 134) r) (t + 1) 0 with
    | none => simp [oI_none]
    | some j =>
      have hj := ff_lt (t + 1) 0 j hff
      rw [oI_some]
      simp [oI_ne (show j < 2 ^ 31 by omega)]
  · obtain ⟨w', g5, h1', h2'⟩ := hab k56 x6 x7
    rw [va_up_eta] at g5
    have ew : w' = w := by
      funext j
      by_cases hj : j < 2 ∨ 2 + n ≤ j
      · rw [h2' j hj, hw2 j hj]
      · have : j = 2 + (j - 2) := by omega
        rw [this, h1' (j - 2) (by omega), hw1 (j - 2) (by omega)]
    rw [ew] at g5
    have p0 : nI (pwA Q c z 0) = 1 := rfl
    rw [p0] at g5
    refine Eq.trans g5 ?_
    unfold fX6_absent_b166
    rw [show (0 : Int32) = nI 0 from rfl, ab_l169 ht t FU 0 _ N' (by omega) (by have := FU_eq; omega) tk]
    simp only [fX6_absent_b189, fX6_absent_b210, fX6_absent_b213, n2a, chk_of (bIn_n (show 2 + r < 25 by omega) (by decide)), nc (show 2 + r < 2 ^ 31 by omega), n1a, hoff]
    by_cases hb : offA n s (gS (pS M1 134 (va_up (gS M1 134) 3 (mpL n (tkO c (gS M1 134 3)) (gS M1 134 3)))) 134) r t = true
    · rw [if_pos hb, if_pos hb]
    · rw [if_neg hb, if_neg hb]
      rfl
theorem ab_skip {N : Mem} {n Q : Nat} {p1 p2 p3 p4 x6 x7 : Int32} (hn : N 6 17 = nI n) (hn7 : n ≤ 7) (hQ : Q < 128) : ∀ (k fu a : Nat), a + k ≤ 2 ^ n → (∀ i, a ≤ i → i < a + k → sub i Q = false) → fX6_absent_l56 p1 p2 p3 p4 (fu + k) (nI Q) x6 x7 (nI a) N = fX6_absent_l56 p1 p2 p3 p4 fu (nI Q) x6 x7 (nI (a + k)) N := by
  intro k
  induction k with
  | zero => intro fu a _ _; rfl
  | succ k ih =>
    intro fu a ha hs
    have h2 : 2 ^ n ≤ 128 := (Nat.pow_le_pow_right (by omega) hn7 : 2 ^ n ≤ 2 ^ 7)
    have c : ¬ nI (2 ^ n) ≤ nI a := nI_ge (by omega) (by omega)
    have hsub := sub_i32 Q hQ a (by omega)
    rw [hs a (by omega) (by omega)] at hsub
    have hne : ¬ nI a &&& (nI Q ^^^ (-1)) = 0 := of_decide_eq_false hsub
    show fX6_absent_b56 p1 p2 p3 p4 (fX6_absent_l56 p1 p2 p3 p4 (fu + k)) (nI Q) x6 x7 (nI a) N = _
    simp only [fX6_absent_b56, fX6_absent_b213, chk_of q17, c17, hn, shl_n n (by omega), if_neg c, if_neg hne, n1a]
    rw [ih fu (a + 1) (by omega) (fun i h1 h3 => hs i (by omega) (by omega)), show a + 1 + k = a + (k + 1) by omega]
theorem ab_l {M0 N0 : Mem} {n s Q r t z : Nat} {p4 : Int32} (h0 : RR M0 N0) (hR : RS (gS M0 4) (N0 6) n s) (hQe : Q = bN (fun r => decide (rA (N0 6) r = -1)) n) (hr : r < n) (ht : t < 900) (hz : z ≤ 10) : ∀ (g c fu fu2 i a : Nat) (M N : Mem), 128 - c ≤ g → sub c Q = true → c < 128 → i ≤ c → 128 < fu + c → 128 < fu2 + c → kpM M0 M → kpN N0 N → a ≤ c * 10 ^ 7 → ∃ v M' N', fX5_absent_l67 (nI r) (nI t) (nI z) p4 fu (nI Q) (nI (pc7 Q)) (nI a) (nI c) (nI i) M = some (v, M') ∧ fX6_absent_l56 (nI r) (nI t) (nI z) p4 fu2 (nI Q) (nI a) 1 (nI c) N = some (v, N') ∧ RR M' N' := by
  have hn := hR.1.2.2
  have h2n : 2 ^ n ≤ 128 := (Nat.pow_le_pow_right (by omega) hn : 2 ^ n ≤ 2 ^ 7)
  have hQn : Q < 2 ^ n := by rw [hQe]; exact bN_lt _ n
  have hQ8 : Q < 128 := by omega
  intro g
  induction g with
  | zero => intro c fu fu2 i a M N h1 _ h3; omega
  | succ g ih =>
    intro c fu fu2 i a M N hg hsub hc hi hf hf2 hM hN ha
    obtain ⟨f, rfl⟩ : ∃ f, fu = f + 1 := ⟨fu - 1, by omega⟩
    obtain ⟨f2, rfl⟩ : ∃ f, fu2 = f + 1 := ⟨fu2 - 1, by omega⟩
    have hcQ := sub_le hsub
    have e17 : ∀ N' : Mem, kpN N0 N' → N' 6 17 = nI n := fun N' hN' => by rw [hN'.1 6 (by omega) (by omega) (by omega) (by omega) (by omega)]; exact hR.1.2.1
    obtain ⟨b, M1, m2, m3, N1, N', o, g1, g2, g3, g4, g5, g6, hk3, hkN⟩ := ab_try (p4 := p4) hR hM hN hQe hc hsub hr ht hz
    obtain ⟨n1, n2, n3⟩ := nx_all Q hQ8 c hc hsub
    have c1 : ¬ (128 : Int32) ≤ nI i := nI_ge (b := 128) (by omega) (by omega)
    have c2 : ¬ nI (2 ^ n) ≤ nI c := nI_ge (by omega) (by omega)
    have hsb : nI c &&& (nI Q ^^^ (-1)) = 0 := of_decide_eq_true ((sub_i32 Q hQ8 c hc).trans hsub)
    obtain ⟨hpw, hpc⟩ := pwA_n (z := z) hn hQn hc hsub
    have hpl := pwA_le (Q := Q) (c := c) hz hn
    have hpcQ : pc7 Q < 900 := by rw [pc_tb Q hQ8]; have := cN_le (tb Q) 7; omega
    have fin : ∀ a', a' ≤ (c + 1) * 10 ^ 7 → ∃ v M' N2, fX5_absent_b140 (nI r) (nI t) (nI z) p4 (fX5_absent_l67 (nI r) (nI t) (nI z) p4 f) (nI Q) (nI (pc7 Q)) (nI a') (nI c) (nI i) (pS (pS M1 134 m2) 134 m3) = some (v, M') ∧ fX6_absent_l56 (nI r) (nI t) (nI z) p4 f2 (nI Q) (nI a') 1 (nI (c + 1)) N' = some (v, N2) ∧ RR M' N2 := by
      intro a' ha'
      simp only [fX5_absent_b140, fX5_nextSubset, bdP_s, nx_i32 Q hQ8 c hc]
      have ez : (nI (nx c Q) = 0) = (nx c Q = 0) := propext (nI_eq (b := 0) (by omega) (by omega))
      by_cases hzz : nx c Q = 0
      · have hsk := ab_skip (p1 := nI r) (p2 := nI t) (p3 := nI z) (p4 := p4) (x6 := nI a') (x7 := 1) (e17 N' hkN) hn hQ8 (2 ^ n - (c + 1)) (f2 - (2 ^ n - (c + 1))) (c + 1) (by omega) (fun i h1 h3 => n3 i (by omega) (by omega) (Or.inl hzz))
        rw [show f2 - (2 ^ n - (c + 1)) + (2 ^ n - (c + 1)) = f2 by omega, show c + 1 + (2 ^ n - (c + 1)) = 2 ^ n by omega] at hsk
        obtain ⟨f3, hf3⟩ : ∃ f3, f2 - (2 ^ n - (c + 1)) = f3 + 1 := ⟨f2 - (2 ^ n - (c + 1)) - 1, by omega⟩
        rw [hsk, hf3]
        have c3 : nI (2 ^ n) ≤ nI (2 ^ n) := Int32.le_refl _
        have ea : a' < 2 ^ 31 := by omega
        have eq : cN (tb Q) n = pc7 Q := by rw [← tb_n hn hQn, pc_tb Q hQ8]
        have hp7 : pc7 Q ≤ 7 := by rw [pc_tb Q hQ8]; exact cN_le _ 7
        have hb1 : 10 ^ pc7 Q ≤ 10 ^ 7 := Nat.pow_le_pow_right (by omega) hp7
        have hb0 : 0 < 10 ^ pc7 Q := Nat.pos_of_ne_zero (by simp)
        have hb2 : 10 ^ pc7 Q < 2 ^ 24 := by omega
        have h222 := ab_l222 (N := N') (p1 := nI r) (p2 := nI t) (p3 := nI z) (p4 := p4) (x6 := nI a') (e17 N' hkN) hn hQ8 n FU 0 (by omega) (by have := FU_eq; omega)
        have h222' : fX6_absent_l222 (nI r) (nI t) (nI z) p4 FU (nI Q) (nI a') 1 0 N' = fX6_absent_b261 (nI r) (nI t) (nI z) p4 (nI a') (nI (10 ^ cN (tb Q) n)) N' := h222
        have hgd := X5_gd_l (p := nI a') (q := nI (10 ^ pc7 Q)) 24 a' (10 ^ pc7 Q) 0 FU hb2 (by omega) (by have := FU_eq; omega) ea (by omega)
        have hgd' : fX5_greatestDivisor (nI a') (nI (10 ^ pc7 Q)) = some (if nI (Nat.gcd a' (10 ^ pc7 Q)) < 1 then 1 else nI (Nat.gcd a' (10 ^ pc7 Q))) := hgd
        have hgp : 0 < Nat.gcd a' (10 ^ pc7 Q) := Nat.gcd_pos_of_pos_right _ hb0
        have hgl : Nat.gcd a' (10 ^ pc7 Q) ≤ 10 ^ pc7 Q := Nat.gcd_le_right _ hb0
        have hg1 : ¬ nI (Nat.gcd a' (10 ^ pc7 Q)) < 1 := fun h => by
          have := (nI_ltI (b := 1) (by omega) (by omega)).mp h
          omega
        have hg0 : ¬ nI (Nat.gcd a' (10 ^ pc7 Q)) = 0 := fun h => by
          have := (nI_eq (b := 0) (by omega) (by omega)).mp h
          omega
        rw [if_neg hg1] at hgd'
        have h10 : fX5_power 10 (nI (pc7 Q)) = some (nI (10 ^ pc7 Q)) := X5_power (b := 10) hpcQ
        simp only [ez, if_pos hzz, fX5_absent_b154, fX5_absent_b163, fX6_absent_l56, fX6_absent_b56, fX6_absent_b219, chk_of q17, c17, e17 N' hkN, shl_n n (show n < 8 by omega), if_pos c3, h222', eq, h10, hgd', bdP_s, fX6_absent_b261, X6_gd_l 24 a' (10 ^ pc7 Q) FU hb2 (by have := FU_eq; omega) ea (by omega), fX6_absent_b292, chk_of (decide_eq_true hg0)]
        by_cases hp : p4 = 0
        · rw [if_pos hp, if_pos hp]
          exact ⟨_, _, _, rfl, rfl, h0.keep hk3 hkN⟩
        · rw [if_neg hp, if_neg hp]
          exact ⟨_, _, _, rfl, rfl, h0.keep hk3 hkN⟩
      · simp only [ez, if_neg hzz, n1a]
        obtain ⟨hlt, hs'⟩ := n2 hzz
        have hnQ := sub_le hs'
        have hsk := ab_skip (p1 := nI r) (p2 := nI t) (p3 := nI z) (p4 := p4) (x6 := nI a') (x7 := 1) (e17 N' hkN) hn hQ8 (nx c Q - (c + 1)) (f2 - (nx c Q - (c + 1))) (c + 1) (by omega) (fun i h1 h3 => n3 i (by omega) (by omega) (Or.inr (by omega)))
        rw [show f2 - (nx c Q - (c + 1)) + (nx c Q - (c + 1)) = f2 by omega, show c + 1 + (nx c Q - (c + 1)) = nx c Q by omega] at hsk
        rw [hsk]
        exact ih (nx c Q) f (f2 - (nx c Q - (c + 1))) (i + 1) a' _ N' (by omega) hs' n1 (by omega) (by omega) (by omega) hk3 hkN (Nat.le_trans ha' (Nat.mul_le_mul_right _ (by omega)))
    show ∃ v M' N', fX5_absent_b67 (nI r) (nI t) (nI z) p4 (fX5_absent_l67 (nI r) (nI t) (nI z) p4 f) (nI Q) (nI (pc7 Q)) (nI a) (nI c) (nI i) M = some (v, M') ∧ fX6_absent_b56 (nI r) (nI t) (nI z) p4 (fX6_absent_l56 (nI r) (nI t) (nI z) p4 f2) (nI Q) (nI a) 1 (nI c) N = some (v, N') ∧ RR M' N'
    have hpo : ∀ z k, k < 900 → fX5_power (nI z) (nI k) = some (nI (z ^ k)) := fun z k hk => X5_power hk
    simp only [fX5_absent_b67, if_neg c1, g1, g2, g3, bdV_s, bdI_s, bdP_s, bitCount7 c hc, hpo z (pc7 c) (by omega), n10s hz, nI_subN hpc, hpo (10 - z) (pc7 Q - pc7 c) (by omega), pk_mul, ← hpw, nI_add, fX6_absent_b56, chk_of q17, c17, e17 N hN, shl_n n (show n < 8 by omega), if_neg c2, if_pos hsb, g5, g6]
    cases b with
    | false =>
      have ho : o = -1000000 := g4.mpr rfl
      rw [if_pos ho, if_neg (by decide)]
      have e0 : nI a + 0 = nI a := by show nI a + nI 0 = _; rw [nI_add, Nat.add_zero]
      rw [e0]
      exact fin a (Nat.le_trans ha (Nat.mul_le_mul_right _ (by omega)))
    | true =>
      have ho : ¬ o = -1000000 := fun h => by have := g4.mp h; cases this
      rw [if_neg ho, if_pos rfl, nI_add]
      exact fin (a + pwA Q c z n) (by rw [Nat.succ_mul]; exact Nat.add_le_add ha hpl)
theorem q_absent (x y u v : Int32) : EqI (fX5_absent x y u v) (fX6_absent x y u v) := fun M N h => by
  obtain ⟨n, s, hR, ha⟩ := h.1
  have e1 : M 4 3 = nI n := hR.1.1
  have hn := hR.1.2.2
  unfold fX5_absent fX6_absent
  simp only [X5_noRider e1, X6_isRider hR.1.2.1, X5_outside, X6_inB, bdP_s, hR.queue, X6_queued hR.1.2.1 hn]
  by_cases hb : inB x 0 (nI n - 1) = true
  · obtain ⟨r, hr, rfl⟩ := inB_r (by omega) hb
    simp only [hb, Bool.not_true, Bool.not_false, b2i_f, b2i_t, i10, eq_self, if_true, if_false]
    by_cases hb2 : inB y 0 60 = true
    · obtain ⟨t, ht, rfl⟩ := inB_n (k := 60) (by decide) hb2
      simp only [hb2, Bool.not_true, Bool.not_false, b2i_f, b2i_t, i10, eq_self, if_true, if_false]
      by_cases hb3 : inB u 0 10 = true
      · obtain ⟨z, hz, rfl⟩ := inB_n (k := 10) (by decide) hb3
        simp only [hb3, Bool.not_true, Bool.not_false, b2i_f, b2i_t, i10, eq_self, if_true, if_false]
        by_cases hb4 : inB v 0 1 = true
        · have hQ : bN (fun r => decide (rA (N 6) r = -1)) n < 128 := Nat.lt_of_lt_of_le (bN_lt _ n) (Nat.pow_le_pow_right (by omega) hn : 2 ^ n ≤ 2 ^ 7)
          simp only [hb4, Bool.not_true, Bool.not_false, b2i_f, b2i_t, i10, eq_self, if_true, if_false, bitCount7 _ hQ, bdP_s]
          exact ab_l (p4 := v) h hR rfl hr (by omega) hz 128 0 FU FU 0 0 M N (by omega) (sub_0 _) (by omega) (by omega) (by have := FU_eq; omega) (by have := FU_eq; omega) kpM.rf kpN.rf (by omega)
        · rw [Bool.not_eq_true] at hb4
          simp only [hb4, Bool.not_true, Bool.not_false, b2i_f, b2i_t, i10, eq_self, if_true, if_false]
          exact ⟨_, M, N, rfl, rfl, h⟩
      · rw [Bool.not_eq_true] at hb3
        simp only [hb3, Bool.not_true, Bool.not_false, b2i_f, b2i_t, i10, eq_self, if_true, if_false]
        exact ⟨_, M, N, rfl, rfl, h⟩
    · rw [Bool.not_eq_true] at hb2
      simp only [hb2, Bool.not_true, Bool.not_false, b2i_f, b2i_t, i10, eq_self, if_true, if_false]
      exact ⟨_, M, N, rfl, rfl, h⟩
  · rw [Bool.not_eq_true] at hb
    simp only [hb, Bool.not_true, Bool.not_false, b2i_f, b2i_t, i10, eq_self, if_true, if_false]
    exact ⟨_, M, N, rfl, rfl, h⟩
