/-! pace: the reference's run, then all codes -/
theorem c1b : bIn 1 25 = true := by decide
theorem inB_lo {x : Int32} {k : Nat} (hk : k < 2 ^ 31) (h : inB x 1 (nI k) = true) : ∃ j, 1 ≤ j ∧ j ≤ k ∧ x = nI j := by
  unfold inB at h
  simp only [Bool.and_eq_true, Bool.not_eq_true', decide_eq_false_iff_not] at h
  have h1 := h.1
  have h2 := h.2
  rw [Int32.lt_iff_toInt_lt] at h1 h2
  rw [nI_toInt hk] at h2
  have e1 : (1 : Int32).toInt = 1 := by decide
  rw [e1] at h1
  refine ⟨x.toInt.toNat, by omega, by omega, ?_⟩
  apply Int32.toInt_inj.mp
  rw [nI_toInt (by omega)]
  omega
theorem pace_run {M0 N0 : Mem} {n s t code : Nat} {p1 p3 x4 x5 x6 : Int32} {k61 : Int32 → Int32 → Int32 → Int32 → Mem → Option (Int32 × Mem)} (ok : okT (gS M0 4) n s) (ht : t ≤ 6) (hc : code < 729) : ∀ (k fu j : Nat) (Mg N : Mem), j + k = t → k < fu → FR M0 N0 Mg N n s → LV (gS M0 4) n s (fun i => nI (dgN code t i)) j (gS Mg 134) → ∃ N', fX6_pace_l82 p1 (nI t) p3 k61 fu x4 x5 x6 (nI code) (nI (3 ^ (t - j))) (nI (smN (dgN code t) j)) (nI j) N = fX6_pace_b132 p1 (nI t) p3 k61 x4 x5 x6 (nI code) (nI (smN (dgN code t) t)) N' ∧ kpN N0 N' ∧ ∀ r, r < n → N' 11 (2 + r) = lv (gS M0 4) n s (fun i => nI (dgN code t i)) t r := by
  intro k
  induction k with
  | zero =>
    intro fu j Mg N hj hf hF hL
    obtain ⟨f, rfl, -⟩ := fs hf
    have c : nI t ≤ nI j := nI_le (by omega) (by omega)
    have e : j = t := by omega
    subst e
    refine ⟨N, by simp only [fX6_pace_l82, fX6_pace_b82, if_pos c], hF.2.1, fun r hr => ?_⟩
    rw [← hL.2.2.2 r hr]
    exact (hF.2.2.2.2.2.2 r hr).1.2.2.symm
  | succ k ih =>
    intro fu j Mg N hj hf hF hL
    obtain ⟨f, rfl, hf'⟩ := fs hf
    have c : ¬ nI t ≤ nI j := nI_ge (by omega) (by omega)
    have hd : ∀ i, s012 (nI (dgN code t i)) := fun i => dg_012 code t i
    have hF1 := hF.speed (hd j)
    obtain ⟨m', N', g1, g2, hF2, -⟩ := hF1.tick
    have e1 : gS (mp Mg 134 1 (nI (dgN code t j))) 134 = mp (gS Mg 134) 0 1 (nI (dgN code t j)) := gS_mp (c := 134) (i := 0)
    have hL1 : LV (gS M0 4) n s (fun i => nI (dgN code t i)) j (gS (mp Mg 134 1 (nI (dgN code t j))) 134) := by rw [e1]; exact hL.sp
    obtain ⟨r1, m1, g3, hL2⟩ := LV_pass ok hd hL1 (by
      rw [e1]
      show (mp (gS Mg 134) 0 1 (nI (dgN code t j))) 0 1 = _
      rw [mp_at, va_up_self, upd_s])
    have em : m1 = m' := by
      rw [g3] at g1
      exact (Prod.mk.inj (Option.some.inj g1)).2
    rw [em] at hL2
    obtain ⟨N2, g4, q1, q2⟩ := ih f (j + 1) _ N' (by omega) (by omega) hF2 hL2.pS
    refine ⟨N2, ?_, q1, q2⟩
    have h3j : 3 ^ (t - j) ≤ 729 := Nat.le_trans (Nat.pow_le_pow_right (by omega) (show t - j ≤ 6 by omega)) (by decide)
    have h3j' : 3 ^ (t - (j + 1)) ≤ 729 := Nat.le_trans (Nat.pow_le_pow_right (by omega) (show t - (j + 1) ≤ 6 by omega)) (by decide)
    have hp : 0 < 3 ^ (t - (j + 1)) := Nat.pos_of_ne_zero (by simp)
    have e3 : (3 : Int32) = nI 3 := rfl
    have ed : nI (3 ^ (t - j)) / 3 = nI (3 ^ (t - (j + 1))) := by
      rw [e3, pk_div (by omega) (by omega) (by omega), show t - j = (t - (j + 1)) + 1 by omega, Nat.pow_succ, Nat.mul_div_cancel _ (by omega)]
    have hle : code / 3 ^ (t - (j + 1)) ≤ code := Nat.div_le_self _ _
    have eq : nI code / nI (3 ^ (t - (j + 1))) = nI (code / 3 ^ (t - (j + 1))) := pk_div (by omega) hp (by omega)
    have er : nI (code / 3 ^ (t - (j + 1))) - nI (code / 3 ^ (t - (j + 1))) / 3 * 3 = nI (dgN code t j) := by
      rw [e3, pk_rem (by omega) (by omega) (by omega)]
      unfold dgN
      rw [show t - 1 - j = t - (j + 1) by omega]
    have hnz : ¬ nI (3 ^ (t - (j + 1))) = 0 := fun h => by
      have := (nI_eq (b := 0) (by omega) (by omega)).mp h
      omega
    have e11 : (mp N 11 1 (nI (dgN code t j))) 11 1 = nI (dgN code t j) := by rw [mp_at, va_up_self, upd_s]
    simp only [fX6_pace_l82, fX6_pace_b82, if_neg c, ed, eq, er, chk_of (decide_eq_true hnz), chk_of c1b, c1_, g2, bdV_s, e11, nI_add, n1a]
    exact g4
theorem cpyB : ∀ t, t ≤ 6 → (!decide ((0 : Int32) < 0) && !decide ((0 : Int32) < 0) && !decide (nI t < 0) && decide (0 + t ≤ 6) && decide (0 + t ≤ 6)) = true := by decide +kernel
def pO (t : Nat) : Option Nat → Int32
  | some b => nI (smN (dgN b t) t)
  | none => -1000000
def pX (t : Nat) : Option Nat → Int32
  | some b => nI (smN (dgN b t) t)
  | none => 99
theorem smN_12 {b t : Nat} (ht : t ≤ 6) : smN (dgN b t) t ≤ 12 := by
  have := smN_le (d := dgN b t) (fun i => dg_2 b t i) t
  omega
theorem pace_l {M0 N0 : Mem} {n s r t : Nat} {p3 : Int32} (hR : RS (gS M0 4) (N0 6) n s) (hr : r < n) (ht : t ≤ 6) : ∀ (k fu fu2 code : Nat) (M N : Mem) (o : Option Nat), code + k = 3 ^ t → k < fu → k < fu2 → kpM M0 M → kpN N0 N → (∀ i, i ≤ (if code = 0 then 0 else t) → LV (gS M0 4) n s (M 140) i (gS M (168 + 5 * i))) → (∀ b, o = some b → b < 3 ^ t ∧ ∀ i, i < t → M 141 i = nI (dgN b t i)) → ∃ (o' : Option Nat) (M' N' : Mem), fX5_findPaces_l26 (nI r) (nI t) fu (pO t o) (nI (3 ^ t)) (nI code) M = some (pO t o', M') ∧ fX6_pace_l61 (nI r) (nI t) p3 fu2 (nI (3 ^ t)) (oI o) (pX t o) (nI code) N = fX6_pace_b193 (nI r) (nI t) p3 (oI o') (pX t o') N' ∧ kpM M0 M' ∧ kpN N0 N' ∧ (∀ b, o' = some b → b < 3 ^ t ∧ ∀ i, i < t → M' 141 i = nI (dgN b t i)) := by
  have h3t : 3 ^ t ≤ 729 := (Nat.pow_le_pow_right (by omega) ht : 3 ^ t ≤ 3 ^ 6)
  have ok := hR.okT
  have hn := hR.1.2.2
  intro k
  induction k with
  | zero =>
    intro fu fu2 code M N o hk hf hf2 hM hN _ ho
    obtain ⟨f, rfl, -⟩ := fs hf
    obtain ⟨f2, rfl, -⟩ := fs hf2
    have c : nI (3 ^ t) ≤ nI code := nI_le (by omega) (by omega)
    exact ⟨o, M, N, by simp only [fX5_findPaces_l26, fX5_findPaces_b26, if_pos c], by simp only [fX6_pace_l61, fX6_pace_b61, if_pos c], hM, hN, ho⟩
  | succ k ih =>
    intro fu fu2 code M N o hk hf hf2 hM hN hlev ho
    obtain ⟨f, rfl, hf'⟩ := fs hf
    obtain ⟨f2, rfl, hf2'⟩ := fs hf2
    have c : ¬ nI (3 ^ t) ≤ nI code := nI_ge (by omega) (by omega)
    obtain ⟨fi, w, g1, a1, a2, a3, a4⟩ := wp (M := M) (code := code) ht (by omega)
    -- the levels that stand
    have hst : ∀ i, i ≤ fi → LV (gS M0 4) n s (fun i => nI (dgN code t i)) i (gS (va_up M 140 w) (168 + 5 * i)) := fun i hi => by
      have hi2 : i ≤ (if code = 0 then 0 else t) := by
        by_cases h0 : code = 0
        · rw [if_pos h0]; have := a2 h0; omega
        · rw [if_neg h0]; omega
      have h1 := (hlev i hi2).d (d' := fun i => nI (dgN code t i)) (fun x hx => by rw [← a4 x (by omega)]; exact a3 x (by omega))
      have hg : ∀ x, gS (va_up M 140 w) (168 + 5 * i) x = gS M (168 + 5 * i) x := fun x => va_up_ne _ _ (by omega)
      exact h1.congr hn (fun k _ => by rw [hg 0]) (fun x r _ _ _ => by rw [hg x])
    have hw : ∀ i, i < t → (va_up M 140 w) 140 i = nI (dgN code t i) := fun i hi => by rw [va_up_self]; exact a3 i hi
    obtain ⟨M2, g2, b1, b2⟩ := lev_l (p1 := nI fi) ok (fun i => dg_012 code t i) ht (t - fi) FU fi (va_up M 140 w) (by omega) (by have := FU_eq; omega) hst hw
    have e140 : M2 140 = w := by rw [b2 140 (by omega), va_up_self]
    have e141 : M2 141 = M 141 := by rw [b2 141 (by omega), va_up_ne _ _ (by omega)]
    have hs2 := sumP (M := M2) (d := dgN code t) ht (fun i hi => by rw [e140]; exact a3 i hi)
    have hM2 : kpM M0 M2 := fun i hi => by rw [b2 i (by omega), va_up_ne _ _ (by omega)]; exact hM i hi
    have hlev2 : ∀ i, i ≤ t → LV (gS M0 4) n s (M2 140) i (gS M2 (168 + 5 * i)) := fun i hi => (b1 i hi).d (fun x hx => by rw [e140]; exact (a3 x (by omega)).symm)
    have hplace : M2 (168 + 5 * t + 3) r = lv (gS M0 4) n s (fun i => nI (dgN code t i)) t r := (b1 t (by omega)).2.2.2 r hr
    -- the reference
    obtain ⟨Mg, N1, g3, g4, hF⟩ := FR_start hM hN hR
    have hLg : LV (gS M0 4) n s (fun i => nI (dgN code t i)) 0 (gS Mg 134) := by
      obtain ⟨Mg', g3', h1, h2, h3⟩ := X2_become (c := 134) (d := 4) M (by omega)
      have : Mg' = Mg := by rw [g3] at g3'; exact (Option.some.inj g3').symm
      subst this
      refine (LV_0 ok).congr hn (fun k hk => ?_) (fun i r hi1 hi2 hr => ?_)
      · show Mg' 134 k = M0 4 k
        rw [h2 k hk, hM 4 (by omega)]
      · show Mg' (134 + i) r = M0 (4 + i) r
        rw [h3 i r hi1 hi2 hr, hM (4 + i) (by omega)]
    obtain ⟨N2, g5, q1, q2⟩ := pace_run (N0 := N0) (p1 := nI r) (p3 := p3) (x4 := nI (3 ^ t)) (x5 := oI o) (x6 := pX t o) (k61 := fX6_pace_l61 (nI r) (nI t) p3 f2) ok ht (show code < 729 by omega) t FU 0 Mg N1 (by omega) (by have := FU_eq; omega) hF hLg
    rw [Nat.sub_zero] at g5
    have g5' : fX6_pace_l82 (nI r) (nI t) p3 (fX6_pace_l61 (nI r) (nI t) p3 f2) FU (nI (3 ^ t)) (oI o) (pX t o) (nI code) (nI (3 ^ t)) 0 0 N1 = _ := g5
    have g2' : fX5_passLevels (nI fi) (nI t) (va_up M 140 w) = some M2 := g2
    have hs12 := smN_12 (b := code) ht
    have hic : (if code + 1 = 0 then 0 else t) = t := if_neg (by omega)
    have hnew : ∀ i, i < t → (va_up M2 141 (va_cpy (M2 140) (M2 141) 0 0 t)) 141 i = nI (dgN code t i) := fun i hi => by
      rw [va_up_self, pk_cpy_in (by omega) (by omega), e140, Nat.zero_add, Nat.sub_zero]
      exact a3 i hi
    -- the new best
    have take : ∃ (o' : Option Nat) (M' N' : Mem), fX5_findPaces_l26 (nI r) (nI t) f (pO t (some code)) (nI (3 ^ t)) (nI (code + 1)) (va_up M2 141 (va_cpy (M2 140) (M2 141) 0 0 t)) = some (pO t o', M') ∧ fX6_pace_l61 (nI r) (nI t) p3 f2 (nI (3 ^ t)) (oI (some code)) (pX t (some code)) (nI (code + 1)) N2 = fX6_pace_b193 (nI r) (nI t) p3 (oI o') (pX t o') N' ∧ kpM M0 M' ∧ kpN N0 N' ∧ (∀ b, o' = some b → b < 3 ^ t ∧ ∀ i, i < t → M' 141 i = nI (dgN b t i)) := by
      refine ih f f2 (code + 1) _ N2 (some code) (by omega) (by omega) (by omega) (fun i hi => by rw [va_up_ne _ _ (by omega)]; exact hM2 i hi) q1 (fun i hi => ?_) (fun b hb => ?_)
      · rw [hic] at hi
        rw [va_up_ne _ _ (by omega)]
        have hg : ∀ x, gS (va_up M2 141 (va_cpy (M2 140) (M2 141) 0 0 t)) (168 + 5 * i) x = gS M2 (168 + 5 * i) x := fun x => va_up_ne _ _ (by omega)
        exact (hlev2 i hi).congr hn (fun k _ => by rw [hg 0]) (fun x r _ _ _ => by rw [hg x])
      · cases hb
        exact ⟨by omega, hnew⟩
    have skip : ∃ (o' : Option Nat) (M' N' : Mem), fX5_findPaces_l26 (nI r) (nI t) f (pO t o) (nI (3 ^ t)) (nI (code + 1)) M2 = some (pO t o', M') ∧ fX6_pace_l61 (nI r) (nI t) p3 f2 (nI (3 ^ t)) (oI o) (pX t o) (nI (code + 1)) N2 = fX6_pace_b193 (nI r) (nI t) p3 (oI o') (pX t o') N' ∧ kpM M0 M' ∧ kpN N0 N' ∧ (∀ b, o' = some b → b < 3 ^ t ∧ ∀ i, i < t → M' 141 i = nI (dgN b t i)) :=
      ih f f2 (code + 1) M2 N2 o (by omega) (by omega) (by omega) hM2 q1 (fun i hi => by rw [hic] at hi; exact hlev2 i hi) (fun b hb => by rw [e141]; exact ho b hb)
    have i01 : ¬ (1 : Int32) = 0 := by decide
    simp only [fX5_findPaces_l26, fX5_findPaces_b26, if_neg c, g1, bdI_s, g2', bdV_s, hs2, bdP_s, chk_of (bIn_n (show t < 7 by omega) (by decide)), chk_of (bIn_n (show r < 7 by omega) (by decide)), nc (show t < 2 ^ 31 by omega), nc (show r < 2 ^ 31 by omega), hplace, fX5_findPaces_b80, fX5_findPaces_b97, chk_of (cpyB t ht), c0_, n1a, fX6_pace_l61, fX6_pace_b61, g4, g5', fX6_pace_b132, n2a, chk_of (bIn_n (show 2 + r < 25 by omega) (by decide)), nc (show 2 + r < 2 ^ 31 by omega), q2 r hr, fX6_pace_b156, fX6_pace_b157, fX6_pace_b171, fX6_pace_b185, eq_self, if_true, if_neg i01]
    by_cases hoff : lv (gS M0 4) n s (fun i => nI (dgN code t i)) t r = 99
    · simp only [if_pos hoff]
      cases o with
      | none =>
        have c9 : ¬ (99 : Int32) ≤ nI (smN (dgN code t) t) := nI_ge (b := 99) (by omega) (by omega)
        have hx : pX t none = 99 := rfl
        have hy : pO t none = -1000000 := rfl
        rw [if_pos hy, hx, if_neg c9]
        exact take
      | some b =>
        have hsb := smN_12 (b := b) ht
        have hy : pO t (some b) = nI (smN (dgN b t) t) := rfl
        have hx : pX t (some b) = nI (smN (dgN b t) t) := rfl
        rw [if_neg (by rw [hy]; exact oI_ne (by omega))]
        by_cases hle : nI (smN (dgN b t) t) ≤ nI (smN (dgN code t) t)
        · rw [if_pos (by rw [hy]; exact hle), if_pos (by rw [hx]; exact hle)]
          exact skip
        · rw [if_neg (by rw [hy]; exact hle), if_neg (by rw [hx]; exact hle)]
          exact take
    · simp only [if_neg hoff]
      exact skip
theorem pace_32 {t : Nat} {p1 p3 : Int32} {N : Mem} (ht : t ≤ 6) : ∀ (k fu j : Nat), j + k = t → k < fu → fX6_pace_l32 p1 (nI t) p3 fu (nI (3 ^ j)) (nI j) N = fX6_pace_b50 p1 (nI t) p3 (nI (3 ^ t)) N := by
  intro k
  induction k with
  | zero =>
    intro fu j hj hf
    obtain ⟨f, rfl, -⟩ := fs hf
    have c : nI t ≤ nI j := nI_le (by omega) (by omega)
    have e : j = t := by omega
    subst e
    simp only [fX6_pace_l32, fX6_pace_b32, if_pos c]
  | succ k ih =>
    intro fu j hj hf
    obtain ⟨f, rfl, hf'⟩ := fs hf
    have c : ¬ nI t ≤ nI j := nI_ge (by omega) (by omega)
    have g := ih f (j + 1) (by omega) (by omega)
    have e3 : (3 : Int32) = nI 3 := rfl
    simp only [fX6_pace_l32, fX6_pace_b32, if_neg c, e3, pk_mul, n1a]
    rw [← Nat.pow_succ]
    exact g
theorem pace_213 {t b q : Nat} {p1 x6 : Int32} {N : Mem} (ht : t ≤ 6) (hb : b < 729) (hq : q < t) : ∀ (k fu : Nat), q + k < t → k < fu → fX6_pace_l213 p1 (nI t) (nI q) fu (nI (b / 3 ^ (t - 1 - (q + k)))) x6 (nI (q + k)) N = fX6_pace_b235 p1 (nI t) (nI q) (nI (b / 3 ^ (t - 1 - q))) x6 N := by
  intro k
  induction k with
  | zero =>
    intro fu hk hf
    obtain ⟨f, rfl, -⟩ := fs hf
    have c : nI (q + 0) ≤ nI q := Int32.le_refl _
    simp only [fX6_pace_l213, fX6_pace_b213, if_pos c]
    rfl
  | succ k ih =>
    intro fu hk hf
    obtain ⟨f, rfl, hf'⟩ := fs hf
    have c : ¬ nI (q + (k + 1)) ≤ nI q := nI_ge (by omega) (by omega)
    have c2 : ¬ nI q < 0 := fun h => by
      have := (nI_ltI (b := 0) (by omega) (by omega)).mp h
      omega
    have hle : b / 3 ^ (t - 1 - (q + (k + 1))) ≤ b := Nat.div_le_self _ _
    have e3 : (3 : Int32) = nI 3 := rfl
    have ed : nI (b / 3 ^ (t - 1 - (q + (k + 1)))) / 3 = nI (b / 3 ^ (t - 1 - (q + k))) := by
      rw [e3, pk_div (by omega) (by omega) (by omega), Nat.div_div_eq_div_mul, ← Nat.pow_succ, show (t - 1 - (q + (k + 1))).succ = t - 1 - (q + k) by omega]
    have em : nI (q + (k + 1)) + (-1) = nI (q + k) := nIm1 (q + k)
    simp only [fX6_pace_l213, fX6_pace_b213, if_neg c, if_neg c2, ed, em]
    exact ih f (by omega) (by omega)
theorem q_pace (x y z : Int32) : EqI (fX5_pace x y z) (fX6_pace x y z) := fun M N h => by
  obtain ⟨n, s, hR, ha⟩ := h.1
  have e1 : M 4 3 = nI n := hR.1.1
  have hn := hR.1.2.2
  unfold fX5_pace fX6_pace
  simp only [X5_noRider e1, X6_isRider hR.1.2.1, X5_outside, X6_inB, bdP_s]
  by_cases hb : inB x 0 (nI n - 1) = true
  · obtain ⟨r, hr, rfl⟩ := inB_r (by omega) hb
    simp only [hb, Bool.not_true, Bool.not_false, b2i_f, b2i_t, i10, eq_self, if_true, if_false]
    by_cases hb2 : inB y 1 6 = true
    · obtain ⟨t, ht1, ht, rfl⟩ : ∃ t, 1 ≤ t ∧ t ≤ 6 ∧ y = nI t := inB_lo (k := 6) (by decide) hb2
      simp only [hb2, Bool.not_true, Bool.not_false, b2i_f, b2i_t, i10, eq_self, if_true, if_false]
      by_cases hz : (-1 : Int32) ≤ z
      · simp only [if_pos hz]
        have h3t : 3 ^ t ≤ 729 := (Nat.pow_le_pow_right (by omega) ht : 3 ^ t ≤ 3 ^ 6)
        obtain ⟨M1, g1, k1, k2, k3⟩ := X2_become (c := 168) (d := 4) M (by omega)
        have hM1 : kpM M M1 := kpM_become (by omega) k1
        have ok := hR.okT
        have hl0 : LV (gS M 4) n s (M1 140) 0 (gS M1 168) := (LV_0 ok).congr hn k2 k3
        obtain ⟨o', M', N', p1, p2, p3, p4, p5⟩ := pace_l (p3 := z) hR hr ht (3 ^ t) FU FU 0 M1 N none (by omega) (by have := FU_eq; omega) (by have := FU_eq; omega) hM1 kpN.rf (fun i hi => by
          have : i = 0 := by rw [if_pos rfl] at hi; omega
          subst this; exact hl0) (fun b hb => by cases hb)
        have hpw : fX5_power 3 (nI t) = some (nI (3 ^ t)) := X5_power (b := 3) (by omega)
        have g1' : fX2_become (168 + 5 * 0) 4 M = some M1 := g1
        have p1' : fX5_findPaces_l26 (nI r) (nI t) FU (-1000000) (nI (3 ^ t)) 0 M1 = some (pO t o', M') := p1
        have hfind : fX5_findPaces (nI r) (nI t) M = some (pO t o', M') := by
          unfold fX5_findPaces
          rw [hpw, bdP_s, chk_of (by decide), c0_, g1', bdV_s, p1']
        have h32 := pace_32 (p1 := nI r) (p3 := z) (N := N) ht t FU 0 (by omega) (by have := FU_eq; omega)
        have h32' : fX6_pace_l32 (nI r) (nI t) z FU 1 0 N = fX6_pace_b50 (nI r) (nI t) z (nI (3 ^ t)) N := h32
        have p2' : fX6_pace_b50 (nI r) (nI t) z (nI (3 ^ t)) N = fX6_pace_b193 (nI r) (nI t) z (oI o') (pX t o') N' := by
          unfold fX6_pace_b50
          rw [← p2, oI_none]
          rfl
        rw [hfind, h32', p2', bdI_s]
        have hRR := h.keep p3 p4
        unfold fX6_pace_b193
        cases o' with
        | none =>
          refine ⟨-1000000, M', N', ?_, ?_, hRR⟩
          · show (if (-1000000 : Int32) = -1000000 then _ else _) = _
            rw [if_pos rfl]
            rfl
          · rw [if_pos oI_none]
        | some b =>
          obtain ⟨hb3, h141⟩ := p5 b rfl
          have hs := smN_12 (b := b) ht
          have hy : pO t (some b) = nI (smN (dgN b t) t) := rfl
          have hx : pX t (some b) = nI (smN (dgN b t) t) := rfl
          have hne : ¬ pO t (some b) = -1000000 := by rw [hy]; exact oI_ne (by omega)
          rw [oI_some, if_neg (oI_ne (show b < 2 ^ 31 by omega))]
          simp only [if_neg hne]
          have hpr : nI t - 1 = nI (t - 1) := by
            have := nI_pred (t - 1)
            rw [show t - 1 + 1 = t by omega] at this
            exact this
          by_cases hz1 : z = -1
          · subst hz1
            have c1 : (-1 : Int32) < nI t := by
              rw [Int32.lt_iff_toInt_lt, nI_toInt (by omega)]
              have : (-1 : Int32).toInt = -1 := by decide
              omega
            have c2 : ¬ nI (t - 1) ≤ -1 := by
              rw [Int32.le_iff_toInt_le, nI_toInt (by omega)]
              have : (-1 : Int32).toInt = -1 := by decide
              omega
            refine ⟨pO t (some b), M', N', by rw [if_pos rfl], ?_, hRR⟩
            obtain ⟨f, hF⟩ : ∃ f, FU = f + 1 := ⟨999, FU_eq⟩
            rw [if_pos c1, hF, hpr]
            simp only [fX6_pace_l213, fX6_pace_b213, if_neg c2, if_pos (show (-1 : Int32) < 0 by decide), fX6_pace_b235, eq_self, if_true]
            rfl
          · simp only [if_neg hz1]
            have hz0 : (0 : Int32) ≤ z := by
              rw [Int32.le_iff_toInt_le] at hz ⊢
              have e1 : (-1 : Int32).toInt = -1 := by decide
              have e0 : (0 : Int32).toInt = 0 := by decide
              have : z.toInt ≠ -1 := fun e => hz1 (Int32.toInt_inj.mp (by rw [e]; rfl))
              omega
            by_cases hzt : nI t ≤ z
            · rw [if_pos hzt, if_neg (Int32.not_lt.mpr hzt)]
              exact ⟨_, M', N', rfl, rfl, hRR⟩
            · have hzt' : z < nI t := Int32.not_le.mp hzt
              obtain ⟨q, hq, rfl⟩ : ∃ q, q < t ∧ z = nI q := by
                refine ⟨z.toInt.toNat, ?_, ?_⟩
                · rw [Int32.lt_iff_toInt_lt, nI_toInt (by omega)] at hzt'
                  rw [Int32.le_iff_toInt_le] at hz0
                  have e0 : (0 : Int32).toInt = 0 := by decide
                  omega
                · rw [Int32.le_iff_toInt_le] at hz0
                  have e0 : (0 : Int32).toInt = 0 := by decide
                  rw [Int32.lt_iff_toInt_lt, nI_toInt (by omega)] at hzt'
                  apply Int32.toInt_inj.mp
                  rw [nI_toInt (by omega)]
                  omega
              rw [if_neg hzt, if_pos hzt', chk_of (bIn_n (show q < 6 by omega) (by decide)), nc (by omega), h141 q hq, hpr]
              refine ⟨nI (dgN b t q), M', N', rfl, ?_, hRR⟩
              have h213 := pace_213 (p1 := nI r) (x6 := pX t (some b)) (N := N') ht (show b < 729 by omega) hq (t - 1 - q) FU (by omega) (by have := FU_eq; omega)
              rw [show q + (t - 1 - q) = t - 1 by omega, Nat.sub_self, Nat.pow_zero, Nat.div_one] at h213
              rw [h213]
              have hle : b / 3 ^ (t - 1 - q) ≤ b := Nat.div_le_self _ _
              have e3 : (3 : Int32) = nI 3 := rfl
              unfold fX6_pace_b235
              rw [if_neg hz1, e3, pk_rem (by omega) (by omega) (by omega)]
              rfl
      · simp only [if_neg hz]
        exact ⟨_, M, N, rfl, rfl, h⟩
    · rw [Bool.not_eq_true] at hb2
      simp only [hb2, Bool.not_true, Bool.not_false, b2i_f, b2i_t, i10, eq_self, if_true, if_false]
      exact ⟨_, M, N, rfl, rfl, h⟩
  · rw [Bool.not_eq_true] at hb
    simp only [hb, Bool.not_true, Bool.not_false, b2i_f, b2i_t, i10, eq_self, if_true, if_false]
    exact ⟨_, M, N, rfl, rfl, h⟩
