/-! stair: both read -/
theorem mp7_0 {N : Mem} {k : Nat} {v : Int32} : (mp N 7 k v) 0 = N 0 := va_up_ne _ _ (by omega)
theorem mp0_7 {N : Mem} {k : Nat} {v : Int32} : (mp N 0 k v) 7 = N 7 := va_up_ne _ _ (by omega)
theorem mp7_7 {N : Mem} {k : Nat} {v : Int32} : (mp N 7 k v) 7 = upd (N 7) k v := va_up_self _ _ _
theorem mp0_0 {N : Mem} {k : Nat} {v : Int32} : (mp N 0 k v) 0 = upd (N 0) k v := va_up_self _ _ _
theorem kpN_7 {N : Mem} {k : Nat} {v : Int32} : kpN N (mp N 7 k v) := ⟨fun i _ _ h _ _ => va_up_ne _ _ h, fun k _ => by rw [mp7_0]⟩
theorem kpN_0 {N : Mem} {k : Nat} {v : Int32} (hk : 18 ≤ k) : kpN N (mp N 0 k v) := ⟨fun i h _ _ _ _ => va_up_ne _ _ h, fun j hj => by rw [mp0_0, upd_n _ _ (by omega)]⟩
theorem TM.kp {M0 M : Mem} {B : Nat → Nat} {len : Nat} (h : TM M0 B len) (hk : kpM M0 M) : TM M B len := by
  unfold TM
  rw [hk 2 (by omega), hk 3 (by omega)]
  exact h
theorem TN.kp {N0 N : Mem} {B : Nat → Nat} {len : Nat} (h : TN N0 B len) (hk : kpN N0 N) : TN N B len := by
  unfold TN
  rw [hk.2 6 (by omega), hk.1 5 (by omega) (by omega) (by omega) (by omega) (by omega)]
  exact h
def Out (M0 N0 : Mem) (x y : Option (Int32 × Mem)) : Prop := (∃ (p : Nat) (w : Int32) (M' N' : Mem), p ≤ 90 ∧ x = some (nI p, mp M' 2 2 w) ∧ y = some (0, N') ∧ kpM M0 M' ∧ kpN N0 N' ∧ N' 0 18 = nI p ∧ N' 0 19 = w) ∨ ∃ (n s : Nat) (M' N' : Mem), x = some (-1000000, M') ∧ y = some (1, N') ∧ kpM M0 M' ∧ kpN N0 N' ∧ RS (gS M' 134) (N' 7) n s ∧ 0 < n
theorem Out.bad {M0 N0 M N : Mem} {x y : Option (Int32 × Mem)} {p : Nat} {w : Int32} (hM : kpM M0 M) (hN : kpN N0 N) (hp : p ≤ 90) (h18 : N 0 18 = nI p) (hx : x = some (nI p, mp M 2 2 w)) (hy : y = some (0, mp N 0 19 w)) : Out M0 N0 x y :=
  Or.inl ⟨p, w, M, _, hp, hx, hy, hM, hN.tr (kpN_0 (by omega)), by rw [mp0_0, upd_n _ _ (by omega)]; exact h18, by rw [mp0_0, upd_s]⟩
def DR (M N : Mem) (n s : Nat) : Prop := (M 134 3 = nI n ∧ N 7 17 = nI n ∧ n ≤ 7) ∧ (M 134 0 = nI s ∧ N 7 16 = nI s ∧ s ≤ 12 ∧ 4 ≤ s) ∧ (M 134 1 = N 7 1 ∧ s012 (N 7 1)) ∧ (M 134 2 = 0 ∧ N 7 0 = 0) ∧ (∀ r, r < 7 → M 137 r = -1) ∧ ∀ r, r < n → (M 135 r = N 7 (18 + r) ∧ M 136 r = N 7 (9 + r) ∧ N 7 (2 + r) = -1) ∧ okL (N 7 (9 + r)) ∧ ∃ k, 1 ≤ k ∧ k ≤ 5 ∧ N 7 (18 + r) = nI k
theorem DR.rs {M N : Mem} {n s : Nat} (h : DR M N n s) : RS (gS M 134) (N 7) n s := by
  obtain ⟨⟨a1, a2, a3⟩, ⟨b1, b2, b3, b4⟩, ⟨c1, c2⟩, ⟨d1, d2⟩, e, f⟩ := h
  refine ⟨⟨a1, a2, a3⟩, ⟨b1, b2, b3, fun _ => b4⟩, ⟨c1, c2⟩, ?_, fun r hr => ?_⟩
  · show M 134 2 = N 7 0
    rw [d1, d2]
  · obtain ⟨⟨f1, f2, f3⟩, f4, f5⟩ := f r hr
    refine ⟨⟨f1, f2, ?_⟩, f4, by rw [f3]; exact Or.inl rfl, f5⟩
    show M 137 r = _
    rw [e r (by omega), f3]
theorem okL_r {v : Nat} (h : inR v 0 1 = true) : okL (nI v) := by
  unfold inR at h
  simp only [Bool.and_eq_true, decide_eq_true_eq] at h
  have : v = 0 ∨ v = 1 := by omega
  rcases this with rfl | rfl
  · exact Or.inl rfl
  · exact Or.inr rfl
theorem DR.next {M N M' N' : Mem} {n s k v : Nat} (h : DR M N n s) (hn : n < 7) (hk1 : 1 ≤ k) (hk5 : k ≤ 5) (hv : okL (nI v)) (e134 : M' 134 = upd (M 134) 3 (nI (n + 1))) (e135 : M' 135 = upd (M 135) n (nI k)) (e136 : M' 136 = upd (M 136) n (nI v)) (e137 : M' 137 = M 137) (e7 : N' 7 = upd (upd (upd (upd (N 7) (18 + n) (nI k)) (2 + n) (-1)) (9 + n) (nI v)) 17 (nI (n + 1))) : DR M' N' (n + 1) s := by
  obtain ⟨⟨a1, a2, a3⟩, ⟨b1, b2, b3, b4⟩, ⟨c1, c2⟩, ⟨d1, d2⟩, e, f⟩ := h
  have g : ∀ j, j ≠ 18 + n → j ≠ 2 + n → j ≠ 9 + n → j ≠ 17 → N' 7 j = N 7 j := fun j h1 h2 h3 h4 => by rw [e7, upd_n _ _ h4, upd_n _ _ h3, upd_n _ _ h2, upd_n _ _ h1]
  have g134 : ∀ j, j ≠ 3 → M' 134 j = M 134 j := fun j hj => by rw [e134, upd_n _ _ hj]
  refine ⟨⟨by rw [e134, upd_s], by rw [e7, upd_s], by omega⟩, ⟨by rw [g134 0 (by omega)]; exact b1, by rw [g 16 (by omega) (by omega) (by omega) (by omega)]; exact b2, b3, b4⟩, ⟨by rw [g134 1 (by omega), g 1 (by omega) (by omega) (by omega) (by omega)]; exact c1, by rw [g 1 (by omega) (by omega) (by omega) (by omega)]; exact c2⟩, ⟨by rw [g134 2 (by omega)]; exact d1, by rw [g 0 (by omega) (by omega) (by omega) (by omega)]; exact d2⟩, fun r hr => by rw [e137]; exact e r hr, fun r hr => ?_⟩
  by_cases hrn : r = n
  · subst hrn
    have x1 : N' 7 (18 + r) = nI k := by rw [e7, upd_n _ _ (by omega), upd_n _ _ (by omega), upd_n _ _ (by omega), upd_s]
    have x2 : N' 7 (9 + r) = nI v := by rw [e7, upd_n _ _ (by omega), upd_s]
    have x3 : N' 7 (2 + r) = -1 := by rw [e7, upd_n _ _ (by omega), upd_n _ _ (by omega), upd_s]
    exact ⟨⟨by rw [x1, e135, upd_s], by rw [x2, e136, upd_s], x3⟩, by rw [x2]; exact hv, k, hk1, hk5, x1⟩
  · obtain ⟨⟨f1, f2, f3⟩, f4, f5⟩ := f r (by omega)
    rw [g (18 + r) (by omega) (by omega) (by omega) (by omega), g (9 + r) (by omega) (by omega) (by omega) (by omega), g (2 + r) (by omega) (by omega) (by omega) (by omega), e135, e136, upd_n _ _ hrn, upd_n _ _ hrn]
    exact ⟨⟨f1, f2, f3⟩, f4, f5⟩
theorem acc_7 {M : Mem} {p w : Int32} : fX3_accept 7 p w M = bdP (fX3_acceptSign (nI 59) p M) (fun r => some (r, M)) := by
  unfold fX3_accept
  rw [if_neg (by decide), if_neg (by decide), if_neg (by decide), if_neg (by decide), if_neg (by decide), if_neg (by decide), if_neg (by decide)]
  rfl
theorem acc_0 {M : Mem} {p w : Int32} : fX3_accept 0 p w M = bdP (fX3_acceptSign (nI 109) p M) (fun r => some (r, M)) := by
  unfold fX3_accept
  rw [if_pos rfl]
  rfl
theorem acc_2 {M : Mem} {p w : Int32} : fX3_accept 2 p w M = bdP (fX3_acceptSign (nI 44) p M) (fun r => some (r, M)) := by
  unfold fX3_accept
  rw [if_neg (by decide), if_neg (by decide), if_pos rfl]
  rfl
theorem acc_4 {M : Mem} {p w : Int32} : fX3_accept 4 p w M = bdP (fX3_acceptSign (nI 59) p M) (fun r => some (r, M)) := by
  unfold fX3_accept
  rw [if_neg (by decide), if_neg (by decide), if_neg (by decide), if_neg (by decide), if_pos rfl]
  rfl
theorem acc_1 {M : Mem} {p w : Int32} : fX3_accept 1 p w M = bdP (fX3_numberAt p w M) (fun r5 => bdP (fX3_faultOfNumber ((mp M 134 0 r5) 134 0) (nI 4) (nI 12) (mp M 134 0 r5)) (fun r7 => some ((r7 : Int32), (mp M 134 0 r5)))) := by
  unfold fX3_accept
  rw [if_neg (by decide), if_pos rfl]
  rfl
theorem acc_3 {M : Mem} {p w : Int32} : fX3_accept 3 p w M = bdP (fX3_numberAt p w M) (fun r5 => bdP (fX3_faultOfNumber ((mp M 134 1 r5) 134 1) (nI 0) (nI 2) (mp M 134 1 r5)) (fun r7 => some ((r7 : Int32), (mp M 134 1 r5)))) := by
  unfold fX3_accept
  rw [if_neg (by decide), if_neg (by decide), if_neg (by decide), if_pos rfl]
  rfl
theorem sgn_lt {B : Nat → Nat} {len p c : Nat} (h : sgn B len p c = true) : p < len := by
  unfold sgn at h
  simp only [Bool.and_eq_true, decide_eq_true_eq] at h
  exact h.1
theorem nd_in {B : Nat → Nat} {len p : Nat} (h : ¬ (nd B len p = 0 ∨ nd B len p = 3)) : p + nd B len p ≤ len ∧ 1 ≤ nd B len p := by
  refine ⟨?_, by omega⟩
  unfold nd at h ⊢
  by_cases h0 : dig B len p = true
  · rw [if_pos h0] at h ⊢
    have := (dig_in h0).1
    by_cases h1 : dig B len (p + 1) = true
    · rw [if_pos h1] at h ⊢
      have := (dig_in h1).1
      by_cases h2 : dig B len (p + 2) = true
      · rw [if_pos h2] at h; omega
      · rw [if_neg h2]; omega
    · rw [if_neg h1]; omega
  · rw [if_neg h0] at h; omega
theorem kpM_134 {M M1 : Mem} (h : ∀ i, i ≠ 134 → M1 i = M i) : kpM M M1 := fun i hi => h i (by omega)
theorem riders_l {M0 N0 : Mem} {B : Nat → Nat} {len s : Nat} (hTM : TM M0 B len) (hTN : TN N0 B len) : ∀ (k fu fu2 p t n : Nat) (M N : Mem), len - p ≤ k → p ≤ len → t ≤ p → 200 < fu + t → 200 < fu2 + t → kpM M0 M → kpN N0 N → N 0 18 = nI p → DR M N n s → Out M0 N0 (fX3_readInto_l11 fu 5 (nI p) (nI t) M) (fX6_reads_l56 fu2 N) := by
  have hl := hTM.2.1
  have q17' : Int32.toNatClampNeg 17 = 17 := c17
  intro k
  induction k with
  | zero =>
    intro fu fu2 p t n M N hk hp ht hf hf2 hM hN h18 hD
    obtain ⟨f, rfl⟩ : ∃ f, fu = f + 1 := ⟨fu - 1, by omega⟩
    obtain ⟨f2, rfl⟩ : ∃ f, fu2 = f + 1 := ⟨fu2 - 1, by omega⟩
    have hpe : p = len := by omega
    have tM := hTM.kp hM
    have tN := hTN.kp hN
    rw [cl_end tM hpe]
    have hn7 := hD.1.2.2
    have c1 : ¬ N 0 18 < N 0 6 := by
      rw [h18, tN.1]
      exact fun hh => by have := (nI_ltI (by omega) (by omega)).mp hh; omega
    have ez : (nI n = 0) = (n = 0) := neq (b := 0) (by omega) (by omega)
    by_cases hn0 : n = 0
    · refine Out.bad (p := p) (w := 1) hM hN (by omega) h18 ?_ ?_
      · unfold fX3_readInto_b91
        have e : (mp M 2 2 1) 2 1 = M 2 1 := by rw [mp_at, va_up_self, upd_n _ _ (by omega)]
        rw [if_pos rfl, hD.1.1, if_pos (ez.mpr hn0), e, tM.1, hpe]
      · show fX6_reads_b56 (fX6_reads_l56 f2) N = _
        unfold fX6_reads_b56
        rw [if_neg c1, chk_of q17, c17, hD.1.2.1, if_pos (ez.mpr hn0)]
        unfold fX6_reads_b77 fX6_fails
        rw [h18, X6_let tN (by omega), bdP_s, X6_kb (fun h => (tN.2.2 _ h).2), bdP_s, if_neg (show ¬ p < len by omega), if_pos (show nI 0 = 0 from rfl), bdI_s, chk_of b01_0]
    · refine Or.inr ⟨n, s, M, N, ?_, ?_, hM, hN, hD.rs, by omega⟩
      · unfold fX3_readInto_b91
        rw [if_pos rfl, hD.1.1, if_neg (fun hh => hn0 (ez.mp hh))]
      · show fX6_reads_b56 (fX6_reads_l56 f2) N = _
        unfold fX6_reads_b56
        rw [if_neg c1, chk_of q17, c17, hD.1.2.1, if_neg (fun hh => hn0 (ez.mp hh))]
  | succ k ih =>
    intro fu fu2 p t n M N hk hp ht hf hf2 hM hN h18 hD
    by_cases hpe : p = len
    · exact ih fu fu2 p t n M N (by omega) hp ht hf hf2 hM hN h18 hD
    have hpl : p < len := by omega
    obtain ⟨f, rfl⟩ : ∃ f, fu = f + 1 + 1 + 1 := ⟨fu - 3, by omega⟩
    obtain ⟨f2, rfl⟩ : ∃ f, fu2 = f + 1 := ⟨fu2 - 1, by omega⟩
    have tM := hTM.kp hM
    have tN := hTN.kp hN
    have hn7 := hD.1.2.2
    have c1 : N 0 18 < N 0 6 := by
      rw [h18, tN.1]
      exact nI_lt hpl (by omega)
    have hk5 := kd_5 (B p)
    rw [cl_sort tM hpl ht hD.1.1 hn7]
    show Out M0 N0 _ (fX6_reads_b56 (fX6_reads_l56 f2) N)
    unfold fX6_reads_b56
    rw [if_pos c1]
    unfold fX6_reads_b77 fX6_fails
    rw [h18, X6_let tN (by omega), bdP_s, X6_kb (fun h => (tN.2.2 _ h).2), bdP_s, if_pos hpl, n1a, chk_of q17, c17, hD.1.2.1]
    have ez : (nI (kd (B p)) = 0) = (kd (B p) = 0) := neq (b := 0) (by omega) (by omega)
    by_cases hk0 : kd (B p) = 0
    · rw [if_pos hk0, if_pos (ez.mpr hk0), bdI_s, chk_of b01_0]
      exact Out.bad hM hN (by omega) h18 rfl rfl
    · rw [if_neg hk0, if_neg (fun hh => hk0 (ez.mp hh))]
      have e7 : (nI n = 7) = (n = 7) := neq (b := 7) (by omega) (by omega)
      by_cases h7 : n = 7
      · rw [if_pos h7, if_pos (e7.mpr h7), bdI_s, chk_of b01_0]
        exact Out.bad hM hN (by omega) h18 rfl rfl
      · have hn : n < 7 := by omega
        rw [if_neg h7, if_neg (fun hh => h7 (e7.mp hh)), n18a, n2a, n9a, chk_of (bIn_n (show 18 + n < 25 by omega) (by decide)), chk_of (bIn_n (show 2 + n < 25 by omega) (by decide)), nc (show 18 + n < 2 ^ 31 by omega), nc (show 2 + n < 2 ^ 31 by omega)]
        have hM1 : kpM M0 (mp M 135 n (nI (kd (B p)))) := hM.tr (kpM_mp (by omega))
        have hN1 : kpN N0 (mp (mp (mp N 0 18 (nI (p + 1))) 7 (18 + n) (nI (kd (B p)))) 7 (2 + n) (-1)) := ((hN.tr (kpN_0 (by omega))).tr kpN_7).tr kpN_7
        have h181 : (mp (mp (mp N 0 18 (nI (p + 1))) 7 (18 + n) (nI (kd (B p)))) 7 (2 + n) (-1)) 0 18 = nI (p + 1) := by rw [mp7_0, mp7_0, mp0_0, upd_s]
        have hnum := X6_num (lo := 0) (hi := 1) (k := 9 + n) (hTN.kp hN1) (show p + 1 ≤ len by omega) h181 (by omega) (by omega) (by omega)
        have hnum' : fX6_number (nI (9 + n)) 0 1 (mp (mp (mp N 0 18 (nI (p + 1))) 7 (18 + n) (nI (kd (B p)))) 7 (2 + n) (-1)) = _ := hnum
        have e134 : (mp M 135 n (nI (kd (B p)))) 134 = M 134 := va_up_ne _ _ (by omega)
        rw [hnum', cl_lane (hTM.kp hM1) (show p + 1 ≤ len by omega) (by omega) (by rw [e134]; exact hD.1.1) hn]
        by_cases hb : nd B len (p + 1) = 0 ∨ nd B len (p + 1) = 3
        · rw [if_pos hb, if_pos hb, bdI_s, if_pos rfl]
          exact Out.bad hM1 hN1 (by omega) h181 rfl rfl
        · rw [if_neg hb, if_neg hb]
          obtain ⟨hin, h1d⟩ := nd_in hb
          by_cases hr : inR (nv B len (p + 1)) 0 1 = true
          · rw [if_pos hr, if_pos hr, bdI_s, if_neg i10]
            have hM2 : kpM M0 (mp (mp (mp M 135 n (nI (kd (B p)))) 136 n (nI (nv B len (p + 1)))) 134 3 (nI (n + 1))) := (hM1.tr (kpM_mp (by omega))).tr (kpM_mp (by omega))
            have hN2 := (hN1.tr (kpN_0 (k := 18) (v := nI (p + 1 + nd B len (p + 1))) (by omega))).tr (kpN_7 (k := 9 + n) (v := nI (nv B len (p + 1))))
            have h182 : (mp (mp (mp (mp (mp N 0 18 (nI (p + 1))) 7 (18 + n) (nI (kd (B p)))) 7 (2 + n) (-1)) 0 18 (nI (p + 1 + nd B len (p + 1)))) 7 (9 + n) (nI (nv B len (p + 1)))) 0 18 = nI (p + 1 + nd B len (p + 1)) := by rw [mp7_0, mp0_0, upd_s]
            have hs := X6_sgn (c := 59) (hTN.kp hN2) hin h182 (by omega)
            have hs' : fX6_sign 59 (mp (mp (mp (mp (mp N 0 18 (nI (p + 1))) 7 (18 + n) (nI (kd (B p)))) 7 (2 + n) (-1)) 0 18 (nI (p + 1 + nd B len (p + 1)))) 7 (9 + n) (nI (nv B len (p + 1)))) = _ := hs
            rw [hs', cl_sgn (c := 59) (x2 := 7) (hTM.kp hM2) hin (by omega) (by decide) (by decide) (by omega) (fun w => acc_7), if_pos rfl]
            by_cases hg : sgn B len (p + 1 + nd B len (p + 1)) 59 = true
            · have hgl := sgn_lt hg
              rw [if_pos hg, if_pos hg, bdI_s, if_neg i10, chk_of q17, chk_of q17]
              have e17 : (mp (mp (mp (mp (mp (mp N 0 18 (nI (p + 1))) 7 (18 + n) (nI (kd (B p)))) 7 (2 + n) (-1)) 0 18 (nI (p + 1 + nd B len (p + 1)))) 7 (9 + n) (nI (nv B len (p + 1)))) 0 18 (nI (p + 1 + nd B len (p + 1) + 1))) 7 17 = nI n := by
                rw [mp0_7, mp7_7, upd_n _ _ (by omega), mp0_7, mp7_7, upd_n _ _ (by omega), mp7_7, upd_n _ _ (by omega), mp0_7]
                exact hD.1.2.1
              dsimp only
              rw [e17, n1a]
              refine ih f f2 (p + 1 + nd B len (p + 1) + 1) (t + 1 + 1 + 1) (n + 1) _ _ (by omega) (by omega) (by omega) (by omega) (by omega) hM2 ((hN2.tr (kpN_0 (by omega))).tr kpN_7) (by rw [mp7_0, mp0_0, upd_s]) ?_
              refine hD.next hn (by omega) hk5 (okL_r hr) ?_ ?_ ?_ ?_ ?_
              · rw [mp_at, va_up_self, mp_at, va_up_ne _ _ (by omega), mp_at, va_up_ne _ _ (by omega)]
              · rw [mp_at, va_up_ne _ _ (by omega), mp_at, va_up_ne _ _ (by omega), mp_at, va_up_self]
              · rw [mp_at, va_up_ne _ _ (by omega), mp_at, va_up_self, mp_at, va_up_ne _ _ (by omega)]
              · rw [mp_at, va_up_ne _ _ (by omega), mp_at, va_up_ne _ _ (by omega), mp_at, va_up_ne _ _ (by omega)]
              · rw [mp7_7, mp0_7, mp7_7, mp0_7, mp7_7, mp7_7, mp0_7]
            · rw [if_neg hg, if_neg hg, bdI_s, if_pos rfl]
              exact Out.bad hM2 hN2 (by omega) h182 rfl rfl
          · rw [if_neg hr, if_neg hr, bdI_s, if_pos rfl]
            exact Out.bad hM1 hN1 (by omega) h181 rfl rfl
