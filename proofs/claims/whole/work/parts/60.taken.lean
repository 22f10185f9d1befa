/-! taken -/
theorem ff_min {P : Nat → Bool} {B : Nat} : ∀ (C i : Nat), B ≤ C → ff P B i = match ff P C i with | some j => if j < i + B then some j else none | none => none := by
  intro C
  induction C generalizing B with
  | zero =>
    intro i h
    have : B = 0 := by omega
    subst this
    rfl
  | succ C ih =>
    intro i h
    cases B with
    | zero =>
      cases hf : ff P (C + 1) i with
      | none => rfl
      | some j =>
        have := ff_lt (C + 1) i j hf
        show none = if j < i + 0 then some j else none
        rw [if_neg (by omega)]
    | succ B =>
      show (if P i = true then some i else ff P B (i + 1)) = match (if P i = true then some i else ff P C (i + 1)) with | some j => if j < i + (B + 1) then some j else none | none => none
      by_cases hp : P i = true
      · rw [if_pos hp, if_pos hp]
        show some i = if i < i + (B + 1) then some i else none
        rw [if_pos (by omega)]
      · rw [if_neg hp, if_neg hp, ih (i + 1) (by omega), show i + 1 + B = i + (B + 1) by omega]
theorem X2_puc' {n s B : Nat} {m : Mem} (hB : B ≤ 61) (ok : okT m n s) : ∃ m', fX2_passUntilClear (nI B - 1) m = some (oI (ff (clrA n s m) B 0), m') := by
  cases B with
  | zero =>
    refine ⟨m, ?_⟩
    unfold fX2_passUntilClear
    obtain ⟨f, hF⟩ : ∃ f, FU = f + 1 := ⟨999, FU_eq⟩
    rw [hF]
    show fX2_passUntilClear_b2 (nI 0 - 1) (fX2_passUntilClear_l2 (nI 0 - 1) f) 0 m = _
    unfold fX2_passUntilClear_b2
    rw [if_pos (by decide)]
    rfl
  | succ B =>
    rw [nI_pred]
    exact X2_puc (by omega) ok
theorem oI_some (j : Nat) : oI (some j) = nI j := by unfold oI; exact Eq.refl _
theorem oI_none : oI none = -1000000 := by unfold oI; exact Eq.refl _
def sB : Option Nat → Nat
  | some j => j
  | none => 61
theorem oI_ne {j : Nat} (h : j < 2 ^ 31) : ¬ nI j = -1000000 := fun e => by
  have := congrArg Int32.toInt e
  rw [nI_toInt h] at this
  have h2 : (-1000000 : Int32).toInt = -1000000 := by decide
  omega
theorem FR.at {M0 N0 M N : Mem} {n s q : Nat} {v : Int32} (h : FR M0 N0 M N n s) (hq : q < 7) (hv : okA s v) : FR M0 N0 (mp M 137 q v) (mp N 11 (2 + q) v) n s := by
  refine ⟨h.1.tr (kpM_mp (by omega)), h.2.1.tr kpN_mp, ?_⟩
  rw [show gS (mp M 137 q v) 134 = mp (gS M 134) 3 q v from gS_mp (c := 134) (i := 3), show (mp N 11 (2 + q) v) 11 = upd (N 11) (2 + q) v from va_up_self _ _ _]
  exact h.2.2.at hq hv
theorem taken_l {n s : Nat} {p : Int32} {M0 N0 : Mem} (h0 : RR M0 N0) (hR : RS (gS M0 4) (N0 6) n s) : ∀ (k fu i : Nat) (M N : Mem) (o : Option Nat) (w : Int32), i + k = n → k < fu → kpM M0 M → kpN N0 N → sB o ≤ 61 → ∃ r M' N', fX5_taken_l63 p fu (nI (sB o)) w (nI i) M = some (r, M') ∧ fX6_taken_l37 p fu (oI o) w (nI i) N = some (r, N') ∧ RR M' N' ∨ (w ≠ -1000000 ∧ o = none) := by
  intro k
  induction k with
  | zero =>
    intro fu i M N o w hi hf hM hN hB
    obtain ⟨f, rfl, -⟩ := fs hf
    have hn := hR.1.2.2
    have c : nI n ≤ nI i := nI_le (by omega) (by omega)
    have e3 : M 4 3 = nI n := by rw [hM 4 (by omega)]; exact hR.1.1
    have e17 : N 6 17 = nI n := by rw [hN.1 6 (by omega) (by omega) (by omega) (by omega) (by omega)]; exact hR.1.2.1
    by_cases hbad : w ≠ -1000000 ∧ o = none
    · exact ⟨0, M, N, Or.inr hbad⟩
    · have hres : ∃ r, fX5_taken_b130 p (nI (sB o)) w M = some (r, M) ∧ fX6_taken_b101 p (oI o) w N = some (r, N) := by
        unfold fX5_taken_b130 fX6_taken_b101
        by_cases hw : w = -1000000
        · rw [if_pos hw, if_pos hw]
          exact ⟨_, rfl, by rw [hw]⟩
        · rw [if_neg hw, if_neg hw]
          by_cases hp : p = 0
          · rw [if_pos hp, if_pos hp]; exact ⟨_, rfl, rfl⟩
          · rw [if_neg hp, if_neg hp]
            cases o with
            | none => exact absurd ⟨hw, rfl⟩ hbad
            | some j => exact ⟨_, rfl, rfl⟩
      obtain ⟨r, g1, g2⟩ := hres
      refine ⟨r, M, N, Or.inl ⟨?_, ?_, h0.keep hM hN⟩⟩
      · simp only [fX5_taken_l63, fX5_taken_b63, e3, if_pos c]; exact g1
      · simp only [fX6_taken_l37, fX6_taken_b37, chk_of q17, c17, e17, if_pos c]; exact g2
  | succ k ih =>
    intro fu i M N o w hi hf hM hN hB
    obtain ⟨f, rfl, hf'⟩ := fs hf
    have hn := hR.1.2.2
    have c : ¬ nI n ≤ nI i := nI_ge (by omega) (by omega)
    have hi7 : i < 7 := by omega
    have e3 : M 4 3 = nI n := by rw [hM 4 (by omega)]; exact hR.1.1
    have e17 : N 6 17 = nI n := by rw [hN.1 6 (by omega) (by omega) (by omega) (by omega) (by omega)]; exact hR.1.2.1
    obtain ⟨M1, N1, g1, g2, hF⟩ := FR_start hM hN hR
    have hF2 := hF.at hi7 (Or.inr (Or.inl rfl) : okA s 99)
    obtain ⟨m3, g3⟩ := X2_puc' (B := sB o) hB hF2.2.2.okT
    obtain ⟨N3, g4, hk⟩ := X6_clears hF2
    have hk3 : kpM M0 (pS (mp M1 137 i 99) 134 m3) := hF2.1.tr (kpM_pS (by omega))
    have key := ff_min (P := clrA n s (gS (mp M1 137 i 99) 134)) (B := sB o) 61 0 hB
    rw [Nat.zero_add] at key
    simp only [fX5_taken_l63, fX5_taken_b63, fX5_taken_b124, e3, if_neg c, g1, bdV_s, chk_of (bIn_n hi7 (by decide)), nc (show i < 2 ^ 31 by omega), g3, bdI_s, n1a, fX6_taken_l37, fX6_taken_b37, fX6_taken_b95, fX6_taken_b89, chk_of q17, c17, e17, g2, n2a, chk_of (bIn_n (show 2 + i < 25 by omega) (by decide)), nc (show 2 + i < 2 ^ 31 by omega), g4]
    rw [key]
    cases hff : ff (clrA n s (gS (mp M1 137 i 99) 134)) 61 0 with
    | none =>
      simp only [oI_none, eq_self, if_true]
      exact ih f (i + 1) _ _ o w (by omega) (by omega) hk3 hk hB
    | some j =>
      have hj := ff_lt 61 0 j hff
      have hjn : ¬ nI j = -1000000 := oI_ne (by omega)
      by_cases hjB : j < sB o
      · simp only [if_pos hjB, oI_some, if_neg hjn]
        have hgo : ∃ r M' N', fX5_taken_l63 p f (nI (sB (some j))) (nI i) (nI (i + 1)) (pS (mp M1 137 i 99) 134 m3) = some (r, M') ∧ fX6_taken_l37 p f (oI (some j)) (nI i) (nI (i + 1)) N3 = some (r, N') ∧ RR M' N' := by
          obtain ⟨r, M', N', hh | hh⟩ := ih f (i + 1) _ _ (some j) (nI i) (by omega) (by omega) hk3 hk (by show j ≤ 61; omega)
          · exact ⟨r, M', N', hh⟩
          · cases hh.2
        obtain ⟨r, M', N', q1, q2, q3⟩ := hgo
        refine ⟨r, M', N', Or.inl ⟨q1, ?_, q3⟩⟩
        cases o with
        | none =>
          rw [oI_none, if_pos rfl]
          exact q2
        | some jo =>
          have hjo : jo ≤ 61 := hB
          have hlt : ¬ nI jo ≤ nI j := nI_ge hjB (by omega)
          rw [oI_some, if_neg (oI_ne (by omega)), if_neg hlt]
          exact q2
      · simp only [if_neg hjB, oI_none, oI_some, eq_self, if_true, if_neg hjn]
        obtain ⟨r, M', N', hh | hh⟩ := ih f (i + 1) _ _ o w (by omega) (by omega) hk3 hk hB
        · refine ⟨r, M', N', Or.inl ⟨hh.1, ?_, hh.2.2⟩⟩
          cases o with
          | none => exact absurd (show j < 61 by omega) hjB
          | some jo =>
            have hjo : jo ≤ 61 := hB
            have hle : nI jo ≤ nI j := nI_le (by have : ¬ j < jo := hjB; omega) (by omega)
            rw [oI_some, if_neg (oI_ne (by omega)), if_pos hle]
            exact hh.2.1
        · exact ⟨r, M', N', Or.inr hh⟩
theorem q_taken (x : Int32) : EqI (fX5_taken x) (fX6_taken x) := fun M N h => by
  obtain ⟨n, s, hR, ha⟩ := h.1
  have e1 : M 4 3 = nI n := hR.1.1
  unfold fX5_taken fX6_taken
  simp only [X5_noStair e1 hR.1.2.2, X6_isStair hR.1.2.1 hR.1.2.2, X5_outside, X6_inB, bdP_s]
  by_cases h0 : n = 0
  · simp only [h0, decide_true, Bool.not_true, b2i_f, b2i_t, i10, eq_self, if_true, if_false]
    exact ⟨_, M, N, rfl, rfl, h⟩
  · simp only [h0, decide_false, Bool.not_false, b2i_f, b2i_t, i10, eq_self, if_true, if_false]
    by_cases hb : inB x 0 1 = true
    · simp only [hb, Bool.not_true, Bool.not_false, b2i_f, b2i_t, i10, eq_self, if_true, if_false]
      obtain ⟨M1, N1, g1, g2, hF⟩ := FR_start kpM.rf kpN.rf hR
      rw [g1, g2]
      simp only [bdV_s]
      obtain ⟨m', g3⟩ := X2_puc (b := 60) (by omega) hF.2.2.okT
      obtain ⟨N', g4, hk⟩ := X6_clears hF
      rw [show (60 : Int32) = nI 60 from rfl, g3, g4]
      simp only [bdI_s, fX5_taken_b55]
      have hk3 : kpM M (pS M1 134 m') := hF.1.tr (kpM_pS (by omega))
      have hsb : sB (ff (clrA n s (gS M1 134)) (60 + 1) 0) ≤ 61 := by
        cases hff : ff (clrA n s (gS M1 134)) (60 + 1) 0 with
        | none => exact Nat.le_refl _
        | some j => have := ff_lt (60 + 1) 0 j hff; show j ≤ 61; omega
      obtain ⟨r, M', N'', hh | hh⟩ := taken_l (p := x) h hR n FU 0 (pS M1 134 m') N' (ff (clrA n s (gS M1 134)) (60 + 1) 0) (-1000000) (by omega) (by have := FU_eq; have := hR.1.2.2; omega) hk3 hk hsb
      · refine ⟨r, M', N'', ?_, hh.2.1, hh.2.2⟩
        have q1 := hh.1
        cases hff : ff (clrA n s (gS M1 134)) (60 + 1) 0 with
        | none => rw [hff] at q1; simp only [oI_none, eq_self, if_true]; exact q1
        | some j =>
          rw [hff] at q1
          have := ff_lt (60 + 1) 0 j hff
          simp only [oI_some, if_neg (oI_ne (show j < 2 ^ 31 by omega))]
          exact q1
      · exact absurd rfl hh.1
    · rw [Bool.not_eq_true] at hb
      simp only [hb, Bool.not_true, Bool.not_false, b2i_f, b2i_t, i10, eq_self, if_true, if_false]
      exact ⟨_, M, N, rfl, rfl, h⟩
