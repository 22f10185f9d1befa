/-! ticks, speed, take, again, cross, undo -/
theorem gS4 {M : Mem} {i k : Nat} {v : Int32} : gS (mp M (4 + i) k v) 4 = mp (gS M 4) i k v := gS_mp
theorem q_speed (x : Int32) : EqI (fX5_speed x) (fX6_speed x) := fun M N h => by
  obtain ⟨n, s, hR, ha⟩ := h.1
  have e1 : M 4 3 = nI n := hR.1.1
  unfold fX5_speed fX6_speed
  simp only [X5_noStair e1 hR.1.2.2, X6_isStair hR.1.2.1 hR.1.2.2, X5_outside, X6_inB, bdP_s]
  by_cases h0 : n = 0
  · simp only [h0, decide_true, Bool.not_true, b2i_f, b2i_t, i10, eq_self, if_true, if_false]
    exact ⟨_, M, N, rfl, rfl, h⟩
  · simp only [h0, decide_false, Bool.not_false, b2i_f, b2i_t, i10, eq_self, if_true, if_false]
    by_cases hb : inB x 0 2 = true
    · simp only [hb, Bool.not_true, Bool.not_false, b2i_f, b2i_t, i10, eq_self, if_true, if_false]
      obtain ⟨v, hv, rfl⟩ := inB_n (k := 2) (by decide) hb
      obtain ⟨M', N', g1, g2, hM, hN, hR', ha', h'⟩ := h.kept hR ha
      rw [g1, g2]
      simp only [bdV_s, chk_of q1_25, c1_]
      have hv' : nI v = 0 ∨ nI v = 1 ∨ nI v = 2 := by
        have : v = 0 ∨ v = 1 ∨ v = 2 := by omega
        rcases this with rfl | rfl | rfl
        · exact Or.inl rfl
        · exact Or.inr (Or.inl rfl)
        · exact Or.inr (Or.inr rfl)
      refine ⟨M 4 1, mp M' 4 1 (nI v), mp N' 6 1 (nI v), rfl, ?_, h'.now ha' (fun i hi => va_ne (by omega)) (fun i h6 _ => va_ne h6) (fun j hj _ => mp_k (by omega)) ?_⟩
      · rw [hN 6 (by omega) (by omega), show M 4 1 = N 6 1 from hR.2.2.1.1]
      · rw [show gS (mp M' 4 1 (nI v)) 4 = mp (gS M' 4) 0 1 (nI v) from gS4 (i := 0), show (mp N' 6 1 (nI v)) 6 = upd (N' 6) 1 (nI v) from va_up_self _ _ _]
        exact hR'.speed hv'
    · rw [Bool.not_eq_true] at hb
      simp only [hb, Bool.not_true, Bool.not_false, b2i_f, b2i_t, i10, eq_self, if_true, if_false]
      exact ⟨_, M, N, rfl, rfl, h⟩
theorem q_take (x : Int32) : EqI (fX5_take x) (fX6_take x) := fun M N h => by
  obtain ⟨n, s, hR, ha⟩ := h.1
  have e1 : M 4 3 = nI n := hR.1.1
  have hn := hR.1.2.2
  unfold fX5_take fX6_take
  simp only [X5_noRider e1, X6_isRider hR.1.2.1, bdP_s]
  by_cases hb : inB x 0 (nI n - 1) = true
  · obtain ⟨r, hr, rfl⟩ := inB_r (by omega) hb
    have e3 : M 7 r = N 6 (2 + r) := (hR.2.2.2.2 r hr).1.2.2
    simp only [hb, Bool.not_true, Bool.not_false, b2i_f, b2i_t, i10, eq_self, if_true, if_false, n2a, chk_of (bIn_n (show r < 7 by omega) (by decide)), chk_of (bIn_n (show 2 + r < 25 by omega) (by decide)), nc (show r < 2 ^ 31 by omega), nc (show 2 + r < 2 ^ 31 by omega), e3]
    by_cases h99 : N 6 (2 + r) = 99
    · rw [if_pos h99, if_pos h99]
      exact ⟨_, M, N, rfl, rfl, h⟩
    · rw [if_neg h99, if_neg h99]
      obtain ⟨M', N', g1, g2, hM, hN, hR', ha', h'⟩ := h.kept hR ha
      rw [g1, g2]
      simp only [bdV_s]
      refine ⟨_, mp M' 7 r 99, mp N' 6 (2 + r) 99, rfl, rfl, h'.now ha' (fun i hi => va_ne (by omega)) (fun i h6 _ => va_ne h6) (fun j hj _ => mp_k (by omega)) ?_⟩
      rw [show gS (mp M' 7 r 99) 4 = mp (gS M' 4) 3 r 99 from gS4 (i := 3), show (mp N' 6 (2 + r) 99) 6 = upd (N' 6) (2 + r) 99 from va_up_self _ _ _]
      exact hR'.at (by omega) (Or.inr (Or.inl rfl))
  · rw [Bool.not_eq_true] at hb
    simp only [hb, Bool.not_true, Bool.not_false, b2i_f, b2i_t, i10, eq_self, if_true, if_false]
    exact ⟨_, M, N, rfl, rfl, h⟩
/-- how many are off, both count alike -/
theorem RS.off {m : Mem} {row : Nat → Int32} {n s : Nat} (h : RS m row n s) : fX2_howManyAt 99 m = some (nI (cN (offP (rA row)) n)) := by
  rw [X2_howManyAt h.1.1 h.1.2.2]
  congr 2
  exact cN_congr n (fun r hr => by unfold offP; rw [h.ag3 r hr])
theorem RS.offN {m : Mem} {row : Nat → Int32} {n s : Nat} (h : RS m row n s) {m' : Mem} (e : m' 0 = row) : fX6_offIn m' = some (nI (cN (offP (rA row)) n)) := by
  rw [X6_offIn (n := n) (by rw [e]; exact h.1.2.1) h.1.2.2, e]
theorem q_again (x y : Int32) : EqI (fX5_again x y) (fX6_again x y) := fun M N h => by
  obtain ⟨n, s, hR, ha⟩ := h.1
  have e1 : M 4 3 = nI n := hR.1.1
  have hn := hR.1.2.2
  unfold fX5_again fX6_again
  simp only [X5_noRider e1, X6_isRider hR.1.2.1, X5_outside, X6_inB, bdP_s]
  by_cases hb : inB x 0 (nI n - 1) = true
  · obtain ⟨r, hr, rfl⟩ := inB_r (by omega) hb
    have e3 : M 7 r = N 6 (2 + r) := (hR.2.2.2.2 r hr).1.2.2
    simp only [hb, Bool.not_true, Bool.not_false, b2i_f, b2i_t, i10, eq_self, if_true, if_false, n2a, n9a, chk_of (bIn_n (show r < 7 by omega) (by decide)), chk_of (bIn_n (show 2 + r < 25 by omega) (by decide)), chk_of (bIn_n (show 9 + r < 25 by omega) (by decide)), nc (show r < 2 ^ 31 by omega), nc (show 2 + r < 2 ^ 31 by omega), nc (show 9 + r < 2 ^ 31 by omega), e3]
    by_cases hl : inB y 0 1 = true
    · obtain ⟨l, hl1, rfl⟩ := inB_n (k := 1) (by decide) hl
      simp only [hl, Bool.not_true, Bool.not_false, b2i_f, b2i_t, i10, eq_self, if_true, if_false]
      by_cases h99 : N 6 (2 + r) = 99
      · rw [if_pos h99, if_pos h99]
        obtain ⟨M', N', g1, g2, hM, hN, hR', ha', h'⟩ := h.kept hR ha
        rw [g1, g2]
        have hol : okL (nI l) := by
          have : l = 0 ∨ l = 1 := by omega
          rcases this with rfl | rfl
          · exact Or.inl rfl
          · exact Or.inr rfl
        have hRs : RS (mp (mp (gS M' 4) 3 r (-1)) 2 r (nI l)) (upd (upd (N' 6) (2 + r) (-1)) (9 + r) (nI l)) n s := (hR'.at (q := r) (v := -1) (by omega) (Or.inl rfl)).lane (by omega) hol
        have hsb : fX2_sendBack (nI r) (nI l) (gS M' 4) = some (mp (mp (gS M' 4) 3 r (-1)) 2 r (nI l)) := by
          unfold fX2_sendBack
          rw [chk_of (bIn_n (by omega) (by decide)), chk_of (bIn_n (by omega) (by decide)), nc (by omega)]
        simp only [bdV_s, hsb]
        have hRp := RS.pS (M := M') (c := 4) hRs
        have e6 : (mp (mp N' 6 (2 + r) (-1)) 6 (9 + r) (nI l)) 6 = upd (upd (N' 6) (2 + r) (-1)) (9 + r) (nI l) := by rw [mp_at, va_up_self, mp_at, va_up_self]
        rw [hRp.off, hRs.offN (m' := gC (mp (mp N' 6 (2 + r) (-1)) 6 (9 + r) (nI l)) 6) e6]
        simp only [bdP_s]
        refine ⟨_, _, _, rfl, rfl, h'.now ha' (fun i hi => pS_out (by omega)) (fun i h6 _ => by rw [va_ne h6, va_ne h6]) (fun j hj _ => by rw [mp_k (by omega), mp_k (by omega)]) ?_⟩
        rw [e6]
        exact hRp
      · rw [if_neg h99, if_neg h99]
        exact ⟨_, M, N, rfl, rfl, h⟩
    · rw [Bool.not_eq_true] at hl
      simp only [hl, Bool.not_true, Bool.not_false, b2i_f, b2i_t, i10, eq_self, if_true, if_false]
      exact ⟨_, M, N, rfl, rfl, h⟩
  · rw [Bool.not_eq_true] at hb
    simp only [hb, Bool.not_true, Bool.not_false, b2i_f, b2i_t, i10, eq_self, if_true, if_false]
    exact ⟨_, M, N, rfl, rfl, h⟩
theorem RR.ticks {n s t : Nat} (ht : t ≤ 24) : ∀ (k fu i : Nat) (M N : Mem), i + k = t → k < fu → RR M N → RS (gS M 4) (N 6) n s → actsR M N n s → ∃ r M' N', fX5_ticks_l43 (nI t) fu (nI i) M = some (r, M') ∧ fX6_ticks_l42 (nI t) fu (nI i) N = some (r, N') ∧ RR M' N' := by
  intro k
  induction k with
  | zero =>
    intro fu i M N hi hf h hR ha
    obtain ⟨f, rfl, -⟩ := fs hf
    have c : nI t ≤ nI i := nI_le (by omega) (by omega)
    refine ⟨nI (cN (offP (rA (N 6))) n), M, N, ?_, ?_, h⟩
    · simp only [fX5_ticks_l43, fX5_ticks_b43, if_pos c, hR.off, bdP_s]
    · simp only [fX6_ticks_l42, fX6_ticks_b42, if_pos c, hR.offN (m' := gC N 6) rfl, bdP_s]
  | succ k ih =>
    intro fu i M N hi hf h hR ha
    obtain ⟨f, rfl, hf'⟩ := fs hf
    have c : ¬ nI t ≤ nI i := nI_ge (by omega) (by omega)
    obtain ⟨M', N', g1, g2, hM, hN, hR', ha', h'⟩ := h.kept hR ha
    obtain ⟨m2, row', w', p1, p2, hR2, -⟩ := hR'.tick (N := N') (c := 6) (by omega) rfl
    have e6 : (TT N' 6 row' w') 6 = row' := TT_c (by omega)
    have hRp := RS.pS (M := M') (c := 4) hR2
    have hrow : ∀ j, 16 ≤ j → j < 25 → row' j = N' 6 j := by
      obtain ⟨row2, w2, q1, q2, q3, q4⟩ := X6_tick (M := N') (c := 6) (n := n) (s := s) (by omega) hR'.1.2.1 hR'.1.2.2 hR'.2.1.2.1 hR'.2.1.2.2.1
      rw [p2] at q1
      have e := congrFun (Option.some.inj q1) 6
      rw [e6, TT_c (by omega)] at e
      intro j h1 _
      rw [e]
      exact q2 j (by omega) (by omega)
    have hRR : RR (pS M' 4 m2) (TT N' 6 row' w') := h'.now ha' (fun i hi => pS_out (by omega)) (fun i h6 h12 => by unfold TT; rw [va_up_ne _ _ h12, va_up_ne _ _ h6]) (fun j h1 h2 => by rw [e6]; exact hrow j h1 h2) (by rw [e6]; exact hRp)
    have ha2 : actsR (pS M' 4 m2) (TT N' 6 row' w') n s := actsR_c (fun i _ _ => pS_out (by omega)) (fun j h1 h2 => by rw [e6]; exact hrow j h1 h2) (by unfold TT; rw [va_up_ne _ _ (by omega), va_up_ne _ _ (by omega)]) (by unfold TT; rw [va_up_ne _ _ (by omega), va_up_ne _ _ (by omega)]) ha'
    obtain ⟨r, M3, N3, i1, i2, i3⟩ := ih f (i + 1) _ _ (by omega) (by omega) hRR (by rw [e6]; exact hRp) ha2
    refine ⟨r, M3, N3, ?_, ?_, i3⟩
    · simp only [fX5_ticks_l43, fX5_ticks_b43, if_neg c, g1, bdV_s, p1, bdI_s, n1a]
      exact i1
    · simp only [fX6_ticks_l42, fX6_ticks_b42, if_neg c, g2, bdV_s, p2, n1a]
      exact i2
theorem q_ticks (x : Int32) : EqI (fX5_ticks x) (fX6_ticks x) := fun M N h => by
  obtain ⟨n, s, hR, ha⟩ := h.1
  have e1 : M 4 3 = nI n := hR.1.1
  have e2 : M 4 2 = N 6 0 := hR.2.2.2.1
  unfold fX5_ticks fX6_ticks
  simp only [X5_noStair e1 hR.1.2.2, X6_isStair hR.1.2.1 hR.1.2.2, X5_outside, X6_inB, bdP_s, chk_of q0_25, c0_, e2]
  by_cases h0 : n = 0
  · simp only [h0, decide_true, Bool.not_true, b2i_f, b2i_t, i10, eq_self, if_true, if_false]
    exact ⟨_, M, N, rfl, rfl, h⟩
  · simp only [h0, decide_false, Bool.not_false, b2i_f, b2i_t, i10, eq_self, if_true, if_false]
    by_cases hb : inB x 1 24 = true
    · simp only [hb, Bool.not_true, Bool.not_false, b2i_f, b2i_t, i10, eq_self, if_true, if_false]
      have hb0 : inB x 0 24 = true := by
        unfold inB at hb ⊢
        simp only [Bool.and_eq_true, Bool.not_eq_true', decide_eq_false_iff_not] at hb ⊢
        refine ⟨fun z => hb.1 ?_, hb.2⟩
        have h1 := neg_iff.mp z
        refine i32_lt_of_toInt ?_
        have : (1 : Int32).toInt = 1 := by decide
        omega
      obtain ⟨t, ht, rfl⟩ := inB_n (k := 24) (by decide) hb0
      by_cases hl : N 6 0 + nI t ≤ 9999
      · rw [if_pos hl, if_pos hl]
        exact RR.ticks ht t FU 0 M N (by omega) (by have := FU_eq; omega) h hR ha
      · rw [if_neg hl, if_neg hl]
        exact ⟨_, M, N, rfl, rfl, h⟩
    · rw [Bool.not_eq_true] at hb
      simp only [hb, Bool.not_true, Bool.not_false, b2i_f, b2i_t, i10, eq_self, if_true, if_false]
      exact ⟨_, M, N, rfl, rfl, h⟩
