/-! foretold: off, clear -/
def oI : Option Nat → Int32
  | some j => nI j
  | none => -1000000
def oIa (i : Nat) : Option Nat → Int32
  | some j => nI (i + j)
  | none => -1000000
theorem oIa_0 (x : Option Nat) : oIa 0 x = oI x := by cases x <;> simp [oIa, oI]
theorem ff_sh (P : Nat → Bool) : ∀ (k i : Nat), ff P k (i + 1) = (ff (fun j => P (j + 1)) k i).map (· + 1)
  | 0, _ => rfl
  | k + 1, i => by
    show (if P (i + 1) = true then some (i + 1) else ff P k (i + 1 + 1)) = (if P (i + 1) = true then some i else ff (fun j => P (j + 1)) k (i + 1)).map (· + 1)
    rw [ff_sh P k (i + 1)]
    split <;> rfl
theorem ff_1 (P : Nat → Bool) (k : Nat) : ff P (k + 1) 0 = if P 0 = true then some 0 else (ff (fun j => P (j + 1)) k 0).map (· + 1) := by
  show (if P 0 = true then some 0 else ff P k (0 + 1)) = _
  rw [ff_sh]
theorem oIa_s (i : Nat) (x : Option Nat) : oIa i (x.map (· + 1)) = oIa (i + 1) x := by
  cases x with
  | none => rfl
  | some j =>
    show nI (i + (j + 1)) = nI (i + 1 + j)
    rw [show i + (j + 1) = i + 1 + j by omega]
theorem ff_none {P : Nat → Bool} : ∀ (k i : Nat), (∀ j, P j = false) → ff P k i = none
  | 0, _, _ => rfl
  | k + 1, i, h => by
    unfold ff
    rw [h i, if_neg (by decide)]
    exact ff_none k (i + 1) h
def offA (n s : Nat) (m : Mem) (r j : Nat) : Bool := decide (sqM n s m j r = 99)
def clrA (n s : Nat) (m : Mem) (j : Nat) : Bool := aOff n (sqM n s m j)
theorem off_rest {n s r : Nat} {m : Mem} (h : okT m n s) (hr : r < n) (h0 : m 0 1 = 0) : ∀ (k : Nat), offA n s m r k = decide (m 3 r = 99) := by
  intro k
  induction k generalizing m with
  | zero => rfl
  | succ k ih =>
    obtain ⟨m', -, ok', hq, hsp⟩ := h.pass
    have e : offA n s m r (k + 1) = offA n s m' r k := by unfold offA; rw [hq k]
    rw [e, ih ok' (hsp.trans h0)]
    have e1 : m' 3 = sqM n s m 1 := by rw [← hq 0]; rfl
    rw [e1]
    have e2 : (sqM n s m 1 r = 99) = (m 3 r = 99) := by
      show (tkA n s (m 0 0) (m 0 1) (m 1) (m 2) (odB (m 0 2)) (m 3) r = 99) = _
      rw [h0]
      exact tkA_rest h.1.2.2.1 h.1.2.2.2.1 (fun q hq => (h.1.2.2.2.2 q hq).2) hr
    simp only [e2]
theorem X2_nobody {m : Mem} : fX2_nobodyGoesOff m = some (b2i (decide (m 0 1 = 0))) := by
  unfold fX2_nobodyGoesOff
  by_cases h : m 0 1 = 0 <;> simp [h, b2i]
theorem X2_puo_l {n s r b : Nat} (hr : r < n) (hb : b < 900) : ∀ (k fu i : Nat) (m : Mem), i + k = b + 1 → k < fu → okT m n s → ∃ m', fX2_passUntilOff_l2 (nI r) (nI b) fu (nI i) m = some (oIa i (ff (offA n s m r) k 0), m') := by
  intro k
  induction k with
  | zero =>
    intro fu i m hi hf ok
    obtain ⟨f, rfl, -⟩ := fs hf
    have c : nI b < nI i := nI_lt (by omega) (by omega)
    refine ⟨m, ?_⟩
    simp only [fX2_passUntilOff_l2, fX2_passUntilOff_b2, if_pos c]
    rfl
  | succ k ih =>
    intro fu i m hi hf ok
    obtain ⟨f, rfl, hf'⟩ := fs hf
    have c : ¬ nI b < nI i := nI_nlt (by omega) (by omega)
    have hn7 := ok.1.2.1
    simp only [fX2_passUntilOff_l2, fX2_passUntilOff_b2, if_neg c, chk_of (bIn_n (show r < 7 by omega) (by decide)), nc (show r < 2 ^ 31 by omega), X2_nobody, bdP_s, b2i_0]
    rw [ff_1]
    by_cases h99 : m 3 r = 99
    · rw [if_pos h99, if_pos (show offA n s m r 0 = true from decide_eq_true h99)]
      exact ⟨m, rfl⟩
    · rw [if_neg h99, if_neg (show ¬ offA n s m r 0 = true from fun z => h99 (of_decide_eq_true z))]
      by_cases h0 : m 0 1 = 0
      · rw [if_neg (by simp [h0])]
        refine ⟨m, ?_⟩
        rw [ff_none (P := fun j => offA n s m r (j + 1)) k 0 (fun j => by rw [off_rest ok hr h0]; exact decide_eq_false h99)]
        rfl
      · rw [if_pos (by simp [h0])]
        obtain ⟨m1, g, ok', hq, -⟩ := ok.pass
        rw [g]
        simp only [bdI_s, n1a]
        obtain ⟨m2, g2⟩ := ih f (i + 1) m1 (by omega) (by omega) ok'
        refine ⟨m2, ?_⟩
        rw [g2, oIa_s]
        congr 3
        exact ff_congr k 0 (fun j _ _ => by unfold offA; rw [hq j])
theorem X2_puo {n s r b : Nat} {m : Mem} (hr : r < n) (hb : b < 900) (ok : okT m n s) : ∃ m', fX2_passUntilOff (nI r) (nI b) m = some (oI (ff (offA n s m r) (b + 1) 0), m') := by
  obtain ⟨m', h⟩ := X2_puo_l hr hb (b + 1) FU 0 m (by omega) (by have := FU_eq; omega) ok
  exact ⟨m', by rw [← oIa_0]; exact h⟩
theorem X2_puc_l {n s b : Nat} (hb : b < 900) : ∀ (k fu i : Nat) (m : Mem), i + k = b + 1 → k < fu → okT m n s → ∃ m', fX2_passUntilClear_l2 (nI b) fu (nI i) m = some (oIa i (ff (clrA n s m) k 0), m') := by
  intro k
  induction k with
  | zero =>
    intro fu i m hi hf ok
    obtain ⟨f, rfl, -⟩ := fs hf
    have c : nI b < nI i := nI_lt (by omega) (by omega)
    refine ⟨m, ?_⟩
    simp only [fX2_passUntilClear_l2, fX2_passUntilClear_b2, if_pos c]
    rfl
  | succ k ih =>
    intro fu i m hi hf ok
    obtain ⟨f, rfl, hf'⟩ := fs hf
    have c : ¬ nI b < nI i := nI_nlt (by omega) (by omega)
    simp only [fX2_passUntilClear_l2, fX2_passUntilClear_b2, if_neg c, X2_isClear ok.1.1 ok.1.2.1, X2_nobody, bdP_s, b2i_0]
    rw [ff_1]
    by_cases h99 : aOff n (m 3) = true
    · rw [if_neg (by simp [h99]), if_pos (show clrA n s m 0 = true from h99)]
      exact ⟨m, rfl⟩
    · rw [if_pos (by simpa using h99), if_neg (show ¬ clrA n s m 0 = true from h99)]
      by_cases h0 : m 0 1 = 0
      · rw [if_neg (by simp [h0])]
        refine ⟨m, ?_⟩
        rw [ff_none (P := fun j => clrA n s m (j + 1)) k 0 (fun j => by
          show aOff n (sqM n s m (j + 1)) = false
          rw [aOff_rest ok h0]; simpa using h99)]
        rfl
      · rw [if_pos (by simp [h0])]
        obtain ⟨m1, g, ok', hq, -⟩ := ok.pass
        rw [g]
        simp only [bdI_s, n1a]
        obtain ⟨m2, g2⟩ := ih f (i + 1) m1 (by omega) (by omega) ok'
        refine ⟨m2, ?_⟩
        rw [g2, oIa_s]
        congr 3
        exact ff_congr k 0 (fun j _ _ => by unfold clrA; rw [hq j])
theorem X2_puc {n s b : Nat} {m : Mem} (hb : b < 900) (ok : okT m n s) : ∃ m', fX2_passUntilClear (nI b) m = some (oI (ff (clrA n s m) (b + 1) 0), m') := by
  obtain ⟨m', h⟩ := X2_puc_l hb (b + 1) FU 0 m (by omega) (by have := FU_eq; omega) ok
  exact ⟨m', by rw [← oIa_0]; exact h⟩
/-! the reference, by the class's own words of what comes -/
theorem sqM_tick {n s : Nat} {m m' : Mem} {k : Nat} (h3 : m' 3 = tkA n s (m 0 0) (m 0 1) (m 1) (m 2) (odB (m 0 2)) (m 3)) (h1 : m' 1 = m 1) (h2 : m' 2 = m 2) (h0 : ∀ k, k ≠ 2 → m' 0 k = m 0 k) (ht : m' 0 2 = m 0 2 + 1) : sqM n s m' k = sqM n s m (k + 1) := by
  unfold sqM
  rw [h3, h1, h2, h0 0 (by omega), h0 1 (by omega), ht]
  rfl
theorem sqM_pS {n s : Nat} {M m : Mem} {c k : Nat} : sqM n s (gS (pS M c m) c) k = sqM n s m k := by
  unfold sqM
  rw [gS_pS 0 (by omega), gS_pS 1 (by omega), gS_pS 2 (by omega), gS_pS 3 (by omega)]
/-- both tick, and what comes then is what came behind one tick -/
theorem FR.tk {M0 N0 M N : Mem} {n s : Nat} (h : FR M0 N0 M N n s) : ∃ (r : Int32) (m' N' : Mem), fX2_pass (gS M 134) = some (r, m') ∧ fX6_tick 11 N = some N' ∧ FR M0 N0 (pS M 134 m') N' n s ∧ ∀ k, sqM n s (gS (pS M 134 m') 134) k = sqM n s (gS M 134) (k + 1) := by
  obtain ⟨m', N', g1, g2, h1, hR, h3, h4, h5, h6⟩ := h.tick
  refine ⟨_, m', N', g1, g2, h1, fun k => ?_⟩
  rw [sqM_pS]
  refine sqM_tick h3 h4 h5 h6 ?_
  have h8 := hR.2.2.2.1
  obtain ⟨row', w', t1, t2, t3, t4⟩ := X6_tick (M := N) (c := 11) (n := n) (s := s) (by omega) h.2.2.1.2.1 h.2.2.1.2.2 h.2.2.2.1.2.1 h.2.2.2.1.2.2.1
  rw [g2] at t1
  have e : N' 11 = row' := by rw [Option.some.inj t1]; exact TT_c (by omega)
  rw [h8, e, t3]
  have := h.2.2.2.2.2.1
  rw [this]
theorem X6_off_l {n s r : Nat} {M0 N0 : Mem} (hr : r < n) : ∀ (k fu i : Nat) (M N : Mem), i + k = 61 → k < fu → FR M0 N0 M N n s → ∃ N', fX6_off_l17 (nI r) fu (nI i) N = some (oIa i (ff (offA n s (gS M 134) r) k 0), N') ∧ kpN N0 N' := by
  intro k
  induction k with
  | zero =>
    intro fu i M N hi hf h
    obtain ⟨f, rfl, -⟩ := fs hf
    have c : (60 : Int32) < nI i := nI_lt (a := 60) (by omega) (by omega)
    refine ⟨N, ?_, h.2.1⟩
    simp only [fX6_off_l17, fX6_off_b17, if_pos c]
    rfl
  | succ k ih =>
    intro fu i M N hi hf h
    obtain ⟨f, rfl, hf'⟩ := fs hf
    have c : ¬ (60 : Int32) < nI i := nI_nlt (a := 60) (by omega) (by omega)
    have hn7 := h.2.2.1.2.2
    obtain ⟨rr, m', N1, g1, g2, h1, hq⟩ := h.tk
    have e3 : N 11 (2 + r) = gS M 134 3 r := (h.2.2.2.2.2.2 r hr).1.2.2.symm
    simp only [fX6_off_l17, fX6_off_b17, if_neg c, n2a, chk_of (bIn_n (show 2 + r < 25 by omega) (by decide)), nc (show 2 + r < 2 ^ 31 by omega), g2, bdV_s, n1a, e3]
    rw [ff_1]
    by_cases h99 : gS M 134 3 r = 99
    · rw [if_pos h99, if_pos (show offA n s (gS M 134) r 0 = true from decide_eq_true h99)]
      exact ⟨N, rfl, h.2.1⟩
    · rw [if_neg h99, if_neg (show ¬ offA n s (gS M 134) r 0 = true from fun z => h99 (of_decide_eq_true z))]
      obtain ⟨N2, g3, h3⟩ := ih f (i + 1) _ N1 (by omega) (by omega) h1
      refine ⟨N2, ?_, h3⟩
      rw [g3, oIa_s]
      congr 3
      exact ff_congr k 0 (fun j _ _ => by unfold offA; rw [hq j])
theorem X6_clears_l {n s : Nat} {M0 N0 : Mem} : ∀ (k fu i : Nat) (M N : Mem), i + k = 61 → k < fu → FR M0 N0 M N n s → ∃ N', fX6_clears_l2 fu (nI i) N = some (oIa i (ff (clrA n s (gS M 134)) k 0), N') ∧ kpN N0 N' := by
  intro k
  induction k with
  | zero =>
    intro fu i M N hi hf h
    obtain ⟨f, rfl, -⟩ := fs hf
    have c : (60 : Int32) < nI i := nI_lt (a := 60) (by omega) (by omega)
    refine ⟨N, ?_, h.2.1⟩
    simp only [fX6_clears_l2, fX6_clears_b2, if_pos c]
    rfl
  | succ k ih =>
    intro fu i M N hi hf h
    obtain ⟨f, rfl, hf'⟩ := fs hf
    have c : ¬ (60 : Int32) < nI i := nI_nlt (a := 60) (by omega) (by omega)
    have hn7 := h.2.2.1.2.2
    obtain ⟨rr, m', N1, g1, g2, h1, hq⟩ := h.tk
    have hcn : cN (offP (rA (N 11))) n = cN (offP (gS M 134 3)) n := cN_congr n (fun q hq => by unfold offP; rw [h.2.2.ag3 q hq])
    have hle := cN_le (offP (gS M 134 3)) n
    have e : (nI (cN (offP (gS M 134 3)) n) = nI n) = (cN (offP (gS M 134 3)) n = n) := propext (nI_eq (by omega) (by omega))
    simp only [fX6_clears_l2, fX6_clears_b2, if_neg c, h.2.2.offN (m' := gC N 11) rfl, bdP_s, chk_of q17, c17, h.2.2.1.2.1, hcn, e, g2, bdV_s, n1a]
    rw [ff_1]
    by_cases h99 : cN (offP (gS M 134 3)) n = n
    · rw [if_pos h99, if_pos (show clrA n s (gS M 134) 0 = true from decide_eq_true h99)]
      exact ⟨N, rfl, h.2.1⟩
    · rw [if_neg h99, if_neg (show ¬ clrA n s (gS M 134) 0 = true from fun z => h99 (of_decide_eq_true z))]
      obtain ⟨N2, g3, h3⟩ := ih f (i + 1) _ N1 (by omega) (by omega) h1
      refine ⟨N2, ?_, h3⟩
      rw [g3, oIa_s]
      congr 3
      exact ff_congr k 0 (fun j _ _ => by unfold clrA; rw [hq j])
theorem X6_clears {n s : Nat} {M0 N0 M N : Mem} (h : FR M0 N0 M N n s) : ∃ N', fX6_clears N = some (oI (ff (clrA n s (gS M 134)) 61 0), N') ∧ kpN N0 N' := by
  obtain ⟨N', g, hk⟩ := X6_clears_l 61 FU 0 M N (by omega) (by have := FU_eq; omega) h
  exact ⟨N', by rw [← oIa_0]; exact g, hk⟩
theorem q_off (x : Int32) : EqI (fX5_off x) (fX6_off x) := fun M N h => by
  obtain ⟨n, s, hR, ha⟩ := h.1
  have e1 : M 4 3 = nI n := hR.1.1
  have hn := hR.1.2.2
  unfold fX5_off fX6_off
  simp only [X5_noRider e1, X6_isRider hR.1.2.1, bdP_s]
  by_cases hb : inB x 0 (nI n - 1) = true
  · obtain ⟨r, hr, rfl⟩ := inB_r (by omega) hb
    simp only [hb, Bool.not_true, Bool.not_false, b2i_f, b2i_t, i10, eq_self, if_true, if_false]
    obtain ⟨M1, N1, g1, g2, hF⟩ := FR_start kpM.rf kpN.rf hR
    rw [g1, g2]
    simp only [bdV_s]
    obtain ⟨m', g3⟩ := X2_puo (b := 60) hr (by omega) hF.2.2.okT
    obtain ⟨N', g4, hk⟩ := X6_off_l hr 61 FU 0 M1 N1 (by omega) (by have := FU_eq; omega) hF
    rw [show (60 : Int32) = nI 60 from rfl, g3, show (0 : Int32) = nI 0 from rfl, g4, oIa_0]
    simp only [bdI_s]
    exact ⟨_, _, _, rfl, rfl, h.keep (hF.1.tr (kpM_pS (by omega))) hk⟩
  · rw [Bool.not_eq_true] at hb
    simp only [hb, Bool.not_true, Bool.not_false, b2i_f, b2i_t, i10, eq_self, if_true, if_false]
    exact ⟨_, M, N, rfl, rfl, h⟩
theorem q_clear : EqI fX5_clear fX6_clear := fun M N h => by
  obtain ⟨n, s, hR, ha⟩ := h.1
  have e1 : M 4 3 = nI n := hR.1.1
  unfold fX5_clear fX6_clear
  simp only [X5_noStair e1 hR.1.2.2, X6_isStair hR.1.2.1 hR.1.2.2, bdP_s]
  by_cases h0 : n = 0
  · simp only [h0, decide_true, Bool.not_true, b2i_f, b2i_t, i10, eq_self, if_true, if_false]
    exact ⟨_, M, N, rfl, rfl, h⟩
  · simp only [h0, decide_false, Bool.not_false, b2i_f, b2i_t, i10, eq_self, if_true, if_false]
    obtain ⟨M1, N1, g1, g2, hF⟩ := FR_start kpM.rf kpN.rf hR
    rw [g1, g2]
    simp only [bdV_s]
    obtain ⟨m', g3⟩ := X2_puc (b := 60) (by omega) hF.2.2.okT
    obtain ⟨N', g4, hk⟩ := X6_clears hF
    rw [show (60 : Int32) = nI 60 from rfl, g3, g4]
    simp only [bdI_s]
    exact ⟨_, _, _, rfl, rfl, h.keep (hF.1.tr (kpM_pS (by omega))) hk⟩
