/-! ahead, later, image, restore -/
def TK : Nat → Mem → Mem → Prop
  | 0, N, N' => N' = N
  | k + 1, N, N' => ∃ N1, fX6_tick 11 N = some N1 ∧ TK k N1 N'
def PK : Nat → Mem → Mem → Prop
  | 0, M, M' => M' = M
  | k + 1, M, M' => ∃ r m1, fX2_pass (gS M 134) = some (r, m1) ∧ PK k (pS M 134 m1) M'
theorem FR.run {M0 N0 : Mem} {n s : Nat} : ∀ (k : Nat) (M N : Mem), FR M0 N0 M N n s → ∃ M' N', PK k M M' ∧ TK k N N' ∧ FR M0 N0 M' N' n s ∧ ∀ j, sqM n s (gS M' 134) j = sqM n s (gS M 134) (k + j)
  | 0, M, N, h => ⟨M, N, rfl, rfl, h, fun j => by rw [Nat.zero_add]⟩
  | k + 1, M, N, h => by
    obtain ⟨r, m', N1, g1, g2, h1, hq⟩ := h.tk
    obtain ⟨M2, N2, p, t, h2, hq2⟩ := FR.run k _ _ h1
    exact ⟨M2, N2, ⟨r, m', g1, p⟩, ⟨N1, g2, t⟩, h2, fun j => by rw [hq2 j, hq, show k + j + 1 = k + 1 + j by omega]⟩
theorem X5_try_l {t : Nat} (ht : t < 900) : ∀ (k fu i : Nat) (M M' : Mem), i + k = t → k < fu → PK k M M' → fX5_tryTicks_l13 (nI t) fu (nI i) M = some M' := by
  intro k
  induction k with
  | zero =>
    intro fu i M M' hi hf h
    obtain ⟨f, rfl, -⟩ := fs hf
    have c : nI t ≤ nI i := nI_le (by omega) (by omega)
    have e : M' = M := h
    simp only [fX5_tryTicks_l13, fX5_tryTicks_b13, if_pos c, e]
  | succ k ih =>
    intro fu i M M' hi hf h
    obtain ⟨f, rfl, hf'⟩ := fs hf
    have c : ¬ nI t ≤ nI i := nI_ge (by omega) (by omega)
    obtain ⟨r, m1, g, p⟩ := h
    simp only [fX5_tryTicks_l13, fX5_tryTicks_b13, if_neg c, g, bdI_s, n1a]
    exact ih f (i + 1) _ M' (by omega) (by omega) p
theorem X6_ahead_l {t r : Nat} (ht : t < 900) (hr : r < 7) : ∀ (k fu i : Nat) (N N' : Mem), i + k = t → k < fu → TK k N N' → fX6_ahead_l27 (nI r) (nI t) fu (nI i) N = some (N' 11 (2 + r), N') := by
  intro k
  induction k with
  | zero =>
    intro fu i N N' hi hf h
    obtain ⟨f, rfl, -⟩ := fs hf
    have c : nI t ≤ nI i := nI_le (by omega) (by omega)
    have e : N' = N := h
    simp only [fX6_ahead_l27, fX6_ahead_b27, if_pos c, e, n2a, chk_of (bIn_n (show 2 + r < 25 by omega) (by decide)), nc (show 2 + r < 2 ^ 31 by omega)]
  | succ k ih =>
    intro fu i N N' hi hf h
    obtain ⟨f, rfl, hf'⟩ := fs hf
    have c : ¬ nI t ≤ nI i := nI_ge (by omega) (by omega)
    obtain ⟨N1, g, p⟩ := h
    simp only [fX6_ahead_l27, fX6_ahead_b27, if_neg c, g, bdV_s, n1a]
    exact ih f (i + 1) _ N' (by omega) (by omega) p
theorem X5_tryTicks {M N : Mem} {n s t : Nat} (hR : RS (gS M 4) (N 6) n s) (ht : t < 900) : ∃ M' N1 N', fX5_tryTicks (nI t) M = some M' ∧ fX6_starts N = some N1 ∧ TK t N1 N' ∧ FR M N M' N' n s := by
  obtain ⟨M1, N1, g1, g2, hF⟩ := FR_start kpM.rf kpN.rf hR
  obtain ⟨M2, N2, p, tk, h2, -⟩ := FR.run t M1 N1 hF
  refine ⟨M2, N1, N2, ?_, g2, tk, h2⟩
  unfold fX5_tryTicks
  rw [g1, bdV_s]
  exact X5_try_l ht t FU 0 M1 M2 (by omega) (by have := FU_eq; omega) p
theorem q_ahead (x y : Int32) : EqI (fX5_ahead x y) (fX6_ahead x y) := fun M N h => by
  obtain ⟨n, s, hR, ha⟩ := h.1
  have e1 : M 4 3 = nI n := hR.1.1
  have hn := hR.1.2.2
  unfold fX5_ahead fX6_ahead
  simp only [X5_noRider e1, X6_isRider hR.1.2.1, X5_outside, X6_inB, bdP_s]
  by_cases hb : inB x 0 (nI n - 1) = true
  · obtain ⟨r, hr, rfl⟩ := inB_r (by omega) hb
    simp only [hb, Bool.not_true, Bool.not_false, b2i_f, b2i_t, i10, eq_self, if_true, if_false]
    by_cases hb2 : inB y 0 60 = true
    · obtain ⟨t, ht, rfl⟩ := inB_n (k := 60) (by decide) hb2
      simp only [hb2, Bool.not_true, Bool.not_false, b2i_f, b2i_t, i10, eq_self, if_true, if_false]
      obtain ⟨M', N1, N', g1, g2, tk, hF⟩ := X5_tryTicks (t := t) hR (by omega)
      rw [g1, g2]
      simp only [bdV_s]
      rw [chk_of (bIn_n (show r < 7 by omega) (by decide)), nc (by omega), show (0 : Int32) = nI 0 from rfl, X6_ahead_l (show t < 900 by omega) (show r < 7 by omega) t FU 0 N1 N' (by omega) (by have := FU_eq; omega) tk]
      refine ⟨N' 11 (2 + r), M', N', ?_, rfl, hF.keep h⟩
      rw [show M' 137 r = N' 11 (2 + r) from (hF.2.2.2.2.2.2 r hr).1.2.2]
    · rw [Bool.not_eq_true] at hb2
      simp only [hb2, Bool.not_true, Bool.not_false, b2i_f, b2i_t, i10, eq_self, if_true, if_false]
      exact ⟨_, M, N, rfl, rfl, h⟩
  · rw [Bool.not_eq_true] at hb
    simp only [hb, Bool.not_true, Bool.not_false, b2i_f, b2i_t, i10, eq_self, if_true, if_false]
    exact ⟨_, M, N, rfl, rfl, h⟩
def sF (A : Nat → Int32) (r : Nat) (acc : Int32) : Int32 := if on (A r) = true then acc ||| ((1 : Int32) <<< (A r &&& 31)) else acc
theorem X2_stepsTaken {m : Mem} {n s : Nat} (ok : okS m n s) : fX2_stepsTaken m = some (it (sF (m 3)) n 0 0) := by
  obtain ⟨hn, hn7, hS, hs, hok⟩ := ok
  unfold fX2_stepsTaken
  refine loopF (L := fX2_stepsTaken_l4 m) (F := sF (m 3)) (fin := fun x => some x) (n := n) (by omega) (fun fu i acc hi => ?_) (fun fu acc => ?_) 0
  · have c : ¬ nI n ≤ nI i := nI_ge hi (by omega)
    simp only [fX2_stepsTaken_l4, fX2_stepsTaken_b4, fX2_stepsTaken_b31, hn, if_neg c, X2_isOn hS hs (show i < 7 by omega) (hok i hi).2, bdP_s, b2i_0, chk_of (bIn_n (show i < 7 by omega) (by decide)), nc (show i < 2 ^ 31 by omega), n1a, sF]
    by_cases h1 : on (m 3 i) = true <;> simp [h1]
  · have c : nI n ≤ nI n := Int32.le_refl _
    simp only [fX2_stepsTaken_l4, fX2_stepsTaken_b4, hn, if_pos c]
theorem X6_later_62 {N : Mem} {n : Nat} {p q : Int32} (hn : N 6 17 = nI n) (hn7 : n ≤ 7) : fX6_later_l62 p q FU 0 0 N = fX6_later_b113 p q (it (sF (rA (N 11))) n 0 0) N := by
  refine loopF (L := fun fu acc i => fX6_later_l62 p q fu acc i N) (F := sF (rA (N 11))) (fin := fun x => fX6_later_b113 p q x N) (n := n) (by omega) (fun fu i acc hi => ?_) (fun fu acc => ?_) 0
  · have c : ¬ nI n ≤ nI i := nI_ge hi (by omega)
    simp only [fX6_later_l62, fX6_later_b62, fX6_later_b105, chk_of q17, c17, hn, if_neg c, n2a, chk_of (bIn_n (show 2 + i < 25 by omega) (by decide)), nc (show 2 + i < 2 ^ 31 by omega), X6_isOn, bdP_s, b2i_0, or_0, n1a, sF, rA]
    by_cases h1 : on (N 11 (2 + i)) = true <;> simp [h1]
  · have c : nI n ≤ nI n := Int32.le_refl _
    simp only [fX6_later_l62, fX6_later_b62, chk_of q17, c17, hn, if_pos c]
theorem X6_later_l {t : Nat} {q : Int32} (ht : t < 900) : ∀ (k fu i : Nat) (N N' : Mem), i + k = t → k < fu → TK k N N' → fX6_later_l38 (nI t) q fu (nI i) N = fX6_later_b57 (nI t) q N' := by
  intro k
  induction k with
  | zero =>
    intro fu i N N' hi hf h
    obtain ⟨f, rfl, -⟩ := fs hf
    have c : nI t ≤ nI i := nI_le (by omega) (by omega)
    have e : N' = N := h
    simp only [fX6_later_l38, fX6_later_b38, if_pos c, e]
  | succ k ih =>
    intro fu i N N' hi hf h
    obtain ⟨f, rfl, hf'⟩ := fs hf
    have c : ¬ nI t ≤ nI i := nI_ge (by omega) (by omega)
    obtain ⟨N1, g, p⟩ := h
    simp only [fX6_later_l38, fX6_later_b38, if_neg c, g, bdV_s, n1a]
    exact ih f (i + 1) _ N' (by omega) (by omega) p
theorem q_later (x y : Int32) : EqI (fX5_later x y) (fX6_later x y) := fun M N h => by
  obtain ⟨n, s, hR, ha⟩ := h.1
  have e1 : M 4 3 = nI n := hR.1.1
  have hn := hR.1.2.2
  unfold fX5_later fX6_later
  simp only [X5_noStair e1 hn, X6_isStair hR.1.2.1 hn, X5_outside, X6_inB, bdP_s]
  by_cases h0 : n = 0
  · simp only [h0, decide_true, Bool.not_true, b2i_f, b2i_t, i10, eq_self, if_true, if_false]
    exact ⟨_, M, N, rfl, rfl, h⟩
  · simp only [h0, decide_false, Bool.not_false, b2i_f, b2i_t, i10, eq_self, if_true, if_false]
    by_cases hb : inB x 0 60 = true
    · obtain ⟨t, ht, rfl⟩ := inB_n (k := 60) (by decide) hb
      simp only [hb, Bool.not_true, Bool.not_false, b2i_f, b2i_t, i10, eq_self, if_true, if_false]
      by_cases hb2 : inB y 0 1 = true
      · simp only [hb2, Bool.not_true, Bool.not_false, b2i_f, b2i_t, i10, eq_self, if_true, if_false]
        obtain ⟨M', N1, N', g1, g2, tk, hF⟩ := X5_tryTicks (t := t) hR (by omega)
        rw [g1, g2]
        simp only [bdV_s]
        have hg : fX6_later_l38 (nI t) y FU 0 N1 = fX6_later_b57 (nI t) y N' := X6_later_l (show t < 900 by omega) t FU 0 N1 N' (by omega) (by have := FU_eq; omega) tk
        have h17 : N' 6 17 = nI n := by rw [hF.2.1.1 6 (by omega) (by omega) (by omega) (by omega) (by omega)]; exact hR.1.2.1
        rw [hg]
        unfold fX6_later_b57
        rw [X6_later_62 h17 hn, hF.2.2.off, X2_stepsTaken hF.2.2.okS]
        unfold fX6_later_b113
        rw [hF.2.2.offN (m' := gC N' 11) rfl]
        simp only [bdP_s]
        have hit : it (sF (gS M' 134 3)) n 0 0 = it (sF (rA (N' 11))) n 0 0 := it_congr n 0 0 (fun r x _ hr => by unfold sF; rw [hF.2.2.ag3 r (by omega)])
        rw [hit]
        by_cases hy : y = 0
        · simp only [if_pos hy]
          exact ⟨_, _, _, rfl, rfl, hF.keep h⟩
        · simp only [if_neg hy]
          exact ⟨_, _, _, rfl, rfl, hF.keep h⟩
      · rw [Bool.not_eq_true] at hb2
        simp only [hb2, Bool.not_true, Bool.not_false, b2i_f, b2i_t, i10, eq_self, if_true, if_false]
        exact ⟨_, M, N, rfl, rfl, h⟩
    · rw [Bool.not_eq_true] at hb
      simp only [hb, Bool.not_true, Bool.not_false, b2i_f, b2i_t, i10, eq_self, if_true, if_false]
      exact ⟨_, M, N, rfl, rfl, h⟩
/-! images -/
theorem nI_25 {q a : Nat} : ((25 : Int32) * nI q) + nI a = nI (25 * q + a) := by
  rw [show (25 : Int32) * nI q = nI (25 * q) from pk_mul 25 q, nI_add]
theorem X6_image_l {q : Nat} (hq : q < 2) {N : Mem} : ∀ (k fu i : Nat) (w : Nat → Int32), i + k = 25 → k < fu → (∀ j, j < i → w (25 * q + j) = N 6 j) → (∀ j, j < 25 * q ∨ 25 * q + 25 ≤ j → w j = N 8 j) → ∃ w', fX6_image_l24 (nI q) fu (nI i) (va_up N 8 w) = some (1, mp (va_up N 8 w') 9 q 1) ∧ (∀ j, j < 25 → w' (25 * q + j) = N 6 j) ∧ ∀ j, j < 25 * q ∨ 25 * q + 25 ≤ j → w' j = N 8 j := by
  intro k
  induction k with
  | zero =>
    intro fu i w hi hf h1 h2
    obtain ⟨f, rfl, -⟩ := fs hf
    have cc : (25 : Int32) ≤ nI i := nI_le (a := 25) (by omega) (by omega)
    refine ⟨w, ?_, fun j hj => h1 j (by omega), h2⟩
    simp only [fX6_image_l24, fX6_image_b24, if_pos cc, chk_of (bIn_n hq (by decide)), nc (show q < 2 ^ 31 by omega)]
  | succ k ih =>
    intro fu i w hi hf h1 h2
    obtain ⟨f, rfl, hf'⟩ := fs hf
    have cc : ¬ (25 : Int32) ≤ nI i := nI_ge (b := 25) (by omega) (by omega)
    have e6 : (va_up N 8 w) 6 = N 6 := va_up_ne _ _ (by omega)
    obtain ⟨w', g, a, b⟩ := ih f (i + 1) (upd w (25 * q + i) (N 6 i)) (by omega) (by omega) (fun j hj => by
      by_cases h : j = i
      · subst h; rw [upd_s]
      · rw [upd_n _ _ (by omega)]; exact h1 j (by omega)) (fun j hj => by rw [upd_n _ _ (by omega)]; exact h2 j hj)
    refine ⟨w', ?_, a, b⟩
    simp only [fX6_image_l24, fX6_image_b24, if_neg cc, nI_25, e6, chk_of (bIn_n (show i < 25 by omega) (by decide)), chk_of (bIn_n (show 25 * q + i < 50 by omega) (by decide)), nc (show i < 2 ^ 31 by omega), nc (show 25 * q + i < 2 ^ 31 by omega), n1a, mp_at, va_up_self, va_up_u]
    exact g
theorem q_image (x : Int32) : EqI (fX5_image x) (fX6_image x) := fun M N h => by
  obtain ⟨n, s, hR, ha⟩ := h.1
  have e1 : M 4 3 = nI n := hR.1.1
  have hn := hR.1.2.2
  unfold fX5_image fX6_image
  simp only [X5_noStair e1 hn, X6_isStair hR.1.2.1 hn, X5_outside, X6_inB, bdP_s]
  by_cases hb : inB x 0 1 = true
  · obtain ⟨q, hq, rfl⟩ := inB_n (k := 1) (by decide) hb
    simp only [hb, Bool.not_true, Bool.not_false, b2i_f, b2i_t, i10, eq_self, if_true, if_false]
    by_cases h0 : n = 0
    · simp only [h0, decide_true, Bool.not_true, b2i_f, b2i_t, i10, eq_self, if_true, if_false]
      exact ⟨_, M, N, rfl, rfl, h⟩
    · simp only [h0, decide_false, Bool.not_false, b2i_f, b2i_t, i10, eq_self, if_true, if_false]
      rw [chk_of (bIn_n (show q < 2 by omega) (by decide)), nc (by omega)]
      obtain ⟨M', g1, h1, h2, h3⟩ := X2_become (c := 158 + 5 * q) (d := 4) M (by omega)
      obtain ⟨w, g2, hw1, hw2⟩ := X6_image_l (q := q) (by omega) (N := N) 25 FU 0 (N 8) (by omega) (by have := FU_eq; omega) (fun j hj => by omega) (fun _ _ => rfl)
      rw [va_up_eta] at g2
      rw [g1, show (0 : Int32) = nI 0 from rfl, g2]
      simp only [bdV_s]
      have hMo : ∀ i, i < 158 + 5 * q ∨ 158 + 5 * q + 4 ≤ i → M' i = M i := fun i hi => h1 i (by omega) (by omega) (by omega) (by omega)
      have hNo : ∀ i, i ≠ 8 → i ≠ 9 → mp (va_up N 8 w) 9 q 1 i = N i := fun i h8 h9 => by rw [va_ne h9, va_up_ne _ _ h8]
      obtain ⟨h1', h2', h3', h4', h5', h6', h7'⟩ := h
      refine ⟨1, M', _, rfl, rfl, RRa_c (fun i _ _ => hMo i (by omega)) (hNo 6 (by omega) (by omega)) (hNo 10 (by omega) (by omega)) (by rw [hNo 0 (by omega) (by omega)]) h1', ?_, ?_, ?_, RRd_c (fun i _ _ => hMo i (by omega)) (hNo 1 (by omega) (by omega)) (hNo 2 (by omega) (by omega)) (hNo 3 (by omega) (by omega)) h5', fun i hi => ?_, ?_⟩
      · rw [hMo 2 (by omega), hMo 3 (by omega), hNo 0 (by omega) (by omega), hNo 5 (by omega) (by omega)]; exact h2'
      · rw [hMo 2 (by omega), hNo 0 (by omega) (by omega)]; exact h3'
      · rw [hMo 0 (by omega), hNo 0 (by omega) (by omega)]; exact h4'
      · by_cases hiq : i = q
        · subst hiq
          refine Or.inr ⟨mp_s, n, s, by omega, (hR.become h2 h3).congr (fun _ _ => rfl) (fun _ _ _ _ _ => rfl) (fun j hj => ?_)⟩
          rw [va_ne (by omega), va_up_self]
          exact hw1 j hj
        · have e9 : mp (va_up N 8 w) 9 q 1 9 i = N 9 i := by rw [mp_k hiq, va_up_ne _ _ (by omega)]
          rw [e9]
          rcases h6' i hi with hh | ⟨e, n', s', h0', hh⟩
          · refine Or.inl ⟨?_, hh.2⟩
            show M' (158 + 5 * i + 0) 3 = 0
            rw [hMo _ (by omega)]
            exact hh.1
          · refine Or.inr ⟨e, n', s', h0', hh.congr (fun k _ => ?_) (fun j r _ _ _ => ?_) (fun j hj => ?_)⟩
            · show M' (158 + 5 * i + 0) k = M (158 + 5 * i + 0) k
              rw [hMo _ (by omega)]
            · show M' (158 + 5 * i + j) r = M (158 + 5 * i + j) r
              rw [hMo _ (by omega)]
            · rw [va_ne (by omega), va_up_self]
              exact hw2 _ (by omega)
      · rw [hMo 132 (by omega), hMo 133 (by omega), hNo 0 (by omega) (by omega), hNo 13 (by omega) (by omega)]; exact h7'
  · rw [Bool.not_eq_true] at hb
    simp only [hb, Bool.not_true, Bool.not_false, b2i_f, b2i_t, i10, eq_self, if_true, if_false]
    exact ⟨_, M, N, rfl, rfl, h⟩
theorem X6_restore_l {q : Nat} (hq : q < 2) {N : Mem} : ∀ (k fu i : Nat) (w : Nat → Int32), i + k = 25 → k < fu → (∀ j, j < i → w j = N 8 (25 * q + j)) → ∃ w', fX6_restore_l26 (nI q) fu (nI i) (va_up N 6 w) = some (1, mp (va_up N 6 w') 0 13 0) ∧ ∀ j, j < 25 → w' j = N 8 (25 * q + j) := by
  intro k
  induction k with
  | zero =>
    intro fu i w hi hf h1
    obtain ⟨f, rfl, -⟩ := fs hf
    have cc : (25 : Int32) ≤ nI i := nI_le (a := 25) (by omega) (by omega)
    refine ⟨w, ?_, fun j hj => h1 j (by omega)⟩
    simp only [fX6_restore_l26, fX6_restore_b26, if_pos cc]
  | succ k ih =>
    intro fu i w hi hf h1
    obtain ⟨f, rfl, hf'⟩ := fs hf
    have cc : ¬ (25 : Int32) ≤ nI i := nI_ge (b := 25) (by omega) (by omega)
    have e8 : (va_up N 6 w) 8 = N 8 := va_up_ne _ _ (by omega)
    obtain ⟨w', g, a⟩ := ih f (i + 1) (upd w i (N 8 (25 * q + i))) (by omega) (by omega) (fun j hj => by
      by_cases h : j = i
      · subst h; rw [upd_s]
      · rw [upd_n _ _ (by omega)]; exact h1 j (by omega))
    refine ⟨w', ?_, a⟩
    simp only [fX6_restore_l26, fX6_restore_b26, if_neg cc, nI_25, e8, chk_of (bIn_n (show i < 25 by omega) (by decide)), chk_of (bIn_n (show 25 * q + i < 50 by omega) (by decide)), nc (show i < 2 ^ 31 by omega), nc (show 25 * q + i < 2 ^ 31 by omega), n1a, mp_at, va_up_self, va_up_u]
    exact g
theorem actsR_0 {M N : Mem} {n s : Nat} (h : ∃ x, x < 24 ∧ M 9 1 = nI x) (h9 : M 9 2 = 0) (h13 : N 0 13 = 0) : actsR M N n s := by
  obtain ⟨x, hx, e⟩ := h
  exact ⟨0, x, by omega, hx, h9, e, h13, fun j hj => by omega⟩
theorem q_restore (x : Int32) : EqI (fX5_restore x) (fX6_restore x) := fun M N h => by
  unfold fX5_restore fX6_restore
  simp only [X5_outside, X6_inB, bdP_s]
  by_cases hb : inB x 0 1 = true
  · obtain ⟨q, hq, rfl⟩ := inB_n (k := 1) (by decide) hb
    simp only [hb, Bool.not_true, Bool.not_false, b2i_f, b2i_t, i10, eq_self, if_true, if_false, chk_of (bIn_n (show q < 2 by omega) (by decide)), nc (show q < 2 ^ 31 by omega)]
    obtain ⟨⟨n0, s0, hR0, ⟨k0, x0, b1, b2, b3, b4, b5, b6⟩⟩, h2', h3', h4', h5', h6', h7'⟩ := id h
    rcases h6' q (by omega) with ⟨z1, z2⟩ | ⟨z1, n, s, hn0, hR⟩
    · have z1' : M (158 + 5 * q) 3 = 0 := z1
      rw [if_pos z1', if_pos z2]
      exact ⟨_, M, N, rfl, rfl, h⟩
    · have z3 : M (158 + 5 * q) 3 = nI n := hR.1.1
      have hne : ¬ nI n = 0 := fun e => by
        have := (nI_eq (a := n) (b := 0) (by have := hR.1.2.2; omega) (by omega)).mp e
        omega
      rw [z3, z1, if_neg hne, if_neg i10]
      obtain ⟨M1, g1, h1, h2, h3⟩ := X2_become (c := 4) (d := 158 + 5 * q) M (by omega)
      obtain ⟨w, g2, hw⟩ := X6_restore_l (q := q) (by omega) (N := N) 25 FU 0 (N 6) (by omega) (by have := FU_eq; omega) (fun j hj => by omega)
      rw [va_up_eta] at g2
      rw [g1, show (0 : Int32) = nI 0 from rfl, g2]
      simp only [bdV_s, fX0_forgetAll]
      have hMo : ∀ i, i < 4 ∨ 8 ≤ i → i ≠ 9 → mp M1 9 2 0 i = M i := fun i hi h9 => by rw [va_ne h9]; exact h1 i (by omega) (by omega) (by omega) (by omega)
      have hNo : ∀ i, i ≠ 0 → i ≠ 6 → mp (va_up N 6 w) 0 13 0 i = N i := fun i h0 h6 => by rw [va_ne h0, va_up_ne _ _ h6]
      have hN0 : ∀ k, k ≠ 13 → mp (va_up N 6 w) 0 13 0 0 k = N 0 k := fun k hk => by rw [mp_k hk, va_up_ne _ _ (by omega)]
      refine ⟨1, mp M1 9 2 0, mp (va_up N 6 w) 0 13 0, rfl, rfl, ⟨n, s, ?_, actsR_0 ⟨x0, b2, ?_⟩ mp_s mp_s⟩, ?_, ?_, ?_, RRd_c (fun i _ _ => hMo i (by omega) (by omega)) (hNo 1 (by omega) (by omega)) (hNo 2 (by omega) (by omega)) (hNo 3 (by omega) (by omega)) h5', RRe_c (fun i _ _ => hMo i (by omega) (by omega)) (hNo 8 (by omega) (by omega)) (hNo 9 (by omega) (by omega)) h6', ?_⟩
      · refine (hR.become h2 h3).congr (fun k _ => ?_) (fun i r _ _ _ => ?_) (fun j hj => ?_)
        · show mp M1 9 2 0 (4 + 0) k = M1 (4 + 0) k
          rw [va_ne (by omega)]
        · show mp M1 9 2 0 (4 + i) r = M1 (4 + i) r
          rw [va_ne (by omega)]
        · rw [va_ne (by omega), va_up_self]
          exact hw j hj
      · rw [mp_k (by omega), h1 9 (by omega) (by omega) (by omega) (by omega)]; exact b4
      · rw [hMo 2 (by omega) (by omega), hMo 3 (by omega) (by omega), hN0 6 (by omega), hNo 5 (by omega) (by omega)]; exact h2'
      · rw [hMo 2 (by omega) (by omega), hN0 7 (by omega)]; exact h3'
      · rw [hMo 0 (by omega) (by omega), hN0 4 (by omega)]; exact h4'
      · rw [hMo 132 (by omega) (by omega), hMo 133 (by omega) (by omega), hN0 17 (by omega), hNo 13 (by omega) (by omega)]; exact h7'
  · rw [Bool.not_eq_true] at hb
    simp only [hb, Bool.not_true, Bool.not_false, b2i_f, b2i_t, i10, eq_self, if_true, if_false]
    exact ⟨_, M, N, rfl, rfl, h⟩
