/-! drawn -/
theorem lcmp0 {a : Nat} (h : a < 2 ^ 31) : (lg_cmp (lN a) 0 = 0) = (a = 0) := by
  unfold lg_cmp
  have e0 : (0 : Int64) = lN 0 := rfl
  by_cases ha : a = 0
  · subst ha
    exact propext ⟨fun _ => rfl, fun _ => by decide⟩
  · refine propext ⟨fun e => absurd e ?_, fun e => absurd e ha⟩
    have h1 : ¬ lN a < 0 := fun z => by
      rw [e0, lN_lt h (by omega)] at z; omega
    have h2 : ¬ lN a = 0 := fun z => ha ((lN_eq h (by omega)).mp z)
    have h3 : (0 : Int64) < lN a := by rw [e0, lN_lt (by omega) h]; omega
    simp only [h1, h2, h3, if_true, if_false]
    decide
theorem lrem {a b : Nat} (ha : a < 2 ^ 62) (h0 : 0 < b) (hb : b < 2 ^ 62) : lN a - lN a / lN b * lN b = lN (a % b) := pk_lRem (by omega) h0 (by omega)
theorem nrem {a b : Nat} (ha : a < 2 ^ 31) (h0 : 0 < b) (hb : b < 2 ^ 31) : nI a - nI a / nI b * nI b = nI (a % b) := pk_rem ha h0 hb
/-- how many go off by a tick -/
theorem gone_eq {n s : Nat} {S sp : Int32} {K L A : Nat → Int32} {odd : Bool} (hS : S = nI s) (hs : s ≤ 12) (hsp : sp = 0 ∨ sp = 1 ∨ sp = 2) (hA : ∀ q, q < n → okA s (A q)) : cN (offP (tkA n s S sp K L odd A)) n = cN (offP A) n + cN (goP S sp (ph1 n s S K L odd A)) n := by
  have h1 : cN (offP (tkA n s S sp K L odd A)) n = cN (offP (mpA n (cry S sp) (ph1 n s S K L odd A))) n := cN_off (fun q _ => ltC_off)
  have h2 : cN (offP A) n = cN (offP (ph1 n s S K L odd A)) n := cN_off (fun q _ => (ph1_off hS hs q).symm)
  have hB := okA_ph1 (n := n) (s := s) (S := S) (K := K) (L := L) (odd := odd) hS hs hA
  rw [h1, h2]
  generalize ph1 n s S K L odd A = B at hB
  have : ∀ k, k ≤ n → cN (offP (mpA n (cry S sp) B)) k = cN (offP B) k + cN (goP S sp B) k := by
    intro k
    induction k with
    | zero => intro _; rfl
    | succ k ih =>
      intro hk
      show cN (offP (mpA n (cry S sp) B)) k + (if offP (mpA n (cry S sp) B) k = true then 1 else 0) = cN (offP B) k + (if offP B k = true then 1 else 0) + (cN (goP S sp B) k + (if goP S sp B k = true then 1 else 0))
      rw [ih (by omega)]
      have e : mpA n (cry S sp) B k = cry S sp (B k) := if_pos (by omega)
      unfold offP goP
      rw [e]
      unfold cry
      by_cases ho : on (B k) = true
      · obtain ⟨j, hj, ej⟩ := on_k (hB k (by omega)) ho
        have hne : ¬ B k = 99 := ne99 hs ⟨j, hj, ej⟩
        rw [if_pos ho]
        by_cases hl : B k + sp < S
        · have hne2 : ¬ B k + sp = 99 := fun z => by
            rw [z, hS] at hl
            have := (nI_ltI (a := 99) (b := s) (by omega) (by omega)).mp hl
            omega
          simp only [hne, hne2, hl, ho, decide_false, decide_true, Bool.not_true, Bool.and_false, Bool.false_eq_true, if_true, if_false]
          omega
        · simp only [if_neg hl, hne, hl, ho, decide_false, decide_true, Bool.not_false, Bool.and_true, Bool.false_eq_true, if_false, if_true]
          omega
      · rw [if_neg ho]
        simp only [ho, Bool.false_and, Bool.false_eq_true, if_false]
        omega
  exact this n (Nat.le_refl n)
theorem draw_ok {M0 N0 M N : Mem} {n s X : Nat} (h : FR M0 N0 M N n s) (hn0 : 0 < n) (hX : X < 2 ^ 31) : ∃ m4 N4, fX2_draw (nI X) (gS M 134) = some m4 ∧ (∀ p1 p2 p3 k56 x6 x7, (if (lg_cmp (lN X - lN X / 4 * 4) 0) = 0 then fX6_drawn_b106 p1 p2 p3 k56 (lN X) x6 x7 (Int64.toInt32 (lN X - lN X / 3 * 3)) 1 N else chk (bIn 1 25) (fX6_drawn_b106 p1 p2 p3 k56 (lN X) x6 x7 (N 11 (Int32.toNatClampNeg 1)) 1 N)) = fX6_drawn_b162 p1 p2 p3 k56 (lN X) x6 x7 N4) ∧ FR M0 N0 (pS M 134 m4) N4 n s := by
  have hn := h.2.2.1.2.2
  have e4 : nI X - nI X / 4 * 4 = nI (X % 4) := nrem (b := 4) hX (by omega) (by omega)
  have e3 : nI X - nI X / 3 * 3 = nI (X % 3) := nrem (b := 3) hX (by omega) (by omega)
  have e2 : nI X - nI X / 2 * 2 = nI (X % 2) := nrem (b := 2) hX (by omega) (by omega)
  have er : nI X - nI X / nI n * nI n = nI (X % n) := nrem hX hn0 (by omega)
  have l4 : lN X - lN X / 4 * 4 = lN (X % 4) := lrem (b := 4) (by omega) (by omega) (by omega)
  have l3 : lN X - lN X / 3 * 3 = lN (X % 3) := lrem (b := 3) (by omega) (by omega) (by omega)
  have l2 : lN X - lN X / 2 * 2 = lN (X % 2) := lrem (b := 2) (by omega) (by omega) (by omega)
  have lr : lN X - lN X / lN n * lN n = lN (X % n) := lrem (by omega) hn0 (by omega)
  have hr : X % n < n := Nat.mod_lt _ hn0
  have hz : ∀ a, a < 2 ^ 31 → (nI a = 0) = (a = 0) := fun a ha => propext (nI_eq (b := 0) ha (by omega))
  -- the speed
  have hsp : ∃ v, (v = 0 ∨ v = 1 ∨ v = 2) ∧ (if X % 4 = 0 then mp (gS M 134) 0 1 (nI (X % 3)) else gS M 134) = mp (gS M 134) 0 1 v ∧ (if X % 4 = 0 then nI (X % 3) else N 11 1) = v := by
    by_cases hx : X % 4 = 0
    · refine ⟨nI (X % 3), ?_, by rw [if_pos hx], by rw [if_pos hx]⟩
      have : X % 3 = 0 ∨ X % 3 = 1 ∨ X % 3 = 2 := by omega
      rcases this with e | e | e <;> rw [e]
      · exact Or.inl rfl
      · exact Or.inr (Or.inl rfl)
      · exact Or.inr (Or.inr rfl)
    · refine ⟨N 11 1, h.2.2.2.2.1.2, ?_, by rw [if_neg hx]⟩
      rw [if_neg hx, mp_at, ← h.2.2.2.2.1.1, upd_eta, va_up_eta]
  obtain ⟨v, hv, hm, hN⟩ := hsp
  have hR1 := h.2.2.speed hv
  have n0 : ¬ nI n = 0 := fun z => by have := (hz n (by omega)).mp z; omega
  have g3 : (gS M 134) 0 3 = nI n := h.2.2.1.1
  have hdr : fX2_draw (nI X) (gS M 134) = fX2_draw_b21 (nI X) (mp (gS M 134) 0 1 v) := by
    rw [← hm]
    unfold fX2_draw
    rw [g3, if_neg n0, e4, e3]
    simp only [hz (X % 4) (by omega)]
    split <;> rfl
  have hmo : ∀ p1 p2 p3 k56 x6 x7, (if (lg_cmp (lN X - lN X / 4 * 4) 0) = 0 then fX6_drawn_b106 p1 p2 p3 k56 (lN X) x6 x7 (Int64.toInt32 (lN X - lN X / 3 * 3)) 1 N else chk (bIn 1 25) (fX6_drawn_b106 p1 p2 p3 k56 (lN X) x6 x7 (N 11 (Int32.toNatClampNeg 1)) 1 N)) = fX6_drawn_b106 p1 p2 p3 k56 (lN X) x6 x7 v 1 N := by
    intro p1 p2 p3 k56 x6 x7
    rw [← hN, l4, l3, chk_of q1_25, c1_, lN_i]
    simp only [lcmp0 (show X % 4 < 2 ^ 31 by omega)]
    split <;> rfl
  have hF1 : FR M0 N0 (pS M 134 (mp (gS M 134) 0 1 v)) (mp N 11 1 v) n s := ⟨h.1.tr (kpM_pS (by omega)), h.2.1.tr kpN_mp, by rw [show (mp N 11 1 v) 11 = upd (N 11) 1 v from va_up_self _ _ _]; exact hR1.pS⟩
  have hat : (mp (gS M 134) 0 1 v) 3 (X % n) = (mp N 11 1 v) 11 (2 + X % n) := by
    rw [show (mp N 11 1 v) 11 = upd (N 11) 1 v from va_up_self _ _ _]
    exact (hR1.2.2.2.2 (X % n) hr).1.2.2
  have hmn : (mp (gS M 134) 0 1 v) 0 3 = nI n := hR1.1.1
  have h17 : (mp N 11 1 v) 11 17 = nI n := by
    rw [show (mp N 11 1 v) 11 = upd (N 11) 1 v from va_up_self _ _ _]; exact hR1.1.2.1
  have hl0 : ¬ lN n = 0 := fun z => by have := (lN_eq (a := n) (b := 0) (by omega) (by omega)).mp z; omega
  by_cases h99 : (mp N 11 1 v) 11 (2 + X % n) = 99
  · have hol : okL (nI (X % 2)) := by
      have : X % 2 = 0 ∨ X % 2 = 1 := by omega
      rcases this with e | e <;> rw [e]
      · exact Or.inl rfl
      · exact Or.inr rfl
    refine ⟨mp (mp (mp (gS M 134) 0 1 v) 3 (X % n) (-1)) 2 (X % n) (nI (X % 2)), mp (mp (mp N 11 1 v) 11 (2 + X % n) (-1)) 11 (9 + X % n) (nI (X % 2)), ?_, ?_, ?_⟩
    · rw [hdr]
      simp only [fX2_draw_b21, hmn, er, e2, chk_of (decide_eq_true n0), chk_of (bIn_n (show X % n < 7 by omega) (by decide)), nc (show X % n < 2 ^ 31 by omega), hat, if_pos h99, fX2_sendBack, bdV_s]
    · intro p1 p2 p3 k56 x6 x7
      rw [hmo]
      simp only [fX6_drawn_b106, chk_of q1_25, c1_, chk_of q17, c17, h17, nI_l (show n < 2 ^ 31 by omega), lr, l2, lN_i, chk_of (decide_eq_true hl0), n2a, n9a, chk_of (bIn_n (show 2 + X % n < 25 by omega) (by decide)), chk_of (bIn_n (show 9 + X % n < 25 by omega) (by decide)), nc (show 2 + X % n < 2 ^ 31 by omega), nc (show 9 + X % n < 2 ^ 31 by omega), if_pos h99]
    · refine ⟨h.1.tr (kpM_pS (by omega)), ((h.2.1.tr kpN_mp).tr kpN_mp).tr kpN_mp, ?_⟩
      have e11 : (mp (mp (mp N 11 1 v) 11 (2 + X % n) (-1)) 11 (9 + X % n) (nI (X % 2))) 11 = upd (upd (upd (N 11) 1 v) (2 + X % n) (-1)) (9 + X % n) (nI (X % 2)) := by simp only [mp_at, va_up_self]
      rw [e11]
      exact ((hR1.at (q := X % n) (v := -1) (by omega) (Or.inl rfl)).lane (by omega) hol).pS
  · refine ⟨mp (gS M 134) 0 1 v, mp N 11 1 v, ?_, ?_, hF1⟩
    · rw [hdr]
      simp only [fX2_draw_b21, hmn, er, chk_of (decide_eq_true n0), chk_of (bIn_n (show X % n < 7 by omega) (by decide)), nc (show X % n < 2 ^ 31 by omega), hat, if_neg h99]
    · intro p1 p2 p3 k56 x6 x7
      rw [hmo]
      simp only [fX6_drawn_b106, chk_of q1_25, c1_, chk_of q17, c17, h17, nI_l (show n < 2 ^ 31 by omega), lr, lN_i, chk_of (decide_eq_true hl0), n2a, chk_of (bIn_n (show 2 + X % n < 25 by omega) (by decide)), nc (show 2 + X % n < 2 ^ 31 by omega), if_neg h99]
theorem drawn_l {n s t : Nat} {p2 p3 : Int32} {M0 N0 : Mem} (h0 : RR M0 N0) (hn0 : 0 < n) (ht : t < 900) : ∀ (k fu i X : Nat) (x6 : Int32) (M N : Mem), i + k = t → k < fu → X < 2147483647 → FR M0 N0 M N n s → ∃ r M' N', fX5_drawn_l63 (nI t) p2 p3 fu (lN X) x6 (nI i) M = some (r, M') ∧ fX6_drawn_l56 (nI t) p2 p3 fu (lN X) x6 (nI i) N = some (r, N') ∧ RR M' N' := by
  intro k
  induction k with
  | zero =>
    intro fu i X x6 M N hi hf hX h
    obtain ⟨f, rfl, -⟩ := fs hf
    have c : nI t ≤ nI i := nI_le (by omega) (by omega)
    simp only [fX5_drawn_l63, fX5_drawn_b63, fX5_drawn_b109, fX6_drawn_l56, fX6_drawn_b56, fX6_drawn_b200, if_pos c, h.2.2.off, h.2.2.offN (m' := gC N 11) rfl, bdP_s]
    by_cases hp : p3 = 0
    · simp only [if_pos hp]
      exact ⟨_, M, N, rfl, rfl, h.keep h0⟩
    · simp only [if_neg hp]
      exact ⟨_, M, N, rfl, rfl, h.keep h0⟩
  | succ k ih =>
    intro fu i X x6 M N hi hf hX h
    obtain ⟨f, rfl, hf'⟩ := fs hf
    have c : ¬ nI t ≤ nI i := nI_ge (by omega) (by omega)
    have hn := h.2.2.1.2.2
    have em : lN X * 16807 = lN (X * 16807) := lN_mul X 16807
    have ex : lN X * 16807 - lN X * 16807 / 2147483647 * 2147483647 = lN (X * 16807 % 2147483647) := by
      rw [em]; exact lrem (b := 2147483647) (by omega) (by omega) (by omega)
    have hX' : X * 16807 % 2147483647 < 2147483647 := Nat.mod_lt _ (by omega)
    generalize X * 16807 % 2147483647 = Y at ex hX'
    obtain ⟨m4, N4, d1, d2, hF⟩ := draw_ok h hn0 (show Y < 2 ^ 31 by omega)
    obtain ⟨m', N', g1, g2, h1, hR, h3, h4, h5, h6⟩ := hF.tick
    obtain ⟨r, M5, N5, q1, q2, q3⟩ := ih f (i + 1) Y (x6 + nI (cN (goP ((pS M 134 m4) 134 0) ((pS M 134 m4) 134 1) (ph1 n s ((pS M 134 m4) 134 0) ((pS M 134 m4) 135) ((pS M 134 m4) 136) (odB ((pS M 134 m4) 134 2)) ((pS M 134 m4) 137))) n)) _ N' (by omega) (by omega) (by omega) h1
    refine ⟨r, M5, N5, ?_, ?_, q3⟩
    · simp only [fX5_drawn_l63, fX5_drawn_b63, if_neg c, ex, lN_i, d1, bdV_s, g1, bdI_s, n1a]
      exact q1
    · have hoff : cN (offP (rA (N' 11))) n = cN (offP (rA (N4 11))) n + cN (goP ((pS M 134 m4) 134 0) ((pS M 134 m4) 134 1) (ph1 n s ((pS M 134 m4) 134 0) ((pS M 134 m4) 135) ((pS M 134 m4) 136) (odB ((pS M 134 m4) 134 2)) ((pS M 134 m4) 137))) n := by
        have e1 : cN (offP (rA (N' 11))) n = cN (offP (m' 3)) n := cN_congr n (fun q hq => by unfold offP; rw [hR.ag3 q hq])
        have e2 : cN (offP (rA (N4 11))) n = cN (offP ((pS M 134 m4) 137)) n := cN_congr n (fun q hq => by
          unfold offP
          rw [show (pS M 134 m4) 137 q = rA (N4 11) q from hF.2.2.ag3 q hq])
        rw [e1, e2, h3]
        exact gone_eq hF.2.2.2.1.1 hF.2.2.2.1.2.2.1 hF.2.2.okT.2.1 (fun q hq => (hF.2.2.okS.2.2.2.2 q hq).2)
      simp only [fX6_drawn_l56, fX6_drawn_b56, if_neg c, ex, d2, fX6_drawn_b162, hF.2.2.offN (m' := gC N4 11) rfl, bdP_s, g2, bdV_s, hR.offN (m' := gC N' 11) rfl, n1a]
      rw [hoff]
      have esub : ∀ a b : Nat, nI (a + b) - nI a = nI b := fun a b => by rw [pk_sub (by omega), Nat.add_sub_cancel_left]
      rw [esub]
      exact q2
theorem q_drawn (x y z : Int32) : EqI (fX5_drawn x y z) (fX6_drawn x y z) := fun M N h => by
  obtain ⟨n, s, hR, ha⟩ := h.1
  have e1 : M 4 3 = nI n := hR.1.1
  have hn := hR.1.2.2
  unfold fX5_drawn fX6_drawn
  simp only [X5_noStair e1 hn, X6_isStair hR.1.2.1 hn, X5_outside, X6_inB, bdP_s]
  by_cases h0 : n = 0
  · simp only [h0, decide_true, Bool.not_true, b2i_f, b2i_t, i10, eq_self, if_true, if_false]
    exact ⟨_, M, N, rfl, rfl, h⟩
  · simp only [h0, decide_false, Bool.not_false, b2i_f, b2i_t, i10, eq_self, if_true, if_false]
    by_cases hb : inB x 0 60 = true
    · obtain ⟨t, ht, rfl⟩ := inB_n (k := 60) (by decide) hb
      simp only [hb, Bool.not_true, Bool.not_false, b2i_f, b2i_t, i10, eq_self, if_true, if_false]
      by_cases hb2 : inB y 1 999999 = true
      · simp only [hb2, Bool.not_true, Bool.not_false, b2i_f, b2i_t, i10, eq_self, if_true, if_false]
        have hb0 : inB y 0 (nI 999999) = true := by
          unfold inB at hb2 ⊢
          simp only [Bool.and_eq_true, Bool.not_eq_true', decide_eq_false_iff_not] at hb2 ⊢
          refine ⟨fun z => hb2.1 ?_, hb2.2⟩
          have h1 := neg_iff.mp z
          refine i32_lt_of_toInt ?_
          have : (1 : Int32).toInt = 1 := by decide
          omega
        obtain ⟨X, hX, rfl⟩ := inB_n (k := 999999) (by decide) hb0
        by_cases hb3 : inB z 0 1 = true
        · simp only [hb3, Bool.not_true, Bool.not_false, b2i_f, b2i_t, i10, eq_self, if_true, if_false]
          obtain ⟨M1, N1, g1, g2, hF⟩ := FR_start kpM.rf kpN.rf hR
          rw [g1, g2]
          simp only [bdV_s, nI_l (show X < 2 ^ 31 by omega)]
          exact drawn_l h (by omega) (by omega) t FU 0 X 0 M1 N1 (by omega) (by have := FU_eq; omega) (by omega) hF
        · rw [Bool.not_eq_true] at hb3
          simp only [hb3, Bool.not_true, Bool.not_false, b2i_f, b2i_t, i10, eq_self, if_true, if_false]
          exact ⟨_, M, N, rfl, rfl, h⟩
      · rw [Bool.not_eq_true] at hb2
        simp only [hb2, Bool.not_true, Bool.not_false, b2i_f, b2i_t, i10, eq_self, if_true, if_false]
        exact ⟨_, M, N, rfl, rfl, h⟩
    · rw [Bool.not_eq_true] at hb
      simp only [hb, Bool.not_true, Bool.not_false, b2i_f, b2i_t, i10, eq_self, if_true, if_false]
      exact ⟨_, M, N, rfl, rfl, h⟩
