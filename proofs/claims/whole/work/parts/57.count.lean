/-! count -/
theorem cnt_all {A : Nat → Int32} : ∀ n, cN (fun r => on (A r)) n + cN (fun r => decide (A r = -1)) n + cN (offP A) n = n
  | 0 => rfl
  | n + 1 => by
    have ih := cnt_all (A := A) n
    show cN (fun r => on (A r)) n + (if on (A n) = true then 1 else 0) + (cN (fun r => decide (A r = -1)) n + (if decide (A n = -1) = true then 1 else 0)) + (cN (offP A) n + (if offP A n = true then 1 else 0)) = n + 1
    unfold on offP
    by_cases h1 : A n = -1
    · have h2 : ¬ A n = 99 := by rw [h1]; decide
      simp only [h1, decide_true, Bool.not_true, Bool.false_and, if_true, Bool.false_eq_true, if_false, show ¬ (-1 : Int32) = 99 by decide, decide_false]
      unfold on offP at ih
      omega
    · by_cases h2 : A n = 99
      · simp only [h2, show ¬ (99 : Int32) = -1 by decide, decide_true, decide_false, Bool.not_true, Bool.not_false, Bool.true_and, if_true, Bool.false_eq_true, if_false]
        unfold on offP at ih
        omega
      · simp only [h1, h2, decide_false, Bool.not_false, Bool.true_and, if_true, Bool.false_eq_true, if_false]
        unfold on offP at ih
        omega
theorem X6_count_5 {N : Mem} {n : Nat} {p : Int32} (hn : N 6 17 = nI n) (hn7 : n ≤ 7) : fX6_count_l121 p N FU 0 0 = some (nI (cN (fun r => decide (rA (N 6) r = -1)) n)) := by
  rw [loopF (L := fX6_count_l121 p N) (F := cF (fun r => decide (rA (N 6) r = -1))) (fin := fun x => some x) (n := n) (by omega) (fun fu i acc hi => ?_) (fun fu acc => ?_) 0, it_cF n]
  · have c : ¬ nI n ≤ nI i := nI_ge hi (by omega)
    simp only [fX6_count_l121, fX6_count_b121, fX6_count_b150, chk_of q17, c17, hn, if_neg c, n2a, chk_of (bIn_n (show 2 + i < 25 by omega) (by decide)), nc (show 2 + i < 2 ^ 31 by omega), n1a, cF, rA, Int32.add_zero]
    by_cases h1 : N 6 (2 + i) = -1 <;> simp [h1]
  · have c : nI n ≤ nI n := Int32.le_refl _
    simp only [fX6_count_l121, fX6_count_b121, chk_of q17, c17, hn, if_pos c]
theorem X6_count_6 {N : Mem} {n : Nat} {p : Int32} (hn : N 6 17 = nI n) (hn7 : n ≤ 7) : fX6_count_l162 p N FU 0 0 = some (nI (cN (fun r => on (rA (N 6) r)) n)) := by
  rw [loopF (L := fX6_count_l162 p N) (F := cF (fun r => on (rA (N 6) r))) (fin := fun x => some x) (n := n) (by omega) (fun fu i acc hi => ?_) (fun fu acc => ?_) 0, it_cF n]
  · have c : ¬ nI n ≤ nI i := nI_ge hi (by omega)
    simp only [fX6_count_l162, fX6_count_b162, fX6_count_b193, chk_of q17, c17, hn, if_neg c, n2a, chk_of (bIn_n (show 2 + i < 25 by omega) (by decide)), nc (show 2 + i < 2 ^ 31 by omega), n1a, cF, rA, X6_isOn, bdP_s, b2i_0, Int32.add_zero]
    by_cases h1 : on (N 6 (2 + i)) = true <;> simp [h1]
  · have c : nI n ≤ nI n := Int32.le_refl _
    simp only [fX6_count_l162, fX6_count_b162, chk_of q17, c17, hn, if_pos c]
theorem X6_count_0 {N : Mem} {p : Int32} : fX6_count_l58 p N FU 0 0 = some (nI (cN (fun r => decide (0 ≤ N 1 r)) 8)) := by
  rw [loopF (L := fX6_count_l58 p N) (F := cF (fun r => decide (0 ≤ N 1 r))) (fin := fun x => some x) (n := 8) (by omega) (fun fu i acc hi => ?_) (fun fu acc => ?_) 0, it_cF 8]
  · have c : ¬ (8 : Int32) ≤ nI i := nI_ge (b := 8) hi (by omega)
    simp only [fX6_count_l58, fX6_count_b58, fX6_count_b79, if_neg c, chk_of (bIn_n hi (by decide)), nc (show i < 2 ^ 31 by omega), n1a, cF, Int32.add_zero]
    by_cases h1 : 0 ≤ N 1 i <;> simp [h1]
  · simp only [fX6_count_l58, fX6_count_b58, if_pos (show (8 : Int32) ≤ nI 8 by decide)]
theorem X5_howManyRows {M : Mem} : fX5_howManyRows M = some (nI (cN (fun r => decide (M (142 + 2 * r) 1 = 0)) 8)) := by
  unfold fX5_howManyRows
  rw [loopF (L := fX5_howManyRows_l4 M) (F := cF (fun r => decide (M (142 + 2 * r) 1 = 0))) (fin := fun x => some x) (n := 8) (by omega) (fun fu i acc hi => ?_) (fun fu acc => ?_) 0, it_cF 8]
  · have c : ¬ (8 : Int32) ≤ nI i := nI_ge (b := 8) hi (by omega)
    have o1 : fX5_oneIf 1 = some 1 := by unfold fX5_oneIf; rw [if_neg i10]
    have o0 : fX5_oneIf 0 = some 0 := by unfold fX5_oneIf; rw [if_pos rfl]
    simp only [fX5_howManyRows_l4, fX5_howManyRows_b4, fX5_howManyRows_b28, if_neg c, chk_of (bIn_n hi (by decide)), nc (show i < 2 ^ 31 by omega), o1, o0, bdP_s, n1a, cF, Int32.add_zero]
    by_cases h1 : M (142 + 2 * i) 1 = 0 <;> simp [h1]
  · simp only [fX5_howManyRows_l4, fX5_howManyRows_b4, if_pos (show (8 : Int32) ≤ nI 8 by decide)]
theorem q_count (x : Int32) : EqP (fX5_count x) (fX6_count x) := fun M N h => by
  obtain ⟨⟨n, s, hR, ⟨k, -, -, -, a3, -, a5, -⟩⟩, ⟨kt, hkt, t1, t2, -⟩, -, -, hrows, -⟩ := h
  have hn := hR.1.2.2
  have e1 : M 4 3 = nI n := hR.1.1
  have hq : ∀ v, fX2_howManyAt v (gS M 4) = some (nI (cN (fun r => decide (rA (N 6) r = v)) n)) := fun v => by
    rw [X2_howManyAt hR.1.1 hn]
    congr 2
    exact cN_congr n (fun r hr => by rw [hR.ag3 r hr])
  unfold fX5_count fX6_count
  simp only [X5_howManyRows, hq, bdP_s, X6_count_0, X6_count_5 hR.1.2.1 hn, X6_count_6 hR.1.2.1 hn, X6_offIn (m := gC N 6) hR.1.2.1 hn, chk_of q17, c17, chk_of q16, c16, chk_of q0_25, c0_, chk_of q1_25, c1_]
  by_cases y0 : x = 0
  · simp only [if_pos y0]
    refine ⟨_, rfl, ?_⟩
    congr 2
    refine cN_congr 8 (fun r hr => ?_)
    rcases rowR_m (hrows r hr) with ⟨b1, b2⟩ | ⟨b1, b2⟩
    · rw [b1, b2]; decide
    · simp [b1, b2]
  · by_cases y1 : x = 1
    · simp only [if_neg y0, if_pos y1, e1, hR.1.2.1]
      exact ⟨_, rfl, rfl⟩
    · by_cases y2 : x = 2
      · simp only [if_neg y0, if_neg y1, if_pos y2, show M 4 0 = nI s from hR.2.1.1, hR.2.1.2.1]
        exact ⟨_, rfl, rfl⟩
      · by_cases y3 : x = 3
        · simp only [if_neg y0, if_neg y1, if_neg y2, if_pos y3, show M 4 2 = N 6 0 from hR.2.2.2.1]
          exact ⟨_, rfl, rfl⟩
        · by_cases y4 : x = 4
          · simp only [if_neg y0, if_neg y1, if_neg y2, if_neg y3, if_pos y4, show M 4 1 = N 6 1 from hR.2.2.1.1]
            exact ⟨_, rfl, rfl⟩
          · by_cases y5 : x = 5
            · simp only [if_neg y0, if_neg y1, if_neg y2, if_neg y3, if_neg y4, if_pos y5]
              exact ⟨_, rfl, rfl⟩
            · by_cases y6 : x = 6
              · simp only [if_neg y0, if_neg y1, if_neg y2, if_neg y3, if_neg y4, if_neg y5, if_pos y6, e1]
                refine ⟨_, rfl, ?_⟩
                have hall := cnt_all (A := rA (N 6)) n
                have hle : cN (fun r => decide (rA (N 6) r = -1)) n ≤ n := cN_le _ n
                have e99 : cN (fun r => decide (rA (N 6) r = 99)) n = cN (offP (rA (N 6))) n := rfl
                rw [e99, pk_sub hle, pk_sub (by omega)]
                congr 2
                omega
              · by_cases y7 : x = 7
                · simp only [if_neg y0, if_neg y1, if_neg y2, if_neg y3, if_neg y4, if_neg y5, if_neg y6, if_pos y7]
                  exact ⟨_, rfl, rfl⟩
                · by_cases y8 : x = 8
                  · simp only [if_neg y0, if_neg y1, if_neg y2, if_neg y3, if_neg y4, if_neg y5, if_neg y6, if_neg y7, if_pos y8, a3, a5]
                    exact ⟨_, rfl, rfl⟩
                  · by_cases y9 : x = 9
                    · simp only [if_neg y0, if_neg y1, if_neg y2, if_neg y3, if_neg y4, if_neg y5, if_neg y6, if_neg y7, if_neg y8, if_pos y9, t1, t2]
                      exact ⟨_, rfl, rfl⟩
                    · simp only [if_neg y0, if_neg y1, if_neg y2, if_neg y3, if_neg y4, if_neg y5, if_neg y6, if_neg y7, if_neg y8, if_neg y9]
                      exact ⟨_, rfl, rfl⟩
