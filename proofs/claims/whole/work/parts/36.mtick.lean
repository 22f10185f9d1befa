/-! the rest of a tick of the reference -/
theorem X6_isOn {x : Int32} : fX6_isOn x = some (b2i (on x)) := by
  unfold fX6_isOn on
  by_cases h1 : x = -1 <;> by_cases h2 : x = 99 <;> simp [h1, h2, b2i]
theorem X6_t109 {M : Mem} {c n : Nat} {w : Nat → Int32} (hc : c ≠ 12) (hn7 : n ≤ 7) {S sp : Int32} (A : Nat → Int32) : ∀ (k fu i : Nat) (row : Nat → Int32), i + k = n → k < fu → row 17 = nI n → row 16 = S → row 1 = sp → rA row = mpA i (cry S sp) A → ∃ row', fX6_tick_l109 c fu (nI i) (TT M c row w) = fX6_tick_b172 c (TT M c row' w) ∧ sm row row' ∧ rA row' = mpA n (cry S sp) A := by
  intro k
  induction k with
  | zero =>
    intro fu i row hi hf h17 h16 h1 hA
    obtain ⟨f, rfl, -⟩ := fs hf
    have cc : nI n ≤ nI i := nI_le (by omega) (by omega)
    have e : i = n := by omega
    subst e
    refine ⟨row, ?_, sm_rf, hA⟩
    simp only [fX6_tick_l109, fX6_tick_b109, chk_of q17, c17, TT_c hc, h17, if_pos cc]
  | succ k ih =>
    intro fu i row hi hf h17 h16 h1 hA
    obtain ⟨f, rfl, hf'⟩ := fs hf
    have cc : ¬ nI n ≤ nI i := nI_ge (by omega) (by omega)
    have hi7 : i < 7 := by omega
    have eA : row (2 + i) = A i := by
      have := congrFun hA i
      unfold mpA at this
      rw [if_neg (by omega)] at this
      exact this
    have u16 : ∀ v, upd row (2 + i) v 16 = S := fun v => by rw [upd_n _ _ (by omega)]; exact h16
    have stp : ∀ v, v = cry S sp (A i) → ∃ row', fX6_tick_l109 c f (nI (i + 1)) (TT M c (upd row (2 + i) v) w) = fX6_tick_b172 c (TT M c row' w) ∧ sm row row' ∧ rA row' = mpA n (cry S sp) A := fun v hv => by
      obtain ⟨row', g, s, a⟩ := ih f (i + 1) (upd row (2 + i) v) (by omega) (by omega) (by rw [upd_n _ _ (by omega)]; exact h17) (u16 v) (by rw [upd_n _ _ (by omega)]; exact h1) (by rw [rA_u, hA, mpA_s, hv])
      exact ⟨row', g, sm_tr (sm_u hi7) s, a⟩
    simp only [fX6_tick_l109, fX6_tick_b109, fX6_tick_b165, fX6_tick_b166, chk_of q17, c17, chk_of q16, c16, chk_of q1_25, c1_, TT_c hc, h17, h16, h1, if_neg cc, n2a, chk_of (bIn_n (show 2 + i < 25 by omega) (by decide)), nc (show 2 + i < 2 ^ 31 by omega), X6_isOn, bdP_s, n1a, eA, b2i_0, TT_u hc, upd_s, upd_u, u16]
    by_cases ho : on (A i) = true
    · rw [if_neg (by simp [ho])]
      by_cases hl : A i + sp < S
      · rw [if_pos hl]
        exact stp _ (by unfold cry; rw [if_pos ho, if_pos hl])
      · rw [if_neg hl]
        exact stp _ (by unfold cry; rw [if_pos ho, if_neg hl])
    · rw [if_pos (by simpa using ho)]
      have := stp (A i) (by unfold cry; rw [if_neg ho])
      rwa [show upd row (2 + i) (A i) = row by rw [← eA]; exact upd_eta _ _] at this
theorem ff_snoc (P : Nat → Bool) : ∀ (k i : Nat), ff P (k + 1) i = match ff P k i with | some r => some r | none => if P (i + k) = true then some (i + k) else none
  | 0, i => by simp [ff]
  | k + 1, i => by
    have h := ff_snoc P k (i + 1)
    show (if P i = true then some i else ff P (k + 1) (i + 1)) = match (if P i = true then some i else ff P k (i + 1)) with | some r => some r | none => if P (i + (k + 1)) = true then some (i + (k + 1)) else none
    by_cases hp : P i = true
    · simp [hp]
    · rw [if_neg hp, if_neg hp, h, show i + 1 + k = i + (k + 1) by omega]
theorem ff_lt {P : Nat → Bool} : ∀ (k i r : Nat), ff P k i = some r → i ≤ r ∧ r < i + k
  | 0, _, _, h => by cases h
  | k + 1, i, r, h => by
    unfold ff at h
    split at h
    · cases h; omega
    · have := ff_lt k (i + 1) r h; omega
theorem X6_t181 {M : Mem} {c n : Nat} {w row : Nat → Int32} (hc : c ≠ 12) (hn7 : n ≤ 7) (h17 : row 17 = nI n) : ∀ (k fu : Nat) (x2 : Int32), k ≤ n → k < fu → fX6_tick_l181 c fu x2 (nI k - 1) (TT M c row w) = fX6_tick_b221 c (match ff (qP n (rK row) (rL row) (rA row)) k 0 with | some r => nI r | none => x2) (TT M c row w) := by
  intro k
  induction k with
  | zero =>
    intro fu x2 hk hf
    obtain ⟨f, rfl, -⟩ := fs hf
    show fX6_tick_b181 c (fX6_tick_l181 c f) x2 (nI 0 - 1) (TT M c row w) = _
    unfold fX6_tick_b181
    rw [if_pos m1_neg]
    rfl
  | succ k ih =>
    intro fu x2 hk hf
    obtain ⟨f, rfl, hf'⟩ := fs hf
    have hk7 : k < 7 := by omega
    have e1 : nI (k + 1) - 1 = nI k := nI_pred k
    have g0 : (gC (TT M c row w) c) 0 = row := TT_c hc
    have hf := X6_isFree (M := gC (TT M c row w) c) (n := n) (r := k) (st := 0) (ln := row (9 + k)) (by rw [g0]; exact h17) hn7 hk7
    rw [g0] at hf
    rw [e1]
    show fX6_tick_b181 c (fX6_tick_l181 c f) x2 (nI k) (TT M c row w) = _
    have em : nI k + (-1) = nI k - 1 := (Int32.sub_eq_add_neg _ _).symm
    simp only [fX6_tick_b181, fX6_tick_b213, fX6_tick_b214, if_neg (nI_pos (show k < 2 ^ 31 by omega)), n2a, n9a, chk_of (bIn_n (show 2 + k < 25 by omega) (by decide)), chk_of (bIn_n (show 9 + k < 25 by omega) (by decide)), nc (show 2 + k < 2 ^ 31 by omega), nc (show 9 + k < 2 ^ 31 by omega), TT_c hc, hf, bdP_s, b2i_0, em, ih f _ (show k ≤ n by omega) (by omega)]
    rw [ff_snoc, Nat.zero_add]
    have hq : qP n (rK row) (rL row) (rA row) k = (decide (row (2 + k) = -1) && fr n (rK row) (rL row) (rA row) k 0 (row (9 + k))) := rfl
    rw [hq]
    by_cases h1 : row (2 + k) = -1 <;> by_cases h2 : fr n (rK row) (rL row) (rA row) k 0 (row (9 + k)) = true <;> simp only [h1, h2, if_true, if_false, decide_true, decide_false, Bool.true_and, Bool.false_and, Bool.false_eq_true, Bool.true_eq_false] <;> cases ff (qP n (rK row) (rL row) (rA row)) k 0 <;> simp_all
theorem X6_t2 {M : Mem} {c n : Nat} {row : Nat → Int32} (hc : c ≠ 12) (hn7 : n ≤ 7) (h17 : row 17 = nI n) : ∀ (k fu i : Nat) (w : Nat → Int32), i + k = n → k < fu → (∀ q, q < i → w (2 + q) = row (2 + q)) → ∃ w', fX6_tick_l2 c fu (nI i) (TT M c row w) = fX6_tick_b29 c (TT M c row w') ∧ ag n (rA w') (rA row) := by
  intro k
  induction k with
  | zero =>
    intro fu i w hi hf hw
    obtain ⟨f, rfl, -⟩ := fs hf
    have cc : nI n ≤ nI i := nI_le (by omega) (by omega)
    refine ⟨w, ?_, fun q hq => hw q (by omega)⟩
    simp only [fX6_tick_l2, fX6_tick_b2, chk_of q17, c17, TT_c hc, h17, if_pos cc]
  | succ k ih =>
    intro fu i w hi hf hw
    obtain ⟨f, rfl, hf'⟩ := fs hf
    have cc : ¬ nI n ≤ nI i := nI_ge (by omega) (by omega)
    obtain ⟨w', g, a⟩ := ih f (i + 1) (upd w (2 + i) (row (2 + i))) (by omega) (by omega) (fun q hq => by
      by_cases h : q = i
      · subst h; rw [upd_s]
      · rw [upd_n _ _ (by omega)]; exact hw q (by omega))
    refine ⟨w', ?_, a⟩
    simp only [fX6_tick_l2, fX6_tick_b2, chk_of q17, c17, TT_c hc, h17, if_neg cc, n2a, chk_of (bIn_n (show 2 + i < 25 by omega) (by decide)), nc (show 2 + i < 2 ^ 31 by omega), n1a, TT_w]
    exact g
/-! what a tick makes of the places depends on the riders alone -/
theorem allB_congr {P Q : Nat → Bool} : ∀ (k i : Nat), (∀ r, i ≤ r → r < i + k → P r = Q r) → allB P k i = allB Q k i
  | 0, _, _ => rfl
  | k + 1, i, h => by
    unfold allB
    rw [h i (by omega) (by omega), allB_congr k (i + 1) (fun r h1 h2 => h r (by omega) (by omega))]
theorem fr_congr {n r : Nat} {K L A K' L' A' : Nat → Int32} {st ln : Int32} (hr : r < n) (hK : ag n K K') (hL : ag n L L') (hA : ag n A A') : fr n K L A r st ln = fr n K' L' A' r st ln := by
  refine allB_congr n 0 (fun q _ hq => ?_)
  unfold frP
  rw [hK r hr, hK q (by omega), hL q (by omega), hA q (by omega)]
theorem may_congr {n r : Nat} {S x : Int32} {K L A K' L' A' : Nat → Int32} (hr : r < n) (hK : ag n K K') (hL : ag n L L') (hA : ag n A A') : may n S K L A r x = may n S K' L' A' r x := by
  unfold may
  rw [hL r hr, fr_congr hr hK hL hA]
theorem ag_u {n r : Nat} {A A' : Nat → Int32} {v : Int32} (hA : ag n A A') : ag n (upd A r v) (upd A' r v) := fun q hq => by
  by_cases h : q = r
  · subst h; rw [upd_s, upd_s]
  · rw [upd_n _ _ h, upd_n _ _ h]; exact hA q hq
theorem ag_rf {n : Nat} {A : Nat → Int32} : ag n A A := fun _ _ => rfl
theorem ag_tr {n : Nat} {A B C : Nat → Int32} (h1 : ag n A B) (h2 : ag n B C) : ag n A C := fun q hq => (h1 q hq).trans (h2 q hq)
theorem ag_sy {n : Nat} {A B : Nat → Int32} (h1 : ag n A B) : ag n B A := fun q hq => (h1 q hq).symm
theorem goC_congr {n r : Nat} {S : Int32} {K L A K' L' A' : Nat → Int32} (hr : r < n) (hK : ag n K K') (hL : ag n L L') (hA : ag n A A') : ag n (goC n S K L r A) (goC n S K' L' r A') := by
  unfold goC
  rw [hK r hr, hA r hr, may_congr hr hK hL hA, may_congr hr hK hL hA, may_congr hr hK hL (ag_u hA)]
  repeat' split
  all_goals first
    | exact hA
    | exact ag_u hA
theorem mv_congr {n r : Nat} {K K' : Nat → Int32} {odd : Bool} (hr : r < n) (hK : ag n K K') : mv K odd r = mv K' odd r := by
  unfold mv
  rw [hK r hr]
theorem gK_congr {n b : Nat} {S : Int32} {odd : Bool} {K L A0 A K' L' A0' A' : Nat → Int32} (hK : ag n K K') (hL : ag n L L') (h0 : ag n A0 A0') (hA : ag n A A') : ag n (gK n S K L odd A0 b A) (gK n S K' L' odd A0' b A') := by
  unfold gK
  by_cases hr : 7 - b % 8 < n
  · rw [h0 _ hr, hL _ hr, mv_congr hr hK]
    split
    · exact goC_congr hr hK hL hA
    · exact hA
  · rw [if_neg (fun z => hr z.1.2), if_neg (fun z => hr z.1.2)]
    exact hA
theorem dn_congr {n : Nat} {S : Int32} {odd : Bool} {K L A0 K' L' A0' : Nat → Int32} (hK : ag n K K') (hL : ag n L L') (h0 : ag n A0 A0') : ∀ (B : Nat) (A A' : Nat → Int32), ag n A A' → ag n (dn (gK n S K L odd A0) B A) (dn (gK n S K' L' odd A0') B A')
  | 0, _, _, h => h
  | B + 1, A, A', h => dn_congr hK hL h0 B _ _ (gK_congr hK hL h0 h)
theorem mpA_congr {n : Nat} {F : Int32 → Int32} {A A' : Nat → Int32} (hA : ag n A A') : ag n (mpA n F A) (mpA n F A') := fun q hq => by
  unfold mpA
  rw [if_pos hq, if_pos hq, hA q hq]
theorem ff_congr {P Q : Nat → Bool} : ∀ (k i : Nat), (∀ r, i ≤ r → r < i + k → P r = Q r) → ff P k i = ff Q k i
  | 0, _, _ => rfl
  | k + 1, i, h => by
    unfold ff
    rw [h i (by omega) (by omega), ff_congr k (i + 1) (fun r h1 h2 => h r (by omega) (by omega))]
theorem ltC_congr {n : Nat} {K L A K' L' A' : Nat → Int32} (hK : ag n K K') (hL : ag n L L') (hA : ag n A A') : ag n (ltC n K L A) (ltC n K' L' A') := by
  unfold ltC
  rw [ff_congr (P := qP n K L A) (Q := qP n K' L' A') n 0 (fun r _ hr => by
    unfold qP
    rw [hA r (by omega), hL r (by omega), fr_congr (by omega) hK hL hA])]
  cases ff (qP n K' L' A') n 0 with
  | none => exact hA
  | some r => exact ag_u hA
theorem ph1_congr {n s : Nat} {S : Int32} {odd : Bool} {K L A K' L' A' : Nat → Int32} (hK : ag n K K') (hL : ag n L L') (hA : ag n A A') : ag n (ph1 n s S K L odd A) (ph1 n s S K' L' odd A') := dn_congr hK hL hA _ _ _ hA
theorem tkA_congr {n s : Nat} {S sp : Int32} {odd : Bool} {K L A K' L' A' : Nat → Int32} (hK : ag n K K') (hL : ag n L L') (hA : ag n A A') : ag n (tkA n s S sp K L odd A) (tkA n s S sp K' L' odd A') := ltC_congr hK hL (mpA_congr (ph1_congr hK hL hA))
/-- a tick of the reference -/
theorem X6_tick {M : Mem} {c n s : Nat} (hc : c ≠ 12) (hn : M c 17 = nI n) (hn7 : n ≤ 7) (hS : M c 16 = nI s) (hs : s ≤ 12) : ∃ row' w', fX6_tick c M = some (TT M c row' w') ∧ (∀ j, ¬ (2 ≤ j ∧ j < 9) → j ≠ 0 → row' j = M c j) ∧ row' 0 = M c 0 + 1 ∧ ag n (rA row') (tkA n s (M c 16) (M c 1) (rK (M c)) (rL (M c)) (odB (M c 0)) (rA (M c))) := by
  have hfu : n < FU := by have := FU_eq; omega
  have hfs : s < FU := by have := FU_eq; omega
  have e0 : TT M c (M c) (M 12) = M := by
    unfold TT
    rw [va_up_eta]
    have : (va_up M c (M c)) 12 = M 12 := va_up_ne _ _ (fun q => hc q.symm)
    rw [va_up_eta]
  obtain ⟨w, g2, aw⟩ := X6_t2 (M := M) hc hn7 hn n FU 0 (M 12) (by omega) hfu (fun q hq => by omega)
  rw [e0] at g2
  obtain ⟨row1, g36, s1, a1⟩ := X6_t36 (M := M) (w := w) hc hn7 hs s FU (M c) (Nat.le_refl s) hfs ⟨hn, hS, rfl, rfl, rfl⟩
  rw [← dn_16 hn7] at a1
  obtain ⟨row2, g109, s2, a2⟩ := X6_t109 (M := M) (w := w) hc hn7 (S := M c 16) (sp := M c 1) (rA row1) n FU 0 row1 (by omega) hfu (by rw [s1 17 (by omega)]; exact hn) (s1 16 (by omega)) (s1 1 (by omega)) (by rw [mpA_0])
  have s12 := sm_tr s1 s2
  have h17 : row2 17 = nI n := by rw [s12 17 (by omega)]; exact hn
  have g181 := X6_t181 (M := M) (w := w) hc hn7 h17 n FU (-1) (Nat.le_refl n) hfu
  rw [sm_K s12, sm_L s12] at g181
  have aP : ag n (rA row1) (ph1 n s (M c 16) (rK (M c)) (rL (M c)) (odB (M c 0)) (rA (M c))) := by
    rw [a1, hS]
    exact dn_congr ag_rf ag_rf aw _ _ _ ag_rf
  have aC : ag n (rA row2) (mpA n (cry (M c 16) (M c 1)) (ph1 n s (M c 16) (rK (M c)) (rL (M c)) (odB (M c 0)) (rA (M c)))) := by
    rw [a2]
    exact mpA_congr aP
  have hwalk : fX6_tick c M = fX6_tick_b221 c (match ff (qP n (rK (M c)) (rL (M c)) (rA row2)) n 0 with | some r => nI r | none => -1) (TT M c row2 w) := by
    show fX6_tick_l2 c FU (nI 0) M = _
    rw [g2]
    unfold fX6_tick_b29
    rw [chk_of q16, c16, TT_c hc, hS, g36]
    unfold fX6_tick_b107
    rw [l0, g109]
    unfold fX6_tick_b172
    rw [chk_of q17, c17, TT_c hc, h17, g181]
  have hlt := ltC_congr (n := n) (K := rK (M c)) (L := rL (M c)) ag_rf ag_rf aC
  rw [hwalk]
  cases hff : ff (qP n (rK (M c)) (rL (M c)) (rA row2)) n 0 with
  | none =>
    refine ⟨upd row2 0 (row2 0 + 1), w, ?_, fun j hj h0 => ?_, ?_, ?_⟩
    · simp only [fX6_tick_b221, fX6_tick_b231, if_pos (show (-1 : Int32) < 0 by decide), chk_of q0_25, c0_, TT_c hc, TT_u hc]
    · rw [upd_n _ _ h0, s12 j hj]
    · rw [upd_s, s12 0 (by omega)]
    · have : rA (upd row2 0 (row2 0 + 1)) = rA row2 := funext fun q => upd_n _ _ (by omega)
      rw [this]
      unfold tkA
      refine ag_tr ?_ hlt
      unfold ltC
      rw [hff]
      exact ag_rf
  | some r =>
    have hr := ff_lt n 0 r hff
    have hr7 : r < 7 := by omega
    refine ⟨upd (upd row2 (2 + r) 0) 0 (upd row2 (2 + r) 0 0 + 1), w, ?_, fun j hj h0 => ?_, ?_, ?_⟩
    · simp only [fX6_tick_b221, fX6_tick_b231, if_neg (nI_pos (show r < 2 ^ 31 by omega)), n2a, chk_of (bIn_n (show 2 + r < 25 by omega) (by decide)), nc (show 2 + r < 2 ^ 31 by omega), chk_of q0_25, c0_, TT_c hc, TT_u hc]
    · rw [upd_n _ _ h0, upd_n _ _ (by omega), s12 j hj]
    · rw [upd_s, upd_n _ _ (by omega), s12 0 (by omega)]
    · have : rA (upd (upd row2 (2 + r) 0) 0 (upd row2 (2 + r) 0 0 + 1)) = upd (rA row2) r 0 := by
        rw [← rA_u]
        exact funext fun q => upd_n _ _ (by omega)
      rw [this]
      unfold tkA
      refine ag_tr ?_ hlt
      unfold ltC
      rw [hff]
      exact ag_rf
