/-! loops that gather -/
theorem loopF {β : Type} {L : Nat → Int32 → Int32 → Option β} {F : Nat → Int32 → Int32} {fin : Int32 → Option β} {n : Nat} (hn : n < 999) (hs : ∀ fu i acc, i < n → L (fu + 1) acc (nI i) = L fu (F i acc) (nI (i + 1))) (he : ∀ fu acc, L (fu + 1) acc (nI n) = fin acc) (x0 : Int32) : L FU x0 0 = fin (it F n 0 x0) := by
  have main : ∀ (k fu i : Nat) (acc : Int32), i + k = n → k < fu → L fu acc (nI i) = fin (it F k i acc) := by
    intro k
    induction k with
    | zero =>
      intro fu i acc hi hf
      obtain ⟨f, rfl, -⟩ := fs hf
      have : i = n := by omega
      subst this
      exact he f acc
    | succ k ih =>
      intro fu i acc hi hf
      obtain ⟨f, rfl, hf'⟩ := fs hf
      rw [hs f i acc (by omega), ih f (i + 1) _ (by omega) (by omega)]
      rfl
  exact main n FU 0 x0 (by omega) (by have := FU_eq; omega)
theorem it_snoc {α : Type} (F : Nat → α → α) : ∀ (k i : Nat) (x : α), it F (k + 1) i x = F (i + k) (it F k i x)
  | 0, i, x => rfl
  | k + 1, i, x => by
    show it F (k + 1) (i + 1) (F i x) = _
    rw [it_snoc F k (i + 1)]
    show F (i + 1 + k) (it F k (i + 1) (F i x)) = F (i + (k + 1)) (it F k (i + 1) (F i x))
    rw [show i + 1 + k = i + (k + 1) by omega]
theorem it_congr {α : Type} {F G : Nat → α → α} : ∀ (k i : Nat) (x : α), (∀ r x, i ≤ r → r < i + k → F r x = G r x) → it F k i x = it G k i x
  | 0, _, _, _ => rfl
  | k + 1, i, x, h => by
    unfold it
    rw [h i x (by omega) (by omega)]
    exact it_congr k (i + 1) _ (fun r x h1 h2 => h r x (by omega) (by omega))
def cF (P : Nat → Bool) (i : Nat) (acc : Int32) : Int32 := if P i = true then acc + 1 else acc
def bF (P : Nat → Bool) (i : Nat) (acc : Int32) : Int32 := if P i = true then acc ||| ((1 : Int32) <<< (nI i &&& 31)) else acc
theorem it_cF {P : Nat → Bool} : ∀ n, it (cF P) n 0 0 = nI (cN P n)
  | 0 => rfl
  | n + 1 => by
    rw [it_snoc, it_cF n, Nat.zero_add]
    show (if P n = true then nI (cN P n) + 1 else nI (cN P n)) = nI (cN P n + (if P n = true then 1 else 0))
    split
    · rw [n1a]
    · rfl
theorem it_bF {P : Nat → Bool} : ∀ n, n ≤ 7 → it (bF P) n 0 0 = nI (bN P n)
  | 0, _ => rfl
  | n + 1, h => by
    rw [it_snoc, it_bF n (by omega), Nat.zero_add]
    show (if P n = true then nI (bN P n) ||| ((1 : Int32) <<< (nI n &&& 31)) else nI (bN P n)) = nI (bN P n + (if P n = true then 2 ^ n else 0))
    split
    · rw [or_bit (by omega)]
    · rfl
/-! who takes a place -/
def wtP (K L A : Nat → Int32) (st ln : Int32) (q : Nat) : Bool := decide (A q = st) && (decide (4 ≤ K q) || decide (L q = ln))
theorem X2_whoTakes {m : Mem} {n : Nat} {st ln : Int32} (hn : m 0 3 = nI n) (hn7 : n ≤ 7) : fX2_whoTakes st ln m = some (nI (bN (wtP (m 1) (m 2) (m 3) st ln) n)) := by
  unfold fX2_whoTakes
  rw [loopF (L := fX2_whoTakes_l5 st ln m) (F := bF (wtP (m 1) (m 2) (m 3) st ln)) (fin := fun x => some x) (n := n) (by omega) (fun fu i acc hi => ?_) (fun fu acc => ?_) 0, it_bF n hn7]
  · have c : ¬ nI n ≤ nI i := nI_ge hi (by omega)
    simp only [fX2_whoTakes_l5, fX2_whoTakes_b5, fX2_whoTakes_b45, fX2_whoTakes_b52, hn, if_neg c, chk_of (bIn_n (show i < 7 by omega) (by decide)), nc (show i < 2 ^ 31 by omega), X2_takesBoth (show i < 7 by omega), bdP_s, b2i_0, n1a, bF, wtP]
    by_cases h1 : m 3 i = st <;> by_cases h2 : m 2 i = ln <;> by_cases h3 : 4 ≤ m 1 i <;> simp [h1, h2, h3]
  · have c : nI n ≤ nI n := Int32.le_refl _
    simp only [fX2_whoTakes_l5, fX2_whoTakes_b5, hn, if_pos c]
theorem X6_step_l {N : Mem} {n : Nat} {st ln : Int32} (hn : N 6 17 = nI n) (hn7 : n ≤ 7) : fX6_step_l34 st ln N FU 0 0 = some (nI (bN (wtP (rK (N 6)) (rL (N 6)) (rA (N 6)) st ln) n)) := by
  rw [loopF (L := fX6_step_l34 st ln N) (F := bF (wtP (rK (N 6)) (rL (N 6)) (rA (N 6)) st ln)) (fin := fun x => some x) (n := n) (by omega) (fun fu i acc hi => ?_) (fun fu acc => ?_) 0, it_bF n hn7]
  · have c : ¬ nI n ≤ nI i := nI_ge hi (by omega)
    simp only [fX6_step_l34, fX6_step_b34, fX6_step_b87, fX6_step_b91, fX6_step_b92, fX6_step_b108, chk_of q17, c17, hn, if_neg c, n2a, n9a, n18a, chk_of (bIn_n (show 2 + i < 25 by omega) (by decide)), chk_of (bIn_n (show 9 + i < 25 by omega) (by decide)), chk_of (bIn_n (show 18 + i < 25 by omega) (by decide)), nc (show 2 + i < 2 ^ 31 by omega), nc (show 9 + i < 2 ^ 31 by omega), nc (show 18 + i < 2 ^ 31 by omega), i10, if_true, if_false, or_0, n1a, bF, wtP, rK, rL, rA]
    by_cases h1 : N 6 (2 + i) = st <;> by_cases h2 : N 6 (9 + i) = ln <;> by_cases h3 : 4 ≤ N 6 (18 + i) <;> simp [h1, h2, h3]
  · have c : nI n ≤ nI n := Int32.le_refl _
    simp only [fX6_step_l34, fX6_step_b34, chk_of q17, c17, hn, if_pos c]
theorem RS.who {m : Mem} {row : Nat → Int32} {n s : Nat} (h : RS m row n s) {st ln : Int32} : bN (wtP (m 1) (m 2) (m 3) st ln) n = bN (wtP (rK row) (rL row) (rA row) st ln) n := bN_congr n (fun r hr => by unfold wtP; rw [h.ag1 r hr, h.ag2 r hr, h.ag3 r hr])
theorem q_step (x y : Int32) : EqP (fX5_step x y) (fX6_step x y) := fun M N h => by
  obtain ⟨n, s, hR, ha⟩ := h.1
  have e0 : M 4 0 = N 6 16 := hR.2.1.1.trans hR.2.1.2.1.symm
  unfold fX5_step fX6_step
  simp only [X5_outside, X6_inB, bdP_s, chk_of q16, c16, e0, X2_whoTakes hR.1.1 hR.1.2.2, X6_step_l hR.1.2.1 hR.1.2.2, hR.who]
  by_cases hb : inB x 0 (N 6 16 - 1) = true
  · simp only [hb, Bool.not_true, Bool.not_false, b2i_f, b2i_t, i10, eq_self, if_true, if_false]
    by_cases hb2 : inB y 0 1 = true
    · simp only [hb2, Bool.not_true, Bool.not_false, b2i_f, b2i_t, i10, eq_self, if_true, if_false]
      exact ⟨_, rfl, rfl⟩
    · rw [Bool.not_eq_true] at hb2
      simp only [hb2, Bool.not_true, Bool.not_false, b2i_f, b2i_t, i10, eq_self, if_true, if_false]
      exact ⟨_, rfl, rfl⟩
  · rw [Bool.not_eq_true] at hb
    simp only [hb, Bool.not_true, Bool.not_false, b2i_f, b2i_t, i10, eq_self, if_true, if_false]
    exact ⟨_, rfl, rfl⟩
theorem RS.fr {m : Mem} {row : Nat → Int32} {n s r : Nat} (h : RS m row n s) (hr : r < n) {st ln : Int32} : fr n (m 1) (m 2) (m 3) r st ln = fr n (rK row) (rL row) (rA row) r st ln := fr_congr hr h.ag1 h.ag2 h.ag3
theorem X5_oneIf {b : Bool} : fX5_oneIf (b2i b) = some (b2i b) := by cases b <;> rfl
theorem lt4 {x : Int32} : (x < 4) = ¬ (4 ≤ x) := propext ⟨fun h => Int32.not_le.mpr h, fun h => Int32.not_le.mp h⟩
theorem q_rider (x y : Int32) : EqP (fX5_rider x y) (fX6_rider x y) := fun M N h => by
  obtain ⟨n, s, hR, ha⟩ := h.1
  have e1 : M 4 3 = nI n := hR.1.1
  have hn := hR.1.2.2
  unfold fX5_rider fX6_rider
  simp only [X5_noRider e1, X6_isRider hR.1.2.1, bdP_s]
  by_cases hb : inB x 0 (nI n - 1) = true
  · obtain ⟨r, hr, rfl⟩ := inB_r (by omega) hb
    obtain ⟨⟨k1, k2, k3⟩, hoL, hoA, hoK⟩ := hR.2.2.2.2 r hr
    have k2' : M 6 r = N 6 (9 + r) := k2
    have k3' : M 7 r = N 6 (2 + r) := k3
    have hr7 : r < 7 := by omega
    have hon := X2_isOn (m := gS M 4) hR.2.1.1 hR.2.1.2.2.1 hr7 (by rw [k3]; exact hoA)
    have hfree : ∀ st ln, fX6_isFree (nI r) st ln (gC N 6) = some (b2i (fr n (rK (N 6)) (rL (N 6)) (rA (N 6)) r st ln)) := fun st ln => X6_isFree (M := gC N 6) hR.1.2.1 hn hr7
    simp only [hb, Bool.not_true, Bool.not_false, b2i_f, b2i_t, i10, eq_self, if_true, if_false, n2a, n9a, n18a, chk_of (bIn_n hr7 (by decide)), chk_of (bIn_n (show 2 + r < 25 by omega) (by decide)), chk_of (bIn_n (show 9 + r < 25 by omega) (by decide)), chk_of (bIn_n (show 18 + r < 25 by omega) (by decide)), nc (show r < 2 ^ 31 by omega), nc (show 2 + r < 2 ^ 31 by omega), nc (show 9 + r < 2 ^ 31 by omega), nc (show 18 + r < 2 ^ 31 by omega), k2', k3', X2_takesBoth hr7, hon, hfree, X6_isOn, bdP_s, X5_oneIf, b2i_0, X2_mayGo hR.1.1 hn hr7, k1, k3, chk_of q16, c16]
    by_cases y0 : y = 0
    · simp only [if_pos y0]; exact ⟨_, rfl, rfl⟩
    · by_cases y1 : y = 1
      · simp only [if_neg y0, if_pos y1]; exact ⟨_, rfl, rfl⟩
      · by_cases y2 : y = 2
        · simp only [if_neg y0, if_neg y1, if_pos y2]
          refine ⟨_, rfl, ?_⟩
          by_cases h4 : 4 ≤ N 6 (18 + r)
          · rw [if_neg (Int32.not_lt.mpr h4)]; simp [h4, b2i]
          · rw [if_pos (Int32.not_le.mp h4)]; simp [h4, b2i]
        · by_cases y3 : y = 3
          · simp only [if_neg y0, if_neg y1, if_neg y2, if_pos y3]
            by_cases ho : on (N 6 (2 + r)) = true
            · obtain ⟨k, hk, ek⟩ := on_k hoA ho
              have hmay : may n (gS M 4 0 0) (gS M 4 1) (gS M 4 2) (gS M 4 3) r (N 6 (2 + r) + 1) = (!decide (N 6 16 - 1 ≤ N 6 (2 + r)) && fr n (rK (N 6)) (rL (N 6)) (rA (N 6)) r (N 6 (2 + r) + 1) (N 6 (9 + r))) := by
                unfold may
                rw [hR.fr hr, k2, hR.2.1.1, hR.2.1.2.1, ek, n1a]
                have h1 : ¬ nI (k + 1) < 0 := nI_pos (by have := hR.2.1.2.2.1; omega)
                have hs := hR.2.1.2.2.1
                have h2 : (nI s ≤ nI (k + 1)) = (nI s - 1 ≤ nI k) := by
                  rw [show nI s - 1 = nI (s - 1) from pk_sub (b := 1) (by omega)]
                  exact propext ((nI_leI (by omega) (by omega)).trans (Iff.trans ⟨fun _ => by omega, fun _ => by omega⟩ (nI_leI (a := s - 1) (b := k) (by omega) (by omega)).symm))
                simp only [h1, h2, decide_false, Bool.not_false, Bool.true_and]
              rw [hmay, ho]
              simp only [Bool.true_eq_false, if_false]
              by_cases h5 : N 6 16 - 1 ≤ N 6 (2 + r)
              · simp only [h5, decide_true, Bool.not_true, Bool.false_and, if_true]
                exact ⟨_, rfl, rfl⟩
              · simp only [h5, decide_false, Bool.not_false, Bool.true_and, if_false]
                refine ⟨b2i (fr n (rK (N 6)) (rL (N 6)) (rA (N 6)) r (N 6 (2 + r) + 1) (N 6 (9 + r))), ?_, ?_⟩
                · cases fr n (rK (N 6)) (rL (N 6)) (rA (N 6)) r (N 6 (2 + r) + 1) (N 6 (9 + r)) <;> rfl
                · cases fr n (rK (N 6)) (rL (N 6)) (rA (N 6)) r (N 6 (2 + r) + 1) (N 6 (9 + r)) <;> rfl
            · rw [Bool.not_eq_true] at ho
              simp only [ho, if_true]
              exact ⟨_, rfl, rfl⟩
          · simp only [if_neg y0, if_neg y1, if_neg y2, if_neg y3]
            exact ⟨_, rfl, rfl⟩
  · rw [Bool.not_eq_true] at hb
    simp only [hb, Bool.not_true, Bool.not_false, b2i_f, b2i_t, i10, eq_self, if_true, if_false]
    exact ⟨_, rfl, rfl⟩
