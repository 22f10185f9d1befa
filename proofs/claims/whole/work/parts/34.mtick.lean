/-! the reference: a row of 25: 0 tick, 1 speed, 2 .. places, 9 .. lanes, 16 steps, 17 how many, 18 .. kinds -/
def rK (row : Nat → Int32) (r : Nat) : Int32 := row (18 + r)
def rL (row : Nat → Int32) (r : Nat) : Int32 := row (9 + r)
def rA (row : Nat → Int32) (r : Nat) : Int32 := row (2 + r)
/-- the same but for the places -/
def sm (row row' : Nat → Int32) : Prop := ∀ j, ¬ (2 ≤ j ∧ j < 9) → row' j = row j
theorem sm_rf {row : Nat → Int32} : sm row row := fun _ _ => rfl
theorem sm_tr {a b c : Nat → Int32} (h1 : sm a b) (h2 : sm b c) : sm a c := fun j hj => (h2 j hj).trans (h1 j hj)
theorem sm_u {row : Nat → Int32} {r : Nat} {v : Int32} (h : r < 7) : sm row (upd row (2 + r) v) := fun j hj => upd_n _ _ (by omega)
theorem sm_K {row row' : Nat → Int32} (h : sm row row') : rK row' = rK row := funext fun r => h _ (by omega)
theorem sm_L {row row' : Nat → Int32} (h : sm row row') : rL row' = rL row := funext fun r => h _ (by omega)
theorem rA_u {row : Nat → Int32} {r : Nat} {v : Int32} : rA (upd row (2 + r) v) = upd (rA row) r v := by
  funext q
  unfold rA
  by_cases h : q = r
  · subst h; rw [upd_s, upd_s]
  · rw [upd_n _ _ h, upd_n _ _ (by omega)]
theorem q17 : bIn 17 25 = true := by decide
theorem q16 : bIn 16 25 = true := by decide
theorem q1_25 : bIn 1 25 = true := by decide
theorem q0_25 : bIn 0 25 = true := by decide
theorem c17 : Int32.toNatClampNeg 17 = 17 := by decide
theorem c16 : Int32.toNatClampNeg 16 = 16 := by decide
theorem c1_ : Int32.toNatClampNeg 1 = 1 := by decide
theorem c0_ : Int32.toNatClampNeg 0 = 0 := by decide
theorem X6_isFree_l {M : Mem} {n r : Nat} {st ln : Int32} (hn : M 0 17 = nI n) (hn7 : n ≤ 7) (hr : r < 7) : ∀ (k fu i : Nat) (b : Bool), i + k = n → k < fu → fX6_isFree_l6 (nI r) st ln M fu (b2i b) (nI i) = some (b2i (b && allB (frP (rK (M 0)) (rL (M 0)) (rA (M 0)) r st ln) k i)) := by
  intro k
  induction k with
  | zero =>
    intro fu i b hi hf
    obtain ⟨f, rfl, -⟩ := fs hf
    have c : nI n ≤ nI i := nI_le (by omega) (by omega)
    simp only [fX6_isFree_l6, fX6_isFree_b6, chk_of q17, c17, hn, if_pos c, allB, Bool.and_true, chk_of (b2i_01 b)]
  | succ k ih =>
    intro fu i b hi hf
    obtain ⟨f, rfl, hf'⟩ := fs hf
    have c : ¬ nI n ≤ nI i := nI_ge (by omega) (by omega)
    have e : (nI i = nI r) = (i = r) := propext (nI_eq (by omega) (by omega))
    have it := ih f (i + 1) true (by omega) (by omega)
    have if' := ih f (i + 1) false (by omega) (by omega)
    rw [b2i_t] at it
    rw [b2i_f] at if'
    have k10 : ¬ (1 : Int32) = 0 := by decide
    simp only [fX6_isFree_l6, fX6_isFree_b6, fX6_isFree_b47, fX6_isFree_b52, fX6_isFree_b80, fX6_isFree_b84, fX6_isFree_b85, chk_of q17, c17, hn, if_neg c, e, n2a, n9a, n18a, chk_of (bIn_n (show 18 + r < 25 by omega) (by decide)), chk_of (bIn_n (show 18 + i < 25 by omega) (by decide)), chk_of (bIn_n (show 9 + i < 25 by omega) (by decide)), chk_of (bIn_n (show 2 + i < 25 by omega) (by decide)), nc (show 18 + r < 2 ^ 31 by omega), nc (show 18 + i < 2 ^ 31 by omega), nc (show 9 + i < 2 ^ 31 by omega), nc (show 2 + i < 2 ^ 31 by omega), n1a, it, if', allB, frP, b2i_0, rK, rL, rA, k10, if_true, if_false]
    by_cases h1 : i = r <;> by_cases h2 : M 0 (2 + i) = st <;> by_cases h3 : 4 ≤ M 0 (18 + r) <;> by_cases h4 : 4 ≤ M 0 (18 + i) <;> by_cases h5 : M 0 (9 + i) = ln <;> cases b <;> simp [h1, h2, h3, h4, h5]
theorem X6_isFree {M : Mem} {n r : Nat} {st ln : Int32} (hn : M 0 17 = nI n) (hn7 : n ≤ 7) (hr : r < 7) : fX6_isFree (nI r) st ln M = some (b2i (fr n (rK (M 0)) (rL (M 0)) (rA (M 0)) r st ln)) := by
  have h := X6_isFree_l (st := st) (ln := ln) hn hn7 hr n FU 0 true (by omega) (by have := FU_eq; omega)
  rw [Bool.true_and] at h
  exact h
theorem sub1_lt {s : Nat} {x : Int32} (hs : s ≤ 12) : nI s - 1 < x ↔ nI s ≤ x := by
  have h1 : (nI s - 1).toInt = (s : Int) - 1 := pk_sub_toInt (a := s) (b := 1) (by omega) (by omega)
  rw [Int32.lt_iff_toInt_lt, Int32.le_iff_toInt_le, h1, nI_toInt (by omega)]
  omega
theorem X6_in {x lo hi : Int32} : fX6_in x lo hi = some (b2i (!decide (x < lo) && !decide (hi < x))) := by
  unfold fX6_in
  by_cases h1 : x < lo <;> by_cases h2 : hi < x <;> simp [h1, h2, b2i]
theorem X6_goes {M : Mem} {n r s : Nat} {d : Int32} (hn : M 0 17 = nI n) (hn7 : n ≤ 7) (hr : r < 7) (hS : M 0 16 = nI s) (hs : s ≤ 12) : ∃ row', fX6_goes (nI r) d M = some (b2i (may n (M 0 16) (rK (M 0)) (rL (M 0)) (rA (M 0)) r (rA (M 0) r + d)), va_up M 0 row') ∧ sm (M 0) row' ∧ rA row' = (if may n (M 0 16) (rK (M 0)) (rL (M 0)) (rA (M 0)) r (rA (M 0) r + d) = true then upd (rA (M 0)) r (rA (M 0) r + d) else rA (M 0)) := by
  have hlt : (nI s - 1 < M 0 (2 + r) + d) = (nI s ≤ M 0 (2 + r) + d) := propext (sub1_lt hs)
  have hm : may n (M 0 16) (rK (M 0)) (rL (M 0)) (rA (M 0)) r (rA (M 0) r + d) = (!decide (M 0 (2 + r) + d < 0) && !decide (nI s ≤ M 0 (2 + r) + d) && fr n (rK (M 0)) (rL (M 0)) (rA (M 0)) r (M 0 (2 + r) + d) (M 0 (9 + r))) := by rw [hS]; rfl
  rw [hm]
  have z0 : ∀ x : Int32, x + 0 = x := fun x => Int32.add_zero x
  have k10 : ¬ (1 : Int32) = 0 := by decide
  have t1 : ((1 : Int32) == 0 || (1 : Int32) == 1) = true := by decide
  have t0 : ((0 : Int32) == 0 || (0 : Int32) == 1) = true := by decide
  simp only [fX6_goes, fX6_goes_b41, fX6_goes_b42, n2a, n9a, chk_of (bIn_n (show 2 + r < 25 by omega) (by decide)), chk_of (bIn_n (show 9 + r < 25 by omega) (by decide)), chk_of q16, c16, nc (show 2 + r < 2 ^ 31 by omega), nc (show 9 + r < 2 ^ 31 by omega), X6_in, hS, hlt, bdP_s, X6_isFree hn hn7 hr, b2i_0, k10, if_true, if_false, chk_of t1, chk_of t0, z0, mp_at]
  by_cases h1 : (!decide (M 0 (2 + r) + d < 0) && !decide (nI s ≤ M 0 (2 + r) + d)) = true
  · rw [h1]
    by_cases h2 : fr n (rK (M 0)) (rL (M 0)) (rA (M 0)) r (M 0 (2 + r) + d) (M 0 (9 + r)) = true
    · rw [h2]
      refine ⟨upd (M 0) (2 + r) (M 0 (2 + r) + d), ?_, sm_u hr, ?_⟩
      · simp [b2i]
      · rw [rA_u]; simp [rA]
    · rw [Bool.not_eq_true] at h2
      rw [h2]
      refine ⟨M 0, ?_, sm_rf, ?_⟩
      · simp [b2i, upd_eta]
      · simp
  · rw [Bool.not_eq_true] at h1
    rw [h1]
    refine ⟨M 0, ?_, sm_rf, ?_⟩
    · simp [b2i, upd_eta]
    · simp
def moA (n : Nat) (S : Int32) (K L : Nat → Int32) (odd : Bool) (r : Nat) (A : Nat → Int32) : Nat → Int32 := if mv K odd r = true then goC n S K L r A else A
theorem X6_moves_un {M : Mem} {r : Nat} (hr : r < 7) : fX6_moves (nI r) M = if rK (M 0) r = 2 then bdI (fX6_goes (nI r) 1 M) (fun r1 M3 => if rK (M 0) r = 3 then (if r1 = 0 then some M3 else bdI (fX6_goes (nI r) 1 M3) (fun _ M5 => some M5)) else some M3) else if rK (M 0) r = 3 then bdI (fX6_goes (nI r) 1 M) (fun r1 M3 => if rK (M 0) r = 3 then (if r1 = 0 then some M3 else bdI (fX6_goes (nI r) 1 M3) (fun _ M5 => some M5)) else some M3)
    else if rK (M 0) r = 5 then (if M 0 0 - M 0 0 / 2 * 2 = 1 then bdI (fX6_goes (nI r) (-1) M) (fun r1 M3 => if r1 = 0 then (if rK (M 0) r = 3 then some M3 else some M3) else (if rK (M 0) r = 3 then bdI (fX6_goes (nI r) 1 M3) (fun _ M5 => some M5) else some M3)) else if rK (M 0) r = 3 then some M else some M) else if rK (M 0) r = 3 then some M else some M := by
  have e18 : M 0 (18 + r) = rK (M 0) r := rfl
  simp only [fX6_moves, fX6_moves_b17, fX6_moves_b53, fX6_moves_b54, n18a, chk_of (bIn_n (show 18 + r < 25 by omega) (by decide)), chk_of q0_25, c0_, nc (show 18 + r < 2 ^ 31 by omega), e18, if_true, show ¬ (1 : Int32) = 0 by decide, if_false]
theorem i23 : ¬ (2 : Int32) = 3 := by decide
theorem i32 : ¬ (3 : Int32) = 2 := by decide
theorem i52 : ¬ (5 : Int32) = 2 := by decide
theorem i53 : ¬ (5 : Int32) = 3 := by decide
theorem i25 : ¬ (2 : Int32) = 5 := by decide
theorem i35 : ¬ (3 : Int32) = 5 := by decide
theorem i10 : ¬ (1 : Int32) = 0 := by decide
theorem X6_goes' {M : Mem} {n r s : Nat} {d : Int32} (hn : M 0 17 = nI n) (hn7 : n ≤ 7) (hr : r < 7) (hS : M 0 16 = nI s) (hs : s ≤ 12) {K L A : Nat → Int32} {S : Int32} (eK : rK (M 0) = K) (eL : rL (M 0) = L) (eA : rA (M 0) = A) (eS : M 0 16 = S) : ∃ row', fX6_goes (nI r) d M = some (b2i (may n S K L A r (A r + d)), va_up M 0 row') ∧ sm (M 0) row' ∧ rA row' = (if may n S K L A r (A r + d) = true then upd A r (A r + d) else A) := by
  subst eK eL eA eS
  exact X6_goes hn hn7 hr hS hs
theorem X6_moves {M : Mem} {n r s : Nat} (hn : M 0 17 = nI n) (hn7 : n ≤ 7) (hr : r < 7) (hS : M 0 16 = nI s) (hs : s ≤ 12) {K L A : Nat → Int32} {S t : Int32} (eK : rK (M 0) = K) (eL : rL (M 0) = L) (eA : rA (M 0) = A) (eS : M 0 16 = S) (et : M 0 0 = t) : ∃ row', fX6_moves (nI r) M = some (va_up M 0 row') ∧ sm (M 0) row' ∧ rA row' = moA n S K L (odB t) r A := by
  rw [X6_moves_un hr, eK, et]
  obtain ⟨row1, g1, s1, a1⟩ := X6_goes' (d := 1) hn hn7 hr hS hs eK eL eA eS
  obtain ⟨row5, g5, s5, a5⟩ := X6_goes' (d := -1) hn hn7 hr hS hs eK eL eA eS
  have h1n : (va_up M 0 row1) 0 17 = nI n := by rw [va_up_self, s1 17 (by omega)]; exact hn
  have h1S : (va_up M 0 row1) 0 16 = nI s := by rw [va_up_self, s1 16 (by omega)]; exact hS
  obtain ⟨row2, g2, s2, a2⟩ := X6_goes' (M := va_up M 0 row1) (d := 1) h1n hn7 hr h1S hs (K := K) (L := L) (A := rA row1) (S := S) (by rw [va_up_self, sm_K s1]; exact eK) (by rw [va_up_self, sm_L s1]; exact eL) (by rw [va_up_self]) (by rw [va_up_self, s1 16 (by omega)]; exact eS)
  rw [va_up_self] at s2
  rw [va_up_u] at g2
  rw [g1, g5]
  simp only [bdI_s, g2]
  unfold moA mv goC odB
  by_cases h2 : K r = 2
  · refine ⟨row1, ?_, s1, ?_⟩
    · simp only [h2, i23, if_true, if_false]
    · rw [a1]; simp only [h2, i23, i25, if_true, if_false, decide_true, Bool.true_or]
  · by_cases h3 : K r = 3
    · by_cases hb : may n S K L A r (A r + 1) = true
      · refine ⟨row2, ?_, sm_tr s1 s2, ?_⟩
        · simp only [h3, i32, hb, b2i_t, i10, if_true, if_false]
        · rw [a2, a1]; simp only [h3, i35, hb, if_true, if_false, decide_true, Bool.true_or, Bool.or_true, upd_s, upd_u]
      · refine ⟨row1, ?_, s1, ?_⟩
        · rw [Bool.not_eq_true] at hb
          simp only [h3, i32, hb, b2i_f, if_true, if_false]
        · rw [a1]; simp only [h3, i35, hb, if_true, if_false, decide_true, Bool.true_or, Bool.or_true]
          rfl
    · by_cases h5 : K r = 5
      · by_cases ho : t - t / 2 * 2 = 1
        · refine ⟨row5, ?_, s5, ?_⟩
          · simp only [h5, i52, i53, ho, if_true, if_false, ite_self]
          · rw [a5]; simp only [h5, ho, if_true, decide_true, Bool.and_true, Bool.or_true]
        · refine ⟨M 0, ?_, sm_rf, ?_⟩
          · simp only [h5, i52, i53, ho, if_true, if_false, va_up_eta]
          · simp only [h5, i52, i53, ho, if_true, if_false, decide_false, Bool.and_false, Bool.or_false, Bool.false_eq_true, eA]
      · refine ⟨M 0, ?_, sm_rf, ?_⟩
        · simp only [h2, h3, h5, if_false, va_up_eta]
        · simp only [h2, h3, h5, if_false, decide_false, Bool.false_and, Bool.or_false, Bool.false_eq_true, eA]
