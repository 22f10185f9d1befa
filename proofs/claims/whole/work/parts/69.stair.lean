/-! stair: the text, its figures, its tokens -/
def TM (M : Mem) (B : Nat → Nat) (len : Nat) : Prop := M 2 1 = nI len ∧ len ≤ 90 ∧ ∀ j, j < len → M 3 j = nI (B j) ∧ B j < 256
def TN (N : Mem) (B : Nat → Nat) (len : Nat) : Prop := N 0 6 = nI len ∧ len ≤ 90 ∧ ∀ j, j < len → N 5 j = nI (B j) ∧ B j < 256
def dig (B : Nat → Nat) (len j : Nat) : Bool := decide (j < len) && decide (48 ≤ B j) && decide (B j ≤ 57)
def nd (B : Nat → Nat) (len p : Nat) : Nat := if dig B len p = true then (if dig B len (p + 1) = true then (if dig B len (p + 2) = true then 3 else 2) else 1) else 0
def nv (B : Nat → Nat) (len p : Nat) : Nat := if dig B len (p + 1) = true then 10 * (B p - 48) + (B (p + 1) - 48) else B p - 48
def ltr (b : Nat) : Bool := (decide (97 ≤ b) && decide (b ≤ 122)) || decide (b = 44) || decide (b = 59)
def wd (B : Nat → Nat) (len p : Nat) : Nat := if ltr (B p) = true then 1 else if nd B len p = 3 then 0 else nd B len p
theorem nle {a b : Nat} (ha : a < 2 ^ 31) (hb : b < 2 ^ 31) : (nI a ≤ nI b) = (a ≤ b) := propext (nI_leI ha hb)
theorem nlt {a b : Nat} (ha : a < 2 ^ 31) (hb : b < 2 ^ 31) : (nI a < nI b) = (a < b) := propext (nI_ltI ha hb)
theorem neq {a b : Nat} (ha : a < 2 ^ 31) (hb : b < 2 ^ 31) : (nI a = nI b) = (a = b) := propext (nI_eq ha hb)
theorem dig_in {B : Nat → Nat} {len j : Nat} (h : dig B len j = true) : j < len ∧ 48 ≤ B j ∧ B j ≤ 57 := by
  unfold dig at h
  simp only [Bool.and_eq_true, decide_eq_true_eq] at h
  exact ⟨h.1.1, h.1.2, h.2⟩
theorem X3_fig {M : Mem} {B : Nat → Nat} {len p : Nat} (h : TM M B len) (hp : p < 200) : fX3_isFigure (nI p) M = some (b2i (dig B len p)) := by
  unfold fX3_isFigure
  rw [h.1]
  by_cases hl : len ≤ p
  · rw [if_pos (nI_le hl (by omega))]
    unfold dig
    rw [decide_eq_false (show ¬ p < len by omega)]
    rfl
  · have hl' : p < len := by omega
    obtain ⟨e, hb⟩ := h.2.2 p hl'
    have := h.2.1
    rw [if_neg (nI_ge hl' (by omega)), chk_of (bIn_n (show p < 90 by omega) (by decide)), nc (by omega), e]
    rw [chk_of (bIn_n (show p < 90 by omega) (by decide))]
    unfold dig
    rw [decide_eq_true hl']
    by_cases h1 : B p < 48
    · rw [if_pos (show nI (B p) < 48 from nI_lt (b := 48) h1 (by omega)), decide_eq_false (show ¬ 48 ≤ B p by omega)]
      rfl
    · rw [if_neg (show ¬ nI (B p) < 48 from fun hh => h1 ((nI_ltI (b := 48) (by omega) (by omega)).mp hh)), decide_eq_true (show 48 ≤ B p by omega)]
      by_cases h2 : 57 < B p
      · rw [if_pos (show (57 : Int32) < nI (B p) from nI_lt (a := 57) h2 (by omega)), decide_eq_false (show ¬ B p ≤ 57 by omega)]
        rfl
      · rw [if_neg (show ¬ (57 : Int32) < nI (B p) from fun hh => h2 ((nI_ltI (a := 57) (by omega) (by omega)).mp hh)), decide_eq_true (show B p ≤ 57 by omega)]
        rfl
def lt_ (B : Nat → Nat) (len p : Nat) : Int32 := if p < len then nI (B p) else -1
theorem X6_let {N : Mem} {B : Nat → Nat} {len p : Nat} (h : TN N B len) (hp : p < 200) : fX6_letterAt (nI p) N = some (lt_ B len p) := by
  unfold fX6_letterAt lt_
  rw [h.1]
  by_cases hl : len ≤ p
  · rw [if_pos (nI_le hl (by omega)), if_neg (by omega)]
  · have hl' : p < len := by omega
    obtain ⟨e, hb⟩ := h.2.2 p hl'
    have := h.2.1
    rw [if_neg (nI_ge hl' (by omega)), chk_of (bIn_n (show p < 90 by omega) (by decide)), nc (by omega), e, if_pos hl']
theorem X6_dig {B : Nat → Nat} {len p : Nat} (hb : p < len → B p < 256) : fX6_isDigit (lt_ B len p) = some (b2i (dig B len p)) := by
  unfold fX6_isDigit
  rw [X6_inB, bdP_s, chk_of (b2i_01 _)]
  congr 2
  unfold lt_ dig inB
  by_cases hl : p < len
  · have hb' := hb hl
    rw [if_pos hl, decide_eq_true hl, Bool.true_and]
    have e1 : decide (nI (B p) < 48) = decide (B p < 48) := by
      have := nlt (a := B p) (b := 48) (by omega) (by omega)
      exact decide_eq_decide.mpr (this ▸ Iff.rfl)
    have e2 : decide ((57 : Int32) < nI (B p)) = decide (57 < B p) := by
      have := nlt (a := 57) (b := B p) (by omega) (by omega)
      exact decide_eq_decide.mpr (this ▸ Iff.rfl)
    rw [e1, e2]
    by_cases h1 : B p < 48 <;> by_cases h2 : 57 < B p <;> simp [h1, h2] <;> omega
  · rw [if_neg hl, decide_eq_false hl, Bool.false_and, Bool.false_and]
    decide
theorem nd_le {B : Nat → Nat} {len p : Nat} : nd B len p ≤ 3 := by
  unfold nd
  split
  · split
    · split <;> omega
    · omega
  · omega
theorem X3_wid {M : Mem} {B : Nat → Nat} {len p : Nat} (h : TM M B len) (hp : p < len) : fX3_widthOfToken (nI p) M = some (nI (wd B len p)) := by
  have hl := h.2.1
  obtain ⟨e, hb⟩ := h.2.2 p hp
  have hloop : fX3_widthOfToken_l35 (nI p) M FU 0 = some (nI (if nd B len p = 3 then 0 else nd B len p)) := by
    obtain ⟨f, hF⟩ : ∃ f, FU = f + 4 := ⟨996, FU_eq⟩
    rw [hF]
    have d0 : ¬ (3 : Int32) ≤ 0 := by decide
    have d1 : ¬ (3 : Int32) ≤ nI 1 := by decide
    have d2 : ¬ (3 : Int32) ≤ nI 2 := by decide
    have d3 : (3 : Int32) ≤ nI 3 := by decide
    have a0 : nI p + 0 = nI p := Int32.add_zero _
    have a1 : nI p + nI 1 = nI (p + 1) := nI_add _ _
    have a2 : nI p + nI 2 = nI (p + 2) := nI_add _ _
    have b0 : (0 : Int32) + 1 = nI 1 := rfl
    simp only [fX3_widthOfToken_l35, fX3_widthOfToken_b35, fX3_widthOfToken_b56, d0, d1, d2, d3, if_false, if_true, a0, a1, a2, b0, n1a, X3_fig h (show p < 200 by omega), X3_fig h (show p + 1 < 200 by omega), X3_fig h (show p + 2 < 200 by omega), bdP_s]
    unfold nd
    cases hd0 : dig B len p with
    | false => rfl
    | true =>
      cases hd1 : dig B len (p + 1) with
      | false => rfl
      | true =>
        cases hd2 : dig B len (p + 2) with
        | false => rfl
        | true => rfl
  unfold fX3_widthOfToken
  rw [chk_of (bIn_n (show p < 90 by omega) (by decide)), nc (by omega), e]
  have e97 : (nI (B p) < 97) = (B p < 97) := nlt (b := 97) (by omega) (by omega)
  have e122 : (nI (B p) ≤ 122) = (B p ≤ 122) := nle (b := 122) (by omega) (by omega)
  have e44 : (nI (B p) = 44) = (B p = 44) := neq (b := 44) (by omega) (by omega)
  have e59 : (nI (B p) = 59) = (B p = 59) := neq (b := 59) (by omega) (by omega)
  simp only [fX3_widthOfToken_b19, e97, e122, e44, e59, hloop]
  have hw1 : ltr (B p) = true → some (1 : Int32) = some (nI (wd B len p)) := fun hh => by unfold wd; rw [if_pos hh]; rfl
  have hw0 : ltr (B p) = false → some (nI (if nd B len p = 3 then 0 else nd B len p)) = some (nI (wd B len p)) := fun hh => by
    unfold wd
    rw [if_neg (show ¬ ltr (B p) = true by rw [hh]; decide)]
  have hlt : ltr (B p) = ((decide (97 ≤ B p) && decide (B p ≤ 122)) || decide (B p = 44) || decide (B p = 59)) := rfl
  by_cases h1 : B p < 97
  · rw [if_pos h1]
    rw [decide_eq_false (show ¬ 97 ≤ B p by omega), Bool.false_and, Bool.false_or] at hlt
    by_cases h2 : B p = 44
    · rw [if_pos h2]
      exact hw1 (by rw [hlt, decide_eq_true h2]; rfl)
    · rw [if_neg h2]
      rw [decide_eq_false h2, Bool.false_or] at hlt
      by_cases h3 : B p = 59
      · rw [if_pos h3]
        exact hw1 (by rw [hlt, decide_eq_true h3])
      · rw [if_neg h3]
        exact hw0 (by rw [hlt, decide_eq_false h3])
  · rw [if_neg h1]
    rw [decide_eq_true (show 97 ≤ B p by omega), Bool.true_and, decide_eq_false (show ¬ B p = 44 by omega), decide_eq_false (show ¬ B p = 59 by omega), Bool.or_false, Bool.or_false] at hlt
    by_cases h4 : B p ≤ 122
    · rw [if_pos h4]
      exact hw1 (by rw [hlt, decide_eq_true h4])
    · rw [if_neg h4, if_neg (show ¬ B p = 44 by omega), if_neg (show ¬ B p = 59 by omega)]
      exact hw0 (by rw [hlt, decide_eq_false h4])
/-! the reference's signs and numbers -/
def sgn (B : Nat → Nat) (len p c : Nat) : Bool := decide (p < len) && decide (B p = c)
theorem b01_0 : ((0 : Int32) == 0 || (0 : Int32) == 1) = true := by decide
theorem X6_sgn {N : Mem} {B : Nat → Nat} {len p c : Nat} (h : TN N B len) (hp : p ≤ len) (h18 : N 0 18 = nI p) (hc : c < 256) : fX6_sign (nI c) N = if sgn B len p c = true then some (1, mp N 0 18 (nI (p + 1))) else some (0, mp N 0 19 1) := by
  have hl := h.2.1
  unfold fX6_sign
  rw [h18, X6_let h (by omega), bdP_s, n1a]
  unfold fX6_fails
  rw [bdI_s]
  simp only [chk_of b01_0]
  unfold lt_ sgn
  by_cases hpl : p < len
  · obtain ⟨e, hb⟩ := h.2.2 p hpl
    have e1 : (nI (B p) = nI c) = (B p = c) := neq (by omega) (by omega)
    rw [if_pos hpl, decide_eq_true hpl, Bool.true_and]
    by_cases hc1 : B p = c
    · rw [if_pos (e1.mpr hc1), decide_eq_true hc1, if_pos rfl]
    · rw [if_neg (fun hh => hc1 (e1.mp hh)), decide_eq_false hc1, if_neg (by decide)]
  · have hm : ¬ (-1 : Int32) = nI c := fun hh => by
      have := congrArg Int32.toInt hh
      rw [nI_toInt (by omega)] at this
      have e : (-1 : Int32).toInt = -1 := by decide
      omega
    rw [if_neg hpl, if_neg hm, decide_eq_false hpl, Bool.false_and, if_neg (by decide)]
theorem nv_1 {B : Nat → Nat} {len p : Nat} (h0 : dig B len p = true) : ((10 : Int32) * 0 + nI (B p)) - 48 = nI (B p - 48) := by
  obtain ⟨-, h1, h2⟩ := dig_in h0
  have e : (10 : Int32) * 0 = nI 0 := by decide
  rw [e, nI_add, Nat.zero_add]
  exact nI_subN h1
theorem nv_2 {x b : Nat} (h1 : 48 ≤ b) : ((10 : Int32) * nI x + nI b) - 48 = nI (10 * x + (b - 48)) := by
  have e : (10 : Int32) * nI x = nI (10 * x) := pk_mul 10 x
  rw [e, nI_add]
  have := nI_subN (a := 10 * x + b) (b := 48) (by omega)
  rw [show 10 * x + b - 48 = 10 * x + (b - 48) by omega] at this
  exact this
def inR (x lo hi : Nat) : Bool := decide (lo ≤ x) && decide (x ≤ hi)
theorem inB_R {x lo hi : Nat} (hx : x < 2 ^ 31) (hl : lo < 2 ^ 31) (hh : hi < 2 ^ 31) : inB (nI x) (nI lo) (nI hi) = inR x lo hi := by
  unfold inB inR
  have e1 : decide (nI x < nI lo) = decide (x < lo) := decide_eq_decide.mpr (nI_ltI hx hl)
  have e2 : decide (nI hi < nI x) = decide (hi < x) := decide_eq_decide.mpr (nI_ltI hh hx)
  rw [e1, e2]
  by_cases h1 : x < lo <;> by_cases h2 : hi < x <;> simp [h1, h2] <;> omega
theorem nv_lt {B : Nat → Nat} {len p : Nat} (h0 : dig B len p = true) : nv B len p < 100 := by
  obtain ⟨-, h1, h2⟩ := dig_in h0
  unfold nv
  split
  · rename_i h
    obtain ⟨-, h3, h4⟩ := dig_in h
    omega
  · omega
theorem X6_num {N : Mem} {B : Nat → Nat} {len p lo hi k : Nat} (h : TN N B len) (hp : p ≤ len) (h18 : N 0 18 = nI p) (hk : k < 25) (hlo : lo < 256) (hhi : hi < 256) : fX6_number (nI k) (nI lo) (nI hi) N = if nd B len p = 0 ∨ nd B len p = 3 then some (0, mp N 0 19 1) else if inR (nv B len p) lo hi = true then some (1, mp (mp N 0 18 (nI (p + nd B len p))) 7 k (nI (nv B len p))) else some (0, mp N 0 19 2) := by
  have hl := h.2.1
  have hb : ∀ j, j < len → B j < 256 := fun j hj => (h.2.2 j hj).2
  obtain ⟨f, hF⟩ : ∃ f, FU = f + 4 := ⟨996, FU_eq⟩
  unfold fX6_number
  rw [hF]
  have d0 : ¬ (3 : Int32) ≤ 0 := by decide
  have d1 : ¬ (3 : Int32) ≤ nI 1 := by decide
  have d2 : ¬ (3 : Int32) ≤ nI 2 := by decide
  have d3 : (3 : Int32) ≤ nI 3 := by decide
  have a0 : nI p + 0 = nI p := Int32.add_zero _
  have a1 : nI p + nI 1 = nI (p + 1) := nI_add _ _
  have a2 : nI p + nI 2 = nI (p + 2) := nI_add _ _
  have a3 : nI p + nI 3 = nI (p + 3) := nI_add _ _
  have b0 : (0 : Int32) + 1 = nI 1 := rfl
  have z1 : ¬ nI 1 = 0 := by decide
  have z2 : ¬ nI 2 = 0 := by decide
  have z3 : ¬ nI 3 = 0 := by decide
  have y1 : ¬ nI 1 = 3 := by decide
  have y2 : ¬ nI 2 = 3 := by decide
  have y3 : (nI 3 = 3) = True := eq_true (by decide)
  have y0 : ¬ (0 : Int32) = 3 := by decide
  simp only [fX6_number_l6, fX6_number_b6, fX6_number_b58, fX6_fails, bdI_s, chk_of b01_0, h18, a0, a1, a2, a3, b0, n1a, d0, d1, d2, d3, z1, z2, z3, y0, y1, y2, y3, eq_self, if_false, if_true, X6_let h (show p < 200 by omega), X6_let h (show p + 1 < 200 by omega), X6_let h (show p + 2 < 200 by omega), X6_let h (show p + 3 < 200 by omega), bdP_s, X6_dig (hb p), X6_dig (hb (p + 1)), X6_dig (hb (p + 2)), X6_dig (hb (p + 3)), X6_inB, chk_of (bIn_n hk (by decide)), nc (show k < 2 ^ 31 by omega)]
  cases hd0 : dig B len p with
  | false =>
    have hn : nd B len p = 0 := by unfold nd; rw [hd0]; rfl
    rw [hn, b2i_f, if_pos rfl, if_pos (Or.inl rfl)]
  | true =>
    obtain ⟨l0, q0, r0⟩ := dig_in hd0
    have e0 := nv_1 hd0
    have c0 : ∀ {α : Type} {k : Option α}, chk (bIn (nI p) 90) k = k := fun {α k} => chk_of (bIn_n (show p < 90 by omega) (by decide))
    rw [b2i_t, if_neg i10, c0, nc (show p < 2 ^ 31 by omega), (h.2.2 p l0).1, e0]
    have hv1 : nv B len p < 100 := nv_lt hd0
    cases hd1 : dig B len (p + 1) with
    | false =>
      have hn : nd B len p = 1 := by unfold nd; rw [hd0, hd1]; rfl
      have ev : nv B len p = B p - 48 := by unfold nv; rw [hd1, if_neg (by decide)]
      rw [hn, b2i_f, if_pos rfl, if_neg (show ¬ (1 = 0 ∨ 1 = 3) by omega), ← ev, inB_R (by omega) (by omega) (by omega)]
      cases inR (nv B len p) lo hi with
      | false => rw [b2i_f, if_pos rfl, if_neg (by decide)]
      | true => rw [b2i_t, if_neg i10, if_pos rfl]
    | true =>
      obtain ⟨l1, q1, r1⟩ := dig_in hd1
      have c1 : ∀ {α : Type} {k : Option α}, chk (bIn (nI (p + 1)) 90) k = k := fun {α k} => chk_of (bIn_n (show p + 1 < 90 by omega) (by decide))
      have ev : nv B len p = 10 * (B p - 48) + (B (p + 1) - 48) := by unfold nv; rw [hd1, if_pos rfl]
      rw [b2i_t, if_neg i10, c1, nc (show p + 1 < 2 ^ 31 by omega), (h.2.2 (p + 1) l1).1, nv_2 q1, ← ev]
      cases hd2 : dig B len (p + 2) with
      | false =>
        have hn : nd B len p = 2 := by unfold nd; rw [hd0, hd1, hd2]; rfl
        rw [hn, b2i_f, if_pos rfl, if_neg (show ¬ (2 = 0 ∨ 2 = 3) by omega), inB_R (by omega) (by omega) (by omega)]
        cases inR (nv B len p) lo hi with
        | false => rw [b2i_f, if_pos rfl, if_neg (by decide)]
        | true => rw [b2i_t, if_neg i10, if_pos rfl]
      | true =>
        have hn : nd B len p = 3 := by unfold nd; rw [hd0, hd1, hd2]; rfl
        obtain ⟨l2, q2, r2⟩ := dig_in hd2
        rw [hn, b2i_t, if_neg i10, chk_of (bIn_n (show p + 2 < 90 by omega) (by decide)), if_pos (show (3 = 0 ∨ 3 = 3) from Or.inr rfl), ite_self]
