/-! a tick's first part: who goes, in which order -/
def mv (K : Nat → Int32) (odd : Bool) (r : Nat) : Bool := decide (K r = 2) || decide (K r = 3) || (decide (K r = 5) && odd)
def odB (t : Int32) : Bool := decide (t - t / 2 * 2 = 1)
theorem X2_goes {m : Mem} {r s : Nat} (hS : m 0 0 = nI s) (hs : s ≤ 12) (hr : r < 7) (ho : okA s (m 3 r)) : fX2_goes (nI r) m = some (b2i (on (m 3 r) && mv (m 1) (odB (m 0 2)) r)) := by
  simp only [fX2_goes, X2_isOn hS hs hr ho, bdP_s, chk_of (bIn_n hr (by decide)), nc (show r < 2 ^ 31 by omega), b2i_0, mv, odB]
  cases on (m 3 r)
  · simp [b2i]
  · by_cases h2 : m 1 r = 2 <;> by_cases h3 : m 1 r = 3 <;> by_cases h5 : m 1 r = 5 <;> by_cases h6 : m 0 2 - m 0 2 / 2 * 2 = 1 <;> simp [h2, h3, h5, h6, b2i]
/-- the place in the order of those ON, as a number -/
def key (L A : Nat → Int32) (r : Nat) : Nat := (A r).toNatClampNeg * 16 + (1 - (L r).toNatClampNeg) * 8 + 7 - r
def okL (x : Int32) : Prop := x = 0 ∨ x = 1
theorem okL_n {x : Int32} (h : okL x) : ∃ l, l ≤ 1 ∧ x = nI l := by
  rcases h with h | h
  · exact ⟨0, by omega, h⟩
  · exact ⟨1, by omega, h⟩
theorem on_k {s : Nat} {x : Int32} (h : okA s x) (ho : on x = true) : ∃ k, k < s ∧ x = nI k := by
  rcases h with h | h | h
  · rw [h] at ho; exact absurd ho (by decide)
  · rw [h] at ho; exact absurd ho (by decide)
  · exact h
theorem key_eq {L A : Nat → Int32} {r s : Nat} (hr : r < 7) (hs : s ≤ 12) (hl : okL (L r)) (ha : okA s (A r)) (ho : on (A r) = true) : (((A r * 16) + ((1 - L r) * 8)) + 7) - nI r = nI (key L A r) := by
  obtain ⟨l, hl1, el⟩ := okL_n hl
  obtain ⟨k, hk, ek⟩ := on_k ha ho
  unfold key
  rw [el, ek, nc (by omega), nc (by omega)]
  have e1 : nI k * 16 = nI (k * 16) := pk_mul k 16
  have e2 : (1 : Int32) - nI l = nI (1 - l) := pk_sub (a := 1) hl1
  have e3 : nI (1 - l) * 8 = nI ((1 - l) * 8) := pk_mul _ 8
  have e4 : nI (k * 16 + (1 - l) * 8) + 7 = nI (k * 16 + (1 - l) * 8 + 7) := nI_add _ 7
  rw [e1, e2, e3, nI_add, e4, pk_sub (by omega)]
def tB (n : Nat) (K L A : Nat → Int32) (odd : Bool) (B : Nat) (r : Nat) : Int32 := if (on (A r) && mv K odd r) = true ∧ key L A r < B then nI (key L A r) else -1
/-- what holds of a stair that was read -/
def okS (m : Mem) (n s : Nat) : Prop := m 0 3 = nI n ∧ n ≤ 7 ∧ m 0 0 = nI s ∧ s ≤ 12 ∧ (∀ r, r < n → okL (m 2 r) ∧ okA s (m 3 r))
theorem key_lt {L A : Nat → Int32} {r s : Nat} (hr : r < 7) (hs : s ≤ 12) (hl : okL (L r)) (ha : okA s (A r)) (ho : on (A r) = true) : key L A r < 16 * s := by
  obtain ⟨l, hl1, el⟩ := okL_n hl
  obtain ⟨k, hk, ek⟩ := on_k ha ho
  unfold key
  rw [el, ek, nc (by omega), nc (by omega)]
  omega
theorem X2_giveTurns_l {m : Mem} {n s : Nat} (ok : okS m n s) : ∀ (k fu i : Nat) (T : Nat → Int32), i + k = n → k < fu → (∀ q, q < i → T q = tB n (m 1) (m 2) (m 3) (odB (m 0 2)) (16 * s) q) → ∃ T' : Nat → Int32, fX2_giveTurns_l2 fu (nI i) (va_up m 4 T) = some (va_up m 4 T') ∧ ag n T' (tB n (m 1) (m 2) (m 3) (odB (m 0 2)) (16 * s)) := by
  obtain ⟨hn, hn7, hS, hs, hok⟩ := ok
  intro k
  induction k with
  | zero =>
    intro fu i T hi hf hT
    obtain ⟨f, rfl, -⟩ := fs hf
    have c : nI n ≤ nI i := nI_le (by omega) (by omega)
    have e0 : (va_up m 4 T) 0 = m 0 := rfl
    refine ⟨T, ?_, fun r hr => hT r (by omega)⟩
    simp only [fX2_giveTurns_l2, fX2_giveTurns_b2, e0, hn, if_pos c]
  | succ k ih =>
    intro fu i T hi hf hT
    obtain ⟨f, rfl, hf'⟩ := fs hf
    have c : ¬ nI n ≤ nI i := nI_ge (by omega) (by omega)
    have e0 : (va_up m 4 T) 0 = m 0 := rfl
    have e1 : (va_up m 4 T) 1 = m 1 := rfl
    have e2 : (va_up m 4 T) 2 = m 2 := rfl
    have e3 : (va_up m 4 T) 3 = m 3 := rfl
    have e4 : (va_up m 4 T) 4 = T := rfl
    have hi7 : i < 7 := by omega
    obtain ⟨hl, ha⟩ := hok i (by omega)
    have g := X2_goes (m := va_up m 4 T) (r := i) hS hs hi7 ha
    rw [e0, e1, e3] at g
    simp only [fX2_giveTurns_l2, fX2_giveTurns_b2, fX2_giveTurns_b53, e0, e2, e3, hn, if_neg c, g, bdP_s, chk_of (bIn_n hi7 (by decide)), nc (show i < 2 ^ 31 by omega), b2i_0, n1a, mp_at, e4, va_up_u]
    by_cases hg : (on (m 3 i) && mv (m 1) (odB (m 0 2)) i) = true
    · rw [if_neg (by simp [hg])]
      have ho : on (m 3 i) = true := by
        rw [Bool.and_eq_true] at hg; exact hg.1
      rw [key_eq hi7 hs hl ha ho]
      refine ih f (i + 1) _ (by omega) (by omega) (fun q hq => ?_)
      by_cases hqi : q = i
      · subst hqi
        rw [upd_s]
        unfold tB
        rw [if_pos ⟨hg, key_lt hi7 hs hl ha ho⟩]
      · rw [upd_n _ _ hqi]; exact hT q (by omega)
    · rw [if_pos (by simpa using hg)]
      refine ih f (i + 1) _ (by omega) (by omega) (fun q hq => ?_)
      by_cases hqi : q = i
      · subst hqi
        rw [upd_s]
        unfold tB
        rw [if_neg (fun z => hg z.1)]
      · rw [upd_n _ _ hqi]; exact hT q (by omega)
theorem X2_giveTurns {m : Mem} {n s : Nat} (ok : okS m n s) : ∃ T' : Nat → Int32, fX2_giveTurns m = some (va_up m 4 T') ∧ ag n T' (tB n (m 1) (m 2) (m 3) (odB (m 0 2)) (16 * s)) := by
  have h := X2_giveTurns_l ok n FU 0 (m 4) (by omega) (by have := ok.2.1; have := FU_eq; omega) (fun q hq => by omega)
  rw [va_up_eta] at h
  exact h
/-- the next in turn: the one whose number is greatest -/
theorem X2_next_l {m : Mem} {n r0 : Nat} {v : Int32} (hn : m 0 3 = nI n) (hn7 : n ≤ 7) (hr0 : r0 < n) (hv : m 4 r0 = v) (hmax : ∀ q, q < n → q ≠ r0 → m 4 q < v) : ∀ (k fu i : Nat) (x1 x2 : Int32), i + k = n → k < fu → ((i ≤ r0 ∧ x2 < v) ∨ (r0 < i ∧ x1 = nI r0 ∧ x2 = v)) → fX2_nextInTurn_l7 m fu x1 x2 (nI i) = some (nI r0) := by
  intro k
  induction k with
  | zero =>
    intro fu i x1 x2 hi hf hx
    obtain ⟨f, rfl, -⟩ := fs hf
    have c : nI n ≤ nI i := nI_le (by omega) (by omega)
    rcases hx with hx | hx
    · omega
    · simp only [fX2_nextInTurn_l7, fX2_nextInTurn_b7, hn, if_pos c, hx.2.1]
  | succ k ih =>
    intro fu i x1 x2 hi hf hx
    obtain ⟨f, rfl, hf'⟩ := fs hf
    have c : ¬ nI n ≤ nI i := nI_ge (by omega) (by omega)
    have hi7 : i < 7 := by omega
    simp only [fX2_nextInTurn_l7, fX2_nextInTurn_b7, fX2_nextInTurn_b34, hn, if_neg c, chk_of (bIn_n hi7 (by decide)), nc (show i < 2 ^ 31 by omega), n1a]
    by_cases hir : i = r0
    · subst hir
      rcases hx with hx | hx
      · rw [if_neg (by rw [hv]; exact Int32.not_le.mpr hx.2)]
        exact ih f (i + 1) _ _ (by omega) (by omega) (Or.inr ⟨by omega, rfl, hv⟩)
      · omega
    · have hlt := hmax i (by omega) hir
      by_cases hle : m 4 i ≤ x2
      · rw [if_pos hle]
        refine ih f (i + 1) _ _ (by omega) (by omega) ?_
        rcases hx with hx | hx
        · exact Or.inl ⟨by omega, hx.2⟩
        · exact Or.inr ⟨by omega, hx.2⟩
      · rw [if_neg hle]
        refine ih f (i + 1) _ _ (by omega) (by omega) ?_
        rcases hx with hx | hx
        · exact Or.inl ⟨by omega, hlt⟩
        · exact absurd (by rw [hx.2.2]; exact Int32.le_of_lt hlt) hle
theorem X2_next {m : Mem} {n r0 : Nat} {v : Int32} (hn : m 0 3 = nI n) (hn7 : n ≤ 7) (hr0 : r0 < n) (hv : m 4 r0 = v) (hv1 : -1 < v) (hmax : ∀ q, q < n → q ≠ r0 → m 4 q < v) : fX2_nextInTurn m = some (nI r0) :=
  X2_next_l hn hn7 hr0 hv hmax n FU 0 _ _ (by omega) (by have := FU_eq; omega) (Or.inl ⟨by omega, hv1⟩)
theorem X2_none_l {m : Mem} {n : Nat} (hn : m 0 3 = nI n) (hn7 : n ≤ 7) (hall : ∀ q, q < n → m 4 q = -1) : ∀ (k fu i : Nat), i + k = n → k < fu → fX2_nextInTurn_l7 m fu (-1000000) (-1) (nI i) = some (-1000000) := by
  intro k
  induction k with
  | zero =>
    intro fu i hi hf
    obtain ⟨f, rfl, -⟩ := fs hf
    have c : nI n ≤ nI i := nI_le (by omega) (by omega)
    simp only [fX2_nextInTurn_l7, fX2_nextInTurn_b7, hn, if_pos c]
  | succ k ih =>
    intro fu i hi hf
    obtain ⟨f, rfl, hf'⟩ := fs hf
    have c : ¬ nI n ≤ nI i := nI_ge (by omega) (by omega)
    have hi7 : i < 7 := by omega
    have hle : (-1 : Int32) ≤ -1 := by decide
    simp only [fX2_nextInTurn_l7, fX2_nextInTurn_b7, fX2_nextInTurn_b34, hn, if_neg c, chk_of (bIn_n hi7 (by decide)), nc (show i < 2 ^ 31 by omega), n1a, hall i (by omega), if_pos hle]
    exact ih f (i + 1) (by omega) (by omega)
theorem X2_none {m : Mem} {n : Nat} (hn : m 0 3 = nI n) (hn7 : n ≤ 7) (hall : ∀ q, q < n → m 4 q = -1) : fX2_nextInTurn m = some (-1000000) :=
  X2_none_l hn hn7 hall n FU 0 (by omega) (by have := FU_eq; omega)
