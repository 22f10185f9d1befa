/-! numbers, and how the functions are unfolded -/
def b2i (b : Bool) : Int32 := if b = true then 1 else 0
theorem chk_t {α : Type} {k : Option α} : chk true k = k := by unfold chk; rw [if_pos (Eq.refl true)]
theorem chk_of {α : Type} {b : Bool} {k : Option α} (h : b = true) : chk b k = k := by rw [h]; rfl
theorem bdP_s {β : Type} {r : Int32} {k : Int32 → Option β} : bdP (some r) k = k r := by unfold bdP; exact Eq.refl _
theorem bdV_s {β : Type} {M : Mem} {k : Mem → Option β} : bdV (some M) k = k M := by unfold bdV; exact Eq.refl _
theorem bdI_s {β : Type} {q : Int32 × Mem} {k : Int32 → Mem → Option β} : bdI (some q) k = k q.1 q.2 := by unfold bdI; exact Eq.refl _
theorem bIn_n {i N : Nat} (h : i < N) (hN : N < 2 ^ 31) : bIn (nI i) N = true := by
  unfold bIn
  rw [nI_toInt (by omega)]
  simp
  omega
theorem nc {i : Nat} (h : i < 2 ^ 31) : (nI i).toNatClampNeg = i := nI_clamp h
theorem l0 : (0 : Int32) = nI 0 := rfl
theorem n2a (i : Nat) : (2 : Int32) + nI i = nI (2 + i) := nI_add 2 i
theorem n9a (i : Nat) : (9 : Int32) + nI i = nI (9 + i) := nI_add 9 i
theorem n18a (i : Nat) : (18 : Int32) + nI i = nI (18 + i) := nI_add 18 i
theorem n1a (i : Nat) : nI i + 1 = nI (i + 1) := nI_1 i
theorem b2i_01 (b : Bool) : (b2i b == 0 || b2i b == 1) = true := by cases b <;> decide
theorem b2i_0 (b : Bool) : b2i b = 0 ↔ b = false := by cases b <;> decide
theorem b2i_1 (b : Bool) : b2i b = 1 ↔ b = true := by cases b <;> decide
theorem b2i_t : b2i true = 1 := rfl
theorem b2i_f : b2i false = 0 := rfl
theorem fs {fu k : Nat} (h : k < fu) : ∃ f, fu = f + 1 ∧ k ≤ f := ⟨fu - 1, by omega, by omega⟩
/-- all from i on, k of them -/
def allB (P : Nat → Bool) : Nat → Nat → Bool
  | 0, _ => true
  | k + 1, i => P i && allB P k (i + 1)
/-- k steps from i on -/
def it {α : Type} (F : Nat → α → α) : Nat → Nat → α → α
  | 0, _, x => x
  | k + 1, i, x => it F k (i + 1) (F i x)
/-- free for r: nobody else takes a place there that r would take in the lane ln -/
def frP (K L A : Nat → Int32) (r : Nat) (st ln : Int32) (q : Nat) : Bool := decide (q = r) || !decide (A q = st) || !(decide (4 ≤ K r) || decide (4 ≤ K q) || decide (L q = ln))
def fr (n : Nat) (K L A : Nat → Int32) (r : Nat) (st ln : Int32) : Bool := allB (frP K L A r st ln) n 0
theorem X2_isFree_l {m : Mem} {n r : Nat} {st : Int32} (hn : m 0 3 = nI n) (hn7 : n ≤ 7) (hr : r < 7) : ∀ (k fu i : Nat), i + k = n → k < fu → fX2_isFree_l19 (nI r) st m fu (b2i (decide (4 ≤ m 1 r))) (nI i) = some (b2i (allB (frP (m 1) (m 2) (m 3) r st (m 2 r)) k i)) := by
  intro k
  induction k with
  | zero =>
    intro fu i hi hf
    obtain ⟨f, rfl, -⟩ := fs hf
    have c : nI n ≤ nI i := nI_le (by omega) (by omega)
    simp only [fX2_isFree_l19, fX2_isFree_b19, hn, if_pos c, allB, b2i_t]
  | succ k ih =>
    intro fu i hi hf
    obtain ⟨f, rfl, hf'⟩ := fs hf
    have c : ¬ nI n ≤ nI i := nI_ge (by omega) (by omega)
    have e : (nI i = nI r) = (i = r) := propext (nI_eq (by omega) (by omega))
    simp only [fX2_isFree_l19, fX2_isFree_b19, fX2_isFree_b78, hn, if_neg c, e, chk_of (bIn_n (show i < 7 by omega) (by decide)), chk_of (bIn_n hr (by decide)), nc (show i < 2 ^ 31 by omega), nc (show r < 2 ^ 31 by omega), n1a, ih f (i + 1) (by omega) (by omega), allB, frP, b2i_0]
    by_cases h1 : i = r <;> by_cases h2 : m 3 i = st <;> by_cases h3 : 4 ≤ m 1 r <;> by_cases h4 : 4 ≤ m 1 i <;> by_cases h5 : m 2 i = m 2 r <;> simp [h1, h2, h3, h4, h5, b2i]
theorem X2_isFree {m : Mem} {n r : Nat} {st : Int32} (hn : m 0 3 = nI n) (hn7 : n ≤ 7) (hr : r < 7) : fX2_isFree (nI r) st m = some (b2i (fr n (m 1) (m 2) (m 3) r st (m 2 r))) := by
  have h := X2_isFree_l (st := st) hn hn7 hr n FU 0 (by omega) (by have := FU_eq; omega)
  simp only [fX2_isFree, fX2_isFree_b15, chk_of (bIn_n hr (by decide)), nc (show r < 2 ^ 31 by omega)]
  rw [← l0] at h
  unfold fr
  rw [← h]
  by_cases h3 : 4 ≤ m 1 r
  · have : ¬ m 1 r < 4 := Int32.not_lt.mpr h3
    simp [h3, this, b2i]
  · have : m 1 r < 4 := Int32.not_le.mp h3
    simp [h3, this, b2i]
