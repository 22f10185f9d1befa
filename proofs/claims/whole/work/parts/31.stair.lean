/-! one stair of the class: what its functions say, in clean words -/
def ag (n : Nat) (f h : Nat → Int32) : Prop := ∀ r, r < n → f r = h r
def on (x : Int32) : Bool := !decide (x = -1) && !decide (x = 99)
def okA (s : Nat) (x : Int32) : Prop := x = -1 ∨ x = 99 ∨ ∃ k, k < s ∧ x = nI k
theorem va_up_eta {α : Type} (f : Nat → α) (k : Nat) : va_up f k (f k) = f := by
  funext j
  by_cases h : j = k
  · subst h; rw [va_up_self]
  · rw [va_up_ne _ _ h]
theorem upd_eta (f : Nat → Int32) (k : Nat) : upd f k (f k) = f := va_up_eta f k
theorem upd_s (f : Nat → Int32) (k : Nat) (v : Int32) : upd f k v k = v := pk_us
theorem upd_n (f : Nat → Int32) {k j : Nat} (v : Int32) (h : j ≠ k) : upd f k v j = f j := pk_un h
theorem upd_u (f : Nat → Int32) (k : Nat) (v w : Int32) : upd (upd f k v) k w = upd f k w := by
  funext j
  by_cases h : j = k
  · subst h; rw [upd_s, upd_s]
  · rw [upd_n _ _ h, upd_n _ _ h, upd_n _ _ h]
theorem va_up_u {α : Type} (f : Nat → α) (k : Nat) (v w : α) : va_up (va_up f k v) k w = va_up f k w := bx_uu f k v w
theorem va_up_c {α : Type} (f : Nat → α) {k j : Nat} (v w : α) (h : k ≠ j) : va_up (va_up f k v) j w = va_up (va_up f j w) k v := by
  funext i
  by_cases h1 : i = j
  · subst h1; rw [va_up_self, va_up_ne _ _ (fun q => h q.symm), va_up_self]
  · rw [va_up_ne _ _ h1]
    by_cases h2 : i = k
    · subst h2; rw [va_up_self, va_up_self]
    · rw [va_up_ne _ _ h2, va_up_ne _ _ h2, va_up_ne _ _ h1]
theorem i32_lt_of_toInt {x y : Int32} (h : x.toInt < y.toInt) : x < y := Int32.lt_iff_toInt_lt.mpr h
theorem on_nI {k : Nat} (h : k < 99) : on (nI k) = true := by
  unfold on
  have h1 : ¬ nI k = -1 := fun e => by
    have := congrArg Int32.toInt e
    rw [nI_toInt (by omega)] at this
    have h2 : (-1 : Int32).toInt = -1 := by decide
    omega
  have h2 : ¬ nI k = 99 := fun e => by
    have h3 := (nI_eq (a := k) (b := 99) (by omega) (by omega)).mp e
    omega
  simp [h1, h2]
theorem isOn_on {s : Nat} {x : Int32} (hs : s ≤ 12) (h : okA s x) : (!decide (x < 0) && !decide (nI s ≤ x)) = on x := by
  rcases h with h | h | ⟨k, hk, h⟩
  · rw [h]; decide +revert
  · rw [h]
    have : nI s ≤ 99 := nI_le (a := s) (b := 99) (by omega) (by omega)
    simp [this]; decide
  · rw [h, on_nI (by omega)]
    have h1 : ¬ nI k < 0 := nI_pos (by omega)
    have h2 : ¬ nI s ≤ nI k := nI_ge hk (by omega)
    simp [h1, h2]
theorem X2_isOn {m : Mem} {r s : Nat} (hS : m 0 0 = nI s) (hs : s ≤ 12) (hr : r < 7) (ho : okA s (m 3 r)) : fX2_isOn (nI r) m = some (b2i (on (m 3 r))) := by
  rw [← isOn_on hs ho]
  simp only [fX2_isOn, chk_of (bIn_n hr (by decide)), nc (show r < 2 ^ 31 by omega), hS]
  by_cases h1 : m 3 r < 0 <;> by_cases h2 : nI s ≤ m 3 r <;> simp [h1, h2, b2i]
theorem X2_takesBoth {m : Mem} {r : Nat} (hr : r < 7) : fX2_takesBoth (nI r) m = some (b2i (decide (4 ≤ m 1 r))) := by
  simp only [fX2_takesBoth, chk_of (bIn_n hr (by decide)), nc (show r < 2 ^ 31 by omega)]
  by_cases h3 : 4 ≤ m 1 r
  · have : ¬ m 1 r < 4 := Int32.not_lt.mpr h3
    simp [h3, this, b2i]
  · have : m 1 r < 4 := Int32.not_le.mp h3
    simp [h3, this, b2i]
def may (n : Nat) (S : Int32) (K L A : Nat → Int32) (r : Nat) (x : Int32) : Bool := !decide (x < 0) && !decide (S ≤ x) && fr n K L A r x (L r)
theorem X2_mayGo {m : Mem} {n r : Nat} {x : Int32} (hn : m 0 3 = nI n) (hn7 : n ≤ 7) (hr : r < 7) : fX2_mayGo (nI r) x m = some (b2i (may n (m 0 0) (m 1) (m 2) (m 3) r x)) := by
  simp only [fX2_mayGo, X2_isFree hn hn7 hr, bdP_s, may, b2i_0]
  by_cases h1 : x < 0 <;> by_cases h2 : m 0 0 ≤ x <;> cases fr n (m 1) (m 2) (m 3) r x (m 2 r) <;> simp [h1, h2, b2i]
/-- one goes, if it may: up twice who runs, down a child, up once else -/
def goC (n : Nat) (S : Int32) (K L : Nat → Int32) (r : Nat) (A : Nat → Int32) : Nat → Int32 :=
  if K r = 5 then (if may n S K L A r (A r + (-1)) = true then upd A r (A r + (-1)) else A)
  else if K r = 3 then (if may n S K L A r (A r + 1) = true then (if may n S K L (upd A r (A r + 1)) r (A r + 1 + 1) = true then upd A r (A r + 1 + 1) else upd A r (A r + 1)) else A)
  else (if may n S K L A r (A r + 1) = true then upd A r (A r + 1) else A)
theorem mp_at {M : Mem} {c k : Nat} {v : Int32} : mp M c k v = va_up M c (upd (M c) k v) := rfl
theorem X2_go_l {m : Mem} {n r : Nat} {d t : Int32} (hn : m 0 3 = nI n) (hn7 : n ≤ 7) (hr : r < 7) (A : Nat → Int32) {fu : Nat} {x4 : Int32} : fX2_go_l35 (nI r) (fu + 1) d t x4 (va_up m 3 A) = if t ≤ x4 then some (va_up m 3 A) else if may n (m 0 0) (m 1) (m 2) A r (A r + d) = true then fX2_go_l35 (nI r) fu d t (x4 + 1) (va_up m 3 (upd A r (A r + d))) else some (va_up m 3 A) := by
  have hn' : (va_up m 3 A) 0 3 = nI n := hn
  have e3 : (va_up m 3 A) 3 = A := va_up_self _ _ _
  have e0 : (va_up m 3 A) 0 = m 0 := rfl
  have e1 : (va_up m 3 A) 1 = m 1 := rfl
  have e2 : (va_up m 3 A) 2 = m 2 := rfl
  simp only [fX2_go_l35, fX2_go_b35, X2_mayGo hn' hn7 hr, bdP_s, chk_of (bIn_n hr (by decide)), nc (show r < 2 ^ 31 by omega), e3, e0, e1, e2, mp_at, va_up_u, b2i_0]
  cases may n (m 0 0) (m 1) (m 2) A r (A r + d) <;> simp
theorem X2_goA {m : Mem} {n r : Nat} (hn : m 0 3 = nI n) (hn7 : n ≤ 7) (hr : r < 7) (A : Nat → Int32) : fX2_go (nI r) (va_up m 3 A) = some (va_up m 3 (goC n (m 0 0) (m 1) (m 2) r A)) := by
  have hl := @X2_go_l m n r
  obtain ⟨f, hF⟩ : ∃ f, FU = f + 1 + 1 + 1 := ⟨997, FU_eq⟩
  have u1 : upd A r (A r + 1) r = A r + 1 := upd_s _ _ _
  have e1 : (va_up m 3 A) 1 = m 1 := rfl
  have k1 : ¬ (1 : Int32) ≤ 0 := by decide
  have k2 : ¬ (2 : Int32) ≤ 0 := by decide
  have k3 : (1 : Int32) ≤ 0 + 1 := by decide
  have k4 : ¬ (2 : Int32) ≤ 0 + 1 := by decide
  have k5 : (2 : Int32) ≤ 0 + 1 + 1 := by decide
  simp only [fX2_go, fX2_go_b15, fX2_go_b31, chk_of (bIn_n hr (by decide)), nc (show r < 2 ^ 31 by omega), hF, hl hn hn7 hr, k1, k2, k3, k4, k5, if_true, if_false, u1, upd_u, e1]
  unfold goC
  by_cases h5 : m 1 r = 5
  · have h3 : ¬ (5 : Int32) = 3 := by decide
    simp only [h5, h3, if_true, if_false]
    split <;> simp_all
  · by_cases h3 : m 1 r = 3
    · simp only [h5, h3, if_true, if_false]
      repeat' split
      all_goals simp_all
    · simp only [h5, h3, if_false]
      split <;> simp_all
theorem X2_go {m : Mem} {n r : Nat} (hn : m 0 3 = nI n) (hn7 : n ≤ 7) (hr : r < 7) : fX2_go (nI r) m = some (va_up m 3 (goC n (m 0 0) (m 1) (m 2) r (m 3))) := by
  have h := X2_goA hn hn7 hr (m 3)
  rwa [va_up_eta] at h
