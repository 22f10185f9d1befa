/-! S: one stair: 0 the object, 1 kind, 2 lane, 3 at, 4 turn -/
def eS (g : gT) (a : Nat → Nat) (M : Mem) : Nat → va_E := fun i => match i with
  | 0 => .inr (2, [.int (M 0 0), .int (M 0 1), .int (M 0 2), .int (M 0 3), .ref (a 1), .ref (a 2), .ref (a 3), .ref (a 4)])
  | j + 1 => .inl (g.2.1, 7, .inl (M (j + 1)))
def kX (c : Nat) : Nat :=
  if c = 0 then 5 else if c = 1 then 9 else if c = 2 then 3 else if c = 3 then 7 else if c < 9 then (if c = 4 then 2 else 7) else if c = 9 then 0 else if c = 10 then 10
  else if c < 131 then (if (c - 11) % 5 = 0 then 2 else 7) else if c = 131 then 10 else if c = 132 then 4 else if c = 133 then 7 else if c < 139 then (if c = 134 then 2 else 7)
  else if c = 139 then 10 else if c < 142 then 7 else if c < 158 then (if c % 2 = 0 then 1 else 7) else if (c - 158) % 5 = 0 then 2 else 7
def lX (c : Nat) : Nat := if c = 3 then 90 else if c = 133 then 16 else if c = 140 then 6 else if c = 141 then 6 else if c < 142 then 7 else if c < 158 then 40 else 7
def sX (c : Nat) : Nat := if c = 10 then 11 else if c = 131 then 158 else 168
def mX (c : Nat) : Nat := if c = 10 then 24 else if c = 131 then 2 else 7
/-- X: the class: 0 itself, 1 rows, 2 3 tape, 4 .. 8 now, 9 acts, 10 before, 11 .. 130 the kept stairs, 131 images, 132 133 traced, 134 .. 138 trial, 139 levels, 140 paces, 141 bestPaces, 142 .. 157 rows, 158 .. 167 images, 168 .. 202 levels -/
def eX (g : gT) (a : Nat → Nat) (M : Mem) : Nat → va_E := fun c => match kX c with
  | 0 => .inr (0, [.ref (a (c + 1)), .int (M c 1), .int (M c 2)])
  | 1 => .inr (1, [.ref (a (c + 1)), .int (M c 1), .int (M c 2), .int (M c 3)])
  | 2 => .inr (2, [.int (M c 0), .int (M c 1), .int (M c 2), .int (M c 3), .ref (a (c + 1)), .ref (a (c + 2)), .ref (a (c + 3)), .ref (a (c + 4))])
  | 3 => .inr (3, [.ref (a (c + 1)), .int (M c 1), .int (M c 2)])
  | 4 => .inr (4, [.ref (a (c + 1)), .int (M c 1)])
  | 5 => .inr (5, [.ref (a 1), .ref (a 2), .ref (a 4), .ref (a 9), .ref (a 131), .ref (a 132), .ref (a 134), .ref (a 139), .ref (a 140), .ref (a 141), .int (M c 10)])
  | 7 => .inl (g.2.1, lX c, .inl (M c))
  | 9 => .inl (g.2.2.2.1, 8, .inr (.inr (.inr (.inr (fun i => some (a (142 + 2 * i)))))))
  | _ => .inl (g.2.2.2.2, mX c, .inr (.inr (.inr (.inr (fun i => some (a (sX c + 5 * i)))))))
def lR (c : Nat) : Nat := if c < 3 then 8 else if c = 3 then 320 else if c = 4 then 40 else if c = 5 then 90 else if c = 8 then 50 else if c = 10 then 384 else if c = 13 then 16 else 25
/-- N: the reference: 0 itself, 1 sizes, 2 widths, 3 items, 4 moved, 5 tape, 6 s, 7 draft, 8 images, 9 kept, 10 past, 11 then, 12 went, 13 traces -/
def eN (g : gT) (a : Nat → Nat) (M : Mem) : Nat → va_E := fun c => match c with
  | 0 => .inr (6, [.ref (a 1), .ref (a 2), .ref (a 3), .ref (a 4), .int (M 0 4), .ref (a 5), .int (M 0 6), .int (M 0 7), .ref (a 6), .ref (a 7), .ref (a 8), .ref (a 9), .ref (a 10), .int (M 0 13), .ref (a 11), .ref (a 12), .ref (a 13), .int (M 0 17), .int (M 0 18), .int (M 0 19)])
  | 9 => .inl (g.2.2.1, 2, .inl (M 9))
  | j => .inl (g.2.1, lR j, .inl (M j))
/-- C: one row of 25 of the reference -/
def eC (g : gT) (_ : Nat → Nat) (M : Mem) : Nat → va_E := fun c => .inl (g.2.1, 25, .inl (M c))
def e0 (_ : gT) (_ : Nat → Nat) (_ : Mem) : Nat → va_E := fun _ => .inl (0, 0, .inl (fun _ => 0))
def isSt (c : Nat) : Bool := decide (c < 203) && kX c == 2
def isRw (c : Nat) : Bool := decide (c < 203) && kX c == 1
def isTk (c : Nat) : Bool := c == 6 || c == 11
theorem bIn_lt {i : Int32} {n : Nat} (h : bIn i n = true) : i.toNatClampNeg < n := by
  have h1 := bIn_ok h
  unfold vp_in at h1
  omega
theorem st_all : ∀ c, c < 203 → kX c = 2 → c + 4 < 203 ∧ (kX (c + 1) = 7 ∧ lX (c + 1) = 7) ∧ (kX (c + 2) = 7 ∧ lX (c + 2) = 7) ∧ (kX (c + 3) = 7 ∧ lX (c + 3) = 7) ∧ (kX (c + 4) = 7 ∧ lX (c + 4) = 7) := by decide +kernel
theorem rw_all : ∀ c, c < 203 → kX c = 1 → c + 1 < 203 ∧ (kX (c + 1) = 7 ∧ lX (c + 1) = 40) := by decide +kernel
theorem isSt_k {c : Nat} (h : isSt c = true) : c < 203 ∧ kX c = 2 := by simpa [isSt] using h
theorem isRw_k {c : Nat} (h : isRw c = true) : c < 203 ∧ kX c = 1 := by simpa [isRw] using h
theorem isSt_lt {c : Nat} (h : isSt c = true) (i : Nat) (hi : i < 5) : c + i < 203 := by
  have h1 := (st_all c (isSt_k h).1 (isSt_k h).2).1
  omega
theorem isRw_lt {c : Nat} (h : isRw c = true) : c < 203 := (isRw_k h).1
theorem isRw_lt1 {c : Nat} (h : isRw c = true) : c + 1 < 203 := (rw_all c (isRw_k h).1 (isRw_k h).2).1
theorem st_b : ∀ j, j < 24 → isSt (11 + 5 * j) = true := by decide +kernel
theorem st_i : ∀ j, j < 2 → isSt (158 + 5 * j) = true := by decide +kernel
theorem st_l : ∀ j, j < 7 → isSt (168 + 5 * j) = true := by decide +kernel
theorem rw_r : ∀ j, j < 8 → isRw (142 + 2 * j) = true := by decide +kernel
section LAY
variable {g : gT} {a : Nat → Nat} {M : Mem}
theorem eS_a {i : Nat} (h : 0 < i) : eS g a M i = .inl (g.2.1, 7, .inl (M i)) := by
  cases i with
  | zero => omega
  | succ j => rfl
theorem eS_c {M' : Mem} {i : Nat} (h : M i = M' i) : eS g a M i = eS g a M' i := by
  cases i with
  | zero => simp only [eS, h]
  | succ j => simp only [eS, h]
theorem eX_c {M' : Mem} {i : Nat} (h : M i = M' i) : eX g a M i = eX g a M' i := by
  unfold eX
  rw [h]
theorem eN_c {M' : Mem} {i : Nat} (h : M i = M' i) : eN g a M i = eN g a M' i := by
  unfold eN
  split <;> first | (simp only [h]; done) | rfl
theorem eS_u {c : Nat} {row : Nat → Int32} {x : va_E} (he : eS g a (va_up M c row) c = x) : va_up (eS g a M) c x = eS g a (va_up M c row) := by
  funext i
  by_cases hi : i = c
  · subst hi; rw [va_up_self, he]
  · rw [va_up_ne _ _ hi]; exact eS_c (va_up_ne _ _ hi).symm
theorem eX_u {c : Nat} {row : Nat → Int32} {x : va_E} (he : eX g a (va_up M c row) c = x) : va_up (eX g a M) c x = eX g a (va_up M c row) := by
  funext i
  by_cases hi : i = c
  · subst hi; rw [va_up_self, he]
  · rw [va_up_ne _ _ hi]; exact eX_c (va_up_ne _ _ hi).symm
theorem eN_u {c : Nat} {row : Nat → Int32} {x : va_E} (he : eN g a (va_up M c row) c = x) : va_up (eN g a M) c x = eN g a (va_up M c row) := by
  funext i
  by_cases hi : i = c
  · subst hi; rw [va_up_self, he]
  · rw [va_up_ne _ _ hi]; exact eN_c (va_up_ne _ _ hi).symm
theorem eC_u {c : Nat} {row : Nat → Int32} : va_up (eC g a M) c (.inl (g.2.1, 25, .inl row)) = eC g a (va_up M c row) := by
  funext i
  by_cases hi : i = c
  · subst hi; simp [eC, va_up]
  · simp [eC, va_up, hi]
theorem eS_ua {c : Nat} {row : Nat → Int32} (h : 0 < c) : va_up (eS g a M) c (.inl (g.2.1, 7, .inl row)) = eS g a (va_up M c row) := eS_u (by rw [eS_a h, va_up_self])
theorem eX_Stair {c : Nat} (h : isSt c = true) : eX g a M c = .inr (2, [.int (M c 0), .int (M c 1), .int (M c 2), .int (M c 3), .ref (a (c + 1)), .ref (a (c + 2)), .ref (a (c + 3)), .ref (a (c + 4))]) := by
  unfold eX; rw [(isSt_k h).2]; rfl
theorem eX_arr {c n : Nat} (h : kX c = 7) (hl : lX c = n) : eX g a M c = .inl (g.2.1, n, .inl (M c)) := by
  unfold eX; rw [h, hl]; rfl
theorem eX_Sa1 {c : Nat} (h : isSt c = true) : eX g a M (c + 1) = .inl (g.2.1, 7, .inl (M (c + 1))) := eX_arr (st_all c (isSt_k h).1 (isSt_k h).2).2.1.1 (st_all c (isSt_k h).1 (isSt_k h).2).2.1.2
theorem eX_Sa2 {c : Nat} (h : isSt c = true) : eX g a M (c + 2) = .inl (g.2.1, 7, .inl (M (c + 2))) := eX_arr (st_all c (isSt_k h).1 (isSt_k h).2).2.2.1.1 (st_all c (isSt_k h).1 (isSt_k h).2).2.2.1.2
theorem eX_Sa3 {c : Nat} (h : isSt c = true) : eX g a M (c + 3) = .inl (g.2.1, 7, .inl (M (c + 3))) := eX_arr (st_all c (isSt_k h).1 (isSt_k h).2).2.2.2.1.1 (st_all c (isSt_k h).1 (isSt_k h).2).2.2.2.1.2
theorem eX_Sa4 {c : Nat} (h : isSt c = true) : eX g a M (c + 4) = .inl (g.2.1, 7, .inl (M (c + 4))) := eX_arr (st_all c (isSt_k h).1 (isSt_k h).2).2.2.2.2.1 (st_all c (isSt_k h).1 (isSt_k h).2).2.2.2.2.2
theorem eX_Row {c : Nat} (h : isRw c = true) : eX g a M c = .inr (1, [.ref (a (c + 1)), .int (M c 1), .int (M c 2), .int (M c 3)]) := by
  unfold eX; rw [(isRw_k h).2]; rfl
theorem eX_Ri {c : Nat} (h : isRw c = true) : eX g a M (c + 1) = .inl (g.2.1, 40, .inl (M (c + 1))) := eX_arr (rw_all c (isRw_k h).1 (isRw_k h).2).2.1 (rw_all c (isRw_k h).1 (isRw_k h).2).2.2
theorem eX_ua {c n : Nat} {row : Nat → Int32} (h : ∀ M : Mem, eX g a M c = .inl (g.2.1, n, .inl (M c))) : va_up (eX g a M) c (.inl (g.2.1, n, .inl row)) = eX g a (va_up M c row) := eX_u (by rw [h, va_up_self])
theorem eN_ua {c n : Nat} {row : Nat → Int32} (h : ∀ M : Mem, eN g a M c = .inl (g.2.1, n, .inl (M c))) : va_up (eN g a M) c (.inl (g.2.1, n, .inl row)) = eN g a (va_up M c row) := eN_u (by rw [h, va_up_self])
theorem eN_uz {row : Nat → Int32} : va_up (eN g a M) 9 (.inl (g.2.2.1, 2, .inl row)) = eN g a (va_up M 9 row) := eN_u (by simp [eN, va_up])
theorem eN_tk {c : Nat} (h : isTk c = true) (M : Mem) : eN g a M c = .inl (g.2.1, 25, .inl (M c)) := by
  rcases Bool.or_eq_true _ _ ▸ h with h | h
  · rw [eq_of_beq h]; rfl
  · rw [eq_of_beq h]; rfl
theorem isTk_lt {c : Nat} (h : isTk c = true) : c < 14 := by
  rcases Bool.or_eq_true _ _ ▸ h with h | h
  · rw [eq_of_beq h]; decide
  · rw [eq_of_beq h]; decide
theorem eS_p0 {v : Int32} : va_up (eS g a M) 0 (.inr (2, ([.int (M 0 0), .int (M 0 1), .int (M 0 2), .int (M 0 3), .ref (a 1), .ref (a 2), .ref (a 3), .ref (a 4)] : List Value).set 0 (.int v))) = eS g a (mp M 0 0 v) := eS_u (by simp [eS, va_up, upd])
theorem eS_p1 {v : Int32} : va_up (eS g a M) 0 (.inr (2, ([.int (M 0 0), .int (M 0 1), .int (M 0 2), .int (M 0 3), .ref (a 1), .ref (a 2), .ref (a 3), .ref (a 4)] : List Value).set 1 (.int v))) = eS g a (mp M 0 1 v) := eS_u (by simp [eS, va_up, upd])
theorem eS_p2 {v : Int32} : va_up (eS g a M) 0 (.inr (2, ([.int (M 0 0), .int (M 0 1), .int (M 0 2), .int (M 0 3), .ref (a 1), .ref (a 2), .ref (a 3), .ref (a 4)] : List Value).set 2 (.int v))) = eS g a (mp M 0 2 v) := eS_u (by simp [eS, va_up, upd])
theorem eS_p3 {v : Int32} : va_up (eS g a M) 0 (.inr (2, ([.int (M 0 0), .int (M 0 1), .int (M 0 2), .int (M 0 3), .ref (a 1), .ref (a 2), .ref (a 3), .ref (a 4)] : List Value).set 3 (.int v))) = eS g a (mp M 0 3 v) := eS_u (by simp [eS, va_up, upd])
theorem eX_pStair0 {c : Nat} {v : Int32} (h : isSt c = true) : va_up (eX g a M) c (.inr (2, ([.int (M c 0), .int (M c 1), .int (M c 2), .int (M c 3), .ref (a (c + 1)), .ref (a (c + 2)), .ref (a (c + 3)), .ref (a (c + 4))] : List Value).set 0 (.int v))) = eX g a (mp M c 0 v) := eX_u (by rw [eX_Stair h]; simp [va_up, upd])
theorem eX_pStair1 {c : Nat} {v : Int32} (h : isSt c = true) : va_up (eX g a M) c (.inr (2, ([.int (M c 0), .int (M c 1), .int (M c 2), .int (M c 3), .ref (a (c + 1)), .ref (a (c + 2)), .ref (a (c + 3)), .ref (a (c + 4))] : List Value).set 1 (.int v))) = eX g a (mp M c 1 v) := eX_u (by rw [eX_Stair h]; simp [va_up, upd])
theorem eX_pStair2 {c : Nat} {v : Int32} (h : isSt c = true) : va_up (eX g a M) c (.inr (2, ([.int (M c 0), .int (M c 1), .int (M c 2), .int (M c 3), .ref (a (c + 1)), .ref (a (c + 2)), .ref (a (c + 3)), .ref (a (c + 4))] : List Value).set 2 (.int v))) = eX g a (mp M c 2 v) := eX_u (by rw [eX_Stair h]; simp [va_up, upd])
theorem eX_pStair3 {c : Nat} {v : Int32} (h : isSt c = true) : va_up (eX g a M) c (.inr (2, ([.int (M c 0), .int (M c 1), .int (M c 2), .int (M c 3), .ref (a (c + 1)), .ref (a (c + 2)), .ref (a (c + 3)), .ref (a (c + 4))] : List Value).set 3 (.int v))) = eX g a (mp M c 3 v) := eX_u (by rw [eX_Stair h]; simp [va_up, upd])
theorem eX_pRow1 {c : Nat} {v : Int32} (h : isRw c = true) : va_up (eX g a M) c (.inr (1, ([.ref (a (c + 1)), .int (M c 1), .int (M c 2), .int (M c 3)] : List Value).set 1 (.int v))) = eX g a (mp M c 1 v) := eX_u (by rw [eX_Row h]; simp [va_up, upd])
theorem eX_pRow2 {c : Nat} {v : Int32} (h : isRw c = true) : va_up (eX g a M) c (.inr (1, ([.ref (a (c + 1)), .int (M c 1), .int (M c 2), .int (M c 3)] : List Value).set 2 (.int v))) = eX g a (mp M c 2 v) := eX_u (by rw [eX_Row h]; simp [va_up, upd])
theorem eX_pRow3 {c : Nat} {v : Int32} (h : isRw c = true) : va_up (eX g a M) c (.inr (1, ([.ref (a (c + 1)), .int (M c 1), .int (M c 2), .int (M c 3)] : List Value).set 3 (.int v))) = eX g a (mp M c 3 v) := eX_u (by rw [eX_Row h]; simp [va_up, upd])
theorem eX_0 : eX g a M 0 = .inr (5, [.ref (a 1), .ref (a 2), .ref (a 4), .ref (a 9), .ref (a 131), .ref (a 132), .ref (a 134), .ref (a 139), .ref (a 140), .ref (a 141), .int (M 0 10)]) := rfl
theorem eX_2 : eX g a M 2 = .inr (3, [.ref (a 3), .int (M 2 1), .int (M 2 2)]) := rfl
theorem eX_9 : eX g a M 9 = .inr (0, [.ref (a 10), .int (M 9 1), .int (M 9 2)]) := rfl
theorem eX_132 : eX g a M 132 = .inr (4, [.ref (a 133), .int (M 132 1)]) := rfl
theorem eX_pStepRiders10 {v : Int32} : va_up (eX g a M) 0 (.inr (5, ([.ref (a 1), .ref (a 2), .ref (a 4), .ref (a 9), .ref (a 131), .ref (a 132), .ref (a 134), .ref (a 139), .ref (a 140), .ref (a 141), .int (M 0 10)] : List Value).set 10 (.int v))) = eX g a (mp M 0 10 v) := eX_u (by rw [eX_0]; simp [va_up, upd])
theorem eX_pTape1 {v : Int32} : va_up (eX g a M) 2 (.inr (3, ([.ref (a 3), .int (M 2 1), .int (M 2 2)] : List Value).set 1 (.int v))) = eX g a (mp M 2 1 v) := eX_u (by rw [eX_2]; simp [va_up, upd])
theorem eX_pActs1 {v : Int32} : va_up (eX g a M) 9 (.inr (0, ([.ref (a 10), .int (M 9 1), .int (M 9 2)] : List Value).set 1 (.int v))) = eX g a (mp M 9 1 v) := eX_u (by rw [eX_9]; simp [va_up, upd])
theorem eX_pTape2 {v : Int32} : va_up (eX g a M) 2 (.inr (3, ([.ref (a 3), .int (M 2 1), .int (M 2 2)] : List Value).set 2 (.int v))) = eX g a (mp M 2 2 v) := eX_u (by rw [eX_2]; simp [va_up, upd])
theorem eX_pActs2 {v : Int32} : va_up (eX g a M) 9 (.inr (0, ([.ref (a 10), .int (M 9 1), .int (M 9 2)] : List Value).set 2 (.int v))) = eX g a (mp M 9 2 v) := eX_u (by rw [eX_9]; simp [va_up, upd])
theorem eX_pTrace1 {v : Int32} : va_up (eX g a M) 132 (.inr (4, ([.ref (a 133), .int (M 132 1)] : List Value).set 1 (.int v))) = eX g a (mp M 132 1 v) := eX_u (by rw [eX_132]; simp [va_up, upd])
theorem eN_p4 {v : Int32} : va_up (eN g a M) 0 (.inr (6, ([.ref (a 1), .ref (a 2), .ref (a 3), .ref (a 4), .int (M 0 4), .ref (a 5), .int (M 0 6), .int (M 0 7), .ref (a 6), .ref (a 7), .ref (a 8), .ref (a 9), .ref (a 10), .int (M 0 13), .ref (a 11), .ref (a 12), .ref (a 13), .int (M 0 17), .int (M 0 18), .int (M 0 19)] : List Value).set 4 (.int v))) = eN g a (mp M 0 4 v) := eN_u (by simp [eN, va_up, upd])
theorem eN_p6 {v : Int32} : va_up (eN g a M) 0 (.inr (6, ([.ref (a 1), .ref (a 2), .ref (a 3), .ref (a 4), .int (M 0 4), .ref (a 5), .int (M 0 6), .int (M 0 7), .ref (a 6), .ref (a 7), .ref (a 8), .ref (a 9), .ref (a 10), .int (M 0 13), .ref (a 11), .ref (a 12), .ref (a 13), .int (M 0 17), .int (M 0 18), .int (M 0 19)] : List Value).set 6 (.int v))) = eN g a (mp M 0 6 v) := eN_u (by simp [eN, va_up, upd])
theorem eN_p7 {v : Int32} : va_up (eN g a M) 0 (.inr (6, ([.ref (a 1), .ref (a 2), .ref (a 3), .ref (a 4), .int (M 0 4), .ref (a 5), .int (M 0 6), .int (M 0 7), .ref (a 6), .ref (a 7), .ref (a 8), .ref (a 9), .ref (a 10), .int (M 0 13), .ref (a 11), .ref (a 12), .ref (a 13), .int (M 0 17), .int (M 0 18), .int (M 0 19)] : List Value).set 7 (.int v))) = eN g a (mp M 0 7 v) := eN_u (by simp [eN, va_up, upd])
theorem eN_p13 {v : Int32} : va_up (eN g a M) 0 (.inr (6, ([.ref (a 1), .ref (a 2), .ref (a 3), .ref (a 4), .int (M 0 4), .ref (a 5), .int (M 0 6), .int (M 0 7), .ref (a 6), .ref (a 7), .ref (a 8), .ref (a 9), .ref (a 10), .int (M 0 13), .ref (a 11), .ref (a 12), .ref (a 13), .int (M 0 17), .int (M 0 18), .int (M 0 19)] : List Value).set 13 (.int v))) = eN g a (mp M 0 13 v) := eN_u (by simp [eN, va_up, upd])
theorem eN_p17 {v : Int32} : va_up (eN g a M) 0 (.inr (6, ([.ref (a 1), .ref (a 2), .ref (a 3), .ref (a 4), .int (M 0 4), .ref (a 5), .int (M 0 6), .int (M 0 7), .ref (a 6), .ref (a 7), .ref (a 8), .ref (a 9), .ref (a 10), .int (M 0 13), .ref (a 11), .ref (a 12), .ref (a 13), .int (M 0 17), .int (M 0 18), .int (M 0 19)] : List Value).set 17 (.int v))) = eN g a (mp M 0 17 v) := eN_u (by simp [eN, va_up, upd])
theorem eN_p18 {v : Int32} : va_up (eN g a M) 0 (.inr (6, ([.ref (a 1), .ref (a 2), .ref (a 3), .ref (a 4), .int (M 0 4), .ref (a 5), .int (M 0 6), .int (M 0 7), .ref (a 6), .ref (a 7), .ref (a 8), .ref (a 9), .ref (a 10), .int (M 0 13), .ref (a 11), .ref (a 12), .ref (a 13), .int (M 0 17), .int (M 0 18), .int (M 0 19)] : List Value).set 18 (.int v))) = eN g a (mp M 0 18 v) := eN_u (by simp [eN, va_up, upd])
theorem eN_p19 {v : Int32} : va_up (eN g a M) 0 (.inr (6, ([.ref (a 1), .ref (a 2), .ref (a 3), .ref (a 4), .int (M 0 4), .ref (a 5), .int (M 0 6), .int (M 0 7), .ref (a 6), .ref (a 7), .ref (a 8), .ref (a 9), .ref (a 10), .int (M 0 13), .ref (a 11), .ref (a 12), .ref (a 13), .int (M 0 17), .int (M 0 18), .int (M 0 19)] : List Value).set 19 (.int v))) = eN g a (mp M 0 19 v) := eN_u (by simp [eN, va_up, upd])
theorem eS_0 : eS g a M 0 = .inr (2, [.int (M 0 0), .int (M 0 1), .int (M 0 2), .int (M 0 3), .ref (a 1), .ref (a 2), .ref (a 3), .ref (a 4)]) := rfl
theorem eN_0 : eN g a M 0 = .inr (6, [.ref (a 1), .ref (a 2), .ref (a 3), .ref (a 4), .int (M 0 4), .ref (a 5), .int (M 0 6), .int (M 0 7), .ref (a 6), .ref (a 7), .ref (a 8), .ref (a 9), .ref (a 10), .int (M 0 13), .ref (a 11), .ref (a 12), .ref (a 13), .int (M 0 17), .int (M 0 18), .int (M 0 19)]) := rfl
end LAY
/-- a stair of the class, cut out and put back -/
def gS (M : Mem) (c : Nat) : Mem := fun i => M (c + i)
def pS (M : Mem) (c : Nat) (m : Mem) : Mem := fun i => if c ≤ i ∧ i < c + 5 then m (i - c) else M i
def gA (a : Nat → Nat) (c : Nat) : Nat → Nat := fun i => a (c + i)
theorem eS_of {g : gT} {a : Nat → Nat} {M : Mem} {c : Nat} (h : isSt c = true) : ∀ i, i < 5 → eS g (gA a c) (gS M c) i = eX g a M (c + i)
  | 0, _ => by rw [Nat.add_zero, eX_Stair h]; rfl
  | 1, _ => by rw [eX_Sa1 h]; rfl
  | 2, _ => by rw [eX_Sa2 h]; rfl
  | 3, _ => by rw [eX_Sa3 h]; rfl
  | 4, _ => by rw [eX_Sa4 h]; rfl
  | n + 5, hn => by omega
theorem gA_in {a : Nat → Nat} {c : Nat} (h : isSt c = true) : ∀ i, i < 5 → c + i < 203 ∧ gA a c i = a (c + i) := fun i hi => ⟨isSt_lt h i hi, rfl⟩
theorem gA_ij {a : Nat → Nat} {c : Nat} (h : isSt c = true) (hI : ij 203 a) : ij 5 (gA a c) := fun i j hi hj e => by
  have := hI (c + i) (c + j) (isSt_lt h i hi) (isSt_lt h j hj) e
  omega
theorem S_cut {g : gT} {a : Nat → Nat} {M : Mem} {c : Nat} {H : Heap} (h : isSt c = true) (hP : va_P g.1 vwCl (wl 203 a (eX g a M)) H) : va_P g.1 vwCl (wl 5 (gA a c) (eS g (gA a c) (gS M c))) H := wl_cut (fun i => c + i) hP (gA_in h) (eS_of h)
theorem gS_pS {M m : Mem} {c : Nat} : ∀ i, i < 5 → gS (pS M c m) c i = m i := fun i hi => by
  unfold gS pS
  rw [if_pos (by omega), Nat.add_sub_cancel_left]
theorem S_join {g : gT} {a : Nat → Nat} {M m : Mem} {c : Nat} {H : Heap} (h : isSt c = true) (hI : ij 203 a) (hP : va_P g.1 vwCl (wl 203 a (eX g a M)) H) (H1 : Heap) (hP1 : va_P g.1 vwCl (wl 5 (gA a c) (eS g (gA a c) m)) H1) (hk : ∀ q : Nat, q < H.size → ¬ aA 5 (gA a c) H.size q → H1[q]? = H[q]?) : va_P g.1 vwCl (wl 203 a (eX g a (pS M c m))) H1 := by
  refine wl_join (fun i => c + i) hI hP (gA_in h) hk hP1 (fun i hi => ?_) (fun j hj hne => ?_)
  · rw [← eS_of h i hi]
    exact eS_c (gS_pS i hi)
  · refine eX_c ?_
    unfold pS
    rw [if_neg]
    rintro ⟨h1, h2⟩
    exact hne (j - c) (by omega) (by omega)
theorem S_A {a : Nat → Nat} {c sz sz' : Nat} (h : isSt c = true) (hs : sz ≤ sz') : ∀ q, aA 5 (gA a c) sz' q → aA 203 a sz q := fun _ hq => aA_sub (fun i => c + i) (gA_in h) hs hq
/-- a row of the reference, cut out and put back -/
def gC (M : Mem) (c : Nat) : Mem := fun _ => M c
def pC (M : Mem) (c : Nat) (m : Mem) : Mem := va_up M c (m 0)
theorem C_in {a : Nat → Nat} {c : Nat} (h : isTk c = true) : ∀ i, i < 1 → (fun _ : Nat => c) i < 14 ∧ (fun _ : Nat => a c) i = a ((fun _ : Nat => c) i) := fun _ _ => ⟨isTk_lt h, rfl⟩
theorem C_cut {g : gT} {a : Nat → Nat} {M : Mem} {c : Nat} {H : Heap} (h : isTk c = true) (hP : va_P g.1 vwCl (wl 14 a (eN g a M)) H) : va_P g.1 vwCl (wl 1 (fun _ => a c) (eC g (fun _ => a c) (gC M c))) H := wl_cut (fun _ => c) hP (C_in h) (fun _ _ => (eN_tk h M).symm)
theorem C_join {g : gT} {a : Nat → Nat} {M m : Mem} {c : Nat} {H : Heap} (h : isTk c = true) (hI : ij 14 a) (hP : va_P g.1 vwCl (wl 14 a (eN g a M)) H) (H1 : Heap) (hP1 : va_P g.1 vwCl (wl 1 (fun _ => a c) (eC g (fun _ => a c) m)) H1) (hk : ∀ q : Nat, q < H.size → ¬ aA 1 (fun _ => a c) H.size q → H1[q]? = H[q]?) : va_P g.1 vwCl (wl 14 a (eN g a (pC M c m))) H1 := by
  refine wl_join (fun _ => c) hI hP (C_in h) hk hP1 (fun i hi => ?_) (fun j hj hne => ?_)
  · have hi0 : i = 0 := by omega
    subst hi0
    rw [eN_tk h]
    unfold pC
    rw [va_up_self]
    rfl
  · exact eN_c (va_up_ne _ _ (fun q => hne 0 (by omega) q.symm))
theorem C_A {a : Nat → Nat} {c sz sz' : Nat} (h : isTk c = true) (hs : sz ≤ sz') : ∀ q, aA 1 (fun _ => a c) sz' q → aA 14 a sz q := fun _ hq => aA_sub (fun _ => c) (C_in h) hs hq
theorem S_keep {g : gT} {a : Nat → Nat} {M : Mem} {c : Nat} {H : Heap} (h : isSt c = true) (hI : ij 203 a) (hP : va_P g.1 vwCl (wl 203 a (eX g a M)) H) (H1 : Heap) (hP1 : va_P g.1 vwCl (wl 5 (gA a c) (eS g (gA a c) (gS M c))) H1) (hk : ∀ q : Nat, q < H.size → ¬ aA 5 (gA a c) H.size q → H1[q]? = H[q]?) : va_P g.1 vwCl (wl 203 a (eX g a M)) H1 :=
  wl_join (fun i => c + i) hI hP (gA_in h) hk hP1 (fun i hi => (eS_of h i hi).symm) (fun _ _ _ => rfl)
theorem C_keep {g : gT} {a : Nat → Nat} {M : Mem} {c : Nat} {H : Heap} (h : isTk c = true) (hI : ij 14 a) (hP : va_P g.1 vwCl (wl 14 a (eN g a M)) H) (H1 : Heap) (hP1 : va_P g.1 vwCl (wl 1 (fun _ => a c) (eC g (fun _ => a c) (gC M c))) H1) (hk : ∀ q : Nat, q < H.size → ¬ aA 1 (fun _ => a c) H.size q → H1[q]? = H[q]?) : va_P g.1 vwCl (wl 14 a (eN g a M)) H1 :=
  wl_join (fun _ => c) hI hP (C_in h) hk hP1 (fun _ _ => eN_tk h M) (fun _ _ _ => rfl)
theorem nilP {D : va_G} {cl : List vw_C} {H : Heap} : va_P D cl ([] : va_W) H := fun k q h => by simp at h
theorem P_A {n : Nat} {a a' : Nat → Nat} {sz sz' : Nat} (hs : sz ≤ sz') : ∀ q, aA 0 a' sz' q → aA n a sz q := fun _ hq => aA_sub (fun i => i) (fun i hi => absurd hi (Nat.not_lt_zero i)) hs hq
section WROW
variable {p : Program} {l : Launch} {e : Env} {R : Room} {s : State} {m : MethodId} {args : Array Value} {below : List Frame} {meth : Method} {c : Code} {H : Heap} {locs : List Loc} {cells slots : Nat} {Q : State → Prop}
variable {cc : ByteArray} {pc : Nat} {ls : Array Slot} {rest : List Value} {g : gT} {n : Nat} {a : Nat → Nat} {f : Nat → va_E} {M : Mem} {i : Int32}
theorem r_recv (hK : KK g s) (hP : va_P g.1 vwCl (wl n a f) H) (c0 : Nat) (hc0 : c0 < n) {fs : List Value} {ci : Nat} (he : f c0 = .inr (ci, fs)) {q : vw_C} (hc : vwCl[ci]? = some q) : ∃ cell : Cell, H[a c0]? = some cell ∧ cell.vm.isStatics = false ∧ s.vm.findClass q.1 = some cell.cls := va_recv hK.1 hP hc ((wl_get hc0).trans (by rw [he]))
theorem r_rows (hx : p.tables.exec = Jvm.exec) (hb : c.code = cc) (hK : KK g s) (hP : va_P g.1 vwCl (wl 203 a (eX g a M)) H) (hin : bIn i 8 = true) (hdg : decode cc pc = .ok (.aaload, 1)) (kk : W p l e R s m args below meth c H locs cells slots Q (F0 m (pc + 1) ls (.ref (a (142 + 2 * i.toNatClampNeg)) :: rest))) : W p l e R s m args below meth c H locs cells slots Q (F0 m pc ls (.int i :: .ref (a 1) :: rest)) := r_aald hx hb hK hP 1 2 (by decide) (h := fun i => 142 + 2 * i) rfl rfl hin hdg kk
theorem r_bef (hx : p.tables.exec = Jvm.exec) (hb : c.code = cc) (hK : KK g s) (hP : va_P g.1 vwCl (wl 203 a (eX g a M)) H) (hin : bIn i 24 = true) (hdg : decode cc pc = .ok (.aaload, 1)) (kk : W p l e R s m args below meth c H locs cells slots Q (F0 m (pc + 1) ls (.ref (a (11 + 5 * i.toNatClampNeg)) :: rest))) : W p l e R s m args below meth c H locs cells slots Q (F0 m pc ls (.int i :: .ref (a 10) :: rest)) := r_aald hx hb hK hP 10 3 (by decide) (h := fun i => 11 + 5 * i) rfl rfl hin hdg kk
theorem r_img (hx : p.tables.exec = Jvm.exec) (hb : c.code = cc) (hK : KK g s) (hP : va_P g.1 vwCl (wl 203 a (eX g a M)) H) (hin : bIn i 2 = true) (hdg : decode cc pc = .ok (.aaload, 1)) (kk : W p l e R s m args below meth c H locs cells slots Q (F0 m (pc + 1) ls (.ref (a (158 + 5 * i.toNatClampNeg)) :: rest))) : W p l e R s m args below meth c H locs cells slots Q (F0 m pc ls (.int i :: .ref (a 131) :: rest)) := r_aald hx hb hK hP 131 3 (by decide) (h := fun i => 158 + 5 * i) rfl rfl hin hdg kk
theorem r_lev (hx : p.tables.exec = Jvm.exec) (hb : c.code = cc) (hK : KK g s) (hP : va_P g.1 vwCl (wl 203 a (eX g a M)) H) (hin : bIn i 7 = true) (hdg : decode cc pc = .ok (.aaload, 1)) (kk : W p l e R s m args below meth c H locs cells slots Q (F0 m (pc + 1) ls (.ref (a (168 + 5 * i.toNatClampNeg)) :: rest))) : W p l e R s m args below meth c H locs cells slots Q (F0 m pc ls (.int i :: .ref (a 139) :: rest)) := r_aald hx hb hK hP 139 3 (by decide) (h := fun i => 168 + 5 * i) rfl rfl hin hdg kk
end WROW
theorem C_ij {b : Nat} : ij 1 (fun _ => b) := fun i j hi hj _ => by omega
