/-! subsets, in their order -/
def sub (i Q : Nat) : Bool := decide (i &&& Q = i)
def nx (c Q : Nat) : Nat := ((c + 128 - Q) % 128) &&& Q
set_option maxRecDepth 100000 in
theorem nx_i32 : ∀ Q, Q < 128 → ∀ c, c < 128 → (nI c - nI Q) &&& nI Q = nI (nx c Q) := by decide +kernel
def nxB (Q c : Nat) : Bool := !sub c Q || (decide (nx c Q < 128) && (decide (nx c Q = 0) || (decide (c < nx c Q) && sub (nx c Q) Q)) && allB (fun i => !(decide (c < i) && (decide (nx c Q = 0) || decide (i < nx c Q))) || !sub i Q) 128 0)
set_option maxRecDepth 100000 in
theorem nxB_all : allB (fun Q => allB (fun c => nxB Q c) 128 0) 128 0 = true := by decide +kernel
theorem nx_all (Q : Nat) (hQ : Q < 128) (c : Nat) (hc : c < 128) (hs : sub c Q = true) : nx c Q < 128 ∧ (nx c Q ≠ 0 → c < nx c Q ∧ sub (nx c Q) Q = true) ∧ (∀ i, i < 128 → c < i → (nx c Q = 0 ∨ i < nx c Q) → sub i Q = false) := by
  have h1 := (allB_iff 128 0).mp ((allB_iff 128 0).mp nxB_all Q (by omega) (by omega)) c (by omega) (by omega)
  unfold nxB at h1
  rw [hs, Bool.not_true, Bool.false_or, Bool.and_eq_true, Bool.and_eq_true, decide_eq_true_eq] at h1
  refine ⟨h1.1.1, fun hne => ?_, fun i hi hci hor => ?_⟩
  · have h2 := h1.1.2
    rw [decide_eq_false hne, Bool.false_or, Bool.and_eq_true, decide_eq_true_eq] at h2
    exact h2
  · have h3 := (allB_iff 128 0).mp h1.2 i (by omega) (by omega)
    have h4 : (decide (nx c Q = 0) || decide (i < nx c Q)) = true := by
      rw [Bool.or_eq_true, decide_eq_true_eq, decide_eq_true_eq]; exact hor
    rw [decide_eq_true hci, h4] at h3
    simpa using h3
set_option maxRecDepth 100000 in
theorem sub_i32 : ∀ Q, Q < 128 → ∀ i, i < 128 → (decide (nI i &&& (nI Q ^^^ (-1)) = 0) = sub i Q) := by decide +kernel
theorem shl_n : ∀ n, n < 8 → (1 : Int32) <<< (nI n &&& 31) = nI (2 ^ n) := by decide +kernel
def bitI (x : Int32) (r : Nat) : Int32 := (x >>> (nI r &&& 31)) &&& 1
set_option maxRecDepth 100000 in
theorem bit_01 : ∀ x, x < 128 → ∀ r, r < 7 → bitI (nI x) r = 0 ∨ bitI (nI x) r = 1 := by decide +kernel
theorem sub_le {c Q : Nat} (h : sub c Q = true) : c ≤ Q := by
  have := of_decide_eq_true h
  rw [← this]
  exact Nat.and_le_right
theorem sub_0 (Q : Nat) : sub 0 Q = true := by
  unfold sub
  simp
