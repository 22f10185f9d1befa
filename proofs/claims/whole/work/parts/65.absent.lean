/-! absent -/
theorem n10s {z : Nat} (h : z ≤ 10) : (10 : Int32) - nI z = nI (10 - z) := by
  have key : ∀ z, z ≤ 10 → (10 : Int32) - nI z = nI (10 - z) := by decide +kernel
  exact key z h
def pwA (Q c z i : Nat) : Nat := z ^ cN (fun r => tb Q r && tb c r) i * (10 - z) ^ cN (fun r => tb Q r && !tb c r) i
theorem cN_s (P : Nat → Bool) (n : Nat) : cN P (n + 1) = cN P n + (if P n = true then 1 else 0) := rfl
theorem pwA_1 {Q c z i : Nat} (h : tb Q i = true) (h2 : tb c i = true) : pwA Q c z (i + 1) = pwA Q c z i * z := by
  unfold pwA
  rw [cN_s, cN_s]
  simp only [h, h2, Bool.and_self, Bool.not_true, Bool.and_false, if_true]
  rw [if_neg (by decide), Nat.add_zero, Nat.pow_succ, Nat.mul_right_comm]
  rfl
theorem pwA_2 {Q c z i : Nat} (h : tb Q i = true) (h2 : tb c i = false) : pwA Q c z (i + 1) = pwA Q c z i * (10 - z) := by
  unfold pwA
  rw [cN_s, cN_s]
  simp only [h, h2, Bool.and_self, Bool.not_false, Bool.and_false, if_true]
  rw [if_neg (by decide), Nat.add_zero, Nat.pow_succ, Nat.mul_assoc]
theorem pwA_3 {Q c z i : Nat} (h : tb Q i = false) : pwA Q c z (i + 1) = pwA Q c z i := by
  unfold pwA
  rw [cN_s, cN_s]
  simp only [h, Bool.false_and]
  rw [if_neg (by decide), Nat.add_zero, Nat.add_zero]
theorem X6_hasB {x r : Nat} (hx : x < 128) (hr : r < 7) : fX6_has (nI x) (nI r) = some (b2i (tb x r)) := by
  rw [X6_has, bit_tb x hx r hr]
theorem ab_l90 {N : Mem} {n Q c z : Nat} {p1 p2 p4 x6 x7 : Int32} {k56 : Int32 → Int32 → Int32 → Int32 → Mem → Option (Int32 × Mem)} (hn : N 6 17 = nI n) (hn7 : n ≤ 7) (hQ : Q < 128) (hc : c < 128) (hz : z ≤ 10) (hsub : ∀ r, r < 7 → tb c r = true → tb Q r = true) (hq : ∀ r, r < n → tb Q r = true → N 11 (2 + r) = -1) : ∀ (k fu i : Nat) (w : Nat → Int32), i + k = n → k < fu → (∀ r, r < i → w (2 + r) = tkO c (rA (N 11)) r) → (∀ j, (j < 2 ∨ 2 + i ≤ j) → w j = N 11 j) → ∃ w', fX6_absent_l90 p1 p2 (nI z) p4 k56 fu (nI Q) x6 x7 (nI c) (nI (pwA Q c z i)) (nI i) (va_up N 11 w) = fX6_absent_b166 p1 p2 (nI z) p4 k56 (nI Q) x6 x7 (nI c) (nI (pwA Q c z n)) (va_up N 11 w') ∧ (∀ r, r < n → w' (2 + r) = tkO c (rA (N 11)) r) ∧ (∀ j, (j < 2 ∨ 2 + n ≤ j) → w' j = N 11 j) := by
  intro k
  induction k with
  | zero =>
    intro fu i w hi hf h1 h2
    obtain ⟨f, rfl, -⟩ := fs hf
    have cc : nI n ≤ nI i := nI_le (by omega) (by omega)
    have e : i = n := by omega
    subst e
    have e6 : (va_up N 11 w) 6 = N 6 := va_up_ne _ _ (by omega)
    refine ⟨w, ?_, h1, h2⟩
    simp only [fX6_absent_l90, fX6_absent_b90, chk_of q17, c17, e6, hn, if_pos cc]
  | succ k ih =>
    intro fu i w hi hf h1 h2
    obtain ⟨f, rfl, hf'⟩ := fs hf
    have cc : ¬ nI n ≤ nI i := nI_ge (by omega) (by omega)
    have e6 : (va_up N 11 w) 6 = N 6 := va_up_ne _ _ (by omega)
    have e11 : (va_up N 11 w) 11 = w := va_up_self _ _ _
    have ew : w (2 + i) = rA (N 11) i := h2 _ (by omega)
    have go : ∀ v, v = tkO c (rA (N 11)) i → ∃ w', fX6_absent_l90 p1 p2 (nI z) p4 k56 f (nI Q) x6 x7 (nI c) (nI (pwA Q c z (i + 1))) (nI (i + 1)) (va_up N 11 (upd w (2 + i) v)) = fX6_absent_b166 p1 p2 (nI z) p4 k56 (nI Q) x6 x7 (nI c) (nI (pwA Q c z n)) (va_up N 11 w') ∧ (∀ r, r < n → w' (2 + r) = tkO c (rA (N 11)) r) ∧ (∀ j, (j < 2 ∨ 2 + n ≤ j) → w' j = N 11 j) := fun v hv =>
      ih f (i + 1) (upd w (2 + i) v) (by omega) (by omega) (fun r hr => by
        by_cases h : r = i
        · subst h; rw [upd_s, hv]
        · rw [upd_n _ _ (by omega)]; exact h1 r (by omega)) (fun j hj => by rw [upd_n _ _ (by omega)]; exact h2 j (by omega))
    simp only [fX6_absent_l90, fX6_absent_b90, fX6_absent_b160, fX6_absent_b132, fX6_absent_b159, chk_of q17, c17, e6, hn, if_neg cc, X6_hasB hQ (show i < 7 by omega), X6_hasB hc (show i < 7 by omega), bdP_s, n2a, chk_of (bIn_n (show 2 + i < 25 by omega) (by decide)), nc (show 2 + i < 2 ^ 31 by omega), n1a, mp_at, e11, va_up_u, n10s hz, pk_mul]
    by_cases hQi : tb Q i = true
    · rw [hQi, b2i_t, if_neg (by decide)]
      by_cases hci : tb c i = true
      · rw [hci, b2i_t, if_neg (by decide), if_neg (by decide)]
        have g := go 99 (by unfold tkO; rw [if_pos hci])
        rw [pwA_1 hQi hci] at g
        exact g
      · rw [Bool.not_eq_true] at hci
        rw [hci, b2i_f, if_pos rfl, if_pos rfl]
        have g := go (-1) (by unfold tkO; rw [if_neg (by rw [hci]; decide)]; exact (hq i (by omega) hQi).symm)
        rw [pwA_2 hQi hci] at g
        exact g
    · rw [Bool.not_eq_true] at hQi
      rw [hQi, b2i_f, if_pos rfl]
      have hci : ¬ tb c i = true := fun h => by rw [hsub i (by omega) h] at hQi; cases hQi
      have g := go (w (2 + i)) (by unfold tkO; rw [if_neg hci, ew])
      rw [upd_eta, pwA_3 hQi] at g
      exact g
theorem ab_l169 {t : Nat} {p1 p3 p4 x5 x6 x7 x8 x9 : Int32} {k56 : Int32 → Int32 → Int32 → Int32 → Mem → Option (Int32 × Mem)} (ht : t < 900) : ∀ (k fu i : Nat) (N N' : Mem), i + k = t → k < fu → TK k N N' → fX6_absent_l169 p1 (nI t) p3 p4 k56 fu x5 x6 x7 x8 x9 (nI i) N = fX6_absent_b189 p1 (nI t) p3 p4 k56 x5 x6 x7 x8 x9 N' := by
  intro k
  induction k with
  | zero =>
    intro fu i N N' hi hf h
    obtain ⟨f, rfl, -⟩ := fs hf
    have c : nI t ≤ nI i := nI_le (by omega) (by omega)
    have e : N' = N := h
    simp only [fX6_absent_l169, fX6_absent_b169, if_pos c, e]
  | succ k ih =>
    intro fu i N N' hi hf h
    obtain ⟨f, rfl, hf'⟩ := fs hf
    have c : ¬ nI t ≤ nI i := nI_ge (by omega) (by omega)
    obtain ⟨N1, g, p⟩ := h
    simp only [fX6_absent_l169, fX6_absent_b169, if_neg c, g, bdV_s, n1a]
    exact ih f (i + 1) _ N' (by omega) (by omega) p
theorem ab_l222 {N : Mem} {n Q : Nat} {p1 p2 p3 p4 x6 : Int32} (hn : N 6 17 = nI n) (hn7 : n ≤ 7) (hQ : Q < 128) : ∀ (k fu i : Nat), i + k = n → k < fu → fX6_absent_l222 p1 p2 p3 p4 fu (nI Q) x6 (nI (10 ^ cN (tb Q) i)) (nI i) N = fX6_absent_b261 p1 p2 p3 p4 x6 (nI (10 ^ cN (tb Q) n)) N := by
  intro k
  induction k with
  | zero =>
    intro fu i hi hf
    obtain ⟨f, rfl, -⟩ := fs hf
    have cc : nI n ≤ nI i := nI_le (by omega) (by omega)
    have e : i = n := by omega
    subst e
    simp only [fX6_absent_l222, fX6_absent_b222, chk_of q17, c17, hn, if_pos cc]
  | succ k ih =>
    intro fu i hi hf
    obtain ⟨f, rfl, hf'⟩ := fs hf
    have cc : ¬ nI n ≤ nI i := nI_ge (by omega) (by omega)
    have g := ih f (i + 1) (by omega) (by omega)
    have e10 : (10 : Int32) = nI 10 := rfl
    have e1 : ∀ a : Nat, nI a * (1 : Int32) = nI a := fun a => by
      have := pk_mul a 1
      rw [Nat.mul_one] at this
      exact this
    simp only [fX6_absent_l222, fX6_absent_b222, fX6_absent_b252, chk_of q17, c17, hn, if_neg cc, X6_hasB hQ (show i < 7 by omega), bdP_s, n1a, e1]
    rw [cN_s] at g
    by_cases hQi : tb Q i = true
    · rw [hQi, b2i_t, if_neg (by decide), e10, pk_mul, ← Nat.pow_succ]
      rw [if_pos hQi] at g
      exact g
    · rw [if_neg hQi] at g
      rw [Bool.not_eq_true] at hQi
      rw [hQi, b2i_f, if_pos rfl]
      exact g

theorem cN_split (P R : Nat → Bool) : ∀ n, cN (fun r => P r && R r) n + cN (fun r => P r && !R r) n = cN P n
  | 0 => rfl
  | n + 1 => by
    rw [cN_s, cN_s, cN_s, ← cN_split P R n]
    cases P n <;> cases R n <;> simp <;> omega
theorem pwA_le {Q c z : Nat} (hz : z ≤ 10) : ∀ {n : Nat}, n ≤ 7 → pwA Q c z n ≤ 10 ^ 7 := fun {n} hn => by
  unfold pwA
  have h1 : z ^ cN (fun r => tb Q r && tb c r) n ≤ 10 ^ cN (fun r => tb Q r && tb c r) n := Nat.pow_le_pow_left hz _
  have h2 : (10 - z) ^ cN (fun r => tb Q r && !tb c r) n ≤ 10 ^ cN (fun r => tb Q r && !tb c r) n := Nat.pow_le_pow_left (by omega) _
  refine Nat.le_trans (Nat.mul_le_mul h1 h2) ?_
  rw [← Nat.pow_add, cN_split]
  exact Nat.pow_le_pow_right (by omega) (Nat.le_trans (cN_le _ n) hn)
theorem tb_n {Q n : Nat} (hn : n ≤ 7) (hQ : Q < 2 ^ n) : cN (tb Q) 7 = cN (tb Q) n := by
  have := cN_hi (P := tb Q) (n := n) (7 - n) (fun r hr => tb_hi hQ hr)
  rw [show n + (7 - n) = 7 by omega] at this
  exact this
/-- the class's weight of those taken off -/
theorem pwA_n {Q c z n : Nat} (hn : n ≤ 7) (hQ : Q < 2 ^ n) (hc : c < 128) (hs : sub c Q = true) : pwA Q c z n = z ^ pc7 c * (10 - z) ^ (pc7 Q - pc7 c) ∧ pc7 c ≤ pc7 Q := by
  have h2n : 2 ^ n ≤ 128 := (Nat.pow_le_pow_right (by omega) hn : 2 ^ n ≤ 2 ^ 7)
  have hQ8 : Q < 128 := by omega
  obtain ⟨s1, s2⟩ := sb_all hQ8 hc hs
  have a1 : cN (fun r => tb Q r && tb c r) 7 = cN (fun r => tb Q r && tb c r) n := by
    have := cN_hi (P := fun r => tb Q r && tb c r) (n := n) (7 - n) (fun r hr => by rw [tb_hi hQ hr]; rfl)
    rw [show n + (7 - n) = 7 by omega] at this
    exact this
  have a2 := cN_split (tb Q) (tb c) n
  have e1 : cN (fun r => tb Q r && tb c r) n = pc7 c := by rw [← a1, s1, pc_tb c hc]
  have e2 : cN (tb Q) n = pc7 Q := by rw [← tb_n hn hQ, pc_tb Q hQ8]
  rw [e1, e2] at a2
  refine ⟨?_, by omega⟩
  unfold pwA
  rw [e1]
  congr 2
  omega
theorem nI_subN {a b : Nat} (h : b ≤ a) : nI a - nI b = nI (a - b) := by
  rw [Int32.sub_eq_iff_eq_add, nI_add, show a - b + b = a by omega]
