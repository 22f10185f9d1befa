/-! sets of riders as bits -/
def bN (P : Nat → Bool) : Nat → Nat
  | 0 => 0
  | n + 1 => bN P n + (if P n = true then 2 ^ n else 0)
theorem bN_lt (P : Nat → Bool) : ∀ n, bN P n < 2 ^ n
  | 0 => Nat.zero_lt_one
  | n + 1 => by
    have := bN_lt P n
    unfold bN
    rw [Nat.pow_succ]
    split <;> omega
theorem bN_congr {P Q : Nat → Bool} : ∀ n, (∀ r, r < n → P r = Q r) → bN P n = bN Q n
  | 0, _ => rfl
  | n + 1, h => by
    unfold bN
    rw [bN_congr n (fun r hr => h r (by omega)), h n (by omega)]
theorem or_bit0 : ∀ i, i < 7 → ∀ b, b < 128 → b < 2 ^ i → nI b ||| ((1 : Int32) <<< (nI i &&& 31)) = nI (b + 2 ^ i) := by decide +kernel
theorem bN_7 {P : Nat → Bool} {i : Nat} (h : i ≤ 7) : bN P i < 128 := Nat.lt_of_lt_of_le (bN_lt P i) (Nat.pow_le_pow_right (by omega) h : 2 ^ i ≤ 2 ^ 7)
theorem or_bit {P : Nat → Bool} {i : Nat} (h : i < 7) : nI (bN P i) ||| ((1 : Int32) <<< (nI i &&& 31)) = nI (bN P i + 2 ^ i) := or_bit0 i h _ (bN_7 (by omega)) (bN_lt P i)
theorem or_0 (x : Int32) : x ||| 0 = x := by
  apply Int32.toBitVec_inj.mp
  simp
def pc7 (b : Nat) : Nat := b % 2 + b / 2 % 2 + b / 4 % 2 + b / 8 % 2 + b / 16 % 2 + b / 32 % 2 + b / 64 % 2
theorem bitCount7 : ∀ b, b < 128 → fJ6_bitCount_0f7a4 (nI b) = some (nI (pc7 b)) := by decide +kernel
theorem pc7_add : ∀ i, i < 7 → ∀ b, b < 128 → b < 2 ^ i → pc7 (b + 2 ^ i) = pc7 b + 1 := by decide +kernel
theorem pc7_bN {P : Nat → Bool} : ∀ n, n ≤ 7 → pc7 (bN P n) = cN P n
  | 0, _ => (by decide : pc7 0 = 0)
  | n + 1, h => by
    unfold bN cN
    rw [← pc7_bN n (by omega)]
    split
    · exact pc7_add n (by omega) _ (bN_7 (by omega)) (bN_lt P n)
    · rfl
theorem X2_whoIsAt_l {m : Mem} {n : Nat} {v : Int32} (hn : m 0 3 = nI n) (hn7 : n ≤ 7) : ∀ (k fu i : Nat), i + k = n → k < fu → fX2_whoIsAt_l4 v m fu (nI (bN (fun r => decide (m 3 r = v)) i)) (nI i) = some (nI (bN (fun r => decide (m 3 r = v)) n)) := by
  intro k
  induction k with
  | zero =>
    intro fu i hi hf
    obtain ⟨f, rfl, -⟩ := fs hf
    have c : nI n ≤ nI i := nI_le (by omega) (by omega)
    have e : i = n := by omega
    subst e
    simp only [fX2_whoIsAt_l4, fX2_whoIsAt_b4, hn, if_pos c]
  | succ k ih =>
    intro fu i hi hf
    obtain ⟨f, rfl, hf'⟩ := fs hf
    have c : ¬ nI n ≤ nI i := nI_ge (by omega) (by omega)
    have hi7 : i < 7 := by omega
    have hih := ih f (i + 1) (by omega) (by omega)
    have hb : bN (fun r => decide (m 3 r = v)) (i + 1) = bN (fun r => decide (m 3 r = v)) i + (if decide (m 3 i = v) = true then 2 ^ i else 0) := rfl
    rw [hb] at hih
    simp only [fX2_whoIsAt_l4, fX2_whoIsAt_b4, fX2_whoIsAt_b28, hn, if_neg c, chk_of (bIn_n hi7 (by decide)), nc (show i < 2 ^ 31 by omega), n1a, or_bit hi7]
    by_cases h : m 3 i = v
    · rw [if_pos h]
      simp only [h, decide_true, if_true] at hih
      exact hih
    · rw [if_neg h]
      simp only [h, decide_false, Bool.false_eq_true, if_false, Nat.add_zero] at hih
      exact hih
theorem X2_whoIsAt {m : Mem} {n : Nat} {v : Int32} (hn : m 0 3 = nI n) (hn7 : n ≤ 7) : fX2_whoIsAt v m = some (nI (bN (fun r => decide (m 3 r = v)) n)) := X2_whoIsAt_l hn hn7 n FU 0 (by omega) (by have := FU_eq; omega)
theorem X2_howManyAt {m : Mem} {n : Nat} {v : Int32} (hn : m 0 3 = nI n) (hn7 : n ≤ 7) : fX2_howManyAt v m = some (nI (cN (fun r => decide (m 3 r = v)) n)) := by
  simp only [fX2_howManyAt, X2_whoIsAt hn hn7, bdP_s, bitCount7 _ (bN_7 hn7), pc7_bN n hn7]
/-- all are off -/
def aOff (n : Nat) (A : Nat → Int32) : Bool := decide (cN (offP A) n = n)
theorem X2_isClear {m : Mem} {n : Nat} (hn : m 0 3 = nI n) (hn7 : n ≤ 7) : fX2_isClear m = some (b2i (aOff n (m 3))) := by
  simp only [fX2_isClear, X2_howManyAt hn hn7, bdP_s, hn, aOff]
  have hle := cN_le (fun r => decide (m 3 r = 99)) n
  have e : (nI (cN (fun r => decide (m 3 r = 99)) n) = nI n) = (cN (offP (m 3)) n = n) := propext (nI_eq (by omega) (by omega))
  simp only [e]
  by_cases h : cN (offP (m 3)) n = n <;> simp [h, b2i]
/-- where all are behind k ticks -/
def sq (n s : Nat) (S sp : Int32) (K L : Nat → Int32) : Nat → (Nat → Int32) → Int32 → (Nat → Int32)
  | 0, A, _ => A
  | k + 1, A, t => sq n s S sp K L k (tkA n s S sp K L (odB t) A) (t + 1)
theorem sq_congr {n s : Nat} {S sp : Int32} {K L K' L' : Nat → Int32} (hK : ag n K K') (hL : ag n L L') : ∀ (k : Nat) (A A' : Nat → Int32) (t : Int32), ag n A A' → ag n (sq n s S sp K L k A t) (sq n s S sp K' L' k A' t)
  | 0, _, _, _, h => h
  | k + 1, _, _, t, h => sq_congr hK hL k _ _ (t + 1) (tkA_congr hK hL h)
def sqM (n s : Nat) (m : Mem) (k : Nat) : Nat → Int32 := sq n s (m 0 0) (m 0 1) (m 1) (m 2) k (m 3) (m 0 2)
def sqR (n s : Nat) (row : Nat → Int32) (k : Nat) : Nat → Int32 := sq n s (row 16) (row 1) (rK row) (rL row) k (rA row) (row 0)
theorem RS.sq {m : Mem} {row : Nat → Int32} {n s : Nat} (h : RS m row n s) (k : Nat) : ag n (sqM n s m k) (sqR n s row k) := by
  unfold sqM sqR
  rw [h.2.1.1, h.2.1.2.1, h.2.2.1.1, h.2.2.2.1]
  exact sq_congr h.ag1 h.ag2 k _ _ _ h.ag3
/-- what a stair must be to go on ticking -/
def okT (m : Mem) (n s : Nat) : Prop := okS m n s ∧ (m 0 1 = 0 ∨ m 0 1 = 1 ∨ m 0 1 = 2) ∧ (0 < n → 0 < s)
theorem RS.okT {m : Mem} {row : Nat → Int32} {n s : Nat} (h : RS m row n s) : okT m n s := ⟨h.okS, by rw [h.2.2.1.1]; exact h.2.2.1.2, fun hn => by have := h.2.1.2.2.2 hn; omega⟩
theorem okT.pass {m : Mem} {n s : Nat} (h : okT m n s) : ∃ m', fX2_pass m = some (nI (cN (goP (m 0 0) (m 0 1) (ph1 n s (m 0 0) (m 1) (m 2) (odB (m 0 2)) (m 3))) n), m') ∧ okT m' n s ∧ (∀ k, sqM n s m' k = sqM n s m (k + 1)) ∧ m' 0 1 = m 0 1 := by
  obtain ⟨ok, hsp, hs0⟩ := h
  obtain ⟨T', hp⟩ := X2_pass ok
  obtain ⟨hn, hn7, hS, hs, hok⟩ := id ok
  refine ⟨_, hp, ⟨⟨hn, hn7, hS, hs, fun r hr => ⟨(hok r hr).1, okA_tk hS hs hs0 hsp (fun q hq => (hok q hq).2) r hr⟩⟩, hsp, hs0⟩, fun k => rfl, rfl⟩
/-! at speed 0 nobody goes off; who is off stays off -/
theorem go_99 {n s r q : Nat} {S : Int32} {K L A : Nat → Int32} (hS : S = nI s) (hs : s ≤ 12) (h : A r ≠ 99) (hq : A q = 99) : goC n S K L r A q = 99 := by
  have hne : q ≠ r := fun e => h (by rw [← e]; exact hq)
  unfold goC
  repeat' split
  all_goals first
    | exact hq
    | (rw [upd_n _ _ hne]; exact hq)
theorem gK_99 {n s b q : Nat} {S : Int32} {K L A0 A : Nat → Int32} {odd : Bool} (hS : S = nI s) (hs : s ≤ 12) (hA : A (7 - b % 8) = 99 → A0 (7 - b % 8) = 99) (hb : b < 1584) (hq : A q = 99) : gK n S K L odd A0 b A q = 99 := by
  unfold gK
  split
  · next h =>
    refine go_99 hS hs (fun e => ?_) hq
    have h1 := hA e
    rw [h.2.1] at h1
    have := (nI_eq (a := b / 16) (b := 99) (by omega) (by omega)).mp h1
    omega
  · exact hq
theorem ne99 {s : Nat} {x : Int32} (hs : s ≤ 12) (h : ∃ k, k < s ∧ x = nI k) : x ≠ 99 := fun e => by
  obtain ⟨k, hk, rfl⟩ := h
  have := (nI_eq (a := k) (b := 99) (by omega) (by omega)).mp e
  omega
theorem okA_may' {n s : Nat} {S : Int32} {K L A : Nat → Int32} {r : Nat} {x : Int32} (hS : S = nI s) (hs : s ≤ 12) (h : may n S K L A r x = true) : ∃ k, k < s ∧ x = nI k := by
  unfold may at h
  simp only [Bool.and_eq_true, Bool.not_eq_true', decide_eq_false_iff_not] at h
  obtain ⟨j, hj, rfl⟩ := nI_of h.1.1
  refine ⟨j, ?_, rfl⟩
  have := h.1.2
  rw [hS] at this
  exact (nI_ltI hj (by omega)).mp (Int32.not_le.mp this)
/-- going leaves OFF as it is, for all -/
theorem go_off {n s r q : Nat} {S : Int32} {K L A : Nat → Int32} (hS : S = nI s) (hs : s ≤ 12) (h : A r ≠ 99) : (goC n S K L r A q = 99) = (A q = 99) := by
  by_cases hqr : q = r
  · subst hqr
    have : goC n S K L q A q ≠ 99 := by
      unfold goC
      repeat' split
      all_goals first
        | exact h
        | (rw [upd_s]; exact ne99 hs (okA_may' hS hs (by assumption)))
    exact propext ⟨fun e => absurd e this, fun e => absurd e h⟩
  · unfold goC
    repeat' split
    all_goals first
      | rfl
      | rw [upd_n _ _ hqr]
theorem dn_off {n s : Nat} {S : Int32} {K L A0 : Nat → Int32} {odd : Bool} (hS : S = nI s) (hs : s ≤ 12) : ∀ (B : Nat) (A : Nat → Int32), B ≤ 1584 → (∀ q, (A q = 99) = (A0 q = 99)) → ∀ q, (dn (gK n S K L odd A0) B A q = 99) = (A0 q = 99)
  | 0, A, _, hA => hA
  | B + 1, A, hB, hA => by
    show ∀ q, (dn (gK n S K L odd A0) B (gK n S K L odd A0 B A) q = 99) = (A0 q = 99)
    refine dn_off hS hs B _ (by omega) (fun q => ?_)
    rw [← hA q]
    unfold gK
    split
    · next h =>
      refine go_off hS hs (fun e => ?_)
      rw [hA, h.2.1] at e
      have := (nI_eq (a := B / 16) (b := 99) (by omega) (by omega)).mp e
      omega
    · rfl
theorem ph1_off {n s : Nat} {S : Int32} {K L A : Nat → Int32} {odd : Bool} (hS : S = nI s) (hs : s ≤ 12) (q : Nat) : (ph1 n s S K L odd A q = 99) = (A q = 99) := dn_off hS hs _ _ (by omega) (fun _ => rfl) q
theorem ltC_off {n q : Nat} {K L A : Nat → Int32} : (ltC n K L A q = 99) = (A q = 99) := by
  unfold ltC
  cases h : ff (qP n K L A) n 0 with
  | none => rfl
  | some r =>
    have hp : qP n K L A r = true := by
      have : ∀ (k i : Nat), ff (qP n K L A) k i = some r → qP n K L A r = true := by
        intro k
        induction k with
        | zero => intro i h; cases h
        | succ k ih =>
          intro i h
          unfold ff at h
          split at h
          · cases h; assumption
          · exact ih (i + 1) h
      exact this n 0 h
    have hr : A r = -1 := by
      unfold qP at hp
      rw [Bool.and_eq_true, decide_eq_true_eq] at hp
      exact hp.1
    by_cases hqr : q = r
    · subst hqr
      show ((upd A q 0) q = 99) = _
      rw [upd_s, hr]
      exact propext ⟨fun e => absurd e (by decide), fun e => absurd e (by decide)⟩
    · show ((upd A r 0) q = 99) = _
      rw [upd_n _ _ hqr]
theorem cry_99 (S sp : Int32) : cry S sp 99 = 99 := by
  unfold cry
  rw [if_neg (by decide)]
theorem tkA_99 {n s : Nat} {S sp : Int32} {K L A : Nat → Int32} {odd : Bool} (hS : S = nI s) (hs : s ≤ 12) {q : Nat} (hq : A q = 99) : tkA n s S sp K L odd A q = 99 := by
  unfold tkA
  rw [ltC_off]
  have h1 : ph1 n s S K L odd A q = 99 := (ph1_off hS hs q).mpr hq
  unfold mpA
  split
  · rw [h1]; exact cry_99 S sp
  · exact h1
theorem sq_99 {n s : Nat} {S sp : Int32} {K L : Nat → Int32} (hS : S = nI s) (hs : s ≤ 12) {q : Nat} : ∀ (k : Nat) (A : Nat → Int32) (t : Int32), A q = 99 → sq n s S sp K L k A t q = 99
  | 0, _, _, h => h
  | k + 1, A, t, h => sq_99 hS hs k _ _ (tkA_99 hS hs h)
theorem tkA_rest {n s : Nat} {S : Int32} {K L A : Nat → Int32} {odd : Bool} (hS : S = nI s) (hs : s ≤ 12) (hA : ∀ q, q < n → okA s (A q)) {q : Nat} (hq : q < n) : (tkA n s S 0 K L odd A q = 99) = (A q = 99) := by
  unfold tkA
  rw [ltC_off, ← ph1_off (n := n) (s := s) (S := S) (K := K) (L := L) (A := A) (odd := odd) hS hs q]
  unfold mpA
  rw [if_pos hq]
  have ha := okA_ph1 (n := n) (s := s) (S := S) (K := K) (L := L) (odd := odd) hS hs hA q hq
  generalize ph1 n s S K L odd A q = x at ha
  unfold cry
  split
  · next ho =>
    obtain ⟨k, hk, rfl⟩ := on_k ha ho
    rw [show nI k + 0 = nI k from Int32.add_zero _, if_pos (by rw [hS]; exact nI_lt hk (by omega))]
  · rfl
theorem cN_off {n : Nat} {A B : Nat → Int32} (h : ∀ q, q < n → (A q = 99) = (B q = 99)) : cN (offP A) n = cN (offP B) n := cN_congr n (fun q hq => by unfold offP; simp only [h q hq])
theorem aOff_rest {n s : Nat} {m : Mem} (h : okT m n s) (h0 : m 0 1 = 0) : ∀ (k : Nat), aOff n (sqM n s m k) = aOff n (m 3) := by
  intro k
  induction k generalizing m with
  | zero => rfl
  | succ k ih =>
    obtain ⟨m', -, ok', hq, hsp⟩ := h.pass
    rw [← hq k, ih ok' (hsp.trans h0)]
    have e : m' 3 = sqM n s m 1 := by rw [← hq 0]; rfl
    rw [e]
    unfold aOff
    rw [cN_off (A := sqM n s m 1) (B := m 3) (fun q hq => ?_)]
    show (tkA n s (m 0 0) (m 0 1) (m 1) (m 2) (odB (m 0 2)) (m 3) q = 99) = _
    rw [h0]
    exact tkA_rest h.1.2.2.1 h.1.2.2.2.1 (fun q hq => (h.1.2.2.2.2 q hq).2) hq
