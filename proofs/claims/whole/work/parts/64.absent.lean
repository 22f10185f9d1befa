/-! absent: powers, the greatest divisor, subsets -/
theorem X5_power_l {b t : Nat} (ht : t < 900) : ∀ (k fu i : Nat), i + k = t → k < fu → fX5_power_l4 (nI b) (nI t) fu (nI (b ^ i)) (nI i) = some (nI (b ^ t)) := by
  intro k
  induction k with
  | zero =>
    intro fu i hi hf
    obtain ⟨f, rfl, -⟩ := fs hf
    have c : nI t ≤ nI i := nI_le (by omega) (by omega)
    have e : i = t := by omega
    subst e
    simp only [fX5_power_l4, fX5_power_b4, if_pos c]
  | succ k ih =>
    intro fu i hi hf
    obtain ⟨f, rfl, hf'⟩ := fs hf
    have c : ¬ nI t ≤ nI i := nI_ge (by omega) (by omega)
    simp only [fX5_power_l4, fX5_power_b4, if_neg c, n1a, pk_mul]
    rw [← Nat.pow_succ]
    exact ih f (i + 1) (by omega) (by omega)
theorem X5_power {b t : Nat} (ht : t < 900) : fX5_power (nI b) (nI t) = some (nI (b ^ t)) := X5_power_l ht t FU 0 (by omega) (by have := FU_eq; omega)
theorem X5_gd_l {p q : Int32} : ∀ (k a b i fu : Nat), b < 2 ^ k → i + 2 * k < 100 → 2 * k < fu → a < 2 ^ 31 → b < 2 ^ 31 → fX5_greatestDivisor_l7 p q fu (nI a) (nI b) (nI i) = some (if nI (Nat.gcd a b) < 1 then 1 else nI (Nat.gcd a b)) := by
  have hz : ∀ a, a < 2 ^ 31 → (nI a = 0) = (a = 0) := fun a ha => propext (nI_eq (b := 0) ha (by omega))
  intro k
  induction k with
  | zero =>
    intro a b i fu hb hi hf ha hb2
    obtain ⟨f, rfl⟩ : ∃ f, fu = f + 1 := ⟨fu - 1, by omega⟩
    have b0 : b = 0 := by have : (2 : Nat) ^ 0 = 1 := rfl; omega
    subst b0
    have c : ¬ (100 : Int32) ≤ nI i := nI_ge (b := 100) (by omega) (by omega)
    simp only [fX5_greatestDivisor_l7, fX5_greatestDivisor_b7, if_neg c, if_pos (show nI 0 = (0 : Int32) from rfl), Nat.gcd_zero_right]
  | succ k ih =>
    intro a b i fu hb hi hf ha hb2
    obtain ⟨f, rfl⟩ : ∃ f, fu = f + 1 + 1 := ⟨fu - 2, by omega⟩
    have c : ¬ (100 : Int32) ≤ nI i := nI_ge (b := 100) (by omega) (by omega)
    have c2 : ¬ (100 : Int32) ≤ nI (i + 1) := nI_ge (b := 100) (by omega) (by omega)
    by_cases b0 : b = 0
    · subst b0
      simp only [fX5_greatestDivisor_l7, fX5_greatestDivisor_b7, if_neg c, if_pos (show nI 0 = (0 : Int32) from rfl), Nat.gcd_zero_right]
    · have nb : ¬ nI b = 0 := fun z => b0 ((hz b hb2).mp z)
      have e1 : nI a - nI a / nI b * nI b = nI (a % b) := nrem ha (by omega) hb2
      have hlt : a % b < b := Nat.mod_lt _ (by omega)
      have g1 : Nat.gcd a b = Nat.gcd b (a % b) := by rw [Nat.gcd_comm a b, Nat.gcd_rec b a, Nat.gcd_comm]
      simp only [fX5_greatestDivisor_l7, fX5_greatestDivisor_b7, if_neg c, if_neg nb, chk_of (decide_eq_true nb), e1, n1a, if_neg c2]
      by_cases c0 : a % b = 0
      · rw [c0, if_pos (show nI 0 = (0 : Int32) from rfl), g1, c0, Nat.gcd_zero_right]
      · have nc' : ¬ nI (a % b) = 0 := fun z => c0 ((hz (a % b) (by omega)).mp z)
        have e2 : nI b - nI b / nI (a % b) * nI (a % b) = nI (b % (a % b)) := nrem hb2 (by omega) (by omega)
        have hlt2 : b % (a % b) < a % b := Nat.mod_lt _ (by omega)
        have hhalf : b % (a % b) + a % b ≤ b := by
          have h1 : 1 ≤ b / (a % b) := (Nat.one_le_div_iff (by omega)).mpr (by omega)
          have h2 := Nat.div_add_mod b (a % b)
          have h3 : (a % b) * 1 ≤ (a % b) * (b / (a % b)) := Nat.mul_le_mul_left _ h1
          omega
        have hpow : 2 ^ (k + 1) = 2 ^ k * 2 := Nat.pow_succ 2 k
        have g2 : Nat.gcd b (a % b) = Nat.gcd (a % b) (b % (a % b)) := by rw [Nat.gcd_comm b (a % b), Nat.gcd_rec (a % b) b, Nat.gcd_comm]
        rw [if_neg nc', chk_of (decide_eq_true nc'), e2, g1, g2]
        exact ih (a % b) (b % (a % b)) (i + 2) f (by omega) (by omega) (by omega) (by omega) (by omega)
theorem X6_gd_l {p1 p2 p3 p4 x6 x7 : Int32} {N : Mem} : ∀ (k a b fu : Nat), b < 2 ^ k → 2 * k < fu → a < 2 ^ 31 → b < 2 ^ 31 → fX6_absent_l269 p1 p2 p3 p4 fu x6 x7 (nI a) (nI b) N = fX6_absent_b292 p1 p2 p3 p4 x6 x7 (nI (Nat.gcd a b)) N := by
  have hz : ∀ a, a < 2 ^ 31 → (nI a ≤ 0) = (a = 0) := fun a ha => propext ((nI_leI (b := 0) ha (by omega)).trans ⟨fun h => by omega, fun h => by omega⟩)
  have hz2 : ∀ a, a < 2 ^ 31 → (nI a = 0) = (a = 0) := fun a ha => propext (nI_eq (b := 0) ha (by omega))
  intro k
  induction k with
  | zero =>
    intro a b fu hb hf ha hb2
    obtain ⟨f, rfl⟩ : ∃ f, fu = f + 1 := ⟨fu - 1, by omega⟩
    have b0 : b = 0 := by have : (2 : Nat) ^ 0 = 1 := rfl; omega
    subst b0
    simp only [fX6_absent_l269, fX6_absent_b269, if_pos (show nI 0 ≤ (0 : Int32) by decide), Nat.gcd_zero_right]
  | succ k ih =>
    intro a b fu hb hf ha hb2
    obtain ⟨f, rfl⟩ : ∃ f, fu = f + 1 + 1 := ⟨fu - 2, by omega⟩
    by_cases b0 : b = 0
    · subst b0
      simp only [fX6_absent_l269, fX6_absent_b269, if_pos (show nI 0 ≤ (0 : Int32) by decide), Nat.gcd_zero_right]
    · have nb : ¬ nI b = 0 := fun z => b0 ((hz2 b hb2).mp z)
      have nl : ¬ nI b ≤ 0 := fun z => b0 ((hz b hb2).mp z)
      have e1 : nI a - nI a / nI b * nI b = nI (a % b) := nrem ha (by omega) hb2
      have hlt : a % b < b := Nat.mod_lt _ (by omega)
      have g1 : Nat.gcd a b = Nat.gcd b (a % b) := by rw [Nat.gcd_comm a b, Nat.gcd_rec b a, Nat.gcd_comm]
      simp only [fX6_absent_l269, fX6_absent_b269, if_neg nl, chk_of (decide_eq_true nb), e1]
      by_cases c0 : a % b = 0
      · rw [c0, if_pos (show nI 0 ≤ (0 : Int32) by decide), g1, c0, Nat.gcd_zero_right]
      · have nc' : ¬ nI (a % b) = 0 := fun z => c0 ((hz2 (a % b) (by omega)).mp z)
        have nl' : ¬ nI (a % b) ≤ 0 := fun z => c0 ((hz (a % b) (by omega)).mp z)
        have e2 : nI b - nI b / nI (a % b) * nI (a % b) = nI (b % (a % b)) := nrem hb2 (by omega) (by omega)
        have hlt2 : b % (a % b) < a % b := Nat.mod_lt _ (by omega)
        have hhalf : b % (a % b) + a % b ≤ b := by
          have h1 : 1 ≤ b / (a % b) := (Nat.one_le_div_iff (by omega)).mpr (by omega)
          have h2 := Nat.div_add_mod b (a % b)
          have h3 : (a % b) * 1 ≤ (a % b) * (b / (a % b)) := Nat.mul_le_mul_left _ h1
          omega
        have hpow : 2 ^ (k + 1) = 2 ^ k * 2 := Nat.pow_succ 2 k
        have g2 : Nat.gcd b (a % b) = Nat.gcd (a % b) (b % (a % b)) := by rw [Nat.gcd_comm b (a % b), Nat.gcd_rec (a % b) b, Nat.gcd_comm]
        rw [if_neg nl', chk_of (decide_eq_true nc'), e2, g1, g2]
        exact ih (a % b) (b % (a % b)) f (by omega) (by omega) (by omega) (by omega)
/-! bits -/
def tb (x r : Nat) : Bool := decide (x / 2 ^ r % 2 = 1)
set_option maxRecDepth 100000 in
theorem bit_tb : ∀ x, x < 128 → ∀ r, r < 7 → decide (bitI (nI x) r = 1) = tb x r := by decide +kernel
set_option maxRecDepth 100000 in
theorem pc_tb : ∀ x, x < 128 → pc7 x = cN (tb x) 7 := by decide +kernel
def sbB (Q c : Nat) : Bool := !sub c Q || (decide (cN (fun r => tb Q r && tb c r) 7 = cN (tb c) 7) && allB (fun r => !tb c r || tb Q r) 7 0)
set_option maxRecDepth 100000 in
theorem sbB_all : allB (fun Q => allB (fun c => sbB Q c) 128 0) 128 0 = true := by decide +kernel
theorem sb_all {Q c : Nat} (hQ : Q < 128) (hc : c < 128) (hs : sub c Q = true) : cN (fun r => tb Q r && tb c r) 7 = cN (tb c) 7 ∧ ∀ r, r < 7 → tb c r = true → tb Q r = true := by
  have h1 := (allB_iff 128 0).mp ((allB_iff 128 0).mp sbB_all Q (by omega) (by omega)) c (by omega) (by omega)
  unfold sbB at h1
  rw [hs, Bool.not_true, Bool.false_or, Bool.and_eq_true, decide_eq_true_eq] at h1
  refine ⟨h1.1, fun r hr ht => ?_⟩
  have h2 := (allB_iff 7 0).mp h1.2 r (by omega) (by omega)
  rw [ht] at h2
  simpa using h2
theorem tb_hi {Q n r : Nat} (hQ : Q < 2 ^ n) (hr : n ≤ r) : tb Q r = false := by
  unfold tb
  rw [Nat.div_eq_of_lt (Nat.lt_of_lt_of_le hQ (Nat.pow_le_pow_right (by omega) hr))]
  decide
theorem cN_hi {P : Nat → Bool} {n : Nat} : ∀ k, (∀ r, n ≤ r → P r = false) → cN P (n + k) = cN P n
  | 0, _ => rfl
  | k + 1, h => by
    show cN P (n + k) + (if P (n + k) = true then 1 else 0) = _
    rw [cN_hi k h, h (n + k) (by omega)]
    rfl
theorem bN_tb {P : Nat → Bool} {r : Nat} : ∀ n, n ≤ 7 → r < n → tb (bN P n) r = P r
  | 0, _, h => by omega
  | n + 1, hn, hr => by
    have hb := bN_lt P n
    show decide ((bN P n + (if P n = true then 2 ^ n else 0)) / 2 ^ r % 2 = 1) = P r
    by_cases hrn : r = n
    · subst hrn
      by_cases hP : P r = true
      · rw [if_pos hP, hP, Nat.add_div_right _ (Nat.pos_of_ne_zero (by simp)), Nat.div_eq_of_lt hb]
        decide
      · rw [if_neg hP, Nat.add_zero, Nat.div_eq_of_lt hb]
        rw [Bool.not_eq_true] at hP
        rw [hP]; decide
    · have ih := bN_tb (P := P) (r := r) n (by omega) (by omega)
      rw [← ih]
      unfold tb
      by_cases hP : P n = true
      · rw [if_pos hP]
        have : (bN P n + 2 ^ n) / 2 ^ r % 2 = bN P n / 2 ^ r % 2 := by
          have hsplit : 2 ^ n = 2 ^ r * 2 ^ (n - r) := by rw [← Nat.pow_add, show r + (n - r) = n by omega]
          rw [hsplit, Nat.add_mul_div_left _ _ (Nat.pos_of_ne_zero (by simp))]
          have h2 : 2 ^ (n - r) = 2 * 2 ^ (n - r - 1) := by
            rw [show n - r = (n - r - 1) + 1 by omega, Nat.pow_succ, Nat.mul_comm]
            simp
          omega
        rw [this]
      · rw [if_neg hP, Nat.add_zero]
/-! those who do not come -/
def tkO (c : Nat) (A : Nat → Int32) (r : Nat) : Int32 := if tb c r = true then 99 else A r
theorem X2_takeOff_l {m : Mem} {n c : Nat} (hn : m 0 3 = nI n) (hn7 : n ≤ 7) (hc : c < 128) : ∀ (k fu i : Nat), i + k = n → k < fu → fX2_takeOff_l2 (nI c) fu (nI i) (va_up m 3 (mpL i (tkO c (m 3)) (m 3))) = some (va_up m 3 (mpL n (tkO c (m 3)) (m 3))) := by
  intro k
  induction k with
  | zero =>
    intro fu i hi hf
    obtain ⟨f, rfl, -⟩ := fs hf
    have cc : nI n ≤ nI i := nI_le (by omega) (by omega)
    have e : i = n := by omega
    subst e
    have e0 : ∀ B, (va_up m 3 B) 0 = m 0 := fun _ => rfl
    simp only [fX2_takeOff_l2, fX2_takeOff_b2, e0, hn, if_pos cc]
  | succ k ih =>
    intro fu i hi hf
    obtain ⟨f, rfl, hf'⟩ := fs hf
    have cc : ¬ nI n ≤ nI i := nI_ge (by omega) (by omega)
    have e0 : ∀ B, (va_up m 3 B) 0 = m 0 := fun _ => rfl
    have e3 : ∀ B, (va_up m 3 B) 3 = B := fun _ => rfl
    have hih := ih f (i + 1) (by omega) (by omega)
    rw [mpL_s] at hih
    have eb : ((nI c >>> (nI i &&& 31)) &&& 1) = bitI (nI c) i := rfl
    have hbt := bit_tb c hc i (by omega)
    simp only [fX2_takeOff_l2, fX2_takeOff_b2, fX2_takeOff_b27, e0, hn, if_neg cc, eb, chk_of (bIn_n (show i < 7 by omega) (by decide)), nc (show i < 2 ^ 31 by omega), n1a, mp_at, e3, va_up_u]
    by_cases h : bitI (nI c) i = 1
    · rw [decide_eq_true h] at hbt
      rw [if_pos h]
      rw [show tkO c (m 3) i = 99 from if_pos hbt.symm] at hih
      exact hih
    · rw [decide_eq_false h] at hbt
      rw [if_neg h]
      rw [show tkO c (m 3) i = m 3 i from if_neg (by rw [← hbt]; decide)] at hih
      have e : mpL i (tkO c (m 3)) (m 3) i = m 3 i := by unfold mpL; rw [if_neg (by omega)]
      have := upd_eta (mpL i (tkO c (m 3)) (m 3)) i
      rw [e] at this
      rw [this] at hih
      exact hih
theorem X2_takeOff {m : Mem} {n c : Nat} (hn : m 0 3 = nI n) (hn7 : n ≤ 7) (hc : c < 128) : fX2_takeOff (nI c) m = some (va_up m 3 (mpL n (tkO c (m 3)) (m 3))) := by
  have h := X2_takeOff_l hn hn7 hc n FU 0 (by omega) (by have := FU_eq; omega)
  rw [mpL_0, va_up_eta] at h
  exact h
theorem RS.takes {m : Mem} {row w : Nat → Int32} {n s c : Nat} (h : RS m row n s) (h1 : ∀ r, r < n → w (2 + r) = tkO c (rA row) r) (h2 : ∀ j, (j < 2 ∨ 2 + n ≤ j) → w j = row j) : RS (va_up m 3 (mpL n (tkO c (m 3)) (m 3))) w n s := by
  obtain ⟨⟨a1, a2, a3⟩, ⟨b1, b2, b3, b4⟩, ⟨c1, c2⟩, d, e⟩ := h
  refine ⟨⟨a1, by rw [h2 17 (by omega)]; exact a2, a3⟩, ⟨b1, by rw [h2 16 (by omega)]; exact b2, b3, b4⟩, ⟨by rw [h2 1 (by omega)]; exact c1, by rw [h2 1 (by omega)]; exact c2⟩, by rw [h2 0 (by omega)]; exact d, fun r hr => ?_⟩
  obtain ⟨⟨e1, e2, e3⟩, e4, e5, e6⟩ := e r hr
  rw [h2 (18 + r) (by omega), h2 (9 + r) (by omega), h1 r hr]
  refine ⟨⟨e1, e2, ?_⟩, e4, ?_, e6⟩
  · show mpL n (tkO c (m 3)) (m 3) r = _
    unfold mpL tkO
    rw [if_pos hr, e3]
    rfl
  · unfold tkO
    split
    · exact Or.inr (Or.inl rfl)
    · exact e5
/-- off within n ticks is off behind n ticks -/
theorem ff_mono {P : Nat → Bool} (h : ∀ j, P j = true → P (j + 1) = true) : ∀ (k i : Nat), (ff P (k + 1) i = none) ↔ P (i + k) = false
  | 0, i => by
    show (if P i = true then some i else none) = none ↔ P i = false
    cases P i <;> simp
  | k + 1, i => by
    have ih := ff_mono h k (i + 1)
    show (if P i = true then some i else ff P (k + 1) (i + 1)) = none ↔ _
    cases hp : P i with
    | false => rw [if_neg (by decide), ih, show i + 1 + k = i + (k + 1) by omega]
    | true =>
      rw [if_pos rfl]
      have hall : ∀ d, P (i + d) = true := by
        intro d
        induction d with
        | zero => exact hp
        | succ d ihd => exact h _ ihd
      rw [hall (k + 1)]
      simp
theorem sqM_99 {n s r : Nat} {m : Mem} (ok : okT m n s) : ∀ j, offA n s m r j = true → offA n s m r (j + 1) = true := by
  intro j
  induction j generalizing m with
  | zero =>
    intro h
    have h' : m 3 r = 99 := of_decide_eq_true h
    exact decide_eq_true (tkA_99 ok.1.2.2.1 ok.1.2.2.2.1 h')
  | succ j ih =>
    intro h
    obtain ⟨m', -, ok', hq, -⟩ := ok.pass
    have e : ∀ k, offA n s m r (k + 1) = offA n s m' r k := fun k => by unfold offA; rw [hq k]
    rw [e] at h ⊢
    exact ih ok' h
