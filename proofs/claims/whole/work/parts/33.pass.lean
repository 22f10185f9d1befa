/-! a tick of a stair of the class -/
def dn {α : Type} (F : Nat → α → α) : Nat → α → α
  | 0, x => x
  | b + 1, x => dn F b (F b x)
/-- whose number is b goes, if it goes at all -/
def gK (n : Nat) (S : Int32) (K L : Nat → Int32) (odd : Bool) (A0 : Nat → Int32) (b : Nat) (A : Nat → Int32) : Nat → Int32 :=
  if (b % 8 ≠ 0 ∧ 7 - b % 8 < n) ∧ A0 (7 - b % 8) = nI (b / 16) ∧ L (7 - b % 8) = nI (1 - b / 8 % 2) ∧ mv K odd (7 - b % 8) = true then goC n S K L (7 - b % 8) A else A
theorem key_dec {L A : Nat → Int32} {r s b : Nat} (hr : r < 7) (hs : s ≤ 12) (hl : okL (L r)) (ha : okA s (A r)) (ho : on (A r) = true) (hb : key L A r = b) : 7 - b % 8 = r ∧ b % 8 ≠ 0 ∧ A r = nI (b / 16) ∧ L r = nI (1 - b / 8 % 2) := by
  obtain ⟨l, hl1, el⟩ := okL_n hl
  obtain ⟨k, hk, ek⟩ := on_k ha ho
  unfold key at hb
  rw [el, ek, nc (by omega), nc (by omega)] at hb
  have h1 : b / 16 = k := by omega
  have h2 : 1 - b / 8 % 2 = l := by omega
  rw [h1, h2]
  exact ⟨by omega, by omega, ek, el⟩
theorem key_enc {L A : Nat → Int32} {b : Nat} (hb8 : b % 8 ≠ 0) (hb : b < 192) (hA : A (7 - b % 8) = nI (b / 16)) (hL : L (7 - b % 8) = nI (1 - b / 8 % 2)) : on (A (7 - b % 8)) = true ∧ key L A (7 - b % 8) = b := by
  refine ⟨by rw [hA]; exact on_nI (by omega), ?_⟩
  unfold key
  rw [hA, hL, nc (by omega), nc (by omega)]
  omega
def cN (P : Nat → Bool) : Nat → Nat
  | 0 => 0
  | n + 1 => cN P n + (if P n = true then 1 else 0)
theorem cN_le (P : Nat → Bool) : ∀ n, cN P n ≤ n
  | 0 => Nat.le_refl 0
  | n + 1 => by
    have := cN_le P n
    unfold cN
    split <;> omega
theorem cN_congr {P Q : Nat → Bool} : ∀ n, (∀ r, r < n → P r = Q r) → cN P n = cN Q n
  | 0, _ => rfl
  | n + 1, h => by
    unfold cN
    rw [cN_congr n (fun r hr => h r (by omega)), h n (by omega)]
theorem cN_one {P Q : Nat → Bool} {r0 : Nat} (hP : P r0 = true) (hQ : Q r0 = false) : ∀ n, r0 < n → (∀ r, r < n → r ≠ r0 → P r = Q r) → cN P n = cN Q n + 1
  | 0, h, _ => by omega
  | n + 1, h, he => by
    unfold cN
    by_cases hr : r0 = n
    · subst hr
      rw [cN_congr r0 (fun r hr => he r (by omega) (by omega)), hP, hQ]
      simp
    · rw [cN_one hP hQ n (by omega) (fun r h1 h2 => he r (by omega) h2), he n (by omega) (fun q => hr q.symm)]
      omega
theorem m1_lt {b : Nat} (h : b < 2 ^ 31) : (-1 : Int32) < nI b := by
  refine i32_lt_of_toInt ?_
  rw [nI_toInt h]
  have : (-1 : Int32).toInt = -1 := by decide
  omega
def tP (K L A : Nat → Int32) (odd : Bool) (B r : Nat) : Bool := on (A r) && mv K odd r && decide (key L A r < B)
def QQ (m : Mem) (T A : Nat → Int32) : Mem := va_up (va_up m 4 T) 3 A
theorem X2_sel {m : Mem} {n s : Nat} (ok : okS m n s) : ∀ (B fu i : Nat) (T A : Nat → Int32), B ≤ 16 * s → ag n T (tB n (m 1) (m 2) (m 3) (odB (m 0 2)) B) → cN (tP (m 1) (m 2) (m 3) (odB (m 0 2)) B) n + i ≤ n → n < fu + i → ∃ T' : Nat → Int32, fX2_pass_l6 fu (nI i) (QQ m T A) = fX2_pass_b46 (QQ m T' (dn (gK n (m 0 0) (m 1) (m 2) (odB (m 0 2)) (m 3)) B A)) := by
  obtain ⟨hn, hn7, hS, hs, hok⟩ := ok
  intro B
  induction B with
  | zero =>
    intro fu i T A hB hT hc hf
    obtain ⟨f, rfl⟩ : ∃ f, fu = f + 1 := ⟨fu - 1, by omega⟩
    refine ⟨T, ?_⟩
    have hn' : (QQ m T A) 0 3 = nI n := hn
    have hall : ∀ q, q < n → (QQ m T A) 4 q = -1 := fun q hq => by
      show T q = -1
      rw [hT q hq]
      unfold tB
      rw [if_neg (by omega)]
    simp only [fX2_pass_l6, fX2_pass_b6, fX2_pass_b25, hn', X2_none hn' hn7 hall, bdP_s, if_true, dn]
    split <;> rfl
  | succ B ih =>
    intro fu i T A hB hT hc hf
    by_cases hex : ∃ r, r < n ∧ (on (m 3 r) && mv (m 1) (odB (m 0 2)) r) = true ∧ key (m 2) (m 3) r = B
    · obtain ⟨r, hr, hg, hk⟩ := hex
      have hr7 : r < 7 := by omega
      obtain ⟨hl, ha⟩ := hok r hr
      have ho : on (m 3 r) = true := by rw [Bool.and_eq_true] at hg; exact hg.1
      have hmv : mv (m 1) (odB (m 0 2)) r = true := by rw [Bool.and_eq_true] at hg; exact hg.2
      obtain ⟨d1, d2, d3, d4⟩ := key_dec hr7 hs hl ha ho hk
      have huni : ∀ q, q < n → q ≠ r → on (m 3 q) = true → key (m 2) (m 3) q ≠ B := fun q hq hne hoq he => by
        have h9 := (key_dec (by omega) hs (hok q hq).1 (hok q hq).2 hoq he).1
        omega
      have hcnt : cN (tP (m 1) (m 2) (m 3) (odB (m 0 2)) (B + 1)) n = cN (tP (m 1) (m 2) (m 3) (odB (m 0 2)) B) n + 1 := by
        refine cN_one (r0 := r) ?_ ?_ n hr (fun q hq hne => ?_)
        · unfold tP; simp [hg, hk]
        · unfold tP; simp [hg, hk]
        · unfold tP
          by_cases hoq : on (m 3 q) = true
          · have := huni q hq hne hoq
            have h8 : (key (m 2) (m 3) q < B + 1) = (key (m 2) (m 3) q < B) := propext ⟨fun _ => by omega, fun _ => by omega⟩
            simp only [h8]
          · simp [hoq]
      obtain ⟨f, rfl⟩ : ∃ f, fu = f + 1 := ⟨fu - 1, by omega⟩
      have c : ¬ nI n ≤ nI i := nI_ge (by omega) (by omega)
      have hn' : (QQ m T A) 0 3 = nI n := hn
      have hTr : (QQ m T A) 4 r = nI B := by
        show T r = nI B
        rw [hT r hr]; unfold tB; rw [if_pos ⟨hg, by omega⟩, hk]
      have hmax : ∀ q, q < n → q ≠ r → (QQ m T A) 4 q < nI B := fun q hq hne => by
        show T q < nI B
        rw [hT q hq]; unfold tB
        split
        · next h => 
          have h7 : on (m 3 q) = true := by have := h.1; rw [Bool.and_eq_true] at this; exact this.1
          exact nI_lt (by have := huni q hq hne h7; omega) (by omega)
        · exact m1_lt (by omega)
      have hnx := X2_next hn' hn7 hr hTr (m1_lt (by omega)) hmax
      have hne : ¬ nI r = -1000000 := fun e => by
        have := congrArg Int32.toInt e
        rw [nI_toInt (by omega)] at this
        have h2 : (-1000000 : Int32).toInt = -1000000 := by decide
        omega
      have hmp : mp (QQ m T A) 4 r (-1) = QQ m (upd T r (-1)) A := by
        unfold QQ
        rw [mp_at, va_up_c _ _ _ (by decide : (4 : Nat) ≠ 3), va_up_c _ _ _ (by decide : (4 : Nat) ≠ 3), va_up_u]
        rfl
      have hgo := X2_goA (m := va_up m 4 (upd T r (-1))) (n := n) (r := r) hn hn7 hr7 A
      simp only [fX2_pass_l6, fX2_pass_b6, hn', if_neg c, hnx, bdP_s, if_neg hne, chk_of (bIn_n hr7 (by decide)), nc (show r < 2 ^ 31 by omega), hmp]
      rw [show fX2_go (nI r) (QQ m (upd T r (-1)) A) = _ from hgo]
      simp only [bdV_s, n1a]
      have hgk : gK n (m 0 0) (m 1) (m 2) (odB (m 0 2)) (m 3) B A = goC n (m 0 0) (m 1) (m 2) r A := by
        unfold gK
        rw [d1, if_pos ⟨⟨d2, hr⟩, d3, d4, hmv⟩]
      have := ih f (i + 1) (upd T r (-1)) (goC n (m 0 0) (m 1) (m 2) r A) (by omega) (fun q hq => ?_) (by omega) (by omega)
      · obtain ⟨T', h'⟩ := this
        refine ⟨T', ?_⟩
        show fX2_pass_l6 f (nI (i + 1)) (QQ m (upd T r (-1)) (goC n (m 0 0) (m 1) (m 2) r A)) = _
        rw [h']
        show _ = fX2_pass_b46 (QQ m T' (dn _ B (gK n (m 0 0) (m 1) (m 2) (odB (m 0 2)) (m 3) B A)))
        rw [hgk]
      · by_cases hqr : q = r
        · subst hqr
          rw [upd_s]; unfold tB; rw [if_neg (by omega)]
        · rw [upd_n _ _ hqr, hT q hq]
          unfold tB
          by_cases hgq : (on (m 3 q) && mv (m 1) (odB (m 0 2)) q) = true
          · have h7 : on (m 3 q) = true := by rw [Bool.and_eq_true] at hgq; exact hgq.1
            have := huni q hq hqr h7
            by_cases hlt : key (m 2) (m 3) q < B
            · rw [if_pos ⟨hgq, by omega⟩, if_pos ⟨hgq, hlt⟩]
            · rw [if_neg (by omega), if_neg (by omega)]
          · rw [if_neg (fun z => hgq z.1), if_neg (fun z => hgq z.1)]
    · have hgk : gK n (m 0 0) (m 1) (m 2) (odB (m 0 2)) (m 3) B A = A := by
        unfold gK
        split
        · next h =>
          obtain ⟨⟨h1, h2⟩, h3, h4, h5⟩ := h
          obtain ⟨h6, h7⟩ := key_enc h1 (by omega) h3 h4
          exact absurd ⟨7 - B % 8, h2, by rw [h6, h5]; rfl, h7⟩ hex
        · rfl
      have htb : ∀ q, q < n → tB n (m 1) (m 2) (m 3) (odB (m 0 2)) (B + 1) q = tB n (m 1) (m 2) (m 3) (odB (m 0 2)) B q := fun q hq => by
        unfold tB
        by_cases hgq : (on (m 3 q) && mv (m 1) (odB (m 0 2)) q) = true
        · have : key (m 2) (m 3) q ≠ B := fun e => hex ⟨q, hq, hgq, e⟩
          by_cases hlt : key (m 2) (m 3) q < B
          · rw [if_pos ⟨hgq, by omega⟩, if_pos ⟨hgq, hlt⟩]
          · rw [if_neg (by omega), if_neg (by omega)]
        · rw [if_neg (fun z => hgq z.1), if_neg (fun z => hgq z.1)]
      have hcc : cN (tP (m 1) (m 2) (m 3) (odB (m 0 2)) B) n = cN (tP (m 1) (m 2) (m 3) (odB (m 0 2)) (B + 1)) n := cN_congr n (fun q hq => by
        unfold tP
        by_cases hgq : (on (m 3 q) && mv (m 1) (odB (m 0 2)) q) = true
        · have : key (m 2) (m 3) q ≠ B := fun e => hex ⟨q, hq, hgq, e⟩
          have h8 : (key (m 2) (m 3) q < B + 1) = (key (m 2) (m 3) q < B) := propext ⟨fun _ => by omega, fun _ => by omega⟩
          simp only [h8]
        · simp [hgq])
      obtain ⟨T', h'⟩ := ih fu i T A (by omega) (fun q hq => by rw [hT q hq, htb q hq]) (by omega) hf
      refine ⟨T', ?_⟩
      rw [h']
      show _ = fX2_pass_b46 (QQ m T' (dn _ B _))
      rw [hgk]
/-- carried up -/
def cry (S sp x : Int32) : Int32 := if on x = true then (if x + sp < S then x + sp else 99) else x
def mpA (n : Nat) (F : Int32 → Int32) (A : Nat → Int32) : Nat → Int32 := fun r => if r < n then F (A r) else A r
def goP (S sp : Int32) (A : Nat → Int32) (r : Nat) : Bool := on (A r) && !decide (A r + sp < S)
theorem mpA_s (n : Nat) (F : Int32 → Int32) (A : Nat → Int32) : mpA (n + 1) F A = upd (mpA n F A) n (F (A n)) := by
  funext r
  unfold mpA
  by_cases h : r = n
  · subst h; rw [upd_s, if_pos (by omega)]
  · rw [upd_n _ _ h]
    by_cases h2 : r < n
    · rw [if_pos h2, if_pos (by omega)]
    · rw [if_neg h2, if_neg (by omega)]
theorem X2_carry_l {m : Mem} {n s : Nat} (hn : m 0 3 = nI n) (hn7 : n ≤ 7) (hS : m 0 0 = nI s) (hs : s ≤ 12) (A : Nat → Int32) (hA : ∀ r, r < n → okA s (A r)) : ∀ (k fu i : Nat), i + k = n → k < fu → fX2_carry_l4 fu (nI (cN (goP (m 0 0) (m 0 1) A) i)) (nI i) (va_up m 3 (mpA i (cry (m 0 0) (m 0 1)) A)) = some (nI (cN (goP (m 0 0) (m 0 1) A) n), va_up m 3 (mpA n (cry (m 0 0) (m 0 1)) A)) := by
  intro k
  induction k with
  | zero =>
    intro fu i hi hf
    obtain ⟨f, rfl, -⟩ := fs hf
    have c : nI n ≤ nI i := nI_le (by omega) (by omega)
    have e0 : ∀ B, (va_up m 3 B) 0 = m 0 := fun _ => rfl
    have : i = n := by omega
    subst this
    simp only [fX2_carry_l4, fX2_carry_b4, e0, hn, if_pos c]
  | succ k ih =>
    intro fu i hi hf
    obtain ⟨f, rfl, hf'⟩ := fs hf
    have c : ¬ nI n ≤ nI i := nI_ge (by omega) (by omega)
    have e0 : ∀ B, (va_up m 3 B) 0 = m 0 := fun _ => rfl
    have e3 : ∀ B, (va_up m 3 B) 3 = B := fun _ => rfl
    have hi7 : i < 7 := by omega
    have eA : mpA i (cry (m 0 0) (m 0 1)) A i = A i := by unfold mpA; rw [if_neg (by omega)]
    have g := X2_isOn (m := va_up m 3 (mpA i (cry (m 0 0) (m 0 1)) A)) (r := i) hS hs hi7 (by rw [e3, eA]; exact hA i (by omega))
    rw [e3, eA] at g
    have hih := ih f (i + 1) (by omega) (by omega)
    rw [mpA_s] at hih
    have hc1 : cN (goP (m 0 0) (m 0 1) A) (i + 1) = cN (goP (m 0 0) (m 0 1) A) i + (if goP (m 0 0) (m 0 1) A i = true then 1 else 0) := rfl
    rw [hc1] at hih
    simp only [fX2_carry_l4, fX2_carry_b4, fX2_carry_b57, e0, hn, if_neg c, g, bdP_s, chk_of (bIn_n hi7 (by decide)), nc (show i < 2 ^ 31 by omega), b2i_0, n1a, mp_at, e3, va_up_u, eA, upd_s, upd_u]
    unfold goP cry at hih
    by_cases ho : on (A i) = true
    · rw [if_neg (by simp [ho])]
      by_cases hl : A i + m 0 1 < m 0 0
      · rw [if_pos hl]
        simp only [ho, hl, if_true, Bool.true_and, decide_true, Bool.not_true, Bool.false_eq_true, if_false, Nat.add_zero] at hih
        exact hih
      · rw [if_neg hl]
        simp only [ho, hl, if_true, Bool.true_and, decide_false, Bool.not_false, if_false] at hih
        exact hih
    · rw [if_pos (by simpa using ho)]
      simp only [ho, Bool.false_and, Bool.false_eq_true, if_false, Nat.add_zero] at hih
      have e9 : upd (mpA i (cry (m 0 0) (m 0 1)) A) i (A i) = mpA i (cry (m 0 0) (m 0 1)) A := by
        have := upd_eta (mpA i (cry (m 0 0) (m 0 1)) A) i
        rwa [eA] at this
      have e10 : (mpA i (fun x => if on x = true then (if x + m 0 1 < m 0 0 then x + m 0 1 else 99) else x) A) = mpA i (cry (m 0 0) (m 0 1)) A := rfl
      first
        | (rw [e9] at hih; exact hih)
        | (simp only [e10] at hih; rw [e9] at hih; exact hih)
theorem mpA_0 (F : Int32 → Int32) (A : Nat → Int32) : mpA 0 F A = A := by
  funext r; unfold mpA; rw [if_neg (by omega)]
theorem X2_carry {m : Mem} {n s : Nat} (hn : m 0 3 = nI n) (hn7 : n ≤ 7) (hS : m 0 0 = nI s) (hs : s ≤ 12) (A : Nat → Int32) (hA : ∀ r, r < n → okA s (A r)) : fX2_carry (va_up m 3 A) = some (nI (cN (goP (m 0 0) (m 0 1) A) n), va_up m 3 (mpA n (cry (m 0 0) (m 0 1)) A)) := by
  have h := X2_carry_l hn hn7 hS hs A hA n FU 0 (by omega) (by have := FU_eq; omega)
  rw [mpA_0] at h
  exact h
/-- the first of whom it is so -/
def ff (P : Nat → Bool) : Nat → Nat → Option Nat
  | 0, _ => none
  | k + 1, i => if P i = true then some i else ff P k (i + 1)
def qP (n : Nat) (K L A : Nat → Int32) (r : Nat) : Bool := decide (A r = -1) && fr n K L A r 0 (L r)
def ltC (n : Nat) (K L A : Nat → Int32) : Nat → Int32 := match ff (qP n K L A) n 0 with
  | some r => upd A r 0
  | none => A
theorem X2_letOneOn_l {m : Mem} {n : Nat} (hn : m 0 3 = nI n) (hn7 : n ≤ 7) : ∀ (k fu i : Nat), i + k = n → k < fu → fX2_letOneOn_l2 fu (nI i) m = some (match ff (qP n (m 1) (m 2) (m 3)) k i with | some r => va_up m 3 (upd (m 3) r 0) | none => m) := by
  intro k
  induction k with
  | zero =>
    intro fu i hi hf
    obtain ⟨f, rfl, -⟩ := fs hf
    have c : nI n ≤ nI i := nI_le (by omega) (by omega)
    simp only [fX2_letOneOn_l2, fX2_letOneOn_b2, hn, if_pos c, ff]
  | succ k ih =>
    intro fu i hi hf
    obtain ⟨f, rfl, hf'⟩ := fs hf
    have c : ¬ nI n ≤ nI i := nI_ge (by omega) (by omega)
    have hi7 : i < 7 := by omega
    simp only [fX2_letOneOn_l2, fX2_letOneOn_b2, fX2_letOneOn_b39, hn, if_neg c, X2_isFree hn hn7 hi7, bdP_s, chk_of (bIn_n hi7 (by decide)), nc (show i < 2 ^ 31 by omega), b2i_0, n1a, mp_at, ih f (i + 1) (by omega) (by omega), ff, qP]
    by_cases h1 : m 3 i = -1 <;> by_cases h2 : fr n (m 1) (m 2) (m 3) i 0 (m 2 i) = true <;> simp [h1, h2]
theorem X2_letOneOn {m : Mem} {n : Nat} (hn : m 0 3 = nI n) (hn7 : n ≤ 7) : fX2_letOneOn m = some (va_up m 3 (ltC n (m 1) (m 2) (m 3))) := by
  have h := X2_letOneOn_l hn hn7 n FU 0 (by omega) (by have := FU_eq; omega)
  show fX2_letOneOn_l2 FU (nI 0) m = _
  rw [h]
  unfold ltC
  cases ff (qP n (m 1) (m 2) (m 3)) n 0 with
  | none => simp only [va_up_eta]
  | some r => rfl
/-- where all are behind a tick -/
def ph1 (n s : Nat) (S : Int32) (K L : Nat → Int32) (odd : Bool) (A : Nat → Int32) : Nat → Int32 := dn (gK n S K L odd A) (16 * s) A
def tkA (n s : Nat) (S sp : Int32) (K L : Nat → Int32) (odd : Bool) (A : Nat → Int32) : Nat → Int32 := ltC n K L (mpA n (cry S sp) (ph1 n s S K L odd A))
theorem okA_cry {s : Nat} {S sp x : Int32} (hS : S = nI s) (hs : s ≤ 12) (hsp : sp = 0 ∨ sp = 1 ∨ sp = 2) (h : okA s x) : okA s (cry S sp x) := by
  unfold cry
  split
  · next ho =>
    obtain ⟨k, hk, rfl⟩ := on_k h ho
    split
    · next hl =>
      have : ∃ d, d ≤ 2 ∧ sp = nI d := by
        rcases hsp with e | e | e
        · exact ⟨0, by omega, e⟩
        · exact ⟨1, by omega, e⟩
        · exact ⟨2, by omega, e⟩
      obtain ⟨d, hd, rfl⟩ := this
      rw [nI_add] at hl ⊢
      rw [hS] at hl
      exact Or.inr (Or.inr ⟨k + d, (nI_ltI (by omega) (by omega)).mp hl, rfl⟩)
    · exact Or.inr (Or.inl rfl)
  · exact h
theorem okA_may {n s : Nat} {S : Int32} {K L A : Nat → Int32} {r : Nat} {x : Int32} (hS : S = nI s) (hs : s ≤ 12) (h : may n S K L A r x = true) : okA s x := by
  unfold may at h
  simp only [Bool.and_eq_true, Bool.not_eq_true', decide_eq_false_iff_not] at h
  obtain ⟨j, hj, rfl⟩ := nI_of h.1.1
  refine Or.inr (Or.inr ⟨j, ?_, rfl⟩)
  have := h.1.2
  rw [hS] at this
  have h2 := Int32.not_le.mp this
  exact (nI_ltI hj (by omega)).mp h2
theorem okA_upd {n s r : Nat} {A : Nat → Int32} {v : Int32} (hA : ∀ q, q < n → okA s (A q)) (hv : okA s v) : ∀ q, q < n → okA s (upd A r v q) := fun q hq => by
  by_cases h : q = r
  · subst h; rw [upd_s]; exact hv
  · rw [upd_n _ _ h]; exact hA q hq
theorem okA_go {n s r : Nat} {S : Int32} {K L A : Nat → Int32} (hS : S = nI s) (hs : s ≤ 12) (hA : ∀ q, q < n → okA s (A q)) : ∀ q, q < n → okA s (goC n S K L r A q) := by
  unfold goC
  repeat' split
  all_goals first
    | exact hA
    | exact okA_upd hA (okA_may hS hs (by assumption))
theorem okA_dn {n s : Nat} {S : Int32} {K L A0 : Nat → Int32} {odd : Bool} (hS : S = nI s) (hs : s ≤ 12) : ∀ (B : Nat) (A : Nat → Int32), (∀ q, q < n → okA s (A q)) → ∀ q, q < n → okA s (dn (gK n S K L odd A0) B A q)
  | 0, A, hA => hA
  | B + 1, A, hA => by
    unfold dn
    refine okA_dn hS hs B _ ?_
    unfold gK
    split
    · exact okA_go hS hs hA
    · exact hA
theorem okA_ph1 {n s : Nat} {S : Int32} {K L A : Nat → Int32} {odd : Bool} (hS : S = nI s) (hs : s ≤ 12) (hA : ∀ q, q < n → okA s (A q)) : ∀ q, q < n → okA s (ph1 n s S K L odd A q) := okA_dn hS hs _ _ hA
theorem okA_tk {n s : Nat} {S sp : Int32} {K L A : Nat → Int32} {odd : Bool} (hS : S = nI s) (hs : s ≤ 12) (hs0 : 0 < n → 0 < s) (hsp : sp = 0 ∨ sp = 1 ∨ sp = 2) (hA : ∀ q, q < n → okA s (A q)) : ∀ q, q < n → okA s (tkA n s S sp K L odd A q) := by
  intro q hq
  unfold tkA ltC
  have h1 : ∀ q, q < n → okA s (mpA n (cry S sp) (ph1 n s S K L odd A) q) := fun q hq => by
    unfold mpA
    rw [if_pos hq]
    exact okA_cry hS hs hsp (okA_ph1 hS hs hA q hq)
  cases ff (qP n K L (mpA n (cry S sp) (ph1 n s S K L odd A))) n 0 with
  | some r => exact okA_upd h1 (Or.inr (Or.inr ⟨0, hs0 (by omega), rfl⟩)) q hq
  | none => exact h1 q hq
/-- a tick of a stair of the class: how many went off, and what is there then (who was in turn is no matter) -/
theorem X2_pass {m : Mem} {n s : Nat} (ok : okS m n s) : ∃ T' : Nat → Int32, fX2_pass m = some (nI (cN (goP (m 0 0) (m 0 1) (ph1 n s (m 0 0) (m 1) (m 2) (odB (m 0 2)) (m 3))) n), mp (QQ m T' (tkA n s (m 0 0) (m 0 1) (m 1) (m 2) (odB (m 0 2)) (m 3))) 0 2 (m 0 2 + 1)) := by
  obtain ⟨T, hg, hT⟩ := X2_giveTurns ok
  obtain ⟨hn, hn7, hS, hs, hok⟩ := id ok
  obtain ⟨T', h'⟩ := X2_sel ok (16 * s) FU 0 T (m 3) (Nat.le_refl _) hT (by have := cN_le (tP (m 1) (m 2) (m 3) (odB (m 0 2)) (16 * s)) n; omega) (by have := FU_eq; omega)
  have hq : QQ m T (m 3) = va_up m 4 T := by
    unfold QQ
    exact va_up_eta (va_up m 4 T) 3
  rw [hq] at h'
  refine ⟨T', ?_⟩
  have hA := okA_ph1 (n := n) (K := m 1) (L := m 2) (odd := odB (m 0 2)) hS hs (fun q hq => (hok q hq).2)
  have hc := X2_carry (m := va_up m 4 T') (n := n) hn hn7 hS hs (ph1 n s (m 0 0) (m 1) (m 2) (odB (m 0 2)) (m 3)) hA
  have hl := X2_letOneOn (m := va_up (va_up m 4 T') 3 (mpA n (cry (m 0 0) (m 0 1)) (ph1 n s (m 0 0) (m 1) (m 2) (odB (m 0 2)) (m 3)))) (n := n) hn hn7
  simp only [fX2_pass, hg, bdV_s]
  rw [l0, h']
  unfold fX2_pass_b46
  rw [show fX2_carry (QQ m T' (dn (gK n (m 0 0) (m 1) (m 2) (odB (m 0 2)) (m 3)) (16 * s) (m 3))) = _ from hc]
  simp only [bdI_s]
  have e0 : (va_up m 4 T') 0 = m 0 := rfl
  rw [e0, hl]
  simp only [bdV_s, va_up_u]
  rfl
