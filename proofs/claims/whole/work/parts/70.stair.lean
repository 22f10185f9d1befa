/-! stair: one token of the class -/
section CLS
variable {M : Mem} {B : Nat → Nat} {len p t f : Nat}
theorem cl_tok {x2 : Int32} (h : TM M B len) (hp : p < len) (ht : t ≤ p) : fX3_readInto_l11 (f + 1) x2 (nI p) (nI t) M = if wd B len p = 0 then some (nI p, mp M 2 2 1) else bdI (fX3_accept x2 (nI p) (nI (wd B len p)) M) (fun r6 M8 => fX3_readInto_b51 (fX3_readInto_l11 f) x2 (nI p) (nI t) (nI (wd B len p)) r6 M8) := by
  have hl := h.2.1
  have c1 : ¬ (90 : Int32) ≤ nI t := nI_ge (b := 90) (by omega) (by omega)
  have c2 : ¬ nI len ≤ nI p := nI_ge hp (by omega)
  have hw : wd B len p ≤ 3 := by unfold wd; have := nd_le (B := B) (len := len) (p := p); split <;> (try split) <;> omega
  show fX3_readInto_b11 (fX3_readInto_l11 f) x2 (nI p) (nI t) M = _
  have e0 : (nI (wd B len p) = 0) = (wd B len p = 0) := neq (b := 0) (by omega) (by omega)
  simp only [fX3_readInto_b11, if_neg c1, h.1, if_neg c2, X3_wid h hp, bdP_s]
  by_cases hz : wd B len p = 0
  · rw [if_pos (e0.mpr hz), if_pos hz]
    unfold fX3_readInto_b51
    rw [if_neg i10]
  · rw [if_neg (fun hh => hz (e0.mp hh)), if_neg hz]
theorem cl_end {x2 : Int32} (h : TM M B len) (hp : p = len) : fX3_readInto_l11 (f + 1) x2 (nI p) (nI t) M = fX3_readInto_b91 x2 M := by
  have hl := h.2.1
  show fX3_readInto_b11 (fX3_readInto_l11 f) x2 (nI p) (nI t) M = _
  unfold fX3_readInto_b11
  have c2 : nI len ≤ nI p := nI_le (by omega) (by omega)
  rw [h.1, if_pos c2, ite_self]
theorem b91_n {x2 : Int32} (h : TM M B len) (hx : ¬ x2 = 5) : fX3_readInto_b91 x2 M = some (nI len, mp M 2 2 1) := by
  unfold fX3_readInto_b91
  rw [if_neg hx]
  have e : (mp M 2 2 1) 2 1 = M 2 1 := by rw [mp_at, va_up_self, upd_n _ _ (by omega)]
  rw [e, h.1]
theorem wd_l (hb : ltr (B p) = true) : wd B len p = 1 := by unfold wd; rw [if_pos hb]
theorem cl_sgn {x2 : Int32} {c : Nat} (h : TM M B len) (hp : p ≤ len) (ht : t ≤ p) (hx : ¬ x2 = 5) (hc : ltr c = true) (hc2 : c < 256) (hacc : ∀ w, fX3_accept x2 (nI p) w M = bdP (fX3_acceptSign (nI c) (nI p) M) (fun r => some (r, M))) : fX3_readInto_l11 (f + 1) x2 (nI p) (nI t) M = if sgn B len p c = true then fX3_readInto_l11 f (if x2 = 7 then 5 else x2 + 1) (nI (p + 1)) (nI (t + 1)) M else some (nI p, mp M 2 2 1) := by
  have hl := h.2.1
  by_cases hpl : p < len
  · obtain ⟨e, hb⟩ := h.2.2 p hpl
    rw [cl_tok h hpl ht]
    have hs : sgn B len p c = decide (B p = c) := by unfold sgn; rw [decide_eq_true hpl, Bool.true_and]
    have e1 : (nI (B p) = nI c) = (B p = c) := neq (by omega) (by omega)
    rw [hacc, hs]
    unfold fX3_acceptSign
    rw [chk_of (bIn_n (show p < 90 by omega) (by decide)), nc (by omega), e]
    by_cases hbc : B p = c
    · rw [wd_l (by rw [hbc]; exact hc), if_neg (by omega), if_pos (e1.mpr hbc), bdP_s, bdI_s, decide_eq_true hbc, if_pos rfl]
      unfold fX3_readInto_b51 fX3_readInto_b79
      rw [if_pos rfl, nI_add, n1a]
      by_cases h7 : x2 = 7
      · rw [if_pos h7, if_pos h7]
      · rw [if_neg h7, if_neg h7]
    · rw [if_neg (fun hh => hbc (e1.mp hh)), bdP_s, bdI_s, decide_eq_false hbc, if_neg (show ¬ (false : Bool) = true by decide)]
      unfold fX3_readInto_b51
      rw [if_neg i10, ite_self]
  · have hpe : p = len := by omega
    rw [cl_end h hpe, b91_n h hx]
    unfold sgn
    rw [decide_eq_false hpl, Bool.false_and, if_neg (by decide), hpe]
theorem dig_ltr (hd : dig B len p = true) : ltr (B p) = false := by
  obtain ⟨-, h1, h2⟩ := dig_in hd
  unfold ltr
  rw [decide_eq_false (show ¬ 97 ≤ B p by omega), decide_eq_false (show ¬ B p = 44 by omega), decide_eq_false (show ¬ B p = 59 by omega)]
  rfl
theorem nd_dig : (nd B len p = 0) = (dig B len p = false) := by
  unfold nd
  cases hd : dig B len p with
  | false => simp
  | true =>
    rw [if_pos rfl]
    apply propext
    constructor
    · intro hh
      split at hh
      · split at hh <;> omega
      · omega
    · intro hh; cases hh
theorem wd_nd (hd : dig B len p = true) : wd B len p = if nd B len p = 3 then 0 else nd B len p := by
  unfold wd
  rw [dig_ltr hd, if_neg (by decide)]
theorem X3_num (h : TM M B len) (hp : p < len) (h3 : ¬ nd B len p = 3) : fX3_numberAt (nI p) (nI (wd B len p)) M = some (if nd B len p = 0 then -1000000 else nI (nv B len p)) := by
  have hl := h.2.1
  obtain ⟨e, hb⟩ := h.2.2 p hp
  unfold fX3_numberAt
  rw [X3_fig h (by omega), bdP_s]
  cases hd0 : dig B len p with
  | false =>
    rw [b2i_f, if_pos rfl, if_pos (nd_dig.mpr hd0)]
  | true =>
    have hn0 : ¬ nd B len p = 0 := fun hh => by rw [nd_dig.mp hh] at hd0; cases hd0
    obtain ⟨-, q1, q2⟩ := dig_in hd0
    have es : nI (B p) - 48 = nI (B p - 48) := nI_subN q1
    rw [b2i_t, if_neg i10, if_neg hn0, chk_of (bIn_n (show p < 90 by omega) (by decide)), nc (show p < 2 ^ 31 by omega), e, es, wd_nd hd0, if_neg h3, n1a, X3_fig h (by omega), bdP_s]
    have hnd : nd B len p = if dig B len (p + 1) = true then (if dig B len (p + 2) = true then 3 else 2) else 1 := by
      unfold nd; rw [hd0, if_pos rfl]
    unfold nv
    cases hd1 : dig B len (p + 1) with
    | false =>
      rw [hd1, if_neg (by decide)] at hnd
      rw [hnd, if_neg (show ¬ nI 1 = 2 by decide), if_neg (by decide)]
    | true =>
      obtain ⟨l1, q3, q4⟩ := dig_in hd1
      have h2 : nd B len p = 2 := by
        rw [hd1, if_pos rfl] at hnd
        by_cases hd2 : dig B len (p + 2) = true
        · rw [if_pos hd2] at hnd; exact absurd hnd h3
        · rw [if_neg hd2] at hnd; exact hnd
      have em : nI (B p - 48) * 10 = (10 : Int32) * nI (B p - 48) := Int32.mul_comm _ _
      rw [h2, if_pos (show nI 2 = 2 from rfl), b2i_t, if_neg i10, chk_of (bIn_n (show p + 1 < 90 by omega) (by decide)), nc (show p + 1 < 2 ^ 31 by omega), (h.2.2 (p + 1) l1).1, em, nv_2 q3, if_pos rfl]
theorem X3_fault {v : Nat} {lo hi : Nat} (hv : v < 100) (hlo : lo < 256) (hhi : hi < 256) : fX3_faultOfNumber (nI v) (nI lo) (nI hi) M = some (if inR v lo hi = true then 0 else 2) := by
  unfold fX3_faultOfNumber
  rw [if_neg (oI_ne (by omega)), X5_outside, bdP_s, inB_R (by omega) (by omega) (by omega)]
  cases inR v lo hi with
  | false => rw [Bool.not_false, b2i_t, if_neg i10, if_neg (by decide)]
  | true => rw [Bool.not_true, b2i_f, if_pos rfl, if_pos rfl]
theorem X3_faultN {lo hi : Int32} : fX3_faultOfNumber (-1000000) lo hi M = some 1 := by
  unfold fX3_faultOfNumber
  rw [if_pos rfl]
theorem b51_bad {x2 x3 x4 x5 s0 : Int32} {k11 : Int32 → Int32 → Int32 → Mem → Option (Int32 × Mem)} {M : Mem} (h : ¬ s0 = 0) : fX3_readInto_b51 k11 x2 x3 x4 x5 s0 M = some (x3, mp M 2 2 s0) := by
  unfold fX3_readInto_b51
  rw [if_neg h]
theorem b51_ok {x2 x3 x4 x5 : Int32} {k11 : Int32 → Int32 → Int32 → Mem → Option (Int32 × Mem)} {M : Mem} (h : ¬ x2 = 7) : fX3_readInto_b51 k11 x2 x3 x4 x5 0 M = k11 (x2 + 1) (x3 + x5) (x4 + 1) M := by
  unfold fX3_readInto_b51 fX3_readInto_b79
  rw [if_pos rfl, if_neg h]
theorem cl_num {x2 : Int32} {k lo hi : Nat} (h : TM M B len) (hp : p ≤ len) (ht : t ≤ p) (hx : ¬ x2 = 5) (hx7 : ¬ x2 = 7) (hlo : lo < 256) (hhi : hi < 256) (hacc : ∀ w, fX3_accept x2 (nI p) w M = bdP (fX3_numberAt (nI p) w M) (fun r5 => bdP (fX3_faultOfNumber ((mp M 134 k r5) 134 k) (nI lo) (nI hi) (mp M 134 k r5)) (fun r7 => some ((r7 : Int32), (mp M 134 k r5))))) : ∃ M1 : Mem, (∀ i, i ≠ 134 → M1 i = M i) ∧ fX3_readInto_l11 (f + 1) x2 (nI p) (nI t) M = if nd B len p = 0 ∨ nd B len p = 3 then some (nI p, mp M1 2 2 1) else if inR (nv B len p) lo hi = true then fX3_readInto_l11 f (x2 + 1) (nI (p + nd B len p)) (nI (t + 1)) (mp M 134 k (nI (nv B len p))) else some (nI p, mp M1 2 2 2) := by
  have hl := h.2.1
  have hmp : ∀ v, ∀ i, i ≠ 134 → (mp M 134 k v) i = M i := fun v i hi => va_up_ne _ _ hi
  have hmk : ∀ v, (mp M 134 k v) 134 k = v := fun v => by rw [mp_at, va_up_self, upd_s]
  by_cases hpl : p < len
  · rw [cl_tok h hpl ht]
    by_cases h3 : nd B len p = 3
    · have hd : dig B len p = true := by
        cases hd : dig B len p with
        | true => rfl
        | false => rw [nd_dig.mpr hd] at h3; omega
      refine ⟨M, fun _ _ => rfl, ?_⟩
      rw [wd_nd hd, if_pos h3, if_pos rfl, if_pos (Or.inr h3)]
    · rw [hacc, X3_num h hpl h3, bdP_s, hmk]
      by_cases h0 : nd B len p = 0
      · rw [if_pos h0, X3_faultN, bdP_s, bdI_s]
        by_cases hw : wd B len p = 0
        · exact ⟨M, fun _ _ => rfl, by rw [if_pos hw, if_pos (Or.inl h0)]⟩
        · exact ⟨_, hmp (-1000000), by rw [if_neg hw, b51_bad i10, if_pos (Or.inl h0)]⟩
      · have hd : dig B len p = true := by
          cases hd : dig B len p with
          | true => rfl
          | false => exact absurd (nd_dig.mpr hd) h0
        rw [if_neg h0, X3_fault (nv_lt hd) hlo hhi, bdP_s, bdI_s, wd_nd hd, if_neg h3, if_neg h0]
        refine ⟨_, hmp (nI (nv B len p)), ?_⟩
        rw [if_neg (show ¬ (nd B len p = 0 ∨ nd B len p = 3) by omega)]
        by_cases hr : inR (nv B len p) lo hi = true
        · rw [if_pos hr, if_pos hr, b51_ok hx7, nI_add, n1a]
        · rw [if_neg hr, if_neg hr, b51_bad (show ¬ (2 : Int32) = 0 by decide)]
  · have hpe : p = len := by omega
    refine ⟨M, fun _ _ => rfl, ?_⟩
    have hd : dig B len p = false := by unfold dig; rw [decide_eq_false hpl]; rfl
    rw [cl_end h hpe, b91_n h hx, if_pos (Or.inl (nd_dig.mpr hd)), hpe]
theorem cl_lane {n : Nat} (h : TM M B len) (hp : p ≤ len) (ht : t ≤ p) (hn : M 134 3 = nI n) (hn7 : n < 7) : fX3_readInto_l11 (f + 1) 6 (nI p) (nI t) M = if nd B len p = 0 ∨ nd B len p = 3 then some (nI p, mp M 2 2 1) else if inR (nv B len p) 0 1 = true then fX3_readInto_l11 f 7 (nI (p + nd B len p)) (nI (t + 1)) (mp (mp M 136 n (nI (nv B len p))) 134 3 (nI (n + 1))) else some (nI p, mp M 2 2 2) := by
  have hl := h.2.1
  have hacc : ∀ w, fX3_accept 6 (nI p) w M = bdP (fX3_numberAt (nI p) w M) (fun r25 => bdI (fX3_acceptLane r25 M) (fun r27 M29 => some ((r27 : Int32), M29))) := fun w => by
    unfold fX3_accept
    rw [if_neg (by decide), if_neg (by decide), if_neg (by decide), if_neg (by decide), if_neg (by decide), if_neg (by decide), if_pos rfl]
  by_cases hpl : p < len
  · rw [cl_tok h hpl ht]
    by_cases h3 : nd B len p = 3
    · have hd : dig B len p = true := by
        cases hd : dig B len p with
        | true => rfl
        | false => rw [nd_dig.mpr hd] at h3; omega
      rw [wd_nd hd, if_pos h3, if_pos rfl, if_pos (Or.inr h3)]
    · rw [hacc, X3_num h hpl h3, bdP_s]
      by_cases h0 : nd B len p = 0
      · rw [if_pos h0, if_pos (Or.inl h0)]
        unfold fX3_acceptLane
        rw [X3_faultN, bdP_s, if_neg i10, bdI_s, bdI_s, b51_bad i10, ite_self]
      · have hd : dig B len p = true := by
          cases hd : dig B len p with
          | true => rfl
          | false => exact absurd (nd_dig.mpr hd) h0
        have c7 : ¬ (7 : Int32) ≤ nI n := nI_ge (b := 7) (by omega) (by omega)
        have hf := X3_fault (M := M) (lo := 0) (hi := 1) (nv_lt hd) (by omega) (by omega)
        have hf' : fX3_faultOfNumber (nI (nv B len p)) 0 1 M = _ := hf
        unfold fX3_acceptLane
        rw [if_neg h0, hf', bdP_s, wd_nd hd, if_neg h3, if_neg h0, if_neg (show ¬ (nd B len p = 0 ∨ nd B len p = 3) by omega)]
        by_cases hr : inR (nv B len p) 0 1 = true
        · have e1 : (mp M 136 n (nI (nv B len p))) 134 = M 134 := va_up_ne _ _ (by omega)
          rw [if_pos hr, if_pos hr, if_pos rfl, hn, if_neg c7, chk_of (bIn_n hn7 (by decide)), nc (by omega), bdI_s, bdI_s, b51_ok (by decide), nI_add, n1a, e1, hn, n1a]
          rfl
        · rw [if_neg hr, if_neg hr, if_neg (show ¬ (2 : Int32) = 0 by decide), bdI_s, bdI_s, b51_bad (show ¬ (2 : Int32) = 0 by decide)]
  · have hpe : p = len := by omega
    have hd : dig B len p = false := by unfold dig; rw [decide_eq_false hpl]; rfl
    rw [cl_end h hpe, b91_n h (by decide), if_pos (Or.inl (nd_dig.mpr hd)), hpe]
def kd (b : Nat) : Nat := if b = 115 then 1 else if b = 119 then 2 else if b = 114 then 3 else if b = 116 then 4 else if b = 99 then 5 else 0
theorem kd_5 (b : Nat) : kd b ≤ 5 := by unfold kd; split <;> (try split) <;> (try split) <;> (try split) <;> (try split) <;> omega
theorem kd_ltr {b : Nat} (h : ¬ kd b = 0) : ltr b = true := by
  unfold kd at h
  unfold ltr
  have : b = 115 ∨ b = 119 ∨ b = 114 ∨ b = 116 ∨ b = 99 := by
    split at h
    · omega
    · split at h
      · omega
      · split at h
        · omega
        · split at h
          · omega
          · split at h
            · omega
            · exact absurd rfl h
  rcases this with rfl | rfl | rfl | rfl | rfl <;> decide
theorem kd_all : ∀ b, b < 256 → fX3_kindOf (nI b) M = some (if kd b = 0 then -1000000 else nI (kd b)) := fun b hb => by
  unfold fX3_kindOf
  have e1 : (nI b = 99) = (b = 99) := neq (b := 99) (by omega) (by omega)
  have e2 : (nI b = 114) = (b = 114) := neq (b := 114) (by omega) (by omega)
  have e3 : (nI b = 115) = (b = 115) := neq (b := 115) (by omega) (by omega)
  have e4 : (nI b = 116) = (b = 116) := neq (b := 116) (by omega) (by omega)
  have e5 : (nI b = 119) = (b = 119) := neq (b := 119) (by omega) (by omega)
  simp only [e1, e2, e3, e4, e5]
  by_cases h1 : b = 99
  · subst h1; rfl
  · by_cases h2 : b = 114
    · subst h2; rfl
    · by_cases h3 : b = 115
      · subst h3; rfl
      · by_cases h4 : b = 116
        · subst h4; rfl
        · by_cases h5 : b = 119
          · subst h5; rfl
          · rw [if_neg h1, if_neg h2, if_neg h3, if_neg h4, if_neg h5]
            unfold kd
            rw [if_neg h3, if_neg h5, if_neg h2, if_neg h4, if_neg h1, if_pos rfl]
theorem X6_kb (hb : p < len → B p < 256) : fX6_kindBy (lt_ B len p) = some (nI (if p < len then kd (B p) else 0)) := by
  unfold fX6_kindBy lt_
  by_cases hl : p < len
  · have hb' := hb hl
    rw [if_pos hl, if_pos hl]
    have e1 : (nI (B p) = 99) = (B p = 99) := neq (b := 99) (by omega) (by omega)
    have e2 : (nI (B p) = 114) = (B p = 114) := neq (b := 114) (by omega) (by omega)
    have e3 : (nI (B p) = 115) = (B p = 115) := neq (b := 115) (by omega) (by omega)
    have e4 : (nI (B p) = 116) = (B p = 116) := neq (b := 116) (by omega) (by omega)
    have e5 : (nI (B p) = 119) = (B p = 119) := neq (b := 119) (by omega) (by omega)
    simp only [e1, e2, e3, e4, e5]
    unfold kd
    by_cases h3 : B p = 115
    · simp only [if_pos h3]; rfl
    · by_cases h5 : B p = 119
      · simp only [if_neg h3, if_pos h5]; rfl
      · by_cases h2 : B p = 114
        · simp only [if_neg h3, if_neg h5, if_pos h2]; rfl
        · by_cases h4 : B p = 116
          · simp only [if_neg h3, if_neg h5, if_neg h2, if_pos h4]; rfl
          · by_cases h1 : B p = 99
            · simp only [if_neg h3, if_neg h5, if_neg h2, if_neg h4, if_pos h1]; rfl
            · simp only [if_neg h3, if_neg h5, if_neg h2, if_neg h4, if_neg h1]; rfl
  · rw [if_neg hl, if_neg hl]
    decide
theorem cl_sort {n : Nat} (h : TM M B len) (hp : p < len) (ht : t ≤ p) (hn : M 134 3 = nI n) (hn7 : n ≤ 7) : fX3_readInto_l11 (f + 1) 5 (nI p) (nI t) M = if kd (B p) = 0 then some (nI p, mp M 2 2 1) else if n = 7 then some (nI p, mp M 2 2 3) else fX3_readInto_l11 f 6 (nI (p + 1)) (nI (t + 1)) (mp M 135 n (nI (kd (B p)))) := by
  have hl := h.2.1
  obtain ⟨e, hb⟩ := h.2.2 p hp
  have hacc : ∀ w, fX3_accept 5 (nI p) w M = bdI (fX3_acceptSort (nI p) M) (fun r21 M23 => some ((r21 : Int32), M23)) := fun w => by
    unfold fX3_accept
    rw [if_neg (by decide), if_neg (by decide), if_neg (by decide), if_neg (by decide), if_neg (by decide), if_pos rfl]
  rw [cl_tok h hp ht, hacc]
  unfold fX3_acceptSort
  rw [chk_of (bIn_n (show p < 90 by omega) (by decide)), nc (by omega), e, kd_all _ hb, bdP_s]
  by_cases hk : kd (B p) = 0
  · rw [if_pos hk, if_pos hk, if_pos rfl, bdI_s, bdI_s, b51_bad i10, ite_self]
  · have h5 := kd_5 (B p)
    rw [if_neg hk, if_neg hk, if_neg (oI_ne (by omega)), hn, wd_l (kd_ltr hk), if_neg (by omega)]
    by_cases h7 : n = 7
    · rw [if_neg (show ¬ nI n < 7 from fun hh => by have := (nI_ltI (b := 7) (by omega) (by omega)).mp hh; omega), if_pos h7, bdI_s, bdI_s, b51_bad (show ¬ (3 : Int32) = 0 by decide)]
    · rw [if_pos (show nI n < 7 from nI_lt (b := 7) (by omega) (by omega)), if_neg h7, chk_of (bIn_n (show n < 7 by omega) (by decide)), nc (by omega), bdI_s, bdI_s, b51_ok (by decide), nI_add, n1a]
      rfl
end CLS
