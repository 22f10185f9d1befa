/-! row, set, copy, drop -/
def hold (k : Nat) (i n : Int32) : Bool := decide (0 ≤ i.toInt ∧ 0 ≤ n.toInt ∧ i.toInt + n.toInt ≤ k)
theorem neg_iff {x : Int32} : x < 0 ↔ x.toInt < 0 := by
  rw [Int32.lt_iff_toInt_lt]
  have : (0 : Int32).toInt = 0 := by decide
  rw [this]
theorem X1_holds {M : Mem} {c k : Nat} {i n : Int32} (h : M c 3 = nI k) (hk : k ≤ 40) : fX1_holds c i n M = some (b2i (hold k i n)) := by
  unfold fX1_holds hold
  by_cases h1 : i < 0
  · rw [if_pos h1]
    have := neg_iff.mp h1
    rw [show decide (0 ≤ i.toInt ∧ 0 ≤ n.toInt ∧ i.toInt + n.toInt ≤ k) = false from decide_eq_false (by omega)]
    rfl
  · rw [if_neg h1]
    by_cases h2 : n < 0
    · rw [if_pos h2]
      have := neg_iff.mp h2
      rw [show decide (0 ≤ i.toInt ∧ 0 ≤ n.toInt ∧ i.toInt + n.toInt ≤ k) = false from decide_eq_false (by omega)]
      rfl
    · rw [if_neg h2, h]
      obtain ⟨a, ha, rfl⟩ := nI_of h1
      obtain ⟨b, hb, rfl⟩ := nI_of h2
      rw [nI_toInt ha, nI_toInt hb]
      by_cases h3 : nI k < nI a
      · rw [if_pos h3]
        have := (nI_ltI (by omega) ha).mp h3
        rw [decide_eq_false (by omega)]
        rfl
      · rw [if_neg h3]
        have h4 : ¬ k < a := fun z => h3 ((nI_ltI (by omega) ha).mpr z)
        rw [pk_sub (by omega)]
        by_cases h5 : nI (k - a) < nI b
        · rw [if_pos h5]
          have := (nI_ltI (by omega) hb).mp h5
          rw [decide_eq_false (by omega)]
          rfl
        · rw [if_neg h5]
          have h6 : ¬ k - a < b := fun z => h5 ((nI_ltI (by omega) hb).mpr z)
          rw [decide_eq_true (by omega)]
          rfl
theorem X6_lies {N : Mem} {q k : Nat} {i n : Int32} (hq : q < 8) (h : N 1 q = nI k) (hk : k ≤ 40) : fX6_lies (nI q) i n N = some (b2i (hold k i n)) := by
  unfold fX6_lies hold
  rw [chk_of (bIn_n hq (by decide)), chk_of (bIn_n hq (by decide)), nc (by omega), h]
  by_cases h1 : i < 0
  · rw [if_pos h1]
    have := neg_iff.mp h1
    rw [show decide (0 ≤ i.toInt ∧ 0 ≤ n.toInt ∧ i.toInt + n.toInt ≤ k) = false from decide_eq_false (by omega)]
    rfl
  · rw [if_neg h1]
    by_cases h2 : n < 0
    · rw [if_pos h2]
      have := neg_iff.mp h2
      rw [show decide (0 ≤ i.toInt ∧ 0 ≤ n.toInt ∧ i.toInt + n.toInt ≤ k) = false from decide_eq_false (by omega)]
      rfl
    · rw [if_neg h2]
      obtain ⟨a, ha, rfl⟩ := nI_of h1
      obtain ⟨b, hb, rfl⟩ := nI_of h2
      rw [nI_toInt ha, nI_toInt hb]
      by_cases h3 : nI k < nI b
      · rw [if_pos h3]
        have := (nI_ltI (by omega) hb).mp h3
        rw [decide_eq_false (by omega)]
        rfl
      · rw [if_neg h3]
        have h4 : ¬ k < b := fun z => h3 ((nI_ltI (by omega) hb).mpr z)
        rw [pk_sub (by omega)]
        by_cases h5 : nI (k - b) < nI a
        · rw [if_pos h5]
          have := (nI_ltI (by omega) ha).mp h5
          rw [decide_eq_false (by omega)]
          rfl
        · rw [if_neg h5]
          have h6 : ¬ k - b < a := fun z => h5 ((nI_ltI (by omega) ha).mpr z)
          rw [decide_eq_true (by omega)]
          rfl
theorem hold_n {k : Nat} {i n : Int32} (h : hold k i n = true) : ∃ a b, i = nI a ∧ n = nI b ∧ a + b ≤ k := by
  have h1 := of_decide_eq_true h
  have hi : ¬ i < 0 := fun z => by have := neg_iff.mp z; omega
  have hn : ¬ n < 0 := fun z => by have := neg_iff.mp z; omega
  obtain ⟨a, ha, rfl⟩ := nI_of hi
  obtain ⟨b, hb, rfl⟩ := nI_of hn
  rw [nI_toInt ha, nI_toInt hb] at h1
  exact ⟨a, b, rfl, rfl, by omega⟩
theorem mp_s {M : Mem} {c k : Nat} {v : Int32} : mp M c k v c k = v := by rw [mp_at, va_up_self, upd_s]
theorem mp_k {M : Mem} {c k j : Nat} {v : Int32} (h : j ≠ k) : mp M c k v c j = M c j := by rw [mp_at, va_up_self, upd_n _ _ h]
/-! findings -/
theorem X6_ends_1 (N : Mem) : fX6_ends (-1000011) N = some (-1000011, mp N 0 4 1) := by
  unfold fX6_ends
  rw [X6_inB, bdP_s, show inB (-1000011) (-1000015) (-1000011) = true by decide, b2i_t, if_neg i10]
  rfl
theorem X6_ends_2 (N : Mem) : fX6_ends (-1000012) N = some (-1000012, mp N 0 4 2) := by
  unfold fX6_ends
  rw [X6_inB, bdP_s, show inB (-1000012) (-1000015) (-1000011) = true by decide, b2i_t, if_neg i10]
  rfl
theorem X6_ends_3 (N : Mem) : fX6_ends (-1000013) N = some (-1000013, mp N 0 4 3) := by
  unfold fX6_ends
  rw [X6_inB, bdP_s, show inB (-1000013) (-1000015) (-1000011) = true by decide, b2i_t, if_neg i10]
  rfl
theorem X6_ends_4 (N : Mem) : fX6_ends (-1000014) N = some (-1000014, mp N 0 4 4) := by
  unfold fX6_ends
  rw [X6_inB, bdP_s, show inB (-1000014) (-1000015) (-1000011) = true by decide, b2i_t, if_neg i10]
  rfl
theorem X6_ends_5 (N : Mem) : fX6_ends (-1000015) N = some (-1000015, mp N 0 4 5) := by
  unfold fX6_ends
  rw [X6_inB, bdP_s, show inB (-1000015) (-1000015) (-1000011) = true by decide, b2i_t, if_neg i10]
  rfl
theorem X6_ends_n (N : Mem) {j : Nat} (hj : j < 2 ^ 31) : fX6_ends (nI j) N = some (nI j, mp N 0 4 0) := by
  unfold fX6_ends
  have h : (-1000011 : Int32) < nI j := by
    refine i32_lt_of_toInt ?_
    rw [nI_toInt hj]
    have : (-1000011 : Int32).toInt = -1000011 := by decide
    omega
  rw [X6_inB, bdP_s, show inB (nI j) (-1000015) (-1000011) = false by unfold inB; simp [h], b2i_f, if_pos rfl]
theorem X5_found (k : Int32) (M : Mem) : fX5_found k M = some (-1000010 - k, mp M 0 10 k) := rfl
theorem X5_fine (v : Int32) (M : Mem) : fX5_fine v M = some (v, mp M 0 10 0) := rfl
theorem rowR_c {o it : Nat → Int32} {size width : Int32} {items items' : Nat → Int32} (h : rowR o it size width items) (hi : ∀ k, k < 40 → items' k = items k) : rowR o it size width items' := by
  rcases h with h | ⟨h1, h2, h3, h4, h5, h6⟩
  · exact Or.inl h
  · exact Or.inr ⟨h1, h2, h3, h4, h5, fun k hk => by rw [hi k hk]; exact h6 k hk⟩
/-- one row is another, and the finding -/
theorem RR.row {M M' N N' : Mem} {q : Nat} (h : RR M N) (hM : ∀ c, c ≠ 0 → c ≠ 142 + 2 * q → c ≠ 142 + 2 * q + 1 → M' c = M c) (hN : ∀ c, c ≠ 0 → c ≠ 1 → c ≠ 2 → c ≠ 3 → c ≠ 4 → N' c = N c) (hN0 : ∀ k, k < 18 → k ≠ 4 → N' 0 k = N 0 k) (hf : M' 0 10 = N' 0 4) (hq : q < 8)
    (ho : ∀ j, j < 8 → j ≠ q → N' 1 j = N 1 j ∧ N' 2 j = N 2 j ∧ ∀ k, k < 40 → N' 3 (40 * j + k) = N 3 (40 * j + k)) (hr : rowR (M' (142 + 2 * q)) (M' (142 + 2 * q + 1)) (N' 1 q) (N' 2 q) (fun k => N' 3 (40 * q + k))) : RR M' N' := by
  obtain ⟨h1, h2, h3, h4, h5, h6, h7⟩ := h
  refine ⟨RRa_c (fun i _ _ => hM i (by omega) (by omega) (by omega)) (hN 6 (by omega) (by omega) (by omega) (by omega) (by omega)) (hN 10 (by omega) (by omega) (by omega) (by omega) (by omega)) (hN0 13 (by omega) (by omega)) h1, ?_, ?_, hf, fun j hj => ?_, RRe_c (fun i _ _ => hM i (by omega) (by omega) (by omega)) (hN 8 (by omega) (by omega) (by omega) (by omega) (by omega)) (hN 9 (by omega) (by omega) (by omega) (by omega) (by omega)) h6, ?_⟩
  · rw [hM 2 (by omega) (by omega) (by omega), hM 3 (by omega) (by omega) (by omega), hN0 6 (by omega) (by omega), hN 5 (by omega) (by omega) (by omega) (by omega) (by omega)]; exact h2
  · rw [hM 2 (by omega) (by omega) (by omega), hN0 7 (by omega) (by omega)]; exact h3
  · by_cases hjq : j = q
    · subst hjq; exact hr
    · obtain ⟨o1, o2, o3⟩ := ho j hj hjq
      rw [hM (142 + 2 * j) (by omega) (by omega) (by omega), hM (142 + 2 * j + 1) (by omega) (by omega) (by omega), o1, o2]
      exact rowR_c (h5 j hj) o3
  · rw [hM 132 (by omega) (by omega) (by omega), hM 133 (by omega) (by omega) (by omega), hN0 17 (by omega) (by omega), hN 13 (by omega) (by omega) (by omega) (by omega) (by omega)]; exact h7
/-- the finding alone -/
theorem RR.fin {M N : Mem} (h : RR M N) (v : Int32) : RR (mp M 0 10 v) (mp N 0 4 v) :=
  h.row (q := 0) (fun c h0 _ _ => va_ne h0) (fun c h0 _ _ _ _ => va_ne h0) (fun k _ h4 => by rw [mp_at, va_up_self, upd_n _ _ h4]) (mp_s.trans mp_s.symm) (by omega) (fun j _ _ => ⟨rfl, rfl, fun _ _ => rfl⟩) (h.2.2.2.2.1 0 (by omega))
theorem neg1 {q : Nat} : ((0 : Int32) ≤ -1) = False := by simp
theorem rowR_m {o it : Nat → Int32} {size width : Int32} {items : Nat → Int32} (h : rowR o it size width items) : (o 1 = 1 ∧ size = -1) ∨ (o 1 = 0 ∧ 0 ≤ size) := by
  rcases h with h | ⟨h1, -, -, ⟨k, hk, h4⟩, -⟩
  · exact Or.inl h
  · exact Or.inr ⟨h1, by rw [h4]; exact nI_pos' (by omega)⟩
theorem q_drop (x : Int32) : EqI (fX5_drop x) (fX6_drop x) := fun M N h => by
  unfold fX5_drop fX6_drop
  simp only [X5_noRow, X6_isRow, bdP_s, X5_found, X5_fine, X6_ends_1, bdI_s]
  by_cases hb : inB x 0 7 = true
  · obtain ⟨q, hq, rfl⟩ := inB_n (k := 7) (by decide) hb
    simp only [hb, Bool.not_true, Bool.not_false, b2i_f, b2i_t, i10, eq_self, if_true, if_false, chk_of (bIn_n (show q < 8 by omega) (by decide)), nc (show q < 2 ^ 31 by omega)]
    rcases h.2.2.2.2.1 q (by omega) with ⟨e1, e2⟩ | ⟨e1, e2, e3, ⟨k, hk, e4⟩, e5, e6⟩
    · rw [e1, e2, if_neg i10, if_neg (by decide)]
      exact ⟨_, _, _, rfl, rfl, h.fin 1⟩
    · rw [e1, if_pos rfl, e4, if_pos (nI_pos' (by omega)), X6_ends_n _ (show k < 2 ^ 31 by omega)]
      refine ⟨nI k, mp (mp M (142 + 2 * q) 1 1) 0 10 0, mp (mp N 1 q (-1)) 0 4 0, ?_, by rw [bdI_s], ?_⟩
      · rw [show mp M (142 + 2 * q) 1 1 (142 + 2 * q) 3 = nI k by rw [mp_at, va_up_self, upd_n _ _ (by omega), e2, e4]]
      · refine h.row (q := q) (fun c h0 h1 _ => by rw [va_ne h0]; exact va_up_ne _ _ h1) (fun c h0 h1 _ _ _ => by rw [va_ne h0, va_ne h1]) (fun k _ h4 => by rw [mp_at, va_up_self, upd_n _ _ h4]; rfl) (mp_s.trans mp_s.symm) (by omega) (fun j _ hj => ⟨?_, rfl, fun _ _ => rfl⟩) (Or.inl ⟨?_, ?_⟩)
        · show upd (N 1) q (-1) j = N 1 j
          exact upd_n _ _ hj
        · rw [va_ne (by omega), mp_s]
        · show upd (N 1) q (-1) q = -1
          exact upd_s _ _ _
  · rw [Bool.not_eq_true] at hb
    simp only [hb, Bool.not_true, Bool.not_false, b2i_f, b2i_t, i10, eq_self, if_true, if_false]
    exact ⟨_, M, N, rfl, rfl, h⟩
theorem nI_40 {q a : Nat} : ((40 : Int32) * nI q) + nI a = nI (40 * q + a) := by
  rw [show (40 : Int32) * nI q = nI (40 * q) from pk_mul 40 q, nI_add]
theorem q_set (x y z : Int32) : EqI (fX5_set x y z) (fX6_set x y z) := fun M N h => by
  unfold fX5_set fX6_set
  simp only [X5_noRow, X6_isRow, bdP_s, X5_found, X5_fine, X6_ends_1, X6_ends_2, bdI_s]
  by_cases hb : inB x 0 7 = true
  · obtain ⟨q, hq, rfl⟩ := inB_n (k := 7) (by decide) hb
    simp only [hb, Bool.not_true, Bool.not_false, b2i_f, b2i_t, i10, eq_self, if_true, if_false, chk_of (bIn_n (show q < 8 by omega) (by decide)), nc (show q < 2 ^ 31 by omega)]
    rcases h.2.2.2.2.1 q (by omega) with ⟨e1, e2⟩ | ⟨e1, e2, e3, ⟨k, hk, e4⟩, e5, e6⟩
    · rw [e1, e2, if_neg i10, if_neg (by decide)]
      exact ⟨_, _, _, rfl, rfl, h.fin 1⟩
    · rw [e1, if_pos rfl, if_pos (by rw [e4]; exact nI_pos' (by omega)), X1_holds (e2.trans e4) hk, X6_lies (by omega) e4 hk]
      simp only [bdP_s]
      by_cases hh : hold k y 1 = true
      · obtain ⟨a, b, rfl, hb1, hab⟩ := hold_n hh
        have hb' : b = 1 := by
          have h1 : (1 : Int32) = nI 1 := rfl
          rw [h1] at hb1
          have := congrArg Int32.toNatClampNeg hb1
          rw [nc (by decide)] at this
          by_cases hbig : b < 2 ^ 31
          · rw [nc hbig] at this; omega
          · omega
        have ha : a < 40 := by omega
        rw [hh, b2i_t, if_neg i10, if_neg i10]
        have hcut : fX1_cut (142 + 2 * q) z M = fX6_cut (N 2 q) z := by unfold fX1_cut fX6_cut; rw [e3]
        rw [hcut]
        obtain ⟨v, hv⟩ : ∃ v, fX6_cut (N 2 q) z = some v := by
          unfold fX6_cut
          split
          · exact ⟨_, rfl⟩
          · split
            · exact ⟨_, rfl⟩
            · exact ⟨_, rfl⟩
        rw [hv]
        simp only [bdP_s, nI_40, chk_of (bIn_n ha (by decide)), chk_of (bIn_n (show 40 * q + a < 320 by omega) (by decide)), nc (show a < 2 ^ 31 by omega), nc (show 40 * q + a < 2 ^ 31 by omega)]
        refine ⟨v, mp (mp M (142 + 2 * q + 1) a v) 0 10 0, mp (mp N 3 (40 * q + a) v) 0 4 0, ?_, rfl, ?_⟩
        · rw [show mp M (142 + 2 * q + 1) a v (142 + 2 * q + 1) a = v by rw [mp_at, va_up_self, upd_s]]
        · refine h.row (q := q) (fun c h0 _ h1 => by rw [va_ne h0]; exact va_up_ne _ _ h1) (fun c h0 _ _ h3 _ => by rw [va_ne h0, va_ne h3]) (fun k _ h4 => by rw [mp_at, va_up_self, upd_n _ _ h4]; rfl) (mp_s.trans mp_s.symm) (by omega) (fun j _ hj => ⟨rfl, rfl, fun k hk => ?_⟩) (Or.inr ⟨?_, ?_, ?_, ⟨k, hk, e4⟩, e5, fun k' hk' => ?_⟩)
          · show upd (N 3) (40 * q + a) v (40 * j + k) = N 3 (40 * j + k)
            exact upd_n _ _ (by omega)
          · rw [va_ne (by omega), va_ne (by omega)]; exact e1
          · rw [va_ne (by omega), va_ne (by omega)]; exact e2
          · rw [va_ne (by omega), va_ne (by omega)]; exact e3
          · rw [va_ne (by omega), mp_at, va_up_self]
            show upd (M (142 + 2 * q + 1)) a v k' = upd (N 3) (40 * q + a) v (40 * q + k')
            by_cases hka : k' = a
            · subst hka; rw [upd_s, upd_s]
            · rw [upd_n _ _ hka, upd_n _ _ (by omega)]; exact e6 k' hk'
      · rw [Bool.not_eq_true] at hh
        rw [hh, b2i_f, if_pos rfl, if_pos rfl]
        exact ⟨_, _, _, rfl, rfl, h.fin 2⟩
  · rw [Bool.not_eq_true] at hb
    simp only [hb, Bool.not_true, Bool.not_false, b2i_f, b2i_t, i10, eq_self, if_true, if_false]
    exact ⟨_, M, N, rfl, rfl, h⟩
