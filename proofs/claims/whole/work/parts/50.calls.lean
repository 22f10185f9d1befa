/-! the parts of the relation, each by the cells that it reads -/
theorem RRa_c {M M' N N' : Mem} (hM : ∀ i, 4 ≤ i → i < 131 → M' i = M i) (h6 : N' 6 = N 6) (h10 : N' 10 = N 10) (h13 : N' 0 13 = N 0 13) (h : ∃ n s, RS (gS M 4) (N 6) n s ∧ actsR M N n s) : ∃ n s, RS (gS M' 4) (N' 6) n s ∧ actsR M' N' n s := by
  obtain ⟨n, s, h1, ⟨k, x, a1, a2, a3, a4, a5, a6⟩⟩ := h
  have RSg : ∀ c row, 4 ≤ c → c + 4 < 131 → RS (gS M c) row n s → RS (gS M' c) row n s := fun c row h0 hc h => h.congr (fun k _ => by
    show M' (c + 0) k = M (c + 0) k
    rw [hM _ (by omega) (by omega)]) (fun i r _ _ _ => by
    show M' (c + i) r = M (c + i) r
    rw [hM _ (by omega) (by omega)]) (fun _ _ => rfl)
  refine ⟨n, s, by rw [h6]; exact RSg 4 _ (by omega) (by omega) h1, k, x, a1, a2, by rw [hM 9 (by omega) (by omega)]; exact a3, by rw [hM 9 (by omega) (by omega)]; exact a4, by rw [h13]; exact a5, fun j hj => ?_⟩
  have e : pastR N' (k - 1 - j) = pastR N (k - 1 - j) := by unfold pastR; rw [h6, h10]
  rw [e]
  have : (x + 23 - j) % 24 < 24 := Nat.mod_lt _ (by omega)
  exact RSg _ _ (by omega) (by omega) (a6 j hj)
theorem RRd_c {M M' N N' : Mem} (hM : ∀ i, 142 ≤ i → i < 158 → M' i = M i) (h1 : N' 1 = N 1) (h2 : N' 2 = N 2) (h3 : N' 3 = N 3) (h : ∀ i, i < 8 → rowR (M (142 + 2 * i)) (M (142 + 2 * i + 1)) (N 1 i) (N 2 i) (fun k => N 3 (40 * i + k))) : ∀ i, i < 8 → rowR (M' (142 + 2 * i)) (M' (142 + 2 * i + 1)) (N' 1 i) (N' 2 i) (fun k => N' 3 (40 * i + k)) := fun i hi => by
  rw [hM (142 + 2 * i) (by omega) (by omega), hM (142 + 2 * i + 1) (by omega) (by omega), h1, h2, h3]
  exact h i hi
theorem RRe_c {M M' N N' : Mem} (hM : ∀ i, 158 ≤ i → i < 168 → M' i = M i) (h8 : N' 8 = N 8) (h9 : N' 9 = N 9) (h : ∀ i, i < 2 → imgR (gS M (158 + 5 * i)) (fun k => N 8 (25 * i + k)) (N 9 i)) : ∀ i, i < 2 → imgR (gS M' (158 + 5 * i)) (fun k => N' 8 (25 * i + k)) (N' 9 i) := fun i hi => by
  rw [h8, h9]
  rcases h i hi with h | ⟨e, n, s, h0, h⟩
  · refine Or.inl ⟨?_, h.2⟩
    show M' (158 + 5 * i + 0) 3 = 0
    rw [hM _ (by omega) (by omega)]
    exact h.1
  · refine Or.inr ⟨e, n, s, h0, h.congr (fun k _ => ?_) (fun j r _ _ _ => ?_) (fun _ _ => rfl)⟩
    · show M' (158 + 5 * i + 0) k = M (158 + 5 * i + 0) k
      rw [hM _ (by omega) (by omega)]
    · show M' (158 + 5 * i + j) r = M (158 + 5 * i + j) r
      rw [hM _ (by omega) (by omega)]
/-! guards -/
def inB (x lo hi : Int32) : Bool := !decide (x < lo) && !decide (hi < x)
theorem X5_outside {x lo hi : Int32} : fX5_outside x lo hi = some (b2i (!inB x lo hi)) := by
  unfold fX5_outside inB
  by_cases h1 : x < lo <;> by_cases h2 : hi < x
  · simp [h1, b2i]
  · simp [h1, b2i]
  · have h3 : ¬ x ≤ hi := Int32.not_le.mpr h2
    simp [h1, h2, h3, b2i]
  · have h3 : x ≤ hi := Int32.not_lt.mp h2
    simp [h1, h2, h3, b2i]
theorem X6_inB {x lo hi : Int32} : fX6_in x lo hi = some (b2i (inB x lo hi)) := X6_in
theorem X5_noRow {x : Int32} : fX5_noRow x = some (b2i (!inB x 0 7)) := by
  simp only [fX5_noRow, X5_outside, bdP_s, chk_of (b2i_01 _)]
theorem X6_isRow {x : Int32} : fX6_isRow x = some (b2i (inB x 0 7)) := by
  simp only [fX6_isRow, X6_inB, bdP_s, chk_of (b2i_01 _)]
theorem inB_n {x : Int32} {k : Nat} (hk : k < 2 ^ 31) (h : inB x 0 (nI k) = true) : ∃ j, j ≤ k ∧ x = nI j := by
  unfold inB at h
  simp only [Bool.and_eq_true, Bool.not_eq_true', decide_eq_false_iff_not] at h
  exact nI_of2 (nI_toInt hk) h.1 (Int32.not_lt.mp h.2)
theorem inB_r {x : Int32} {n : Nat} (hn : n ≤ 90) (h : inB x 0 (nI n - 1) = true) : ∃ j, j < n ∧ x = nI j := by
  unfold inB at h
  simp only [Bool.and_eq_true, Bool.not_eq_true', decide_eq_false_iff_not] at h
  have h1 : (nI n - 1).toInt = (n : Int) - 1 := pk_sub_toInt (a := n) (b := 1) (by omega) (by omega)
  have h2 := h.2
  rw [Int32.lt_iff_toInt_lt, h1] at h2
  obtain ⟨j, hj, rfl⟩ := nI_of h.1
  rw [nI_toInt hj] at h2
  exact ⟨j, by omega, rfl⟩
theorem bn_f {b : Bool} : (b2i (!b) = 0) = (b = true) := by cases b <;> decide
theorem b_f {b : Bool} : (b2i b = 0) = (b = false) := by cases b <;> decide
theorem X5_noRider {M : Mem} {n : Nat} {x : Int32} (h : M 4 3 = nI n) : fX5_noRider x M = some (b2i (!inB x 0 (nI n - 1))) := by
  simp only [fX5_noRider, h, X5_outside, bdP_s, chk_of (b2i_01 _)]
theorem X6_isRider {N : Mem} {n : Nat} {x : Int32} (h : N 6 17 = nI n) : fX6_isRider x N = some (b2i (inB x 0 (nI n - 1))) := by
  simp only [fX6_isRider, chk_of q17, c17, h, X6_inB, bdP_s, chk_of (b2i_01 _)]
theorem X5_noStair {M : Mem} {n : Nat} (h : M 4 3 = nI n) (hn : n ≤ 7) : fX5_noStair M = some (b2i (decide (n = 0))) := by
  have e : (nI n = 0) = (n = 0) := propext (nI_eq (b := 0) (by omega) (by omega))
  simp only [fX5_noStair, h, e]
  by_cases h0 : n = 0 <;> simp [h0, b2i]
theorem X6_isStair {N : Mem} {n : Nat} (h : N 6 17 = nI n) (hn : n ≤ 7) : fX6_isStair N = some (b2i (!decide (n = 0))) := by
  have e : (nI n ≤ 0) = (n = 0) := propext ((nI_leI (b := 0) (by omega) (by omega)).trans ⟨fun h => by omega, fun h => by omega⟩)
  simp only [fX6_isStair, chk_of q17, c17, h, e]
  by_cases h0 : n = 0 <;> simp [h0, b2i]
/-! status, fault, trace, kind -/
def EqI (f h : Mem → Option (Int32 × Mem)) : Prop := ∀ M N, RR M N → ∃ r M' N', f M = some (r, M') ∧ h N = some (r, N') ∧ RR M' N'
def EqP (f h : Mem → Option Int32) : Prop := ∀ M N, RR M N → ∃ r, f M = some r ∧ h N = some r
theorem q_status : EqP fX5_status fX6_status := fun M N h => ⟨_, rfl, by unfold fX6_status; rw [h.2.2.2.1]⟩
theorem q_fault : EqP fX5_fault fX6_fault := fun M N h => ⟨_, rfl, by unfold fX6_fault; rw [h.2.2.1]⟩
theorem q_trace (x : Int32) : EqP (fX5_trace x) (fX6_trace x) := fun M N h => by
  obtain ⟨k, hk, e1, e2, e3⟩ := h.2.2.2.2.2.2
  unfold fX5_trace fX6_trace
  simp only [e1, e2, X5_outside, X6_inB, bdP_s]
  by_cases hb : inB x 0 (nI k - 1) = true
  · obtain ⟨j, hj, rfl⟩ := inB_r (by omega) hb
    simp only [hb, Bool.not_true, Bool.not_false, b2i_f, b2i_t, i10, eq_self, if_true, if_false]
    refine ⟨M 133 j, ?_, ?_⟩
    · rw [chk_of (bIn_n (by omega) (by decide)), nc (by omega)]
    · rw [chk_of (bIn_n (by omega) (by decide)), nc (by omega), e3 j hj]
  · rw [Bool.not_eq_true] at hb
    simp only [hb, Bool.not_true, Bool.not_false, b2i_f, b2i_t, i10, eq_self, if_true, if_false]
    exact ⟨_, rfl, rfl⟩
theorem q_kind (x : Int32) : EqP (fX5_kind x) (fX6_kind x) := fun M N h => by
  obtain ⟨⟨n, s, hR, -⟩, -⟩ := h
  unfold fX5_kind fX6_kind
  have e1 : M 4 3 = nI n := hR.1.1
  simp only [X5_noRider e1, X6_isRider hR.1.2.1, bdP_s]
  have hn := hR.1.2.2
  by_cases hb : inB x 0 (nI n - 1) = true
  · obtain ⟨j, hj, rfl⟩ := inB_r (by omega) hb
    simp only [hb, Bool.not_true, Bool.not_false, b2i_f, b2i_t, i10, eq_self, if_true, if_false]
    refine ⟨M 5 j, ?_, ?_⟩
    · rw [chk_of (bIn_n (by omega) (by decide)), nc (by omega)]
    · rw [n18a, chk_of (bIn_n (by omega) (by decide)), nc (by omega)]
      exact congrArg some (hR.2.2.2.2 j hj).1.1.symm
  · rw [Bool.not_eq_true] at hb
    simp only [hb, Bool.not_true, Bool.not_false, b2i_f, b2i_t, i10, eq_self, if_true, if_false]
    exact ⟨_, rfl, rfl⟩
/-! feed -/
theorem va_ne {M : Mem} {c i k : Nat} {v : Int32} (h : i ≠ c) : mp M c k v i = M i := va_up_ne _ _ h
theorem q_feed (x : Int32) : EqI (fX5_feed x) (fX6_feed x) := fun M N h => by
  obtain ⟨h1, ⟨k, hk, e1, e2, e3⟩, h3, h4, h5, h6, h7⟩ := id h
  unfold fX5_feed fX6_feed
  simp only [X5_outside, X6_inB, bdP_s]
  by_cases hb : inB x 0 255 = true
  · obtain ⟨b, hb255, rfl⟩ := inB_n (k := 255) (by decide) hb
    simp only [hb, Bool.not_true, Bool.not_false, b2i_f, b2i_t, i10, eq_self, if_true, if_false]
    rw [e1, e2]
    have c90 : (nI k = 90) = (k = 90) := propext (nI_eq (b := 90) (by omega) (by omega))
    by_cases hf : k = 90
    · subst hf
      refine ⟨_, M, N, if_neg (by decide), ?_, h⟩
      rw [if_pos (by decide)]
    · have hlt : nI k < 90 := nI_lt (b := 90) (by omega) (by omega)
      have hle : ¬ (90 : Int32) ≤ nI k := Int32.not_le.mpr hlt
      refine ⟨nI (k + 1), mp (mp M 3 k (nI b)) 2 1 (nI (k + 1)), mp (mp N 5 k (nI b)) 0 6 (nI (k + 1)), ?_, ?_, ?_⟩
      · rw [if_pos hlt]
        simp only [fX3_append, e1, if_neg hle, chk_of (bIn_n (show k < 90 by omega) (by decide)), nc (show k < 2 ^ 31 by omega), bdV_s]
        have e : mp M 3 k (nI b) 2 1 = nI k := e1
        rw [e, n1a]
        rfl
      · have z : ¬ nI k = 90 := by rw [c90]; exact hf
        rw [if_neg z, chk_of (bIn_n (show k < 90 by omega) (by decide)), nc (show k < 2 ^ 31 by omega)]
        have e : mp N 5 k (nI b) 0 6 = nI k := e2
        rw [e, n1a]
        rfl
      · refine ⟨RRa_c (fun i _ _ => by rw [va_ne (by omega), va_ne (by omega)]) rfl rfl rfl h1, ⟨k + 1, by omega, rfl, rfl, fun j hj => ?_⟩, h3, h4, RRd_c (fun i _ _ => by rw [va_ne (by omega), va_ne (by omega)]) rfl rfl rfl h5, RRe_c (fun i _ _ => by rw [va_ne (by omega), va_ne (by omega)]) rfl rfl h6, h7⟩
        show upd (M 3) k (nI b) j = upd (N 5) k (nI b) j ∧ ∃ x, x < 256 ∧ upd (M 3) k (nI b) j = nI x
        by_cases hjk : j = k
        · subst hjk; rw [upd_s, upd_s]; exact ⟨rfl, b, by omega, rfl⟩
        · rw [upd_n _ _ hjk, upd_n _ _ hjk]; exact e3 j (by omega)
  · rw [Bool.not_eq_true] at hb
    simp only [hb, Bool.not_true, Bool.not_false, b2i_f, b2i_t, i10, eq_self, if_true, if_false]
    exact ⟨_, M, N, rfl, rfl, h⟩
