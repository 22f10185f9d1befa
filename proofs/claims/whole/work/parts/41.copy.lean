/-! copies of stairs -/
theorem c7_ : Int32.toNatClampNeg 7 = 7 := by decide
theorem cpy7 {f h : Nat → Int32} {r : Nat} (hr : r < 7) : va_cpy f h 0 0 7 r = f r := by
  rw [pk_cpy_in (by omega) (by omega)]
  congr 1
  omega
theorem X2_become {c d : Nat} (M : Mem) (hd : c + 4 < d ∨ d + 4 < c) : ∃ M', fX2_become c d M = some M' ∧ (∀ i, i ≠ c → i ≠ c + 1 → i ≠ c + 2 → i ≠ c + 3 → M' i = M i) ∧ (∀ k, k < 4 → M' c k = M d k) ∧ (∀ i r, 1 ≤ i → i ≤ 3 → r < 7 → M' (c + i) r = M (d + i) r) := by
  unfold fX2_become
  rw [chk_of (by decide), chk_of (by decide), chk_of (by decide), c0_, c7_]
  have d0 : d ≠ c := by omega
  have d1 : d + 1 ≠ c := by omega
  have d2 : d + 2 ≠ c := by omega
  have d21 : d + 2 ≠ c + 1 := by omega
  have d3 : d + 3 ≠ c := by omega
  have d31 : d + 3 ≠ c + 1 := by omega
  have d32 : d + 3 ≠ c + 2 := by omega
  refine ⟨_, rfl, fun i h0 h1 h2 h3 => ?_, fun k hk => ?_, fun i r h1 h3 hr => ?_⟩
  · simp only [mp_at, va_up_ne _ _ h3, va_up_ne _ _ h2, va_up_ne _ _ h1, va_up_ne _ _ h0]
  · simp only [mp_at, va_up_ne _ _ (show c ≠ c + 3 by omega), va_up_ne _ _ (show c ≠ c + 2 by omega), va_up_ne _ _ (show c ≠ c + 1 by omega), va_up_self, va_up_ne _ _ d0]
    have : k = 0 ∨ k = 1 ∨ k = 2 ∨ k = 3 := by omega
    rcases this with rfl | rfl | rfl | rfl <;> simp [upd]
  · have : i = 1 ∨ i = 2 ∨ i = 3 := by omega
    rcases this with rfl | rfl | rfl
    · simp only [mp_at, va_up_ne _ _ (show c + 1 ≠ c + 3 by omega), va_up_ne _ _ (show c + 1 ≠ c + 2 by omega), va_up_self, cpy7 hr, va_up_ne _ _ d1]
    · simp only [mp_at, va_up_ne _ _ (show c + 2 ≠ c + 3 by omega), va_up_self, cpy7 hr, va_up_ne _ _ d21, va_up_ne _ _ d2]
    · simp only [mp_at, va_up_self, cpy7 hr, va_up_ne _ _ d32, va_up_ne _ _ d31, va_up_ne _ _ d3]
/-- a stair that became another says what that one says -/
theorem RS.become {c d : Nat} {M M' : Mem} {row : Nat → Int32} {n s : Nat} (h : RS (gS M d) row n s) (h2 : ∀ k, k < 4 → M' c k = M d k) (h3 : ∀ i r, 1 ≤ i → i ≤ 3 → r < 7 → M' (c + i) r = M (d + i) r) : RS (gS M' c) row n s := h.congr h2 h3 (fun _ _ => rfl)
theorem gS_mp {M : Mem} {c i k : Nat} {v : Int32} : gS (mp M (c + i) k v) c = mp (gS M c) i k v := by
  funext j
  show va_up M (c + i) (upd (M (c + i)) k v) (c + j) = va_up (gS M c) i (upd (gS M c i) k v) j
  by_cases h : j = i
  · subst h; rw [va_up_self, va_up_self]; rfl
  · rw [va_up_ne _ _ h, va_up_ne _ _ (by omega)]; rfl
theorem RS.pS {M m : Mem} {c : Nat} {row : Nat → Int32} {n s : Nat} (h : RS m row n s) : RS (gS (pS M c m) c) row n s := h.congr (fun k _ => by rw [gS_pS 0 (by omega)]) (fun i r _ _ _ => by rw [gS_pS i (by omega)]) (fun _ _ => rfl)
theorem pS_out {M m : Mem} {c i : Nat} (h : i < c ∨ c + 5 ≤ i) : pS M c m i = M i := by
  unfold pS
  rw [if_neg (by omega)]
theorem kpM_pS {M m : Mem} {c : Nat} (h : 134 ≤ c ∧ c + 5 ≤ 142 ∨ 168 ≤ c) : kpM M (pS M c m) := fun i hi => pS_out (by omega)
theorem kpM_mp {M : Mem} {c k : Nat} {v : Int32} (h : 134 ≤ c ∧ c < 142 ∨ 168 ≤ c) : kpM M (mp M c k v) := fun i hi => va_up_ne _ _ (by omega)
theorem kpM_become {c : Nat} {M M' : Mem} (h : 134 ≤ c ∧ c + 5 ≤ 142 ∨ 168 ≤ c) (h1 : ∀ i, i ≠ c → i ≠ c + 1 → i ≠ c + 2 → i ≠ c + 3 → M' i = M i) : kpM M M' := fun i hi => h1 i (by omega) (by omega) (by omega) (by omega)
theorem kpN_TT {N : Mem} {row w : Nat → Int32} : kpN N (TT N 11 row w) := ⟨fun i _ _ _ h1 h2 => by unfold TT; rw [va_up_ne _ _ h2, va_up_ne _ _ h1], fun k _ => by unfold TT; rw [va_up_ne _ _ (by omega), va_up_ne _ _ (by omega)]⟩
theorem kpN_mp {N : Mem} {k : Nat} {v : Int32} : kpN N (mp N 11 k v) := ⟨fun i _ _ _ h1 _ => va_up_ne _ _ h1, fun k _ => by rw [mp_at, va_up_ne _ _ (by omega)]⟩
/-- the reference's copy -/
theorem X6_starts_l {N : Mem} : ∀ (k fu i : Nat) (w : Nat → Int32), i + k = 25 → k < fu → (∀ j, j < i → w j = N 6 j) → ∃ w', fX6_starts_l2 fu (nI i) (va_up N 11 w) = some (va_up N 11 w') ∧ ∀ j, j < 25 → w' j = N 6 j := by
  intro k
  induction k with
  | zero =>
    intro fu i w hi hf hw
    obtain ⟨f, rfl, -⟩ := fs hf
    have cc : (25 : Int32) ≤ nI i := nI_le (a := 25) (by omega) (by omega)
    refine ⟨w, ?_, fun j hj => hw j (by omega)⟩
    simp only [fX6_starts_l2, fX6_starts_b2, if_pos cc]
  | succ k ih =>
    intro fu i w hi hf hw
    obtain ⟨f, rfl, hf'⟩ := fs hf
    have cc : ¬ (25 : Int32) ≤ nI i := nI_ge (b := 25) (by omega) (by omega)
    obtain ⟨w', g, a⟩ := ih f (i + 1) (upd w i (N 6 i)) (by omega) (by omega) (fun j hj => by
      by_cases h : j = i
      · subst h; rw [upd_s]
      · rw [upd_n _ _ h]; exact hw j (by omega))
    refine ⟨w', ?_, a⟩
    have e6 : (va_up N 11 w) 6 = N 6 := va_up_ne _ _ (by omega)
    simp only [fX6_starts_l2, fX6_starts_b2, if_neg cc, chk_of (bIn_n (show i < 25 by omega) (by decide)), nc (show i < 2 ^ 31 by omega), n1a, mp_at, va_up_self, va_up_u, e6]
    exact g
theorem X6_starts (N : Mem) : ∃ w', fX6_starts N = some (va_up N 11 w') ∧ ∀ j, j < 25 → w' j = N 6 j := by
  have h := X6_starts_l (N := N) 25 FU 0 (N 11) (by omega) (by have := FU_eq; omega) (fun j hj => by omega)
  rw [va_up_eta] at h
  exact h
theorem kpN_11 {N : Mem} {w : Nat → Int32} : kpN N (va_up N 11 w) := ⟨fun i _ _ _ h1 _ => va_up_ne _ _ h1, fun k _ => by rw [va_up_ne _ _ (by omega)]⟩
/-- both foretell: on the trial, on 'then' -/
def FR (M0 N0 M N : Mem) (n s : Nat) : Prop := kpM M0 M ∧ kpN N0 N ∧ RS (gS M 134) (N 11) n s
theorem FR.keep {M0 N0 M N : Mem} {n s : Nat} (h : FR M0 N0 M N n s) (hR : RR M0 N0) : RR M N := hR.keep h.1 h.2.1
/-- the copies are made (from whatever stands in trial and 'then' now) -/
theorem FR_start {M0 N0 M N : Mem} {n s : Nat} (hM : kpM M0 M) (hN : kpN N0 N) (h : RS (gS M0 4) (N0 6) n s) : ∃ M' N', fX2_become 134 4 M = some M' ∧ fX6_starts N = some N' ∧ FR M0 N0 M' N' n s := by
  obtain ⟨M', g, h1, h2, h3⟩ := X2_become (c := 134) (d := 4) M (by omega)
  obtain ⟨w, g', hw⟩ := X6_starts N
  refine ⟨M', _, g, g', hM.tr (kpM_become (by omega) h1), hN.tr kpN_11, ?_⟩
  have h' : RS (gS M 4) (N 6) n s := h.congr (fun k _ => by
    show M 4 k = M0 4 k
    rw [hM 4 (by omega)]) (fun i r _ _ _ => by
    show M (4 + i) r = M0 (4 + i) r
    rw [hM _ (by omega)]) (fun j _ => by rw [hN.1 6 (by omega) (by omega) (by omega) (by omega) (by omega)])
  exact (h'.become h2 h3).congr (fun _ _ => rfl) (fun _ _ _ _ _ => rfl) (fun j hj => by rw [va_up_self]; exact hw j hj)
/-- a tick of what is foretold -/
theorem FR.tick {M0 N0 M N : Mem} {n s : Nat} (h : FR M0 N0 M N n s) : ∃ (m' N' : Mem), fX2_pass (gS M 134) = some (nI (cN (goP (M 134 0) (M 134 1) (ph1 n s (M 134 0) (M 135) (M 136) (odB (M 134 2)) (M 137))) n), m') ∧ fX6_tick 11 N = some N' ∧ FR M0 N0 (pS M 134 m') N' n s ∧ RS m' (N' 11) n s ∧ m' 3 = tkA n s (M 134 0) (M 134 1) (M 135) (M 136) (odB (M 134 2)) (M 137) ∧ (m' 1 = M 135 ∧ m' 2 = M 136 ∧ (∀ k, k ≠ 2 → m' 0 k = M 134 k)) := by
  obtain ⟨m', row', w', g1, g2, hR, h3, h4⟩ := h.2.2.tick (N := N) (c := 11) (by omega) rfl
  have e : (TT N 11 row' w') 11 = row' := TT_c (by omega)
  exact ⟨m', _, g1, g2, ⟨h.1.tr (kpM_pS (by omega)), h.2.1.tr kpN_TT, by rw [e]; exact hR.pS⟩, by rw [e]; exact hR, h3, h4⟩
/-! how many are somewhere -/
def offP (A : Nat → Int32) (r : Nat) : Bool := decide (A r = 99)
theorem X6_offIn_l {m : Mem} {n : Nat} (hn : m 0 17 = nI n) (hn7 : n ≤ 7) : ∀ (k fu i : Nat), i + k = n → k < fu → fX6_offIn_l4 m fu (nI (cN (offP (rA (m 0))) i)) (nI i) = some (nI (cN (offP (rA (m 0))) n)) := by
  intro k
  induction k with
  | zero =>
    intro fu i hi hf
    obtain ⟨f, rfl, -⟩ := fs hf
    have c : nI n ≤ nI i := nI_le (by omega) (by omega)
    have e : i = n := by omega
    subst e
    simp only [fX6_offIn_l4, fX6_offIn_b4, chk_of q17, c17, hn, if_pos c]
  | succ k ih =>
    intro fu i hi hf
    obtain ⟨f, rfl, hf'⟩ := fs hf
    have c : ¬ nI n ≤ nI i := nI_ge (by omega) (by omega)
    have hih := ih f (i + 1) (by omega) (by omega)
    have hc1 : cN (offP (rA (m 0))) (i + 1) = cN (offP (rA (m 0))) i + (if offP (rA (m 0)) i = true then 1 else 0) := rfl
    rw [hc1] at hih
    have e2 : m 0 (2 + i) = rA (m 0) i := rfl
    simp only [fX6_offIn_l4, fX6_offIn_b4, fX6_offIn_b28, chk_of q17, c17, hn, if_neg c, n2a, chk_of (bIn_n (show 2 + i < 25 by omega) (by decide)), nc (show 2 + i < 2 ^ 31 by omega), n1a, e2]
    unfold offP at hih ⊢
    by_cases h : rA (m 0) i = 99
    · rw [if_pos h]
      simp only [h, decide_true, if_true] at hih
      exact hih
    · rw [if_neg h, show ∀ x : Int32, x + 0 = x from fun x => Int32.add_zero x]
      simp only [h, decide_false, Bool.false_eq_true, if_false, Nat.add_zero] at hih
      exact hih
theorem X6_offIn {m : Mem} {n : Nat} (hn : m 0 17 = nI n) (hn7 : n ≤ 7) : fX6_offIn m = some (nI (cN (offP (rA (m 0))) n)) := X6_offIn_l hn hn7 n FU 0 (by omega) (by have := FU_eq; omega)
