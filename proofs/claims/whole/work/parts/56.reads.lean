/-! cross, undo, count -/
theorem bN_0 {P : Nat → Bool} : ∀ n, bN P n = 0 ↔ ∀ q, q < n → P q = false
  | 0 => ⟨fun _ q hq => by omega, fun _ => rfl⟩
  | n + 1 => by
    have ih := bN_0 (P := P) n
    show bN P n + (if P n = true then 2 ^ n else 0) = 0 ↔ _
    have hp : 0 < 2 ^ n := Nat.pos_of_ne_zero (by simp)
    constructor
    · intro h q hq
      by_cases hqn : q = n
      · subst hqn
        cases hP : P q with
        | false => rfl
        | true => rw [if_pos hP] at h; omega
      · exact ih.mp (by omega) q (by omega)
    · intro h
      rw [ih.mpr (fun q hq => h q (by omega)), h n (by omega)]
      rfl
theorem allB_iff {P : Nat → Bool} : ∀ (k i : Nat), allB P k i = true ↔ ∀ q, i ≤ q → q < i + k → P q = true
  | 0, i => ⟨fun _ q h1 h2 => by omega, fun _ => rfl⟩
  | k + 1, i => by
    have ih := allB_iff (P := P) k (i + 1)
    show (P i && allB P k (i + 1)) = true ↔ _
    rw [Bool.and_eq_true, ih]
    constructor
    · rintro ⟨h1, h2⟩ q hq1 hq2
      by_cases hqi : q = i
      · subst hqi; exact h1
      · exact h2 q (by omega) (by omega)
    · intro h
      exact ⟨h i (by omega) (by omega), fun q h1 h2 => h q (by omega) (by omega)⟩
theorem cross_eq {n r : Nat} {K L A : Nat → Int32} {ln : Int32} (hr : r < n) (hK : ¬ 4 ≤ K r) (hL : L r ≠ ln) : decide (bN (wtP K L A (A r) ln) n = 0) = fr n K L A r (A r) ln := by
  by_cases h : fr n K L A r (A r) ln = true
  · rw [h, decide_eq_true_eq, bN_0]
    intro q hq
    have h1 := (allB_iff n 0).mp h q (by omega) (by omega)
    unfold frP at h1
    unfold wtP
    by_cases hqr : q = r
    · subst hqr; simp [hK, hL]
    · by_cases ha : A q = A r
      · simp [hqr, ha, hK] at h1
        simp [ha, h1]
      · simp [ha]
  · rw [Bool.not_eq_true] at h
    rw [h, decide_eq_false_iff_not, bN_0]
    intro h0
    have : fr n K L A r (A r) ln = true := (allB_iff n 0).mpr (fun q _ hq => by
      have h1 := h0 q (by omega)
      unfold wtP at h1
      unfold frP
      by_cases hqr : q = r
      · simp [hqr]
      · by_cases ha : A q = A r
        · simp [ha] at h1
          simp [hqr, ha, hK, h1]
        · simp [ha])
    rw [h] at this
    cases this
theorem q_cross (x : Int32) : EqI (fX5_cross x) (fX6_cross x) := fun M N h => by
  obtain ⟨n, s, hR, ha⟩ := h.1
  have e1 : M 4 3 = nI n := hR.1.1
  have hn := hR.1.2.2
  unfold fX5_cross fX6_cross
  simp only [X5_noRider e1, X6_isRider hR.1.2.1, bdP_s]
  by_cases hb : inB x 0 (nI n - 1) = true
  · obtain ⟨r, hr, rfl⟩ := inB_r (by omega) hb
    obtain ⟨⟨k1, k2, k3⟩, hoL, hoA, hoK⟩ := hR.2.2.2.2 r hr
    have k3' : M 7 r = N 6 (2 + r) := k3
    have hr7 : r < 7 := by omega
    have hon := X2_isOn (m := gS M 4) hR.2.1.1 hR.2.1.2.2.1 hr7 (by rw [k3]; exact hoA)
    have hfree : ∀ st ln, fX6_isFree (nI r) st ln (gC N 6) = some (b2i (fr n (rK (N 6)) (rL (N 6)) (rA (N 6)) r st ln)) := fun st ln => X6_isFree (M := gC N 6) hR.1.2.1 hn hr7
    have hlane : N 6 (9 + r) ≠ 1 - N 6 (9 + r) := by
      rcases hoL with e | e <;> rw [e] <;> decide
    have hbz : ∀ b : Nat, b < 2 ^ 31 → (nI b = 0) = (b = 0) := fun b hb => propext (nI_eq (b := 0) hb (by omega))
    have hmc : fX2_mayCross (nI r) (gS M 4) = some (b2i (!on (N 6 (2 + r)) || decide (4 ≤ N 6 (18 + r)) || fr n (rK (N 6)) (rL (N 6)) (rA (N 6)) r (N 6 (2 + r)) (1 - N 6 (9 + r)))) := by
      unfold fX2_mayCross
      simp only [hon, X2_takesBoth hr7, bdP_s, b2i_0, chk_of (bIn_n hr7 (by decide)), nc (show r < 2 ^ 31 by omega), X2_whoTakes hR.1.1 hn, k1, k2, k3, hR.who]
      by_cases ho : on (N 6 (2 + r)) = true
      · by_cases h4 : 4 ≤ N 6 (18 + r)
        · simp [ho, h4, b2i]
        · have hce := cross_eq (n := n) (r := r) (K := rK (N 6)) (L := rL (N 6)) (A := rA (N 6)) (ln := 1 - N 6 (9 + r)) hr h4 hlane
          have hlt := bN_7 (P := wtP (rK (N 6)) (rL (N 6)) (rA (N 6)) (N 6 (2 + r)) (1 - N 6 (9 + r))) hn
          have hce' : decide (bN (wtP (rK (N 6)) (rL (N 6)) (rA (N 6)) (N 6 (2 + r)) (1 - N 6 (9 + r))) n = 0) = fr n (rK (N 6)) (rL (N 6)) (rA (N 6)) r (N 6 (2 + r)) (1 - N 6 (9 + r)) := hce
          rw [← hce']
          simp only [ho, h4, decide_false, Bool.not_true, Bool.false_or, Bool.true_eq_false, if_false, if_true, hbz _ (show bN (wtP (rK (N 6)) (rL (N 6)) (rA (N 6)) (N 6 (2 + r)) (1 - N 6 (9 + r))) n < 2 ^ 31 by omega)]
          by_cases hz : bN (wtP (rK (N 6)) (rL (N 6)) (rA (N 6)) (N 6 (2 + r)) (1 - N 6 (9 + r))) n = 0 <;> simp [hz, b2i]
      · rw [Bool.not_eq_true] at ho
        simp [ho, b2i]
    have fin : ∀ (v : Int32), v = 1 - N 6 (9 + r) → ∃ rr M' N', (bdV (fX0_keep M) fun M11 => some (mp M11 6 r (1 - M11 6 r) 6 r, mp M11 6 r (1 - M11 6 r))) = some (rr, M') ∧ (bdV (fX6_keeps N) fun M3 => some (v, mp M3 6 (9 + r) v)) = some (rr, N') ∧ RR M' N' := by
      intro v hv
      obtain ⟨M', N', g1, g2, hM, hN, hR', ha', h'⟩ := h.kept hR ha
      rw [g1, g2]
      simp only [bdV_s]
      have e6 : M' 6 r = N 6 (9 + r) := by rw [hM 6 (by omega)]; exact k2
      refine ⟨v, mp M' 6 r v, mp N' 6 (9 + r) v, ?_, rfl, h'.now ha' (fun i hi => va_ne (by omega)) (fun i h6 _ => va_ne h6) (fun j hj _ => mp_k (by omega)) ?_⟩
      · rw [e6, mp_s, hv]
      · rw [show gS (mp M' 6 r v) 4 = mp (gS M' 4) 2 r v from gS4 (i := 2), show (mp N' 6 (9 + r) v) 6 = upd (N' 6) (9 + r) v from va_up_self _ _ _]
        refine hR'.lane (by omega) ?_
        rw [hv]
        rcases hoL with e | e <;> rw [e]
        · exact Or.inr (by decide)
        · exact Or.inl (by decide)
    simp only [hb, Bool.not_true, Bool.not_false, b2i_f, b2i_t, i10, eq_self, if_true, if_false, n2a, n9a, n18a, chk_of (bIn_n hr7 (by decide)), chk_of (bIn_n (show 2 + r < 25 by omega) (by decide)), chk_of (bIn_n (show 9 + r < 25 by omega) (by decide)), chk_of (bIn_n (show 18 + r < 25 by omega) (by decide)), nc (show r < 2 ^ 31 by omega), nc (show 2 + r < 2 ^ 31 by omega), nc (show 9 + r < 2 ^ 31 by omega), nc (show 18 + r < 2 ^ 31 by omega), k3', hfree, X6_isOn, bdP_s, b2i_0, hmc, fX6_cross_b74]
    by_cases h99 : N 6 (2 + r) = 99
    · simp only [if_pos h99]
      exact ⟨_, M, N, rfl, rfl, h⟩
    · simp only [if_neg h99]
      by_cases ho : on (N 6 (2 + r)) = true
      · by_cases h4 : 4 ≤ N 6 (18 + r)
        · simp only [ho, h4, decide_true, Bool.not_true, Bool.false_or, Bool.true_or, Bool.true_eq_false, if_false, if_true]
          exact fin _ rfl
        · by_cases hf : fr n (rK (N 6)) (rL (N 6)) (rA (N 6)) r (N 6 (2 + r)) (1 - N 6 (9 + r)) = true
          · simp only [ho, h4, hf, decide_false, Bool.not_true, Bool.false_or, Bool.true_eq_false, if_false]
            exact fin _ rfl
          · rw [Bool.not_eq_true] at hf
            simp only [ho, h4, hf, decide_false, Bool.not_true, Bool.false_or, Bool.true_eq_false, if_false, if_true]
            exact ⟨_, M, N, rfl, rfl, h⟩
      · rw [Bool.not_eq_true] at ho
        simp only [ho, Bool.not_false, Bool.true_or, Bool.true_eq_false, if_false, if_true]
        exact fin _ rfl
  · rw [Bool.not_eq_true] at hb
    simp only [hb, Bool.not_true, Bool.not_false, b2i_f, b2i_t, i10, eq_self, if_true, if_false]
    exact ⟨_, M, N, rfl, rfl, h⟩
theorem X6_undo_l {k : Nat} (hk : k < 24) {N : Mem} (h13 : N 0 13 = nI k) : ∀ (c fu i : Nat) (w : Nat → Int32), i + c = 16 → c < fu → (∀ j, j < i → w j = N 10 (16 * k + j)) → (∀ j, i ≤ j → w j = N 6 j) → ∃ w', fX6_undo_l22 fu (nI i) (va_up N 6 w) = some (nI k, va_up N 6 w') ∧ (∀ j, j < 16 → w' j = N 10 (16 * k + j)) ∧ ∀ j, 16 ≤ j → w' j = N 6 j := by
  intro c
  induction c with
  | zero =>
    intro fu i w hi hf h1 h2
    obtain ⟨f, rfl, -⟩ := fs hf
    have cc : (16 : Int32) ≤ nI i := nI_le (a := 16) (by omega) (by omega)
    refine ⟨w, ?_, fun j hj => h1 j (by omega), fun j hj => h2 j (by omega)⟩
    have e0 : (va_up N 6 w) 0 = N 0 := va_up_ne _ _ (by omega)
    simp only [fX6_undo_l22, fX6_undo_b22, if_pos cc, e0, h13]
  | succ c ih =>
    intro fu i w hi hf h1 h2
    obtain ⟨f, rfl, hf'⟩ := fs hf
    have cc : ¬ (16 : Int32) ≤ nI i := nI_ge (b := 16) (by omega) (by omega)
    have e : ((16 : Int32) * nI k) + nI i = nI (16 * k + i) := by rw [show (16 : Int32) * nI k = nI (16 * k) from pk_mul 16 k, nI_add]
    have e0 : (va_up N 6 w) 0 = N 0 := va_up_ne _ _ (by omega)
    have e10 : (va_up N 6 w) 10 = N 10 := va_up_ne _ _ (by omega)
    obtain ⟨w', g, a, b⟩ := ih f (i + 1) (upd w i (N 10 (16 * k + i))) (by omega) (by omega) (fun j hj => by
      by_cases h : j = i
      · subst h; rw [upd_s]
      · rw [upd_n _ _ h]; exact h1 j (by omega)) (fun j hj => by rw [upd_n _ _ (by omega)]; exact h2 j (by omega))
    refine ⟨w', ?_, a, b⟩
    simp only [fX6_undo_l22, fX6_undo_b22, if_neg cc, e0, e10, h13, e, chk_of (bIn_n (show i < 25 by omega) (by decide)), chk_of (bIn_n (show 16 * k + i < 384 by omega) (by decide)), nc (show i < 2 ^ 31 by omega), nc (show 16 * k + i < 2 ^ 31 by omega), n1a, mp_at, va_up_self, va_up_u]
    exact g
theorem q_undo : EqI fX5_undo fX6_undo := fun M N h => by
  obtain ⟨n, s, hR, ha⟩ := h.1
  obtain ⟨k, x, a1, a2, a3, a4, a5, a6⟩ := id ha
  unfold fX5_undo fX6_undo
  rw [a3, a5]
  have ez : (nI k = 0) = (k = 0) := propext (nI_eq (b := 0) (by omega) (by omega))
  by_cases h0 : k = 0
  · simp only [ez, if_pos h0]
    exact ⟨_, M, N, rfl, rfl, h⟩
  · simp only [ez, if_neg h0]
    have ek : nI k - 1 = nI (k - 1) := pk_sub (b := 1) (by omega)
    rw [ek]
    have hlt : (x + 23) % 24 < 24 := Nat.mod_lt _ (by omega)
    obtain ⟨w, g2, hw1, hw2⟩ := X6_undo_l (k := k - 1) (by omega) (N := mp N 0 13 (nI (k - 1))) mp_s 16 FU 0 ((mp N 0 13 (nI (k - 1))) 6) (by omega) (by have := FU_eq; omega) (fun j hj => by omega) (fun _ _ => rfl)
    rw [va_up_eta] at g2
    have en : (((nI x + 24) - 1) - ((nI x + 24) - 1) / 24 * 24) = nI ((x + 23) % 24) := by
      have e1 : nI x + 24 - 1 = nI (x + 23) := by
        rw [show nI x + 24 = nI (x + 24) from nI_add x 24]
        exact pk_sub (b := 1) (by omega)
      rw [e1]
      exact pk_rem (a := x + 23) (d := 24) (by omega) (by omega) (by omega)
    obtain ⟨M1, g1, h1, h2, h3⟩ := X2_become (c := 4) (d := 11 + 5 * ((x + 23) % 24)) (mp M 9 1 (nI ((x + 23) % 24))) (by omega)
    have e92 : M1 9 2 = nI k := by rw [h1 9 (by omega) (by omega) (by omega) (by omega), mp_k (by omega)]; exact a3
    have gk : fX0_takeBack M = some (mp M1 9 2 (nI (k - 1))) := by
      unfold fX0_takeBack
      rw [a4, en, show mp M 9 1 (nI ((x + 23) % 24)) 9 1 = nI ((x + 23) % 24) from mp_s, chk_of (bIn_n hlt (by decide)), nc (by omega), g1, bdV_s, e92, ek, if_neg (nI_pos (by omega))]
    rw [gk, show (0 : Int32) = nI 0 from rfl, g2]
    simp only [bdV_s]
    have hN6 : ∀ j, (va_up (mp N 0 13 (nI (k - 1))) 6 w) 6 j = pastR N (k - 1) j := fun j => by
      rw [va_up_self]
      unfold pastR
      split
      · rw [hw1 j (by omega), va_ne (by omega)]
      · rw [hw2 j (by omega), va_ne (by omega)]
    have hMo : ∀ i, i < 4 ∨ 8 < i → i ≠ 9 → mp M1 9 2 (nI (k - 1)) i = M i := fun i hi h9 => by
      rw [va_ne h9, h1 i (by omega) (by omega) (by omega) (by omega), va_ne h9]
    have hNo : ∀ i, i ≠ 0 → i ≠ 6 → (va_up (mp N 0 13 (nI (k - 1))) 6 w) i = N i := fun i h0 h6 => by rw [va_up_ne _ _ h6, va_ne h0]
    have hN0 : ∀ j, j ≠ 13 → (va_up (mp N 0 13 (nI (k - 1))) 6 w) 0 j = N 0 j := fun j hj => by rw [va_up_ne _ _ (by omega), mp_k hj]
    have hR0 := a6 0 (by omega)
    rw [show (x + 23 - 0) % 24 = (x + 23) % 24 by omega, show k - 1 - 0 = k - 1 by omega] at hR0
    have hR1 : RS (gS (mp M 9 1 (nI ((x + 23) % 24))) (11 + 5 * ((x + 23) % 24))) (pastR N (k - 1)) n s := hR0.congr (fun q _ => by
      show mp M 9 1 _ (11 + 5 * ((x + 23) % 24) + 0) q = M (11 + 5 * ((x + 23) % 24) + 0) q
      rw [va_ne (by omega)]) (fun i r _ _ _ => by
      show mp M 9 1 _ (11 + 5 * ((x + 23) % 24) + i) r = M (11 + 5 * ((x + 23) % 24) + i) r
      rw [va_ne (by omega)]) (fun _ _ => rfl)
    have hR2 : RS (gS (mp M1 9 2 (nI (k - 1))) 4) ((va_up (mp N 0 13 (nI (k - 1))) 6 w) 6) n s := (hR1.become h2 h3).congr (fun q _ => by
      show mp M1 9 2 _ (4 + 0) q = M1 (4 + 0) q
      rw [va_ne (by omega)]) (fun i r _ _ _ => by
      show mp M1 9 2 _ (4 + i) r = M1 (4 + i) r
      rw [va_ne (by omega)]) (fun j _ => hN6 j)
    have hA2 : actsR (mp M1 9 2 (nI (k - 1))) (va_up (mp N 0 13 (nI (k - 1))) 6 w) n s := by
      refine ⟨k - 1, (x + 23) % 24, by omega, hlt, mp_s, ?_, by rw [va_up_ne _ _ (by omega)]; exact mp_s, fun j hj => ?_⟩
      · rw [mp_k (by omega), h1 9 (by omega) (by omega) (by omega) (by omega)]; exact mp_s
      · have ex : ((x + 23) % 24 + 23 - j) % 24 = (x + 23 - (j + 1)) % 24 := by omega
        have hl2 : (x + 23 - (j + 1)) % 24 < 24 := Nat.mod_lt _ (by omega)
        rw [ex]
        refine (a6 (j + 1) (by omega)).congr (fun q _ => ?_) (fun i r _ _ _ => ?_) (fun i hi => ?_)
        · show mp M1 9 2 _ (11 + 5 * ((x + 23 - (j + 1)) % 24) + 0) q = M (11 + 5 * ((x + 23 - (j + 1)) % 24) + 0) q
          rw [hMo _ (by omega) (by omega)]
        · show mp M1 9 2 _ (11 + 5 * ((x + 23 - (j + 1)) % 24) + i) r = M (11 + 5 * ((x + 23 - (j + 1)) % 24) + i) r
          rw [hMo _ (by omega) (by omega)]
        · unfold pastR
          split
          · rw [hNo 10 (by omega) (by omega), show k - 1 - 1 - j = k - 1 - (j + 1) by omega]
          · rw [hN6]
            unfold pastR
            rw [if_neg (by omega)]
    obtain ⟨-, h2', h3', h4', h5', h6', h7'⟩ := h
    refine ⟨nI (k - 1), mp M1 9 2 (nI (k - 1)), va_up (mp N 0 13 (nI (k - 1))) 6 w, by rw [mp_s], rfl, ⟨n, s, hR2, hA2⟩, ?_, ?_, ?_, RRd_c (fun i _ _ => hMo i (by omega) (by omega)) (hNo 1 (by omega) (by omega)) (hNo 2 (by omega) (by omega)) (hNo 3 (by omega) (by omega)) h5', RRe_c (fun i _ _ => hMo i (by omega) (by omega)) (hNo 8 (by omega) (by omega)) (hNo 9 (by omega) (by omega)) h6', ?_⟩
    · rw [hMo 2 (by omega) (by omega), hMo 3 (by omega) (by omega), hN0 6 (by omega), hNo 5 (by omega) (by omega)]; exact h2'
    · rw [hMo 2 (by omega) (by omega), hN0 7 (by omega)]; exact h3'
    · rw [hMo 0 (by omega) (by omega), hN0 4 (by omega)]; exact h4'
    · rw [hMo 132 (by omega) (by omega), hMo 133 (by omega) (by omega), hN0 17 (by omega), hNo 13 (by omega) (by omega)]; exact h7'
