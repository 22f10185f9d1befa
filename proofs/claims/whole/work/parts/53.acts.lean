/-! acts: kept, undone -/
theorem actsR_c {M M' N N' : Mem} {n s : Nat} (hM : ∀ i, 9 ≤ i → i < 131 → M' i = M i) (h6 : ∀ j, 16 ≤ j → j < 25 → N' 6 j = N 6 j) (h10 : N' 10 = N 10) (h13 : N' 0 13 = N 0 13) (h : actsR M N n s) : actsR M' N' n s := by
  obtain ⟨k, x, a1, a2, a3, a4, a5, a6⟩ := h
  refine ⟨k, x, a1, a2, by rw [hM 9 (by omega) (by omega)]; exact a3, by rw [hM 9 (by omega) (by omega)]; exact a4, by rw [h13]; exact a5, fun j hj => ?_⟩
  have hx : (x + 23 - j) % 24 < 24 := Nat.mod_lt _ (by omega)
  refine (a6 j hj).congr (fun k _ => ?_) (fun i r _ _ _ => ?_) (fun i hi => ?_)
  · show M' (11 + 5 * ((x + 23 - j) % 24) + 0) k = M (11 + 5 * ((x + 23 - j) % 24) + 0) k
    rw [hM _ (by omega) (by omega)]
  · show M' (11 + 5 * ((x + 23 - j) % 24) + i) r = M (11 + 5 * ((x + 23 - j) % 24) + i) r
    rw [hM _ (by omega) (by omega)]
  · unfold pastR
    split
    · rw [h10]
    · exact h6 i (by omega) hi
/-- the stair is another, its steps, kinds and how many are the same -/
theorem RR.now {M M' N N' : Mem} {n s : Nat} (h : RR M N) (ha : actsR M N n s) (hM : ∀ i, i < 4 ∨ 9 ≤ i → M' i = M i) (hN : ∀ i, i ≠ 6 → i ≠ 12 → N' i = N i) (h6 : ∀ j, 16 ≤ j → j < 25 → N' 6 j = N 6 j) (hr : RS (gS M' 4) (N' 6) n s) : RR M' N' := by
  obtain ⟨-, h2, h3, h4, h5, h6', h7⟩ := h
  have n0 : N' 0 = N 0 := hN 0 (by omega) (by omega)
  refine ⟨⟨n, s, hr, actsR_c (fun i hi _ => hM i (by omega)) h6 (hN 10 (by omega) (by omega)) (by rw [n0]) ha⟩, ?_, ?_, ?_, RRd_c (fun i _ _ => hM i (by omega)) (hN 1 (by omega) (by omega)) (hN 2 (by omega) (by omega)) (hN 3 (by omega) (by omega)) h5, RRe_c (fun i _ _ => hM i (by omega)) (hN 8 (by omega) (by omega)) (hN 9 (by omega) (by omega)) h6', ?_⟩
  · rw [hM 2 (by omega), hM 3 (by omega), n0, hN 5 (by omega) (by omega)]; exact h2
  · rw [hM 2 (by omega), n0]; exact h3
  · rw [hM 0 (by omega), n0]; exact h4
  · rw [hM 132 (by omega), hM 133 (by omega), n0, hN 13 (by omega) (by omega)]; exact h7
theorem X6_k51 {k : Nat} (hk : k < 24) : ∀ (c fu i : Nat) (N : Mem), i + c = 16 → c < fu → N 0 13 = nI k → (∀ j, j < i → N 10 (16 * k + j) = N 6 j) → ∃ w, fX6_keeps_l51 fu (nI i) N = some (mp (va_up N 10 w) 0 13 (nI (k + 1))) ∧ (∀ j, j < 16 → w (16 * k + j) = N 6 j) ∧ ∀ j, j < 16 * k → w j = N 10 j := by
  intro c
  induction c with
  | zero =>
    intro fu i N hi hf h13 hz
    obtain ⟨f, rfl, -⟩ := fs hf
    have cc : (16 : Int32) ≤ nI i := nI_le (a := 16) (by omega) (by omega)
    refine ⟨N 10, ?_, fun j hj => hz j (by omega), fun _ _ => rfl⟩
    simp only [fX6_keeps_l51, fX6_keeps_b51, if_pos cc, va_up_eta, h13, n1a]
  | succ c ih =>
    intro fu i N hi hf h13 hz
    obtain ⟨f, rfl, hf'⟩ := fs hf
    have cc : ¬ (16 : Int32) ≤ nI i := nI_ge (b := 16) (by omega) (by omega)
    have e : ((16 : Int32) * nI k) + nI i = nI (16 * k + i) := by rw [show (16 : Int32) * nI k = nI (16 * k) from pk_mul 16 k, nI_add]
    obtain ⟨w, g, a, b⟩ := ih f (i + 1) (mp N 10 (16 * k + i) (N 6 i)) (by omega) (by omega) h13 (fun j hj => by
      rw [va_ne (show (6 : Nat) ≠ 10 by omega)]
      by_cases h : j = i
      · subst h; exact mp_s
      · rw [mp_k (by omega)]; exact hz j (by omega))
    refine ⟨w, ?_, fun j hj => by rw [a j hj, va_ne (by omega)], fun j hj => by rw [b j hj, mp_k (by omega)]⟩
    simp only [fX6_keeps_l51, fX6_keeps_b51, if_neg cc, h13, e, chk_of (bIn_n (show i < 25 by omega) (by decide)), chk_of (bIn_n (show 16 * k + i < 384 by omega) (by decide)), nc (show i < 2 ^ 31 by omega), nc (show 16 * k + i < 2 ^ 31 by omega), n1a, g]
    rw [mp_up]
theorem X6_k11 {N : Mem} : ∀ (c fu i : Nat) (w : Nat → Int32), i + c = 368 → c < fu → (∀ j, j < i → w j = N 10 (j + 16)) → (∀ j, i ≤ j → w j = N 10 j) → ∃ w', fX6_keeps_l11 fu (nI i) (va_up N 10 w) = fX6_keeps_b39 (va_up N 10 w') ∧ ∀ j, j < 368 → w' j = N 10 (j + 16) := by
  intro c
  induction c with
  | zero =>
    intro fu i w hi hf hz hz2
    obtain ⟨f, rfl, -⟩ := fs hf
    have cc : (368 : Int32) ≤ nI i := nI_le (a := 368) (by omega) (by omega)
    refine ⟨w, ?_, fun j hj => hz j (by omega)⟩
    simp only [fX6_keeps_l11, fX6_keeps_b11, if_pos cc]
  | succ c ih =>
    intro fu i w hi hf hz hz2
    obtain ⟨f, rfl, hf'⟩ := fs hf
    have cc : ¬ (368 : Int32) ≤ nI i := nI_ge (b := 368) (by omega) (by omega)
    have e : nI i + 16 = nI (i + 16) := nI_add i 16
    obtain ⟨w', g, a⟩ := ih f (i + 1) (upd w i (w (i + 16))) (by omega) (by omega) (fun j hj => by
      by_cases h : j = i
      · subst h; rw [upd_s]; exact hz2 _ (by omega)
      · rw [upd_n _ _ h]; exact hz j (by omega)) (fun j hj => by rw [upd_n _ _ (by omega)]; exact hz2 j (by omega))
    refine ⟨w', ?_, a⟩
    simp only [fX6_keeps_l11, fX6_keeps_b11, if_neg cc, e, chk_of (bIn_n (show i + 16 < 384 by omega) (by decide)), chk_of (bIn_n (show i < 384 by omega) (by decide)), nc (show i < 2 ^ 31 by omega), nc (show i + 16 < 2 ^ 31 by omega), n1a, mp_at, va_up_self, va_up_u]
    exact g
theorem X6_keeps {N : Mem} {k : Nat} (hk : k ≤ 24) (h13 : N 0 13 = nI k) : ∃ w k', fX6_keeps N = some (mp (va_up N 10 w) 0 13 (nI k')) ∧ k' = (if k < 24 then k + 1 else 24) ∧ (∀ j, j < 16 → w (16 * (k' - 1) + j) = N 6 j) ∧ ∀ q j, q < k' - 1 → j < 16 → w (16 * q + j) = N 10 (16 * (q + (k + 1 - k')) + j) := by
  unfold fX6_keeps
  rw [h13]
  by_cases h24 : k < 24
  · rw [if_neg (fun e => by have := (nI_eq (a := k) (b := 24) (by omega) (by omega)).mp e; omega)]
    obtain ⟨w, g, a, b⟩ := X6_k51 h24 16 FU 0 N (by omega) (by have := FU_eq; omega) h13 (fun j hj => by omega)
    refine ⟨w, k + 1, g, by rw [if_pos h24], fun j hj => by rw [Nat.add_sub_cancel]; exact a j hj, fun q j hq hj => ?_⟩
    rw [Nat.add_sub_cancel] at hq
    rw [b _ (by omega), show q + (k + 1 - (k + 1)) = q by omega]
  · have hk24 : k = 24 := by omega
    subst hk24
    rw [if_pos (show nI 24 = (24 : Int32) from rfl)]
    obtain ⟨w1, g1, a1⟩ := X6_k11 (N := N) 368 FU 0 (N 10) (by omega) (by have := FU_eq; omega) (fun j hj => by omega) (fun _ _ => rfl)
    rw [va_up_eta] at g1
    have h23 : (mp (va_up N 10 w1) 0 13 (nI 23)) 0 13 = nI 23 := mp_s
    obtain ⟨w, g, a, b⟩ := X6_k51 (k := 23) (by omega) 16 FU 0 (mp (va_up N 10 w1) 0 13 (nI 23)) (by omega) (by have := FU_eq; omega) h23 (fun j hj => by omega)
    refine ⟨w, 24, ?_, by simp, fun j hj => ?_, fun q j hq hj => ?_⟩
    · rw [show (0 : Int32) = nI 0 from rfl, g1]
      unfold fX6_keeps_b39 fX6_keeps_b49
      have e : (va_up N 10 w1) 0 13 - 1 = nI 23 := by
        rw [va_up_ne _ _ (by omega), h13]; decide
      rw [e, show (0 : Int32) = nI 0 from rfl, g]
      congr 1
      funext i
      by_cases h0 : i = 0
      · subst h0
        simp only [mp_at, va_up_self, va_up_ne _ _ (show (0 : Nat) ≠ 10 by omega), upd_u]
      · rw [va_ne h0, va_ne h0]
        by_cases h10 : i = 10
        · subst h10; rw [va_up_self, va_up_self]
        · rw [va_up_ne _ _ h10, va_up_ne _ _ h10, va_ne h0, va_up_ne _ _ h10]
    · rw [a j hj, va_ne (by omega), va_up_ne _ _ (by omega)]
    · rw [b _ (by omega), va_ne (by omega), va_up_self, a1 _ (by omega), show 16 * q + j + 16 = 16 * (q + (24 + 1 - 24)) + j by omega]
/-- both keep an act -/
theorem RR.kept {M N : Mem} {n s : Nat} (h : RR M N) (hR : RS (gS M 4) (N 6) n s) (ha : actsR M N n s) : ∃ M' N', fX0_keep M = some M' ∧ fX6_keeps N = some N' ∧ (∀ i, i < 9 ∨ 131 ≤ i → M' i = M i) ∧ (∀ i, i ≠ 0 → i ≠ 10 → N' i = N i) ∧ RS (gS M' 4) (N' 6) n s ∧ actsR M' N' n s ∧ RR M' N' := by
  obtain ⟨k, x, a1, a2, a3, a4, a5, a6⟩ := ha
  obtain ⟨M1, g1, h1, h2, h3⟩ := X2_become (c := 11 + 5 * x) (d := 4) M (by omega)
  obtain ⟨w, k', g2, hk', hw1, hw2⟩ := X6_keeps a1 a5
  have e91 : M1 9 = M 9 := h1 9 (by omega) (by omega) (by omega) (by omega)
  have er : ((nI x + 1) - (nI x + 1) / 24 * 24) = nI ((x + 1) % 24) := by
    rw [n1a]; exact pk_rem (a := x + 1) (d := 24) (by omega) (by omega) (by omega)
  have ek : (if 24 < nI k + 1 then (24 : Int32) else nI k + 1) = nI k' := by
    rw [n1a, hk']
    by_cases h24 : k < 24
    · rw [if_pos h24, if_neg (show ¬ (24 : Int32) < nI (k + 1) from nI_nlt (a := 24) (b := k + 1) (by omega) (by omega))]
    · rw [if_neg h24, if_pos (show (24 : Int32) < nI (k + 1) from nI_lt (a := 24) (b := k + 1) (by omega) (by omega))]
      rfl
  have gk : fX0_keep M = some (mp (mp M1 9 1 (nI ((x + 1) % 24))) 9 2 (nI k')) := by
    unfold fX0_keep
    rw [a4, chk_of (bIn_n a2 (by decide)), nc (by omega), g1, bdV_s, e91, a4, er]
    rw [show mp M1 9 1 (nI ((x + 1) % 24)) 9 2 = nI k by rw [mp_k (by omega), e91]; exact a3, ek]
  have hMo : ∀ i, i < 9 ∨ 131 ≤ i → mp (mp M1 9 1 (nI ((x + 1) % 24))) 9 2 (nI k') i = M i := fun i hi => by
    rw [va_ne (by omega), va_ne (by omega)]
    exact h1 i (by omega) (by omega) (by omega) (by omega)
  have hNo : ∀ i, i ≠ 0 → i ≠ 10 → mp (va_up N 10 w) 0 13 (nI k') i = N i := fun i h0 h10 => by rw [va_ne h0, va_up_ne _ _ h10]
  have hN0 : ∀ j, j ≠ 13 → mp (va_up N 10 w) 0 13 (nI k') 0 j = N 0 j := fun j hj => by rw [mp_k hj, va_up_ne _ _ (by omega)]
  have hR' : RS (gS (mp (mp M1 9 1 (nI ((x + 1) % 24))) 9 2 (nI k')) 4) (mp (va_up N 10 w) 0 13 (nI k') 6) n s := hR.congr (fun j _ => by
    show mp (mp M1 9 1 (nI ((x + 1) % 24))) 9 2 (nI k') (4 + 0) j = M (4 + 0) j
    rw [hMo _ (by omega)]) (fun i r _ _ _ => by
    show mp (mp M1 9 1 (nI ((x + 1) % 24))) 9 2 (nI k') (4 + i) r = M (4 + i) r
    rw [hMo _ (by omega)]) (fun j _ => by rw [hNo 6 (by omega) (by omega)])
  have hkb : k' ≤ 24 ∧ 1 ≤ k' ∧ k' ≤ k + 1 := by rw [hk']; split <;> omega
  have hA' : actsR (mp (mp M1 9 1 (nI ((x + 1) % 24))) 9 2 (nI k')) (mp (va_up N 10 w) 0 13 (nI k')) n s := by
    refine ⟨k', (x + 1) % 24, hkb.1, Nat.mod_lt _ (by omega), mp_s, by rw [mp_k (by omega)]; exact mp_s, mp_s, fun j hj => ?_⟩
    by_cases hj0 : j = 0
    · subst hj0
      have ex : ((x + 1) % 24 + 23 - 0) % 24 = x := by omega
      rw [ex]
      refine (hR.become (M' := M1) (c := 11 + 5 * x) h2 h3).congr (fun q _ => ?_) (fun i r _ _ _ => ?_) (fun i hi => ?_)
      · show mp (mp M1 9 1 _) 9 2 _ (11 + 5 * x + 0) q = M1 (11 + 5 * x + 0) q
        rw [va_ne (by omega), va_ne (by omega)]
      · show mp (mp M1 9 1 _) 9 2 _ (11 + 5 * x + i) r = M1 (11 + 5 * x + i) r
        rw [va_ne (by omega), va_ne (by omega)]
      · unfold pastR
        split
        · rw [va_ne (by omega), va_up_self, show k' - 1 - 0 = k' - 1 by omega]; exact hw1 i (by omega)
        · rw [hNo 6 (by omega) (by omega)]
    · have ex : ((x + 1) % 24 + 23 - j) % 24 = (x + 23 - (j - 1)) % 24 := by omega
      have hne : (x + 23 - (j - 1)) % 24 ≠ x := by omega
      have hlt : (x + 23 - (j - 1)) % 24 < 24 := Nat.mod_lt _ (by omega)
      rw [ex]
      refine (a6 (j - 1) (by omega)).congr (fun q _ => ?_) (fun i r _ _ _ => ?_) (fun i hi => ?_)
      · show mp (mp M1 9 1 _) 9 2 _ (11 + 5 * ((x + 23 - (j - 1)) % 24) + 0) q = M (11 + 5 * ((x + 23 - (j - 1)) % 24) + 0) q
        rw [va_ne (by omega), va_ne (by omega), h1 _ (by omega) (by omega) (by omega) (by omega)]
      · show mp (mp M1 9 1 _) 9 2 _ (11 + 5 * ((x + 23 - (j - 1)) % 24) + i) r = M (11 + 5 * ((x + 23 - (j - 1)) % 24) + i) r
        rw [va_ne (by omega), va_ne (by omega), h1 _ (by omega) (by omega) (by omega) (by omega)]
      · unfold pastR
        split
        · rw [va_ne (by omega), va_up_self, hw2 _ _ (by omega) (by omega), show k' - 1 - j + (k + 1 - k') = k - 1 - (j - 1) by omega]
        · rw [hNo 6 (by omega) (by omega)]
  refine ⟨_, _, gk, g2, hMo, hNo, hR', hA', ?_⟩
  obtain ⟨-, h2', h3', h4', h5', h6', h7'⟩ := h
  refine ⟨⟨n, s, hR', hA'⟩, ?_, ?_, ?_, RRd_c (fun i _ _ => hMo i (by omega)) (hNo 1 (by omega) (by omega)) (hNo 2 (by omega) (by omega)) (hNo 3 (by omega) (by omega)) h5', RRe_c (fun i _ _ => hMo i (by omega)) (hNo 8 (by omega) (by omega)) (hNo 9 (by omega) (by omega)) h6', ?_⟩
  · rw [hMo 2 (by omega), hMo 3 (by omega), hN0 6 (by omega), hNo 5 (by omega) (by omega)]; exact h2'
  · rw [hMo 2 (by omega), hN0 7 (by omega)]; exact h3'
  · rw [hMo 0 (by omega), hN0 4 (by omega)]; exact h4'
  · rw [hMo 132 (by omega), hMo 133 (by omega), hN0 17 (by omega), hNo 13 (by omega) (by omega)]; exact h7'
