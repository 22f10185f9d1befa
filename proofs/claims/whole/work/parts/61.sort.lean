/-! lanes for those in the queue -/
def lnQ (Q c : Nat) (L : Nat → Int32) (r : Nat) : Int32 := if bitI (nI Q) r = 1 then bitI (nI c) r else L r
def mpL (n : Nat) (F L : Nat → Int32) : Nat → Int32 := fun r => if r < n then F r else L r
theorem mpL_s (n : Nat) (F L : Nat → Int32) : mpL (n + 1) F L = upd (mpL n F L) n (F n) := by
  funext r
  unfold mpL
  by_cases h : r = n
  · subst h; rw [upd_s, if_pos (by omega)]
  · rw [upd_n _ _ h]
    by_cases h2 : r < n
    · rw [if_pos h2, if_pos (by omega)]
    · rw [if_neg h2, if_neg (by omega)]
theorem mpL_0 (F L : Nat → Int32) : mpL 0 F L = L := by
  funext r; unfold mpL; rw [if_neg (by omega)]
theorem X2_lanes_l {m : Mem} {n Q c : Nat} (hn : m 0 3 = nI n) (hn7 : n ≤ 7) : ∀ (k fu i : Nat), i + k = n → k < fu → fX2_putInLanes_l2 (nI Q) (nI c) fu (nI i) (va_up m 2 (mpL i (lnQ Q c (m 2)) (m 2))) = some (va_up m 2 (mpL n (lnQ Q c (m 2)) (m 2))) := by
  intro k
  induction k with
  | zero =>
    intro fu i hi hf
    obtain ⟨f, rfl, -⟩ := fs hf
    have cc : nI n ≤ nI i := nI_le (by omega) (by omega)
    have e : i = n := by omega
    subst e
    have e0 : ∀ B, (va_up m 2 B) 0 = m 0 := fun _ => rfl
    simp only [fX2_putInLanes_l2, fX2_putInLanes_b2, e0, hn, if_pos cc]
  | succ k ih =>
    intro fu i hi hf
    obtain ⟨f, rfl, hf'⟩ := fs hf
    have cc : ¬ nI n ≤ nI i := nI_ge (by omega) (by omega)
    have e0 : ∀ B, (va_up m 2 B) 0 = m 0 := fun _ => rfl
    have e2 : ∀ B, (va_up m 2 B) 2 = B := fun _ => rfl
    have hih := ih f (i + 1) (by omega) (by omega)
    rw [mpL_s] at hih
    have eb : ∀ x, ((x >>> (nI i &&& 31)) &&& 1) = bitI x i := fun _ => rfl
    simp only [fX2_putInLanes_l2, fX2_putInLanes_b2, fX2_putInLanes_b30, e0, hn, if_neg cc, eb, chk_of (bIn_n (show i < 7 by omega) (by decide)), nc (show i < 2 ^ 31 by omega), n1a, mp_at, e2, va_up_u]
    by_cases h : bitI (nI Q) i = 1
    · rw [if_pos h]
      rw [show lnQ Q c (m 2) i = bitI (nI c) i from if_pos h] at hih
      exact hih
    · rw [if_neg h]
      rw [show lnQ Q c (m 2) i = m 2 i from if_neg h] at hih
      have e : mpL i (lnQ Q c (m 2)) (m 2) i = m 2 i := by unfold mpL; rw [if_neg (by omega)]
      have := upd_eta (mpL i (lnQ Q c (m 2)) (m 2)) i
      rw [e] at this
      rw [this] at hih
      exact hih
theorem X2_lanes {m : Mem} {n Q c : Nat} (hn : m 0 3 = nI n) (hn7 : n ≤ 7) : fX2_putInLanes (nI Q) (nI c) m = some (va_up m 2 (mpL n (lnQ Q c (m 2)) (m 2))) := by
  have h := X2_lanes_l (Q := Q) (c := c) hn hn7 n FU 0 (by omega) (by have := FU_eq; omega)
  rw [mpL_0, va_up_eta] at h
  exact h
theorem X6_has {x : Int32} {r : Nat} : fX6_has x (nI r) = some (b2i (decide (bitI x r = 1))) := by
  unfold fX6_has
  have eb : ((x >>> (nI r &&& 31)) &&& 1) = bitI x r := rfl
  rw [eb]
  by_cases h : bitI x r = 1 <;> simp [h, b2i]
theorem X6_sl_l {N : Mem} {n Q c : Nat} {p x3 x4 : Int32} {k37 : Int32 → Int32 → Int32 → Int32 → Mem → Option (Int32 × Mem)} (hn : N 6 17 = nI n) (hn7 : n ≤ 7) : ∀ (k fu i : Nat) (w : Nat → Int32), i + k = n → k < fu → (∀ r, r < i → w (9 + r) = lnQ Q c (rL (N 11)) r) → (∀ j, (j < 9 ∨ 9 + i ≤ j) → w j = N 11 j) → ∃ w', fX6_sorting_l67 p k37 fu (nI Q) x3 x4 (nI c) (nI i) (va_up N 11 w) = fX6_sorting_b124 p k37 (nI Q) x3 x4 (nI c) (va_up N 11 w') ∧ (∀ r, r < n → w' (9 + r) = lnQ Q c (rL (N 11)) r) ∧ (∀ j, (j < 9 ∨ 9 + n ≤ j) → w' j = N 11 j) := by
  intro k
  induction k with
  | zero =>
    intro fu i w hi hf h1 h2
    obtain ⟨f, rfl, -⟩ := fs hf
    have cc : nI n ≤ nI i := nI_le (by omega) (by omega)
    have e : i = n := by omega
    subst e
    have e6 : (va_up N 11 w) 6 = N 6 := va_up_ne _ _ (by omega)
    refine ⟨w, ?_, h1, h2⟩
    simp only [fX6_sorting_l67, fX6_sorting_b67, chk_of q17, c17, e6, hn, if_pos cc]
  | succ k ih =>
    intro fu i w hi hf h1 h2
    obtain ⟨f, rfl, hf'⟩ := fs hf
    have cc : ¬ nI n ≤ nI i := nI_ge (by omega) (by omega)
    have e6 : (va_up N 11 w) 6 = N 6 := va_up_ne _ _ (by omega)
    have e11 : (va_up N 11 w) 11 = w := va_up_self _ _ _
    have ew : w (9 + i) = rL (N 11) i := h2 _ (by omega)
    obtain ⟨w', g, a, b⟩ := ih f (i + 1) (upd w (9 + i) (lnQ Q c (rL (N 11)) i)) (by omega) (by omega) (fun r hr => by
      by_cases h : r = i
      · subst h; rw [upd_s]
      · rw [upd_n _ _ (by omega)]; exact h1 r (by omega)) (fun j hj => by rw [upd_n _ _ (by omega)]; exact h2 j (by omega))
    refine ⟨w', ?_, a, b⟩
    have eb : ∀ x, ((x >>> (nI i &&& 31)) &&& 1) = bitI x i := fun _ => rfl
    simp only [fX6_sorting_l67, fX6_sorting_b67, fX6_sorting_b117, chk_of q17, c17, e6, hn, if_neg cc, X6_has, bdP_s, b2i_0, n9a, eb, chk_of (bIn_n (show 9 + i < 25 by omega) (by decide)), nc (show 9 + i < 2 ^ 31 by omega), n1a, mp_at, e11, va_up_u, ew]
    unfold lnQ at g
    by_cases h : bitI (nI Q) i = 1
    · rw [if_pos h] at g
      rw [if_neg (by simp [h])]
      exact g
    · rw [if_neg h] at g
      rw [if_pos (by simp [h])]
      exact g
theorem RS.lanes {m : Mem} {row w : Nat → Int32} {n s Q c : Nat} (h : RS m row n s) (hQ : c < 128) (h1 : ∀ r, r < n → w (9 + r) = lnQ Q c (rL row) r) (h2 : ∀ j, (j < 9 ∨ 9 + n ≤ j) → w j = row j) : RS (va_up m 2 (mpL n (lnQ Q c (m 2)) (m 2))) w n s := by
  obtain ⟨⟨a1, a2, a3⟩, ⟨b1, b2, b3, b4⟩, ⟨c1, c2⟩, d, e⟩ := h
  refine ⟨⟨a1, by rw [h2 17 (by omega)]; exact a2, a3⟩, ⟨b1, by rw [h2 16 (by omega)]; exact b2, b3, b4⟩, ⟨by rw [h2 1 (by omega)]; exact c1, by rw [h2 1 (by omega)]; exact c2⟩, by rw [h2 0 (by omega)]; exact d, fun r hr => ?_⟩
  obtain ⟨⟨e1, e2, e3⟩, e4, e5, e6⟩ := e r hr
  rw [h2 (18 + r) (by omega), h2 (2 + r) (by omega), h1 r hr]
  refine ⟨⟨e1, ?_, e3⟩, ?_, e5, e6⟩
  · show mpL n (lnQ Q c (m 2)) (m 2) r = _
    unfold mpL lnQ
    rw [if_pos hr, e2]
    rfl
  · unfold lnQ
    split
    · rcases bit_01 c hQ r (by omega) with hb | hb
      · exact Or.inl hb
      · exact Or.inr hb
    · exact e4
/-- one choice of lanes, both try it -/
theorem sort_try {M0 N0 M N : Mem} {n s Q c B : Nat} {p : Int32} (hR : RS (gS M0 4) (N0 6) n s) (hM : kpM M0 M) (hN : kpN N0 N) (hc : c < 128) (hB : B ≤ 61) : ∃ (P : Nat → Bool) (M1 m2 m3 N1 N2 N3 : Mem), fX2_become 134 4 M = some M1 ∧ fX2_putInLanes (nI Q) (nI c) (gS M1 134) = some m2 ∧ fX2_passUntilClear (nI B - 1) (gS (pS M1 134 m2) 134) = some (oI (ff P B 0), m3) ∧ fX6_starts N = some N1 ∧ (∀ k37 x3 x4, fX6_sorting_l67 p k37 FU (nI Q) x3 x4 (nI c) 0 N1 = fX6_sorting_b124 p k37 (nI Q) x3 x4 (nI c) N2) ∧ fX6_clears N2 = some (oI (ff P 61 0), N3) ∧ kpM M0 (pS (pS M1 134 m2) 134 m3) ∧ kpN N0 N3 := by
  obtain ⟨M1, N1, g1, g2, hF⟩ := FR_start hM hN hR
  have hn := hR.1.2.2
  have e17 : N1 6 17 = nI n := by rw [hF.2.1.1 6 (by omega) (by omega) (by omega) (by omega) (by omega)]; exact hR.1.2.1
  obtain ⟨w, -, hw1, hw2⟩ := X6_sl_l (N := N1) (Q := Q) (c := c) (p := p) (x3 := 0) (x4 := 0) (k37 := fun _ _ _ _ _ => none) e17 hn n FU 0 (N1 11) (by omega) (by have := FU_eq; omega) (fun r hr => by omega) (fun _ _ => rfl)
  have hRl : RS (va_up (gS M1 134) 2 (mpL n (lnQ Q c (gS M1 134 2)) (gS M1 134 2))) w n s := hF.2.2.lanes hc hw1 hw2
  have hF2 : FR M0 N0 (pS M1 134 (va_up (gS M1 134) 2 (mpL n (lnQ Q c (gS M1 134 2)) (gS M1 134 2)))) (va_up N1 11 w) n s := ⟨hF.1.tr (kpM_pS (by omega)), hF.2.1.tr kpN_11, by rw [va_up_self]; exact hRl.pS⟩
  obtain ⟨m3, g3⟩ := X2_puc' (B := B) hB hF2.2.2.okT
  obtain ⟨N3, g4, hk⟩ := X6_clears hF2
  refine ⟨_, M1, _, m3, N1, va_up N1 11 w, N3, g1, X2_lanes hF.2.2.1.1 hn, g3, g2, fun k37 x3 x4 => ?_, g4, hF2.1.tr (kpM_pS (by omega)), hk⟩
  obtain ⟨w', g5, h1', h2'⟩ := X6_sl_l (N := N1) (Q := Q) (c := c) (p := p) (x3 := x3) (x4 := x4) (k37 := k37) e17 hn n FU 0 (N1 11) (by omega) (by have := FU_eq; omega) (fun r hr => by omega) (fun _ _ => rfl)
  rw [va_up_eta] at g5
  have ew : w' = w := by
    funext j
    by_cases hj : j < 9 ∨ 9 + n ≤ j
    · rw [h2' j hj, hw2 j hj]
    · have : j = 9 + (j - 9) := by omega
      rw [this, h1' (j - 9) (by omega), hw1 (j - 9) (by omega)]
  rw [ew] at g5
  exact g5
theorem sort_skip {N0 N : Mem} {n Q : Nat} {p x3 x4 : Int32} (hn : N 6 17 = nI n) (hn7 : n ≤ 7) (hQ : Q < 128) : ∀ (k fu a : Nat), a + k ≤ 2 ^ n → (∀ i, a ≤ i → i < a + k → sub i Q = false) → fX6_sorting_l37 p (fu + k) (nI Q) x3 x4 (nI a) N = fX6_sorting_l37 p fu (nI Q) x3 x4 (nI (a + k)) N := by
  intro k
  induction k with
  | zero => intro fu a _ _; rfl
  | succ k ih =>
    intro fu a ha hs
    have h2 : 2 ^ n ≤ 128 := (Nat.pow_le_pow_right (by omega) hn7 : 2 ^ n ≤ 2 ^ 7)
    have c : ¬ nI (2 ^ n) ≤ nI a := nI_ge (by omega) (by omega)
    have hsub := sub_i32 Q hQ a (by omega)
    rw [hs a (by omega) (by omega)] at hsub
    have hne : ¬ nI a &&& (nI Q ^^^ (-1)) = 0 := of_decide_eq_false hsub
    show fX6_sorting_b37 p (fX6_sorting_l37 p (fu + k)) (nI Q) x3 x4 (nI a) N = _
    simp only [fX6_sorting_b37, fX6_sorting_b184, chk_of q17, c17, hn, shl_n n (by omega), if_neg c, if_neg hne, n1a]
    rw [ih fu (a + 1) (by omega) (fun i h1 h3 => hs i (by omega) (by omega)), show a + 1 + k = a + (k + 1) by omega]
def sW : Option (Nat × Nat) → Int32
  | some q => nI q.2
  | none => -1000000
theorem sort_l {M0 N0 : Mem} {n s Q : Nat} {p : Int32} (h0 : RR M0 N0) (hR : RS (gS M0 4) (N0 6) n s) (hQ : Q < 2 ^ n) : ∀ (g c fu fu2 t : Nat) (M N : Mem) (o : Option (Nat × Nat)), 128 - c ≤ g → sub c Q = true → c < 128 → t ≤ c → 128 < fu + c → 128 < fu2 + c → kpM M0 M → kpN N0 N → sB (o.map (·.1)) ≤ 61 → (∀ q, o = some q → q.2 < 128) → ∃ r M' N', fX5_sorting_l44 p fu (nI Q) (nI (sB (o.map (·.1)))) (sW o) (nI c) (nI t) M = some (r, M') ∧ fX6_sorting_l37 p fu2 (nI Q) (sW o) (oI (o.map (·.1))) (nI c) N = some (r, N') ∧ RR M' N' := by
  have hn := hR.1.2.2
  have h2n : 2 ^ n ≤ 128 := (Nat.pow_le_pow_right (by omega) hn : 2 ^ n ≤ 2 ^ 7)
  have hQ128 : Q < 128 := by omega
  intro g
  induction g with
  | zero => intro c fu fu2 t M N o h1 _ h3; omega
  | succ g ih =>
    intro c fu fu2 t M N o hg hsub hc ht hf hf2 hM hN hB ho
    obtain ⟨f, rfl⟩ : ∃ f, fu = f + 1 := ⟨fu - 1, by omega⟩
    obtain ⟨f2, rfl⟩ : ∃ f, fu2 = f + 1 := ⟨fu2 - 1, by omega⟩
    have hcQ := sub_le hsub
    have e17 : ∀ N' : Mem, kpN N0 N' → N' 6 17 = nI n := fun N' hN' => by rw [hN'.1 6 (by omega) (by omega) (by omega) (by omega) (by omega)]; exact hR.1.2.1
    obtain ⟨P, M1, m2, m3, N1, N2, N3, g1, g2, g3, g4, g5, g6, hk3, hkN⟩ := sort_try (p := p) (Q := Q) hR hM hN hc hB
    obtain ⟨n1, n2, n3⟩ := nx_all Q hQ128 c hc hsub
    have c1 : ¬ (128 : Int32) ≤ nI t := nI_ge (b := 128) (by omega) (by omega)
    have c2 : ¬ nI (2 ^ n) ≤ nI c := nI_ge (by omega) (by omega)
    have hsb : nI c &&& (nI Q ^^^ (-1)) = 0 := of_decide_eq_true ((sub_i32 Q hQ128 c hc).trans hsub)
    have key := ff_min (P := P) (B := sB (o.map (·.1))) 61 0 hB
    rw [Nat.zero_add] at key
    -- what comes behind the choice, with the best so far
    have fin : ∀ (o' : Option (Nat × Nat)), sB (o'.map (·.1)) ≤ 61 → (∀ q, o' = some q → q.2 < 128) → ∃ r M' N', fX5_sorting_b99 p (fX5_sorting_l44 p f) (nI Q) (nI (sB (o'.map (·.1)))) (sW o') (nI c) (nI t) (pS (pS M1 134 m2) 134 m3) = some (r, M') ∧ fX6_sorting_l37 p f2 (nI Q) (sW o') (oI (o'.map (·.1))) (nI (c + 1)) N3 = some (r, N') ∧ RR M' N' := by
      intro o' hB' ho'
      simp only [fX5_sorting_b99, fX5_nextSubset, bdP_s, nx_i32 Q hQ128 c hc]
      have ez : (nI (nx c Q) = 0) = (nx c Q = 0) := propext (nI_eq (b := 0) (by omega) (by omega))
      by_cases hz : nx c Q = 0
      · simp only [ez, if_pos hz, fX5_sorting_b112, fX5_sorting_b121]
        have hsk := sort_skip (N0 := N0) (p := p) (x3 := sW o') (x4 := oI (o'.map (·.1))) (e17 N3 hkN) hn hQ128 (2 ^ n - (c + 1)) (f2 - (2 ^ n - (c + 1))) (c + 1) (by omega) (fun i h1 h3 => n3 i (by omega) (by omega) (Or.inl hz))
        rw [show f2 - (2 ^ n - (c + 1)) + (2 ^ n - (c + 1)) = f2 by omega, show c + 1 + (2 ^ n - (c + 1)) = 2 ^ n by omega] at hsk
        obtain ⟨f3, hf3⟩ : ∃ f3, f2 - (2 ^ n - (c + 1)) = f3 + 1 := ⟨f2 - (2 ^ n - (c + 1)) - 1, by omega⟩
        rw [hsk, hf3]
        have c3 : nI (2 ^ n) ≤ nI (2 ^ n) := Int32.le_refl _
        simp only [fX6_sorting_l37, fX6_sorting_b37, fX6_sorting_b190, chk_of q17, c17, e17 N3 hkN, shl_n n (by omega), if_pos c3]
        cases o' with
        | none =>
          refine ⟨-1000000, _, N3, by show (if (-1000000 : Int32) = -1000000 then _ else _) = some (-1000000, _); rw [if_pos rfl], ?_, h0.keep hk3 hkN⟩
          show (if p = 0 then some ((-1000000 : Int32), N3) else some ((-1000000 : Int32), N3)) = _
          rw [ite_self]
        | some q =>
          have hq := ho' q rfl
          have hne : ¬ nI q.2 = -1000000 := oI_ne (by omega)
          by_cases hp : p = 0
          · refine ⟨nI q.1, _, N3, ?_, ?_, h0.keep hk3 hkN⟩
            · show (if nI q.2 = -1000000 then _ else if p = 0 then some (nI q.1, _) else some (nI q.2, _)) = _
              rw [if_neg hne, if_pos hp]
            · show (if p = 0 then some (nI q.1, N3) else _) = _
              rw [if_pos hp]
          · refine ⟨nI q.2, _, N3, ?_, ?_, h0.keep hk3 hkN⟩
            · show (if nI q.2 = -1000000 then _ else if p = 0 then some (nI q.1, _) else some (nI q.2, _)) = _
              rw [if_neg hne, if_neg hp]
            · show (if p = 0 then _ else some (nI q.2, N3)) = _
              rw [if_neg hp]
      · simp only [ez, if_neg hz, n1a]
        obtain ⟨hlt, hs'⟩ := n2 hz
        have hnQ := sub_le hs'
        have hsk := sort_skip (N0 := N0) (p := p) (x3 := sW o') (x4 := oI (o'.map (·.1))) (e17 N3 hkN) hn hQ128 (nx c Q - (c + 1)) (f2 - (nx c Q - (c + 1))) (c + 1) (by omega) (fun i h1 h3 => n3 i (by omega) (by omega) (Or.inr (by omega)))
        rw [show f2 - (nx c Q - (c + 1)) + (nx c Q - (c + 1)) = f2 by omega, show c + 1 + (nx c Q - (c + 1)) = nx c Q by omega] at hsk
        rw [hsk]
        exact ih (nx c Q) f (f2 - (nx c Q - (c + 1))) (t + 1) _ N3 o' (by omega) hs' n1 (by omega) (by omega) (by omega) hk3 hkN hB' ho'
    show ∃ r M' N', fX5_sorting_b44 p (fX5_sorting_l44 p f) (nI Q) (nI (sB (o.map (·.1)))) (sW o) (nI c) (nI t) M = some (r, M') ∧ fX6_sorting_b37 p (fX6_sorting_l37 p f2) (nI Q) (sW o) (oI (o.map (·.1))) (nI c) N = some (r, N') ∧ RR M' N'
    simp only [fX5_sorting_b44, if_neg c1, g1, g2, g3, bdV_s, bdI_s, fX6_sorting_b37, chk_of q17, c17, e17 N hN, shl_n n (show n < 8 by omega), if_neg c2, if_pos hsb, g4, g5, fX6_sorting_b124, g6, fX6_sorting_b155, fX6_sorting_b151, fX6_sorting_b156, fX6_sorting_b169, fX6_sorting_b182, fX6_sorting_b184, i10, if_true, if_false, n1a]
    rw [key]
    cases hff : ff P 61 0 with
    | none =>
      simp only [oI_none, eq_self, if_true]
      exact fin o hB ho
    | some j =>
      have hj := ff_lt 61 0 j hff
      have hjn : ¬ nI j = -1000000 := oI_ne (by omega)
      by_cases hjB : j < sB (o.map (·.1))
      · simp only [if_pos hjB, oI_some, if_neg hjn]
        obtain ⟨r, M', N', q1, q2, q3⟩ := fin (some (j, c)) (by show j ≤ 61; omega) (fun q hq => by cases hq; exact hc)
        refine ⟨r, M', N', q1, ?_, q3⟩
        cases o with
        | none =>
          show (if oI none = -1000000 then _ else _) = _
          rw [oI_none, if_pos rfl]
          exact q2
        | some qo =>
          have hjo : qo.1 ≤ 61 := hB
          have hlt : ¬ nI qo.1 ≤ nI j := nI_ge hjB (by omega)
          show (if oI (some qo.1) = -1000000 then _ else if oI (some qo.1) ≤ nI j then _ else _) = _
          rw [oI_some, if_neg (oI_ne (by omega)), if_neg hlt]
          exact q2
      · simp only [if_neg hjB, oI_none, oI_some, eq_self, if_true, if_neg hjn]
        obtain ⟨r, M', N', q1, q2, q3⟩ := fin o hB ho
        refine ⟨r, M', N', q1, ?_, q3⟩
        cases o with
        | none => exact absurd (show j < 61 by omega) hjB
        | some qo =>
          have hjo : qo.1 ≤ 61 := hB
          have hle : nI qo.1 ≤ nI j := nI_le (by have : ¬ j < qo.1 := hjB; omega) (by omega)
          show (if oI (some qo.1) = -1000000 then _ else if oI (some qo.1) ≤ nI j then _ else _) = _
          rw [oI_some, if_neg (oI_ne (by omega)), if_pos hle]
          exact q2
theorem X6_queued {N : Mem} {n : Nat} (hn : N 6 17 = nI n) (hn7 : n ≤ 7) : fX6_queued N = some (nI (bN (fun r => decide (rA (N 6) r = -1)) n)) := by
  unfold fX6_queued
  rw [loopF (L := fX6_queued_l4 N) (F := bF (fun r => decide (rA (N 6) r = -1))) (fin := fun x => some x) (n := n) (by omega) (fun fu i acc hi => ?_) (fun fu acc => ?_) 0, it_bF n hn7]
  · have c : ¬ nI n ≤ nI i := nI_ge hi (by omega)
    simp only [fX6_queued_l4, fX6_queued_b4, fX6_queued_b35, chk_of q17, c17, hn, if_neg c, n2a, chk_of (bIn_n (show 2 + i < 25 by omega) (by decide)), nc (show 2 + i < 2 ^ 31 by omega), or_0, n1a, bF, rA]
    by_cases h1 : N 6 (2 + i) = -1 <;> simp [h1]
  · have c : nI n ≤ nI n := Int32.le_refl _
    simp only [fX6_queued_l4, fX6_queued_b4, chk_of q17, c17, hn, if_pos c]
theorem RS.queue {m : Mem} {row : Nat → Int32} {n s : Nat} (h : RS m row n s) : fX2_whoIsAt (-1) m = some (nI (bN (fun r => decide (rA row r = -1)) n)) := by
  rw [X2_whoIsAt h.1.1 h.1.2.2]
  congr 2
  exact bN_congr n (fun r hr => by rw [h.ag3 r hr])
theorem q_sorting (x : Int32) : EqI (fX5_sorting x) (fX6_sorting x) := fun M N h => by
  obtain ⟨n, s, hR, ha⟩ := h.1
  have e1 : M 4 3 = nI n := hR.1.1
  unfold fX5_sorting fX6_sorting
  simp only [X5_noStair e1 hR.1.2.2, X6_isStair hR.1.2.1 hR.1.2.2, X5_outside, X6_inB, bdP_s, hR.queue, X6_queued hR.1.2.1 hR.1.2.2]
  by_cases h0 : n = 0
  · simp only [h0, decide_true, Bool.not_true, b2i_f, b2i_t, i10, eq_self, if_true, if_false]
    exact ⟨_, M, N, rfl, rfl, h⟩
  · simp only [h0, decide_false, Bool.not_false, b2i_f, b2i_t, i10, eq_self, if_true, if_false]
    by_cases hb : inB x 0 1 = true
    · simp only [hb, Bool.not_true, Bool.not_false, b2i_f, b2i_t, i10, eq_self, if_true, if_false]
      exact sort_l (p := x) h hR (bN_lt _ n) 128 0 FU FU 0 M N none (by omega) (sub_0 _) (by omega) (by omega) (by have := FU_eq; omega) (by have := FU_eq; omega) kpM.rf kpN.rf (Nat.le_refl _) (fun q hq => by cases hq)
    · rw [Bool.not_eq_true] at hb
      simp only [hb, Bool.not_true, Bool.not_false, b2i_f, b2i_t, i10, eq_self, if_true, if_false]
      exact ⟨_, M, N, rfl, rfl, h⟩
