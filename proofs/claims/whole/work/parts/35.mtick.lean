/-! a tick of the reference -/
def TT (M : Mem) (c : Nat) (row w : Nat → Int32) : Mem := va_up (va_up M c row) 12 w
theorem TT_c {M : Mem} {c : Nat} {row w : Nat → Int32} (hc : c ≠ 12) : (TT M c row w) c = row := by unfold TT; rw [va_up_ne _ _ hc, va_up_self]
theorem TT_12 {M : Mem} {c : Nat} {row w : Nat → Int32} : (TT M c row w) 12 = w := by unfold TT; rw [va_up_self]
theorem TT_pC {M m : Mem} {c : Nat} {row w : Nat → Int32} (hc : c ≠ 12) : pC (TT M c row w) c m = TT M c (m 0) w := by
  unfold pC TT
  rw [va_up_c _ _ _ (fun q => hc q.symm), va_up_u]
theorem TT_u {M : Mem} {c k : Nat} {row w : Nat → Int32} {v : Int32} (hc : c ≠ 12) : mp (TT M c row w) c k v = TT M c (upd row k v) w := by
  rw [mp_at, TT_c hc]
  unfold TT
  rw [va_up_c _ _ _ (fun q => hc q.symm), va_up_u]
theorem TT_w {M : Mem} {c k : Nat} {row w : Nat → Int32} {v : Int32} : mp (TT M c row w) 12 k v = TT M c row (upd w k v) := by
  rw [mp_at, TT_12]
  unfold TT
  rw [va_up_u]
def nF (n : Nat) (S : Int32) (K L : Nat → Int32) (odd : Bool) (A0 : Nat → Int32) (s l r : Nat) (A : Nat → Int32) : Nat → Int32 := if A0 r = nI s ∧ L r = nI l then moA n S K L odd r A else A
/-- what the first part of a tick reads of a row -/
def rdy (row : Nat → Int32) (n s : Nat) (K L : Nat → Int32) (t : Int32) : Prop := row 17 = nI n ∧ row 16 = nI s ∧ rK row = K ∧ rL row = L ∧ row 0 = t
theorem rdy_sm {row row' : Nat → Int32} {n s : Nat} {K L : Nat → Int32} {t : Int32} (h : rdy row n s K L t) (hs : sm row row') : rdy row' n s K L t := ⟨by rw [hs 17 (by omega)]; exact h.1, by rw [hs 16 (by omega)]; exact h.2.1, by rw [sm_K hs]; exact h.2.2.1, by rw [sm_L hs]; exact h.2.2.2.1, by rw [hs 0 (by omega)]; exact h.2.2.2.2⟩
theorem X6_t50 {M : Mem} {c n s : Nat} {K L : Nat → Int32} {t : Int32} {w : Nat → Int32} (hc : c ≠ 12) (hn7 : n ≤ 7) (hs : s ≤ 12) {k36 : Int32 → Mem → Option Mem} {k42 : Int32 → Int32 → Mem → Option Mem} {x l : Nat} (hx : x < 13) (hl : l < 3) : ∀ (k fu i : Nat) (row : Nat → Int32), i + k = n → k < fu → rdy row n s K L t → ∃ row', fX6_tick_l50 c k36 k42 fu (nI x) (nI l) (nI i) (TT M c row w) = fX6_tick_b95 c k36 k42 (nI x) (nI l) (TT M c row' w) ∧ sm row row' ∧ rA row' = it (nF n (nI s) K L (odB t) (rA w) x l) k i (rA row) := by
  intro k
  induction k with
  | zero =>
    intro fu i row hi hf hr
    obtain ⟨f, rfl, -⟩ := fs hf
    have cc : nI n ≤ nI i := nI_le (by omega) (by omega)
    refine ⟨row, ?_, sm_rf, rfl⟩
    simp only [fX6_tick_l50, fX6_tick_b50, chk_of q17, c17, TT_c hc, hr.1, if_pos cc]
  | succ k ih =>
    intro fu i row hi hf hr
    obtain ⟨f, rfl, hf'⟩ := fs hf
    have cc : ¬ nI n ≤ nI i := nI_ge (by omega) (by omega)
    have hi7 : i < 7 := by omega
    obtain ⟨h17, h16, hK, hL, h0⟩ := id hr
    have e9 : row (9 + i) = L i := by rw [← hL]; rfl
    have ew : w (2 + i) = rA w i := rfl
    simp only [fX6_tick_l50, fX6_tick_b50, fX6_tick_b89, chk_of q17, c17, TT_c hc, TT_12, h17, if_neg cc, n2a, n9a, chk_of (bIn_n (show 2 + i < 25 by omega) (by decide)), chk_of (bIn_n (show 9 + i < 25 by omega) (by decide)), nc (show 2 + i < 2 ^ 31 by omega), nc (show 9 + i < 2 ^ 31 by omega), n1a, e9, ew]
    by_cases h1 : rA w i = nI x
    · by_cases h2 : L i = nI l
      · have g0 : (gC (TT M c row w) c) 0 = row := TT_c hc
        obtain ⟨row1, g1, s1, a1⟩ := X6_moves (M := gC (TT M c row w) c) (n := n) (r := i) (s := s) (K := K) (L := L) (A := rA row) (S := nI s) (t := t) (by rw [g0]; exact h17) hn7 hi7 (by rw [g0]; exact h16) hs (by rw [g0]; exact hK) (by rw [g0]; exact hL) (by rw [g0]) (by rw [g0]; exact h16) (by rw [g0]; exact h0)
        rw [g0] at s1
        obtain ⟨row2, g2, s2, a2⟩ := ih f (i + 1) row1 (by omega) (by omega) (rdy_sm hr s1)
        refine ⟨row2, ?_, sm_tr s1 s2, ?_⟩
        · rw [if_pos h1, if_pos h2, g1]
          simp only [bdV_s, TT_pC hc, va_up_self]
          exact g2
        · rw [a2, a1]
          show _ = it _ k (i + 1) (nF n (nI s) K L (odB t) (rA w) x l i (rA row))
          rw [show nF n (nI s) K L (odB t) (rA w) x l i (rA row) = moA n (nI s) K L (odB t) i (rA row) from if_pos ⟨h1, h2⟩]
      · obtain ⟨row2, g2, s2, a2⟩ := ih f (i + 1) row (by omega) (by omega) hr
        refine ⟨row2, ?_, s2, ?_⟩
        · rw [if_pos h1, if_neg h2]; exact g2
        · rw [a2]
          show _ = it _ k (i + 1) (nF n (nI s) K L (odB t) (rA w) x l i (rA row))
          rw [show nF n (nI s) K L (odB t) (rA w) x l i (rA row) = rA row from if_neg (fun z => h2 z.2)]
    · obtain ⟨row2, g2, s2, a2⟩ := ih f (i + 1) row (by omega) (by omega) hr
      refine ⟨row2, ?_, s2, ?_⟩
      · rw [if_neg h1]; exact g2
      · rw [a2]
        show _ = it _ k (i + 1) (nF n (nI s) K L (odB t) (rA w) x l i (rA row))
        rw [show nF n (nI s) K L (odB t) (rA w) x l i (rA row) = rA row from if_neg (fun z => h1 z.1)]
def nL2 (n : Nat) (S : Int32) (K L : Nat → Int32) (odd : Bool) (A0 : Nat → Int32) (s : Nat) (A : Nat → Int32) : Nat → Int32 := it (nF n S K L odd A0 s 1) n 0 (it (nF n S K L odd A0 s 0) n 0 A)
theorem X6_t42 {M : Mem} {c n s : Nat} {K L : Nat → Int32} {t : Int32} {w : Nat → Int32} (hc : c ≠ 12) (hn7 : n ≤ 7) (hs : s ≤ 12) {k36 : Int32 → Mem → Option Mem} {x : Nat} (hx : x < 13) {row : Nat → Int32} (hr : rdy row n s K L t) : ∃ row', fX6_tick_l42 c k36 FU (nI x) 0 (TT M c row w) = fX6_tick_b101 c k36 (nI x) (TT M c row' w) ∧ sm row row' ∧ rA row' = nL2 n (nI s) K L (odB t) (rA w) x (rA row) := by
  obtain ⟨f, hF⟩ : ∃ f, FU = f + 1 + 1 + 1 := ⟨997, FU_eq⟩
  have hfu : n < FU := by have := FU_eq; omega
  obtain ⟨row1, g1, s1, a1⟩ := X6_t50 (M := M) (w := w) hc hn7 hs (k36 := k36) (k42 := fX6_tick_l42 c k36 (f + 1 + 1)) hx (show 0 < 3 by omega) n FU 0 row (by omega) hfu hr
  obtain ⟨row2, g2, s2, a2⟩ := X6_t50 (M := M) (w := w) hc hn7 hs (k36 := k36) (k42 := fX6_tick_l42 c k36 (f + 1)) hx (show 1 < 3 by omega) n FU 0 row1 (by omega) hfu (rdy_sm hr s1)
  refine ⟨row2, ?_, sm_tr s1 s2, ?_⟩
  · rw [show fX6_tick_l42 c k36 FU = fX6_tick_l42 c k36 (f + 1 + 1 + 1) by rw [hF]]
    show fX6_tick_b42 c k36 (fX6_tick_l42 c k36 (f + 1 + 1)) (nI x) 0 (TT M c row w) = _
    unfold fX6_tick_b42
    rw [if_neg (by decide)]
    rw [show fX6_tick_l50 c k36 (fX6_tick_l42 c k36 (f + 1 + 1)) FU (nI x) 0 0 (TT M c row w) = _ from g1]
    unfold fX6_tick_b95
    show fX6_tick_b42 c k36 (fX6_tick_l42 c k36 (f + 1)) (nI x) (nI 0 + 1) (TT M c row1 w) = _
    unfold fX6_tick_b42
    rw [if_neg (by decide)]
    rw [show fX6_tick_l50 c k36 (fX6_tick_l42 c k36 (f + 1)) FU (nI x) (nI 0 + 1) 0 (TT M c row1 w) = _ from g2]
    unfold fX6_tick_b95
    show fX6_tick_b42 c k36 (fX6_tick_l42 c k36 f) (nI x) (nI 1 + 1) (TT M c row2 w) = _
    unfold fX6_tick_b42
    rw [if_pos (by decide)]
  · rw [a2, a1]; rfl
theorem m1_neg : (nI 0 - 1 : Int32) < 0 := by decide
theorem X6_t36 {M : Mem} {c n s : Nat} {K L : Nat → Int32} {t : Int32} {w : Nat → Int32} (hc : c ≠ 12) (hn7 : n ≤ 7) (hs : s ≤ 12) : ∀ (x fu : Nat) (row : Nat → Int32), x ≤ s → x < fu → rdy row n s K L t → ∃ row', fX6_tick_l36 c fu (nI x - 1) (TT M c row w) = fX6_tick_b107 c (TT M c row' w) ∧ sm row row' ∧ rA row' = dn (nL2 n (nI s) K L (odB t) (rA w)) x (rA row) := by
  intro x
  induction x with
  | zero =>
    intro fu row hxs hf hr
    obtain ⟨f, rfl, -⟩ := fs hf
    refine ⟨row, ?_, sm_rf, rfl⟩
    show fX6_tick_b36 c (fX6_tick_l36 c f) (nI 0 - 1) (TT M c row w) = _
    unfold fX6_tick_b36
    rw [if_pos m1_neg]
  | succ x ih =>
    intro fu row hxs hf hr
    obtain ⟨f, rfl, hf'⟩ := fs hf
    have e1 : nI (x + 1) - 1 = nI x := nI_pred x
    obtain ⟨row1, g1, s1, a1⟩ := X6_t42 (M := M) (w := w) hc hn7 hs (k36 := fX6_tick_l36 c f) (x := x) (by omega) hr
    obtain ⟨row2, g2, s2, a2⟩ := ih f row1 (by omega) (by omega) (rdy_sm hr s1)
    refine ⟨row2, ?_, sm_tr s1 s2, ?_⟩
    · rw [e1]
      show fX6_tick_b36 c (fX6_tick_l36 c f) (nI x) (TT M c row w) = _
      unfold fX6_tick_b36
      rw [if_neg (nI_pos (by omega)), g1]
      unfold fX6_tick_b101
      rw [show nI x + (-1) = nI x - 1 from (Int32.sub_eq_add_neg _ _).symm]
      exact g2
    · rw [a2, a1]; rfl
/-- the order of the loops is the order of the numbers -/
theorem it7 (F : Nat → (Nat → Int32) → Nat → Int32) : ∀ n, n ≤ 7 → ∀ A, it F n 0 A = (fun r A => if r < n then F r A else A) 6 ((fun r A => if r < n then F r A else A) 5 ((fun r A => if r < n then F r A else A) 4 ((fun r A => if r < n then F r A else A) 3 ((fun r A => if r < n then F r A else A) 2 ((fun r A => if r < n then F r A else A) 1 ((fun r A => if r < n then F r A else A) 0 A))))))
  | 0, _, _ => rfl
  | 1, _, _ => rfl
  | 2, _, _ => rfl
  | 3, _, _ => rfl
  | 4, _, _ => rfl
  | 5, _, _ => rfl
  | 6, _, _ => rfl
  | 7, _, _ => rfl
  | n + 8, h, _ => by omega
theorem gK_nF {n : Nat} {S : Int32} {K L A0 : Nat → Int32} {odd : Bool} {s l r b : Nat} (A : Nat → Int32) (hr : r < 7) (hl : l < 2) (hb : b = 16 * s + (1 - l) * 8 + (7 - r)) : gK n S K L odd A0 b A = if r < n then nF n S K L odd A0 s l r A else A := by
  have h1 : b % 8 = 7 - r := by omega
  have h2 : b / 16 = s := by omega
  have h3 : 1 - b / 8 % 2 = l := by omega
  have h4 : 7 - b % 8 = r := by omega
  unfold gK nF moA
  rw [h4, h2, h3, h1]
  by_cases c1 : r < n
  · rw [if_pos c1]
    by_cases c2 : A0 r = nI s ∧ L r = nI l
    · rw [if_pos c2]
      by_cases c3 : mv K odd r = true
      · rw [if_pos c3, if_pos ⟨⟨by omega, c1⟩, c2.1, c2.2, c3⟩]
      · rw [if_neg c3, if_neg (fun z => c3 z.2.2.2)]
    · rw [if_neg c2, if_neg (fun z => c2 ⟨z.2.1, z.2.2.1⟩)]
  · rw [if_neg c1, if_neg (fun z => c1 z.1.2)]
theorem gK_no {n : Nat} {S : Int32} {K L A0 : Nat → Int32} {odd : Bool} {b : Nat} (A : Nat → Int32) (hb : b % 8 = 0) : gK n S K L odd A0 b A = A := by
  unfold gK
  rw [if_neg (fun z => z.1.1 hb)]
theorem dn_16 {n : Nat} {S : Int32} {K L A0 : Nat → Int32} {odd : Bool} (hn : n ≤ 7) : ∀ (s : Nat) (A : Nat → Int32), dn (gK n S K L odd A0) (16 * s) A = dn (nL2 n S K L odd A0) s A
  | 0, _ => rfl
  | s + 1, A => by
    show dn (gK n S K L odd A0) (16 * s) (gK n S K L odd A0 (16 * s) (gK n S K L odd A0 (16 * s + 1) (gK n S K L odd A0 (16 * s + 2) (gK n S K L odd A0 (16 * s + 3) (gK n S K L odd A0 (16 * s + 4) (gK n S K L odd A0 (16 * s + 5) (gK n S K L odd A0 (16 * s + 6) (gK n S K L odd A0 (16 * s + 7) (gK n S K L odd A0 (16 * s + 8) (gK n S K L odd A0 (16 * s + 9) (gK n S K L odd A0 (16 * s + 10) (gK n S K L odd A0 (16 * s + 11) (gK n S K L odd A0 (16 * s + 12) (gK n S K L odd A0 (16 * s + 13) (gK n S K L odd A0 (16 * s + 14) (gK n S K L odd A0 (16 * s + 15) A)))))))))))))))) = _
    rw [gK_nF (l := 0) (r := 0) (s := s) (b := 16 * s + 15) A (by omega) (by omega) (by omega)]
    rw [gK_nF (l := 0) (r := 1) (s := s) (b := 16 * s + 14) _ (by omega) (by omega) (by omega)]
    rw [gK_nF (l := 0) (r := 2) (s := s) (b := 16 * s + 13) _ (by omega) (by omega) (by omega)]
    rw [gK_nF (l := 0) (r := 3) (s := s) (b := 16 * s + 12) _ (by omega) (by omega) (by omega)]
    rw [gK_nF (l := 0) (r := 4) (s := s) (b := 16 * s + 11) _ (by omega) (by omega) (by omega)]
    rw [gK_nF (l := 0) (r := 5) (s := s) (b := 16 * s + 10) _ (by omega) (by omega) (by omega)]
    rw [gK_nF (l := 0) (r := 6) (s := s) (b := 16 * s + 9) _ (by omega) (by omega) (by omega)]
    rw [gK_no (b := 16 * s + 8) _ (by omega)]
    rw [gK_nF (l := 1) (r := 0) (s := s) (b := 16 * s + 7) _ (by omega) (by omega) (by omega)]
    rw [gK_nF (l := 1) (r := 1) (s := s) (b := 16 * s + 6) _ (by omega) (by omega) (by omega)]
    rw [gK_nF (l := 1) (r := 2) (s := s) (b := 16 * s + 5) _ (by omega) (by omega) (by omega)]
    rw [gK_nF (l := 1) (r := 3) (s := s) (b := 16 * s + 4) _ (by omega) (by omega) (by omega)]
    rw [gK_nF (l := 1) (r := 4) (s := s) (b := 16 * s + 3) _ (by omega) (by omega) (by omega)]
    rw [gK_nF (l := 1) (r := 5) (s := s) (b := 16 * s + 2) _ (by omega) (by omega) (by omega)]
    rw [gK_nF (l := 1) (r := 6) (s := s) (b := 16 * s + 1) _ (by omega) (by omega) (by omega)]
    rw [gK_no (b := 16 * s) _ (by omega)]
    rw [dn_16 hn s]
    show _ = dn (nL2 n S K L odd A0) s (nL2 n S K L odd A0 s A)
    unfold nL2
    rw [it7 _ n hn, it7 _ n hn]
