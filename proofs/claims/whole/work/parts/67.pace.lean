/-! pace: levels -/
def lv (m0 : Mem) (n s : Nat) (d : Nat → Int32) : Nat → (Nat → Int32)
  | 0 => m0 3
  | j + 1 => tkA n s (nI s) (d j) (m0 1) (m0 2) (odB (m0 0 2 + nI j)) (lv m0 n s d j)
theorem lv_congr {m0 : Mem} {n s : Nat} {d d' : Nat → Int32} : ∀ j, (∀ i, i < j → d i = d' i) → lv m0 n s d j = lv m0 n s d' j
  | 0, _ => rfl
  | j + 1, h => by
    show tkA n s (nI s) (d j) (m0 1) (m0 2) (odB (m0 0 2 + nI j)) (lv m0 n s d j) = tkA n s (nI s) (d' j) (m0 1) (m0 2) (odB (m0 0 2 + nI j)) (lv m0 n s d' j)
    rw [lv_congr j (fun i hi => h i (by omega)), h j (by omega)]
def LV (m0 : Mem) (n s : Nat) (d : Nat → Int32) (j : Nat) (m : Mem) : Prop := (m 0 3 = nI n ∧ m 0 0 = nI s ∧ m 0 2 = m0 0 2 + nI j) ∧ ag n (m 1) (m0 1) ∧ ag n (m 2) (m0 2) ∧ ag n (m 3) (lv m0 n s d j)
def s012 (x : Int32) : Prop := x = 0 ∨ x = 1 ∨ x = 2
theorem lv_ok {m0 : Mem} {n s : Nat} {d : Nat → Int32} (ok : okT m0 n s) (hd : ∀ i, s012 (d i)) : ∀ j q, q < n → okA s (lv m0 n s d j q)
  | 0, q, hq => (ok.1.2.2.2.2 q hq).2
  | j + 1, q, hq => okA_tk rfl ok.1.2.2.2.1 ok.2.2 (hd j) (fun q hq => lv_ok ok hd j q hq) q hq
theorem LV_pass {m0 m : Mem} {n s j : Nat} {d : Nat → Int32} (ok : okT m0 n s) (hd : ∀ i, s012 (d i)) (h : LV m0 n s d j m) (hsp : m 0 1 = d j) : ∃ r m', fX2_pass m = some (r, m') ∧ LV m0 n s d (j + 1) m' := by
  obtain ⟨⟨a1, a2, a3⟩, b1, b2, b3⟩ := h
  have okm : okS m n s := ⟨a1, ok.1.2.1, a2, ok.1.2.2.2.1, fun r hr => ⟨by rw [b2 r hr]; exact (ok.1.2.2.2.2 r hr).1, by rw [b3 r hr]; exact lv_ok ok hd j r hr⟩⟩
  obtain ⟨T', hp⟩ := X2_pass okm
  refine ⟨_, _, hp, ⟨a1, a2, ?_⟩, b1, b2, ?_⟩
  · show m 0 2 + 1 = _
    rw [a3, Int32.add_assoc, n1a]
  · show ag n (tkA n s (m 0 0) (m 0 1) (m 1) (m 2) (odB (m 0 2)) (m 3)) (lv m0 n s d (j + 1))
    rw [a2, hsp, a3]
    exact tkA_congr b1 b2 b3
theorem LV.d {m0 m : Mem} {n s j : Nat} {d d' : Nat → Int32} (h : LV m0 n s d j m) (hd : ∀ i, i < j → d i = d' i) : LV m0 n s d' j m := ⟨h.1, h.2.1, h.2.2.1, by rw [← lv_congr j hd]; exact h.2.2.2⟩
theorem LV.congr {m0 m m' : Mem} {n s j : Nat} {d : Nat → Int32} (hn : n ≤ 7) (h : LV m0 n s d j m) (h0 : ∀ k, k < 4 → m' 0 k = m 0 k) (h1 : ∀ i r, 1 ≤ i → i ≤ 3 → r < 7 → m' i r = m i r) : LV m0 n s d j m' := by
  obtain ⟨⟨a1, a2, a3⟩, b1, b2, b3⟩ := h
  refine ⟨⟨by rw [h0 3 (by omega)]; exact a1, by rw [h0 0 (by omega)]; exact a2, by rw [h0 2 (by omega)]; exact a3⟩, fun r hr => ?_, fun r hr => ?_, fun r hr => ?_⟩
  · rw [h1 1 r (by omega) (by omega) (by omega)]; exact b1 r hr
  · rw [h1 2 r (by omega) (by omega) (by omega)]; exact b2 r hr
  · rw [h1 3 r (by omega) (by omega) (by omega)]; exact b3 r hr
theorem LV.sp {m0 m : Mem} {n s j : Nat} {d : Nat → Int32} {v : Int32} (h : LV m0 n s d j m) : LV m0 n s d j (mp m 0 1 v) := h
theorem LV_0 {m0 : Mem} {n s : Nat} {d : Nat → Int32} (ok : okT m0 n s) : LV m0 n s d 0 m0 := ⟨⟨ok.1.1, ok.1.2.2.1, (Int32.add_zero _).symm⟩, ag_rf, ag_rf, ag_rf⟩
theorem LV.pS {M m m0 : Mem} {c : Nat} {n s j : Nat} {d : Nat → Int32} (h : LV m0 n s d j m) : LV m0 n s d j (gS (pS M c m) c) := by
  unfold LV
  rw [gS_pS 0 (by omega), gS_pS 1 (by omega), gS_pS 2 (by omega), gS_pS 3 (by omega)]
  exact h
/-- the class builds its levels -/
theorem lev_l {m0 : Mem} {n s t : Nat} {d : Nat → Int32} {p1 : Int32} (ok : okT m0 n s) (hd : ∀ i, s012 (d i)) (ht : t ≤ 6) : ∀ (k fu j : Nat) (M : Mem), j + k = t → k < fu → (∀ i, i ≤ j → LV m0 n s d i (gS M (168 + 5 * i))) → (∀ i, i < t → M 140 i = d i) → ∃ M', fX5_passLevels_l2 p1 (nI t) fu (nI j) M = some M' ∧ (∀ i, i ≤ t → LV m0 n s d i (gS M' (168 + 5 * i))) ∧ (∀ i, i < 168 → M' i = M i) := by
  intro k
  induction k with
  | zero =>
    intro fu j M hj hf hl _
    obtain ⟨f, rfl, -⟩ := fs hf
    have c : nI t ≤ nI j := nI_le (by omega) (by omega)
    have e : j = t := by omega
    subst e
    exact ⟨M, by simp only [fX5_passLevels_l2, fX5_passLevels_b2, if_pos c], hl, fun _ _ => rfl⟩
  | succ k ih =>
    intro fu j M hj hf hl h140
    obtain ⟨f, rfl, hf'⟩ := fs hf
    have c : ¬ nI t ≤ nI j := nI_ge (by omega) (by omega)
    obtain ⟨M1, g1, k1, k2, k3⟩ := X2_become (c := 168 + 5 * (j + 1)) (d := 168 + 5 * j) M (by omega)
    have e140 : M1 140 = M 140 := k1 140 (by omega) (by omega) (by omega) (by omega)
    have hl1 : LV m0 n s d j (gS M1 (168 + 5 * (j + 1))) := (hl j (by omega)).congr ok.1.2.1 k2 k3
    have hl2 : LV m0 n s d j (gS (mp M1 (168 + 5 * (j + 1)) 1 (d j)) (168 + 5 * (j + 1))) := by
      rw [show gS (mp M1 (168 + 5 * (j + 1)) 1 (d j)) (168 + 5 * (j + 1)) = mp (gS M1 (168 + 5 * (j + 1))) 0 1 (d j) from gS_mp (i := 0)]
      exact hl1.sp
    obtain ⟨r, m', g2, hl3⟩ := LV_pass ok hd hl2 (by
      rw [show gS (mp M1 (168 + 5 * (j + 1)) 1 (d j)) (168 + 5 * (j + 1)) = mp (gS M1 (168 + 5 * (j + 1))) 0 1 (d j) from gS_mp (i := 0)]
      show (mp (gS M1 (168 + 5 * (j + 1))) 0 1 (d j)) 0 1 = d j
      rw [mp_at, va_up_self, upd_s])
    have out : ∀ i, i < 168 + 5 * (j + 1) → pS (mp M1 (168 + 5 * (j + 1)) 1 (d j)) (168 + 5 * (j + 1)) m' i = M i := fun i hi => by
      rw [pS_out (by omega), mp_at, va_up_ne _ _ (by omega), k1 i (by omega) (by omega) (by omega) (by omega)]
    obtain ⟨M', g3, q1, q2⟩ := ih f (j + 1) (pS (mp M1 (168 + 5 * (j + 1)) 1 (d j)) (168 + 5 * (j + 1)) m') (by omega) (by omega) (fun i hi => by
      by_cases h : i = j + 1
      · subst h; exact hl3.pS
      · have hg : ∀ x, x ≤ 3 → gS (pS (mp M1 (168 + 5 * (j + 1)) 1 (d j)) (168 + 5 * (j + 1)) m') (168 + 5 * i) x = gS M (168 + 5 * i) x := fun x hx => out _ (by omega)
        exact (hl i (by omega)).congr ok.1.2.1 (fun k _ => by rw [hg 0 (by omega)]) (fun x r _ h3 _ => by rw [hg x h3])) (fun i hi => by rw [out 140 (by omega)]; exact h140 i hi)
    refine ⟨M', ?_, q1, fun i hi => (q2 i hi).trans (out i (by omega))⟩
    simp only [fX5_passLevels_l2, fX5_passLevels_b2, if_neg c, n1a, chk_of (bIn_n (show j + 1 < 7 by omega) (by decide)), chk_of (bIn_n (show j < 7 by omega) (by decide)), chk_of (bIn_n (show j < 6 by omega) (by decide)), nc (show j + 1 < 2 ^ 31 by omega), nc (show j < 2 ^ 31 by omega), g1, bdV_s, e140, h140 j (by omega), g2, bdI_s]
    exact g3
/-! digits -/
def dgN (code t i : Nat) : Nat := code / 3 ^ (t - 1 - i) % 3
theorem dg_012 (code t i : Nat) : s012 (nI (dgN code t i)) := by
  have h : dgN code t i < 3 := Nat.mod_lt _ (by omega)
  have : dgN code t i = 0 ∨ dgN code t i = 1 ∨ dgN code t i = 2 := by omega
  rcases this with h | h | h <;> rw [h]
  · exact Or.inl rfl
  · exact Or.inr (Or.inl rfl)
  · exact Or.inr (Or.inr rfl)
theorem nIm1 (k : Nat) : nI (k + 1) + (-1) = nI k := by
  have := nI_pred k
  rw [← this, Int32.sub_eq_add_neg]
theorem nI_n1 (k : Nat) : nI k + (-1) = nI k - 1 := by rw [Int32.sub_eq_add_neg]
theorem wp_l {t code : Nat} {p1 p2 : Int32} {M : Mem} (ht : t ≤ 6) (hc : code < 729) : ∀ (k fu f : Nat) (w : Nat → Int32), k ≤ f → k < fu → f ≤ t → (∀ i, k ≤ i → i < t → w i = nI (dgN code t i)) → (∀ i, i < f → w i = M 140 i) → ∃ f' w', fX5_writePaces_l10 p1 p2 fu (nI f) (nI (code / 3 ^ (t - k))) (nI k - 1) (va_up M 140 w) = fX5_writePaces_b57 p1 p2 (nI f') (va_up M 140 w') ∧ f' ≤ t ∧ (∀ i, i < t → w' i = nI (dgN code t i)) ∧ (∀ i, i < f' → w' i = M 140 i) := by
  intro k
  induction k with
  | zero =>
    intro fu f w _ hf hft h1 h2
    obtain ⟨f1, rfl, -⟩ := fs hf
    refine ⟨f, w, ?_, hft, fun i hi => h1 i (by omega) hi, h2⟩
    simp only [fX5_writePaces_l10, fX5_writePaces_b10, if_pos (show nI 0 - 1 < (0 : Int32) by decide)]
  | succ k ih =>
    intro fu f w hk hf hft h1 h2
    obtain ⟨f1, rfl, hf'⟩ := fs hf
    have c : ¬ nI k < 0 := fun h => by
      have := (nI_ltI (b := 0) (by omega) (by omega)).mp h
      omega
    have e140 : (va_up M 140 w) 140 = w := va_up_self _ _ _
    have hle : code / 3 ^ (t - (k + 1)) ≤ code := Nat.div_le_self _ _
    have e3 : (3 : Int32) = nI 3 := rfl
    have er : nI (code / 3 ^ (t - (k + 1))) - nI (code / 3 ^ (t - (k + 1))) / 3 * 3 = nI (dgN code t k) := by
      rw [e3, pk_rem (by omega) (by omega) (by omega)]
      unfold dgN
      rw [show t - 1 - k = t - (k + 1) by omega]
    have ed : nI (code / 3 ^ (t - (k + 1))) / 3 = nI (code / 3 ^ (t - k)) := by
      rw [e3, pk_div (by omega) (by omega) (by omega), Nat.div_div_eq_div_mul, ← Nat.pow_succ, show (t - (k + 1)).succ = t - k by omega]
    rw [ed] at er
    have ewk : w k = M 140 k := h2 k (by omega)
    have go : ∀ f0, k ≤ f0 → f0 ≤ t → (∀ i, i < f0 → upd w k (nI (dgN code t k)) i = M 140 i) → _ := fun f0 a b c => ih f1 f0 (upd w k (nI (dgN code t k))) a (by omega) b (fun i hi1 hi2 => by
      by_cases h : i = k
      · subst h; rw [upd_s]
      · rw [upd_n _ _ h]; exact h1 i (by omega) hi2) c
    simp only [fX5_writePaces_l10, fX5_writePaces_b10, fX5_writePaces_b42, nI_pred, if_neg c, chk_of (bIn_n (show k < 6 by omega) (by decide)), nc (show k < 2 ^ 31 by omega), er, ed, e140, mp_at, va_up_u, nI_n1, ewk]
    by_cases h : nI (dgN code t k) = M 140 k
    · rw [if_pos h]
      exact go f (by omega) hft (fun i hi => by
        by_cases hi2 : i = k
        · subst hi2; rw [upd_s]; exact h
        · rw [upd_n _ _ hi2]; exact h2 i hi)
    · rw [if_neg h]
      exact go k (by omega) (by omega) (fun i hi => by rw [upd_n _ _ (by omega)]; exact h2 i (by omega))
theorem wp {t code : Nat} {M : Mem} (ht : t ≤ 6) (hc : code < 3 ^ t) : ∃ f w, fX5_writePaces (nI code) (nI t) M = some (nI f, va_up M 140 w) ∧ f ≤ t ∧ (code = 0 → f = 0) ∧ (∀ i, i < t → w i = nI (dgN code t i)) ∧ (∀ i, i < f → w i = M 140 i) := by
  have h3 : 3 ^ t ≤ 729 := (Nat.pow_le_pow_right (by omega) ht : 3 ^ t ≤ 3 ^ 6)
  obtain ⟨f, w, g, a, b, c⟩ := wp_l (p1 := nI code) (p2 := nI t) (M := M) ht (show code < 729 by omega) t FU t (M 140) (by omega) (by have := FU_eq; omega) (by omega) (fun i h1 h2 => by omega) (fun _ _ => rfl)
  rw [Nat.sub_self, Nat.pow_zero, Nat.div_one, va_up_eta] at g
  have ez : (nI code = 0) = (code = 0) := propext (nI_eq (b := 0) (by omega) (by omega))
  by_cases h0 : code = 0
  · refine ⟨0, w, ?_, by omega, fun _ => rfl, b, fun i hi => by omega⟩
    unfold fX5_writePaces
    rw [g]
    unfold fX5_writePaces_b57
    rw [if_pos (ez.mpr h0)]
    rfl
  · refine ⟨f, w, ?_, a, fun h => absurd h h0, b, c⟩
    unfold fX5_writePaces
    rw [g]
    unfold fX5_writePaces_b57
    rw [if_neg (fun h => h0 (ez.mp h))]
def smN (d : Nat → Nat) : Nat → Nat
  | 0 => 0
  | j + 1 => smN d j + d j
theorem smN_le {d : Nat → Nat} (h : ∀ i, d i ≤ 2) : ∀ j, smN d j ≤ 2 * j
  | 0 => Nat.le_refl _
  | j + 1 => by have := smN_le h j; have := h j; show smN d j + d j ≤ _; omega
theorem dg_2 (code t i : Nat) : dgN code t i ≤ 2 := by
  have h : dgN code t i < 3 := Nat.mod_lt _ (by omega)
  omega
theorem sum_l {M : Mem} {t : Nat} {d : Nat → Nat} (ht : t ≤ 6) (h : ∀ i, i < t → M 140 i = nI (d i)) : ∀ (k fu j : Nat), j + k = t → k < fu → fX5_sumOfPaces_l4 (nI t) M fu (nI (smN d j)) (nI j) = some (nI (smN d t)) := by
  intro k
  induction k with
  | zero =>
    intro fu j hj hf
    obtain ⟨f, rfl, -⟩ := fs hf
    have c : nI t ≤ nI j := nI_le (by omega) (by omega)
    have e : j = t := by omega
    subst e
    simp only [fX5_sumOfPaces_l4, fX5_sumOfPaces_b4, if_pos c]
  | succ k ih =>
    intro fu j hj hf
    obtain ⟨f, rfl, hf'⟩ := fs hf
    have c : ¬ nI t ≤ nI j := nI_ge (by omega) (by omega)
    have g := ih f (j + 1) (by omega) (by omega)
    simp only [fX5_sumOfPaces_l4, fX5_sumOfPaces_b4, if_neg c, chk_of (bIn_n (show j < 6 by omega) (by decide)), nc (show j < 2 ^ 31 by omega), h j (by omega), nI_add, n1a]
    exact g
theorem sumP {M : Mem} {t : Nat} {d : Nat → Nat} (ht : t ≤ 6) (h : ∀ i, i < t → M 140 i = nI (d i)) : fX5_sumOfPaces (nI t) M = some (nI (smN d t)) := sum_l ht h t FU 0 (by omega) (by have := FU_eq; omega)
