/-! row, copy -/
theorem mp_up {M : Mem} {c k : Nat} {v : Int32} {w : Nat → Int32} : va_up (mp M c k v) c w = va_up M c w := va_up_u _ _ _ _
theorem X1_begin_l {c0 : Nat} {p1 p2 : Int32} : ∀ (k fu i : Nat) (M : Mem), i + k = 40 → k < fu → (∀ j, j < i → M (c0 + 1) j = 0) → ∃ w, fX1_begin_l17 c0 p1 p2 fu (nI i) M = some (va_up M (c0 + 1) w) ∧ ∀ j, j < 40 → w j = 0 := by
  intro k
  induction k with
  | zero =>
    intro fu i M hi hf hz
    obtain ⟨f, rfl, -⟩ := fs hf
    have c : (40 : Int32) ≤ nI i := nI_le (a := 40) (by omega) (by omega)
    refine ⟨M (c0 + 1), ?_, fun j hj => hz j (by omega)⟩
    simp only [fX1_begin_l17, fX1_begin_b17, if_pos c, va_up_eta]
  | succ k ih =>
    intro fu i M hi hf hz
    obtain ⟨f, rfl, hf'⟩ := fs hf
    have c : ¬ (40 : Int32) ≤ nI i := nI_ge (b := 40) (by omega) (by omega)
    obtain ⟨w, g, a⟩ := ih f (i + 1) (mp M (c0 + 1) i 0) (by omega) (by omega) (fun j hj => by
      by_cases h : j = i
      · subst h; exact mp_s
      · rw [mp_k h]; exact hz j (by omega))
    refine ⟨w, ?_, a⟩
    simp only [fX1_begin_l17, fX1_begin_b17, if_neg c, chk_of (bIn_n (show i < 40 by omega) (by decide)), nc (show i < 2 ^ 31 by omega), n1a, g]
    rw [mp_up]
theorem X1_begin {c0 : Nat} {p1 p2 : Int32} (M : Mem) : ∃ w, fX1_begin c0 p1 p2 M = some (va_up (mp (mp (mp M c0 1 0) c0 2 p1) c0 3 p2) (c0 + 1) w) ∧ ∀ j, j < 40 → w j = 0 :=
  X1_begin_l 40 FU 0 _ (by omega) (by have := FU_eq; omega) (fun j hj => by omega)
theorem X6_row_l {q n : Nat} {p2 : Int32} (hq : q < 8) (hn : n < 2 ^ 31) : ∀ (k fu i : Nat) (N : Mem), i + k = 40 → k < fu → (∀ j, j < i → N 3 (40 * q + j) = 0) → ∃ w, fX6_row_l53 (nI q) p2 (nI n) fu (nI i) N = some (nI n, mp (va_up N 3 w) 0 4 0) ∧ (∀ j, j < 40 → w (40 * q + j) = 0) ∧ ∀ j, (j < 40 * q ∨ 40 * q + 40 ≤ j) → w j = N 3 j := by
  intro k
  induction k with
  | zero =>
    intro fu i N hi hf hz
    obtain ⟨f, rfl, -⟩ := fs hf
    have c : (40 : Int32) ≤ nI i := nI_le (a := 40) (by omega) (by omega)
    refine ⟨N 3, ?_, fun j hj => hz j (by omega), fun _ _ => rfl⟩
    simp only [fX6_row_l53, fX6_row_b53, if_pos c, va_up_eta, X6_ends_n _ hn, bdI_s]
  | succ k ih =>
    intro fu i N hi hf hz
    obtain ⟨f, rfl, hf'⟩ := fs hf
    have c : ¬ (40 : Int32) ≤ nI i := nI_ge (b := 40) (by omega) (by omega)
    obtain ⟨w, g, a, b⟩ := ih f (i + 1) (mp N 3 (40 * q + i) 0) (by omega) (by omega) (fun j hj => by
      by_cases h : j = i
      · subst h; exact mp_s
      · rw [mp_k (by omega)]; exact hz j (by omega))
    refine ⟨w, ?_, a, fun j hj => by rw [b j hj, mp_k (by omega)]⟩
    simp only [fX6_row_l53, fX6_row_b53, if_neg c, nI_40, chk_of (bIn_n (show 40 * q + i < 320 by omega) (by decide)), nc (show 40 * q + i < 2 ^ 31 by omega), n1a, g]
    rw [mp_up]
theorem q_row (x y z : Int32) : EqI (fX5_row x y z) (fX6_row x y z) := fun M N h => by
  unfold fX5_row fX6_row
  simp only [X5_noRow, X6_isRow, X5_outside, X6_inB, bdP_s, X5_found, X5_fine, X6_ends_4, bdI_s]
  by_cases hb : inB x 0 7 = true
  · obtain ⟨q, hq, rfl⟩ := inB_n (k := 7) (by decide) hb
    simp only [hb, Bool.not_true, Bool.not_false, b2i_f, b2i_t, i10, eq_self, if_true, if_false, chk_of (bIn_n (show q < 8 by omega) (by decide)), nc (show q < 2 ^ 31 by omega)]
    by_cases hw : inB y 0 2 = true
    · obtain ⟨wd, hwd, rfl⟩ := inB_n (k := 2) (by decide) hw
      simp only [hw, Bool.not_true, Bool.not_false, b2i_f, b2i_t, i10, eq_self, if_true, if_false]
      by_cases h40 : z ≤ 40
      · rw [if_pos h40, if_pos h40]
        by_cases h0 : 0 ≤ z
        · rw [if_pos h0, if_pos h0]
          obtain ⟨n, hn, rfl⟩ := nI_of2 (M := 40) (n := 40) (by decide) (Int32.not_lt.mpr h0) h40
          obtain ⟨w, g, hz⟩ := X1_begin (c0 := 142 + 2 * q) (p1 := nI wd) (p2 := nI n) M
          obtain ⟨w', g', hz', ho'⟩ := X6_row_l (q := q) (p2 := nI wd) (show q < 8 by omega) (show n < 2 ^ 31 by omega) 40 FU 0 (mp (mp N 1 q (nI n)) 2 q (nI wd)) (by omega) (by have := FU_eq; omega) (fun j hj => by omega)
          rw [g, show (0 : Int32) = nI 0 from rfl, g']
          simp only [bdV_s]
          refine ⟨nI n, _, _, rfl, rfl, ?_⟩
          refine h.row (q := q) (fun c h0 h1 h2 => ?_) (fun c h0 h1 h2 h3 _ => ?_) (fun k _ h4 => ?_) (mp_s.trans mp_s.symm) (by omega) (fun j hj hjq => ⟨?_, ?_, fun k hk => ?_⟩) (Or.inr ⟨?_, ?_, ?_, ⟨n, hn, ?_⟩, ?_, fun k hk => ?_⟩)
          · rw [va_ne h0, va_up_ne _ _ h2, va_ne h1, va_ne h1, va_ne h1]
          · rw [va_ne h0, va_up_ne _ _ h3, va_ne h2, va_ne h1]
          · rw [mp_k h4, va_up_ne _ _ (by omega), va_ne (by omega), va_ne (by omega)]
          · rw [va_ne (by omega), va_up_ne _ _ (by omega), va_ne (by omega), mp_k hjq]
          · rw [va_ne (by omega), va_up_ne _ _ (by omega), mp_k hjq, va_ne (by omega)]
          · rw [va_ne (by omega), va_up_self, ho' _ (by omega), va_ne (by omega), va_ne (by omega)]
          · rw [va_ne (by omega), va_up_ne _ _ (by omega), mp_k (by omega), mp_k (by omega), mp_s]; rfl
          · rw [va_ne (by omega), va_up_ne _ _ (by omega), mp_s, va_ne (by omega), va_up_ne _ _ (by omega), va_ne (by omega), mp_s]
          · rw [va_ne (by omega), va_up_ne _ _ (by omega), mp_k (by omega), mp_s, va_ne (by omega), va_up_ne _ _ (by omega), mp_s]
          · rw [va_ne (by omega), va_up_ne _ _ (by omega), va_ne (by omega), mp_s]
          · rw [va_ne (by omega), va_up_ne _ _ (by omega), mp_s]
            have : wd = 0 ∨ wd = 1 ∨ wd = 2 := by omega
            rcases this with rfl | rfl | rfl
            · exact Or.inl rfl
            · exact Or.inr (Or.inl rfl)
            · exact Or.inr (Or.inr rfl)
          · rw [va_ne (by omega), va_up_self, hz k hk]
            show (0 : Int32) = mp _ 0 4 0 3 (40 * q + k)
            rw [va_ne (by omega), va_up_self, hz' k hk]
        · rw [if_neg h0, if_neg h0]
          exact ⟨_, _, _, rfl, rfl, h.fin 4⟩
      · rw [if_neg h40, if_neg h40]
        exact ⟨_, M, N, rfl, rfl, h⟩
    · rw [Bool.not_eq_true] at hw
      simp only [hw, Bool.not_true, Bool.not_false, b2i_f, b2i_t, i10, eq_self, if_true, if_false]
      exact ⟨_, M, N, rfl, rfl, h⟩
  · rw [Bool.not_eq_true] at hb
    simp only [hb, Bool.not_true, Bool.not_false, b2i_f, b2i_t, i10, eq_self, if_true, if_false]
    exact ⟨_, M, N, rfl, rfl, h⟩
/-! copy -/
theorem nI_40b {q a i : Nat} : (((40 : Int32) * nI q) + nI a) + nI i = nI (40 * q + a + i) := by rw [nI_40, nI_add]
theorem X6_cp97 {p q a b n : Nat} (hp : p < 8) (hn : a + n ≤ 40) : ∀ (k fu i : Nat) (N : Mem), i + k = n → k < fu → (∀ j, j < i → N 4 j = N 3 (40 * p + a + j)) → ∃ w, fX6_copy_l97 (nI p) (nI a) (nI q) (nI b) (nI n) fu (nI i) N = fX6_copy_b131 (nI p) (nI a) (nI q) (nI b) (nI n) (va_up N 4 w) ∧ ∀ j, j < n → w j = N 3 (40 * p + a + j) := by
  intro k
  induction k with
  | zero =>
    intro fu i N hi hf hz
    obtain ⟨f, rfl, -⟩ := fs hf
    have c : nI n ≤ nI i := nI_le (by omega) (by omega)
    refine ⟨N 4, ?_, fun j hj => hz j (by omega)⟩
    simp only [fX6_copy_l97, fX6_copy_b97, if_pos c, va_up_eta]
  | succ k ih =>
    intro fu i N hi hf hz
    obtain ⟨f, rfl, hf'⟩ := fs hf
    have c : ¬ nI n ≤ nI i := nI_ge (by omega) (by omega)
    obtain ⟨w, g, hw⟩ := ih f (i + 1) (mp N 4 i (N 3 (40 * p + a + i))) (by omega) (by omega) (fun j hj => by
      rw [va_ne (show (3 : Nat) ≠ 4 by omega)]
      by_cases h : j = i
      · subst h; exact mp_s
      · rw [mp_k h]; exact hz j (by omega))
    refine ⟨w, ?_, fun j hj => by rw [hw j hj, va_ne (by omega)]⟩
    simp only [fX6_copy_l97, fX6_copy_b97, if_neg c, nI_40b, chk_of (bIn_n (show 40 * p + a + i < 320 by omega) (by decide)), chk_of (bIn_n (show i < 40 by omega) (by decide)), nc (show 40 * p + a + i < 2 ^ 31 by omega), nc (show i < 2 ^ 31 by omega), n1a, g]
    rw [mp_up]
theorem X6_cp134 {p q a b n : Nat} (hq : q < 8) (hn : b + n ≤ 40) : ∀ (k fu i : Nat) (N : Mem), i + k = n → k < fu → ∃ w, fX6_copy_l134 (nI p) (nI a) (nI q) (nI b) (nI n) fu (nI i) N = some (nI n, mp (va_up N 3 w) 0 4 0) ∧ (∀ j, i ≤ j → j < n → w (40 * q + b + j) = N 4 j) ∧ ∀ j, (j < 40 * q + b + i ∨ 40 * q + b + n ≤ j) → w j = N 3 j := by
  intro k
  induction k with
  | zero =>
    intro fu i N hi hf
    obtain ⟨f, rfl, -⟩ := fs hf
    have c : nI n ≤ nI i := nI_le (by omega) (by omega)
    refine ⟨N 3, ?_, fun j h1 h2 => by omega, fun _ _ => rfl⟩
    simp only [fX6_copy_l134, fX6_copy_b134, if_pos c, va_up_eta, X6_ends_n _ (show n < 2 ^ 31 by omega), bdI_s]
  | succ k ih =>
    intro fu i N hi hf
    obtain ⟨f, rfl, hf'⟩ := fs hf
    have c : ¬ nI n ≤ nI i := nI_ge (by omega) (by omega)
    obtain ⟨w, g, h1, h2⟩ := ih f (i + 1) (mp N 3 (40 * q + b + i) (N 4 i)) (by omega) (by omega)
    refine ⟨w, ?_, fun j hj1 hj2 => ?_, fun j hj => ?_⟩
    · simp only [fX6_copy_l134, fX6_copy_b134, if_neg c, nI_40b, chk_of (bIn_n (show 40 * q + b + i < 320 by omega) (by decide)), chk_of (bIn_n (show i < 40 by omega) (by decide)), nc (show 40 * q + b + i < 2 ^ 31 by omega), nc (show i < 2 ^ 31 by omega), n1a, g]
      rw [mp_up]
    · by_cases hji : j = i
      · subst hji
        rw [h2 _ (by omega), mp_s]
      · rw [h1 j (by omega) hj2, va_ne (by omega)]
    · rw [h2 j (by omega), mp_k (by omega)]
theorem q_copy (x y z u v : Int32) : EqI (fX5_copy x y z u v) (fX6_copy x y z u v) := fun M N h => by
  unfold fX5_copy fX6_copy
  simp only [X5_noRow, X6_isRow, bdP_s, X5_found, X5_fine, X6_ends_1, X6_ends_2, X6_ends_5, bdI_s]
  by_cases hb : inB x 0 7 = true
  · obtain ⟨p, hp, rfl⟩ := inB_n (k := 7) (by decide) hb
    simp only [hb, Bool.not_true, Bool.not_false, b2i_f, b2i_t, i10, eq_self, if_true, if_false, chk_of (bIn_n (show p < 8 by omega) (by decide)), nc (show p < 2 ^ 31 by omega)]
    by_cases hb2 : inB z 0 7 = true
    · obtain ⟨q, hq, rfl⟩ := inB_n (k := 7) (by decide) hb2
      simp only [hb2, Bool.not_true, Bool.not_false, b2i_f, b2i_t, i10, eq_self, if_true, if_false, chk_of (bIn_n (show q < 8 by omega) (by decide)), nc (show q < 2 ^ 31 by omega)]
      rcases h.2.2.2.2.1 p (by omega) with ⟨e1, e2⟩ | ⟨e1, e2, e3, ⟨k, hk, e4⟩, e5, e6⟩
      · rw [e1, e2, if_neg i10, if_pos (show (-1 : Int32) < 0 by decide)]
        exact ⟨_, _, _, rfl, rfl, h.fin 1⟩
      · rw [e1, if_pos rfl, e4, if_neg (nI_pos (show k < 2 ^ 31 by omega))]
        rcases h.2.2.2.2.1 q (by omega) with ⟨d1, d2⟩ | ⟨d1, d2, d3, ⟨k', hk', d4⟩, d5, d6⟩
        · rw [d1, d2, if_neg i10, if_neg (by decide)]
          exact ⟨_, _, _, rfl, rfl, h.fin 1⟩
        · rw [d1, if_pos rfl, d4, if_pos (nI_pos' (show k' < 2 ^ 31 by omega)), e3, d3]
          by_cases hw : N 2 p = N 2 q
          · rw [if_pos hw, if_pos hw, X1_holds (e2.trans e4) hk, X6_lies (by omega) e4 hk, X1_holds (d2.trans d4) hk', X6_lies (by omega) d4 hk']
            simp only [bdP_s]
            by_cases hh : hold k y v = true
            · rw [hh, b2i_t, if_neg i10, if_neg i10]
              by_cases hh2 : hold k' u v = true
              · obtain ⟨a, n, rfl, rfl, hab⟩ := hold_n hh
                obtain ⟨b, n', rfl, hnn, hab2⟩ := hold_n hh2
                have hn' : n' = n := by
                  have := congrArg Int32.toNatClampNeg hnn
                  rw [nc (by omega), nc (by omega)] at this
                  exact this.symm
                subst hn'
                rw [hh2, b2i_t, if_neg i10, if_neg i10]
                rw [nc (show a < 2 ^ 31 by omega), nc (show b < 2 ^ 31 by omega), nc (show n' < 2 ^ 31 by omega)]
                rw [chk_of (show _ = true by
                  simp only [Bool.and_eq_true, Bool.not_eq_true', decide_eq_false_iff_not, decide_eq_true_eq]
                  exact ⟨⟨⟨⟨nI_pos (by omega), nI_pos (by omega)⟩, nI_pos (by omega)⟩, by omega⟩, by omega⟩)]
                obtain ⟨w, g, hw1⟩ := X6_cp97 (p := p) (q := q) (a := a) (b := b) (n := n') (show p < 8 by omega) (by omega) n' FU 0 N (by omega) (by have := FU_eq; omega) (fun j hj => by omega)
                obtain ⟨w2, g2, hi2, ho2⟩ := X6_cp134 (p := p) (q := q) (a := a) (b := b) (n := n') (show q < 8 by omega) (by omega) n' FU 0 (va_up N 4 w) (by omega) (by have := FU_eq; omega)
                rw [show (0 : Int32) = nI 0 from rfl, g]
                unfold fX6_copy_b131
                rw [show (0 : Int32) = nI 0 from rfl, g2]
                refine ⟨nI n', _, _, rfl, rfl, ?_⟩
                refine h.row (q := q) (fun c h0 _ h2 => ?_) (fun c h0 h1 h2 h3 h4 => ?_) (fun k _ h4 => ?_) (mp_s.trans mp_s.symm) (by omega) (fun j hj hjq => ⟨?_, ?_, fun k hk => ?_⟩) (Or.inr ⟨?_, ?_, ?_, ⟨k', hk', ?_⟩, ?_, fun j hj => ?_⟩)
                · rw [va_ne h0, va_up_ne _ _ h2]
                · rw [va_ne h0, va_up_ne _ _ h3, va_up_ne _ _ h4]
                · rw [mp_k h4, va_up_ne _ _ (by omega), va_up_ne _ _ (by omega)]
                · rw [va_ne (by omega), va_up_ne _ _ (by omega), va_up_ne _ _ (by omega)]
                · rw [va_ne (by omega), va_up_ne _ _ (by omega), va_up_ne _ _ (by omega)]
                · rw [va_ne (by omega), va_up_self, ho2 _ (by omega), va_up_ne _ _ (by omega)]
                · rw [va_ne (by omega), va_up_ne _ _ (by omega)]; exact d1
                · rw [va_ne (by omega), va_up_ne _ _ (by omega), va_ne (by omega), va_up_ne _ _ (by omega), va_up_ne _ _ (by omega)]; exact d2
                · rw [va_ne (by omega), va_up_ne _ _ (by omega), va_ne (by omega), va_up_ne _ _ (by omega), va_up_ne _ _ (by omega)]; exact d3
                · rw [va_ne (by omega), va_up_ne _ _ (by omega), va_up_ne _ _ (by omega)]; exact d4
                · rw [va_ne (by omega), va_up_ne _ _ (by omega), va_up_ne _ _ (by omega)]; exact d5
                · rw [va_ne (by omega), va_up_self]
                  show va_cpy (M (142 + 2 * p + 1)) (M (142 + 2 * q + 1)) a b n' j = mp _ 0 4 0 3 (40 * q + j)
                  rw [va_ne (by omega), va_up_self]
                  by_cases hin : b ≤ j ∧ j < b + n'
                  · rw [pk_cpy_in hin.1 hin.2, show 40 * q + j = 40 * q + b + (j - b) by omega, hi2 _ (by omega) (by omega), va_up_self, hw1 _ (by omega)]
                    have := e6 (a + (j - b)) (by omega)
                    rw [this]
                    show N 3 (40 * p + (a + (j - b))) = _
                    rw [show 40 * p + (a + (j - b)) = 40 * p + a + (j - b) by omega]
                  · rw [pk_cpy_out (by omega), ho2 _ (by omega), va_up_ne _ _ (by omega)]
                    exact d6 j hj
              · rw [Bool.not_eq_true] at hh2
                rw [hh2, b2i_f, if_pos rfl, if_pos rfl]
                exact ⟨_, _, _, rfl, rfl, h.fin 2⟩
            · rw [Bool.not_eq_true] at hh
              rw [hh, b2i_f, if_pos rfl, if_pos rfl]
              exact ⟨_, _, _, rfl, rfl, h.fin 2⟩
          · rw [if_neg hw, if_neg hw]
            exact ⟨_, _, _, rfl, rfl, h.fin 5⟩
    · rw [Bool.not_eq_true] at hb2
      simp only [hb2, Bool.not_true, Bool.not_false, b2i_f, b2i_t, i10, eq_self, if_true, if_false]
      exact ⟨_, M, N, rfl, rfl, h⟩
  · rw [Bool.not_eq_true] at hb
    simp only [hb, Bool.not_true, Bool.not_false, b2i_f, b2i_t, i10, eq_self, if_true, if_false]
    exact ⟨_, M, N, rfl, rfl, h⟩
