/-! as, ask -/
def asB (k q : Nat) : Bool := decide (q = 0) || decide (q = k) || (decide (q = 1) && decide (k < 4)) || (decide (q = 4) && decide (k = 5))
theorem as_st {q : Nat} {p1 : Int32} {M : Mem} (hq : q ≤ 5) (x t f : Nat) (hx : x ≤ 5) (ht : t ≤ 5) : fX5_as_l33 p1 (nI q) (f + 1) (nI x) (nI t) M = if x = q then bdI (fX5_fine p1 M) (fun r11 M13 => some ((r11 : Int32), M13)) else fX5_as_l33 p1 (nI q) f (stN x) (nI (t + 1)) M := by
  show fX5_as_b33 p1 (nI q) (fX5_as_l33 p1 (nI q) f) (nI x) (nI t) M = _
  unfold fX5_as_b33
  have c1 : ¬ (5 : Int32) < nI t := fun h => by have := (nI_ltI (a := 5) (by omega) (by omega)).mp h; omega
  have c2 : ¬ nI x < 0 := fun h => by have := (nI_ltI (b := 0) (by omega) (by omega)).mp h; omega
  have e := neq (a := x) (b := q) (by omega) (by omega)
  rw [if_neg c1, if_neg c2, chk_of (bIn_n (show x < 6 by omega) (by decide)), nc (by omega), n1a]
  by_cases h : x = q
  · rw [if_pos (e.mpr h), if_pos h]
  · rw [if_neg (fun hh => h (e.mp hh)), if_neg h]
theorem as_end {q : Nat} {p1 : Int32} {M : Mem} (t f : Nat) : fX5_as_l33 p1 (nI q) (f + 1) (-1) (nI t) M = bdI (fX5_found 3 M) (fun r11 M13 => some ((r11 : Int32), M13)) := by
  show fX5_as_b33 p1 (nI q) (fX5_as_l33 p1 (nI q) f) (-1) (nI t) M = _
  unfold fX5_as_b33
  rw [if_pos (show (-1 : Int32) < 0 by decide), ite_self]
theorem stN_0 : stN 0 = -1 := rfl
theorem stN_1 : stN 1 = nI 0 := rfl
theorem stN_2 : stN 2 = nI 1 := rfl
theorem stN_3 : stN 3 = nI 1 := rfl
theorem stN_4 : stN 4 = nI 0 := rfl
theorem stN_5 : stN 5 = nI 4 := rfl
theorem as_c {k q f : Nat} {p1 : Int32} {M : Mem} (h1 : 1 ≤ k) (h5 : k ≤ 5) (hq : q ≤ 5) : fX5_as_l33 p1 (nI q) (f + 7) (nI k) (nI 0) M = if asB k q = true then bdI (fX5_fine p1 M) (fun r11 M13 => some ((r11 : Int32), M13)) else bdI (fX5_found 3 M) (fun r11 M13 => some ((r11 : Int32), M13)) := by
  have hk : k = 1 ∨ k = 2 ∨ k = 3 ∨ k = 4 ∨ k = 5 := by omega
  have hq' : q = 0 ∨ q = 1 ∨ q = 2 ∨ q = 3 ∨ q = 4 ∨ q = 5 := by omega
  generalize hFn : bdI (fX5_fine p1 M) (fun r11 M13 => some ((r11 : Int32), M13)) = Fn
  generalize hGn : bdI (fX5_found 3 M) (fun r11 M13 => some ((r11 : Int32), M13)) = Gn
  have st := as_st (p1 := p1) (M := M) hq
  have en := fun t f => as_end (q := q) (p1 := p1) (M := M) t f
  rw [hFn] at st
  rw [hGn] at en
  rcases hk with rfl | rfl | rfl | rfl | rfl
  · rw [st 1 0 (f + 6) (by omega) (by omega), stN_1, st 0 1 (f + 5) (by omega) (by omega), stN_0, en 2 (f + 4)]
    rcases hq' with rfl | rfl | rfl | rfl | rfl | rfl <;> simp [asB]
  · rw [st 2 0 (f + 6) (by omega) (by omega), stN_2, st 1 1 (f + 5) (by omega) (by omega), stN_1, st 0 2 (f + 4) (by omega) (by omega), stN_0, en 3 (f + 3)]
    rcases hq' with rfl | rfl | rfl | rfl | rfl | rfl <;> simp [asB]
  · rw [st 3 0 (f + 6) (by omega) (by omega), stN_3, st 1 1 (f + 5) (by omega) (by omega), stN_1, st 0 2 (f + 4) (by omega) (by omega), stN_0, en 3 (f + 3)]
    rcases hq' with rfl | rfl | rfl | rfl | rfl | rfl <;> simp [asB]
  · rw [st 4 0 (f + 6) (by omega) (by omega), stN_4, st 0 1 (f + 5) (by omega) (by omega), stN_0, en 2 (f + 4)]
    rcases hq' with rfl | rfl | rfl | rfl | rfl | rfl <;> simp [asB]
  · rw [st 5 0 (f + 6) (by omega) (by omega), stN_5, st 4 1 (f + 5) (by omega) (by omega), stN_4, st 0 2 (f + 4) (by omega) (by omega), stN_0, en 3 (f + 3)]
    rcases hq' with rfl | rfl | rfl | rfl | rfl | rfl <;> simp [asB]
theorem as_m {k q r : Nat} {N : Mem} (h1 : 1 ≤ k) (h5 : k ≤ 5) (hq : q ≤ 5) : (if nI q = 0 then fX6_as_b59 (nI r) (nI q) N else (if nI q = nI k then fX6_as_b59 (nI r) (nI q) N else (if nI q = 1 then (if nI k < 4 then fX6_as_b59 (nI r) (nI q) N else fX6_as_b49 (nI r) (nI q) (nI k) N) else fX6_as_b49 (nI r) (nI q) (nI k) N))) = if asB k q = true then fX6_as_b59 (nI r) (nI q) N else fX6_as_b63 (nI r) (nI q) N := by
  have hk : k = 1 ∨ k = 2 ∨ k = 3 ∨ k = 4 ∨ k = 5 := by omega
  have hq' : q = 0 ∨ q = 1 ∨ q = 2 ∨ q = 3 ∨ q = 4 ∨ q = 5 := by omega
  have e0 : (nI q = 0) = (q = 0) := neq (b := 0) (by omega) (by omega)
  have e1 : (nI q = 1) = (q = 1) := neq (b := 1) (by omega) (by omega)
  have e4 : (nI q = 4) = (q = 4) := neq (b := 4) (by omega) (by omega)
  have ek : (nI q = nI k) = (q = k) := neq (by omega) (by omega)
  have k4 : (nI k < 4) = (k < 4) := nlt (b := 4) (by omega) (by omega)
  have k5 : (nI k = 5) = (k = 5) := neq (b := 5) (by omega) (by omega)
  unfold fX6_as_b49
  simp only [e0, e1, e4, ek, k4, k5]
  generalize fX6_as_b59 (nI r) (nI q) N = Fn
  generalize fX6_as_b63 (nI r) (nI q) N = Gn
  rcases hk with rfl | rfl | rfl | rfl | rfl <;> rcases hq' with rfl | rfl | rfl | rfl | rfl | rfl <;> simp [asB]
theorem q_as (x y : Int32) : EqI (fX5_as x y) (fX6_as x y) := fun M N h => by
  obtain ⟨n, s, hR, ha⟩ := h.1
  have e1 : M 4 3 = nI n := hR.1.1
  have hn := hR.1.2.2
  unfold fX5_as fX6_as
  simp only [X5_noRider e1, X6_isRider hR.1.2.1, X5_outside, X6_inB, bdP_s]
  by_cases hb : inB x 0 (nI n - 1) = true
  · obtain ⟨r, hr, rfl⟩ := inB_r (by omega) hb
    simp only [hb, Bool.not_true, Bool.not_false, b2i_f, b2i_t, i10, eq_self, if_true, if_false]
    by_cases hb2 : inB y 0 5 = true
    · obtain ⟨q, hq, rfl⟩ := inB_n (k := 5) (by decide) hb2
      obtain ⟨⟨m1, -, -⟩, -, -, k, hk1, hk5, ek⟩ := hR.2.2.2.2 r hr
      have ek5 : M 5 r = nI k := by rw [← ek]; exact m1
      obtain ⟨f, hF⟩ : ∃ f, FU = f + 7 := ⟨993, FU_eq⟩
      have hc := as_c (f := f) (p1 := nI r) (M := M) hk1 hk5 hq
      have hc' : fX5_as_l33 (nI r) (nI q) (f + 7) (nI k) 0 M = _ := hc
      have hm := as_m (r := r) (N := N) hk1 hk5 hq
      simp only [hb2, Bool.not_true, Bool.not_false, b2i_f, b2i_t, i10, eq_self, if_true, if_false, chk_of (bIn_n (show r < 7 by omega) (by decide)), nc (show r < 2 ^ 31 by omega), ek5, n18a, chk_of (bIn_n (show 18 + r < 25 by omega) (by decide)), nc (show 18 + r < 2 ^ 31 by omega), ek]
      rw [hF, hc', hm]
      by_cases hA : asB k q = true
      · rw [if_pos hA, if_pos hA]
        unfold fX6_as_b59 fX6_as_b64
        rw [if_neg i10, X6_ends_n N (show r < 2 ^ 31 by omega), X5_fine, bdI_s, bdI_s]
        exact ⟨_, _, _, rfl, rfl, h.fin 0⟩
      · rw [if_neg hA, if_neg hA]
        unfold fX6_as_b63 fX6_as_b64
        rw [if_pos rfl, X6_ends_3, X5_found, bdI_s, bdI_s]
        exact ⟨_, _, _, rfl, rfl, h.fin 3⟩
    · rw [Bool.not_eq_true] at hb2
      simp only [hb2, Bool.not_true, Bool.not_false, b2i_f, b2i_t, i10, eq_self, if_true, if_false]
      exact ⟨_, M, N, rfl, rfl, h⟩
  · rw [Bool.not_eq_true] at hb
    simp only [hb, Bool.not_true, Bool.not_false, b2i_f, b2i_t, i10, eq_self, if_true, if_false]
    exact ⟨_, M, N, rfl, rfl, h⟩
/-! ask: what is left in the trace -/
def TR (M0 N0 M N : Mem) : Prop := (∀ i, i ≠ 132 → i ≠ 133 → M i = M0 i) ∧ (∀ i, i ≠ 0 → i ≠ 13 → N i = N0 i) ∧ (∀ k, k ≠ 17 → N 0 k = N0 0 k) ∧ traceR (M 132) (M 133) (N 0 17) (N 13)
theorem TR.leave {M0 N0 M N : Mem} (h : TR M0 N0 M N) (b : Int32) : ∃ M' N', fX4_leave b M = some M' ∧ fX6_begins b N = some N' ∧ TR M0 N0 M' N' := by
  obtain ⟨h1, h2, h3, k, hk, e1, e2, e3⟩ := h
  unfold fX4_leave fX6_begins
  rw [e1, e2]
  by_cases h16 : k = 16
  · have c : (16 : Int32) ≤ nI k := nI_le (a := 16) (by omega) (by omega)
    rw [if_pos c, if_pos c]
    exact ⟨M, N, rfl, rfl, h1, h2, h3, k, hk, e1, e2, e3⟩
  · have c : ¬ (16 : Int32) ≤ nI k := nI_ge (b := 16) (by omega) (by omega)
    have m1 : (mp M 133 k b) 132 = M 132 := va_up_ne _ _ (by omega)
    have n1 : (mp N 13 k b) 0 = N 0 := va_up_ne _ _ (by omega)
    rw [if_neg c, if_neg c, chk_of (bIn_n (show k < 16 by omega) (by decide)), chk_of (bIn_n (show k < 16 by omega) (by decide)), nc (by omega), m1, n1, e1, e2, n1a]
    refine ⟨_, _, rfl, rfl, fun i a b => by rw [va_ne a, va_ne b]; exact h1 i a b, fun i a b => by rw [va_ne a, va_ne b]; exact h2 i a b, fun j hj => by rw [mp_k hj, n1]; exact h3 j hj, k + 1, by omega, by rw [mp_s], by rw [mp_s], fun j hj => ?_⟩
    have x1 : (mp (mp M 133 k b) 132 1 (nI (k + 1))) 133 = upd (M 133) k b := by rw [va_ne (by omega), mp_at, va_up_self]
    have x2 : (mp (mp N 13 k b) 0 17 (nI (k + 1))) 13 = upd (N 13) k b := by rw [va_ne (by omega), mp_at, va_up_self]
    rw [x1, x2]
    show upd (M 133) k b j = upd (N 13) k b j
    by_cases hjk : j = k
    · subst hjk; rw [upd_s, upd_s]
    · rw [upd_n _ _ hjk, upd_n _ _ hjk]; exact e3 j (by omega)
