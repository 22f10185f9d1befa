/-! ask: the bodies, one by one -/
section BOD
variable {R : Int32 → Int32 → Int32 → Mem → Option (Int32 × Mem)} {M : Mem} {r d k : Nat}
theorem an_10 (hd : d ≤ 16) (hr : r < 7) : fX5_answerOf (k + 1) 10 (nI r) (nI d) M = bdV (fX4_leave 10 M) (fun M4 => some (M4 7 r, M4)) := by
  have c : nI d ≤ 16 := nI_le (b := 16) (by omega) (by omega)
  show fX5_answerOf_b0 (fX5_answerOf k) 10 (nI r) (nI d) M = _
  simp (decide := true) only [fX5_answerOf_b0, if_pos c, if_true, if_false, chk_of (bIn_n hr (show 7 < 2 ^ 31 by decide)), nc (show r < 2 ^ 31 by omega), n1a]
theorem an_20 (hd : d ≤ 16) (hr : r < 7) : fX5_answerOf (k + 1) 20 (nI r) (nI d) M = bdV (fX4_leave 20 M) (fun M4 => some (nI r, M4)) := by
  have c : nI d ≤ 16 := nI_le (b := 16) (by omega) (by omega)
  show fX5_answerOf_b0 (fX5_answerOf k) 20 (nI r) (nI d) M = _
  simp (decide := true) only [fX5_answerOf_b0, if_pos c, if_true, if_false, chk_of (bIn_n hr (show 7 < 2 ^ 31 by decide)), nc (show r < 2 ^ 31 by omega), n1a]
theorem an_21 (hd : d ≤ 16) (hr : r < 7) : fX5_answerOf (k + 1) 21 (nI r) (nI d) M = bdV (fX4_leave 21 M) (fun M4 => bdI (fX5_answerOf k 20 (nI r) (nI (d + 1)) M4) (fun r36 M38 => some (((r36 + (M38 6 r)) : Int32), M38))) := by
  have c : nI d ≤ 16 := nI_le (b := 16) (by omega) (by omega)
  show fX5_answerOf_b0 (fX5_answerOf k) 21 (nI r) (nI d) M = _
  simp (decide := true) only [fX5_answerOf_b0, if_pos c, if_true, if_false, chk_of (bIn_n hr (show 7 < 2 ^ 31 by decide)), nc (show r < 2 ^ 31 by omega), n1a]
theorem an_22 (hd : d ≤ 16) (hr : r < 7) : fX5_answerOf (k + 1) 22 (nI r) (nI d) M = bdV (fX4_leave 22 M) (fun M4 => bdI (fX5_answerOf k 21 (nI r) (nI (d + 1)) M4) (fun r41 M43 => some (((r41 - 1000) : Int32), M43))) := by
  have c : nI d ≤ 16 := nI_le (b := 16) (by omega) (by omega)
  show fX5_answerOf_b0 (fX5_answerOf k) 22 (nI r) (nI d) M = _
  simp (decide := true) only [fX5_answerOf_b0, if_pos c, if_true, if_false, chk_of (bIn_n hr (show 7 < 2 ^ 31 by decide)), nc (show r < 2 ^ 31 by omega), n1a]
theorem an_24 (hd : d ≤ 16) (hr : r < 7) : fX5_answerOf (k + 1) 24 (nI r) (nI d) M = bdV (fX4_leave 24 M) (fun M4 => bdI (fX5_answerOf k 21 (nI r) (nI (d + 1)) M4) (fun r55 M57 => some (((r55 * 2) : Int32), M57))) := by
  have c : nI d ≤ 16 := nI_le (b := 16) (by omega) (by omega)
  show fX5_answerOf_b0 (fX5_answerOf k) 24 (nI r) (nI d) M = _
  simp (decide := true) only [fX5_answerOf_b0, if_pos c, if_true, if_false, chk_of (bIn_n hr (show 7 < 2 ^ 31 by decide)), nc (show r < 2 ^ 31 by omega), n1a]
theorem an_13 (hd : d ≤ 16) (hr : r < 7) : fX5_answerOf (k + 1) 13 (nI r) (nI d) M = bdV (fX4_leave 13 M) (fun M4 => bdI (fX5_answerOf k 10 (nI r) (nI (d + 1)) M4) (fun r22 M24 => some (((r22 - 100) : Int32), M24))) := by
  have c : nI d ≤ 16 := nI_le (b := 16) (by omega) (by omega)
  show fX5_answerOf_b0 (fX5_answerOf k) 13 (nI r) (nI d) M = _
  simp (decide := true) only [fX5_answerOf_b0, if_pos c, if_true, if_false, chk_of (bIn_n hr (show 7 < 2 ^ 31 by decide)), nc (show r < 2 ^ 31 by omega), n1a]
theorem an_14 (hd : d ≤ 16) (hr : r < 7) : fX5_answerOf (k + 1) 14 (nI r) (nI d) M = bdV (fX4_leave 14 M) (fun M4 => bdI (fX5_answerOf k 13 (nI r) (nI (d + 1)) M4) (fun r26 M28 => some (((r26 * 2) : Int32), M28))) := by
  have c : nI d ≤ 16 := nI_le (b := 16) (by omega) (by omega)
  show fX5_answerOf_b0 (fX5_answerOf k) 14 (nI r) (nI d) M = _
  simp (decide := true) only [fX5_answerOf_b0, if_pos c, if_true, if_false, chk_of (bIn_n hr (show 7 < 2 ^ 31 by decide)), nc (show r < 2 ^ 31 by omega), n1a]
theorem an_12 (hd : d ≤ 16) (hr : r < 7) : fX5_answerOf (k + 1) 12 (nI r) (nI d) M = bdV (fX4_leave 12 M) (fun M4 => bdI (fX5_answerOf k 11 (nI r) (nI (d + 1)) M4) (fun r18 M20 => some ((((-r18)) : Int32), M20))) := by
  have c : nI d ≤ 16 := nI_le (b := 16) (by omega) (by omega)
  show fX5_answerOf_b0 (fX5_answerOf k) 12 (nI r) (nI d) M = _
  simp (decide := true) only [fX5_answerOf_b0, if_pos c, if_true, if_false, chk_of (bIn_n hr (show 7 < 2 ^ 31 by decide)), nc (show r < 2 ^ 31 by omega), n1a]
theorem an_11 (hd : d ≤ 16) (hr : r < 7) : fX5_answerOf (k + 1) 11 (nI r) (nI d) M = bdV (fX4_leave 11 M) (fun M4 => bdI (fX5_answerOf k 10 (nI r) (nI (d + 1)) M4) (fun r8 M10 => (bdP (fX5_bodyFor (M10 5 r) 1) (fun r12 => bdI (fX5_answerOf k r12 (nI r) (nI (d + 1)) M10) (fun r14 M16 => some (((r8 + r14) : Int32), M16)))))) := by
  have c : nI d ≤ 16 := nI_le (b := 16) (by omega) (by omega)
  show fX5_answerOf_b0 (fX5_answerOf k) 11 (nI r) (nI d) M = _
  simp (decide := true) only [fX5_answerOf_b0, if_pos c, if_true, if_false, chk_of (bIn_n hr (show 7 < 2 ^ 31 by decide)), nc (show r < 2 ^ 31 by omega), n1a]
theorem an_23 (hd : d ≤ 16) (hr : r < 7) : fX5_answerOf (k + 1) 23 (nI r) (nI d) M = bdV (fX4_leave 23 M) (fun M4 => bdI (fX5_answerOf k 20 (nI r) (nI (d + 1)) M4) (fun r45 M47 => (bdP (fX5_bodyFor (M47 5 r) 0) (fun r49 => bdI (fX5_answerOf k r49 (nI r) (nI (d + 1)) M47) (fun r51 M53 => some (((r45 - r51) : Int32), M53)))))) := by
  have c : nI d ≤ 16 := nI_le (b := 16) (by omega) (by omega)
  show fX5_answerOf_b0 (fX5_answerOf k) 23 (nI r) (nI d) M = _
  simp (decide := true) only [fX5_answerOf_b0, if_pos c, if_true, if_false, chk_of (bIn_n hr (show 7 < 2 ^ 31 by decide)), nc (show r < 2 ^ 31 by omega), n1a]
end BOD
def bS (k : Nat) : Int32 := if k = 1 then 11 else if k = 2 then 12 else if k = 3 then 11 else if k = 4 then 13 else 14
def bM (k : Nat) : Int32 := if k = 1 then 21 else if k = 2 then 24 else if k = 3 then 22 else 23
theorem body_st {p0 p1 : Int32} {x t f : Nat} (h1 : 1 ≤ x) (hx : x ≤ 5) (ht : t ≤ 5) : fX5_bodyFor_l4 p0 p1 (f + 1) (nI x) (nI t) = if (if p1 = 0 then stS x else stM x) = 0 then fX5_bodyFor_l4 p0 p1 f (stN x) (nI (t + 1)) else some (if p1 = 0 then stS x else stM x) := by
  show fX5_bodyFor_b4 p0 p1 (fX5_bodyFor_l4 p0 p1 f) (nI x) (nI t) = _
  unfold fX5_bodyFor_b4 fX5_bodyFor_b30
  have c1 : ¬ (5 : Int32) < nI t := fun h => by have := (nI_ltI (a := 5) (by omega) (by omega)).mp h; omega
  have c2 : ¬ nI x ≤ 0 := fun h => by have := (nI_leI (b := 0) (by omega) (by omega)).mp h; omega
  rw [if_neg c1, if_neg c2, chk_of (bIn_n (show x < 6 by omega) (by decide)), chk_of (bIn_n (show x < 6 by omega) (by decide)), nc (by omega), chk_of (bIn_n (show x < 6 by omega) (by decide)), n1a]
  by_cases hp : p1 = 0
  · rw [if_pos hp, if_pos hp]
  · rw [if_neg hp, if_neg hp]
theorem body_S {k : Nat} (h1 : 1 ≤ k) (h5 : k ≤ 5) : fX5_bodyFor (nI k) 0 = some (bS k) := by
  obtain ⟨f, hF⟩ : ∃ f, FU = f + 1 + 1 := ⟨998, FU_eq⟩
  have e : fX5_bodyFor (nI k) 0 = fX5_bodyFor_l4 (nI k) 0 (f + 1 + 1) (nI k) (nI 0) := by unfold fX5_bodyFor; rw [hF]; rfl
  rw [e, body_st h1 h5 (by omega), if_pos rfl]
  have hk : k = 1 ∨ k = 2 ∨ k = 3 ∨ k = 4 ∨ k = 5 := by omega
  rcases hk with rfl | rfl | rfl | rfl | rfl
  · rw [if_neg (show ¬ stS 1 = 0 by decide)]; decide
  · rw [if_neg (show ¬ stS 2 = 0 by decide)]; decide
  · rw [if_pos (show stS 3 = 0 by decide), stN_3, body_st (by omega) (by omega) (by omega), if_pos rfl, if_neg (show ¬ stS 1 = 0 by decide)]; decide
  · rw [if_neg (show ¬ stS 4 = 0 by decide)]; decide
  · rw [if_neg (show ¬ stS 5 = 0 by decide)]; decide
theorem body_M {k : Nat} (h1 : 1 ≤ k) (h5 : k ≤ 5) : fX5_bodyFor (nI k) 1 = some (bM k) := by
  obtain ⟨f, hF⟩ : ∃ f, FU = f + 1 + 1 := ⟨998, FU_eq⟩
  have e : fX5_bodyFor (nI k) 1 = fX5_bodyFor_l4 (nI k) 1 (f + 1 + 1) (nI k) (nI 0) := by unfold fX5_bodyFor; rw [hF]; rfl
  rw [e, body_st h1 h5 (by omega), if_neg i10]
  have hk : k = 1 ∨ k = 2 ∨ k = 3 ∨ k = 4 ∨ k = 5 := by omega
  rcases hk with rfl | rfl | rfl | rfl | rfl
  · rw [if_neg (show ¬ stM 1 = 0 by decide)]; decide
  · rw [if_neg (show ¬ stM 2 = 0 by decide)]; decide
  · rw [if_neg (show ¬ stM 3 = 0 by decide)]; decide
  · rw [if_neg (show ¬ stM 4 = 0 by decide)]; decide
  · rw [if_pos (show stM 5 = 0 by decide), stN_5, body_st (by omega) (by omega) (by omega), if_neg i10, if_neg (show ¬ stM 4 = 0 by decide)]; decide
section ASK
variable {M0 N0 : Mem} {n s r kk : Nat}
theorem mark_ok (hR : RS (gS M0 4) (N0 6) n s) (hr : r < n) (hk : N0 6 (18 + r) = nI kk) (h1 : 1 ≤ kk) (h3 : kk ≤ 3) {M N : Mem} {f d : Nat} (hd : d ≤ 10) (h : TR M0 N0 M N) : ∃ v M' N', fX5_answerOf (f + 1 + 1 + 1) (bM kk) (nI r) (nI d) M = some (v, M') ∧ fX6_stands (nI r) N = some (v, N') ∧ TR M0 N0 M' N' := by
  have hn := hR.1.2.2
  have hr7 : r < 7 := by omega
  obtain ⟨⟨-, eL, -⟩, -⟩ := hR.2.2.2.2 r hr
  have eL' : M0 6 r = N0 6 (9 + r) := eL
  have e6 : ∀ {M N : Mem}, TR M0 N0 M N → N 6 = N0 6 := fun h => h.2.1 6 (by omega) (by omega)
  have m6 : ∀ {M N : Mem}, TR M0 N0 M N → M 6 = M0 6 := fun h => h.1 6 (by omega) (by omega)
  unfold fX6_stands fX6_stands_b28 fX6_stands_b31
  rw [n18a, chk_of (bIn_n (show 18 + r < 25 by omega) (by decide)), nc (show 18 + r < 2 ^ 31 by omega), e6 h, hk]
  have q25 : ∀ {α : Type} {k : Option α}, chk (bIn (nI (9 + r)) 25) k = k := fun {α k} => chk_of (bIn_n (show 9 + r < 25 by omega) (by decide))
  have c9 : (nI (9 + r)).toNatClampNeg = 9 + r := nc (by omega)
  have hkk : kk = 1 ∨ kk = 2 ∨ kk = 3 := by omega
  rcases hkk with rfl | rfl | rfl
  · obtain ⟨M1, N1, a1, b1, t1⟩ := h.leave 21
    obtain ⟨M2, N2, a2, b2, t2⟩ := t1.leave 20
    refine ⟨nI r + N0 6 (9 + r), M2, N2, ?_, ?_, t2⟩
    · show fX5_answerOf (f + 1 + 1 + 1) 21 (nI r) (nI d) M = _
      rw [an_21 (by omega) hr7, a1, bdV_s, an_20 (by omega) hr7, a2, bdV_s, bdI_s]
      dsimp only
      rw [m6 t2, eL']
    · rw [if_pos (show nI 1 = 1 from rfl), b1, bdV_s, b2, bdV_s, n9a, q25, c9, e6 t2, if_neg (show ¬ nI 1 = 2 by decide), if_neg (show ¬ nI 1 = 3 by decide)]
  · obtain ⟨M0', N0', a0, b0, t0⟩ := h.leave 24
    obtain ⟨M1, N1, a1, b1, t1⟩ := t0.leave 21
    obtain ⟨M2, N2, a2, b2, t2⟩ := t1.leave 20
    refine ⟨(nI r + N0 6 (9 + r)) * 2, M2, N2, ?_, ?_, t2⟩
    · show fX5_answerOf (f + 1 + 1 + 1) 24 (nI r) (nI d) M = _
      rw [an_24 (by omega) hr7, a0, bdV_s, an_21 (by omega) hr7, a1, bdV_s, an_20 (by omega) hr7, a2, bdV_s, bdI_s, bdI_s]
      dsimp only
      rw [m6 t2, eL']
    · rw [if_neg (show ¬ nI 2 = 1 by decide), if_pos (show nI 2 = 2 from rfl), b0, bdV_s, b1, bdV_s, b2, bdV_s, n9a, q25, c9, e6 t2, if_pos (show nI 2 = 2 from rfl), Int32.mul_comm]
  · obtain ⟨M0', N0', a0, b0, t0⟩ := h.leave 22
    obtain ⟨M1, N1, a1, b1, t1⟩ := t0.leave 21
    obtain ⟨M2, N2, a2, b2, t2⟩ := t1.leave 20
    refine ⟨(nI r + N0 6 (9 + r)) - 1000, M2, N2, ?_, ?_, t2⟩
    · show fX5_answerOf (f + 1 + 1 + 1) 22 (nI r) (nI d) M = _
      rw [an_22 (by omega) hr7, a0, bdV_s, an_21 (by omega) hr7, a1, bdV_s, an_20 (by omega) hr7, a2, bdV_s, bdI_s, bdI_s]
      dsimp only
      rw [m6 t2, eL']
    · rw [if_neg (show ¬ nI 3 = 1 by decide), if_neg (show ¬ nI 3 = 2 by decide), b0, bdV_s, b1, bdV_s, b2, bdV_s, n9a, q25, c9, e6 t2, if_neg (show ¬ nI 3 = 2 by decide), if_pos (show nI 3 = 3 from rfl)]
theorem size_11 (hR : RS (gS M0 4) (N0 6) n s) (hr : r < n) (hk : N0 6 (18 + r) = nI kk) (h1 : 1 ≤ kk) (h3 : kk ≤ 3) {M N : Mem} {f d : Nat} (hd : d ≤ 8) (h : TR M0 N0 M N) : ∃ v M' N', fX5_answerOf (f + 1 + 1 + 1 + 1) 11 (nI r) (nI d) M = some (v, M') ∧ fX6_size_b77 (nI r) (nI kk) (N0 6 (2 + r)) N = some ((if kk = 2 then -v else v), N') ∧ TR M0 N0 M' N' := by
  have hn := hR.1.2.2
  have hr7 : r < 7 := by omega
  obtain ⟨⟨eK, -, eA⟩, -⟩ := hR.2.2.2.2 r hr
  have eA' : M0 7 r = N0 6 (2 + r) := eA
  have eK' : M0 5 r = nI kk := by rw [← hk]; exact eK
  obtain ⟨M1, N1, a1, b1, t1⟩ := h.leave 11
  obtain ⟨M2, N2, a2, b2, t2⟩ := t1.leave 10
  obtain ⟨v, M3, N3, a3, b3, t3⟩ := mark_ok (f := f) (d := d + 1) hR hr hk h1 h3 (by omega) t2
  refine ⟨N0 6 (2 + r) + v, M3, N3, ?_, ?_, t3⟩
  · rw [an_11 (by omega) hr7, a1, bdV_s, an_10 (by omega) hr7, a2, bdV_s, bdI_s]
    dsimp only
    rw [t2.1 5 (by omega) (by omega), eK', body_M h1 (by omega), bdP_s, a3, bdI_s, t2.1 7 (by omega) (by omega), eA']
  · unfold fX6_size_b77
    have e2 : (nI kk = 2) = (kk = 2) := neq (b := 2) (by omega) (by omega)
    rw [b1, bdV_s, b2, bdV_s, b3, bdI_s]
    by_cases hc : kk = 2
    · rw [if_pos (e2.mpr hc), if_pos hc]
    · rw [if_neg (fun hh => hc (e2.mp hh)), if_neg hc]
theorem size_ok (hR : RS (gS M0 4) (N0 6) n s) (hr : r < n) (hk : N0 6 (18 + r) = nI kk) (h1 : 1 ≤ kk) (h5 : kk ≤ 5) {M N : Mem} {f d : Nat} (hd : d ≤ 7) (h : TR M0 N0 M N) : ∃ v M' N', fX5_answerOf (f + 1 + 1 + 1 + 1 + 1) (bS kk) (nI r) (nI d) M = some (v, M') ∧ fX6_size (nI r) N = some (v, N') ∧ TR M0 N0 M' N' := by
  have hn := hR.1.2.2
  have hr7 : r < 7 := by omega
  obtain ⟨⟨eK, -, eA⟩, -⟩ := hR.2.2.2.2 r hr
  have eA' : M0 7 r = N0 6 (2 + r) := eA
  unfold fX6_size
  rw [n18a, n2a, chk_of (bIn_n (show 18 + r < 25 by omega) (by decide)), chk_of (bIn_n (show 2 + r < 25 by omega) (by decide)), nc (show 18 + r < 2 ^ 31 by omega), nc (show 2 + r < 2 ^ 31 by omega), h.2.1 6 (by omega) (by omega), hk]
  have hkk : kk = 1 ∨ kk = 2 ∨ kk = 3 ∨ kk = 4 ∨ kk = 5 := by omega
  rcases hkk with rfl | rfl | rfl | rfl | rfl
  · obtain ⟨v, M', N', a, b, t⟩ := size_11 (f := f + 1) hR hr hk (by omega) (by omega) (show d ≤ 8 by omega) h
    refine ⟨v, M', N', a, ?_, t⟩
    rw [if_neg (show ¬ nI 1 = 5 by decide)]
    unfold fX6_size_b30
    rw [if_pos (show nI 1 < 4 by decide), if_neg (show ¬ nI 1 = 2 by decide), b, if_neg (by omega)]
  · obtain ⟨M1, N1, a1, b1, t1⟩ := h.leave 12
    obtain ⟨v, M', N', a, b, t⟩ := size_11 (f := f) hR hr hk (by omega) (by omega) (show d + 1 ≤ 8 by omega) t1
    refine ⟨-v, M', N', ?_, ?_, t⟩
    · show fX5_answerOf (f + 1 + 1 + 1 + 1 + 1) 12 (nI r) (nI d) M = _
      rw [an_12 (by omega) hr7, a1, bdV_s, a, bdI_s]
    · rw [if_neg (show ¬ nI 2 = 5 by decide)]
      unfold fX6_size_b30
      rw [if_pos (show nI 2 < 4 by decide), if_pos (show nI 2 = 2 from rfl), b1, bdV_s, b, if_pos rfl]
  · obtain ⟨v, M', N', a, b, t⟩ := size_11 (f := f + 1) hR hr hk (by omega) (by omega) (show d ≤ 8 by omega) h
    refine ⟨v, M', N', a, ?_, t⟩
    rw [if_neg (show ¬ nI 3 = 5 by decide)]
    unfold fX6_size_b30
    rw [if_pos (show nI 3 < 4 by decide), if_neg (show ¬ nI 3 = 2 by decide), b, if_neg (by omega)]
  · obtain ⟨M1, N1, a1, b1, t1⟩ := h.leave 13
    obtain ⟨M2, N2, a2, b2, t2⟩ := t1.leave 10
    refine ⟨N0 6 (2 + r) - 100, M2, N2, ?_, ?_, t2⟩
    · show fX5_answerOf (f + 1 + 1 + 1 + 1 + 1) 13 (nI r) (nI d) M = _
      rw [an_13 (by omega) hr7, a1, bdV_s, an_10 (by omega) hr7, a2, bdV_s, bdI_s, t2.1 7 (by omega) (by omega), eA']
    · rw [if_neg (show ¬ nI 4 = 5 by decide)]
      unfold fX6_size_b30
      rw [if_neg (show ¬ nI 4 < 4 by decide), b1, bdV_s, b2, bdV_s, if_neg (show ¬ nI 4 = 5 by decide)]
  · obtain ⟨M0', N0', a0, b0, t0⟩ := h.leave 14
    obtain ⟨M1, N1, a1, b1, t1⟩ := t0.leave 13
    obtain ⟨M2, N2, a2, b2, t2⟩ := t1.leave 10
    refine ⟨(N0 6 (2 + r) - 100) * 2, M2, N2, ?_, ?_, t2⟩
    · show fX5_answerOf (f + 1 + 1 + 1 + 1 + 1) 14 (nI r) (nI d) M = _
      rw [an_14 (by omega) hr7, a0, bdV_s, an_13 (by omega) hr7, a1, bdV_s, an_10 (by omega) hr7, a2, bdV_s, bdI_s, bdI_s, t2.1 7 (by omega) (by omega), eA']
    · rw [if_pos (show nI 5 = 5 from rfl), b0, bdV_s]
      unfold fX6_size_b30
      rw [if_neg (show ¬ nI 5 < 4 by decide), b1, bdV_s, b2, bdV_s, if_pos (show nI 5 = 5 from rfl), Int32.mul_comm]
end ASK
theorem RR.trc {M N M' N' : Mem} (h : RR M N) (t : TR (mp M 132 1 0) (mp N 0 17 0) M' N') : RR M' N' := by
  obtain ⟨h1, h2, h3, h4, h5, h6, h7⟩ := h
  have hMo : ∀ i, i ≠ 132 → i ≠ 133 → M' i = M i := fun i a b => by rw [t.1 i a b, va_ne a]
  have hNo : ∀ i, i ≠ 0 → i ≠ 13 → N' i = N i := fun i a b => by rw [t.2.1 i a b, va_ne a]
  have hN0 : ∀ k, k ≠ 17 → N' 0 k = N 0 k := fun k hk => by rw [t.2.2.1 k hk, mp_k hk]
  refine ⟨RRa_c (fun i _ _ => hMo i (by omega) (by omega)) (hNo 6 (by omega) (by omega)) (hNo 10 (by omega) (by omega)) (hN0 13 (by omega)) h1, ?_, ?_, ?_, RRd_c (fun i _ _ => hMo i (by omega) (by omega)) (hNo 1 (by omega) (by omega)) (hNo 2 (by omega) (by omega)) (hNo 3 (by omega) (by omega)) h5, RRe_c (fun i _ _ => hMo i (by omega) (by omega)) (hNo 8 (by omega) (by omega)) (hNo 9 (by omega) (by omega)) h6, t.2.2.2⟩
  · rw [hMo 2 (by omega) (by omega), hMo 3 (by omega) (by omega), hN0 6 (by omega), hNo 5 (by omega) (by omega)]; exact h2
  · rw [hMo 2 (by omega) (by omega), hN0 7 (by omega)]; exact h3
  · rw [hMo 0 (by omega) (by omega), hN0 4 (by omega)]; exact h4
theorem q_ask (x y : Int32) : EqI (fX5_ask x y) (fX6_ask x y) := fun M N h => by
  obtain ⟨n, s, hR, ha⟩ := h.1
  have e1 : M 4 3 = nI n := hR.1.1
  have hn := hR.1.2.2
  unfold fX5_ask fX6_ask
  simp only [X5_noRider e1, X6_isRider hR.1.2.1, X5_outside, X6_inB, bdP_s]
  by_cases hb : inB x 0 (nI n - 1) = true
  · obtain ⟨r, hr, rfl⟩ := inB_r (by omega) hb
    simp only [hb, Bool.not_true, Bool.not_false, b2i_f, b2i_t, i10, eq_self, if_true, if_false]
    by_cases hb2 : inB y 0 1 = true
    · obtain ⟨q, hq, rfl⟩ := inB_n (k := 1) (by decide) hb2
      obtain ⟨⟨m1, -, -⟩, -, -, k, hk1, hk5, ek⟩ := hR.2.2.2.2 r hr
      have ek5 : M 5 r = nI k := by rw [← ek]; exact m1
      obtain ⟨f, hF⟩ : ∃ f, FA = f + 1 + 1 + 1 + 1 + 1 + 1 := ⟨12, FA_eq⟩
      have hR1 : RS (gS (mp M 132 1 0) 4) ((mp N 0 17 0) 6) n s := hR.congr (fun k _ => by
        show (mp M 132 1 0) (4 + 0) k = M (4 + 0) k
        rw [va_ne (by omega)]) (fun i r _ _ _ => by
        show (mp M 132 1 0) (4 + i) r = M (4 + i) r
        rw [va_ne (by omega)]) (fun j _ => by rw [va_ne (by omega)])
      have t0 : TR (mp M 132 1 0) (mp N 0 17 0) (mp M 132 1 0) (mp N 0 17 0) := ⟨fun _ _ _ => rfl, fun _ _ _ => rfl, fun _ _ => rfl, 0, by omega, by rw [mp_s]; rfl, by rw [mp_s]; rfl, fun j hj => by omega⟩
      have m5 : (mp M 132 1 0) 5 = M 5 := va_ne (by omega)
      have n6 : (mp N 0 17 0) 6 = N 6 := va_ne (by omega)
      have ek1 : (mp N 0 17 0) 6 (18 + r) = nI k := by rw [n6]; exact ek
      simp only [hb2, Bool.not_true, Bool.not_false, b2i_f, b2i_t, i10, eq_self, if_true, if_false, chk_of (bIn_n (show r < 7 by omega) (by decide)), nc (show r < 2 ^ 31 by omega), m5, ek5, n18a, chk_of (bIn_n (show 18 + r < 25 by omega) (by decide)), nc (show 18 + r < 2 ^ 31 by omega), ek1, hF]
      have hq' : q = 0 ∨ q = 1 := by omega
      rcases hq' with rfl | rfl
      · obtain ⟨v, M', N', a, b, t⟩ := size_ok (f := f + 1) (d := 0) hR1 hr ek1 hk1 hk5 (by omega) t0
        rw [show nI 0 = (0 : Int32) from rfl, body_S hk1 hk5, bdP_s, if_pos rfl]
        have a' : fX5_answerOf (f + 1 + 1 + 1 + 1 + 1 + 1) (bS k) (nI r) 0 (mp M 132 1 0) = some (v, M') := a
        rw [a', b, bdI_s, bdI_s]
        exact ⟨_, _, _, rfl, rfl, h.trc t⟩
      · rw [show nI 1 = (1 : Int32) from rfl, body_M hk1 hk5, bdP_s, if_neg i10]
        have e4 : ((4 : Int32) ≤ nI k) = (4 ≤ k) := nle (a := 4) (by omega) (by omega)
        by_cases h4 : 4 ≤ k
        · rw [if_pos (e4.mpr h4)]
          have hbm : bM k = 23 := by unfold bM; rw [if_neg (by omega), if_neg (by omega), if_neg (by omega)]
          obtain ⟨M1, N1, a1, b1, t1⟩ := t0.leave 23
          obtain ⟨M2, N2, a2, b2, t2⟩ := t1.leave 20
          obtain ⟨v, M', N', a, b, t⟩ := size_ok (f := f) (d := 0 + 1) hR1 hr ek1 hk1 hk5 (by omega) t2
          have hA := an_23 (k := f + 1 + 1 + 1 + 1 + 1) (M := mp M 132 1 0) (show 0 ≤ 16 by omega) (show r < 7 by omega)
          have hA' : fX5_answerOf (f + 1 + 1 + 1 + 1 + 1 + 1) 23 (nI r) 0 (mp M 132 1 0) = _ := hA
          rw [hbm, hA', a1, bdV_s, an_20 (by omega) (by omega), a2, bdV_s, bdI_s]
          dsimp only
          rw [t2.1 5 (by omega) (by omega), m5, ek5, body_S hk1 hk5, bdP_s, a, b1, bdV_s, b2, bdV_s, b]
          simp only [bdI_s]
          exact ⟨_, _, _, rfl, rfl, h.trc t⟩
        · rw [if_neg (fun hh => h4 (e4.mp hh))]
          obtain ⟨v, M', N', a, b, t⟩ := mark_ok (f := f + 1 + 1 + 1) (d := 0) hR1 hr ek1 hk1 (by omega) (by omega) t0
          have a' : fX5_answerOf (f + 1 + 1 + 1 + 1 + 1 + 1) (bM k) (nI r) 0 (mp M 132 1 0) = some (v, M') := a
          rw [a', b, bdI_s, bdI_s]
          exact ⟨_, _, _, rfl, rfl, h.trc t⟩
    · rw [Bool.not_eq_true] at hb2
      simp only [hb2, Bool.not_true, Bool.not_false, b2i_f, b2i_t, i10, eq_self, if_true, if_false]
      exact ⟨_, M, N, rfl, rfl, h⟩
  · rw [Bool.not_eq_true] at hb
    simp only [hb, Bool.not_true, Bool.not_false, b2i_f, b2i_t, i10, eq_self, if_true, if_false]
    exact ⟨_, M, N, rfl, rfl, h⟩
