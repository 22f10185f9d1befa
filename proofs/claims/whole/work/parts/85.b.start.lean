/-! the law, from its entry -/
theorem RR_0 : RR mX0 nX0 := by
  refine ⟨⟨0, 0, ⟨⟨rfl, rfl, by omega⟩, ⟨rfl, rfl, by omega, fun h => absurd h (by omega)⟩, ⟨rfl, Or.inl rfl⟩, rfl, fun r hr => by omega⟩, 0, 0, by omega, by omega, rfl, rfl, rfl, fun j hj => by omega⟩, ⟨0, by omega, rfl, rfl, fun j hj => by omega⟩, rfl, rfl, fun i hi => Or.inl ⟨?_, ?_⟩, fun i hi => Or.inl ⟨?_, rfl⟩, ⟨0, by omega, rfl, rfl, fun j hj => by omega⟩⟩
  · rw [mX0_1 (rw_r i hi)]; rfl
  · show sf 8 i = -1
    unfold sf
    rw [if_pos hi]
  · show mX0 (158 + 5 * i) 3 = 0
    rw [mX0_0 (rw_no (by rw [(isSt_k (st_i i hi)).2]; decide))]
def fA (g : gT) (z : Nat) : Nat → va_E := fun i => if i < 203 then eX g (aH z) mX0 i else eN g (aH (z + 203)) nX0 (i - 203)
theorem fA_X {g : gT} {z : Nat} : ∀ i, i < 202 + 1 → fA g z (0 + i) = ff5 g (z + 0) i := fun i hi => by
  unfold fA ff5
  rw [Nat.zero_add, if_pos hi]
  rfl
theorem fA_N {g : gT} {z : Nat} : ∀ i, i < 13 + 1 → fA g z (203 + i) = ff6 g (z + 203) i := fun i hi => by
  unfold fA ff6
  rw [if_neg (by omega), Nat.add_sub_cancel_left]
theorem fA_LW {g : gT} {z : Nat} {H : Heap} (h : va_P g.1 vwCl (wl 217 (aH z) (fA g z)) H) : va_P g.1 vwCl (LW g z mX0 nX0) H := by
  refine LW_mk (fun k q hk => ?_) (fun k q hk => ?_)
  · obtain ⟨h1, rfl⟩ := wl_mem hk
    have h2 := h k _ (wl_get (by omega))
    have e : fA g z k = eX g (aH z) mX0 k := if_pos h1
    rw [e] at h2
    exact h2
  · obtain ⟨h1, rfl⟩ := wl_mem hk
    have h2 := h (203 + k) _ (wl_get (by omega))
    have e : fA g z (203 + k) = eN g (aH (z + 203)) nX0 k := fA_N k h1
    rw [e] at h2
    have e2 : aH z (203 + k) = aH (z + 203) k := by show z + (203 + k) = z + 203 + k; omega
    rw [e2] at h2
    exact h2
set_option maxRecDepth 20000 in
theorem z_stN {s : State} {args : Array Value} (hs : ∀ c ∈ flatC narrow_1, c.before args s = true) (hl : (Cond.laysStatic "StepRiders" "NEXT_KIND" "[I").before args s = true) (hi : (Cond.initialized "StepRiders").before args s = true) : zOne "NEXT_KIND" stN (fun q => s.heap.size ≤ q) s s.heap := by
  have hel : ∀ j : Nat, j < 6 → (Term.elem (Term.static "StepRiders" "NEXT_KIND" "[I") (.int (Int32.ofNat j))).eval args s none [] s = some (.int (stN j)) := by
    intro j hj
    match j, hj with
    | 0, _ => exact va_eqt (hs (Cond.eq (.elem (Term.static "StepRiders" "NEXT_KIND" "[I") (.int 0)) (.int (-1))) (by decide +kernel))
    | 1, _ => exact va_eqt (hs (Cond.eq (.elem (Term.static "StepRiders" "NEXT_KIND" "[I") (.int 1)) (.int 0)) (by decide +kernel))
    | 2, _ => exact va_eqt (hs (Cond.eq (.elem (Term.static "StepRiders" "NEXT_KIND" "[I") (.int 2)) (.int 1)) (by decide +kernel))
    | 3, _ => exact va_eqt (hs (Cond.eq (.elem (Term.static "StepRiders" "NEXT_KIND" "[I") (.int 3)) (.int 1)) (by decide +kernel))
    | 4, _ => exact va_eqt (hs (Cond.eq (.elem (Term.static "StepRiders" "NEXT_KIND" "[I") (.int 4)) (.int 0)) (by decide +kernel))
    | 5, _ => exact va_eqt (hs (Cond.eq (.elem (Term.static "StepRiders" "NEXT_KIND" "[I") (.int 5)) (.int 4)) (by decide +kernel))
    | j + 6, hj => exact absurd hj (by omega)
  obtain ⟨t, ht, hT⟩ := va_Tof (tm := (Term.static "StepRiders" "NEXT_KIND" "[I")) (ty := .int) (N := 6) (f := fun j => .int (stN j)) (A := fun q => s.heap.size ≤ q) (by decide) (hs (Cond.arrayOf (Term.static "StepRiders" "NEXT_KIND" "[I") .int) (by decide +kernel)) (va_eqt (hs (Cond.eq (.length (Term.static "StepRiders" "NEXT_KIND" "[I")) (.int 6)) (by decide +kernel))) hel (fun a ha => Nat.not_le.mpr ha)
  exact ⟨t, va_Zof hl hi ht (fun a ha => Nat.not_le.mpr ha), hT⟩
set_option maxRecDepth 20000 in
theorem z_stS {s : State} {args : Array Value} (hs : ∀ c ∈ flatC narrow_1, c.before args s = true) (hl : (Cond.laysStatic "StepRiders" "SIZE_BODIES" "[I").before args s = true) (hi : (Cond.initialized "StepRiders").before args s = true) : zOne "SIZE_BODIES" stS (fun q => s.heap.size ≤ q) s s.heap := by
  have hel : ∀ j : Nat, j < 6 → (Term.elem (Term.static "StepRiders" "SIZE_BODIES" "[I") (.int (Int32.ofNat j))).eval args s none [] s = some (.int (stS j)) := by
    intro j hj
    match j, hj with
    | 0, _ => exact va_eqt (hs (Cond.eq (.elem (Term.static "StepRiders" "SIZE_BODIES" "[I") (.int 0)) (.int 10)) (by decide +kernel))
    | 1, _ => exact va_eqt (hs (Cond.eq (.elem (Term.static "StepRiders" "SIZE_BODIES" "[I") (.int 1)) (.int 11)) (by decide +kernel))
    | 2, _ => exact va_eqt (hs (Cond.eq (.elem (Term.static "StepRiders" "SIZE_BODIES" "[I") (.int 2)) (.int 12)) (by decide +kernel))
    | 3, _ => exact va_eqt (hs (Cond.eq (.elem (Term.static "StepRiders" "SIZE_BODIES" "[I") (.int 3)) (.int 0)) (by decide +kernel))
    | 4, _ => exact va_eqt (hs (Cond.eq (.elem (Term.static "StepRiders" "SIZE_BODIES" "[I") (.int 4)) (.int 13)) (by decide +kernel))
    | 5, _ => exact va_eqt (hs (Cond.eq (.elem (Term.static "StepRiders" "SIZE_BODIES" "[I") (.int 5)) (.int 14)) (by decide +kernel))
    | j + 6, hj => exact absurd hj (by omega)
  obtain ⟨t, ht, hT⟩ := va_Tof (tm := (Term.static "StepRiders" "SIZE_BODIES" "[I")) (ty := .int) (N := 6) (f := fun j => .int (stS j)) (A := fun q => s.heap.size ≤ q) (by decide) (hs (Cond.arrayOf (Term.static "StepRiders" "SIZE_BODIES" "[I") .int) (by decide +kernel)) (va_eqt (hs (Cond.eq (.length (Term.static "StepRiders" "SIZE_BODIES" "[I")) (.int 6)) (by decide +kernel))) hel (fun a ha => Nat.not_le.mpr ha)
  exact ⟨t, va_Zof hl hi ht (fun a ha => Nat.not_le.mpr ha), hT⟩
set_option maxRecDepth 20000 in
theorem z_stM {s : State} {args : Array Value} (hs : ∀ c ∈ flatC narrow_1, c.before args s = true) (hl : (Cond.laysStatic "StepRiders" "MARK_BODIES" "[I").before args s = true) (hi : (Cond.initialized "StepRiders").before args s = true) : zOne "MARK_BODIES" stM (fun q => s.heap.size ≤ q) s s.heap := by
  have hel : ∀ j : Nat, j < 6 → (Term.elem (Term.static "StepRiders" "MARK_BODIES" "[I") (.int (Int32.ofNat j))).eval args s none [] s = some (.int (stM j)) := by
    intro j hj
    match j, hj with
    | 0, _ => exact va_eqt (hs (Cond.eq (.elem (Term.static "StepRiders" "MARK_BODIES" "[I") (.int 0)) (.int 20)) (by decide +kernel))
    | 1, _ => exact va_eqt (hs (Cond.eq (.elem (Term.static "StepRiders" "MARK_BODIES" "[I") (.int 1)) (.int 21)) (by decide +kernel))
    | 2, _ => exact va_eqt (hs (Cond.eq (.elem (Term.static "StepRiders" "MARK_BODIES" "[I") (.int 2)) (.int 24)) (by decide +kernel))
    | 3, _ => exact va_eqt (hs (Cond.eq (.elem (Term.static "StepRiders" "MARK_BODIES" "[I") (.int 3)) (.int 22)) (by decide +kernel))
    | 4, _ => exact va_eqt (hs (Cond.eq (.elem (Term.static "StepRiders" "MARK_BODIES" "[I") (.int 4)) (.int 23)) (by decide +kernel))
    | 5, _ => exact va_eqt (hs (Cond.eq (.elem (Term.static "StepRiders" "MARK_BODIES" "[I") (.int 5)) (.int 0)) (by decide +kernel))
    | j + 6, hj => exact absurd hj (by omega)
  obtain ⟨t, ht, hT⟩ := va_Tof (tm := (Term.static "StepRiders" "MARK_BODIES" "[I")) (ty := .int) (N := 6) (f := fun j => .int (stM j)) (A := fun q => s.heap.size ≤ q) (by decide) (hs (Cond.arrayOf (Term.static "StepRiders" "MARK_BODIES" "[I") .int) (by decide +kernel)) (va_eqt (hs (Cond.eq (.length (Term.static "StepRiders" "MARK_BODIES" "[I")) (.int 6)) (by decide +kernel))) hel (fun a ha => Nat.not_le.mpr ha)
  exact ⟨t, va_Zof hl hi ht (fun a ha => Nat.not_le.mpr ha), hT⟩
set_option maxHeartbeats 4000000 in
set_option maxRecDepth 100000 in
theorem law_K {s : State} {b : Nat} (hts0 : ∀ w ∈ lw_tbl, w.before #[Value.ref b] s = true) : ∃ g : gT, KK g s := by
  obtain ⟨c0, i0, k0⟩ := u_known (C := RX0) (T := TX0) (N := 3) (n := 3) hts0 (fun w h => (il_wsX00 w h).1) (hts0 (.instantiable RX0 3) (List.mem_of_getElem? (i := 117) (by decide +kernel)))
  obtain ⟨c1, i1, k1⟩ := u_known (C := RX1) (T := TX1) (N := 4) (n := 4) hts0 (fun w h => (il_wsX10 w h).1) (hts0 (.instantiable RX1 4) (List.mem_of_getElem? (i := 151) (by decide +kernel)))
  obtain ⟨c2, i2, k2⟩ := u_known (C := RX2) (T := TX2) (N := 8) (n := 8) hts0 (fun w h => (il_wsX20 w h).1) (hts0 (.instantiable RX2 8) (List.mem_of_getElem? (i := 74) (by decide +kernel)))
  obtain ⟨c3, i3, k3⟩ := u_known (C := RX3) (T := TX3) (N := 3) (n := 3) hts0 (fun w h => (il_wsX30 w h).1) (hts0 (.instantiable RX3 3) (List.mem_of_getElem? (i := 55) (by decide +kernel)))
  obtain ⟨c4, i4, k4⟩ := u_known (C := RX4) (T := TX4) (N := 2) (n := 2) hts0 (fun w h => (il_wsX40 w h).1) (hts0 (.instantiable RX4 2) (List.mem_of_getElem? (i := 137) (by decide +kernel)))
  obtain ⟨c5, i5, k5⟩ := u_known (C := RX5) (T := TX5) (N := 11) (n := 11) hts0 (fun w h => (il_wsX50 w h).1) (hts0 (.instantiable RX5 11) (List.mem_of_getElem? (i := 45) (by decide +kernel)))
  obtain ⟨c6, i6, k6⟩ := u_known (C := RX6) (T := TX6) (N := 20) (n := 20) hts0 (fun w h => (il_wsX60 w h).1) (hts0 (.instantiable RX6 20) (List.mem_of_getElem? (i := 646) (by decide +kernel)))
  obtain ⟨cI, kI, pI, a1, a2, a3⟩ := Cond.arrayClass_spec (hts0 (.arrayClass .int) (List.mem_of_getElem? (i := 72) (by decide +kernel)))
  obtain ⟨cZ, kZ, pZ, b1, b2, b3⟩ := Cond.arrayClass_spec (hts0 (.arrayClass .boolean) (List.mem_of_getElem? (i := 712) (by decide +kernel)))
  obtain ⟨pR, cR, kR, r1, -, r2, r3, r4⟩ := Cond.arrayOver_spec (hts0 (.arrayOver (.object "StepRiders$Row")) (List.mem_of_getElem? (i := 53) (by decide +kernel)))
  obtain ⟨pS, cS, kS, s1, -, s2, s3, s4⟩ := Cond.arrayOver_spec (hts0 (.arrayOver (.object "StepRiders$Stair")) (List.mem_of_getElem? (i := 123) (by decide +kernel)))
  refine ⟨(((fun k => if k = 0 then c0 else if k = 1 then c1 else if k = 2 then c2 else if k = 3 then c3 else if k = 4 then c4 else if k = 5 then c5 else c6), (fun k => if k = 0 then i0 else if k = 1 then i1 else if k = 2 then i2 else if k = 3 then i3 else if k = 4 then i4 else if k = 5 then i5 else i6)), cI, cZ, cR, cS), ⟨fun k q hq => ?_, fun k q hq => ?_⟩, va_Nw.of rfl (hts0 (.methodLinkNest RX3 76 yX5_outside "StepRiders") (List.mem_of_getElem? (i := 300) (by decide +kernel)))⟩
  · match k, hq with
    | 0, hq => cases hq; exact k0
    | 1, hq => cases hq; exact k1
    | 2, hq => cases hq; exact k2
    | 3, hq => cases hq; exact k3
    | 4, hq => cases hq; exact k4
    | 5, hq => cases hq; exact k5
    | 6, hq => cases hq; exact k6
    | k + 7, hq => simp [vwCl] at hq
  · match k, hq with
    | 0, hq => cases hq; exact ⟨fun n z => ⟨(fun k h => by cases h), kI, a2, pI, a3⟩, a1⟩
    | 1, hq => cases hq; exact ⟨fun n z => ⟨(fun k h => by cases h), kZ, b2, pZ, b3⟩, b1⟩
    | 2, hq => cases hq; exact ⟨fun n z => ⟨(fun k h => by cases h), kR, r2, pR, r3⟩, kR, pR, r2, r3, r1, r4⟩
    | 3, hq => cases hq; exact ⟨fun n z => ⟨(fun k h => by cases h), kS, s2, pS, s3⟩, kS, pS, s2, s3, s1, s4⟩
    | k + 4, hq => simp [tyl] at hq
set_option maxRecDepth 20000 in
theorem law_KN {s : State} {b : Nat} (hts0 : ∀ w ∈ lw_tbl, w.before #[Value.ref b] s = true) : KN s := ⟨⟨va_Nw.of rfl (hts0 (.methodLinkNest RX5 17 yX3_init "StepRiders") (List.mem_of_getElem? (i := 56) (by decide +kernel))), va_Nw.of rfl (hts0 (.methodLinkNest RX5 24 yX2_init "StepRiders") (List.mem_of_getElem? (i := 75) (by decide +kernel))), va_Nw.of rfl (hts0 (.methodLinkNest RX0 24 yX2_init "StepRiders") (List.mem_of_getElem? (i := 124) (by decide +kernel)))⟩, ⟨va_Nw.of rfl (hts0 (.methodLinkNest RX5 42 yX4_init "StepRiders") (List.mem_of_getElem? (i := 138) (by decide +kernel))), va_Nw.of rfl (hts0 (.methodLinkNest RX5 64 yX1_init "StepRiders") (List.mem_of_getElem? (i := 152) (by decide +kernel)))⟩, va_AO.of (hts0 (.arrayOver (.object "StepRiders$Row")) (List.mem_of_getElem? (i := 53) (by decide +kernel))), va_AO.of (hts0 (.arrayOver (.object "StepRiders$Stair")) (List.mem_of_getElem? (i := 123) (by decide +kernel)))⟩
set_option maxHeartbeats 4000000 in
set_option maxRecDepth 100000 in
theorem whole_start {p : Program} {e : Env} {s : State} {m : MethodId} {below : List Frame} {meth : Method} {c : Code} (l : Launch) (hflags : l.flags = flags0) {b L : Nat} {xs : Nat → Int32} (hL : L ≤ 3072) (C0 : lw_At p s m meth c b L xs) : W p l e room_1 s m #[Value.ref b] below meth c s.heap [] 0 0 (lw_Z below #[Value.ref b] s) (entryFrame m ([Value.ref b] : List Value).toArray 4) := by
  obtain ⟨hx, hb, hr, hml, hown, hts0, hX, hbl, hlk, hgv⟩ := id C0
  have hown : s.vm.findClass RL = some m.cls := hown
  have hts : ∀ w ∈ wsL_law, w.before #[Value.ref b] s = true := fun w h => hts0 w (wsL_law_in w h)
  obtain ⟨g, hK⟩ := law_K hts0
  have hN := law_KN hts0
  have hn : narrow_1.before #[Value.ref b] s = true := by rw [Cond.before_and, Bool.and_eq_true] at hgv; exact hgv.2
  have hs := flat_of_before narrow_1 hn
  have hZ : zT (fun q => s.heap.size ≤ q) s s.heap := ⟨z_stN hs (hts0 (.laysStatic "StepRiders" "NEXT_KIND" "[I") (List.mem_of_getElem? (i := 610) (by decide +kernel))) (hts0 (.initialized RX5) (List.mem_of_getElem? (i := 34) (by decide +kernel))), z_stS hs (hts0 (.laysStatic "StepRiders" "SIZE_BODIES" "[I") (List.mem_of_getElem? (i := 619) (by decide +kernel))) (hts0 (.initialized RX5) (List.mem_of_getElem? (i := 34) (by decide +kernel))), z_stM hs (hts0 (.laysStatic "StepRiders" "MARK_BODIES" "[I") (List.mem_of_getElem? (i := 621) (by decide +kernel))) (hts0 (.initialized RX5) (List.mem_of_getElem? (i := 34) (by decide +kernel)))⟩
  have hS : va_S (fun q : Nat => s.heap.size ≤ q) s.heap s.heap [] := va_S.rf
  have hl := lv_entry ([.ref b]) (n := 4) (Nat.le_of_ble_eq_true rfl)
  rw [lg_entry_eq]
  generalize (lg_sl ([.ref b]) ++ List.replicate (4 - (lg_sl ([.ref b])).length) Slot.unset).toArray = ls at hl ⊢
  have hl : lv_has ls 4 [(0, .ref b)] := hl
  refine gw_new (h := s.heap.size) (k := 0) (f := fA g s.heap.size) (ci := 5) (fs := [.null, .null, .null, .null, .null, .null, .null, .null, .null, .null, .int 0]) hx hb hts0 (fun w h => (il_wsX50 w h).1) tyX5 tyX5_ok hown (hts0 (.classLink RL 7 RX5) (List.mem_of_getElem? (i := 44) (by decide +kernel))) (hts0 (.instantiable RX5 11) (List.mem_of_getElem? (i := 45) (by decide +kernel))) (hts0 (.initialized RX5) (List.mem_of_getElem? (i := 34) (by decide +kernel))) hK rfl wl_nil hS rfl (by decide) (Nat.le_of_ble_eq_true rfl) (Nat.le_of_ble_eq_true rfl) dL_law_0 (fun H hz hP hat hS => ?_)
  refine lv_dup hx hb dL_law_3 rfl ?_
  refine gw_initI (ok_X5_init l g) ⟨hx, hb, hml, hown, hts⟩ (cwI 0 hts gL_law_X5_init rfl rfl rfl (hts0 (.initialized RX5) (List.mem_of_getElem? (i := 34) (by decide +kernel))) (hts0 (.methodLink RL 9 yX5_init) (List.mem_of_getElem? (i := 46) (by decide +kernel))) (hts0 (.instanceMethod yX5_init) (List.mem_of_getElem? (i := 47) (by decide +kernel))) rfl (by decide +kernel) ⟨Nat.le_of_ble_eq_true rfl, Nat.le_of_ble_eq_true rfl⟩) hK hN hz hP hat hS (fun q hq => hq) fA_X hl.1 (Nat.le_of_ble_eq_true rfl) dL_law_4 ⟨Nat.le_of_ble_eq_true rfl, Nat.le_of_ble_eq_true rfl⟩ (fun H locs hz hP hS => ?_)
  have hz : H.size = s.heap.size + 203 := by rw [hz]
  have hP : va_P g.1 vwCl (wl 203 (aH s.heap.size) (fA g s.heap.size)) H := hP
  refine lv_astore_n (lv' := [(1, .ref (aH s.heap.size 0)), (0, .ref b)]) hx hb dL_law_7 rfl hl (by decide) rfl (fun ls hl => ?_)
  refine gw_new (h := s.heap.size) (k := 203) (f := fA g s.heap.size) (ci := 6) (fs := [.null, .null, .null, .null, .int 0, .null, .int 0, .int 0, .null, .null, .null, .null, .null, .int 0, .null, .null, .null, .int 0, .int 0, .int 0]) hx hb hts0 (fun w h => (il_wsX60 w h).1) tyX6 tyX6_ok hown (hts0 (.classLink RL 10 RX6) (List.mem_of_getElem? (i := 645) (by decide +kernel))) (hts0 (.instantiable RX6 20) (List.mem_of_getElem? (i := 646) (by decide +kernel))) (hts0 (.initialized RX6) (List.mem_of_getElem? (i := 40) (by decide +kernel))) hK hz hP hS rfl (by decide) (Nat.le_of_ble_eq_true rfl) (Nat.le_of_ble_eq_true rfl) dL_law_8 (fun H hz hP hat hS => ?_)
  refine lv_dup hx hb dL_law_11 rfl ?_
  refine gw_initI (ok_X6_init l g) ⟨hx, hb, hml, hown, hts⟩ (cwI 0 hts gL_law_X6_init rfl rfl rfl (hts0 (.initialized RX6) (List.mem_of_getElem? (i := 40) (by decide +kernel))) (hts0 (.methodLink RL 12 yX6_init) (List.mem_of_getElem? (i := 647) (by decide +kernel))) (hts0 (.instanceMethod yX6_init) (List.mem_of_getElem? (i := 648) (by decide +kernel))) rfl (by decide +kernel) ⟨Nat.le_of_ble_eq_true rfl, Nat.le_of_ble_eq_true rfl⟩) hK hN hz hP hat hS (fun q hq => Nat.le_trans (Nat.le_add_right _ _) hq) fA_N hl.1 (Nat.le_of_ble_eq_true rfl) dL_law_12 ⟨Nat.le_of_ble_eq_true rfl, Nat.le_of_ble_eq_true rfl⟩ (fun H locs hz hP hS => ?_)
  refine lv_astore_n (lv' := [(2, .ref (aH (s.heap.size + 203) 0)), (1, .ref (aH s.heap.size 0)), (0, .ref b)]) hx hb dL_law_15 rfl hl (by decide) rfl (fun ls hl => ?_)
  refine lv_iconst (v := 0) hx hb dL_law_16 (by decide) ?_
  refine lv_istore_n (lv' := [(3, .int 0), (2, .ref (aH (s.heap.size + 203) 0)), (1, .ref (aH s.heap.size 0)), (0, .ref b)]) hx hb dL_law_17 rfl hl (by decide) rfl (fun ls hl => ?_)
  exact law_loop hL C0 hK hZ (L + 1) 0 (Nat.zero_le L) (by omega) mX0 nX0 H locs ls RR_0 (fA_LW hP) hS hl
