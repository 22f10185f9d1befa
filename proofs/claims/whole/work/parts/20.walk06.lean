def rmX5_off : Room := { frames := 6, cells := 0, slots := 0, locals := 175 }
set_option maxHeartbeats 4000000 in
set_option maxRecDepth 100000 in
theorem ok_X5_off (l : Launch) (g : gT) (a : Nat → Nat) (hI : ij 203 a) (p1 : Int32) (M : Mem) (M' : Mem) (r : Int32) (h : fX5_off p1 M = some (r, M')) : MI l yX5_off wsX5_off rmX5_off g 203 a [.ref (a 0), .int p1] (wl 203 a (eX g a M)) (wl 203 a (eX g a M')) r := by
  refine MI_of (cc := cX5_off) (maxL := 2) (rt := .int) (by decide) rfl (Nat.le_of_ble_eq_true rfl) ?_
  intro p e s m args below meth c ls hx hb hml hr hlk hts hown hK hP hl
  have hown : s.vm.findClass RX5 = some m.cls := hown
  have hl : lv_has ls 2 [(0, .ref (a 0)), (1, .int p1)] := hl
  have hS : va_S (aA 203 a s.heap.size) s.heap s.heap [] := va_S.rf
  have iX5 : ∀ w ∈ wsX50, w ∈ wsX5_off := fun w h => List.mem_cons_of_mem _ (List.mem_append_left _ (List.mem_append_right _ h))
  have w47 := hts (.fieldLink RX5 47 "StepRiders" "trial" "LStepRiders$Stair;") (by decide +kernel)
  have w25 := hts (.fieldLink RX5 25 "StepRiders" "now" "LStepRiders$Stair;") (by decide +kernel)
  have w73 := hts (.constant RX5 73 (-1000001)) (by decide +kernel)
  obtain ⟨Qz, hQz⟩ : ∃ Qz : State → Prop, Qz = MQ below (qI g (wl 203 a (eX g a M')) r (aA 203 a s.heap.size)) args s 0 0 (aA 203 a s.heap.size) := ⟨_, rfl⟩
  rw [← hQz]
  unfold fX5_off at h
  refine lv_aload_n hx hb dX5_off_0 rfl (lv_at hl 0 rfl) ?_
  refine lv_iload_n hx hb dX5_off_1 rfl (lv_at hl 1 rfl) ?_
  obtain ⟨r1, e2, h⟩ := bdP_ok h
  refine r_callVi (As := [.int p1]) (rest := []) (ws' := (wl 203 a (eX g a M))) (ok_X5_noRider l g a hI p1 M r1 e2) ⟨hx, hb, hml, hown, hts⟩ (cwV 1 hts gX5_off_X5_noRider rfl rfl rfl (by decide +kernel) ⟨Nat.le_of_ble_eq_true rfl, Nat.le_of_ble_eq_true rfl⟩) hK (r_recv hK hP 0 (by decide) eX_0 (show vwCl[5]? = some (RX5, TX5, 11) from rfl)) hS hP (fun _ hq => aA_mono hS.1 hq) (fun _ h _ => h) rfl hl.1 rfl (Nat.le_of_ble_eq_true rfl) dX5_off_2 ⟨Nat.zero_le _, Nat.zero_le _⟩ (fun H locs hP hS => ?_)
  refine lv_if_eq (x := r1) (tgt := 11) hx hb dX5_off_5 (by decide) (fun q3 => ?_) (fun q3 => ?_)
  · replace h := if_t q3 h
    refine lv_aload_n hx hb dX5_off_11 rfl (lv_at hl 0 rfl) ?_
    refine r_get (v := .ref (a 134)) hx hb hts iX5 hown hK hP 0 (by decide) eX_0 rfl 6 (by decide) w47 rfl dX5_off_12 ?_
    refine lv_aload_n hx hb dX5_off_15 rfl (lv_at hl 0 rfl) ?_
    refine r_get (v := .ref (a 4)) hx hb hts iX5 hown hK hP 0 (by decide) eX_0 rfl 2 (by decide) w25 rfl dX5_off_16 ?_
    obtain ⟨M6, e5, h⟩ := bdV_ok h
    refine r_callVv (As := [.ref (a 4)]) (rest := []) (ws' := (wl 203 a (eX g a M6))) (ok_X2_become l g a hI 134 4 M M6 (by decide) (by decide) e5) ⟨hx, hb, hml, hown, hts⟩ (cwV 1 hts gX5_off_X2_become rfl rfl rfl (by decide +kernel) ⟨Nat.le_of_ble_eq_true rfl, Nat.le_of_ble_eq_true rfl⟩) hK (r_recv hK hP 134 (isSt_lt (c := 134) (by decide) 0 (by decide)) (eX_Stair (c := 134) (by decide)) (show vwCl[2]? = some (RX2, TX2, 8) from rfl)) hS hP (fun _ hq => aA_mono hS.1 hq) (fun _ h _ => h) rfl hl.1 rfl (Nat.le_of_ble_eq_true rfl) dX5_off_19 ⟨Nat.zero_le _, Nat.zero_le _⟩ (fun H locs hP hS => ?_)
    refine lv_aload_n hx hb dX5_off_22 rfl (lv_at hl 0 rfl) ?_
    refine r_get (v := .ref (a 134)) hx hb hts iX5 hown hK hP 0 (by decide) eX_0 rfl 6 (by decide) w47 rfl dX5_off_23 ?_
    refine lv_iload_n hx hb dX5_off_26 rfl (lv_at hl 1 rfl) ?_
    refine lv_bipush (v := 60) hx hb dX5_off_27 (by decide) ?_
    obtain ⟨r7, M9, e8, h⟩ := bdI_ok h
    refine r_callVi (As := [.int p1, .int 60]) (rest := []) (ws' := (wl 203 a (eX g a (pS M6 134 M9)))) (ok_X2_passUntilOff l g (gA a 134) (gA_ij (c := 134) (by decide) hI) p1 60 (gS M6 134) M9 r7 e8) ⟨hx, hb, hml, hown, hts⟩ (cwV 2 hts gX5_off_X2_passUntilOff rfl rfl rfl (by decide +kernel) ⟨Nat.le_of_ble_eq_true rfl, Nat.le_of_ble_eq_true rfl⟩) hK (r_recv hK hP 134 (isSt_lt (c := 134) (by decide) 0 (by decide)) (eX_Stair (c := 134) (by decide)) (show vwCl[2]? = some (RX2, TX2, 8) from rfl)) hS (S_cut (c := 134) (by decide) hP) (S_A (c := 134) (by decide) hS.1) (S_join (c := 134) (by decide) hI hP) rfl hl.1 rfl (Nat.le_of_ble_eq_true rfl) dX5_off_29 ⟨Nat.zero_le _, Nat.zero_le _⟩ (fun H locs hP hS => ?_)
    rw [hQz]
    exact r_iret (v := r7) hx hb hr hlk hS ((Prod.mk.inj (Option.some.inj h)).2 ▸ hP) (Prod.mk.inj (Option.some.inj h)).1 dX5_off_32
  · replace h := if_f q3 h
    refine lv_ldc (v := (-1000001)) hx hb hown w73 dX5_off_8 ?_
    rw [hQz]
    exact r_iret (v := (-1000001)) hx hb hr hlk hS ((Prod.mk.inj (Option.some.inj h)).2 ▸ hP) (Prod.mk.inj (Option.some.inj h)).1 dX5_off_10
def rmX5_clear : Room := { frames := 6, cells := 0, slots := 0, locals := 174 }
set_option maxHeartbeats 4000000 in
set_option maxRecDepth 100000 in
theorem ok_X5_clear (l : Launch) (g : gT) (a : Nat → Nat) (hI : ij 203 a) (M : Mem) (M' : Mem) (r : Int32) (h : fX5_clear M = some (r, M')) : MI l yX5_clear wsX5_clear rmX5_clear g 203 a [.ref (a 0)] (wl 203 a (eX g a M)) (wl 203 a (eX g a M')) r := by
  refine MI_of (cc := cX5_clear) (maxL := 1) (rt := .int) (by decide) rfl (Nat.le_of_ble_eq_true rfl) ?_
  intro p e s m args below meth c ls hx hb hml hr hlk hts hown hK hP hl
  have hown : s.vm.findClass RX5 = some m.cls := hown
  have hl : lv_has ls 1 [(0, .ref (a 0))] := hl
  have hS : va_S (aA 203 a s.heap.size) s.heap s.heap [] := va_S.rf
  have iX5 : ∀ w ∈ wsX50, w ∈ wsX5_clear := fun w h => List.mem_cons_of_mem _ (List.mem_append_left _ (List.mem_append_right _ h))
  have w47 := hts (.fieldLink RX5 47 "StepRiders" "trial" "LStepRiders$Stair;") (by decide +kernel)
  have w25 := hts (.fieldLink RX5 25 "StepRiders" "now" "LStepRiders$Stair;") (by decide +kernel)
  have w140 := hts (.constant RX5 140 (-1000002)) (by decide +kernel)
  obtain ⟨Qz, hQz⟩ : ∃ Qz : State → Prop, Qz = MQ below (qI g (wl 203 a (eX g a M')) r (aA 203 a s.heap.size)) args s 0 0 (aA 203 a s.heap.size) := ⟨_, rfl⟩
  rw [← hQz]
  unfold fX5_clear at h
  refine lv_aload_n hx hb dX5_clear_0 rfl (lv_at hl 0 rfl) ?_
  obtain ⟨r1, e2, h⟩ := bdP_ok h
  refine r_callVi (As := []) (rest := []) (ws' := (wl 203 a (eX g a M))) (ok_X5_noStair l g a hI M r1 e2) ⟨hx, hb, hml, hown, hts⟩ (cwV 0 hts gX5_clear_X5_noStair rfl rfl rfl (by decide +kernel) ⟨Nat.le_of_ble_eq_true rfl, Nat.le_of_ble_eq_true rfl⟩) hK (r_recv hK hP 0 (by decide) eX_0 (show vwCl[5]? = some (RX5, TX5, 11) from rfl)) hS hP (fun _ hq => aA_mono hS.1 hq) (fun _ h _ => h) rfl hl.1 rfl (Nat.le_of_ble_eq_true rfl) dX5_clear_1 ⟨Nat.zero_le _, Nat.zero_le _⟩ (fun H locs hP hS => ?_)
  refine lv_if_eq (x := r1) (tgt := 10) hx hb dX5_clear_4 (by decide) (fun q3 => ?_) (fun q3 => ?_)
  · replace h := if_t q3 h
    refine lv_aload_n hx hb dX5_clear_10 rfl (lv_at hl 0 rfl) ?_
    refine r_get (v := .ref (a 134)) hx hb hts iX5 hown hK hP 0 (by decide) eX_0 rfl 6 (by decide) w47 rfl dX5_clear_11 ?_
    refine lv_aload_n hx hb dX5_clear_14 rfl (lv_at hl 0 rfl) ?_
    refine r_get (v := .ref (a 4)) hx hb hts iX5 hown hK hP 0 (by decide) eX_0 rfl 2 (by decide) w25 rfl dX5_clear_15 ?_
    obtain ⟨M6, e5, h⟩ := bdV_ok h
    refine r_callVv (As := [.ref (a 4)]) (rest := []) (ws' := (wl 203 a (eX g a M6))) (ok_X2_become l g a hI 134 4 M M6 (by decide) (by decide) e5) ⟨hx, hb, hml, hown, hts⟩ (cwV 1 hts gX5_clear_X2_become rfl rfl rfl (by decide +kernel) ⟨Nat.le_of_ble_eq_true rfl, Nat.le_of_ble_eq_true rfl⟩) hK (r_recv hK hP 134 (isSt_lt (c := 134) (by decide) 0 (by decide)) (eX_Stair (c := 134) (by decide)) (show vwCl[2]? = some (RX2, TX2, 8) from rfl)) hS hP (fun _ hq => aA_mono hS.1 hq) (fun _ h _ => h) rfl hl.1 rfl (Nat.le_of_ble_eq_true rfl) dX5_clear_18 ⟨Nat.zero_le _, Nat.zero_le _⟩ (fun H locs hP hS => ?_)
    refine lv_aload_n hx hb dX5_clear_21 rfl (lv_at hl 0 rfl) ?_
    refine r_get (v := .ref (a 134)) hx hb hts iX5 hown hK hP 0 (by decide) eX_0 rfl 6 (by decide) w47 rfl dX5_clear_22 ?_
    refine lv_bipush (v := 60) hx hb dX5_clear_25 (by decide) ?_
    obtain ⟨r7, M9, e8, h⟩ := bdI_ok h
    refine r_callVi (As := [.int 60]) (rest := []) (ws' := (wl 203 a (eX g a (pS M6 134 M9)))) (ok_X2_passUntilClear l g (gA a 134) (gA_ij (c := 134) (by decide) hI) 60 (gS M6 134) M9 r7 e8) ⟨hx, hb, hml, hown, hts⟩ (cwV 1 hts gX5_clear_X2_passUntilClear rfl rfl rfl (by decide +kernel) ⟨Nat.le_of_ble_eq_true rfl, Nat.le_of_ble_eq_true rfl⟩) hK (r_recv hK hP 134 (isSt_lt (c := 134) (by decide) 0 (by decide)) (eX_Stair (c := 134) (by decide)) (show vwCl[2]? = some (RX2, TX2, 8) from rfl)) hS (S_cut (c := 134) (by decide) hP) (S_A (c := 134) (by decide) hS.1) (S_join (c := 134) (by decide) hI hP) rfl hl.1 rfl (Nat.le_of_ble_eq_true rfl) dX5_clear_27 ⟨Nat.zero_le _, Nat.zero_le _⟩ (fun H locs hP hS => ?_)
    rw [hQz]
    exact r_iret (v := r7) hx hb hr hlk hS ((Prod.mk.inj (Option.some.inj h)).2 ▸ hP) (Prod.mk.inj (Option.some.inj h)).1 dX5_clear_30
  · replace h := if_f q3 h
    refine lv_ldc (v := (-1000002)) hx hb hown w140 dX5_clear_7 ?_
    rw [hQz]
    exact r_iret (v := (-1000002)) hx hb hr hlk hS ((Prod.mk.inj (Option.some.inj h)).2 ▸ hP) (Prod.mk.inj (Option.some.inj h)).1 dX5_clear_9
def rmX5_nextSubset : Room := { frames := 1, cells := 0, slots := 0, locals := 60 }
set_option maxHeartbeats 4000000 in
set_option maxRecDepth 100000 in
theorem ok_X5_nextSubset (l : Launch) (g : gT) (p0 : Int32) (p1 : Int32) (r : Int32) (h : fX5_nextSubset p0 p1 = some r) : MI l yX5_nextSubset wsX5_nextSubset rmX5_nextSubset g 0 (fun _ => 0) [.int p0, .int p1] ([] : va_W) ([] : va_W) r := by
  refine MI_of (cc := cX5_nextSubset) (maxL := 2) (rt := .int) (by decide) rfl (Nat.le_of_ble_eq_true rfl) ?_
  intro p e s m args below meth c ls hx hb hml hr hlk hts hown hK hP hl
  have hown : s.vm.findClass RX5 = some m.cls := hown
  have hl : lv_has ls 2 [(0, .int p0), (1, .int p1)] := hl
  have hS : va_S (aA 0 (fun _ => 0) s.heap.size) s.heap s.heap [] := va_S.rf
  obtain ⟨Qz, hQz⟩ : ∃ Qz : State → Prop, Qz = MQ below (qI g ([] : va_W) r (aA 0 (fun _ => 0) s.heap.size)) args s 0 0 (aA 0 (fun _ => 0) s.heap.size) := ⟨_, rfl⟩
  rw [← hQz]
  unfold fX5_nextSubset at h
  refine lv_iload_n hx hb dX5_nextSubset_0 rfl (lv_at hl 0 rfl) ?_
  refine lv_iload_n hx hb dX5_nextSubset_1 rfl (lv_at hl 1 rfl) ?_
  refine lv_isub (x := p0) (y := p1) hx hb dX5_nextSubset_2 ?_
  refine lv_iload_n hx hb dX5_nextSubset_3 rfl (lv_at hl 1 rfl) ?_
  refine lv_iand (x := (p0 - p1)) (y := p1) hx hb dX5_nextSubset_4 ?_
  rw [hQz]
  exact r_iret (v := ((p0 - p1) &&& p1)) hx hb hr hlk hS hP (Option.some.inj h) dX5_nextSubset_5
def rmX5_sorting : Room := { frames := 6, cells := 0, slots := 0, locals := 174 }
set_option maxHeartbeats 4000000 in
set_option maxRecDepth 100000 in
theorem ok_X5_sorting (l : Launch) (g : gT) (a : Nat → Nat) (hI : ij 203 a) (p1 : Int32) (M : Mem) (M' : Mem) (r : Int32) (h : fX5_sorting p1 M = some (r, M')) : MI l yX5_sorting wsX5_sorting rmX5_sorting g 203 a [.ref (a 0), .int p1] (wl 203 a (eX g a M)) (wl 203 a (eX g a M')) r := by
  refine MI_of (cc := cX5_sorting) (maxL := 8) (rt := .int) (by decide) rfl (Nat.le_of_ble_eq_true rfl) ?_
  intro p e s m args below meth c ls hx hb hml hr hlk hts hown hK hP hl
  have hown : s.vm.findClass RX5 = some m.cls := hown
  have hl : lv_has ls 8 [(0, .ref (a 0)), (1, .int p1)] := hl
  have hS : va_S (aA 203 a s.heap.size) s.heap s.heap [] := va_S.rf
  have iX5 : ∀ w ∈ wsX50, w ∈ wsX5_sorting := fun w h => List.mem_cons_of_mem _ (List.mem_append_left _ (List.mem_append_right _ h))
  have w121 := hts (.constant RX5 121 (-1000000)) (by decide +kernel)
  have w47 := hts (.fieldLink RX5 47 "StepRiders" "trial" "LStepRiders$Stair;") (by decide +kernel)
  have w25 := hts (.fieldLink RX5 25 "StepRiders" "now" "LStepRiders$Stair;") (by decide +kernel)
  have w73 := hts (.constant RX5 73 (-1000001)) (by decide +kernel)
  have w140 := hts (.constant RX5 140 (-1000002)) (by decide +kernel)
  obtain ⟨Qz, hQz⟩ : ∃ Qz : State → Prop, Qz = MQ below (qI g (wl 203 a (eX g a M')) r (aA 203 a s.heap.size)) args s 0 0 (aA 203 a s.heap.size) := ⟨_, rfl⟩
  rw [← hQz]
  have B121 : ∀ (x3 : Int32) (x4 : Int32) (M : Mem) (H : Heap) (locs : List Loc) (ls : Array Slot), fX5_sorting_b121 p1 x3 x4 M = some (r, M') → va_P g.1 vwCl (wl 203 a (eX g a M)) H → va_S (aA 203 a s.heap.size) s.heap H locs → lv_has ls 8 [(0, .ref (a 0)), (1, .int p1), (3, .int x3), (4, .int x4)] → W p l e rmX5_sorting s m args below meth c H locs 0 0 Qz (F0 m 121 ls []) := by
    intro x3 x4 M H locs ls h hP hS hl
    unfold fX5_sorting_b121 at h
    refine lv_iload hx hb dX5_sorting_121 (lv_at hl 3 rfl) ?_
    refine lv_ldc (v := (-1000000)) hx hb hown w121 dX5_sorting_123 ?_
    refine lv_icmp_ne (x := x4) (y := (-1000000)) (tgt := 131) hx hb dX5_sorting_125 (by decide) (fun q1 => ?_) (fun q1 => ?_)
    · replace h := if_f q1 h
      refine lv_iload_n hx hb dX5_sorting_131 rfl (lv_at hl 1 rfl) ?_
      refine lv_if_ne (x := p1) (tgt := 139) hx hb dX5_sorting_132 (by decide) (fun q2 => ?_) (fun q2 => ?_)
      · replace h := if_f q2 h
        refine lv_iload hx hb dX5_sorting_139 (lv_at hl 3 rfl) ?_
        rw [hQz]
        exact r_iret (v := x4) hx hb hr hlk hS ((Prod.mk.inj (Option.some.inj h)).2 ▸ hP) (Prod.mk.inj (Option.some.inj h)).1 dX5_sorting_141
      · replace h := if_t q2 h
        refine lv_iload_n hx hb dX5_sorting_135 rfl (lv_at hl 2 rfl) ?_
        refine lv_goto (tgt := 141) hx hb dX5_sorting_136 (by decide) ?_
        rw [hQz]
        exact r_iret (v := x3) hx hb hr hlk hS ((Prod.mk.inj (Option.some.inj h)).2 ▸ hP) (Prod.mk.inj (Option.some.inj h)).1 dX5_sorting_141
    · replace h := if_t q1 h
      refine lv_ldc (v := (-1000000)) hx hb hown w121 dX5_sorting_128 ?_
      rw [hQz]
      exact r_iret (v := (-1000000)) hx hb hr hlk hS ((Prod.mk.inj (Option.some.inj h)).2 ▸ hP) (Prod.mk.inj (Option.some.inj h)).1 dX5_sorting_130
  have B112 : ∀ (x3 : Int32) (x4 : Int32) (M : Mem) (H : Heap) (locs : List Loc) (ls : Array Slot), fX5_sorting_b112 p1 x3 x4 M = some (r, M') → va_P g.1 vwCl (wl 203 a (eX g a M)) H → va_S (aA 203 a s.heap.size) s.heap H locs → lv_has ls 8 [(0, .ref (a 0)), (1, .int p1), (3, .int x3), (4, .int x4)] → W p l e rmX5_sorting s m args below meth c H locs 0 0 Qz (F0 m 112 ls []) := by
    intro x3 x4 M H locs ls h hP hS hl
    unfold fX5_sorting_b112 at h
    refine lv_goto (tgt := 121) hx hb dX5_sorting_112 (by decide) ?_
    exact B121 x3 x4 M _ _ _ h hP hS (lv_sub hl [0, 1, 2, 3] rfl)
  have B99 : ∀ (k44 : Int32 → Int32 → Int32 → Int32 → Int32 → Mem → Option (Int32 × Mem)) (C44 : ∀ (x2 : Int32) (x3 : Int32) (x4 : Int32) (x5 : Int32) (x6 : Int32) (M : Mem) (H : Heap) (locs : List Loc) (ls : Array Slot), k44 x2 x3 x4 x5 x6 M = some (r, M') → va_P g.1 vwCl (wl 203 a (eX g a M)) H → va_S (aA 203 a s.heap.size) s.heap H locs → lv_has ls 8 [(0, .ref (a 0)), (1, .int p1), (2, .int x2), (3, .int x3), (4, .int x4), (5, .int x5), (6, .int x6)] → W p l e rmX5_sorting s m args below meth c H locs 0 0 Qz (F0 m 44 ls [])), ∀ (x2 : Int32) (x3 : Int32) (x4 : Int32) (x5 : Int32) (x6 : Int32) (M : Mem) (H : Heap) (locs : List Loc) (ls : Array Slot), fX5_sorting_b99 p1 k44 x2 x3 x4 x5 x6 M = some (r, M') → va_P g.1 vwCl (wl 203 a (eX g a M)) H → va_S (aA 203 a s.heap.size) s.heap H locs → lv_has ls 8 [(0, .ref (a 0)), (1, .int p1), (2, .int x2), (3, .int x3), (4, .int x4), (5, .int x5), (6, .int x6)] → W p l e rmX5_sorting s m args below meth c H locs 0 0 Qz (F0 m 99 ls []) := by
    intro k44 C44 x2 x3 x4 x5 x6 M H locs ls h hP hS hl
    unfold fX5_sorting_b99 at h
    refine lv_iload hx hb dX5_sorting_99 (lv_at hl 5 rfl) ?_
    refine lv_iload_n hx hb dX5_sorting_101 rfl (lv_at hl 2 rfl) ?_
    obtain ⟨r1, e2, h⟩ := bdP_ok h
    refine r_callSi (As := [.int x5, .int x2]) (rest := []) (ws' := (wl 203 a (eX g a M))) (ok_X5_nextSubset l g x5 x2 r1 e2) ⟨hx, hb, hml, hown, hts⟩ (cwS 2 hts gX5_sorting_X5_nextSubset rfl rfl rfl (by decide +kernel) ⟨Nat.le_of_ble_eq_true rfl, Nat.le_of_ble_eq_true rfl⟩) hK hS nilP (P_A hS.1) (fun _ _ hk => wl_keep hP hk) rfl hl.1 rfl (Nat.le_of_ble_eq_true rfl) dX5_sorting_102 ⟨Nat.zero_le _, Nat.zero_le _⟩ (fun H locs hP hS => ?_)
    refine lv_istore (lv' := [(5, .int r1), (0, .ref (a 0)), (1, .int p1), (2, .int x2), (3, .int x3), (4, .int x4), (6, .int x6)]) hx hb dX5_sorting_105 hl (by decide) rfl (fun ls hl => ?_)
    refine lv_iload hx hb dX5_sorting_107 (lv_at hl 0 rfl) ?_
    refine lv_if_ne (x := r1) (tgt := 115) hx hb dX5_sorting_109 (by decide) (fun q3 => ?_) (fun q3 => ?_)
    · replace h := if_f q3 h
      refine lv_iinc (v := (x6 + 1)) (lv' := [(6, .int (x6 + 1)), (5, .int r1), (0, .ref (a 0)), (1, .int p1), (2, .int x2), (3, .int x3), (4, .int x4)]) hx hb dX5_sorting_115 hl (k := 6) rfl rfl (by decide) rfl (fun ls hl => ?_)
      refine lv_goto (tgt := 44) hx hb dX5_sorting_118 (by decide) ?_
      exact C44 x2 x3 x4 r1 (x6 + 1) M _ _ _ h hP hS (lv_sub hl [2, 3, 4, 5, 6, 1, 0] rfl)
    · replace h := if_t q3 h
      exact B112 x3 x4 M _ _ _ h hP hS (lv_sub hl [1, 2, 4, 5] rfl)
  have B44 : ∀ (k44 : Int32 → Int32 → Int32 → Int32 → Int32 → Mem → Option (Int32 × Mem)) (C44 : ∀ (x2 : Int32) (x3 : Int32) (x4 : Int32) (x5 : Int32) (x6 : Int32) (M : Mem) (H : Heap) (locs : List Loc) (ls : Array Slot), k44 x2 x3 x4 x5 x6 M = some (r, M') → va_P g.1 vwCl (wl 203 a (eX g a M)) H → va_S (aA 203 a s.heap.size) s.heap H locs → lv_has ls 8 [(0, .ref (a 0)), (1, .int p1), (2, .int x2), (3, .int x3), (4, .int x4), (5, .int x5), (6, .int x6)] → W p l e rmX5_sorting s m args below meth c H locs 0 0 Qz (F0 m 44 ls [])), ∀ (x2 : Int32) (x3 : Int32) (x4 : Int32) (x5 : Int32) (x6 : Int32) (M : Mem) (H : Heap) (locs : List Loc) (ls : Array Slot), fX5_sorting_b44 p1 k44 x2 x3 x4 x5 x6 M = some (r, M') → va_P g.1 vwCl (wl 203 a (eX g a M)) H → va_S (aA 203 a s.heap.size) s.heap H locs → lv_has ls 8 [(0, .ref (a 0)), (1, .int p1), (2, .int x2), (3, .int x3), (4, .int x4), (5, .int x5), (6, .int x6)] → W p l e rmX5_sorting s m args below meth c H locs 0 0 Qz (F0 m 44 ls []) := by
    intro k44 C44 x2 x3 x4 x5 x6 M H locs ls h hP hS hl
    unfold fX5_sorting_b44 at h
    refine lv_iload hx hb dX5_sorting_44 (lv_at hl 6 rfl) ?_
    refine lv_sipush (v := 128) hx hb dX5_sorting_46 (by decide) ?_
    refine lv_icmp_ge (x := x6) (y := 128) (tgt := 121) hx hb dX5_sorting_49 (by decide) (fun q1 => ?_) (fun q1 => ?_)
    · replace h := if_t q1 h
      exact B121 x3 x4 M _ _ _ h hP hS (lv_sub hl [0, 1, 3, 4] rfl)
    · replace h := if_f q1 h
      refine lv_aload_n hx hb dX5_sorting_52 rfl (lv_at hl 0 rfl) ?_
      refine r_get (v := .ref (a 134)) hx hb hts iX5 hown hK hP 0 (by decide) eX_0 rfl 6 (by decide) w47 rfl dX5_sorting_53 ?_
      refine lv_aload_n hx hb dX5_sorting_56 rfl (lv_at hl 0 rfl) ?_
      refine r_get (v := .ref (a 4)) hx hb hts iX5 hown hK hP 0 (by decide) eX_0 rfl 2 (by decide) w25 rfl dX5_sorting_57 ?_
      obtain ⟨M4, e3, h⟩ := bdV_ok h
      refine r_callVv (As := [.ref (a 4)]) (rest := []) (ws' := (wl 203 a (eX g a M4))) (ok_X2_become l g a hI 134 4 M M4 (by decide) (by decide) e3) ⟨hx, hb, hml, hown, hts⟩ (cwV 1 hts gX5_sorting_X2_become rfl rfl rfl (by decide +kernel) ⟨Nat.le_of_ble_eq_true rfl, Nat.le_of_ble_eq_true rfl⟩) hK (r_recv hK hP 134 (isSt_lt (c := 134) (by decide) 0 (by decide)) (eX_Stair (c := 134) (by decide)) (show vwCl[2]? = some (RX2, TX2, 8) from rfl)) hS hP (fun _ hq => aA_mono hS.1 hq) (fun _ h _ => h) rfl hl.1 rfl (Nat.le_of_ble_eq_true rfl) dX5_sorting_60 ⟨Nat.zero_le _, Nat.zero_le _⟩ (fun H locs hP hS => ?_)
      refine lv_aload_n hx hb dX5_sorting_63 rfl (lv_at hl 0 rfl) ?_
      refine r_get (v := .ref (a 134)) hx hb hts iX5 hown hK hP 0 (by decide) eX_0 rfl 6 (by decide) w47 rfl dX5_sorting_64 ?_
      refine lv_iload_n hx hb dX5_sorting_67 rfl (lv_at hl 2 rfl) ?_
      refine lv_iload hx hb dX5_sorting_68 (lv_at hl 5 rfl) ?_
      obtain ⟨M7, e6, h⟩ := bdV_ok h
      refine r_callVv (As := [.int x2, .int x5]) (rest := []) (ws' := (wl 203 a (eX g a (pS M4 134 M7)))) (ok_X2_putInLanes l g (gA a 134) (gA_ij (c := 134) (by decide) hI) x2 x5 (gS M4 134) M7 e6) ⟨hx, hb, hml, hown, hts⟩ (cwV 2 hts gX5_sorting_X2_putInLanes rfl rfl rfl (by decide +kernel) ⟨Nat.le_of_ble_eq_true rfl, Nat.le_of_ble_eq_true rfl⟩) hK (r_recv hK hP 134 (isSt_lt (c := 134) (by decide) 0 (by decide)) (eX_Stair (c := 134) (by decide)) (show vwCl[2]? = some (RX2, TX2, 8) from rfl)) hS (S_cut (c := 134) (by decide) hP) (S_A (c := 134) (by decide) hS.1) (S_join (c := 134) (by decide) hI hP) rfl hl.1 rfl (Nat.le_of_ble_eq_true rfl) dX5_sorting_70 ⟨Nat.zero_le _, Nat.zero_le _⟩ (fun H locs hP hS => ?_)
      refine lv_aload_n hx hb dX5_sorting_73 rfl (lv_at hl 0 rfl) ?_
      refine r_get (v := .ref (a 134)) hx hb hts iX5 hown hK hP 0 (by decide) eX_0 rfl 6 (by decide) w47 rfl dX5_sorting_74 ?_
      refine lv_iload_n hx hb dX5_sorting_77 rfl (lv_at hl 3 rfl) ?_
      refine lv_iconst (v := 1) hx hb dX5_sorting_78 (by decide) ?_
      refine lv_isub (x := x3) (y := 1) hx hb dX5_sorting_79 ?_
      obtain ⟨r8, M10, e9, h⟩ := bdI_ok h
      refine r_callVi (As := [.int (x3 - 1)]) (rest := []) (ws' := (wl 203 a (eX g a (pS (pS M4 134 M7) 134 M10)))) (ok_X2_passUntilClear l g (gA a 134) (gA_ij (c := 134) (by decide) hI) (x3 - 1) (gS (pS M4 134 M7) 134) M10 r8 e9) ⟨hx, hb, hml, hown, hts⟩ (cwV 1 hts gX5_sorting_X2_passUntilClear rfl rfl rfl (by decide +kernel) ⟨Nat.le_of_ble_eq_true rfl, Nat.le_of_ble_eq_true rfl⟩) hK (r_recv hK hP 134 (isSt_lt (c := 134) (by decide) 0 (by decide)) (eX_Stair (c := 134) (by decide)) (show vwCl[2]? = some (RX2, TX2, 8) from rfl)) hS (S_cut (c := 134) (by decide) hP) (S_A (c := 134) (by decide) hS.1) (S_join (c := 134) (by decide) hI hP) rfl hl.1 rfl (Nat.le_of_ble_eq_true rfl) dX5_sorting_80 ⟨Nat.zero_le _, Nat.zero_le _⟩ (fun H locs hP hS => ?_)
      refine lv_istore (lv' := [(7, .int r8), (0, .ref (a 0)), (1, .int p1), (2, .int x2), (3, .int x3), (4, .int x4), (5, .int x5), (6, .int x6)]) hx hb dX5_sorting_83 hl (by decide) rfl (fun ls hl => ?_)
      refine lv_iload hx hb dX5_sorting_85 (lv_at hl 0 rfl) ?_
      refine lv_ldc (v := (-1000000)) hx hb hown w121 dX5_sorting_87 ?_
      refine lv_icmp_eq (x := r8) (y := (-1000000)) (tgt := 99) hx hb dX5_sorting_89 (by decide) (fun q11 => ?_) (fun q11 => ?_)
      · replace h := if_t q11 h
        exact B99 k44 C44 x2 x3 x4 x5 x6 (pS (pS M4 134 M7) 134 M10) _ _ _ h hP hS (lv_sub hl [1, 2, 3, 4, 5, 6, 7] rfl)
      · replace h := if_f q11 h
        refine lv_iload hx hb dX5_sorting_92 (lv_at hl 0 rfl) ?_
        refine lv_istore_n (lv' := [(3, .int r8), (7, .int r8), (0, .ref (a 0)), (1, .int p1), (2, .int x2), (4, .int x4), (5, .int x5), (6, .int x6)]) hx hb dX5_sorting_94 rfl hl (by decide) rfl (fun ls hl => ?_)
        refine lv_iload hx hb dX5_sorting_95 (lv_at hl 6 rfl) ?_
        refine lv_istore (lv' := [(4, .int x5), (3, .int r8), (7, .int r8), (0, .ref (a 0)), (1, .int p1), (2, .int x2), (5, .int x5), (6, .int x6)]) hx hb dX5_sorting_97 hl (by decide) rfl (fun ls hl => ?_)
        exact B99 k44 C44 x2 r8 x5 x5 x6 (pS (pS M4 134 M7) 134 M10) _ _ _ h hP hS (lv_sub hl [3, 4, 5, 1, 0, 6, 7] rfl)
  have L44 : ∀ (n : Nat), ∀ (x2 : Int32) (x3 : Int32) (x4 : Int32) (x5 : Int32) (x6 : Int32) (M : Mem) (H : Heap) (locs : List Loc) (ls : Array Slot), fX5_sorting_l44 p1 n x2 x3 x4 x5 x6 M = some (r, M') → va_P g.1 vwCl (wl 203 a (eX g a M)) H → va_S (aA 203 a s.heap.size) s.heap H locs → lv_has ls 8 [(0, .ref (a 0)), (1, .int p1), (2, .int x2), (3, .int x3), (4, .int x4), (5, .int x5), (6, .int x6)] → W p l e rmX5_sorting s m args below meth c H locs 0 0 Qz (F0 m 44 ls []) := by
    intro n
    induction n with
    | zero => intro x2 x3 x4 x5 x6 M H locs ls h; exact absurd (show (none : Option (Int32 × Mem)) = some _ from h) (fun z => by cases z)
    | succ n ih => exact fun x2 x3 x4 x5 x6 M H locs ls h hP hS hl => B44 (fX5_sorting_l44 p1 n) ih x2 x3 x4 x5 x6 M H locs ls h hP hS hl
  unfold fX5_sorting at h
  refine lv_aload_n hx hb dX5_sorting_0 rfl (lv_at hl 0 rfl) ?_
  obtain ⟨r1, e2, h⟩ := bdP_ok h
  refine r_callVi (As := []) (rest := []) (ws' := (wl 203 a (eX g a M))) (ok_X5_noStair l g a hI M r1 e2) ⟨hx, hb, hml, hown, hts⟩ (cwV 0 hts gX5_sorting_X5_noStair rfl rfl rfl (by decide +kernel) ⟨Nat.le_of_ble_eq_true rfl, Nat.le_of_ble_eq_true rfl⟩) hK (r_recv hK hP 0 (by decide) eX_0 (show vwCl[5]? = some (RX5, TX5, 11) from rfl)) hS hP (fun _ hq => aA_mono hS.1 hq) (fun _ h _ => h) rfl hl.1 rfl (Nat.le_of_ble_eq_true rfl) dX5_sorting_1 ⟨Nat.zero_le _, Nat.zero_le _⟩ (fun H locs hP hS => ?_)
  refine lv_if_eq (x := r1) (tgt := 10) hx hb dX5_sorting_4 (by decide) (fun q3 => ?_) (fun q3 => ?_)
  · replace h := if_t q3 h
    refine lv_iload_n hx hb dX5_sorting_10 rfl (lv_at hl 1 rfl) ?_
    refine lv_iconst (v := 0) hx hb dX5_sorting_11 (by decide) ?_
    refine lv_iconst (v := 1) hx hb dX5_sorting_12 (by decide) ?_
    obtain ⟨r4, e5, h⟩ := bdP_ok h
    refine r_callSi (As := [.int p1, .int 0, .int 1]) (rest := []) (ws' := (wl 203 a (eX g a M))) (ok_X5_outside l g p1 0 1 r4 e5) ⟨hx, hb, hml, hown, hts⟩ (cwS 3 hts gX5_sorting_X5_outside rfl rfl rfl (by decide +kernel) ⟨Nat.le_of_ble_eq_true rfl, Nat.le_of_ble_eq_true rfl⟩) hK hS nilP (P_A hS.1) (fun _ _ hk => wl_keep hP hk) rfl hl.1 rfl (Nat.le_of_ble_eq_true rfl) dX5_sorting_13 ⟨Nat.zero_le _, Nat.zero_le _⟩ (fun H locs hP hS => ?_)
    refine lv_if_eq (x := r4) (tgt := 22) hx hb dX5_sorting_16 (by decide) (fun q6 => ?_) (fun q6 => ?_)
    · replace h := if_t q6 h
      refine lv_aload_n hx hb dX5_sorting_22 rfl (lv_at hl 0 rfl) ?_
      refine r_get (v := .ref (a 4)) hx hb hts iX5 hown hK hP 0 (by decide) eX_0 rfl 2 (by decide) w25 rfl dX5_sorting_23 ?_
      refine lv_iconst (v := (-1)) hx hb dX5_sorting_26 (by decide) ?_
      obtain ⟨r7, e8, h⟩ := bdP_ok h
      refine r_callVi (As := [.int (-1)]) (rest := []) (ws' := (wl 203 a (eX g a M))) (ok_X2_whoIsAt l g (gA a 4) (gA_ij (c := 4) (by decide) hI) (-1) (gS M 4) r7 e8) ⟨hx, hb, hml, hown, hts⟩ (cwV 1 hts gX5_sorting_X2_whoIsAt rfl rfl rfl (by decide +kernel) ⟨Nat.le_of_ble_eq_true rfl, Nat.le_of_ble_eq_true rfl⟩) hK (r_recv hK hP 4 (isSt_lt (c := 4) (by decide) 0 (by decide)) (eX_Stair (c := 4) (by decide)) (show vwCl[2]? = some (RX2, TX2, 8) from rfl)) hS (S_cut (c := 4) (by decide) hP) (S_A (c := 4) (by decide) hS.1) (S_keep (c := 4) (by decide) hI hP) rfl hl.1 rfl (Nat.le_of_ble_eq_true rfl) dX5_sorting_27 ⟨Nat.zero_le _, Nat.zero_le _⟩ (fun H locs hP hS => ?_)
      refine lv_istore_n (lv' := [(2, .int r7), (0, .ref (a 0)), (1, .int p1)]) hx hb dX5_sorting_30 rfl hl (by decide) rfl (fun ls hl => ?_)
      refine lv_bipush (v := 61) hx hb dX5_sorting_31 (by decide) ?_
      refine lv_istore_n (lv' := [(3, .int 61), (2, .int r7), (0, .ref (a 0)), (1, .int p1)]) hx hb dX5_sorting_33 rfl hl (by decide) rfl (fun ls hl => ?_)
      refine lv_ldc (v := (-1000000)) hx hb hown w121 dX5_sorting_34 ?_
      refine lv_istore (lv' := [(4, .int (-1000000)), (3, .int 61), (2, .int r7), (0, .ref (a 0)), (1, .int p1)]) hx hb dX5_sorting_36 hl (by decide) rfl (fun ls hl => ?_)
      refine lv_iconst (v := 0) hx hb dX5_sorting_38 (by decide) ?_
      refine lv_istore (lv' := [(5, .int 0), (4, .int (-1000000)), (3, .int 61), (2, .int r7), (0, .ref (a 0)), (1, .int p1)]) hx hb dX5_sorting_39 hl (by decide) rfl (fun ls hl => ?_)
      refine lv_iconst (v := 0) hx hb dX5_sorting_41 (by decide) ?_
      refine lv_istore (lv' := [(6, .int 0), (5, .int 0), (4, .int (-1000000)), (3, .int 61), (2, .int r7), (0, .ref (a 0)), (1, .int p1)]) hx hb dX5_sorting_42 hl (by decide) rfl (fun ls hl => ?_)
      exact L44 FU r7 61 (-1000000) 0 0 M _ _ _ h hP hS (lv_sub hl [5, 6, 4, 3, 2, 1, 0] rfl)
    · replace h := if_f q6 h
      refine lv_ldc (v := (-1000001)) hx hb hown w73 dX5_sorting_19 ?_
      rw [hQz]
      exact r_iret (v := (-1000001)) hx hb hr hlk hS ((Prod.mk.inj (Option.some.inj h)).2 ▸ hP) (Prod.mk.inj (Option.some.inj h)).1 dX5_sorting_21
  · replace h := if_f q3 h
    refine lv_ldc (v := (-1000002)) hx hb hown w140 dX5_sorting_7 ?_
    rw [hQz]
    exact r_iret (v := (-1000002)) hx hb hr hlk hS ((Prod.mk.inj (Option.some.inj h)).2 ▸ hP) (Prod.mk.inj (Option.some.inj h)).1 dX5_sorting_9
def rmX5_taken : Room := { frames := 6, cells := 0, slots := 0, locals := 174 }
set_option maxHeartbeats 4000000 in
set_option maxRecDepth 100000 in
theorem ok_X5_taken (l : Launch) (g : gT) (a : Nat → Nat) (hI : ij 203 a) (p1 : Int32) (M : Mem) (M' : Mem) (r : Int32) (h : fX5_taken p1 M = some (r, M')) : MI l yX5_taken wsX5_taken rmX5_taken g 203 a [.ref (a 0), .int p1] (wl 203 a (eX g a M)) (wl 203 a (eX g a M')) r := by
  refine MI_of (cc := cX5_taken) (maxL := 7) (rt := .int) (by decide) rfl (Nat.le_of_ble_eq_true rfl) ?_
  intro p e s m args below meth c ls hx hb hml hr hlk hts hown hK hP hl
  have hown : s.vm.findClass RX5 = some m.cls := hown
  have hl : lv_has ls 7 [(0, .ref (a 0)), (1, .int p1)] := hl
  have hS : va_S (aA 203 a s.heap.size) s.heap s.heap [] := va_S.rf
  have iX2 : ∀ w ∈ wsX20, w ∈ wsX5_taken := fun w h => List.mem_cons_of_mem _ (List.mem_append_right _ h)
  have iX5 : ∀ w ∈ wsX50, w ∈ wsX5_taken := fun w h => List.mem_cons_of_mem _ (List.mem_append_left _ (List.mem_append_right _ h))
  have w121 := hts (.constant RX5 121 (-1000000)) (by decide +kernel)
  have w25 := hts (.fieldLink RX5 25 "StepRiders" "now" "LStepRiders$Stair;") (by decide +kernel)
  have w130 := hts (.fieldLink RX5 130 "StepRiders$Stair" "riders" "I") (by decide +kernel)
  have w47 := hts (.fieldLink RX5 47 "StepRiders" "trial" "LStepRiders$Stair;") (by decide +kernel)
  have w160 := hts (.fieldLink RX5 160 "StepRiders$Stair" "at" "[I") (by decide +kernel)
  have w73 := hts (.constant RX5 73 (-1000001)) (by decide +kernel)
  have w140 := hts (.constant RX5 140 (-1000002)) (by decide +kernel)
  obtain ⟨Qz, hQz⟩ : ∃ Qz : State → Prop, Qz = MQ below (qI g (wl 203 a (eX g a M')) r (aA 203 a s.heap.size)) args s 0 0 (aA 203 a s.heap.size) := ⟨_, rfl⟩
  rw [← hQz]
  have B130 : ∀ (x3 : Int32) (x4 : Int32) (M : Mem) (H : Heap) (locs : List Loc) (ls : Array Slot), fX5_taken_b130 p1 x3 x4 M = some (r, M') → va_P g.1 vwCl (wl 203 a (eX g a M)) H → va_S (aA 203 a s.heap.size) s.heap H locs → lv_has ls 7 [(0, .ref (a 0)), (1, .int p1), (3, .int x3), (4, .int x4)] → W p l e rmX5_taken s m args below meth c H locs 0 0 Qz (F0 m 130 ls []) := by
    intro x3 x4 M H locs ls h hP hS hl
    unfold fX5_taken_b130 at h
    refine lv_iload hx hb dX5_taken_130 (lv_at hl 3 rfl) ?_
    refine lv_ldc (v := (-1000000)) hx hb hown w121 dX5_taken_132 ?_
    refine lv_icmp_ne (x := x4) (y := (-1000000)) (tgt := 140) hx hb dX5_taken_134 (by decide) (fun q1 => ?_) (fun q1 => ?_)
    · replace h := if_f q1 h
      refine lv_iload_n hx hb dX5_taken_140 rfl (lv_at hl 1 rfl) ?_
      refine lv_if_ne (x := p1) (tgt := 149) hx hb dX5_taken_141 (by decide) (fun q2 => ?_) (fun q2 => ?_)
      · replace h := if_f q2 h
        refine lv_iload_n hx hb dX5_taken_149 rfl (lv_at hl 2 rfl) ?_
        rw [hQz]
        exact r_iret (v := x3) hx hb hr hlk hS ((Prod.mk.inj (Option.some.inj h)).2 ▸ hP) (Prod.mk.inj (Option.some.inj h)).1 dX5_taken_150
      · replace h := if_t q2 h
        refine lv_iload hx hb dX5_taken_144 (lv_at hl 3 rfl) ?_
        refine lv_goto (tgt := 150) hx hb dX5_taken_146 (by decide) ?_
        rw [hQz]
        exact r_iret (v := x4) hx hb hr hlk hS ((Prod.mk.inj (Option.some.inj h)).2 ▸ hP) (Prod.mk.inj (Option.some.inj h)).1 dX5_taken_150
    · replace h := if_t q1 h
      refine lv_ldc (v := (-1000000)) hx hb hown w121 dX5_taken_137 ?_
      rw [hQz]
      exact r_iret (v := (-1000000)) hx hb hr hlk hS ((Prod.mk.inj (Option.some.inj h)).2 ▸ hP) (Prod.mk.inj (Option.some.inj h)).1 dX5_taken_139
  have B124 : ∀ (k63 : Int32 → Int32 → Int32 → Mem → Option (Int32 × Mem)) (C63 : ∀ (x3 : Int32) (x4 : Int32) (x5 : Int32) (M : Mem) (H : Heap) (locs : List Loc) (ls : Array Slot), k63 x3 x4 x5 M = some (r, M') → va_P g.1 vwCl (wl 203 a (eX g a M)) H → va_S (aA 203 a s.heap.size) s.heap H locs → lv_has ls 7 [(0, .ref (a 0)), (1, .int p1), (3, .int x3), (4, .int x4), (5, .int x5)] → W p l e rmX5_taken s m args below meth c H locs 0 0 Qz (F0 m 63 ls [])), ∀ (x3 : Int32) (x4 : Int32) (x5 : Int32) (M : Mem) (H : Heap) (locs : List Loc) (ls : Array Slot), fX5_taken_b124 p1 k63 x3 x4 x5 M = some (r, M') → va_P g.1 vwCl (wl 203 a (eX g a M)) H → va_S (aA 203 a s.heap.size) s.heap H locs → lv_has ls 7 [(0, .ref (a 0)), (1, .int p1), (3, .int x3), (4, .int x4), (5, .int x5)] → W p l e rmX5_taken s m args below meth c H locs 0 0 Qz (F0 m 124 ls []) := by
    intro k63 C63 x3 x4 x5 M H locs ls h hP hS hl
    unfold fX5_taken_b124 at h
    refine lv_iinc (v := (x5 + 1)) (lv' := [(5, .int (x5 + 1)), (0, .ref (a 0)), (1, .int p1), (3, .int x3), (4, .int x4)]) hx hb dX5_taken_124 hl (k := 4) rfl rfl (by decide) rfl (fun ls hl => ?_)
    refine lv_goto (tgt := 63) hx hb dX5_taken_127 (by decide) ?_
    exact C63 x3 x4 (x5 + 1) M _ _ _ h hP hS (lv_sub hl [1, 2, 3, 4, 0] rfl)
  have B63 : ∀ (k63 : Int32 → Int32 → Int32 → Mem → Option (Int32 × Mem)) (C63 : ∀ (x3 : Int32) (x4 : Int32) (x5 : Int32) (M : Mem) (H : Heap) (locs : List Loc) (ls : Array Slot), k63 x3 x4 x5 M = some (r, M') → va_P g.1 vwCl (wl 203 a (eX g a M)) H → va_S (aA 203 a s.heap.size) s.heap H locs → lv_has ls 7 [(0, .ref (a 0)), (1, .int p1), (3, .int x3), (4, .int x4), (5, .int x5)] → W p l e rmX5_taken s m args below meth c H locs 0 0 Qz (F0 m 63 ls [])), ∀ (x3 : Int32) (x4 : Int32) (x5 : Int32) (M : Mem) (H : Heap) (locs : List Loc) (ls : Array Slot), fX5_taken_b63 p1 k63 x3 x4 x5 M = some (r, M') → va_P g.1 vwCl (wl 203 a (eX g a M)) H → va_S (aA 203 a s.heap.size) s.heap H locs → lv_has ls 7 [(0, .ref (a 0)), (1, .int p1), (3, .int x3), (4, .int x4), (5, .int x5)] → W p l e rmX5_taken s m args below meth c H locs 0 0 Qz (F0 m 63 ls []) := by
    intro k63 C63 x3 x4 x5 M H locs ls h hP hS hl
    unfold fX5_taken_b63 at h
    refine lv_iload hx hb dX5_taken_63 (lv_at hl 4 rfl) ?_
    refine lv_aload_n hx hb dX5_taken_65 rfl (lv_at hl 0 rfl) ?_
    refine r_get (v := .ref (a 4)) hx hb hts iX5 hown hK hP 0 (by decide) eX_0 rfl 2 (by decide) w25 rfl dX5_taken_66 ?_
    refine r_get (v := .int (M 4 3)) hx hb hts iX2 hown hK hP 4 (isSt_lt (c := 4) (by decide) 0 (by decide)) (eX_Stair (c := 4) (by decide)) rfl 3 (by decide) w130 rfl dX5_taken_69 ?_
    refine lv_icmp_ge (x := x5) (y := (M 4 3)) (tgt := 130) hx hb dX5_taken_72 (by decide) (fun q1 => ?_) (fun q1 => ?_)
    · replace h := if_t q1 h
      exact B130 x3 x4 M _ _ _ h hP hS (lv_sub hl [0, 1, 2, 3] rfl)
    · replace h := if_f q1 h
      refine lv_aload_n hx hb dX5_taken_75 rfl (lv_at hl 0 rfl) ?_
      refine r_get (v := .ref (a 134)) hx hb hts iX5 hown hK hP 0 (by decide) eX_0 rfl 6 (by decide) w47 rfl dX5_taken_76 ?_
      refine lv_aload_n hx hb dX5_taken_79 rfl (lv_at hl 0 rfl) ?_
      refine r_get (v := .ref (a 4)) hx hb hts iX5 hown hK hP 0 (by decide) eX_0 rfl 2 (by decide) w25 rfl dX5_taken_80 ?_
      obtain ⟨M4, e3, h⟩ := bdV_ok h
      refine r_callVv (As := [.ref (a 4)]) (rest := []) (ws' := (wl 203 a (eX g a M4))) (ok_X2_become l g a hI 134 4 M M4 (by decide) (by decide) e3) ⟨hx, hb, hml, hown, hts⟩ (cwV 1 hts gX5_taken_X2_become rfl rfl rfl (by decide +kernel) ⟨Nat.le_of_ble_eq_true rfl, Nat.le_of_ble_eq_true rfl⟩) hK (r_recv hK hP 134 (isSt_lt (c := 134) (by decide) 0 (by decide)) (eX_Stair (c := 134) (by decide)) (show vwCl[2]? = some (RX2, TX2, 8) from rfl)) hS hP (fun _ hq => aA_mono hS.1 hq) (fun _ h _ => h) rfl hl.1 rfl (Nat.le_of_ble_eq_true rfl) dX5_taken_83 ⟨Nat.zero_le _, Nat.zero_le _⟩ (fun H locs hP hS => ?_)
      refine lv_aload_n hx hb dX5_taken_86 rfl (lv_at hl 0 rfl) ?_
      refine r_get (v := .ref (a 134)) hx hb hts iX5 hown hK hP 0 (by decide) eX_0 rfl 6 (by decide) w47 rfl dX5_taken_87 ?_
      refine r_get (v := .ref (a 137)) hx hb hts iX2 hown hK hP 134 (isSt_lt (c := 134) (by decide) 0 (by decide)) (eX_Stair (c := 134) (by decide)) rfl 6 (by decide) w160 rfl dX5_taken_90 ?_
      refine lv_iload hx hb dX5_taken_93 (lv_at hl 4 rfl) ?_
      refine lv_bipush (v := 99) hx hb dX5_taken_95 (by decide) ?_
      obtain ⟨q5, h⟩ := chk_ok h
      refine r_iast (i := x5) (x := 99) (h := M4 137) (f' := eX g a (mp M4 137 (Int32.toNatClampNeg x5) 99)) hx hb hK hI (fun _ h => aA_in h) hP hS 137 (isSt_lt (c := 134) (by decide) 3 (by decide)) (eX_Sa3 (c := 134) (by decide)) q5 (eX_ua (fun _ => eX_Sa3 (c := 134) (by decide))) dX5_taken_97 (fun H locs hP hS => ?_)
      refine lv_aload_n hx hb dX5_taken_98 rfl (lv_at hl 0 rfl) ?_
      refine r_get (v := .ref (a 134)) hx hb hts iX5 hown hK hP 0 (by decide) eX_0 rfl 6 (by decide) w47 rfl dX5_taken_99 ?_
      refine lv_iload_n hx hb dX5_taken_102 rfl (lv_at hl 2 rfl) ?_
      refine lv_iconst (v := 1) hx hb dX5_taken_103 (by decide) ?_
      refine lv_isub (x := x3) (y := 1) hx hb dX5_taken_104 ?_
      obtain ⟨r6, M8, e7, h⟩ := bdI_ok h
      refine r_callVi (As := [.int (x3 - 1)]) (rest := []) (ws' := (wl 203 a (eX g a (pS (mp M4 137 (Int32.toNatClampNeg x5) 99) 134 M8)))) (ok_X2_passUntilClear l g (gA a 134) (gA_ij (c := 134) (by decide) hI) (x3 - 1) (gS (mp M4 137 (Int32.toNatClampNeg x5) 99) 134) M8 r6 e7) ⟨hx, hb, hml, hown, hts⟩ (cwV 1 hts gX5_taken_X2_passUntilClear rfl rfl rfl (by decide +kernel) ⟨Nat.le_of_ble_eq_true rfl, Nat.le_of_ble_eq_true rfl⟩) hK (r_recv hK hP 134 (isSt_lt (c := 134) (by decide) 0 (by decide)) (eX_Stair (c := 134) (by decide)) (show vwCl[2]? = some (RX2, TX2, 8) from rfl)) hS (S_cut (c := 134) (by decide) hP) (S_A (c := 134) (by decide) hS.1) (S_join (c := 134) (by decide) hI hP) rfl hl.1 rfl (Nat.le_of_ble_eq_true rfl) dX5_taken_105 ⟨Nat.zero_le _, Nat.zero_le _⟩ (fun H locs hP hS => ?_)
      refine lv_istore (lv' := [(6, .int r6), (0, .ref (a 0)), (1, .int p1), (3, .int x3), (4, .int x4), (5, .int x5)]) hx hb dX5_taken_108 hl (by decide) rfl (fun ls hl => ?_)
      refine lv_iload hx hb dX5_taken_110 (lv_at hl 0 rfl) ?_
      refine lv_ldc (v := (-1000000)) hx hb hown w121 dX5_taken_112 ?_
      refine lv_icmp_eq (x := r6) (y := (-1000000)) (tgt := 124) hx hb dX5_taken_114 (by decide) (fun q9 => ?_) (fun q9 => ?_)
      · replace h := if_t q9 h
        exact B124 k63 C63 x3 x4 x5 (pS (mp M4 137 (Int32.toNatClampNeg x5) 99) 134 M8) _ _ _ h hP hS (lv_sub hl [1, 2, 3, 4, 5] rfl)
      · replace h := if_f q9 h
        refine lv_iload hx hb dX5_taken_117 (lv_at hl 0 rfl) ?_
        refine lv_istore_n (lv' := [(3, .int r6), (6, .int r6), (0, .ref (a 0)), (1, .int p1), (4, .int x4), (5, .int x5)]) hx hb dX5_taken_119 rfl hl (by decide) rfl (fun ls hl => ?_)
        refine lv_iload hx hb dX5_taken_120 (lv_at hl 5 rfl) ?_
        refine lv_istore (lv' := [(4, .int x5), (3, .int r6), (6, .int r6), (0, .ref (a 0)), (1, .int p1), (5, .int x5)]) hx hb dX5_taken_122 hl (by decide) rfl (fun ls hl => ?_)
        exact B124 k63 C63 r6 x5 x5 (pS (mp M4 137 (Int32.toNatClampNeg x5) 99) 134 M8) _ _ _ h hP hS (lv_sub hl [3, 4, 1, 0, 5] rfl)
  have L63 : ∀ (n : Nat), ∀ (x3 : Int32) (x4 : Int32) (x5 : Int32) (M : Mem) (H : Heap) (locs : List Loc) (ls : Array Slot), fX5_taken_l63 p1 n x3 x4 x5 M = some (r, M') → va_P g.1 vwCl (wl 203 a (eX g a M)) H → va_S (aA 203 a s.heap.size) s.heap H locs → lv_has ls 7 [(0, .ref (a 0)), (1, .int p1), (3, .int x3), (4, .int x4), (5, .int x5)] → W p l e rmX5_taken s m args below meth c H locs 0 0 Qz (F0 m 63 ls []) := by
    intro n
    induction n with
    | zero => intro x3 x4 x5 M H locs ls h; exact absurd (show (none : Option (Int32 × Mem)) = some _ from h) (fun z => by cases z)
    | succ n ih => exact fun x3 x4 x5 M H locs ls h hP hS hl => B63 (fX5_taken_l63 p1 n) ih x3 x4 x5 M H locs ls h hP hS hl
  have B55 : ∀ (s0 : Int32) (M : Mem) (H : Heap) (locs : List Loc) (ls : Array Slot), fX5_taken_b55 p1 s0 M = some (r, M') → va_P g.1 vwCl (wl 203 a (eX g a M)) H → va_S (aA 203 a s.heap.size) s.heap H locs → lv_has ls 7 [(0, .ref (a 0)), (1, .int p1)] → W p l e rmX5_taken s m args below meth c H locs 0 0 Qz (F0 m 55 ls [.int s0]) := by
    intro s0 M H locs ls h hP hS hl
    unfold fX5_taken_b55 at h
    refine lv_istore_n (lv' := [(3, .int s0), (0, .ref (a 0)), (1, .int p1)]) hx hb dX5_taken_55 rfl hl (by decide) rfl (fun ls hl => ?_)
    refine lv_ldc (v := (-1000000)) hx hb hown w121 dX5_taken_56 ?_
    refine lv_istore (lv' := [(4, .int (-1000000)), (3, .int s0), (0, .ref (a 0)), (1, .int p1)]) hx hb dX5_taken_58 hl (by decide) rfl (fun ls hl => ?_)
    refine lv_iconst (v := 0) hx hb dX5_taken_60 (by decide) ?_
    refine lv_istore (lv' := [(5, .int 0), (4, .int (-1000000)), (3, .int s0), (0, .ref (a 0)), (1, .int p1)]) hx hb dX5_taken_61 hl (by decide) rfl (fun ls hl => ?_)
    exact L63 FU s0 (-1000000) 0 M _ _ _ h hP hS (lv_sub hl [3, 4, 2, 1, 0] rfl)
  unfold fX5_taken at h
  refine lv_aload_n hx hb dX5_taken_0 rfl (lv_at hl 0 rfl) ?_
  obtain ⟨r1, e2, h⟩ := bdP_ok h
  refine r_callVi (As := []) (rest := []) (ws' := (wl 203 a (eX g a M))) (ok_X5_noStair l g a hI M r1 e2) ⟨hx, hb, hml, hown, hts⟩ (cwV 0 hts gX5_taken_X5_noStair rfl rfl rfl (by decide +kernel) ⟨Nat.le_of_ble_eq_true rfl, Nat.le_of_ble_eq_true rfl⟩) hK (r_recv hK hP 0 (by decide) eX_0 (show vwCl[5]? = some (RX5, TX5, 11) from rfl)) hS hP (fun _ hq => aA_mono hS.1 hq) (fun _ h _ => h) rfl hl.1 rfl (Nat.le_of_ble_eq_true rfl) dX5_taken_1 ⟨Nat.zero_le _, Nat.zero_le _⟩ (fun H locs hP hS => ?_)
  refine lv_if_eq (x := r1) (tgt := 10) hx hb dX5_taken_4 (by decide) (fun q3 => ?_) (fun q3 => ?_)
  · replace h := if_t q3 h
    refine lv_iload_n hx hb dX5_taken_10 rfl (lv_at hl 1 rfl) ?_
    refine lv_iconst (v := 0) hx hb dX5_taken_11 (by decide) ?_
    refine lv_iconst (v := 1) hx hb dX5_taken_12 (by decide) ?_
    obtain ⟨r4, e5, h⟩ := bdP_ok h
    refine r_callSi (As := [.int p1, .int 0, .int 1]) (rest := []) (ws' := (wl 203 a (eX g a M))) (ok_X5_outside l g p1 0 1 r4 e5) ⟨hx, hb, hml, hown, hts⟩ (cwS 3 hts gX5_taken_X5_outside rfl rfl rfl (by decide +kernel) ⟨Nat.le_of_ble_eq_true rfl, Nat.le_of_ble_eq_true rfl⟩) hK hS nilP (P_A hS.1) (fun _ _ hk => wl_keep hP hk) rfl hl.1 rfl (Nat.le_of_ble_eq_true rfl) dX5_taken_13 ⟨Nat.zero_le _, Nat.zero_le _⟩ (fun H locs hP hS => ?_)
    refine lv_if_eq (x := r4) (tgt := 22) hx hb dX5_taken_16 (by decide) (fun q6 => ?_) (fun q6 => ?_)
    · replace h := if_t q6 h
      refine lv_aload_n hx hb dX5_taken_22 rfl (lv_at hl 0 rfl) ?_
      refine r_get (v := .ref (a 134)) hx hb hts iX5 hown hK hP 0 (by decide) eX_0 rfl 6 (by decide) w47 rfl dX5_taken_23 ?_
      refine lv_aload_n hx hb dX5_taken_26 rfl (lv_at hl 0 rfl) ?_
      refine r_get (v := .ref (a 4)) hx hb hts iX5 hown hK hP 0 (by decide) eX_0 rfl 2 (by decide) w25 rfl dX5_taken_27 ?_
      obtain ⟨M9, e8, h⟩ := bdV_ok h
      refine r_callVv (As := [.ref (a 4)]) (rest := []) (ws' := (wl 203 a (eX g a M9))) (ok_X2_become l g a hI 134 4 M M9 (by decide) (by decide) e8) ⟨hx, hb, hml, hown, hts⟩ (cwV 1 hts gX5_taken_X2_become rfl rfl rfl (by decide +kernel) ⟨Nat.le_of_ble_eq_true rfl, Nat.le_of_ble_eq_true rfl⟩) hK (r_recv hK hP 134 (isSt_lt (c := 134) (by decide) 0 (by decide)) (eX_Stair (c := 134) (by decide)) (show vwCl[2]? = some (RX2, TX2, 8) from rfl)) hS hP (fun _ hq => aA_mono hS.1 hq) (fun _ h _ => h) rfl hl.1 rfl (Nat.le_of_ble_eq_true rfl) dX5_taken_30 ⟨Nat.zero_le _, Nat.zero_le _⟩ (fun H locs hP hS => ?_)
      refine lv_aload_n hx hb dX5_taken_33 rfl (lv_at hl 0 rfl) ?_
      refine r_get (v := .ref (a 134)) hx hb hts iX5 hown hK hP 0 (by decide) eX_0 rfl 6 (by decide) w47 rfl dX5_taken_34 ?_
      refine lv_bipush (v := 60) hx hb dX5_taken_37 (by decide) ?_
      obtain ⟨r10, M12, e11, h⟩ := bdI_ok h
      refine r_callVi (As := [.int 60]) (rest := []) (ws' := (wl 203 a (eX g a (pS M9 134 M12)))) (ok_X2_passUntilClear l g (gA a 134) (gA_ij (c := 134) (by decide) hI) 60 (gS M9 134) M12 r10 e11) ⟨hx, hb, hml, hown, hts⟩ (cwV 1 hts gX5_taken_X2_passUntilClear rfl rfl rfl (by decide +kernel) ⟨Nat.le_of_ble_eq_true rfl, Nat.le_of_ble_eq_true rfl⟩) hK (r_recv hK hP 134 (isSt_lt (c := 134) (by decide) 0 (by decide)) (eX_Stair (c := 134) (by decide)) (show vwCl[2]? = some (RX2, TX2, 8) from rfl)) hS (S_cut (c := 134) (by decide) hP) (S_A (c := 134) (by decide) hS.1) (S_join (c := 134) (by decide) hI hP) rfl hl.1 rfl (Nat.le_of_ble_eq_true rfl) dX5_taken_39 ⟨Nat.zero_le _, Nat.zero_le _⟩ (fun H locs hP hS => ?_)
      refine lv_istore_n (lv' := [(2, .int r10), (0, .ref (a 0)), (1, .int p1)]) hx hb dX5_taken_42 rfl hl (by decide) rfl (fun ls hl => ?_)
      refine lv_iload_n hx hb dX5_taken_43 rfl (lv_at hl 0 rfl) ?_
      refine lv_ldc (v := (-1000000)) hx hb hown w121 dX5_taken_44 ?_
      refine lv_icmp_ne (x := r10) (y := (-1000000)) (tgt := 54) hx hb dX5_taken_46 (by decide) (fun q13 => ?_) (fun q13 => ?_)
      · replace h := if_f q13 h
        refine lv_iload_n hx hb dX5_taken_54 rfl (lv_at hl 0 rfl) ?_
        exact B55 r10 (pS M9 134 M12) _ _ _ h hP hS (lv_sub hl [1, 2] rfl)
      · replace h := if_t q13 h
        refine lv_bipush (v := 61) hx hb dX5_taken_49 (by decide) ?_
        refine lv_goto (tgt := 55) hx hb dX5_taken_51 (by decide) ?_
        exact B55 61 (pS M9 134 M12) _ _ _ h hP hS (lv_sub hl [1, 2] rfl)
    · replace h := if_f q6 h
      refine lv_ldc (v := (-1000001)) hx hb hown w73 dX5_taken_19 ?_
      rw [hQz]
      exact r_iret (v := (-1000001)) hx hb hr hlk hS ((Prod.mk.inj (Option.some.inj h)).2 ▸ hP) (Prod.mk.inj (Option.some.inj h)).1 dX5_taken_21
  · replace h := if_f q3 h
    refine lv_ldc (v := (-1000002)) hx hb hown w140 dX5_taken_7 ?_
    rw [hQz]
    exact r_iret (v := (-1000002)) hx hb hr hlk hS ((Prod.mk.inj (Option.some.inj h)).2 ▸ hP) (Prod.mk.inj (Option.some.inj h)).1 dX5_taken_9
def rmX5_power : Room := { frames := 1, cells := 0, slots := 0, locals := 60 }
set_option maxHeartbeats 4000000 in
set_option maxRecDepth 100000 in
theorem ok_X5_power (l : Launch) (g : gT) (p0 : Int32) (p1 : Int32) (r : Int32) (h : fX5_power p0 p1 = some r) : MI l yX5_power wsX5_power rmX5_power g 0 (fun _ => 0) [.int p0, .int p1] ([] : va_W) ([] : va_W) r := by
  refine MI_of (cc := cX5_power) (maxL := 4) (rt := .int) (by decide) rfl (Nat.le_of_ble_eq_true rfl) ?_
  intro p e s m args below meth c ls hx hb hml hr hlk hts hown hK hP hl
  have hown : s.vm.findClass RX5 = some m.cls := hown
  have hl : lv_has ls 4 [(0, .int p0), (1, .int p1)] := hl
  have hS : va_S (aA 0 (fun _ => 0) s.heap.size) s.heap s.heap [] := va_S.rf
  obtain ⟨Qz, hQz⟩ : ∃ Qz : State → Prop, Qz = MQ below (qI g ([] : va_W) r (aA 0 (fun _ => 0) s.heap.size)) args s 0 0 (aA 0 (fun _ => 0) s.heap.size) := ⟨_, rfl⟩
  rw [← hQz]
  have B4 : ∀ (k4 : Int32 → Int32 → Option (Int32)) (C4 : ∀ (x2 : Int32) (x3 : Int32) (H : Heap) (locs : List Loc) (ls : Array Slot), k4 x2 x3 = some r → va_P g.1 vwCl ([] : va_W) H → va_S (aA 0 (fun _ => 0) s.heap.size) s.heap H locs → lv_has ls 4 [(0, .int p0), (1, .int p1), (2, .int x2), (3, .int x3)] → W p l e rmX5_power s m args below meth c H locs 0 0 Qz (F0 m 4 ls [])), ∀ (x2 : Int32) (x3 : Int32) (H : Heap) (locs : List Loc) (ls : Array Slot), fX5_power_b4 p0 p1 k4 x2 x3 = some r → va_P g.1 vwCl ([] : va_W) H → va_S (aA 0 (fun _ => 0) s.heap.size) s.heap H locs → lv_has ls 4 [(0, .int p0), (1, .int p1), (2, .int x2), (3, .int x3)] → W p l e rmX5_power s m args below meth c H locs 0 0 Qz (F0 m 4 ls []) := by
    intro k4 C4 x2 x3 H locs ls h hP hS hl
    unfold fX5_power_b4 at h
    refine lv_iload_n hx hb dX5_power_4 rfl (lv_at hl 3 rfl) ?_
    refine lv_iload_n hx hb dX5_power_5 rfl (lv_at hl 1 rfl) ?_
    refine lv_icmp_ge (x := x3) (y := p1) (tgt := 19) hx hb dX5_power_6 (by decide) (fun q1 => ?_) (fun q1 => ?_)
    · replace h := if_t q1 h
      refine lv_iload_n hx hb dX5_power_19 rfl (lv_at hl 2 rfl) ?_
      rw [hQz]
      exact r_iret (v := x2) hx hb hr hlk hS hP (Option.some.inj h) dX5_power_20
    · replace h := if_f q1 h
      refine lv_iload_n hx hb dX5_power_9 rfl (lv_at hl 2 rfl) ?_
      refine lv_iload_n hx hb dX5_power_10 rfl (lv_at hl 0 rfl) ?_
      refine lv_imul (x := x2) (y := p0) hx hb dX5_power_11 ?_
      refine lv_istore_n (lv' := [(2, .int (x2 * p0)), (0, .int p0), (1, .int p1), (3, .int x3)]) hx hb dX5_power_12 rfl hl (by decide) rfl (fun ls hl => ?_)
      refine lv_iinc (v := (x3 + 1)) (lv' := [(3, .int (x3 + 1)), (2, .int (x2 * p0)), (0, .int p0), (1, .int p1)]) hx hb dX5_power_13 hl (k := 3) rfl rfl (by decide) rfl (fun ls hl => ?_)
      refine lv_goto (tgt := 4) hx hb dX5_power_16 (by decide) ?_
      exact C4 (x2 * p0) (x3 + 1) _ _ _ h hP hS (lv_sub hl [2, 3, 1, 0] rfl)
  have L4 : ∀ (n : Nat), ∀ (x2 : Int32) (x3 : Int32) (H : Heap) (locs : List Loc) (ls : Array Slot), fX5_power_l4 p0 p1 n x2 x3 = some r → va_P g.1 vwCl ([] : va_W) H → va_S (aA 0 (fun _ => 0) s.heap.size) s.heap H locs → lv_has ls 4 [(0, .int p0), (1, .int p1), (2, .int x2), (3, .int x3)] → W p l e rmX5_power s m args below meth c H locs 0 0 Qz (F0 m 4 ls []) := by
    intro n
    induction n with
    | zero => intro x2 x3 H locs ls h; exact absurd (show (none : Option (Int32)) = some _ from h) (fun z => by cases z)
    | succ n ih => exact fun x2 x3 H locs ls h hP hS hl => B4 (fX5_power_l4 p0 p1 n) ih x2 x3 H locs ls h hP hS hl
  unfold fX5_power at h
  refine lv_iconst (v := 1) hx hb dX5_power_0 (by decide) ?_
  refine lv_istore_n (lv' := [(2, .int 1), (0, .int p0), (1, .int p1)]) hx hb dX5_power_1 rfl hl (by decide) rfl (fun ls hl => ?_)
  refine lv_iconst (v := 0) hx hb dX5_power_2 (by decide) ?_
  refine lv_istore_n (lv' := [(3, .int 0), (2, .int 1), (0, .int p0), (1, .int p1)]) hx hb dX5_power_3 rfl hl (by decide) rfl (fun ls hl => ?_)
  exact L4 FU 1 0 _ _ _ h hP hS (lv_sub hl [2, 3, 1, 0] rfl)
def rmX5_writePaces : Room := { frames := 1, cells := 0, slots := 0, locals := 60 }
set_option maxHeartbeats 4000000 in
set_option maxRecDepth 100000 in
theorem ok_X5_writePaces (l : Launch) (g : gT) (a : Nat → Nat) (hI : ij 203 a) (p1 : Int32) (p2 : Int32) (M : Mem) (M' : Mem) (r : Int32) (h : fX5_writePaces p1 p2 M = some (r, M')) : MI l yX5_writePaces wsX5_writePaces rmX5_writePaces g 203 a [.ref (a 0), .int p1, .int p2] (wl 203 a (eX g a M)) (wl 203 a (eX g a M')) r := by
  refine MI_of (cc := cX5_writePaces) (maxL := 7) (rt := .int) (by decide) rfl (Nat.le_of_ble_eq_true rfl) ?_
  intro p e s m args below meth c ls hx hb hml hr hlk hts hown hK hP hl
  have hown : s.vm.findClass RX5 = some m.cls := hown
  have hl : lv_has ls 7 [(0, .ref (a 0)), (1, .int p1), (2, .int p2)] := hl
  have hS : va_S (aA 203 a s.heap.size) s.heap s.heap [] := va_S.rf
  have iX5 : ∀ w ∈ wsX50, w ∈ wsX5_writePaces := fun w h => List.mem_cons_of_mem _ (List.mem_append_right _ h)
  have w53 := hts (.fieldLink RX5 53 "StepRiders" "paces" "[I") (by decide +kernel)
  obtain ⟨Qz, hQz⟩ : ∃ Qz : State → Prop, Qz = MQ below (qI g (wl 203 a (eX g a M')) r (aA 203 a s.heap.size)) args s 0 0 (aA 203 a s.heap.size) := ⟨_, rfl⟩
  rw [← hQz]
  have B57 : ∀ (x3 : Int32) (M : Mem) (H : Heap) (locs : List Loc) (ls : Array Slot), fX5_writePaces_b57 p1 p2 x3 M = some (r, M') → va_P g.1 vwCl (wl 203 a (eX g a M)) H → va_S (aA 203 a s.heap.size) s.heap H locs → lv_has ls 7 [(0, .ref (a 0)), (1, .int p1), (2, .int p2), (3, .int x3)] → W p l e rmX5_writePaces s m args below meth c H locs 0 0 Qz (F0 m 57 ls []) := by
    intro x3 M H locs ls h hP hS hl
    unfold fX5_writePaces_b57 at h
    refine lv_iload_n hx hb dX5_writePaces_57 rfl (lv_at hl 1 rfl) ?_
    refine lv_if_ne (x := p1) (tgt := 65) hx hb dX5_writePaces_58 (by decide) (fun q1 => ?_) (fun q1 => ?_)
    · replace h := if_f q1 h
      refine lv_iload_n hx hb dX5_writePaces_65 rfl (lv_at hl 3 rfl) ?_
      rw [hQz]
      exact r_iret (v := x3) hx hb hr hlk hS ((Prod.mk.inj (Option.some.inj h)).2 ▸ hP) (Prod.mk.inj (Option.some.inj h)).1 dX5_writePaces_66
    · replace h := if_t q1 h
      refine lv_iconst (v := 0) hx hb dX5_writePaces_61 (by decide) ?_
      refine lv_goto (tgt := 66) hx hb dX5_writePaces_62 (by decide) ?_
      rw [hQz]
      exact r_iret (v := 0) hx hb hr hlk hS ((Prod.mk.inj (Option.some.inj h)).2 ▸ hP) (Prod.mk.inj (Option.some.inj h)).1 dX5_writePaces_66
  have B42 : ∀ (k10 : Int32 → Int32 → Int32 → Mem → Option (Int32 × Mem)) (C10 : ∀ (x3 : Int32) (x4 : Int32) (x5 : Int32) (M : Mem) (H : Heap) (locs : List Loc) (ls : Array Slot), k10 x3 x4 x5 M = some (r, M') → va_P g.1 vwCl (wl 203 a (eX g a M)) H → va_S (aA 203 a s.heap.size) s.heap H locs → lv_has ls 7 [(0, .ref (a 0)), (1, .int p1), (2, .int p2), (3, .int x3), (4, .int x4), (5, .int x5)] → W p l e rmX5_writePaces s m args below meth c H locs 0 0 Qz (F0 m 10 ls [])), ∀ (x3 : Int32) (x4 : Int32) (x5 : Int32) (x6 : Int32) (M : Mem) (H : Heap) (locs : List Loc) (ls : Array Slot), fX5_writePaces_b42 p1 p2 k10 x3 x4 x5 x6 M = some (r, M') → va_P g.1 vwCl (wl 203 a (eX g a M)) H → va_S (aA 203 a s.heap.size) s.heap H locs → lv_has ls 7 [(0, .ref (a 0)), (1, .int p1), (2, .int p2), (3, .int x3), (4, .int x4), (5, .int x5), (6, .int x6)] → W p l e rmX5_writePaces s m args below meth c H locs 0 0 Qz (F0 m 42 ls []) := by
    intro k10 C10 x3 x4 x5 x6 M H locs ls h hP hS hl
    unfold fX5_writePaces_b42 at h
    refine lv_aload_n hx hb dX5_writePaces_42 rfl (lv_at hl 0 rfl) ?_
    refine r_get (v := .ref (a 140)) hx hb hts iX5 hown hK hP 0 (by decide) eX_0 rfl 8 (by decide) w53 rfl dX5_writePaces_43 ?_
    refine lv_iload hx hb dX5_writePaces_46 (lv_at hl 5 rfl) ?_
    refine lv_iload hx hb dX5_writePaces_48 (lv_at hl 6 rfl) ?_
    obtain ⟨q1, h⟩ := chk_ok h
    refine r_iast (i := x5) (x := x6) (h := M 140) (f' := eX g a (mp M 140 (Int32.toNatClampNeg x5) x6)) hx hb hK hI (fun _ h => aA_in h) hP hS 140 (by decide) rfl q1 (eX_ua (fun _ => rfl)) dX5_writePaces_50 (fun H locs hP hS => ?_)
    refine lv_iinc (v := (x5 + (-1))) (lv' := [(5, .int (x5 + (-1))), (0, .ref (a 0)), (1, .int p1), (2, .int p2), (3, .int x3), (4, .int x4), (6, .int x6)]) hx hb dX5_writePaces_51 hl (k := 5) rfl rfl (by decide) rfl (fun ls hl => ?_)
    refine lv_goto (tgt := 10) hx hb dX5_writePaces_54 (by decide) ?_
    exact C10 x3 x4 (x5 + (-1)) (mp M 140 (Int32.toNatClampNeg x5) x6) _ _ _ h hP hS (lv_sub hl [1, 2, 3, 4, 5, 0] rfl)
  have B10 : ∀ (k10 : Int32 → Int32 → Int32 → Mem → Option (Int32 × Mem)) (C10 : ∀ (x3 : Int32) (x4 : Int32) (x5 : Int32) (M : Mem) (H : Heap) (locs : List Loc) (ls : Array Slot), k10 x3 x4 x5 M = some (r, M') → va_P g.1 vwCl (wl 203 a (eX g a M)) H → va_S (aA 203 a s.heap.size) s.heap H locs → lv_has ls 7 [(0, .ref (a 0)), (1, .int p1), (2, .int p2), (3, .int x3), (4, .int x4), (5, .int x5)] → W p l e rmX5_writePaces s m args below meth c H locs 0 0 Qz (F0 m 10 ls [])), ∀ (x3 : Int32) (x4 : Int32) (x5 : Int32) (M : Mem) (H : Heap) (locs : List Loc) (ls : Array Slot), fX5_writePaces_b10 p1 p2 k10 x3 x4 x5 M = some (r, M') → va_P g.1 vwCl (wl 203 a (eX g a M)) H → va_S (aA 203 a s.heap.size) s.heap H locs → lv_has ls 7 [(0, .ref (a 0)), (1, .int p1), (2, .int p2), (3, .int x3), (4, .int x4), (5, .int x5)] → W p l e rmX5_writePaces s m args below meth c H locs 0 0 Qz (F0 m 10 ls []) := by
    intro k10 C10 x3 x4 x5 M H locs ls h hP hS hl
    unfold fX5_writePaces_b10 at h
    refine lv_iload hx hb dX5_writePaces_10 (lv_at hl 5 rfl) ?_
    refine lv_if_lt (x := x5) (tgt := 57) hx hb dX5_writePaces_12 (by decide) (fun q1 => ?_) (fun q1 => ?_)
    · replace h := if_t q1 h
      exact B57 x3 M _ _ _ h hP hS (lv_sub hl [0, 1, 2, 3] rfl)
    · replace h := if_f q1 h
      refine lv_iload hx hb dX5_writePaces_15 (lv_at hl 4 rfl) ?_
      refine lv_iconst (v := 3) hx hb dX5_writePaces_17 (by decide) ?_
      refine lv_irem (x := x4) (y := 3) hx hb dX5_writePaces_18 (by decide) ?_
      refine lv_istore (lv' := [(6, .int (x4 - x4 / 3 * 3)), (0, .ref (a 0)), (1, .int p1), (2, .int p2), (3, .int x3), (4, .int x4), (5, .int x5)]) hx hb dX5_writePaces_19 hl (by decide) rfl (fun ls hl => ?_)
      refine lv_iload hx hb dX5_writePaces_21 (lv_at hl 5 rfl) ?_
      refine lv_iconst (v := 3) hx hb dX5_writePaces_23 (by decide) ?_
      refine lv_idiv (x := x4) (y := 3) hx hb dX5_writePaces_24 (by decide) ?_
      refine lv_istore (lv' := [(4, .int (x4 / 3)), (6, .int (x4 - x4 / 3 * 3)), (0, .ref (a 0)), (1, .int p1), (2, .int p2), (3, .int x3), (5, .int x5)]) hx hb dX5_writePaces_25 hl (by decide) rfl (fun ls hl => ?_)
      refine lv_iload hx hb dX5_writePaces_27 (lv_at hl 1 rfl) ?_
      refine lv_aload_n hx hb dX5_writePaces_29 rfl (lv_at hl 2 rfl) ?_
      refine r_get (v := .ref (a 140)) hx hb hts iX5 hown hK hP 0 (by decide) eX_0 rfl 8 (by decide) w53 rfl dX5_writePaces_30 ?_
      refine lv_iload hx hb dX5_writePaces_33 (lv_at hl 6 rfl) ?_
      obtain ⟨q2, h⟩ := chk_ok h
      refine r_iald (i := x5) (h := M 140) hx hb hK hP 140 (by decide) rfl q2 dX5_writePaces_35 ?_
      refine lv_icmp_eq (x := (x4 - x4 / 3 * 3)) (y := (M 140 (Int32.toNatClampNeg x5))) (tgt := 42) hx hb dX5_writePaces_36 (by decide) (fun q3 => ?_) (fun q3 => ?_)
      · replace h := if_t q3 h
        exact B42 k10 C10 x3 (x4 / 3) x5 (x4 - x4 / 3 * 3) M _ _ _ h hP hS (lv_sub hl [2, 3, 4, 5, 0, 6, 1] rfl)
      · replace h := if_f q3 h
        refine lv_iload hx hb dX5_writePaces_39 (lv_at hl 6 rfl) ?_
        refine lv_istore_n (lv' := [(3, .int x5), (4, .int (x4 / 3)), (6, .int (x4 - x4 / 3 * 3)), (0, .ref (a 0)), (1, .int p1), (2, .int p2), (5, .int x5)]) hx hb dX5_writePaces_41 rfl hl (by decide) rfl (fun ls hl => ?_)
        exact B42 k10 C10 x5 (x4 / 3) x5 (x4 - x4 / 3 * 3) M _ _ _ h hP hS (lv_sub hl [3, 4, 5, 0, 1, 6, 2] rfl)
  have L10 : ∀ (n : Nat), ∀ (x3 : Int32) (x4 : Int32) (x5 : Int32) (M : Mem) (H : Heap) (locs : List Loc) (ls : Array Slot), fX5_writePaces_l10 p1 p2 n x3 x4 x5 M = some (r, M') → va_P g.1 vwCl (wl 203 a (eX g a M)) H → va_S (aA 203 a s.heap.size) s.heap H locs → lv_has ls 7 [(0, .ref (a 0)), (1, .int p1), (2, .int p2), (3, .int x3), (4, .int x4), (5, .int x5)] → W p l e rmX5_writePaces s m args below meth c H locs 0 0 Qz (F0 m 10 ls []) := by
    intro n
    induction n with
    | zero => intro x3 x4 x5 M H locs ls h; exact absurd (show (none : Option (Int32 × Mem)) = some _ from h) (fun z => by cases z)
    | succ n ih => exact fun x3 x4 x5 M H locs ls h hP hS hl => B10 (fX5_writePaces_l10 p1 p2 n) ih x3 x4 x5 M H locs ls h hP hS hl
  unfold fX5_writePaces at h
  refine lv_iload_n hx hb dX5_writePaces_0 rfl (lv_at hl 2 rfl) ?_
  refine lv_istore_n (lv' := [(3, .int p2), (0, .ref (a 0)), (1, .int p1), (2, .int p2)]) hx hb dX5_writePaces_1 rfl hl (by decide) rfl (fun ls hl => ?_)
  refine lv_iload_n hx hb dX5_writePaces_2 rfl (lv_at hl 2 rfl) ?_
  refine lv_istore (lv' := [(4, .int p1), (3, .int p2), (0, .ref (a 0)), (1, .int p1), (2, .int p2)]) hx hb dX5_writePaces_3 hl (by decide) rfl (fun ls hl => ?_)
  refine lv_iload_n hx hb dX5_writePaces_5 rfl (lv_at hl 4 rfl) ?_
  refine lv_iconst (v := 1) hx hb dX5_writePaces_6 (by decide) ?_
  refine lv_isub (x := p2) (y := 1) hx hb dX5_writePaces_7 ?_
  refine lv_istore (lv' := [(5, .int (p2 - 1)), (4, .int p1), (3, .int p2), (0, .ref (a 0)), (1, .int p1), (2, .int p2)]) hx hb dX5_writePaces_8 hl (by decide) rfl (fun ls hl => ?_)
  exact L10 FU p2 p1 (p2 - 1) M _ _ _ h hP hS (lv_sub hl [3, 4, 5, 2, 1, 0] rfl)
def rmX5_passLevels : Room := { frames := 5, cells := 0, slots := 0, locals := 152 }
set_option maxHeartbeats 4000000 in
set_option maxRecDepth 100000 in
theorem ok_X5_passLevels (l : Launch) (g : gT) (a : Nat → Nat) (hI : ij 203 a) (p1 : Int32) (p2 : Int32) (M : Mem) (M' : Mem) (h : fX5_passLevels p1 p2 M = some M') : MV l yX5_passLevels wsX5_passLevels rmX5_passLevels g 203 a [.ref (a 0), .int p1, .int p2] (wl 203 a (eX g a M)) (wl 203 a (eX g a M')) := by
  refine MV_of (cc := cX5_passLevels) (maxL := 5) (by decide) rfl (Nat.le_of_ble_eq_true rfl) ?_
  intro p e s m args below meth c ls hx hb hml hr hlk hts hown hK hP hl
  have hown : s.vm.findClass RX5 = some m.cls := hown
  have hl : lv_has ls 5 [(0, .ref (a 0)), (1, .int p1), (2, .int p2)] := hl
  have hS : va_S (aA 203 a s.heap.size) s.heap s.heap [] := va_S.rf
  have iX2 : ∀ w ∈ wsX20, w ∈ wsX5_passLevels := fun w h => List.mem_cons_of_mem _ (List.mem_append_right _ h)
  have iX5 : ∀ w ∈ wsX50, w ∈ wsX5_passLevels := fun w h => List.mem_cons_of_mem _ (List.mem_append_left _ (List.mem_append_right _ h))
  have w50 := hts (.fieldLink RX5 50 "StepRiders" "levels" "[LStepRiders$Stair;") (by decide +kernel)
  have w53 := hts (.fieldLink RX5 53 "StepRiders" "paces" "[I") (by decide +kernel)
  have w154 := hts (.fieldLink RX5 154 "StepRiders$Stair" "speed" "I") (by decide +kernel)
  obtain ⟨Qz, hQz⟩ : ∃ Qz : State → Prop, Qz = MQ below (qV g (wl 203 a (eX g a M')) (aA 203 a s.heap.size)) args s 0 0 (aA 203 a s.heap.size) := ⟨_, rfl⟩
  rw [← hQz]
  have B2 : ∀ (k2 : Int32 → Mem → Option (Mem)) (C2 : ∀ (x3 : Int32) (M : Mem) (H : Heap) (locs : List Loc) (ls : Array Slot), k2 x3 M = some M' → va_P g.1 vwCl (wl 203 a (eX g a M)) H → va_S (aA 203 a s.heap.size) s.heap H locs → lv_has ls 5 [(0, .ref (a 0)), (1, .int p1), (2, .int p2), (3, .int x3)] → W p l e rmX5_passLevels s m args below meth c H locs 0 0 Qz (F0 m 2 ls [])), ∀ (x3 : Int32) (M : Mem) (H : Heap) (locs : List Loc) (ls : Array Slot), fX5_passLevels_b2 p1 p2 k2 x3 M = some M' → va_P g.1 vwCl (wl 203 a (eX g a M)) H → va_S (aA 203 a s.heap.size) s.heap H locs → lv_has ls 5 [(0, .ref (a 0)), (1, .int p1), (2, .int p2), (3, .int x3)] → W p l e rmX5_passLevels s m args below meth c H locs 0 0 Qz (F0 m 2 ls []) := by
    intro k2 C2 x3 M H locs ls h hP hS hl
    unfold fX5_passLevels_b2 at h
    refine lv_iload_n hx hb dX5_passLevels_2 rfl (lv_at hl 3 rfl) ?_
    refine lv_iload_n hx hb dX5_passLevels_3 rfl (lv_at hl 2 rfl) ?_
    refine lv_icmp_ge (x := x3) (y := p2) (tgt := 51) hx hb dX5_passLevels_4 (by decide) (fun q1 => ?_) (fun q1 => ?_)
    · replace h := if_t q1 h
      rw [hQz]
      exact r_vret hx hb hr hlk hS (Option.some.inj h ▸ hP) dX5_passLevels_51
    · replace h := if_f q1 h
      refine lv_aload_n hx hb dX5_passLevels_7 rfl (lv_at hl 0 rfl) ?_
      refine r_get (v := .ref (a 139)) hx hb hts iX5 hown hK hP 0 (by decide) eX_0 rfl 7 (by decide) w50 rfl dX5_passLevels_8 ?_
      refine lv_iload_n hx hb dX5_passLevels_11 rfl (lv_at hl 3 rfl) ?_
      refine lv_iconst (v := 1) hx hb dX5_passLevels_12 (by decide) ?_
      refine lv_iadd (x := x3) (y := 1) hx hb dX5_passLevels_13 ?_
      obtain ⟨q2, h⟩ := chk_ok h
      refine r_lev (i := (x3 + 1)) hx hb hK hP q2 dX5_passLevels_14 ?_
      refine lv_astore (lv' := [(4, .ref (a (168 + 5 * (Int32.toNatClampNeg (x3 + 1))))), (0, .ref (a 0)), (1, .int p1), (2, .int p2), (3, .int x3)]) hx hb dX5_passLevels_15 hl (by decide) rfl (fun ls hl => ?_)
      refine lv_aload hx hb dX5_passLevels_17 (lv_at hl 0 rfl) ?_
      refine lv_aload_n hx hb dX5_passLevels_19 rfl (lv_at hl 1 rfl) ?_
      refine r_get (v := .ref (a 139)) hx hb hts iX5 hown hK hP 0 (by decide) eX_0 rfl 7 (by decide) w50 rfl dX5_passLevels_20 ?_
      refine lv_iload_n hx hb dX5_passLevels_23 rfl (lv_at hl 4 rfl) ?_
      obtain ⟨q3, h⟩ := chk_ok h
      refine r_lev (i := x3) hx hb hK hP q3 dX5_passLevels_24 ?_
      obtain ⟨M6, e5, h⟩ := bdV_ok h
      refine r_callVv (As := [.ref (a (168 + 5 * (Int32.toNatClampNeg x3)))]) (rest := []) (ws' := (wl 203 a (eX g a M6))) (ok_X2_become l g a hI (168 + 5 * (Int32.toNatClampNeg (x3 + 1))) (168 + 5 * (Int32.toNatClampNeg x3)) M M6 (st_l _ (bIn_lt q2)) (st_l _ (bIn_lt q3)) e5) ⟨hx, hb, hml, hown, hts⟩ (cwV 1 hts gX5_passLevels_X2_become rfl rfl rfl (by decide +kernel) ⟨Nat.le_of_ble_eq_true rfl, Nat.le_of_ble_eq_true rfl⟩) hK (r_recv hK hP (168 + 5 * (Int32.toNatClampNeg (x3 + 1))) (isSt_lt (st_l _ (bIn_lt q2)) 0 (by decide)) (eX_Stair (st_l _ (bIn_lt q2))) (show vwCl[2]? = some (RX2, TX2, 8) from rfl)) hS hP (fun _ hq => aA_mono hS.1 hq) (fun _ h _ => h) rfl hl.1 rfl (Nat.le_of_ble_eq_true rfl) dX5_passLevels_25 ⟨Nat.zero_le _, Nat.zero_le _⟩ (fun H locs hP hS => ?_)
      refine lv_aload hx hb dX5_passLevels_28 (lv_at hl 0 rfl) ?_
      refine lv_aload_n hx hb dX5_passLevels_30 rfl (lv_at hl 1 rfl) ?_
      refine r_get (v := .ref (a 140)) hx hb hts iX5 hown hK hP 0 (by decide) eX_0 rfl 8 (by decide) w53 rfl dX5_passLevels_31 ?_
      refine lv_iload_n hx hb dX5_passLevels_34 rfl (lv_at hl 4 rfl) ?_
      obtain ⟨q7, h⟩ := chk_ok h
      refine r_iald (i := x3) (h := M6 140) hx hb hK hP 140 (by decide) rfl q7 dX5_passLevels_35 ?_
      refine r_put (v := .int (M6 140 (Int32.toNatClampNeg x3))) (ty := .int) (f' := eX g a (mp M6 (168 + 5 * (Int32.toNatClampNeg (x3 + 1))) 1 (M6 140 (Int32.toNatClampNeg x3)))) hx hb hts iX2 tyX2 tyX2_ok nmX2 hown hK hI (fun _ h => aA_in h) hP hS (168 + 5 * (Int32.toNatClampNeg (x3 + 1))) (isSt_lt (st_l _ (bIn_lt q2)) 0 (by decide)) (eX_Stair (st_l _ (bIn_lt q2))) rfl 1 (by decide) w154 rfl (by decide +kernel) rfl rfl (Nat.le_of_ble_eq_true rfl) (eX_pStair1 (st_l _ (bIn_lt q2))) dX5_passLevels_36 (fun H locs hP hS => ?_)
      refine lv_aload hx hb dX5_passLevels_39 (lv_at hl 0 rfl) ?_
      obtain ⟨r8, M10, e9, h⟩ := bdI_ok h
      refine r_callVi (As := []) (rest := []) (ws' := (wl 203 a (eX g a (pS (mp M6 (168 + 5 * (Int32.toNatClampNeg (x3 + 1))) 1 (M6 140 (Int32.toNatClampNeg x3))) (168 + 5 * (Int32.toNatClampNeg (x3 + 1))) M10)))) (ok_X2_pass l g (gA a (168 + 5 * (Int32.toNatClampNeg (x3 + 1)))) (gA_ij (st_l _ (bIn_lt q2)) hI) (gS (mp M6 (168 + 5 * (Int32.toNatClampNeg (x3 + 1))) 1 (M6 140 (Int32.toNatClampNeg x3))) (168 + 5 * (Int32.toNatClampNeg (x3 + 1)))) M10 r8 e9) ⟨hx, hb, hml, hown, hts⟩ (cwV 0 hts gX5_passLevels_X2_pass rfl rfl rfl (by decide +kernel) ⟨Nat.le_of_ble_eq_true rfl, Nat.le_of_ble_eq_true rfl⟩) hK (r_recv hK hP (168 + 5 * (Int32.toNatClampNeg (x3 + 1))) (isSt_lt (st_l _ (bIn_lt q2)) 0 (by decide)) (eX_Stair (st_l _ (bIn_lt q2))) (show vwCl[2]? = some (RX2, TX2, 8) from rfl)) hS (S_cut (st_l _ (bIn_lt q2)) hP) (S_A (st_l _ (bIn_lt q2)) hS.1) (S_join (st_l _ (bIn_lt q2)) hI hP) rfl hl.1 rfl (Nat.le_of_ble_eq_true rfl) dX5_passLevels_41 ⟨Nat.zero_le _, Nat.zero_le _⟩ (fun H locs hP hS => ?_)
      refine lv_pop hx hb dX5_passLevels_44 rfl ?_
      refine lv_iinc (v := (x3 + 1)) (lv' := [(3, .int (x3 + 1)), (4, .ref (a (168 + 5 * (Int32.toNatClampNeg (x3 + 1))))), (0, .ref (a 0)), (1, .int p1), (2, .int p2)]) hx hb dX5_passLevels_45 hl (k := 4) rfl rfl (by decide) rfl (fun ls hl => ?_)
      refine lv_goto (tgt := 2) hx hb dX5_passLevels_48 (by decide) ?_
      exact C2 (x3 + 1) (pS (mp M6 (168 + 5 * (Int32.toNatClampNeg (x3 + 1))) 1 (M6 140 (Int32.toNatClampNeg x3))) (168 + 5 * (Int32.toNatClampNeg (x3 + 1))) M10) _ _ _ h hP hS (lv_sub hl [2, 3, 4, 0] rfl)
  have L2 : ∀ (n : Nat), ∀ (x3 : Int32) (M : Mem) (H : Heap) (locs : List Loc) (ls : Array Slot), fX5_passLevels_l2 p1 p2 n x3 M = some M' → va_P g.1 vwCl (wl 203 a (eX g a M)) H → va_S (aA 203 a s.heap.size) s.heap H locs → lv_has ls 5 [(0, .ref (a 0)), (1, .int p1), (2, .int p2), (3, .int x3)] → W p l e rmX5_passLevels s m args below meth c H locs 0 0 Qz (F0 m 2 ls []) := by
    intro n
    induction n with
    | zero => intro x3 M H locs ls h; exact absurd (show (none : Option (Mem)) = some _ from h) (fun z => by cases z)
    | succ n ih => exact fun x3 M H locs ls h hP hS hl => B2 (fX5_passLevels_l2 p1 p2 n) ih x3 M H locs ls h hP hS hl
  unfold fX5_passLevels at h
  refine lv_iload_n hx hb dX5_passLevels_0 rfl (lv_at hl 1 rfl) ?_
  refine lv_istore_n (lv' := [(3, .int p1), (0, .ref (a 0)), (1, .int p1), (2, .int p2)]) hx hb dX5_passLevels_1 rfl hl (by decide) rfl (fun ls hl => ?_)
  exact L2 FU p1 M _ _ _ h hP hS (lv_sub hl [1, 2, 3, 0] rfl)
def rmX5_sumOfPaces : Room := { frames := 1, cells := 0, slots := 0, locals := 60 }
set_option maxHeartbeats 4000000 in
set_option maxRecDepth 100000 in
theorem ok_X5_sumOfPaces (l : Launch) (g : gT) (a : Nat → Nat) (hI : ij 203 a) (p1 : Int32) (M : Mem) (r : Int32) (h : fX5_sumOfPaces p1 M = some r) : MI l yX5_sumOfPaces wsX5_sumOfPaces rmX5_sumOfPaces g 203 a [.ref (a 0), .int p1] (wl 203 a (eX g a M)) (wl 203 a (eX g a M)) r := by
  refine MI_of (cc := cX5_sumOfPaces) (maxL := 4) (rt := .int) (by decide) rfl (Nat.le_of_ble_eq_true rfl) ?_
  intro p e s m args below meth c ls hx hb hml hr hlk hts hown hK hP hl
  have hown : s.vm.findClass RX5 = some m.cls := hown
  have hl : lv_has ls 4 [(0, .ref (a 0)), (1, .int p1)] := hl
  have hS : va_S (aA 203 a s.heap.size) s.heap s.heap [] := va_S.rf
  have iX5 : ∀ w ∈ wsX50, w ∈ wsX5_sumOfPaces := fun w h => List.mem_cons_of_mem _ (List.mem_append_right _ h)
  have w53 := hts (.fieldLink RX5 53 "StepRiders" "paces" "[I") (by decide +kernel)
  obtain ⟨Qz, hQz⟩ : ∃ Qz : State → Prop, Qz = MQ below (qI g (wl 203 a (eX g a M)) r (aA 203 a s.heap.size)) args s 0 0 (aA 203 a s.heap.size) := ⟨_, rfl⟩
  rw [← hQz]
  have B4 : ∀ (k4 : Int32 → Int32 → Option (Int32)) (C4 : ∀ (x2 : Int32) (x3 : Int32) (H : Heap) (locs : List Loc) (ls : Array Slot), k4 x2 x3 = some r → va_P g.1 vwCl (wl 203 a (eX g a M)) H → va_S (aA 203 a s.heap.size) s.heap H locs → lv_has ls 4 [(0, .ref (a 0)), (1, .int p1), (2, .int x2), (3, .int x3)] → W p l e rmX5_sumOfPaces s m args below meth c H locs 0 0 Qz (F0 m 4 ls [])), ∀ (x2 : Int32) (x3 : Int32) (H : Heap) (locs : List Loc) (ls : Array Slot), fX5_sumOfPaces_b4 p1 M k4 x2 x3 = some r → va_P g.1 vwCl (wl 203 a (eX g a M)) H → va_S (aA 203 a s.heap.size) s.heap H locs → lv_has ls 4 [(0, .ref (a 0)), (1, .int p1), (2, .int x2), (3, .int x3)] → W p l e rmX5_sumOfPaces s m args below meth c H locs 0 0 Qz (F0 m 4 ls []) := by
    intro k4 C4 x2 x3 H locs ls h hP hS hl
    unfold fX5_sumOfPaces_b4 at h
    refine lv_iload_n hx hb dX5_sumOfPaces_4 rfl (lv_at hl 3 rfl) ?_
    refine lv_iload_n hx hb dX5_sumOfPaces_5 rfl (lv_at hl 1 rfl) ?_
    refine lv_icmp_ge (x := x3) (y := p1) (tgt := 24) hx hb dX5_sumOfPaces_6 (by decide) (fun q1 => ?_) (fun q1 => ?_)
    · replace h := if_t q1 h
      refine lv_iload_n hx hb dX5_sumOfPaces_24 rfl (lv_at hl 2 rfl) ?_
      rw [hQz]
      exact r_iret (v := x2) hx hb hr hlk hS hP (Option.some.inj h) dX5_sumOfPaces_25
    · replace h := if_f q1 h
      refine lv_iload_n hx hb dX5_sumOfPaces_9 rfl (lv_at hl 2 rfl) ?_
      refine lv_aload_n hx hb dX5_sumOfPaces_10 rfl (lv_at hl 0 rfl) ?_
      refine r_get (v := .ref (a 140)) hx hb hts iX5 hown hK hP 0 (by decide) eX_0 rfl 8 (by decide) w53 rfl dX5_sumOfPaces_11 ?_
      refine lv_iload_n hx hb dX5_sumOfPaces_14 rfl (lv_at hl 3 rfl) ?_
      obtain ⟨q2, h⟩ := chk_ok h
      refine r_iald (i := x3) (h := M 140) hx hb hK hP 140 (by decide) rfl q2 dX5_sumOfPaces_15 ?_
      refine lv_iadd (x := x2) (y := (M 140 (Int32.toNatClampNeg x3))) hx hb dX5_sumOfPaces_16 ?_
      refine lv_istore_n (lv' := [(2, .int (x2 + (M 140 (Int32.toNatClampNeg x3)))), (0, .ref (a 0)), (1, .int p1), (3, .int x3)]) hx hb dX5_sumOfPaces_17 rfl hl (by decide) rfl (fun ls hl => ?_)
      refine lv_iinc (v := (x3 + 1)) (lv' := [(3, .int (x3 + 1)), (2, .int (x2 + (M 140 (Int32.toNatClampNeg x3)))), (0, .ref (a 0)), (1, .int p1)]) hx hb dX5_sumOfPaces_18 hl (k := 3) rfl rfl (by decide) rfl (fun ls hl => ?_)
      refine lv_goto (tgt := 4) hx hb dX5_sumOfPaces_21 (by decide) ?_
      exact C4 (x2 + (M 140 (Int32.toNatClampNeg x3))) (x3 + 1) _ _ _ h hP hS (lv_sub hl [2, 3, 1, 0] rfl)
  have L4 : ∀ (n : Nat), ∀ (x2 : Int32) (x3 : Int32) (H : Heap) (locs : List Loc) (ls : Array Slot), fX5_sumOfPaces_l4 p1 M n x2 x3 = some r → va_P g.1 vwCl (wl 203 a (eX g a M)) H → va_S (aA 203 a s.heap.size) s.heap H locs → lv_has ls 4 [(0, .ref (a 0)), (1, .int p1), (2, .int x2), (3, .int x3)] → W p l e rmX5_sumOfPaces s m args below meth c H locs 0 0 Qz (F0 m 4 ls []) := by
    intro n
    induction n with
    | zero => intro x2 x3 H locs ls h; exact absurd (show (none : Option (Int32)) = some _ from h) (fun z => by cases z)
    | succ n ih => exact fun x2 x3 H locs ls h hP hS hl => B4 (fX5_sumOfPaces_l4 p1 M n) ih x2 x3 H locs ls h hP hS hl
  unfold fX5_sumOfPaces at h
  refine lv_iconst (v := 0) hx hb dX5_sumOfPaces_0 (by decide) ?_
  refine lv_istore_n (lv' := [(2, .int 0), (0, .ref (a 0)), (1, .int p1)]) hx hb dX5_sumOfPaces_1 rfl hl (by decide) rfl (fun ls hl => ?_)
  refine lv_iconst (v := 0) hx hb dX5_sumOfPaces_2 (by decide) ?_
  refine lv_istore_n (lv' := [(3, .int 0), (2, .int 0), (0, .ref (a 0)), (1, .int p1)]) hx hb dX5_sumOfPaces_3 rfl hl (by decide) rfl (fun ls hl => ?_)
  exact L4 FU 0 0 _ _ _ h hP hS (lv_sub hl [2, 3, 1, 0] rfl)
