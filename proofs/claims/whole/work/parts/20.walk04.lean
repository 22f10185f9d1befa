def rmX4_leave : Room := { frames := 1, cells := 0, slots := 0, locals := 60 }
set_option maxHeartbeats 4000000 in
set_option maxRecDepth 100000 in
theorem ok_X4_leave (l : Launch) (g : gT) (a : Nat → Nat) (hI : ij 203 a) (p1 : Int32) (M : Mem) (M' : Mem) (h : fX4_leave p1 M = some M') : MV l yX4_leave wsX4_leave rmX4_leave g 203 a [.ref (a 132), .int p1] (wl 203 a (eX g a M)) (wl 203 a (eX g a M')) := by
  refine MV_of (cc := cX4_leave) (maxL := 2) (by decide) rfl (Nat.le_of_ble_eq_true rfl) ?_
  intro p e s m args below meth c ls hx hb hml hr hlk hts hown hK hP hl
  have hown : s.vm.findClass RX4 = some m.cls := hown
  have hl : lv_has ls 2 [(0, .ref (a 132)), (1, .int p1)] := hl
  have hS : va_S (aA 203 a s.heap.size) s.heap s.heap [] := va_S.rf
  have iX4 : ∀ w ∈ wsX40, w ∈ wsX4_leave := fun w h => List.mem_cons_of_mem _ (List.mem_append_right _ h)
  have w13 := hts (.fieldLink RX4 13 "StepRiders$Trace" "length" "I") (by decide +kernel)
  have w9 := hts (.fieldLink RX4 9 "StepRiders$Trace" "bodies" "[I") (by decide +kernel)
  obtain ⟨Qz, hQz⟩ : ∃ Qz : State → Prop, Qz = MQ below (qV g (wl 203 a (eX g a M')) (aA 203 a s.heap.size)) args s 0 0 (aA 203 a s.heap.size) := ⟨_, rfl⟩
  rw [← hQz]
  unfold fX4_leave at h
  refine lv_aload_n hx hb dX4_leave_0 rfl (lv_at hl 0 rfl) ?_
  refine r_get (v := .int (M 132 1)) hx hb hts iX4 hown hK hP 132 (by decide) eX_132 rfl 1 (by decide) w13 rfl dX4_leave_1 ?_
  refine lv_bipush (v := 16) hx hb dX4_leave_4 (by decide) ?_
  refine lv_icmp_ge (x := (M 132 1)) (y := 16) (tgt := 29) hx hb dX4_leave_6 (by decide) (fun q1 => ?_) (fun q1 => ?_)
  · replace h := if_t q1 h
    rw [hQz]
    exact r_vret hx hb hr hlk hS (Option.some.inj h ▸ hP) dX4_leave_29
  · replace h := if_f q1 h
    refine lv_aload_n hx hb dX4_leave_9 rfl (lv_at hl 0 rfl) ?_
    refine r_get (v := .ref (a 133)) hx hb hts iX4 hown hK hP 132 (by decide) eX_132 rfl 0 (by decide) w9 rfl dX4_leave_10 ?_
    refine lv_aload_n hx hb dX4_leave_13 rfl (lv_at hl 0 rfl) ?_
    refine r_get (v := .int (M 132 1)) hx hb hts iX4 hown hK hP 132 (by decide) eX_132 rfl 1 (by decide) w13 rfl dX4_leave_14 ?_
    refine lv_iload_n hx hb dX4_leave_17 rfl (lv_at hl 1 rfl) ?_
    obtain ⟨q2, h⟩ := chk_ok h
    refine r_iast (i := (M 132 1)) (x := p1) (h := M 133) (f' := eX g a (mp M 133 (Int32.toNatClampNeg (M 132 1)) p1)) hx hb hK hI (fun _ h => aA_in h) hP hS 133 (by decide) rfl q2 (eX_ua (fun _ => rfl)) dX4_leave_18 (fun H locs hP hS => ?_)
    refine lv_aload_n hx hb dX4_leave_19 rfl (lv_at hl 0 rfl) ?_
    refine lv_dup hx hb dX4_leave_20 rfl ?_
    refine r_get (v := .int ((mp M 133 (Int32.toNatClampNeg (M 132 1)) p1) 132 1)) hx hb hts iX4 hown hK hP 132 (by decide) eX_132 rfl 1 (by decide) w13 rfl dX4_leave_21 ?_
    refine lv_iconst (v := 1) hx hb dX4_leave_24 (by decide) ?_
    refine lv_iadd (x := ((mp M 133 (Int32.toNatClampNeg (M 132 1)) p1) 132 1)) (y := 1) hx hb dX4_leave_25 ?_
    refine r_put (v := .int (((mp M 133 (Int32.toNatClampNeg (M 132 1)) p1) 132 1) + 1)) (ty := .int) (f' := eX g a (mp (mp M 133 (Int32.toNatClampNeg (M 132 1)) p1) 132 1 (((mp M 133 (Int32.toNatClampNeg (M 132 1)) p1) 132 1) + 1))) hx hb hts iX4 tyX4 tyX4_ok nmX4 hown hK hI (fun _ h => aA_in h) hP hS 132 (by decide) eX_132 rfl 1 (by decide) w13 rfl (by decide +kernel) rfl rfl (Nat.le_of_ble_eq_true rfl) eX_pTrace1 dX4_leave_26 (fun H locs hP hS => ?_)
    rw [hQz]
    exact r_vret hx hb hr hlk hS (Option.some.inj h ▸ hP) dX4_leave_29
def rmX5_noRow : Room := { frames := 2, cells := 0, slots := 0, locals := 82 }
set_option maxHeartbeats 4000000 in
set_option maxRecDepth 100000 in
theorem ok_X5_noRow (l : Launch) (g : gT) (p0 : Int32) (r : Int32) (h : fX5_noRow p0 = some r) : MI l yX5_noRow wsX5_noRow rmX5_noRow g 0 (fun _ => 0) [.int p0] ([] : va_W) ([] : va_W) r := by
  refine MI_of (cc := cX5_noRow) (maxL := 1) (rt := .boolean) (by decide) rfl (Nat.le_of_ble_eq_true rfl) ?_
  intro p e s m args below meth c ls hx hb hml hr hlk hts hown hK hP hl
  have hown : s.vm.findClass RX5 = some m.cls := hown
  have hl : lv_has ls 1 [(0, .int p0)] := hl
  have hS : va_S (aA 0 (fun _ => 0) s.heap.size) s.heap s.heap [] := va_S.rf
  obtain ⟨Qz, hQz⟩ : ∃ Qz : State → Prop, Qz = MQ below (qI g ([] : va_W) r (aA 0 (fun _ => 0) s.heap.size)) args s 0 0 (aA 0 (fun _ => 0) s.heap.size) := ⟨_, rfl⟩
  rw [← hQz]
  unfold fX5_noRow at h
  refine lv_iload_n hx hb dX5_noRow_0 rfl (lv_at hl 0 rfl) ?_
  refine lv_iconst (v := 0) hx hb dX5_noRow_1 (by decide) ?_
  refine lv_bipush (v := 7) hx hb dX5_noRow_2 (by decide) ?_
  obtain ⟨r1, e2, h⟩ := bdP_ok h
  refine r_callSi (As := [.int p0, .int 0, .int 7]) (rest := []) (ws' := ([] : va_W)) (ok_X5_outside l g p0 0 7 r1 e2) ⟨hx, hb, hml, hown, hts⟩ (cwS 3 hts gX5_noRow_X5_outside rfl rfl rfl (by decide +kernel) ⟨Nat.le_of_ble_eq_true rfl, Nat.le_of_ble_eq_true rfl⟩) hK hS nilP (P_A hS.1) (fun _ _ hk => wl_keep hP hk) rfl hl.1 rfl (Nat.le_of_ble_eq_true rfl) dX5_noRow_4 ⟨Nat.zero_le _, Nat.zero_le _⟩ (fun H locs hP hS => ?_)
  obtain ⟨q3, h⟩ := chk_ok h
  rw [hQz]
  exact r_zret (v := r1) hx hb hr hlk hS hP (Option.some.inj h) q3 dX5_noRow_7
def rmX5_found : Room := { frames := 1, cells := 0, slots := 0, locals := 60 }
set_option maxHeartbeats 4000000 in
set_option maxRecDepth 100000 in
theorem ok_X5_found (l : Launch) (g : gT) (a : Nat → Nat) (hI : ij 203 a) (p1 : Int32) (M : Mem) (M' : Mem) (r : Int32) (h : fX5_found p1 M = some (r, M')) : MI l yX5_found wsX5_found rmX5_found g 203 a [.ref (a 0), .int p1] (wl 203 a (eX g a M)) (wl 203 a (eX g a M')) r := by
  refine MI_of (cc := cX5_found) (maxL := 2) (rt := .int) (by decide) rfl (Nat.le_of_ble_eq_true rfl) ?_
  intro p e s m args below meth c ls hx hb hml hr hlk hts hown hK hP hl
  have hown : s.vm.findClass RX5 = some m.cls := hown
  have hl : lv_has ls 2 [(0, .ref (a 0)), (1, .int p1)] := hl
  have hS : va_S (aA 203 a s.heap.size) s.heap s.heap [] := va_S.rf
  have iX5 : ∀ w ∈ wsX50, w ∈ wsX5_found := fun w h => List.mem_cons_of_mem _ (List.mem_append_right _ h)
  have w60 := hts (.fieldLink RX5 60 "StepRiders" "finding" "I") (by decide +kernel)
  have w277 := hts (.constant RX5 277 (-1000010)) (by decide +kernel)
  obtain ⟨Qz, hQz⟩ : ∃ Qz : State → Prop, Qz = MQ below (qI g (wl 203 a (eX g a M')) r (aA 203 a s.heap.size)) args s 0 0 (aA 203 a s.heap.size) := ⟨_, rfl⟩
  rw [← hQz]
  unfold fX5_found at h
  refine lv_aload_n hx hb dX5_found_0 rfl (lv_at hl 0 rfl) ?_
  refine lv_iload_n hx hb dX5_found_1 rfl (lv_at hl 1 rfl) ?_
  refine r_put (v := .int p1) (ty := .int) (f' := eX g a (mp M 0 10 p1)) hx hb hts iX5 tyX5 tyX5_ok nmX5 hown hK hI (fun _ h => aA_in h) hP hS 0 (by decide) eX_0 rfl 10 (by decide) w60 rfl (by decide +kernel) rfl rfl (Nat.le_of_ble_eq_true rfl) eX_pStepRiders10 dX5_found_2 (fun H locs hP hS => ?_)
  refine lv_ldcw (v := (-1000010)) hx hb hown w277 dX5_found_5 ?_
  refine lv_iload_n hx hb dX5_found_8 rfl (lv_at hl 1 rfl) ?_
  refine lv_isub (x := (-1000010)) (y := p1) hx hb dX5_found_9 ?_
  rw [hQz]
  exact r_iret (v := ((-1000010) - p1)) hx hb hr hlk hS ((Prod.mk.inj (Option.some.inj h)).2 ▸ hP) (Prod.mk.inj (Option.some.inj h)).1 dX5_found_10
def rmX5_fine : Room := { frames := 1, cells := 0, slots := 0, locals := 60 }
set_option maxHeartbeats 4000000 in
set_option maxRecDepth 100000 in
theorem ok_X5_fine (l : Launch) (g : gT) (a : Nat → Nat) (hI : ij 203 a) (p1 : Int32) (M : Mem) (M' : Mem) (r : Int32) (h : fX5_fine p1 M = some (r, M')) : MI l yX5_fine wsX5_fine rmX5_fine g 203 a [.ref (a 0), .int p1] (wl 203 a (eX g a M)) (wl 203 a (eX g a M')) r := by
  refine MI_of (cc := cX5_fine) (maxL := 2) (rt := .int) (by decide) rfl (Nat.le_of_ble_eq_true rfl) ?_
  intro p e s m args below meth c ls hx hb hml hr hlk hts hown hK hP hl
  have hown : s.vm.findClass RX5 = some m.cls := hown
  have hl : lv_has ls 2 [(0, .ref (a 0)), (1, .int p1)] := hl
  have hS : va_S (aA 203 a s.heap.size) s.heap s.heap [] := va_S.rf
  have iX5 : ∀ w ∈ wsX50, w ∈ wsX5_fine := fun w h => List.mem_cons_of_mem _ (List.mem_append_right _ h)
  have w60 := hts (.fieldLink RX5 60 "StepRiders" "finding" "I") (by decide +kernel)
  obtain ⟨Qz, hQz⟩ : ∃ Qz : State → Prop, Qz = MQ below (qI g (wl 203 a (eX g a M')) r (aA 203 a s.heap.size)) args s 0 0 (aA 203 a s.heap.size) := ⟨_, rfl⟩
  rw [← hQz]
  unfold fX5_fine at h
  refine lv_aload_n hx hb dX5_fine_0 rfl (lv_at hl 0 rfl) ?_
  refine lv_iconst (v := 0) hx hb dX5_fine_1 (by decide) ?_
  refine r_put (v := .int 0) (ty := .int) (f' := eX g a (mp M 0 10 0)) hx hb hts iX5 tyX5 tyX5_ok nmX5 hown hK hI (fun _ h => aA_in h) hP hS 0 (by decide) eX_0 rfl 10 (by decide) w60 rfl (by decide +kernel) rfl rfl (Nat.le_of_ble_eq_true rfl) eX_pStepRiders10 dX5_fine_2 (fun H locs hP hS => ?_)
  refine lv_iload_n hx hb dX5_fine_5 rfl (lv_at hl 1 rfl) ?_
  rw [hQz]
  exact r_iret (v := p1) hx hb hr hlk hS ((Prod.mk.inj (Option.some.inj h)).2 ▸ hP) (Prod.mk.inj (Option.some.inj h)).1 dX5_fine_6
def rmX5_row : Room := { frames := 3, cells := 0, slots := 0, locals := 102 }
set_option maxHeartbeats 4000000 in
set_option maxRecDepth 100000 in
theorem ok_X5_row (l : Launch) (g : gT) (a : Nat → Nat) (hI : ij 203 a) (p1 : Int32) (p2 : Int32) (p3 : Int32) (M : Mem) (M' : Mem) (r : Int32) (h : fX5_row p1 p2 p3 M = some (r, M')) : MI l yX5_row wsX5_row rmX5_row g 203 a [.ref (a 0), .int p1, .int p2, .int p3] (wl 203 a (eX g a M)) (wl 203 a (eX g a M')) r := by
  refine MI_of (cc := cX5_row) (maxL := 4) (rt := .int) (by decide) rfl (Nat.le_of_ble_eq_true rfl) ?_
  intro p e s m args below meth c ls hx hb hml hr hlk hts hown hK hP hl
  have hown : s.vm.findClass RX5 = some m.cls := hown
  have hl : lv_has ls 4 [(0, .ref (a 0)), (1, .int p1), (2, .int p2), (3, .int p3)] := hl
  have hS : va_S (aA 203 a s.heap.size) s.heap s.heap [] := va_S.rf
  have iX5 : ∀ w ∈ wsX50, w ∈ wsX5_row := fun w h => List.mem_cons_of_mem _ (List.mem_append_left _ (List.mem_append_right _ h))
  have w73 := hts (.constant RX5 73 (-1000001)) (by decide +kernel)
  have w11 := hts (.fieldLink RX5 11 "StepRiders" "rows" "[LStepRiders$Row;") (by decide +kernel)
  obtain ⟨Qz, hQz⟩ : ∃ Qz : State → Prop, Qz = MQ below (qI g (wl 203 a (eX g a M')) r (aA 203 a s.heap.size)) args s 0 0 (aA 203 a s.heap.size) := ⟨_, rfl⟩
  rw [← hQz]
  unfold fX5_row at h
  refine lv_iload_n hx hb dX5_row_0 rfl (lv_at hl 1 rfl) ?_
  obtain ⟨r1, e2, h⟩ := bdP_ok h
  refine r_callSi (As := [.int p1]) (rest := []) (ws' := (wl 203 a (eX g a M))) (ok_X5_noRow l g p1 r1 e2) ⟨hx, hb, hml, hown, hts⟩ (cwS 1 hts gX5_row_X5_noRow rfl rfl rfl (by decide +kernel) ⟨Nat.le_of_ble_eq_true rfl, Nat.le_of_ble_eq_true rfl⟩) hK hS nilP (P_A hS.1) (fun _ _ hk => wl_keep hP hk) rfl hl.1 rfl (Nat.le_of_ble_eq_true rfl) dX5_row_1 ⟨Nat.zero_le _, Nat.zero_le _⟩ (fun H locs hP hS => ?_)
  refine lv_if_ne (x := r1) (tgt := 22) hx hb dX5_row_4 (by decide) (fun q3 => ?_) (fun q3 => ?_)
  · replace h := if_f q3 h
    refine lv_ldc (v := (-1000001)) hx hb hown w73 dX5_row_22 ?_
    rw [hQz]
    exact r_iret (v := (-1000001)) hx hb hr hlk hS ((Prod.mk.inj (Option.some.inj h)).2 ▸ hP) (Prod.mk.inj (Option.some.inj h)).1 dX5_row_24
  · replace h := if_t q3 h
    refine lv_iload_n hx hb dX5_row_7 rfl (lv_at hl 2 rfl) ?_
    refine lv_iconst (v := 0) hx hb dX5_row_8 (by decide) ?_
    refine lv_iconst (v := 2) hx hb dX5_row_9 (by decide) ?_
    obtain ⟨r4, e5, h⟩ := bdP_ok h
    refine r_callSi (As := [.int p2, .int 0, .int 2]) (rest := []) (ws' := (wl 203 a (eX g a M))) (ok_X5_outside l g p2 0 2 r4 e5) ⟨hx, hb, hml, hown, hts⟩ (cwS 3 hts gX5_row_X5_outside rfl rfl rfl (by decide +kernel) ⟨Nat.le_of_ble_eq_true rfl, Nat.le_of_ble_eq_true rfl⟩) hK hS nilP (P_A hS.1) (fun _ _ hk => wl_keep hP hk) rfl hl.1 rfl (Nat.le_of_ble_eq_true rfl) dX5_row_10 ⟨Nat.zero_le _, Nat.zero_le _⟩ (fun H locs hP hS => ?_)
    refine lv_if_ne (x := r4) (tgt := 22) hx hb dX5_row_13 (by decide) (fun q6 => ?_) (fun q6 => ?_)
    · replace h := if_f q6 h
      refine lv_ldc (v := (-1000001)) hx hb hown w73 dX5_row_22 ?_
      rw [hQz]
      exact r_iret (v := (-1000001)) hx hb hr hlk hS ((Prod.mk.inj (Option.some.inj h)).2 ▸ hP) (Prod.mk.inj (Option.some.inj h)).1 dX5_row_24
    · replace h := if_t q6 h
      refine lv_iload_n hx hb dX5_row_16 rfl (lv_at hl 3 rfl) ?_
      refine lv_bipush (v := 40) hx hb dX5_row_17 (by decide) ?_
      refine lv_icmp_le (x := p3) (y := 40) (tgt := 25) hx hb dX5_row_19 (by decide) (fun q7 => ?_) (fun q7 => ?_)
      · replace h := if_t q7 h
        refine lv_iload_n hx hb dX5_row_25 rfl (lv_at hl 3 rfl) ?_
        refine lv_if_ge (x := p3) (tgt := 35) hx hb dX5_row_26 (by decide) (fun q8 => ?_) (fun q8 => ?_)
        · replace h := if_t q8 h
          refine lv_aload_n hx hb dX5_row_35 rfl (lv_at hl 0 rfl) ?_
          refine r_get (v := .ref (a 1)) hx hb hts iX5 hown hK hP 0 (by decide) eX_0 rfl 0 (by decide) w11 rfl dX5_row_36 ?_
          refine lv_iload_n hx hb dX5_row_39 rfl (lv_at hl 1 rfl) ?_
          obtain ⟨q9, h⟩ := chk_ok h
          refine r_rows (i := p1) hx hb hK hP q9 dX5_row_40 ?_
          refine lv_iload_n hx hb dX5_row_41 rfl (lv_at hl 2 rfl) ?_
          refine lv_iload_n hx hb dX5_row_42 rfl (lv_at hl 3 rfl) ?_
          obtain ⟨M12, e11, h⟩ := bdV_ok h
          refine r_callVv (As := [.int p2, .int p3]) (rest := []) (ws' := (wl 203 a (eX g a M12))) (ok_X1_begin l g a hI (142 + 2 * (Int32.toNatClampNeg p1)) p2 p3 M M12 (rw_r _ (bIn_lt q9)) e11) ⟨hx, hb, hml, hown, hts⟩ (cwV 2 hts gX5_row_X1_begin rfl rfl rfl (by decide +kernel) ⟨Nat.le_of_ble_eq_true rfl, Nat.le_of_ble_eq_true rfl⟩) hK (r_recv hK hP (142 + 2 * (Int32.toNatClampNeg p1)) (isRw_lt (rw_r _ (bIn_lt q9))) (eX_Row (rw_r _ (bIn_lt q9))) (show vwCl[1]? = some (RX1, TX1, 4) from rfl)) hS hP (fun _ hq => aA_mono hS.1 hq) (fun _ h _ => h) rfl hl.1 rfl (Nat.le_of_ble_eq_true rfl) dX5_row_43 ⟨Nat.zero_le _, Nat.zero_le _⟩ (fun H locs hP hS => ?_)
          refine lv_aload_n hx hb dX5_row_46 rfl (lv_at hl 0 rfl) ?_
          refine lv_iload_n hx hb dX5_row_47 rfl (lv_at hl 3 rfl) ?_
          obtain ⟨r13, M15, e14, h⟩ := bdI_ok h
          refine r_callVi (As := [.int p3]) (rest := []) (ws' := (wl 203 a (eX g a M15))) (ok_X5_fine l g a hI p3 M12 M15 r13 e14) ⟨hx, hb, hml, hown, hts⟩ (cwV 1 hts gX5_row_X5_fine rfl rfl rfl (by decide +kernel) ⟨Nat.le_of_ble_eq_true rfl, Nat.le_of_ble_eq_true rfl⟩) hK (r_recv hK hP 0 (by decide) eX_0 (show vwCl[5]? = some (RX5, TX5, 11) from rfl)) hS hP (fun _ hq => aA_mono hS.1 hq) (fun _ h _ => h) rfl hl.1 rfl (Nat.le_of_ble_eq_true rfl) dX5_row_48 ⟨Nat.zero_le _, Nat.zero_le _⟩ (fun H locs hP hS => ?_)
          rw [hQz]
          exact r_iret (v := r13) hx hb hr hlk hS ((Prod.mk.inj (Option.some.inj h)).2 ▸ hP) (Prod.mk.inj (Option.some.inj h)).1 dX5_row_51
        · replace h := if_f q8 h
          refine lv_aload_n hx hb dX5_row_29 rfl (lv_at hl 0 rfl) ?_
          refine lv_iconst (v := 4) hx hb dX5_row_30 (by decide) ?_
          obtain ⟨r16, M18, e17, h⟩ := bdI_ok h
          refine r_callVi (As := [.int 4]) (rest := []) (ws' := (wl 203 a (eX g a M18))) (ok_X5_found l g a hI 4 M M18 r16 e17) ⟨hx, hb, hml, hown, hts⟩ (cwV 1 hts gX5_row_X5_found rfl rfl rfl (by decide +kernel) ⟨Nat.le_of_ble_eq_true rfl, Nat.le_of_ble_eq_true rfl⟩) hK (r_recv hK hP 0 (by decide) eX_0 (show vwCl[5]? = some (RX5, TX5, 11) from rfl)) hS hP (fun _ hq => aA_mono hS.1 hq) (fun _ h _ => h) rfl hl.1 rfl (Nat.le_of_ble_eq_true rfl) dX5_row_31 ⟨Nat.zero_le _, Nat.zero_le _⟩ (fun H locs hP hS => ?_)
          rw [hQz]
          exact r_iret (v := r16) hx hb hr hlk hS ((Prod.mk.inj (Option.some.inj h)).2 ▸ hP) (Prod.mk.inj (Option.some.inj h)).1 dX5_row_34
      · replace h := if_f q7 h
        refine lv_ldc (v := (-1000001)) hx hb hown w73 dX5_row_22 ?_
        rw [hQz]
        exact r_iret (v := (-1000001)) hx hb hr hlk hS ((Prod.mk.inj (Option.some.inj h)).2 ▸ hP) (Prod.mk.inj (Option.some.inj h)).1 dX5_row_24
def rmX5_set : Room := { frames := 3, cells := 0, slots := 0, locals := 102 }
set_option maxHeartbeats 4000000 in
set_option maxRecDepth 100000 in
theorem ok_X5_set (l : Launch) (g : gT) (a : Nat → Nat) (hI : ij 203 a) (p1 : Int32) (p2 : Int32) (p3 : Int32) (M : Mem) (M' : Mem) (r : Int32) (h : fX5_set p1 p2 p3 M = some (r, M')) : MI l yX5_set wsX5_set rmX5_set g 203 a [.ref (a 0), .int p1, .int p2, .int p3] (wl 203 a (eX g a M)) (wl 203 a (eX g a M')) r := by
  refine MI_of (cc := cX5_set) (maxL := 5) (rt := .int) (by decide) rfl (Nat.le_of_ble_eq_true rfl) ?_
  intro p e s m args below meth c ls hx hb hml hr hlk hts hown hK hP hl
  have hown : s.vm.findClass RX5 = some m.cls := hown
  have hl : lv_has ls 5 [(0, .ref (a 0)), (1, .int p1), (2, .int p2), (3, .int p3)] := hl
  have hS : va_S (aA 203 a s.heap.size) s.heap s.heap [] := va_S.rf
  have iX1 : ∀ w ∈ wsX10, w ∈ wsX5_set := fun w h => List.mem_cons_of_mem _ (List.mem_append_right _ h)
  have iX5 : ∀ w ∈ wsX50, w ∈ wsX5_set := fun w h => List.mem_cons_of_mem _ (List.mem_append_left _ (List.mem_append_right _ h))
  have w11 := hts (.fieldLink RX5 11 "StepRiders" "rows" "[LStepRiders$Row;") (by decide +kernel)
  have w85 := hts (.fieldLink RX5 85 "StepRiders$Row" "missing" "Z") (by decide +kernel)
  have w93 := hts (.fieldLink RX5 93 "StepRiders$Row" "items" "[I") (by decide +kernel)
  have w73 := hts (.constant RX5 73 (-1000001)) (by decide +kernel)
  obtain ⟨Qz, hQz⟩ : ∃ Qz : State → Prop, Qz = MQ below (qI g (wl 203 a (eX g a M')) r (aA 203 a s.heap.size)) args s 0 0 (aA 203 a s.heap.size) := ⟨_, rfl⟩
  rw [← hQz]
  unfold fX5_set at h
  refine lv_iload_n hx hb dX5_set_0 rfl (lv_at hl 1 rfl) ?_
  obtain ⟨r1, e2, h⟩ := bdP_ok h
  refine r_callSi (As := [.int p1]) (rest := []) (ws' := (wl 203 a (eX g a M))) (ok_X5_noRow l g p1 r1 e2) ⟨hx, hb, hml, hown, hts⟩ (cwS 1 hts gX5_set_X5_noRow rfl rfl rfl (by decide +kernel) ⟨Nat.le_of_ble_eq_true rfl, Nat.le_of_ble_eq_true rfl⟩) hK hS nilP (P_A hS.1) (fun _ _ hk => wl_keep hP hk) rfl hl.1 rfl (Nat.le_of_ble_eq_true rfl) dX5_set_1 ⟨Nat.zero_le _, Nat.zero_le _⟩ (fun H locs hP hS => ?_)
  refine lv_if_eq (x := r1) (tgt := 10) hx hb dX5_set_4 (by decide) (fun q3 => ?_) (fun q3 => ?_)
  · replace h := if_t q3 h
    refine lv_aload_n hx hb dX5_set_10 rfl (lv_at hl 0 rfl) ?_
    refine r_get (v := .ref (a 1)) hx hb hts iX5 hown hK hP 0 (by decide) eX_0 rfl 0 (by decide) w11 rfl dX5_set_11 ?_
    refine lv_iload_n hx hb dX5_set_14 rfl (lv_at hl 1 rfl) ?_
    obtain ⟨q4, h⟩ := chk_ok h
    refine r_rows (i := p1) hx hb hK hP q4 dX5_set_15 ?_
    refine lv_astore (lv' := [(4, .ref (a (142 + 2 * (Int32.toNatClampNeg p1)))), (0, .ref (a 0)), (1, .int p1), (2, .int p2), (3, .int p3)]) hx hb dX5_set_16 hl (by decide) rfl (fun ls hl => ?_)
    refine lv_aload hx hb dX5_set_18 (lv_at hl 0 rfl) ?_
    refine r_get (v := .int (M (142 + 2 * (Int32.toNatClampNeg p1)) 1)) hx hb hts iX1 hown hK hP (142 + 2 * (Int32.toNatClampNeg p1)) (isRw_lt (rw_r _ (bIn_lt q4))) (eX_Row (rw_r _ (bIn_lt q4))) rfl 1 (by decide) w85 rfl dX5_set_20 ?_
    refine lv_if_eq (x := (M (142 + 2 * (Int32.toNatClampNeg p1)) 1)) (tgt := 32) hx hb dX5_set_23 (by decide) (fun q5 => ?_) (fun q5 => ?_)
    · replace h := if_t q5 h
      refine lv_aload hx hb dX5_set_32 (lv_at hl 0 rfl) ?_
      refine lv_iload_n hx hb dX5_set_34 rfl (lv_at hl 3 rfl) ?_
      refine lv_iconst (v := 1) hx hb dX5_set_35 (by decide) ?_
      obtain ⟨r6, e7, h⟩ := bdP_ok h
      refine r_callVi (As := [.int p2, .int 1]) (rest := []) (ws' := (wl 203 a (eX g a M))) (ok_X1_holds l g a hI (142 + 2 * (Int32.toNatClampNeg p1)) p2 1 M r6 (rw_r _ (bIn_lt q4)) e7) ⟨hx, hb, hml, hown, hts⟩ (cwV 2 hts gX5_set_X1_holds rfl rfl rfl (by decide +kernel) ⟨Nat.le_of_ble_eq_true rfl, Nat.le_of_ble_eq_true rfl⟩) hK (r_recv hK hP (142 + 2 * (Int32.toNatClampNeg p1)) (isRw_lt (rw_r _ (bIn_lt q4))) (eX_Row (rw_r _ (bIn_lt q4))) (show vwCl[1]? = some (RX1, TX1, 4) from rfl)) hS hP (fun _ hq => aA_mono hS.1 hq) (fun _ h _ => h) rfl hl.1 rfl (Nat.le_of_ble_eq_true rfl) dX5_set_36 ⟨Nat.zero_le _, Nat.zero_le _⟩ (fun H locs hP hS => ?_)
      refine lv_if_ne (x := r6) (tgt := 48) hx hb dX5_set_39 (by decide) (fun q8 => ?_) (fun q8 => ?_)
      · replace h := if_f q8 h
        refine lv_aload hx hb dX5_set_48 (lv_at hl 0 rfl) ?_
        refine r_get (v := .ref (a ((142 + 2 * (Int32.toNatClampNeg p1)) + 1))) hx hb hts iX1 hown hK hP (142 + 2 * (Int32.toNatClampNeg p1)) (isRw_lt (rw_r _ (bIn_lt q4))) (eX_Row (rw_r _ (bIn_lt q4))) rfl 0 (by decide) w93 rfl dX5_set_50 ?_
        refine lv_iload_n hx hb dX5_set_53 rfl (lv_at hl 3 rfl) ?_
        refine lv_aload hx hb dX5_set_54 (lv_at hl 0 rfl) ?_
        refine lv_iload_n hx hb dX5_set_56 rfl (lv_at hl 4 rfl) ?_
        obtain ⟨r9, e10, h⟩ := bdP_ok h
        refine r_callVi (As := [.int p3]) (rest := [.int p2, .ref (a ((142 + 2 * (Int32.toNatClampNeg p1)) + 1))]) (ws' := (wl 203 a (eX g a M))) (ok_X1_cut l g a hI (142 + 2 * (Int32.toNatClampNeg p1)) p3 M r9 (rw_r _ (bIn_lt q4)) e10) ⟨hx, hb, hml, hown, hts⟩ (cwV 1 hts gX5_set_X1_cut rfl rfl rfl (by decide +kernel) ⟨Nat.le_of_ble_eq_true rfl, Nat.le_of_ble_eq_true rfl⟩) hK (r_recv hK hP (142 + 2 * (Int32.toNatClampNeg p1)) (isRw_lt (rw_r _ (bIn_lt q4))) (eX_Row (rw_r _ (bIn_lt q4))) (show vwCl[1]? = some (RX1, TX1, 4) from rfl)) hS hP (fun _ hq => aA_mono hS.1 hq) (fun _ h _ => h) rfl hl.1 rfl (Nat.le_of_ble_eq_true rfl) dX5_set_57 ⟨Nat.zero_le _, Nat.zero_le _⟩ (fun H locs hP hS => ?_)
        obtain ⟨q11, h⟩ := chk_ok h
        refine r_iast (i := p2) (x := r9) (h := M ((142 + 2 * (Int32.toNatClampNeg p1)) + 1)) (f' := eX g a (mp M ((142 + 2 * (Int32.toNatClampNeg p1)) + 1) (Int32.toNatClampNeg p2) r9)) hx hb hK hI (fun _ h => aA_in h) hP hS ((142 + 2 * (Int32.toNatClampNeg p1)) + 1) (isRw_lt1 (rw_r _ (bIn_lt q4))) (eX_Ri (rw_r _ (bIn_lt q4))) q11 (eX_ua (fun _ => eX_Ri (rw_r _ (bIn_lt q4)))) dX5_set_60 (fun H locs hP hS => ?_)
        refine lv_aload_n hx hb dX5_set_61 rfl (lv_at hl 1 rfl) ?_
        refine lv_aload hx hb dX5_set_62 (lv_at hl 0 rfl) ?_
        refine r_get (v := .ref (a ((142 + 2 * (Int32.toNatClampNeg p1)) + 1))) hx hb hts iX1 hown hK hP (142 + 2 * (Int32.toNatClampNeg p1)) (isRw_lt (rw_r _ (bIn_lt q4))) (eX_Row (rw_r _ (bIn_lt q4))) rfl 0 (by decide) w93 rfl dX5_set_64 ?_
        refine lv_iload_n hx hb dX5_set_67 rfl (lv_at hl 3 rfl) ?_
        obtain ⟨q12, h⟩ := chk_ok h
        refine r_iald (i := p2) (h := (mp M ((142 + 2 * (Int32.toNatClampNeg p1)) + 1) (Int32.toNatClampNeg p2) r9) ((142 + 2 * (Int32.toNatClampNeg p1)) + 1)) hx hb hK hP ((142 + 2 * (Int32.toNatClampNeg p1)) + 1) (isRw_lt1 (rw_r _ (bIn_lt q4))) (eX_Ri (rw_r _ (bIn_lt q4))) q12 dX5_set_68 ?_
        obtain ⟨r13, M15, e14, h⟩ := bdI_ok h
        refine r_callVi (As := [.int ((mp M ((142 + 2 * (Int32.toNatClampNeg p1)) + 1) (Int32.toNatClampNeg p2) r9) ((142 + 2 * (Int32.toNatClampNeg p1)) + 1) (Int32.toNatClampNeg p2))]) (rest := []) (ws' := (wl 203 a (eX g a M15))) (ok_X5_fine l g a hI ((mp M ((142 + 2 * (Int32.toNatClampNeg p1)) + 1) (Int32.toNatClampNeg p2) r9) ((142 + 2 * (Int32.toNatClampNeg p1)) + 1) (Int32.toNatClampNeg p2)) (mp M ((142 + 2 * (Int32.toNatClampNeg p1)) + 1) (Int32.toNatClampNeg p2) r9) M15 r13 e14) ⟨hx, hb, hml, hown, hts⟩ (cwV 1 hts gX5_set_X5_fine rfl rfl rfl (by decide +kernel) ⟨Nat.le_of_ble_eq_true rfl, Nat.le_of_ble_eq_true rfl⟩) hK (r_recv hK hP 0 (by decide) eX_0 (show vwCl[5]? = some (RX5, TX5, 11) from rfl)) hS hP (fun _ hq => aA_mono hS.1 hq) (fun _ h _ => h) rfl hl.1 rfl (Nat.le_of_ble_eq_true rfl) dX5_set_69 ⟨Nat.zero_le _, Nat.zero_le _⟩ (fun H locs hP hS => ?_)
        rw [hQz]
        exact r_iret (v := r13) hx hb hr hlk hS ((Prod.mk.inj (Option.some.inj h)).2 ▸ hP) (Prod.mk.inj (Option.some.inj h)).1 dX5_set_72
      · replace h := if_t q8 h
        refine lv_aload_n hx hb dX5_set_42 rfl (lv_at hl 1 rfl) ?_
        refine lv_iconst (v := 2) hx hb dX5_set_43 (by decide) ?_
        obtain ⟨r16, M18, e17, h⟩ := bdI_ok h
        refine r_callVi (As := [.int 2]) (rest := []) (ws' := (wl 203 a (eX g a M18))) (ok_X5_found l g a hI 2 M M18 r16 e17) ⟨hx, hb, hml, hown, hts⟩ (cwV 1 hts gX5_set_X5_found rfl rfl rfl (by decide +kernel) ⟨Nat.le_of_ble_eq_true rfl, Nat.le_of_ble_eq_true rfl⟩) hK (r_recv hK hP 0 (by decide) eX_0 (show vwCl[5]? = some (RX5, TX5, 11) from rfl)) hS hP (fun _ hq => aA_mono hS.1 hq) (fun _ h _ => h) rfl hl.1 rfl (Nat.le_of_ble_eq_true rfl) dX5_set_44 ⟨Nat.zero_le _, Nat.zero_le _⟩ (fun H locs hP hS => ?_)
        rw [hQz]
        exact r_iret (v := r16) hx hb hr hlk hS ((Prod.mk.inj (Option.some.inj h)).2 ▸ hP) (Prod.mk.inj (Option.some.inj h)).1 dX5_set_47
    · replace h := if_f q5 h
      refine lv_aload_n hx hb dX5_set_26 rfl (lv_at hl 1 rfl) ?_
      refine lv_iconst (v := 1) hx hb dX5_set_27 (by decide) ?_
      obtain ⟨r19, M21, e20, h⟩ := bdI_ok h
      refine r_callVi (As := [.int 1]) (rest := []) (ws' := (wl 203 a (eX g a M21))) (ok_X5_found l g a hI 1 M M21 r19 e20) ⟨hx, hb, hml, hown, hts⟩ (cwV 1 hts gX5_set_X5_found rfl rfl rfl (by decide +kernel) ⟨Nat.le_of_ble_eq_true rfl, Nat.le_of_ble_eq_true rfl⟩) hK (r_recv hK hP 0 (by decide) eX_0 (show vwCl[5]? = some (RX5, TX5, 11) from rfl)) hS hP (fun _ hq => aA_mono hS.1 hq) (fun _ h _ => h) rfl hl.1 rfl (Nat.le_of_ble_eq_true rfl) dX5_set_28 ⟨Nat.zero_le _, Nat.zero_le _⟩ (fun H locs hP hS => ?_)
      rw [hQz]
      exact r_iret (v := r19) hx hb hr hlk hS ((Prod.mk.inj (Option.some.inj h)).2 ▸ hP) (Prod.mk.inj (Option.some.inj h)).1 dX5_set_31
  · replace h := if_f q3 h
    refine lv_ldc (v := (-1000001)) hx hb hown w73 dX5_set_7 ?_
    rw [hQz]
    exact r_iret (v := (-1000001)) hx hb hr hlk hS ((Prod.mk.inj (Option.some.inj h)).2 ▸ hP) (Prod.mk.inj (Option.some.inj h)).1 dX5_set_9
def rmX5_copy : Room := { frames := 3, cells := 0, slots := 0, locals := 102 }
set_option maxHeartbeats 4000000 in
set_option maxRecDepth 100000 in
theorem ok_X5_copy (l : Launch) (g : gT) (a : Nat → Nat) (hI : ij 203 a) (p1 : Int32) (p2 : Int32) (p3 : Int32) (p4 : Int32) (p5 : Int32) (M : Mem) (M' : Mem) (r : Int32) (h : fX5_copy p1 p2 p3 p4 p5 M = some (r, M')) : MI l yX5_copy wsX5_copy rmX5_copy g 203 a [.ref (a 0), .int p1, .int p2, .int p3, .int p4, .int p5] (wl 203 a (eX g a M)) (wl 203 a (eX g a M')) r := by
  refine MI_of (cc := cX5_copy) (maxL := 8) (rt := .int) (by decide) rfl (Nat.le_of_ble_eq_true rfl) ?_
  intro p e s m args below meth c ls hx hb hml hr hlk hts hown hK hP hl
  have hown : s.vm.findClass RX5 = some m.cls := hown
  have hl : lv_has ls 8 [(0, .ref (a 0)), (1, .int p1), (2, .int p2), (3, .int p3), (4, .int p4), (5, .int p5)] := hl
  have hS : va_S (aA 203 a s.heap.size) s.heap s.heap [] := va_S.rf
  have iX1 : ∀ w ∈ wsX10, w ∈ wsX5_copy := fun w h => List.mem_cons_of_mem _ (List.mem_append_right _ h)
  have iX5 : ∀ w ∈ wsX50, w ∈ wsX5_copy := fun w h => List.mem_cons_of_mem _ (List.mem_append_left _ (List.mem_append_right _ h))
  have w73 := hts (.constant RX5 73 (-1000001)) (by decide +kernel)
  have w11 := hts (.fieldLink RX5 11 "StepRiders" "rows" "[LStepRiders$Row;") (by decide +kernel)
  have w85 := hts (.fieldLink RX5 85 "StepRiders$Row" "missing" "Z") (by decide +kernel)
  have w99 := hts (.fieldLink RX5 99 "StepRiders$Row" "width" "I") (by decide +kernel)
  have w93 := hts (.fieldLink RX5 93 "StepRiders$Row" "items" "[I") (by decide +kernel)
  have w102 := hts (.methodLink RX5 102 arraycopyName) (by decide +kernel)
  have wnat := hts (.native arraycopyName) (by decide +kernel)
  have wstat := hts (.static arraycopyName) (by decide +kernel)
  have wini := hts (.initialized "java/lang/System") (by decide +kernel)
  obtain ⟨Qz, hQz⟩ : ∃ Qz : State → Prop, Qz = MQ below (qI g (wl 203 a (eX g a M')) r (aA 203 a s.heap.size)) args s 0 0 (aA 203 a s.heap.size) := ⟨_, rfl⟩
  rw [← hQz]
  unfold fX5_copy at h
  refine lv_iload_n hx hb dX5_copy_0 rfl (lv_at hl 1 rfl) ?_
  obtain ⟨r1, e2, h⟩ := bdP_ok h
  refine r_callSi (As := [.int p1]) (rest := []) (ws' := (wl 203 a (eX g a M))) (ok_X5_noRow l g p1 r1 e2) ⟨hx, hb, hml, hown, hts⟩ (cwS 1 hts gX5_copy_X5_noRow rfl rfl rfl (by decide +kernel) ⟨Nat.le_of_ble_eq_true rfl, Nat.le_of_ble_eq_true rfl⟩) hK hS nilP (P_A hS.1) (fun _ _ hk => wl_keep hP hk) rfl hl.1 rfl (Nat.le_of_ble_eq_true rfl) dX5_copy_1 ⟨Nat.zero_le _, Nat.zero_le _⟩ (fun H locs hP hS => ?_)
  refine lv_if_ne (x := r1) (tgt := 14) hx hb dX5_copy_4 (by decide) (fun q3 => ?_) (fun q3 => ?_)
  · replace h := if_f q3 h
    refine lv_ldc (v := (-1000001)) hx hb hown w73 dX5_copy_14 ?_
    rw [hQz]
    exact r_iret (v := (-1000001)) hx hb hr hlk hS ((Prod.mk.inj (Option.some.inj h)).2 ▸ hP) (Prod.mk.inj (Option.some.inj h)).1 dX5_copy_16
  · replace h := if_t q3 h
    refine lv_iload_n hx hb dX5_copy_7 rfl (lv_at hl 3 rfl) ?_
    obtain ⟨r4, e5, h⟩ := bdP_ok h
    refine r_callSi (As := [.int p3]) (rest := []) (ws' := (wl 203 a (eX g a M))) (ok_X5_noRow l g p3 r4 e5) ⟨hx, hb, hml, hown, hts⟩ (cwS 1 hts gX5_copy_X5_noRow rfl rfl rfl (by decide +kernel) ⟨Nat.le_of_ble_eq_true rfl, Nat.le_of_ble_eq_true rfl⟩) hK hS nilP (P_A hS.1) (fun _ _ hk => wl_keep hP hk) rfl hl.1 rfl (Nat.le_of_ble_eq_true rfl) dX5_copy_8 ⟨Nat.zero_le _, Nat.zero_le _⟩ (fun H locs hP hS => ?_)
    refine lv_if_eq (x := r4) (tgt := 17) hx hb dX5_copy_11 (by decide) (fun q6 => ?_) (fun q6 => ?_)
    · replace h := if_t q6 h
      refine lv_aload_n hx hb dX5_copy_17 rfl (lv_at hl 0 rfl) ?_
      refine r_get (v := .ref (a 1)) hx hb hts iX5 hown hK hP 0 (by decide) eX_0 rfl 0 (by decide) w11 rfl dX5_copy_18 ?_
      refine lv_iload_n hx hb dX5_copy_21 rfl (lv_at hl 1 rfl) ?_
      obtain ⟨q7, h⟩ := chk_ok h
      refine r_rows (i := p1) hx hb hK hP q7 dX5_copy_22 ?_
      refine lv_astore (lv' := [(6, .ref (a (142 + 2 * (Int32.toNatClampNeg p1)))), (0, .ref (a 0)), (1, .int p1), (2, .int p2), (3, .int p3), (4, .int p4), (5, .int p5)]) hx hb dX5_copy_23 hl (by decide) rfl (fun ls hl => ?_)
      refine lv_aload_n hx hb dX5_copy_25 rfl (lv_at hl 1 rfl) ?_
      refine r_get (v := .ref (a 1)) hx hb hts iX5 hown hK hP 0 (by decide) eX_0 rfl 0 (by decide) w11 rfl dX5_copy_26 ?_
      refine lv_iload_n hx hb dX5_copy_29 rfl (lv_at hl 4 rfl) ?_
      obtain ⟨q8, h⟩ := chk_ok h
      refine r_rows (i := p3) hx hb hK hP q8 dX5_copy_30 ?_
      refine lv_astore (lv' := [(7, .ref (a (142 + 2 * (Int32.toNatClampNeg p3)))), (6, .ref (a (142 + 2 * (Int32.toNatClampNeg p1)))), (0, .ref (a 0)), (1, .int p1), (2, .int p2), (3, .int p3), (4, .int p4), (5, .int p5)]) hx hb dX5_copy_31 hl (by decide) rfl (fun ls hl => ?_)
      refine lv_aload hx hb dX5_copy_33 (lv_at hl 1 rfl) ?_
      refine r_get (v := .int (M (142 + 2 * (Int32.toNatClampNeg p1)) 1)) hx hb hts iX1 hown hK hP (142 + 2 * (Int32.toNatClampNeg p1)) (isRw_lt (rw_r _ (bIn_lt q7))) (eX_Row (rw_r _ (bIn_lt q7))) rfl 1 (by decide) w85 rfl dX5_copy_35 ?_
      refine lv_if_ne (x := (M (142 + 2 * (Int32.toNatClampNeg p1)) 1)) (tgt := 49) hx hb dX5_copy_38 (by decide) (fun q9 => ?_) (fun q9 => ?_)
      · replace h := if_f q9 h
        refine lv_aload_n hx hb dX5_copy_49 rfl (lv_at hl 2 rfl) ?_
        refine lv_iconst (v := 1) hx hb dX5_copy_50 (by decide) ?_
        obtain ⟨r10, M12, e11, h⟩ := bdI_ok h
        refine r_callVi (As := [.int 1]) (rest := []) (ws' := (wl 203 a (eX g a M12))) (ok_X5_found l g a hI 1 M M12 r10 e11) ⟨hx, hb, hml, hown, hts⟩ (cwV 1 hts gX5_copy_X5_found rfl rfl rfl (by decide +kernel) ⟨Nat.le_of_ble_eq_true rfl, Nat.le_of_ble_eq_true rfl⟩) hK (r_recv hK hP 0 (by decide) eX_0 (show vwCl[5]? = some (RX5, TX5, 11) from rfl)) hS hP (fun _ hq => aA_mono hS.1 hq) (fun _ h _ => h) rfl hl.1 rfl (Nat.le_of_ble_eq_true rfl) dX5_copy_51 ⟨Nat.zero_le _, Nat.zero_le _⟩ (fun H locs hP hS => ?_)
        rw [hQz]
        exact r_iret (v := r10) hx hb hr hlk hS ((Prod.mk.inj (Option.some.inj h)).2 ▸ hP) (Prod.mk.inj (Option.some.inj h)).1 dX5_copy_54
      · replace h := if_t q9 h
        refine lv_aload hx hb dX5_copy_41 (lv_at hl 0 rfl) ?_
        refine r_get (v := .int (M (142 + 2 * (Int32.toNatClampNeg p3)) 1)) hx hb hts iX1 hown hK hP (142 + 2 * (Int32.toNatClampNeg p3)) (isRw_lt (rw_r _ (bIn_lt q8))) (eX_Row (rw_r _ (bIn_lt q8))) rfl 1 (by decide) w85 rfl dX5_copy_43 ?_
        refine lv_if_eq (x := (M (142 + 2 * (Int32.toNatClampNeg p3)) 1)) (tgt := 55) hx hb dX5_copy_46 (by decide) (fun q13 => ?_) (fun q13 => ?_)
        · replace h := if_t q13 h
          refine lv_aload hx hb dX5_copy_55 (lv_at hl 1 rfl) ?_
          refine r_get (v := .int (M (142 + 2 * (Int32.toNatClampNeg p1)) 2)) hx hb hts iX1 hown hK hP (142 + 2 * (Int32.toNatClampNeg p1)) (isRw_lt (rw_r _ (bIn_lt q7))) (eX_Row (rw_r _ (bIn_lt q7))) rfl 2 (by decide) w99 rfl dX5_copy_57 ?_
          refine lv_aload hx hb dX5_copy_60 (lv_at hl 0 rfl) ?_
          refine r_get (v := .int (M (142 + 2 * (Int32.toNatClampNeg p3)) 2)) hx hb hts iX1 hown hK hP (142 + 2 * (Int32.toNatClampNeg p3)) (isRw_lt (rw_r _ (bIn_lt q8))) (eX_Row (rw_r _ (bIn_lt q8))) rfl 2 (by decide) w99 rfl dX5_copy_62 ?_
          refine lv_icmp_eq (x := (M (142 + 2 * (Int32.toNatClampNeg p1)) 2)) (y := (M (142 + 2 * (Int32.toNatClampNeg p3)) 2)) (tgt := 74) hx hb dX5_copy_65 (by decide) (fun q14 => ?_) (fun q14 => ?_)
          · replace h := if_t q14 h
            refine lv_aload hx hb dX5_copy_74 (lv_at hl 1 rfl) ?_
            refine lv_iload_n hx hb dX5_copy_76 rfl (lv_at hl 4 rfl) ?_
            refine lv_iload hx hb dX5_copy_77 (lv_at hl 7 rfl) ?_
            obtain ⟨r15, e16, h⟩ := bdP_ok h
            refine r_callVi (As := [.int p2, .int p5]) (rest := []) (ws' := (wl 203 a (eX g a M))) (ok_X1_holds l g a hI (142 + 2 * (Int32.toNatClampNeg p1)) p2 p5 M r15 (rw_r _ (bIn_lt q7)) e16) ⟨hx, hb, hml, hown, hts⟩ (cwV 2 hts gX5_copy_X1_holds rfl rfl rfl (by decide +kernel) ⟨Nat.le_of_ble_eq_true rfl, Nat.le_of_ble_eq_true rfl⟩) hK (r_recv hK hP (142 + 2 * (Int32.toNatClampNeg p1)) (isRw_lt (rw_r _ (bIn_lt q7))) (eX_Row (rw_r _ (bIn_lt q7))) (show vwCl[1]? = some (RX1, TX1, 4) from rfl)) hS hP (fun _ hq => aA_mono hS.1 hq) (fun _ h _ => h) rfl hl.1 rfl (Nat.le_of_ble_eq_true rfl) dX5_copy_79 ⟨Nat.zero_le _, Nat.zero_le _⟩ (fun H locs hP hS => ?_)
            refine lv_if_eq (x := r15) (tgt := 97) hx hb dX5_copy_82 (by decide) (fun q17 => ?_) (fun q17 => ?_)
            · replace h := if_t q17 h
              refine lv_aload_n hx hb dX5_copy_97 rfl (lv_at hl 2 rfl) ?_
              refine lv_iconst (v := 2) hx hb dX5_copy_98 (by decide) ?_
              obtain ⟨r18, M20, e19, h⟩ := bdI_ok h
              refine r_callVi (As := [.int 2]) (rest := []) (ws' := (wl 203 a (eX g a M20))) (ok_X5_found l g a hI 2 M M20 r18 e19) ⟨hx, hb, hml, hown, hts⟩ (cwV 1 hts gX5_copy_X5_found rfl rfl rfl (by decide +kernel) ⟨Nat.le_of_ble_eq_true rfl, Nat.le_of_ble_eq_true rfl⟩) hK (r_recv hK hP 0 (by decide) eX_0 (show vwCl[5]? = some (RX5, TX5, 11) from rfl)) hS hP (fun _ hq => aA_mono hS.1 hq) (fun _ h _ => h) rfl hl.1 rfl (Nat.le_of_ble_eq_true rfl) dX5_copy_99 ⟨Nat.zero_le _, Nat.zero_le _⟩ (fun H locs hP hS => ?_)
              rw [hQz]
              exact r_iret (v := r18) hx hb hr hlk hS ((Prod.mk.inj (Option.some.inj h)).2 ▸ hP) (Prod.mk.inj (Option.some.inj h)).1 dX5_copy_102
            · replace h := if_f q17 h
              refine lv_aload hx hb dX5_copy_85 (lv_at hl 0 rfl) ?_
              refine lv_iload hx hb dX5_copy_87 (lv_at hl 6 rfl) ?_
              refine lv_iload hx hb dX5_copy_89 (lv_at hl 7 rfl) ?_
              obtain ⟨r21, e22, h⟩ := bdP_ok h
              refine r_callVi (As := [.int p4, .int p5]) (rest := []) (ws' := (wl 203 a (eX g a M))) (ok_X1_holds l g a hI (142 + 2 * (Int32.toNatClampNeg p3)) p4 p5 M r21 (rw_r _ (bIn_lt q8)) e22) ⟨hx, hb, hml, hown, hts⟩ (cwV 2 hts gX5_copy_X1_holds rfl rfl rfl (by decide +kernel) ⟨Nat.le_of_ble_eq_true rfl, Nat.le_of_ble_eq_true rfl⟩) hK (r_recv hK hP (142 + 2 * (Int32.toNatClampNeg p3)) (isRw_lt (rw_r _ (bIn_lt q8))) (eX_Row (rw_r _ (bIn_lt q8))) (show vwCl[1]? = some (RX1, TX1, 4) from rfl)) hS hP (fun _ hq => aA_mono hS.1 hq) (fun _ h _ => h) rfl hl.1 rfl (Nat.le_of_ble_eq_true rfl) dX5_copy_91 ⟨Nat.zero_le _, Nat.zero_le _⟩ (fun H locs hP hS => ?_)
              refine lv_if_ne (x := r21) (tgt := 103) hx hb dX5_copy_94 (by decide) (fun q23 => ?_) (fun q23 => ?_)
              · replace h := if_f q23 h
                refine lv_aload hx hb dX5_copy_103 (lv_at hl 1 rfl) ?_
                refine r_get (v := .ref (a ((142 + 2 * (Int32.toNatClampNeg p1)) + 1))) hx hb hts iX1 hown hK hP (142 + 2 * (Int32.toNatClampNeg p1)) (isRw_lt (rw_r _ (bIn_lt q7))) (eX_Row (rw_r _ (bIn_lt q7))) rfl 0 (by decide) w93 rfl dX5_copy_105 ?_
                refine lv_iload_n hx hb dX5_copy_108 rfl (lv_at hl 4 rfl) ?_
                refine lv_aload hx hb dX5_copy_109 (lv_at hl 0 rfl) ?_
                refine r_get (v := .ref (a ((142 + 2 * (Int32.toNatClampNeg p3)) + 1))) hx hb hts iX1 hown hK hP (142 + 2 * (Int32.toNatClampNeg p3)) (isRw_lt (rw_r _ (bIn_lt q8))) (eX_Row (rw_r _ (bIn_lt q8))) rfl 0 (by decide) w93 rfl dX5_copy_111 ?_
                refine lv_iload hx hb dX5_copy_114 (lv_at hl 6 rfl) ?_
                refine lv_iload hx hb dX5_copy_116 (lv_at hl 7 rfl) ?_
                obtain ⟨q24, h⟩ := chk_ok h
                refine r_copy (sp := p2) (dp := p4) (k := p5) (h := M ((142 + 2 * (Int32.toNatClampNeg p1)) + 1)) (h' := M ((142 + 2 * (Int32.toNatClampNeg p3)) + 1)) (f' := eX g a (va_up M ((142 + 2 * (Int32.toNatClampNeg p3)) + 1) (va_cpy (M ((142 + 2 * (Int32.toNatClampNeg p1)) + 1)) (M ((142 + 2 * (Int32.toNatClampNeg p3)) + 1)) (Int32.toNatClampNeg p2) (Int32.toNatClampNeg p4) (Int32.toNatClampNeg p5)))) hx hb (hml.trans hl.1.symm) hown w102 wnat wstat wini hK hI (fun _ h => aA_in h) hP hS ((142 + 2 * (Int32.toNatClampNeg p1)) + 1) ((142 + 2 * (Int32.toNatClampNeg p3)) + 1) (isRw_lt1 (rw_r _ (bIn_lt q7))) (isRw_lt1 (rw_r _ (bIn_lt q8))) (eX_Ri (rw_r _ (bIn_lt q7))) (eX_Ri (rw_r _ (bIn_lt q8))) q24 (eX_ua (fun _ => eX_Ri (rw_r _ (bIn_lt q8)))) (Nat.le_of_ble_eq_true rfl) (Nat.le_of_ble_eq_true rfl) dX5_copy_118 (fun H locs hP hS => ?_)
                refine lv_aload_n hx hb dX5_copy_121 rfl (lv_at hl 2 rfl) ?_
                refine lv_iload hx hb dX5_copy_122 (lv_at hl 7 rfl) ?_
                obtain ⟨r25, M27, e26, h⟩ := bdI_ok h
                refine r_callVi (As := [.int p5]) (rest := []) (ws' := (wl 203 a (eX g a M27))) (ok_X5_fine l g a hI p5 (va_up M ((142 + 2 * (Int32.toNatClampNeg p3)) + 1) (va_cpy (M ((142 + 2 * (Int32.toNatClampNeg p1)) + 1)) (M ((142 + 2 * (Int32.toNatClampNeg p3)) + 1)) (Int32.toNatClampNeg p2) (Int32.toNatClampNeg p4) (Int32.toNatClampNeg p5))) M27 r25 e26) ⟨hx, hb, hml, hown, hts⟩ (cwV 1 hts gX5_copy_X5_fine rfl rfl rfl (by decide +kernel) ⟨Nat.le_of_ble_eq_true rfl, Nat.le_of_ble_eq_true rfl⟩) hK (r_recv hK hP 0 (by decide) eX_0 (show vwCl[5]? = some (RX5, TX5, 11) from rfl)) hS hP (fun _ hq => aA_mono hS.1 hq) (fun _ h _ => h) rfl hl.1 rfl (Nat.le_of_ble_eq_true rfl) dX5_copy_124 ⟨Nat.zero_le _, Nat.zero_le _⟩ (fun H locs hP hS => ?_)
                rw [hQz]
                exact r_iret (v := r25) hx hb hr hlk hS ((Prod.mk.inj (Option.some.inj h)).2 ▸ hP) (Prod.mk.inj (Option.some.inj h)).1 dX5_copy_127
              · replace h := if_t q23 h
                refine lv_aload_n hx hb dX5_copy_97 rfl (lv_at hl 2 rfl) ?_
                refine lv_iconst (v := 2) hx hb dX5_copy_98 (by decide) ?_
                obtain ⟨r28, M30, e29, h⟩ := bdI_ok h
                refine r_callVi (As := [.int 2]) (rest := []) (ws' := (wl 203 a (eX g a M30))) (ok_X5_found l g a hI 2 M M30 r28 e29) ⟨hx, hb, hml, hown, hts⟩ (cwV 1 hts gX5_copy_X5_found rfl rfl rfl (by decide +kernel) ⟨Nat.le_of_ble_eq_true rfl, Nat.le_of_ble_eq_true rfl⟩) hK (r_recv hK hP 0 (by decide) eX_0 (show vwCl[5]? = some (RX5, TX5, 11) from rfl)) hS hP (fun _ hq => aA_mono hS.1 hq) (fun _ h _ => h) rfl hl.1 rfl (Nat.le_of_ble_eq_true rfl) dX5_copy_99 ⟨Nat.zero_le _, Nat.zero_le _⟩ (fun H locs hP hS => ?_)
                rw [hQz]
                exact r_iret (v := r28) hx hb hr hlk hS ((Prod.mk.inj (Option.some.inj h)).2 ▸ hP) (Prod.mk.inj (Option.some.inj h)).1 dX5_copy_102
          · replace h := if_f q14 h
            refine lv_aload_n hx hb dX5_copy_68 rfl (lv_at hl 2 rfl) ?_
            refine lv_iconst (v := 5) hx hb dX5_copy_69 (by decide) ?_
            obtain ⟨r31, M33, e32, h⟩ := bdI_ok h
            refine r_callVi (As := [.int 5]) (rest := []) (ws' := (wl 203 a (eX g a M33))) (ok_X5_found l g a hI 5 M M33 r31 e32) ⟨hx, hb, hml, hown, hts⟩ (cwV 1 hts gX5_copy_X5_found rfl rfl rfl (by decide +kernel) ⟨Nat.le_of_ble_eq_true rfl, Nat.le_of_ble_eq_true rfl⟩) hK (r_recv hK hP 0 (by decide) eX_0 (show vwCl[5]? = some (RX5, TX5, 11) from rfl)) hS hP (fun _ hq => aA_mono hS.1 hq) (fun _ h _ => h) rfl hl.1 rfl (Nat.le_of_ble_eq_true rfl) dX5_copy_70 ⟨Nat.zero_le _, Nat.zero_le _⟩ (fun H locs hP hS => ?_)
            rw [hQz]
            exact r_iret (v := r31) hx hb hr hlk hS ((Prod.mk.inj (Option.some.inj h)).2 ▸ hP) (Prod.mk.inj (Option.some.inj h)).1 dX5_copy_73
        · replace h := if_f q13 h
          refine lv_aload_n hx hb dX5_copy_49 rfl (lv_at hl 2 rfl) ?_
          refine lv_iconst (v := 1) hx hb dX5_copy_50 (by decide) ?_
          obtain ⟨r34, M36, e35, h⟩ := bdI_ok h
          refine r_callVi (As := [.int 1]) (rest := []) (ws' := (wl 203 a (eX g a M36))) (ok_X5_found l g a hI 1 M M36 r34 e35) ⟨hx, hb, hml, hown, hts⟩ (cwV 1 hts gX5_copy_X5_found rfl rfl rfl (by decide +kernel) ⟨Nat.le_of_ble_eq_true rfl, Nat.le_of_ble_eq_true rfl⟩) hK (r_recv hK hP 0 (by decide) eX_0 (show vwCl[5]? = some (RX5, TX5, 11) from rfl)) hS hP (fun _ hq => aA_mono hS.1 hq) (fun _ h _ => h) rfl hl.1 rfl (Nat.le_of_ble_eq_true rfl) dX5_copy_51 ⟨Nat.zero_le _, Nat.zero_le _⟩ (fun H locs hP hS => ?_)
          rw [hQz]
          exact r_iret (v := r34) hx hb hr hlk hS ((Prod.mk.inj (Option.some.inj h)).2 ▸ hP) (Prod.mk.inj (Option.some.inj h)).1 dX5_copy_54
    · replace h := if_f q6 h
      refine lv_ldc (v := (-1000001)) hx hb hown w73 dX5_copy_14 ?_
      rw [hQz]
      exact r_iret (v := (-1000001)) hx hb hr hlk hS ((Prod.mk.inj (Option.some.inj h)).2 ▸ hP) (Prod.mk.inj (Option.some.inj h)).1 dX5_copy_16
def rmX5_drop : Room := { frames := 3, cells := 0, slots := 0, locals := 102 }
set_option maxHeartbeats 4000000 in
set_option maxRecDepth 100000 in
theorem ok_X5_drop (l : Launch) (g : gT) (a : Nat → Nat) (hI : ij 203 a) (p1 : Int32) (M : Mem) (M' : Mem) (r : Int32) (h : fX5_drop p1 M = some (r, M')) : MI l yX5_drop wsX5_drop rmX5_drop g 203 a [.ref (a 0), .int p1] (wl 203 a (eX g a M)) (wl 203 a (eX g a M')) r := by
  refine MI_of (cc := cX5_drop) (maxL := 2) (rt := .int) (by decide) rfl (Nat.le_of_ble_eq_true rfl) ?_
  intro p e s m args below meth c ls hx hb hml hr hlk hts hown hK hP hl
  have hown : s.vm.findClass RX5 = some m.cls := hown
  have hl : lv_has ls 2 [(0, .ref (a 0)), (1, .int p1)] := hl
  have hS : va_S (aA 203 a s.heap.size) s.heap s.heap [] := va_S.rf
  have iX1 : ∀ w ∈ wsX10, w ∈ wsX5_drop := fun w h => List.mem_cons_of_mem _ (List.mem_append_right _ h)
  have iX5 : ∀ w ∈ wsX50, w ∈ wsX5_drop := fun w h => List.mem_cons_of_mem _ (List.mem_append_left _ (List.mem_append_right _ h))
  have w11 := hts (.fieldLink RX5 11 "StepRiders" "rows" "[LStepRiders$Row;") (by decide +kernel)
  have w85 := hts (.fieldLink RX5 85 "StepRiders$Row" "missing" "Z") (by decide +kernel)
  have w108 := hts (.fieldLink RX5 108 "StepRiders$Row" "length" "I") (by decide +kernel)
  have w73 := hts (.constant RX5 73 (-1000001)) (by decide +kernel)
  obtain ⟨Qz, hQz⟩ : ∃ Qz : State → Prop, Qz = MQ below (qI g (wl 203 a (eX g a M')) r (aA 203 a s.heap.size)) args s 0 0 (aA 203 a s.heap.size) := ⟨_, rfl⟩
  rw [← hQz]
  unfold fX5_drop at h
  refine lv_iload_n hx hb dX5_drop_0 rfl (lv_at hl 1 rfl) ?_
  obtain ⟨r1, e2, h⟩ := bdP_ok h
  refine r_callSi (As := [.int p1]) (rest := []) (ws' := (wl 203 a (eX g a M))) (ok_X5_noRow l g p1 r1 e2) ⟨hx, hb, hml, hown, hts⟩ (cwS 1 hts gX5_drop_X5_noRow rfl rfl rfl (by decide +kernel) ⟨Nat.le_of_ble_eq_true rfl, Nat.le_of_ble_eq_true rfl⟩) hK hS nilP (P_A hS.1) (fun _ _ hk => wl_keep hP hk) rfl hl.1 rfl (Nat.le_of_ble_eq_true rfl) dX5_drop_1 ⟨Nat.zero_le _, Nat.zero_le _⟩ (fun H locs hP hS => ?_)
  refine lv_if_eq (x := r1) (tgt := 10) hx hb dX5_drop_4 (by decide) (fun q3 => ?_) (fun q3 => ?_)
  · replace h := if_t q3 h
    refine lv_aload_n hx hb dX5_drop_10 rfl (lv_at hl 0 rfl) ?_
    refine r_get (v := .ref (a 1)) hx hb hts iX5 hown hK hP 0 (by decide) eX_0 rfl 0 (by decide) w11 rfl dX5_drop_11 ?_
    refine lv_iload_n hx hb dX5_drop_14 rfl (lv_at hl 1 rfl) ?_
    obtain ⟨q4, h⟩ := chk_ok h
    refine r_rows (i := p1) hx hb hK hP q4 dX5_drop_15 ?_
    refine r_get (v := .int (M (142 + 2 * (Int32.toNatClampNeg p1)) 1)) hx hb hts iX1 hown hK hP (142 + 2 * (Int32.toNatClampNeg p1)) (isRw_lt (rw_r _ (bIn_lt q4))) (eX_Row (rw_r _ (bIn_lt q4))) rfl 1 (by decide) w85 rfl dX5_drop_16 ?_
    refine lv_if_eq (x := (M (142 + 2 * (Int32.toNatClampNeg p1)) 1)) (tgt := 28) hx hb dX5_drop_19 (by decide) (fun q5 => ?_) (fun q5 => ?_)
    · replace h := if_t q5 h
      refine lv_aload_n hx hb dX5_drop_28 rfl (lv_at hl 0 rfl) ?_
      refine r_get (v := .ref (a 1)) hx hb hts iX5 hown hK hP 0 (by decide) eX_0 rfl 0 (by decide) w11 rfl dX5_drop_29 ?_
      refine lv_iload_n hx hb dX5_drop_32 rfl (lv_at hl 1 rfl) ?_
      obtain ⟨q6, h⟩ := chk_ok h
      refine r_rows (i := p1) hx hb hK hP q6 dX5_drop_33 ?_
      refine lv_iconst (v := 1) hx hb dX5_drop_34 (by decide) ?_
      refine r_put (v := .int 1) (ty := .boolean) (f' := eX g a (mp M (142 + 2 * (Int32.toNatClampNeg p1)) 1 1)) hx hb hts iX1 tyX1 tyX1_ok nmX1 hown hK hI (fun _ h => aA_in h) hP hS (142 + 2 * (Int32.toNatClampNeg p1)) (isRw_lt (rw_r _ (bIn_lt q6))) (eX_Row (rw_r _ (bIn_lt q6))) rfl 1 (by decide) w85 rfl (by decide +kernel) rfl rfl (Nat.le_of_ble_eq_true rfl) (eX_pRow1 (rw_r _ (bIn_lt q6))) dX5_drop_35 (fun H locs hP hS => ?_)
      refine lv_aload_n hx hb dX5_drop_38 rfl (lv_at hl 0 rfl) ?_
      refine lv_aload_n hx hb dX5_drop_39 rfl (lv_at hl 0 rfl) ?_
      refine r_get (v := .ref (a 1)) hx hb hts iX5 hown hK hP 0 (by decide) eX_0 rfl 0 (by decide) w11 rfl dX5_drop_40 ?_
      refine lv_iload_n hx hb dX5_drop_43 rfl (lv_at hl 1 rfl) ?_
      obtain ⟨q7, h⟩ := chk_ok h
      refine r_rows (i := p1) hx hb hK hP q7 dX5_drop_44 ?_
      refine r_get (v := .int ((mp M (142 + 2 * (Int32.toNatClampNeg p1)) 1 1) (142 + 2 * (Int32.toNatClampNeg p1)) 3)) hx hb hts iX1 hown hK hP (142 + 2 * (Int32.toNatClampNeg p1)) (isRw_lt (rw_r _ (bIn_lt q7))) (eX_Row (rw_r _ (bIn_lt q7))) rfl 3 (by decide) w108 rfl dX5_drop_45 ?_
      obtain ⟨r8, M10, e9, h⟩ := bdI_ok h
      refine r_callVi (As := [.int ((mp M (142 + 2 * (Int32.toNatClampNeg p1)) 1 1) (142 + 2 * (Int32.toNatClampNeg p1)) 3)]) (rest := []) (ws' := (wl 203 a (eX g a M10))) (ok_X5_fine l g a hI ((mp M (142 + 2 * (Int32.toNatClampNeg p1)) 1 1) (142 + 2 * (Int32.toNatClampNeg p1)) 3) (mp M (142 + 2 * (Int32.toNatClampNeg p1)) 1 1) M10 r8 e9) ⟨hx, hb, hml, hown, hts⟩ (cwV 1 hts gX5_drop_X5_fine rfl rfl rfl (by decide +kernel) ⟨Nat.le_of_ble_eq_true rfl, Nat.le_of_ble_eq_true rfl⟩) hK (r_recv hK hP 0 (by decide) eX_0 (show vwCl[5]? = some (RX5, TX5, 11) from rfl)) hS hP (fun _ hq => aA_mono hS.1 hq) (fun _ h _ => h) rfl hl.1 rfl (Nat.le_of_ble_eq_true rfl) dX5_drop_48 ⟨Nat.zero_le _, Nat.zero_le _⟩ (fun H locs hP hS => ?_)
      rw [hQz]
      exact r_iret (v := r8) hx hb hr hlk hS ((Prod.mk.inj (Option.some.inj h)).2 ▸ hP) (Prod.mk.inj (Option.some.inj h)).1 dX5_drop_51
    · replace h := if_f q5 h
      refine lv_aload_n hx hb dX5_drop_22 rfl (lv_at hl 0 rfl) ?_
      refine lv_iconst (v := 1) hx hb dX5_drop_23 (by decide) ?_
      obtain ⟨r11, M13, e12, h⟩ := bdI_ok h
      refine r_callVi (As := [.int 1]) (rest := []) (ws' := (wl 203 a (eX g a M13))) (ok_X5_found l g a hI 1 M M13 r11 e12) ⟨hx, hb, hml, hown, hts⟩ (cwV 1 hts gX5_drop_X5_found rfl rfl rfl (by decide +kernel) ⟨Nat.le_of_ble_eq_true rfl, Nat.le_of_ble_eq_true rfl⟩) hK (r_recv hK hP 0 (by decide) eX_0 (show vwCl[5]? = some (RX5, TX5, 11) from rfl)) hS hP (fun _ hq => aA_mono hS.1 hq) (fun _ h _ => h) rfl hl.1 rfl (Nat.le_of_ble_eq_true rfl) dX5_drop_24 ⟨Nat.zero_le _, Nat.zero_le _⟩ (fun H locs hP hS => ?_)
      rw [hQz]
      exact r_iret (v := r11) hx hb hr hlk hS ((Prod.mk.inj (Option.some.inj h)).2 ▸ hP) (Prod.mk.inj (Option.some.inj h)).1 dX5_drop_27
  · replace h := if_f q3 h
    refine lv_ldc (v := (-1000001)) hx hb hown w73 dX5_drop_7 ?_
    rw [hQz]
    exact r_iret (v := (-1000001)) hx hb hr hlk hS ((Prod.mk.inj (Option.some.inj h)).2 ▸ hP) (Prod.mk.inj (Option.some.inj h)).1 dX5_drop_9
def rmX5_feed : Room := { frames := 2, cells := 0, slots := 0, locals := 82 }
set_option maxHeartbeats 4000000 in
set_option maxRecDepth 100000 in
theorem ok_X5_feed (l : Launch) (g : gT) (a : Nat → Nat) (hI : ij 203 a) (p1 : Int32) (M : Mem) (M' : Mem) (r : Int32) (h : fX5_feed p1 M = some (r, M')) : MI l yX5_feed wsX5_feed rmX5_feed g 203 a [.ref (a 0), .int p1] (wl 203 a (eX g a M)) (wl 203 a (eX g a M')) r := by
  refine MI_of (cc := cX5_feed) (maxL := 2) (rt := .int) (by decide) rfl (Nat.le_of_ble_eq_true rfl) ?_
  intro p e s m args below meth c ls hx hb hml hr hlk hts hown hK hP hl
  have hown : s.vm.findClass RX5 = some m.cls := hown
  have hl : lv_has ls 2 [(0, .ref (a 0)), (1, .int p1)] := hl
  have hS : va_S (aA 203 a s.heap.size) s.heap s.heap [] := va_S.rf
  have iX3 : ∀ w ∈ wsX30, w ∈ wsX5_feed := fun w h => List.mem_cons_of_mem _ (List.mem_append_right _ h)
  have iX5 : ∀ w ∈ wsX50, w ∈ wsX5_feed := fun w h => List.mem_cons_of_mem _ (List.mem_append_left _ (List.mem_append_right _ h))
  have w18 := hts (.fieldLink RX5 18 "StepRiders" "tape" "LStepRiders$Tape;") (by decide +kernel)
  have w111 := hts (.fieldLink RX5 111 "StepRiders$Tape" "length" "I") (by decide +kernel)
  have w112 := hts (.constant RX5 112 (-1000003)) (by decide +kernel)
  have w73 := hts (.constant RX5 73 (-1000001)) (by decide +kernel)
  obtain ⟨Qz, hQz⟩ : ∃ Qz : State → Prop, Qz = MQ below (qI g (wl 203 a (eX g a M')) r (aA 203 a s.heap.size)) args s 0 0 (aA 203 a s.heap.size) := ⟨_, rfl⟩
  rw [← hQz]
  unfold fX5_feed at h
  refine lv_iload_n hx hb dX5_feed_0 rfl (lv_at hl 1 rfl) ?_
  refine lv_iconst (v := 0) hx hb dX5_feed_1 (by decide) ?_
  refine lv_sipush (v := 255) hx hb dX5_feed_2 (by decide) ?_
  obtain ⟨r1, e2, h⟩ := bdP_ok h
  refine r_callSi (As := [.int p1, .int 0, .int 255]) (rest := []) (ws' := (wl 203 a (eX g a M))) (ok_X5_outside l g p1 0 255 r1 e2) ⟨hx, hb, hml, hown, hts⟩ (cwS 3 hts gX5_feed_X5_outside rfl rfl rfl (by decide +kernel) ⟨Nat.le_of_ble_eq_true rfl, Nat.le_of_ble_eq_true rfl⟩) hK hS nilP (P_A hS.1) (fun _ _ hk => wl_keep hP hk) rfl hl.1 rfl (Nat.le_of_ble_eq_true rfl) dX5_feed_5 ⟨Nat.zero_le _, Nat.zero_le _⟩ (fun H locs hP hS => ?_)
  refine lv_if_eq (x := r1) (tgt := 14) hx hb dX5_feed_8 (by decide) (fun q3 => ?_) (fun q3 => ?_)
  · replace h := if_t q3 h
    refine lv_aload_n hx hb dX5_feed_14 rfl (lv_at hl 0 rfl) ?_
    refine r_get (v := .ref (a 2)) hx hb hts iX5 hown hK hP 0 (by decide) eX_0 rfl 1 (by decide) w18 rfl dX5_feed_15 ?_
    refine r_get (v := .int (M 2 1)) hx hb hts iX3 hown hK hP 2 (by decide) eX_2 rfl 1 (by decide) w111 rfl dX5_feed_18 ?_
    refine lv_bipush (v := 90) hx hb dX5_feed_21 (by decide) ?_
    refine lv_icmp_lt (x := (M 2 1)) (y := 90) (tgt := 29) hx hb dX5_feed_23 (by decide) (fun q4 => ?_) (fun q4 => ?_)
    · replace h := if_t q4 h
      refine lv_aload_n hx hb dX5_feed_29 rfl (lv_at hl 0 rfl) ?_
      refine r_get (v := .ref (a 2)) hx hb hts iX5 hown hK hP 0 (by decide) eX_0 rfl 1 (by decide) w18 rfl dX5_feed_30 ?_
      refine lv_iload_n hx hb dX5_feed_33 rfl (lv_at hl 1 rfl) ?_
      obtain ⟨M7, e6, h⟩ := bdV_ok h
      refine r_callVv (As := [.int p1]) (rest := []) (ws' := (wl 203 a (eX g a M7))) (ok_X3_append l g a hI p1 M M7 e6) ⟨hx, hb, hml, hown, hts⟩ (cwV 1 hts gX5_feed_X3_append rfl rfl rfl (by decide +kernel) ⟨Nat.le_of_ble_eq_true rfl, Nat.le_of_ble_eq_true rfl⟩) hK (r_recv hK hP 2 (by decide) eX_2 (show vwCl[3]? = some (RX3, TX3, 3) from rfl)) hS hP (fun _ hq => aA_mono hS.1 hq) (fun _ h _ => h) rfl hl.1 rfl (Nat.le_of_ble_eq_true rfl) dX5_feed_34 ⟨Nat.zero_le _, Nat.zero_le _⟩ (fun H locs hP hS => ?_)
      refine lv_aload_n hx hb dX5_feed_37 rfl (lv_at hl 0 rfl) ?_
      refine r_get (v := .ref (a 2)) hx hb hts iX5 hown hK hP 0 (by decide) eX_0 rfl 1 (by decide) w18 rfl dX5_feed_38 ?_
      refine r_get (v := .int (M7 2 1)) hx hb hts iX3 hown hK hP 2 (by decide) eX_2 rfl 1 (by decide) w111 rfl dX5_feed_41 ?_
      rw [hQz]
      exact r_iret (v := (M7 2 1)) hx hb hr hlk hS ((Prod.mk.inj (Option.some.inj h)).2 ▸ hP) (Prod.mk.inj (Option.some.inj h)).1 dX5_feed_44
    · replace h := if_f q4 h
      refine lv_ldc (v := (-1000003)) hx hb hown w112 dX5_feed_26 ?_
      rw [hQz]
      exact r_iret (v := (-1000003)) hx hb hr hlk hS ((Prod.mk.inj (Option.some.inj h)).2 ▸ hP) (Prod.mk.inj (Option.some.inj h)).1 dX5_feed_28
  · replace h := if_f q3 h
    refine lv_ldc (v := (-1000001)) hx hb hown w73 dX5_feed_11 ?_
    rw [hQz]
    exact r_iret (v := (-1000001)) hx hb hr hlk hS ((Prod.mk.inj (Option.some.inj h)).2 ▸ hP) (Prod.mk.inj (Option.some.inj h)).1 dX5_feed_13
def rmX5_stair : Room := { frames := 6, cells := 0, slots := 0, locals := 178 }
set_option maxHeartbeats 4000000 in
set_option maxRecDepth 100000 in
theorem ok_X5_stair (l : Launch) (g : gT) (a : Nat → Nat) (hI : ij 203 a) (M : Mem) (M' : Mem) (r : Int32) (h : fX5_stair M = some (r, M')) : MI l yX5_stair wsX5_stair rmX5_stair g 203 a [.ref (a 0)] (wl 203 a (eX g a M)) (wl 203 a (eX g a M')) r := by
  refine MI_of (cc := cX5_stair) (maxL := 2) (rt := .int) (by decide) rfl (Nat.le_of_ble_eq_true rfl) ?_
  intro p e s m args below meth c ls hx hb hml hr hlk hts hown hK hP hl
  have hown : s.vm.findClass RX5 = some m.cls := hown
  have hl : lv_has ls 2 [(0, .ref (a 0))] := hl
  have hS : va_S (aA 203 a s.heap.size) s.heap s.heap [] := va_S.rf
  have iX2 : ∀ w ∈ wsX20, w ∈ wsX5_stair := fun w h => List.mem_cons_of_mem _ (List.mem_append_left _ (List.mem_append_right _ h))
  have iX3 : ∀ w ∈ wsX30, w ∈ wsX5_stair := fun w h => List.mem_cons_of_mem _ (List.mem_append_left _ (List.mem_append_left _ (List.mem_append_right _ h)))
  have iX5 : ∀ w ∈ wsX50, w ∈ wsX5_stair := fun w h => List.mem_cons_of_mem _ (List.mem_append_left _ (List.mem_append_left _ (List.mem_append_left _ (List.mem_append_right _ h))))
  have w18 := hts (.fieldLink RX5 18 "StepRiders" "tape" "LStepRiders$Tape;") (by decide +kernel)
  have w47 := hts (.fieldLink RX5 47 "StepRiders" "trial" "LStepRiders$Stair;") (by decide +kernel)
  have w111 := hts (.fieldLink RX5 111 "StepRiders$Tape" "length" "I") (by decide +kernel)
  have w121 := hts (.constant RX5 121 (-1000000)) (by decide +kernel)
  have w25 := hts (.fieldLink RX5 25 "StepRiders" "now" "LStepRiders$Stair;") (by decide +kernel)
  have w32 := hts (.fieldLink RX5 32 "StepRiders" "acts" "LStepRiders$Acts;") (by decide +kernel)
  have w130 := hts (.fieldLink RX5 130 "StepRiders$Stair" "riders" "I") (by decide +kernel)
  have w122 := hts (.constant RX5 122 (-1000100)) (by decide +kernel)
  obtain ⟨Qz, hQz⟩ : ∃ Qz : State → Prop, Qz = MQ below (qI g (wl 203 a (eX g a M')) r (aA 203 a s.heap.size)) args s 0 0 (aA 203 a s.heap.size) := ⟨_, rfl⟩
  rw [← hQz]
  unfold fX5_stair at h
  refine lv_aload_n hx hb dX5_stair_0 rfl (lv_at hl 0 rfl) ?_
  refine r_get (v := .ref (a 2)) hx hb hts iX5 hown hK hP 0 (by decide) eX_0 rfl 1 (by decide) w18 rfl dX5_stair_1 ?_
  refine lv_aload_n hx hb dX5_stair_4 rfl (lv_at hl 0 rfl) ?_
  refine r_get (v := .ref (a 134)) hx hb hts iX5 hown hK hP 0 (by decide) eX_0 rfl 6 (by decide) w47 rfl dX5_stair_5 ?_
  obtain ⟨r1, M3, e2, h⟩ := bdI_ok h
  refine r_callVi (As := [.ref (a 134)]) (rest := []) (ws' := (wl 203 a (eX g a M3))) (ok_X3_readInto l g a hI M M3 r1 e2) ⟨hx, hb, hml, hown, hts⟩ (cwV 1 hts gX5_stair_X3_readInto rfl rfl rfl (by decide +kernel) ⟨Nat.le_of_ble_eq_true rfl, Nat.le_of_ble_eq_true rfl⟩) hK (r_recv hK hP 2 (by decide) eX_2 (show vwCl[3]? = some (RX3, TX3, 3) from rfl)) hS hP (fun _ hq => aA_mono hS.1 hq) (fun _ h _ => h) rfl hl.1 rfl (Nat.le_of_ble_eq_true rfl) dX5_stair_8 ⟨Nat.zero_le _, Nat.zero_le _⟩ (fun H locs hP hS => ?_)
  refine lv_istore_n (lv' := [(1, .int r1), (0, .ref (a 0))]) hx hb dX5_stair_11 rfl hl (by decide) rfl (fun ls hl => ?_)
  refine lv_aload_n hx hb dX5_stair_12 rfl (lv_at hl 1 rfl) ?_
  refine r_get (v := .ref (a 2)) hx hb hts iX5 hown hK hP 0 (by decide) eX_0 rfl 1 (by decide) w18 rfl dX5_stair_13 ?_
  refine lv_iconst (v := 0) hx hb dX5_stair_16 (by decide) ?_
  refine r_put (v := .int 0) (ty := .int) (f' := eX g a (mp M3 2 1 0)) hx hb hts iX3 tyX3 tyX3_ok nmX3 hown hK hI (fun _ h => aA_in h) hP hS 2 (by decide) eX_2 rfl 1 (by decide) w111 rfl (by decide +kernel) rfl rfl (Nat.le_of_ble_eq_true rfl) eX_pTape1 dX5_stair_17 (fun H locs hP hS => ?_)
  refine lv_iload_n hx hb dX5_stair_20 rfl (lv_at hl 0 rfl) ?_
  refine lv_ldc (v := (-1000000)) hx hb hown w121 dX5_stair_21 ?_
  refine lv_icmp_eq (x := r1) (y := (-1000000)) (tgt := 31) hx hb dX5_stair_23 (by decide) (fun q4 => ?_) (fun q4 => ?_)
  · replace h := if_t q4 h
    refine lv_aload_n hx hb dX5_stair_31 rfl (lv_at hl 1 rfl) ?_
    refine r_get (v := .ref (a 4)) hx hb hts iX5 hown hK hP 0 (by decide) eX_0 rfl 2 (by decide) w25 rfl dX5_stair_32 ?_
    refine lv_aload_n hx hb dX5_stair_35 rfl (lv_at hl 1 rfl) ?_
    refine r_get (v := .ref (a 134)) hx hb hts iX5 hown hK hP 0 (by decide) eX_0 rfl 6 (by decide) w47 rfl dX5_stair_36 ?_
    obtain ⟨M7, e6, h⟩ := bdV_ok h
    refine r_callVv (As := [.ref (a 134)]) (rest := []) (ws' := (wl 203 a (eX g a M7))) (ok_X2_become l g a hI 4 134 (mp M3 2 1 0) M7 (by decide) (by decide) e6) ⟨hx, hb, hml, hown, hts⟩ (cwV 1 hts gX5_stair_X2_become rfl rfl rfl (by decide +kernel) ⟨Nat.le_of_ble_eq_true rfl, Nat.le_of_ble_eq_true rfl⟩) hK (r_recv hK hP 4 (isSt_lt (c := 4) (by decide) 0 (by decide)) (eX_Stair (c := 4) (by decide)) (show vwCl[2]? = some (RX2, TX2, 8) from rfl)) hS hP (fun _ hq => aA_mono hS.1 hq) (fun _ h _ => h) rfl hl.1 rfl (Nat.le_of_ble_eq_true rfl) dX5_stair_39 ⟨Nat.zero_le _, Nat.zero_le _⟩ (fun H locs hP hS => ?_)
    refine lv_aload_n hx hb dX5_stair_42 rfl (lv_at hl 1 rfl) ?_
    refine r_get (v := .ref (a 9)) hx hb hts iX5 hown hK hP 0 (by decide) eX_0 rfl 3 (by decide) w32 rfl dX5_stair_43 ?_
    obtain ⟨M10, e9, h⟩ := bdV_ok h
    refine r_callVv (As := []) (rest := []) (ws' := (wl 203 a (eX g a M10))) (ok_X0_forgetAll l g a hI M7 M10 e9) ⟨hx, hb, hml, hown, hts⟩ (cwV 0 hts gX5_stair_X0_forgetAll rfl rfl rfl (by decide +kernel) ⟨Nat.le_of_ble_eq_true rfl, Nat.le_of_ble_eq_true rfl⟩) hK (r_recv hK hP 9 (by decide) eX_9 (show vwCl[0]? = some (RX0, TX0, 3) from rfl)) hS hP (fun _ hq => aA_mono hS.1 hq) (fun _ h _ => h) rfl hl.1 rfl (Nat.le_of_ble_eq_true rfl) dX5_stair_46 ⟨Nat.zero_le _, Nat.zero_le _⟩ (fun H locs hP hS => ?_)
    refine lv_aload_n hx hb dX5_stair_49 rfl (lv_at hl 1 rfl) ?_
    refine r_get (v := .ref (a 4)) hx hb hts iX5 hown hK hP 0 (by decide) eX_0 rfl 2 (by decide) w25 rfl dX5_stair_50 ?_
    refine r_get (v := .int (M10 4 3)) hx hb hts iX2 hown hK hP 4 (isSt_lt (c := 4) (by decide) 0 (by decide)) (eX_Stair (c := 4) (by decide)) rfl 3 (by decide) w130 rfl dX5_stair_53 ?_
    rw [hQz]
    exact r_iret (v := (M10 4 3)) hx hb hr hlk hS ((Prod.mk.inj (Option.some.inj h)).2 ▸ hP) (Prod.mk.inj (Option.some.inj h)).1 dX5_stair_56
  · replace h := if_f q4 h
    refine lv_ldc (v := (-1000100)) hx hb hown w122 dX5_stair_26 ?_
    refine lv_iload_n hx hb dX5_stair_28 rfl (lv_at hl 0 rfl) ?_
    refine lv_isub (x := (-1000100)) (y := r1) hx hb dX5_stair_29 ?_
    rw [hQz]
    exact r_iret (v := ((-1000100) - r1)) hx hb hr hlk hS ((Prod.mk.inj (Option.some.inj h)).2 ▸ hP) (Prod.mk.inj (Option.some.inj h)).1 dX5_stair_30
def rmX5_fault : Room := { frames := 1, cells := 0, slots := 0, locals := 60 }
set_option maxHeartbeats 4000000 in
set_option maxRecDepth 100000 in
theorem ok_X5_fault (l : Launch) (g : gT) (a : Nat → Nat) (hI : ij 203 a) (M : Mem) (r : Int32) (h : fX5_fault M = some r) : MI l yX5_fault wsX5_fault rmX5_fault g 203 a [.ref (a 0)] (wl 203 a (eX g a M)) (wl 203 a (eX g a M)) r := by
  refine MI_of (cc := cX5_fault) (maxL := 1) (rt := .int) (by decide) rfl (Nat.le_of_ble_eq_true rfl) ?_
  intro p e s m args below meth c ls hx hb hml hr hlk hts hown hK hP hl
  have hown : s.vm.findClass RX5 = some m.cls := hown
  have hl : lv_has ls 1 [(0, .ref (a 0))] := hl
  have hS : va_S (aA 203 a s.heap.size) s.heap s.heap [] := va_S.rf
  have iX3 : ∀ w ∈ wsX30, w ∈ wsX5_fault := fun w h => List.mem_cons_of_mem _ (List.mem_append_right _ h)
  have iX5 : ∀ w ∈ wsX50, w ∈ wsX5_fault := fun w h => List.mem_cons_of_mem _ (List.mem_append_left _ (List.mem_append_right _ h))
  have w18 := hts (.fieldLink RX5 18 "StepRiders" "tape" "LStepRiders$Tape;") (by decide +kernel)
  have w133 := hts (.fieldLink RX5 133 "StepRiders$Tape" "fault" "I") (by decide +kernel)
  obtain ⟨Qz, hQz⟩ : ∃ Qz : State → Prop, Qz = MQ below (qI g (wl 203 a (eX g a M)) r (aA 203 a s.heap.size)) args s 0 0 (aA 203 a s.heap.size) := ⟨_, rfl⟩
  rw [← hQz]
  unfold fX5_fault at h
  refine lv_aload_n hx hb dX5_fault_0 rfl (lv_at hl 0 rfl) ?_
  refine r_get (v := .ref (a 2)) hx hb hts iX5 hown hK hP 0 (by decide) eX_0 rfl 1 (by decide) w18 rfl dX5_fault_1 ?_
  refine r_get (v := .int (M 2 2)) hx hb hts iX3 hown hK hP 2 (by decide) eX_2 rfl 2 (by decide) w133 rfl dX5_fault_4 ?_
  rw [hQz]
  exact r_iret (v := (M 2 2)) hx hb hr hlk hS hP (Option.some.inj h) dX5_fault_7
def rmX5_noStair : Room := { frames := 1, cells := 0, slots := 0, locals := 60 }
set_option maxHeartbeats 4000000 in
set_option maxRecDepth 100000 in
theorem ok_X5_noStair (l : Launch) (g : gT) (a : Nat → Nat) (hI : ij 203 a) (M : Mem) (r : Int32) (h : fX5_noStair M = some r) : MI l yX5_noStair wsX5_noStair rmX5_noStair g 203 a [.ref (a 0)] (wl 203 a (eX g a M)) (wl 203 a (eX g a M)) r := by
  refine MI_of (cc := cX5_noStair) (maxL := 1) (rt := .boolean) (by decide) rfl (Nat.le_of_ble_eq_true rfl) ?_
  intro p e s m args below meth c ls hx hb hml hr hlk hts hown hK hP hl
  have hown : s.vm.findClass RX5 = some m.cls := hown
  have hl : lv_has ls 1 [(0, .ref (a 0))] := hl
  have hS : va_S (aA 203 a s.heap.size) s.heap s.heap [] := va_S.rf
  have iX2 : ∀ w ∈ wsX20, w ∈ wsX5_noStair := fun w h => List.mem_cons_of_mem _ (List.mem_append_right _ h)
  have iX5 : ∀ w ∈ wsX50, w ∈ wsX5_noStair := fun w h => List.mem_cons_of_mem _ (List.mem_append_left _ (List.mem_append_right _ h))
  have w25 := hts (.fieldLink RX5 25 "StepRiders" "now" "LStepRiders$Stair;") (by decide +kernel)
  have w130 := hts (.fieldLink RX5 130 "StepRiders$Stair" "riders" "I") (by decide +kernel)
  obtain ⟨Qz, hQz⟩ : ∃ Qz : State → Prop, Qz = MQ below (qI g (wl 203 a (eX g a M)) r (aA 203 a s.heap.size)) args s 0 0 (aA 203 a s.heap.size) := ⟨_, rfl⟩
  rw [← hQz]
  unfold fX5_noStair at h
  refine lv_aload_n hx hb dX5_noStair_0 rfl (lv_at hl 0 rfl) ?_
  refine r_get (v := .ref (a 4)) hx hb hts iX5 hown hK hP 0 (by decide) eX_0 rfl 2 (by decide) w25 rfl dX5_noStair_1 ?_
  refine r_get (v := .int (M 4 3)) hx hb hts iX2 hown hK hP 4 (isSt_lt (c := 4) (by decide) 0 (by decide)) (eX_Stair (c := 4) (by decide)) rfl 3 (by decide) w130 rfl dX5_noStair_4 ?_
  refine lv_if_ne (x := (M 4 3)) (tgt := 14) hx hb dX5_noStair_7 (by decide) (fun q1 => ?_) (fun q1 => ?_)
  · replace h := if_f q1 h
    refine lv_iconst (v := 0) hx hb dX5_noStair_14 (by decide) ?_
    rw [hQz]
    exact r_zret (v := 0) hx hb hr hlk hS hP (Option.some.inj h) (by decide) dX5_noStair_15
  · replace h := if_t q1 h
    refine lv_iconst (v := 1) hx hb dX5_noStair_10 (by decide) ?_
    refine lv_goto (tgt := 15) hx hb dX5_noStair_11 (by decide) ?_
    rw [hQz]
    exact r_zret (v := 1) hx hb hr hlk hS hP (Option.some.inj h) (by decide) dX5_noStair_15
def rmX5_ticks : Room := { frames := 5, cells := 0, slots := 0, locals := 152 }
set_option maxHeartbeats 4000000 in
set_option maxRecDepth 100000 in
theorem ok_X5_ticks (l : Launch) (g : gT) (a : Nat → Nat) (hI : ij 203 a) (p1 : Int32) (M : Mem) (M' : Mem) (r : Int32) (h : fX5_ticks p1 M = some (r, M')) : MI l yX5_ticks wsX5_ticks rmX5_ticks g 203 a [.ref (a 0), .int p1] (wl 203 a (eX g a M)) (wl 203 a (eX g a M')) r := by
  refine MI_of (cc := cX5_ticks) (maxL := 3) (rt := .int) (by decide) rfl (Nat.le_of_ble_eq_true rfl) ?_
  intro p e s m args below meth c ls hx hb hml hr hlk hts hown hK hP hl
  have hown : s.vm.findClass RX5 = some m.cls := hown
  have hl : lv_has ls 3 [(0, .ref (a 0)), (1, .int p1)] := hl
  have hS : va_S (aA 203 a s.heap.size) s.heap s.heap [] := va_S.rf
  have iX2 : ∀ w ∈ wsX20, w ∈ wsX5_ticks := fun w h => List.mem_cons_of_mem _ (List.mem_append_left _ (List.mem_append_right _ h))
  have iX5 : ∀ w ∈ wsX50, w ∈ wsX5_ticks := fun w h => List.mem_cons_of_mem _ (List.mem_append_left _ (List.mem_append_left _ (List.mem_append_right _ h)))
  have w25 := hts (.fieldLink RX5 25 "StepRiders" "now" "LStepRiders$Stair;") (by decide +kernel)
  have w32 := hts (.fieldLink RX5 32 "StepRiders" "acts" "LStepRiders$Acts;") (by decide +kernel)
  have w141 := hts (.fieldLink RX5 141 "StepRiders$Stair" "tick" "I") (by decide +kernel)
  have w112 := hts (.constant RX5 112 (-1000003)) (by decide +kernel)
  have w73 := hts (.constant RX5 73 (-1000001)) (by decide +kernel)
  have w140 := hts (.constant RX5 140 (-1000002)) (by decide +kernel)
  obtain ⟨Qz, hQz⟩ : ∃ Qz : State → Prop, Qz = MQ below (qI g (wl 203 a (eX g a M')) r (aA 203 a s.heap.size)) args s 0 0 (aA 203 a s.heap.size) := ⟨_, rfl⟩
  rw [← hQz]
  have B43 : ∀ (k43 : Int32 → Mem → Option (Int32 × Mem)) (C43 : ∀ (x2 : Int32) (M : Mem) (H : Heap) (locs : List Loc) (ls : Array Slot), k43 x2 M = some (r, M') → va_P g.1 vwCl (wl 203 a (eX g a M)) H → va_S (aA 203 a s.heap.size) s.heap H locs → lv_has ls 3 [(0, .ref (a 0)), (1, .int p1), (2, .int x2)] → W p l e rmX5_ticks s m args below meth c H locs 0 0 Qz (F0 m 43 ls [])), ∀ (x2 : Int32) (M : Mem) (H : Heap) (locs : List Loc) (ls : Array Slot), fX5_ticks_b43 p1 k43 x2 M = some (r, M') → va_P g.1 vwCl (wl 203 a (eX g a M)) H → va_S (aA 203 a s.heap.size) s.heap H locs → lv_has ls 3 [(0, .ref (a 0)), (1, .int p1), (2, .int x2)] → W p l e rmX5_ticks s m args below meth c H locs 0 0 Qz (F0 m 43 ls []) := by
    intro k43 C43 x2 M H locs ls h hP hS hl
    unfold fX5_ticks_b43 at h
    refine lv_iload_n hx hb dX5_ticks_43 rfl (lv_at hl 2 rfl) ?_
    refine lv_iload_n hx hb dX5_ticks_44 rfl (lv_at hl 1 rfl) ?_
    refine lv_icmp_ge (x := x2) (y := p1) (tgt := 73) hx hb dX5_ticks_45 (by decide) (fun q1 => ?_) (fun q1 => ?_)
    · replace h := if_t q1 h
      refine lv_aload_n hx hb dX5_ticks_73 rfl (lv_at hl 0 rfl) ?_
      refine r_get (v := .ref (a 4)) hx hb hts iX5 hown hK hP 0 (by decide) eX_0 rfl 2 (by decide) w25 rfl dX5_ticks_74 ?_
      refine lv_bipush (v := 99) hx hb dX5_ticks_77 (by decide) ?_
      obtain ⟨r2, e3, h⟩ := bdP_ok h
      refine r_callVi (As := [.int 99]) (rest := []) (ws' := (wl 203 a (eX g a M))) (ok_X2_howManyAt l g (gA a 4) (gA_ij (c := 4) (by decide) hI) 99 (gS M 4) r2 e3) ⟨hx, hb, hml, hown, hts⟩ (cwV 1 hts gX5_ticks_X2_howManyAt rfl rfl rfl (by decide +kernel) ⟨Nat.le_of_ble_eq_true rfl, Nat.le_of_ble_eq_true rfl⟩) hK (r_recv hK hP 4 (isSt_lt (c := 4) (by decide) 0 (by decide)) (eX_Stair (c := 4) (by decide)) (show vwCl[2]? = some (RX2, TX2, 8) from rfl)) hS (S_cut (c := 4) (by decide) hP) (S_A (c := 4) (by decide) hS.1) (S_keep (c := 4) (by decide) hI hP) rfl hl.1 rfl (Nat.le_of_ble_eq_true rfl) dX5_ticks_79 ⟨Nat.zero_le _, Nat.zero_le _⟩ (fun H locs hP hS => ?_)
      rw [hQz]
      exact r_iret (v := r2) hx hb hr hlk hS ((Prod.mk.inj (Option.some.inj h)).2 ▸ hP) (Prod.mk.inj (Option.some.inj h)).1 dX5_ticks_82
    · replace h := if_f q1 h
      refine lv_aload_n hx hb dX5_ticks_48 rfl (lv_at hl 0 rfl) ?_
      refine r_get (v := .ref (a 9)) hx hb hts iX5 hown hK hP 0 (by decide) eX_0 rfl 3 (by decide) w32 rfl dX5_ticks_49 ?_
      refine lv_aload_n hx hb dX5_ticks_52 rfl (lv_at hl 0 rfl) ?_
      refine r_get (v := .ref (a 4)) hx hb hts iX5 hown hK hP 0 (by decide) eX_0 rfl 2 (by decide) w25 rfl dX5_ticks_53 ?_
      obtain ⟨M6, e5, h⟩ := bdV_ok h
      refine r_callVv (As := [.ref (a 4)]) (rest := []) (ws' := (wl 203 a (eX g a M6))) (ok_X0_keep l g a hI M M6 e5) ⟨hx, hb, hml, hown, hts⟩ (cwV 1 hts gX5_ticks_X0_keep rfl rfl rfl (by decide +kernel) ⟨Nat.le_of_ble_eq_true rfl, Nat.le_of_ble_eq_true rfl⟩) hK (r_recv hK hP 9 (by decide) eX_9 (show vwCl[0]? = some (RX0, TX0, 3) from rfl)) hS hP (fun _ hq => aA_mono hS.1 hq) (fun _ h _ => h) rfl hl.1 rfl (Nat.le_of_ble_eq_true rfl) dX5_ticks_56 ⟨Nat.zero_le _, Nat.zero_le _⟩ (fun H locs hP hS => ?_)
      refine lv_aload_n hx hb dX5_ticks_59 rfl (lv_at hl 0 rfl) ?_
      refine r_get (v := .ref (a 4)) hx hb hts iX5 hown hK hP 0 (by decide) eX_0 rfl 2 (by decide) w25 rfl dX5_ticks_60 ?_
      obtain ⟨r7, M9, e8, h⟩ := bdI_ok h
      refine r_callVi (As := []) (rest := []) (ws' := (wl 203 a (eX g a (pS M6 4 M9)))) (ok_X2_pass l g (gA a 4) (gA_ij (c := 4) (by decide) hI) (gS M6 4) M9 r7 e8) ⟨hx, hb, hml, hown, hts⟩ (cwV 0 hts gX5_ticks_X2_pass rfl rfl rfl (by decide +kernel) ⟨Nat.le_of_ble_eq_true rfl, Nat.le_of_ble_eq_true rfl⟩) hK (r_recv hK hP 4 (isSt_lt (c := 4) (by decide) 0 (by decide)) (eX_Stair (c := 4) (by decide)) (show vwCl[2]? = some (RX2, TX2, 8) from rfl)) hS (S_cut (c := 4) (by decide) hP) (S_A (c := 4) (by decide) hS.1) (S_join (c := 4) (by decide) hI hP) rfl hl.1 rfl (Nat.le_of_ble_eq_true rfl) dX5_ticks_63 ⟨Nat.zero_le _, Nat.zero_le _⟩ (fun H locs hP hS => ?_)
      refine lv_pop hx hb dX5_ticks_66 rfl ?_
      refine lv_iinc (v := (x2 + 1)) (lv' := [(2, .int (x2 + 1)), (0, .ref (a 0)), (1, .int p1)]) hx hb dX5_ticks_67 hl (k := 2) rfl rfl (by decide) rfl (fun ls hl => ?_)
      refine lv_goto (tgt := 43) hx hb dX5_ticks_70 (by decide) ?_
      exact C43 (x2 + 1) (pS M6 4 M9) _ _ _ h hP hS (lv_sub hl [1, 2, 0] rfl)
  have L43 : ∀ (n : Nat), ∀ (x2 : Int32) (M : Mem) (H : Heap) (locs : List Loc) (ls : Array Slot), fX5_ticks_l43 p1 n x2 M = some (r, M') → va_P g.1 vwCl (wl 203 a (eX g a M)) H → va_S (aA 203 a s.heap.size) s.heap H locs → lv_has ls 3 [(0, .ref (a 0)), (1, .int p1), (2, .int x2)] → W p l e rmX5_ticks s m args below meth c H locs 0 0 Qz (F0 m 43 ls []) := by
    intro n
    induction n with
    | zero => intro x2 M H locs ls h; exact absurd (show (none : Option (Int32 × Mem)) = some _ from h) (fun z => by cases z)
    | succ n ih => exact fun x2 M H locs ls h hP hS hl => B43 (fX5_ticks_l43 p1 n) ih x2 M H locs ls h hP hS hl
  unfold fX5_ticks at h
  refine lv_aload_n hx hb dX5_ticks_0 rfl (lv_at hl 0 rfl) ?_
  obtain ⟨r1, e2, h⟩ := bdP_ok h
  refine r_callVi (As := []) (rest := []) (ws' := (wl 203 a (eX g a M))) (ok_X5_noStair l g a hI M r1 e2) ⟨hx, hb, hml, hown, hts⟩ (cwV 0 hts gX5_ticks_X5_noStair rfl rfl rfl (by decide +kernel) ⟨Nat.le_of_ble_eq_true rfl, Nat.le_of_ble_eq_true rfl⟩) hK (r_recv hK hP 0 (by decide) eX_0 (show vwCl[5]? = some (RX5, TX5, 11) from rfl)) hS hP (fun _ hq => aA_mono hS.1 hq) (fun _ h _ => h) rfl hl.1 rfl (Nat.le_of_ble_eq_true rfl) dX5_ticks_1 ⟨Nat.zero_le _, Nat.zero_le _⟩ (fun H locs hP hS => ?_)
  refine lv_if_eq (x := r1) (tgt := 10) hx hb dX5_ticks_4 (by decide) (fun q3 => ?_) (fun q3 => ?_)
  · replace h := if_t q3 h
    refine lv_iload_n hx hb dX5_ticks_10 rfl (lv_at hl 1 rfl) ?_
    refine lv_iconst (v := 1) hx hb dX5_ticks_11 (by decide) ?_
    refine lv_bipush (v := 24) hx hb dX5_ticks_12 (by decide) ?_
    obtain ⟨r4, e5, h⟩ := bdP_ok h
    refine r_callSi (As := [.int p1, .int 1, .int 24]) (rest := []) (ws' := (wl 203 a (eX g a M))) (ok_X5_outside l g p1 1 24 r4 e5) ⟨hx, hb, hml, hown, hts⟩ (cwS 3 hts gX5_ticks_X5_outside rfl rfl rfl (by decide +kernel) ⟨Nat.le_of_ble_eq_true rfl, Nat.le_of_ble_eq_true rfl⟩) hK hS nilP (P_A hS.1) (fun _ _ hk => wl_keep hP hk) rfl hl.1 rfl (Nat.le_of_ble_eq_true rfl) dX5_ticks_14 ⟨Nat.zero_le _, Nat.zero_le _⟩ (fun H locs hP hS => ?_)
    refine lv_if_eq (x := r4) (tgt := 23) hx hb dX5_ticks_17 (by decide) (fun q6 => ?_) (fun q6 => ?_)
    · replace h := if_t q6 h
      refine lv_aload_n hx hb dX5_ticks_23 rfl (lv_at hl 0 rfl) ?_
      refine r_get (v := .ref (a 4)) hx hb hts iX5 hown hK hP 0 (by decide) eX_0 rfl 2 (by decide) w25 rfl dX5_ticks_24 ?_
      refine r_get (v := .int (M 4 2)) hx hb hts iX2 hown hK hP 4 (isSt_lt (c := 4) (by decide) 0 (by decide)) (eX_Stair (c := 4) (by decide)) rfl 2 (by decide) w141 rfl dX5_ticks_27 ?_
      refine lv_iload_n hx hb dX5_ticks_30 rfl (lv_at hl 1 rfl) ?_
      refine lv_iadd (x := (M 4 2)) (y := p1) hx hb dX5_ticks_31 ?_
      refine lv_sipush (v := 9999) hx hb dX5_ticks_32 (by decide) ?_
      refine lv_icmp_le (x := ((M 4 2) + p1)) (y := 9999) (tgt := 41) hx hb dX5_ticks_35 (by decide) (fun q7 => ?_) (fun q7 => ?_)
      · replace h := if_t q7 h
        refine lv_iconst (v := 0) hx hb dX5_ticks_41 (by decide) ?_
        refine lv_istore_n (lv' := [(2, .int 0), (0, .ref (a 0)), (1, .int p1)]) hx hb dX5_ticks_42 rfl hl (by decide) rfl (fun ls hl => ?_)
        exact L43 FU 0 M _ _ _ h hP hS (lv_sub hl [1, 2, 0] rfl)
      · replace h := if_f q7 h
        refine lv_ldc (v := (-1000003)) hx hb hown w112 dX5_ticks_38 ?_
        rw [hQz]
        exact r_iret (v := (-1000003)) hx hb hr hlk hS ((Prod.mk.inj (Option.some.inj h)).2 ▸ hP) (Prod.mk.inj (Option.some.inj h)).1 dX5_ticks_40
    · replace h := if_f q6 h
      refine lv_ldc (v := (-1000001)) hx hb hown w73 dX5_ticks_20 ?_
      rw [hQz]
      exact r_iret (v := (-1000001)) hx hb hr hlk hS ((Prod.mk.inj (Option.some.inj h)).2 ▸ hP) (Prod.mk.inj (Option.some.inj h)).1 dX5_ticks_22
  · replace h := if_f q3 h
    refine lv_ldc (v := (-1000002)) hx hb hown w140 dX5_ticks_7 ?_
    rw [hQz]
    exact r_iret (v := (-1000002)) hx hb hr hlk hS ((Prod.mk.inj (Option.some.inj h)).2 ▸ hP) (Prod.mk.inj (Option.some.inj h)).1 dX5_ticks_9
