def rmX5_speed : Room := { frames := 3, cells := 0, slots := 0, locals := 102 }
set_option maxHeartbeats 4000000 in
set_option maxRecDepth 100000 in
theorem ok_X5_speed (l : Launch) (g : gT) (a : Nat → Nat) (hI : ij 203 a) (p1 : Int32) (M : Mem) (M' : Mem) (r : Int32) (h : fX5_speed p1 M = some (r, M')) : MI l yX5_speed wsX5_speed rmX5_speed g 203 a [.ref (a 0), .int p1] (wl 203 a (eX g a M)) (wl 203 a (eX g a M')) r := by
  refine MI_of (cc := cX5_speed) (maxL := 3) (rt := .int) (by decide) rfl (Nat.le_of_ble_eq_true rfl) ?_
  intro p e s m args below meth c ls hx hb hml hr hlk hts hown hK hP hl
  have hown : s.vm.findClass RX5 = some m.cls := hown
  have hl : lv_has ls 3 [(0, .ref (a 0)), (1, .int p1)] := hl
  have hS : va_S (aA 203 a s.heap.size) s.heap s.heap [] := va_S.rf
  have iX2 : ∀ w ∈ wsX20, w ∈ wsX5_speed := fun w h => List.mem_cons_of_mem _ (List.mem_append_left _ (List.mem_append_right _ h))
  have iX5 : ∀ w ∈ wsX50, w ∈ wsX5_speed := fun w h => List.mem_cons_of_mem _ (List.mem_append_left _ (List.mem_append_left _ (List.mem_append_right _ h)))
  have w25 := hts (.fieldLink RX5 25 "StepRiders" "now" "LStepRiders$Stair;") (by decide +kernel)
  have w154 := hts (.fieldLink RX5 154 "StepRiders$Stair" "speed" "I") (by decide +kernel)
  have w32 := hts (.fieldLink RX5 32 "StepRiders" "acts" "LStepRiders$Acts;") (by decide +kernel)
  have w73 := hts (.constant RX5 73 (-1000001)) (by decide +kernel)
  have w140 := hts (.constant RX5 140 (-1000002)) (by decide +kernel)
  obtain ⟨Qz, hQz⟩ : ∃ Qz : State → Prop, Qz = MQ below (qI g (wl 203 a (eX g a M')) r (aA 203 a s.heap.size)) args s 0 0 (aA 203 a s.heap.size) := ⟨_, rfl⟩
  rw [← hQz]
  unfold fX5_speed at h
  refine lv_aload_n hx hb dX5_speed_0 rfl (lv_at hl 0 rfl) ?_
  obtain ⟨r1, e2, h⟩ := bdP_ok h
  refine r_callVi (As := []) (rest := []) (ws' := (wl 203 a (eX g a M))) (ok_X5_noStair l g a hI M r1 e2) ⟨hx, hb, hml, hown, hts⟩ (cwV 0 hts gX5_speed_X5_noStair rfl rfl rfl (by decide +kernel) ⟨Nat.le_of_ble_eq_true rfl, Nat.le_of_ble_eq_true rfl⟩) hK (r_recv hK hP 0 (by decide) eX_0 (show vwCl[5]? = some (RX5, TX5, 11) from rfl)) hS hP (fun _ hq => aA_mono hS.1 hq) (fun _ h _ => h) rfl hl.1 rfl (Nat.le_of_ble_eq_true rfl) dX5_speed_1 ⟨Nat.zero_le _, Nat.zero_le _⟩ (fun H locs hP hS => ?_)
  refine lv_if_eq (x := r1) (tgt := 10) hx hb dX5_speed_4 (by decide) (fun q3 => ?_) (fun q3 => ?_)
  · replace h := if_t q3 h
    refine lv_iload_n hx hb dX5_speed_10 rfl (lv_at hl 1 rfl) ?_
    refine lv_iconst (v := 0) hx hb dX5_speed_11 (by decide) ?_
    refine lv_iconst (v := 2) hx hb dX5_speed_12 (by decide) ?_
    obtain ⟨r4, e5, h⟩ := bdP_ok h
    refine r_callSi (As := [.int p1, .int 0, .int 2]) (rest := []) (ws' := (wl 203 a (eX g a M))) (ok_X5_outside l g p1 0 2 r4 e5) ⟨hx, hb, hml, hown, hts⟩ (cwS 3 hts gX5_speed_X5_outside rfl rfl rfl (by decide +kernel) ⟨Nat.le_of_ble_eq_true rfl, Nat.le_of_ble_eq_true rfl⟩) hK hS nilP (P_A hS.1) (fun _ _ hk => wl_keep hP hk) rfl hl.1 rfl (Nat.le_of_ble_eq_true rfl) dX5_speed_13 ⟨Nat.zero_le _, Nat.zero_le _⟩ (fun H locs hP hS => ?_)
    refine lv_if_eq (x := r4) (tgt := 22) hx hb dX5_speed_16 (by decide) (fun q6 => ?_) (fun q6 => ?_)
    · replace h := if_t q6 h
      refine lv_aload_n hx hb dX5_speed_22 rfl (lv_at hl 0 rfl) ?_
      refine r_get (v := .ref (a 4)) hx hb hts iX5 hown hK hP 0 (by decide) eX_0 rfl 2 (by decide) w25 rfl dX5_speed_23 ?_
      refine r_get (v := .int (M 4 1)) hx hb hts iX2 hown hK hP 4 (isSt_lt (c := 4) (by decide) 0 (by decide)) (eX_Stair (c := 4) (by decide)) rfl 1 (by decide) w154 rfl dX5_speed_26 ?_
      refine lv_istore_n (lv' := [(2, .int (M 4 1)), (0, .ref (a 0)), (1, .int p1)]) hx hb dX5_speed_29 rfl hl (by decide) rfl (fun ls hl => ?_)
      refine lv_aload_n hx hb dX5_speed_30 rfl (lv_at hl 1 rfl) ?_
      refine r_get (v := .ref (a 9)) hx hb hts iX5 hown hK hP 0 (by decide) eX_0 rfl 3 (by decide) w32 rfl dX5_speed_31 ?_
      refine lv_aload_n hx hb dX5_speed_34 rfl (lv_at hl 1 rfl) ?_
      refine r_get (v := .ref (a 4)) hx hb hts iX5 hown hK hP 0 (by decide) eX_0 rfl 2 (by decide) w25 rfl dX5_speed_35 ?_
      obtain ⟨M9, e8, h⟩ := bdV_ok h
      refine r_callVv (As := [.ref (a 4)]) (rest := []) (ws' := (wl 203 a (eX g a M9))) (ok_X0_keep l g a hI M M9 e8) ⟨hx, hb, hml, hown, hts⟩ (cwV 1 hts gX5_speed_X0_keep rfl rfl rfl (by decide +kernel) ⟨Nat.le_of_ble_eq_true rfl, Nat.le_of_ble_eq_true rfl⟩) hK (r_recv hK hP 9 (by decide) eX_9 (show vwCl[0]? = some (RX0, TX0, 3) from rfl)) hS hP (fun _ hq => aA_mono hS.1 hq) (fun _ h _ => h) rfl hl.1 rfl (Nat.le_of_ble_eq_true rfl) dX5_speed_38 ⟨Nat.zero_le _, Nat.zero_le _⟩ (fun H locs hP hS => ?_)
      refine lv_aload_n hx hb dX5_speed_41 rfl (lv_at hl 1 rfl) ?_
      refine r_get (v := .ref (a 4)) hx hb hts iX5 hown hK hP 0 (by decide) eX_0 rfl 2 (by decide) w25 rfl dX5_speed_42 ?_
      refine lv_iload_n hx hb dX5_speed_45 rfl (lv_at hl 2 rfl) ?_
      refine r_put (v := .int p1) (ty := .int) (f' := eX g a (mp M9 4 1 p1)) hx hb hts iX2 tyX2 tyX2_ok nmX2 hown hK hI (fun _ h => aA_in h) hP hS 4 (isSt_lt (c := 4) (by decide) 0 (by decide)) (eX_Stair (c := 4) (by decide)) rfl 1 (by decide) w154 rfl (by decide +kernel) rfl rfl (Nat.le_of_ble_eq_true rfl) (eX_pStair1 (c := 4) (by decide)) dX5_speed_46 (fun H locs hP hS => ?_)
      refine lv_iload_n hx hb dX5_speed_49 rfl (lv_at hl 0 rfl) ?_
      rw [hQz]
      exact r_iret (v := (M 4 1)) hx hb hr hlk hS ((Prod.mk.inj (Option.some.inj h)).2 ▸ hP) (Prod.mk.inj (Option.some.inj h)).1 dX5_speed_50
    · replace h := if_f q6 h
      refine lv_ldc (v := (-1000001)) hx hb hown w73 dX5_speed_19 ?_
      rw [hQz]
      exact r_iret (v := (-1000001)) hx hb hr hlk hS ((Prod.mk.inj (Option.some.inj h)).2 ▸ hP) (Prod.mk.inj (Option.some.inj h)).1 dX5_speed_21
  · replace h := if_f q3 h
    refine lv_ldc (v := (-1000002)) hx hb hown w140 dX5_speed_7 ?_
    rw [hQz]
    exact r_iret (v := (-1000002)) hx hb hr hlk hS ((Prod.mk.inj (Option.some.inj h)).2 ▸ hP) (Prod.mk.inj (Option.some.inj h)).1 dX5_speed_9
def rmX5_noRider : Room := { frames := 2, cells := 0, slots := 0, locals := 82 }
set_option maxHeartbeats 4000000 in
set_option maxRecDepth 100000 in
theorem ok_X5_noRider (l : Launch) (g : gT) (a : Nat → Nat) (hI : ij 203 a) (p1 : Int32) (M : Mem) (r : Int32) (h : fX5_noRider p1 M = some r) : MI l yX5_noRider wsX5_noRider rmX5_noRider g 203 a [.ref (a 0), .int p1] (wl 203 a (eX g a M)) (wl 203 a (eX g a M)) r := by
  refine MI_of (cc := cX5_noRider) (maxL := 2) (rt := .boolean) (by decide) rfl (Nat.le_of_ble_eq_true rfl) ?_
  intro p e s m args below meth c ls hx hb hml hr hlk hts hown hK hP hl
  have hown : s.vm.findClass RX5 = some m.cls := hown
  have hl : lv_has ls 2 [(0, .ref (a 0)), (1, .int p1)] := hl
  have hS : va_S (aA 203 a s.heap.size) s.heap s.heap [] := va_S.rf
  have iX2 : ∀ w ∈ wsX20, w ∈ wsX5_noRider := fun w h => List.mem_cons_of_mem _ (List.mem_append_right _ h)
  have iX5 : ∀ w ∈ wsX50, w ∈ wsX5_noRider := fun w h => List.mem_cons_of_mem _ (List.mem_append_left _ (List.mem_append_right _ h))
  have w25 := hts (.fieldLink RX5 25 "StepRiders" "now" "LStepRiders$Stair;") (by decide +kernel)
  have w130 := hts (.fieldLink RX5 130 "StepRiders$Stair" "riders" "I") (by decide +kernel)
  obtain ⟨Qz, hQz⟩ : ∃ Qz : State → Prop, Qz = MQ below (qI g (wl 203 a (eX g a M)) r (aA 203 a s.heap.size)) args s 0 0 (aA 203 a s.heap.size) := ⟨_, rfl⟩
  rw [← hQz]
  unfold fX5_noRider at h
  refine lv_iload_n hx hb dX5_noRider_0 rfl (lv_at hl 1 rfl) ?_
  refine lv_iconst (v := 0) hx hb dX5_noRider_1 (by decide) ?_
  refine lv_aload_n hx hb dX5_noRider_2 rfl (lv_at hl 0 rfl) ?_
  refine r_get (v := .ref (a 4)) hx hb hts iX5 hown hK hP 0 (by decide) eX_0 rfl 2 (by decide) w25 rfl dX5_noRider_3 ?_
  refine r_get (v := .int (M 4 3)) hx hb hts iX2 hown hK hP 4 (isSt_lt (c := 4) (by decide) 0 (by decide)) (eX_Stair (c := 4) (by decide)) rfl 3 (by decide) w130 rfl dX5_noRider_6 ?_
  refine lv_iconst (v := 1) hx hb dX5_noRider_9 (by decide) ?_
  refine lv_isub (x := (M 4 3)) (y := 1) hx hb dX5_noRider_10 ?_
  obtain ⟨r1, e2, h⟩ := bdP_ok h
  refine r_callSi (As := [.int p1, .int 0, .int ((M 4 3) - 1)]) (rest := []) (ws' := (wl 203 a (eX g a M))) (ok_X5_outside l g p1 0 ((M 4 3) - 1) r1 e2) ⟨hx, hb, hml, hown, hts⟩ (cwS 3 hts gX5_noRider_X5_outside rfl rfl rfl (by decide +kernel) ⟨Nat.le_of_ble_eq_true rfl, Nat.le_of_ble_eq_true rfl⟩) hK hS nilP (P_A hS.1) (fun _ _ hk => wl_keep hP hk) rfl hl.1 rfl (Nat.le_of_ble_eq_true rfl) dX5_noRider_11 ⟨Nat.zero_le _, Nat.zero_le _⟩ (fun H locs hP hS => ?_)
  obtain ⟨q3, h⟩ := chk_ok h
  rw [hQz]
  exact r_zret (v := r1) hx hb hr hlk hS hP (Option.some.inj h) q3 dX5_noRider_14
def rmX5_cross : Room := { frames := 4, cells := 0, slots := 0, locals := 126 }
set_option maxHeartbeats 4000000 in
set_option maxRecDepth 100000 in
theorem ok_X5_cross (l : Launch) (g : gT) (a : Nat → Nat) (hI : ij 203 a) (p1 : Int32) (M : Mem) (M' : Mem) (r : Int32) (h : fX5_cross p1 M = some (r, M')) : MI l yX5_cross wsX5_cross rmX5_cross g 203 a [.ref (a 0), .int p1] (wl 203 a (eX g a M)) (wl 203 a (eX g a M')) r := by
  refine MI_of (cc := cX5_cross) (maxL := 2) (rt := .int) (by decide) rfl (Nat.le_of_ble_eq_true rfl) ?_
  intro p e s m args below meth c ls hx hb hml hr hlk hts hown hK hP hl
  have hown : s.vm.findClass RX5 = some m.cls := hown
  have hl : lv_has ls 2 [(0, .ref (a 0)), (1, .int p1)] := hl
  have hS : va_S (aA 203 a s.heap.size) s.heap s.heap [] := va_S.rf
  have iX2 : ∀ w ∈ wsX20, w ∈ wsX5_cross := fun w h => List.mem_cons_of_mem _ (List.mem_append_left _ (List.mem_append_right _ h))
  have iX5 : ∀ w ∈ wsX50, w ∈ wsX5_cross := fun w h => List.mem_cons_of_mem _ (List.mem_append_left _ (List.mem_append_left _ (List.mem_append_right _ h)))
  have w25 := hts (.fieldLink RX5 25 "StepRiders" "now" "LStepRiders$Stair;") (by decide +kernel)
  have w160 := hts (.fieldLink RX5 160 "StepRiders$Stair" "at" "[I") (by decide +kernel)
  have w140 := hts (.constant RX5 140 (-1000002)) (by decide +kernel)
  have w32 := hts (.fieldLink RX5 32 "StepRiders" "acts" "LStepRiders$Acts;") (by decide +kernel)
  have w166 := hts (.fieldLink RX5 166 "StepRiders$Stair" "lane" "[I") (by decide +kernel)
  have w73 := hts (.constant RX5 73 (-1000001)) (by decide +kernel)
  obtain ⟨Qz, hQz⟩ : ∃ Qz : State → Prop, Qz = MQ below (qI g (wl 203 a (eX g a M')) r (aA 203 a s.heap.size)) args s 0 0 (aA 203 a s.heap.size) := ⟨_, rfl⟩
  rw [← hQz]
  unfold fX5_cross at h
  refine lv_aload_n hx hb dX5_cross_0 rfl (lv_at hl 0 rfl) ?_
  refine lv_iload_n hx hb dX5_cross_1 rfl (lv_at hl 1 rfl) ?_
  obtain ⟨r1, e2, h⟩ := bdP_ok h
  refine r_callVi (As := [.int p1]) (rest := []) (ws' := (wl 203 a (eX g a M))) (ok_X5_noRider l g a hI p1 M r1 e2) ⟨hx, hb, hml, hown, hts⟩ (cwV 1 hts gX5_cross_X5_noRider rfl rfl rfl (by decide +kernel) ⟨Nat.le_of_ble_eq_true rfl, Nat.le_of_ble_eq_true rfl⟩) hK (r_recv hK hP 0 (by decide) eX_0 (show vwCl[5]? = some (RX5, TX5, 11) from rfl)) hS hP (fun _ hq => aA_mono hS.1 hq) (fun _ h _ => h) rfl hl.1 rfl (Nat.le_of_ble_eq_true rfl) dX5_cross_2 ⟨Nat.zero_le _, Nat.zero_le _⟩ (fun H locs hP hS => ?_)
  refine lv_if_eq (x := r1) (tgt := 11) hx hb dX5_cross_5 (by decide) (fun q3 => ?_) (fun q3 => ?_)
  · replace h := if_t q3 h
    refine lv_aload_n hx hb dX5_cross_11 rfl (lv_at hl 0 rfl) ?_
    refine r_get (v := .ref (a 4)) hx hb hts iX5 hown hK hP 0 (by decide) eX_0 rfl 2 (by decide) w25 rfl dX5_cross_12 ?_
    refine r_get (v := .ref (a 7)) hx hb hts iX2 hown hK hP 4 (isSt_lt (c := 4) (by decide) 0 (by decide)) (eX_Stair (c := 4) (by decide)) rfl 6 (by decide) w160 rfl dX5_cross_15 ?_
    refine lv_iload_n hx hb dX5_cross_18 rfl (lv_at hl 1 rfl) ?_
    obtain ⟨q4, h⟩ := chk_ok h
    refine r_iald (i := p1) (h := M 7) hx hb hK hP 7 (isSt_lt (c := 4) (by decide) 3 (by decide)) (eX_Sa3 (c := 4) (by decide)) q4 dX5_cross_19 ?_
    refine lv_bipush (v := 99) hx hb dX5_cross_20 (by decide) ?_
    refine lv_icmp_eq (x := (M 7 (Int32.toNatClampNeg p1))) (y := 99) (tgt := 36) hx hb dX5_cross_22 (by decide) (fun q5 => ?_) (fun q5 => ?_)
    · replace h := if_t q5 h
      refine lv_ldc (v := (-1000002)) hx hb hown w140 dX5_cross_36 ?_
      rw [hQz]
      exact r_iret (v := (-1000002)) hx hb hr hlk hS ((Prod.mk.inj (Option.some.inj h)).2 ▸ hP) (Prod.mk.inj (Option.some.inj h)).1 dX5_cross_38
    · replace h := if_f q5 h
      refine lv_aload_n hx hb dX5_cross_25 rfl (lv_at hl 0 rfl) ?_
      refine r_get (v := .ref (a 4)) hx hb hts iX5 hown hK hP 0 (by decide) eX_0 rfl 2 (by decide) w25 rfl dX5_cross_26 ?_
      refine lv_iload_n hx hb dX5_cross_29 rfl (lv_at hl 1 rfl) ?_
      obtain ⟨r6, e7, h⟩ := bdP_ok h
      refine r_callVi (As := [.int p1]) (rest := []) (ws' := (wl 203 a (eX g a M))) (ok_X2_mayCross l g (gA a 4) (gA_ij (c := 4) (by decide) hI) p1 (gS M 4) r6 e7) ⟨hx, hb, hml, hown, hts⟩ (cwV 1 hts gX5_cross_X2_mayCross rfl rfl rfl (by decide +kernel) ⟨Nat.le_of_ble_eq_true rfl, Nat.le_of_ble_eq_true rfl⟩) hK (r_recv hK hP 4 (isSt_lt (c := 4) (by decide) 0 (by decide)) (eX_Stair (c := 4) (by decide)) (show vwCl[2]? = some (RX2, TX2, 8) from rfl)) hS (S_cut (c := 4) (by decide) hP) (S_A (c := 4) (by decide) hS.1) (S_keep (c := 4) (by decide) hI hP) rfl hl.1 rfl (Nat.le_of_ble_eq_true rfl) dX5_cross_30 ⟨Nat.zero_le _, Nat.zero_le _⟩ (fun H locs hP hS => ?_)
      refine lv_if_ne (x := r6) (tgt := 39) hx hb dX5_cross_33 (by decide) (fun q8 => ?_) (fun q8 => ?_)
      · replace h := if_f q8 h
        refine lv_aload_n hx hb dX5_cross_39 rfl (lv_at hl 0 rfl) ?_
        refine r_get (v := .ref (a 9)) hx hb hts iX5 hown hK hP 0 (by decide) eX_0 rfl 3 (by decide) w32 rfl dX5_cross_40 ?_
        refine lv_aload_n hx hb dX5_cross_43 rfl (lv_at hl 0 rfl) ?_
        refine r_get (v := .ref (a 4)) hx hb hts iX5 hown hK hP 0 (by decide) eX_0 rfl 2 (by decide) w25 rfl dX5_cross_44 ?_
        obtain ⟨M11, e10, h⟩ := bdV_ok h
        refine r_callVv (As := [.ref (a 4)]) (rest := []) (ws' := (wl 203 a (eX g a M11))) (ok_X0_keep l g a hI M M11 e10) ⟨hx, hb, hml, hown, hts⟩ (cwV 1 hts gX5_cross_X0_keep rfl rfl rfl (by decide +kernel) ⟨Nat.le_of_ble_eq_true rfl, Nat.le_of_ble_eq_true rfl⟩) hK (r_recv hK hP 9 (by decide) eX_9 (show vwCl[0]? = some (RX0, TX0, 3) from rfl)) hS hP (fun _ hq => aA_mono hS.1 hq) (fun _ h _ => h) rfl hl.1 rfl (Nat.le_of_ble_eq_true rfl) dX5_cross_47 ⟨Nat.zero_le _, Nat.zero_le _⟩ (fun H locs hP hS => ?_)
        refine lv_aload_n hx hb dX5_cross_50 rfl (lv_at hl 0 rfl) ?_
        refine r_get (v := .ref (a 4)) hx hb hts iX5 hown hK hP 0 (by decide) eX_0 rfl 2 (by decide) w25 rfl dX5_cross_51 ?_
        refine r_get (v := .ref (a 6)) hx hb hts iX2 hown hK hP 4 (isSt_lt (c := 4) (by decide) 0 (by decide)) (eX_Stair (c := 4) (by decide)) rfl 5 (by decide) w166 rfl dX5_cross_54 ?_
        refine lv_iload_n hx hb dX5_cross_57 rfl (lv_at hl 1 rfl) ?_
        refine lv_iconst (v := 1) hx hb dX5_cross_58 (by decide) ?_
        refine lv_aload_n hx hb dX5_cross_59 rfl (lv_at hl 0 rfl) ?_
        refine r_get (v := .ref (a 4)) hx hb hts iX5 hown hK hP 0 (by decide) eX_0 rfl 2 (by decide) w25 rfl dX5_cross_60 ?_
        refine r_get (v := .ref (a 6)) hx hb hts iX2 hown hK hP 4 (isSt_lt (c := 4) (by decide) 0 (by decide)) (eX_Stair (c := 4) (by decide)) rfl 5 (by decide) w166 rfl dX5_cross_63 ?_
        refine lv_iload_n hx hb dX5_cross_66 rfl (lv_at hl 1 rfl) ?_
        obtain ⟨q12, h⟩ := chk_ok h
        refine r_iald (i := p1) (h := M11 6) hx hb hK hP 6 (isSt_lt (c := 4) (by decide) 2 (by decide)) (eX_Sa2 (c := 4) (by decide)) q12 dX5_cross_67 ?_
        refine lv_isub (x := 1) (y := (M11 6 (Int32.toNatClampNeg p1))) hx hb dX5_cross_68 ?_
        obtain ⟨q13, h⟩ := chk_ok h
        refine r_iast (i := p1) (x := (1 - (M11 6 (Int32.toNatClampNeg p1)))) (h := M11 6) (f' := eX g a (mp M11 6 (Int32.toNatClampNeg p1) (1 - (M11 6 (Int32.toNatClampNeg p1))))) hx hb hK hI (fun _ h => aA_in h) hP hS 6 (isSt_lt (c := 4) (by decide) 2 (by decide)) (eX_Sa2 (c := 4) (by decide)) q13 (eX_ua (fun _ => eX_Sa2 (c := 4) (by decide))) dX5_cross_69 (fun H locs hP hS => ?_)
        refine lv_aload_n hx hb dX5_cross_70 rfl (lv_at hl 0 rfl) ?_
        refine r_get (v := .ref (a 4)) hx hb hts iX5 hown hK hP 0 (by decide) eX_0 rfl 2 (by decide) w25 rfl dX5_cross_71 ?_
        refine r_get (v := .ref (a 6)) hx hb hts iX2 hown hK hP 4 (isSt_lt (c := 4) (by decide) 0 (by decide)) (eX_Stair (c := 4) (by decide)) rfl 5 (by decide) w166 rfl dX5_cross_74 ?_
        refine lv_iload_n hx hb dX5_cross_77 rfl (lv_at hl 1 rfl) ?_
        obtain ⟨q14, h⟩ := chk_ok h
        refine r_iald (i := p1) (h := (mp M11 6 (Int32.toNatClampNeg p1) (1 - (M11 6 (Int32.toNatClampNeg p1)))) 6) hx hb hK hP 6 (isSt_lt (c := 4) (by decide) 2 (by decide)) (eX_Sa2 (c := 4) (by decide)) q14 dX5_cross_78 ?_
        rw [hQz]
        exact r_iret (v := ((mp M11 6 (Int32.toNatClampNeg p1) (1 - (M11 6 (Int32.toNatClampNeg p1)))) 6 (Int32.toNatClampNeg p1))) hx hb hr hlk hS ((Prod.mk.inj (Option.some.inj h)).2 ▸ hP) (Prod.mk.inj (Option.some.inj h)).1 dX5_cross_79
      · replace h := if_t q8 h
        refine lv_ldc (v := (-1000002)) hx hb hown w140 dX5_cross_36 ?_
        rw [hQz]
        exact r_iret (v := (-1000002)) hx hb hr hlk hS ((Prod.mk.inj (Option.some.inj h)).2 ▸ hP) (Prod.mk.inj (Option.some.inj h)).1 dX5_cross_38
  · replace h := if_f q3 h
    refine lv_ldc (v := (-1000001)) hx hb hown w73 dX5_cross_8 ?_
    rw [hQz]
    exact r_iret (v := (-1000001)) hx hb hr hlk hS ((Prod.mk.inj (Option.some.inj h)).2 ▸ hP) (Prod.mk.inj (Option.some.inj h)).1 dX5_cross_10
def rmX5_take : Room := { frames := 3, cells := 0, slots := 0, locals := 103 }
set_option maxHeartbeats 4000000 in
set_option maxRecDepth 100000 in
theorem ok_X5_take (l : Launch) (g : gT) (a : Nat → Nat) (hI : ij 203 a) (p1 : Int32) (M : Mem) (M' : Mem) (r : Int32) (h : fX5_take p1 M = some (r, M')) : MI l yX5_take wsX5_take rmX5_take g 203 a [.ref (a 0), .int p1] (wl 203 a (eX g a M)) (wl 203 a (eX g a M')) r := by
  refine MI_of (cc := cX5_take) (maxL := 3) (rt := .int) (by decide) rfl (Nat.le_of_ble_eq_true rfl) ?_
  intro p e s m args below meth c ls hx hb hml hr hlk hts hown hK hP hl
  have hown : s.vm.findClass RX5 = some m.cls := hown
  have hl : lv_has ls 3 [(0, .ref (a 0)), (1, .int p1)] := hl
  have hS : va_S (aA 203 a s.heap.size) s.heap s.heap [] := va_S.rf
  have iX2 : ∀ w ∈ wsX20, w ∈ wsX5_take := fun w h => List.mem_cons_of_mem _ (List.mem_append_left _ (List.mem_append_right _ h))
  have iX5 : ∀ w ∈ wsX50, w ∈ wsX5_take := fun w h => List.mem_cons_of_mem _ (List.mem_append_left _ (List.mem_append_left _ (List.mem_append_right _ h)))
  have w25 := hts (.fieldLink RX5 25 "StepRiders" "now" "LStepRiders$Stair;") (by decide +kernel)
  have w160 := hts (.fieldLink RX5 160 "StepRiders$Stair" "at" "[I") (by decide +kernel)
  have w32 := hts (.fieldLink RX5 32 "StepRiders" "acts" "LStepRiders$Acts;") (by decide +kernel)
  have w140 := hts (.constant RX5 140 (-1000002)) (by decide +kernel)
  have w73 := hts (.constant RX5 73 (-1000001)) (by decide +kernel)
  obtain ⟨Qz, hQz⟩ : ∃ Qz : State → Prop, Qz = MQ below (qI g (wl 203 a (eX g a M')) r (aA 203 a s.heap.size)) args s 0 0 (aA 203 a s.heap.size) := ⟨_, rfl⟩
  rw [← hQz]
  unfold fX5_take at h
  refine lv_aload_n hx hb dX5_take_0 rfl (lv_at hl 0 rfl) ?_
  refine lv_iload_n hx hb dX5_take_1 rfl (lv_at hl 1 rfl) ?_
  obtain ⟨r1, e2, h⟩ := bdP_ok h
  refine r_callVi (As := [.int p1]) (rest := []) (ws' := (wl 203 a (eX g a M))) (ok_X5_noRider l g a hI p1 M r1 e2) ⟨hx, hb, hml, hown, hts⟩ (cwV 1 hts gX5_take_X5_noRider rfl rfl rfl (by decide +kernel) ⟨Nat.le_of_ble_eq_true rfl, Nat.le_of_ble_eq_true rfl⟩) hK (r_recv hK hP 0 (by decide) eX_0 (show vwCl[5]? = some (RX5, TX5, 11) from rfl)) hS hP (fun _ hq => aA_mono hS.1 hq) (fun _ h _ => h) rfl hl.1 rfl (Nat.le_of_ble_eq_true rfl) dX5_take_2 ⟨Nat.zero_le _, Nat.zero_le _⟩ (fun H locs hP hS => ?_)
  refine lv_if_eq (x := r1) (tgt := 11) hx hb dX5_take_5 (by decide) (fun q3 => ?_) (fun q3 => ?_)
  · replace h := if_t q3 h
    refine lv_aload_n hx hb dX5_take_11 rfl (lv_at hl 0 rfl) ?_
    refine r_get (v := .ref (a 4)) hx hb hts iX5 hown hK hP 0 (by decide) eX_0 rfl 2 (by decide) w25 rfl dX5_take_12 ?_
    refine r_get (v := .ref (a 7)) hx hb hts iX2 hown hK hP 4 (isSt_lt (c := 4) (by decide) 0 (by decide)) (eX_Stair (c := 4) (by decide)) rfl 6 (by decide) w160 rfl dX5_take_15 ?_
    refine lv_iload_n hx hb dX5_take_18 rfl (lv_at hl 1 rfl) ?_
    obtain ⟨q4, h⟩ := chk_ok h
    refine r_iald (i := p1) (h := M 7) hx hb hK hP 7 (isSt_lt (c := 4) (by decide) 3 (by decide)) (eX_Sa3 (c := 4) (by decide)) q4 dX5_take_19 ?_
    refine lv_istore_n (lv' := [(2, .int (M 7 (Int32.toNatClampNeg p1))), (0, .ref (a 0)), (1, .int p1)]) hx hb dX5_take_20 rfl hl (by decide) rfl (fun ls hl => ?_)
    refine lv_iload_n hx hb dX5_take_21 rfl (lv_at hl 0 rfl) ?_
    refine lv_bipush (v := 99) hx hb dX5_take_22 (by decide) ?_
    refine lv_icmp_ne (x := (M 7 (Int32.toNatClampNeg p1))) (y := 99) (tgt := 30) hx hb dX5_take_24 (by decide) (fun q5 => ?_) (fun q5 => ?_)
    · replace h := if_f q5 h
      refine lv_aload_n hx hb dX5_take_30 rfl (lv_at hl 1 rfl) ?_
      refine r_get (v := .ref (a 9)) hx hb hts iX5 hown hK hP 0 (by decide) eX_0 rfl 3 (by decide) w32 rfl dX5_take_31 ?_
      refine lv_aload_n hx hb dX5_take_34 rfl (lv_at hl 1 rfl) ?_
      refine r_get (v := .ref (a 4)) hx hb hts iX5 hown hK hP 0 (by decide) eX_0 rfl 2 (by decide) w25 rfl dX5_take_35 ?_
      obtain ⟨M8, e7, h⟩ := bdV_ok h
      refine r_callVv (As := [.ref (a 4)]) (rest := []) (ws' := (wl 203 a (eX g a M8))) (ok_X0_keep l g a hI M M8 e7) ⟨hx, hb, hml, hown, hts⟩ (cwV 1 hts gX5_take_X0_keep rfl rfl rfl (by decide +kernel) ⟨Nat.le_of_ble_eq_true rfl, Nat.le_of_ble_eq_true rfl⟩) hK (r_recv hK hP 9 (by decide) eX_9 (show vwCl[0]? = some (RX0, TX0, 3) from rfl)) hS hP (fun _ hq => aA_mono hS.1 hq) (fun _ h _ => h) rfl hl.1 rfl (Nat.le_of_ble_eq_true rfl) dX5_take_38 ⟨Nat.zero_le _, Nat.zero_le _⟩ (fun H locs hP hS => ?_)
      refine lv_aload_n hx hb dX5_take_41 rfl (lv_at hl 1 rfl) ?_
      refine r_get (v := .ref (a 4)) hx hb hts iX5 hown hK hP 0 (by decide) eX_0 rfl 2 (by decide) w25 rfl dX5_take_42 ?_
      refine r_get (v := .ref (a 7)) hx hb hts iX2 hown hK hP 4 (isSt_lt (c := 4) (by decide) 0 (by decide)) (eX_Stair (c := 4) (by decide)) rfl 6 (by decide) w160 rfl dX5_take_45 ?_
      refine lv_iload_n hx hb dX5_take_48 rfl (lv_at hl 2 rfl) ?_
      refine lv_bipush (v := 99) hx hb dX5_take_49 (by decide) ?_
      obtain ⟨q9, h⟩ := chk_ok h
      refine r_iast (i := p1) (x := 99) (h := M8 7) (f' := eX g a (mp M8 7 (Int32.toNatClampNeg p1) 99)) hx hb hK hI (fun _ h => aA_in h) hP hS 7 (isSt_lt (c := 4) (by decide) 3 (by decide)) (eX_Sa3 (c := 4) (by decide)) q9 (eX_ua (fun _ => eX_Sa3 (c := 4) (by decide))) dX5_take_51 (fun H locs hP hS => ?_)
      refine lv_iload_n hx hb dX5_take_52 rfl (lv_at hl 0 rfl) ?_
      rw [hQz]
      exact r_iret (v := (M 7 (Int32.toNatClampNeg p1))) hx hb hr hlk hS ((Prod.mk.inj (Option.some.inj h)).2 ▸ hP) (Prod.mk.inj (Option.some.inj h)).1 dX5_take_53
    · replace h := if_t q5 h
      refine lv_ldc (v := (-1000002)) hx hb hown w140 dX5_take_27 ?_
      rw [hQz]
      exact r_iret (v := (-1000002)) hx hb hr hlk hS ((Prod.mk.inj (Option.some.inj h)).2 ▸ hP) (Prod.mk.inj (Option.some.inj h)).1 dX5_take_29
  · replace h := if_f q3 h
    refine lv_ldc (v := (-1000001)) hx hb hown w73 dX5_take_8 ?_
    rw [hQz]
    exact r_iret (v := (-1000001)) hx hb hr hlk hS ((Prod.mk.inj (Option.some.inj h)).2 ▸ hP) (Prod.mk.inj (Option.some.inj h)).1 dX5_take_10
def rmX5_again : Room := { frames := 3, cells := 0, slots := 0, locals := 104 }
set_option maxHeartbeats 4000000 in
set_option maxRecDepth 100000 in
theorem ok_X5_again (l : Launch) (g : gT) (a : Nat → Nat) (hI : ij 203 a) (p1 : Int32) (p2 : Int32) (M : Mem) (M' : Mem) (r : Int32) (h : fX5_again p1 p2 M = some (r, M')) : MI l yX5_again wsX5_again rmX5_again g 203 a [.ref (a 0), .int p1, .int p2] (wl 203 a (eX g a M)) (wl 203 a (eX g a M')) r := by
  refine MI_of (cc := cX5_again) (maxL := 3) (rt := .int) (by decide) rfl (Nat.le_of_ble_eq_true rfl) ?_
  intro p e s m args below meth c ls hx hb hml hr hlk hts hown hK hP hl
  have hown : s.vm.findClass RX5 = some m.cls := hown
  have hl : lv_has ls 3 [(0, .ref (a 0)), (1, .int p1), (2, .int p2)] := hl
  have hS : va_S (aA 203 a s.heap.size) s.heap s.heap [] := va_S.rf
  have iX2 : ∀ w ∈ wsX20, w ∈ wsX5_again := fun w h => List.mem_cons_of_mem _ (List.mem_append_left _ (List.mem_append_right _ h))
  have iX5 : ∀ w ∈ wsX50, w ∈ wsX5_again := fun w h => List.mem_cons_of_mem _ (List.mem_append_left _ (List.mem_append_left _ (List.mem_append_right _ h)))
  have w73 := hts (.constant RX5 73 (-1000001)) (by decide +kernel)
  have w25 := hts (.fieldLink RX5 25 "StepRiders" "now" "LStepRiders$Stair;") (by decide +kernel)
  have w160 := hts (.fieldLink RX5 160 "StepRiders$Stair" "at" "[I") (by decide +kernel)
  have w32 := hts (.fieldLink RX5 32 "StepRiders" "acts" "LStepRiders$Acts;") (by decide +kernel)
  have w140 := hts (.constant RX5 140 (-1000002)) (by decide +kernel)
  obtain ⟨Qz, hQz⟩ : ∃ Qz : State → Prop, Qz = MQ below (qI g (wl 203 a (eX g a M')) r (aA 203 a s.heap.size)) args s 0 0 (aA 203 a s.heap.size) := ⟨_, rfl⟩
  rw [← hQz]
  unfold fX5_again at h
  refine lv_aload_n hx hb dX5_again_0 rfl (lv_at hl 0 rfl) ?_
  refine lv_iload_n hx hb dX5_again_1 rfl (lv_at hl 1 rfl) ?_
  obtain ⟨r1, e2, h⟩ := bdP_ok h
  refine r_callVi (As := [.int p1]) (rest := []) (ws' := (wl 203 a (eX g a M))) (ok_X5_noRider l g a hI p1 M r1 e2) ⟨hx, hb, hml, hown, hts⟩ (cwV 1 hts gX5_again_X5_noRider rfl rfl rfl (by decide +kernel) ⟨Nat.le_of_ble_eq_true rfl, Nat.le_of_ble_eq_true rfl⟩) hK (r_recv hK hP 0 (by decide) eX_0 (show vwCl[5]? = some (RX5, TX5, 11) from rfl)) hS hP (fun _ hq => aA_mono hS.1 hq) (fun _ h _ => h) rfl hl.1 rfl (Nat.le_of_ble_eq_true rfl) dX5_again_2 ⟨Nat.zero_le _, Nat.zero_le _⟩ (fun H locs hP hS => ?_)
  refine lv_if_ne (x := r1) (tgt := 17) hx hb dX5_again_5 (by decide) (fun q3 => ?_) (fun q3 => ?_)
  · replace h := if_f q3 h
    refine lv_ldc (v := (-1000001)) hx hb hown w73 dX5_again_17 ?_
    rw [hQz]
    exact r_iret (v := (-1000001)) hx hb hr hlk hS ((Prod.mk.inj (Option.some.inj h)).2 ▸ hP) (Prod.mk.inj (Option.some.inj h)).1 dX5_again_19
  · replace h := if_t q3 h
    refine lv_iload_n hx hb dX5_again_8 rfl (lv_at hl 2 rfl) ?_
    refine lv_iconst (v := 0) hx hb dX5_again_9 (by decide) ?_
    refine lv_iconst (v := 1) hx hb dX5_again_10 (by decide) ?_
    obtain ⟨r4, e5, h⟩ := bdP_ok h
    refine r_callSi (As := [.int p2, .int 0, .int 1]) (rest := []) (ws' := (wl 203 a (eX g a M))) (ok_X5_outside l g p2 0 1 r4 e5) ⟨hx, hb, hml, hown, hts⟩ (cwS 3 hts gX5_again_X5_outside rfl rfl rfl (by decide +kernel) ⟨Nat.le_of_ble_eq_true rfl, Nat.le_of_ble_eq_true rfl⟩) hK hS nilP (P_A hS.1) (fun _ _ hk => wl_keep hP hk) rfl hl.1 rfl (Nat.le_of_ble_eq_true rfl) dX5_again_11 ⟨Nat.zero_le _, Nat.zero_le _⟩ (fun H locs hP hS => ?_)
    refine lv_if_eq (x := r4) (tgt := 20) hx hb dX5_again_14 (by decide) (fun q6 => ?_) (fun q6 => ?_)
    · replace h := if_t q6 h
      refine lv_aload_n hx hb dX5_again_20 rfl (lv_at hl 0 rfl) ?_
      refine r_get (v := .ref (a 4)) hx hb hts iX5 hown hK hP 0 (by decide) eX_0 rfl 2 (by decide) w25 rfl dX5_again_21 ?_
      refine r_get (v := .ref (a 7)) hx hb hts iX2 hown hK hP 4 (isSt_lt (c := 4) (by decide) 0 (by decide)) (eX_Stair (c := 4) (by decide)) rfl 6 (by decide) w160 rfl dX5_again_24 ?_
      refine lv_iload_n hx hb dX5_again_27 rfl (lv_at hl 1 rfl) ?_
      obtain ⟨q7, h⟩ := chk_ok h
      refine r_iald (i := p1) (h := M 7) hx hb hK hP 7 (isSt_lt (c := 4) (by decide) 3 (by decide)) (eX_Sa3 (c := 4) (by decide)) q7 dX5_again_28 ?_
      refine lv_bipush (v := 99) hx hb dX5_again_29 (by decide) ?_
      refine lv_icmp_eq (x := (M 7 (Int32.toNatClampNeg p1))) (y := 99) (tgt := 37) hx hb dX5_again_31 (by decide) (fun q8 => ?_) (fun q8 => ?_)
      · replace h := if_t q8 h
        refine lv_aload_n hx hb dX5_again_37 rfl (lv_at hl 0 rfl) ?_
        refine r_get (v := .ref (a 9)) hx hb hts iX5 hown hK hP 0 (by decide) eX_0 rfl 3 (by decide) w32 rfl dX5_again_38 ?_
        refine lv_aload_n hx hb dX5_again_41 rfl (lv_at hl 0 rfl) ?_
        refine r_get (v := .ref (a 4)) hx hb hts iX5 hown hK hP 0 (by decide) eX_0 rfl 2 (by decide) w25 rfl dX5_again_42 ?_
        obtain ⟨M11, e10, h⟩ := bdV_ok h
        refine r_callVv (As := [.ref (a 4)]) (rest := []) (ws' := (wl 203 a (eX g a M11))) (ok_X0_keep l g a hI M M11 e10) ⟨hx, hb, hml, hown, hts⟩ (cwV 1 hts gX5_again_X0_keep rfl rfl rfl (by decide +kernel) ⟨Nat.le_of_ble_eq_true rfl, Nat.le_of_ble_eq_true rfl⟩) hK (r_recv hK hP 9 (by decide) eX_9 (show vwCl[0]? = some (RX0, TX0, 3) from rfl)) hS hP (fun _ hq => aA_mono hS.1 hq) (fun _ h _ => h) rfl hl.1 rfl (Nat.le_of_ble_eq_true rfl) dX5_again_45 ⟨Nat.zero_le _, Nat.zero_le _⟩ (fun H locs hP hS => ?_)
        refine lv_aload_n hx hb dX5_again_48 rfl (lv_at hl 0 rfl) ?_
        refine r_get (v := .ref (a 4)) hx hb hts iX5 hown hK hP 0 (by decide) eX_0 rfl 2 (by decide) w25 rfl dX5_again_49 ?_
        refine lv_iload_n hx hb dX5_again_52 rfl (lv_at hl 1 rfl) ?_
        refine lv_iload_n hx hb dX5_again_53 rfl (lv_at hl 2 rfl) ?_
        obtain ⟨M14, e13, h⟩ := bdV_ok h
        refine r_callVv (As := [.int p1, .int p2]) (rest := []) (ws' := (wl 203 a (eX g a (pS M11 4 M14)))) (ok_X2_sendBack l g (gA a 4) (gA_ij (c := 4) (by decide) hI) p1 p2 (gS M11 4) M14 e13) ⟨hx, hb, hml, hown, hts⟩ (cwV 2 hts gX5_again_X2_sendBack rfl rfl rfl (by decide +kernel) ⟨Nat.le_of_ble_eq_true rfl, Nat.le_of_ble_eq_true rfl⟩) hK (r_recv hK hP 4 (isSt_lt (c := 4) (by decide) 0 (by decide)) (eX_Stair (c := 4) (by decide)) (show vwCl[2]? = some (RX2, TX2, 8) from rfl)) hS (S_cut (c := 4) (by decide) hP) (S_A (c := 4) (by decide) hS.1) (S_join (c := 4) (by decide) hI hP) rfl hl.1 rfl (Nat.le_of_ble_eq_true rfl) dX5_again_54 ⟨Nat.zero_le _, Nat.zero_le _⟩ (fun H locs hP hS => ?_)
        refine lv_aload_n hx hb dX5_again_57 rfl (lv_at hl 0 rfl) ?_
        refine r_get (v := .ref (a 4)) hx hb hts iX5 hown hK hP 0 (by decide) eX_0 rfl 2 (by decide) w25 rfl dX5_again_58 ?_
        refine lv_bipush (v := 99) hx hb dX5_again_61 (by decide) ?_
        obtain ⟨r15, e16, h⟩ := bdP_ok h
        refine r_callVi (As := [.int 99]) (rest := []) (ws' := (wl 203 a (eX g a (pS M11 4 M14)))) (ok_X2_howManyAt l g (gA a 4) (gA_ij (c := 4) (by decide) hI) 99 (gS (pS M11 4 M14) 4) r15 e16) ⟨hx, hb, hml, hown, hts⟩ (cwV 1 hts gX5_again_X2_howManyAt rfl rfl rfl (by decide +kernel) ⟨Nat.le_of_ble_eq_true rfl, Nat.le_of_ble_eq_true rfl⟩) hK (r_recv hK hP 4 (isSt_lt (c := 4) (by decide) 0 (by decide)) (eX_Stair (c := 4) (by decide)) (show vwCl[2]? = some (RX2, TX2, 8) from rfl)) hS (S_cut (c := 4) (by decide) hP) (S_A (c := 4) (by decide) hS.1) (S_keep (c := 4) (by decide) hI hP) rfl hl.1 rfl (Nat.le_of_ble_eq_true rfl) dX5_again_63 ⟨Nat.zero_le _, Nat.zero_le _⟩ (fun H locs hP hS => ?_)
        rw [hQz]
        exact r_iret (v := r15) hx hb hr hlk hS ((Prod.mk.inj (Option.some.inj h)).2 ▸ hP) (Prod.mk.inj (Option.some.inj h)).1 dX5_again_66
      · replace h := if_f q8 h
        refine lv_ldc (v := (-1000002)) hx hb hown w140 dX5_again_34 ?_
        rw [hQz]
        exact r_iret (v := (-1000002)) hx hb hr hlk hS ((Prod.mk.inj (Option.some.inj h)).2 ▸ hP) (Prod.mk.inj (Option.some.inj h)).1 dX5_again_36
    · replace h := if_f q6 h
      refine lv_ldc (v := (-1000001)) hx hb hown w73 dX5_again_17 ?_
      rw [hQz]
      exact r_iret (v := (-1000001)) hx hb hr hlk hS ((Prod.mk.inj (Option.some.inj h)).2 ▸ hP) (Prod.mk.inj (Option.some.inj h)).1 dX5_again_19
def rmX5_undo : Room := { frames := 3, cells := 0, slots := 0, locals := 102 }
set_option maxHeartbeats 4000000 in
set_option maxRecDepth 100000 in
theorem ok_X5_undo (l : Launch) (g : gT) (a : Nat → Nat) (hI : ij 203 a) (M : Mem) (M' : Mem) (r : Int32) (h : fX5_undo M = some (r, M')) : MI l yX5_undo wsX5_undo rmX5_undo g 203 a [.ref (a 0)] (wl 203 a (eX g a M)) (wl 203 a (eX g a M')) r := by
  refine MI_of (cc := cX5_undo) (maxL := 1) (rt := .int) (by decide) rfl (Nat.le_of_ble_eq_true rfl) ?_
  intro p e s m args below meth c ls hx hb hml hr hlk hts hown hK hP hl
  have hown : s.vm.findClass RX5 = some m.cls := hown
  have hl : lv_has ls 1 [(0, .ref (a 0))] := hl
  have hS : va_S (aA 203 a s.heap.size) s.heap s.heap [] := va_S.rf
  have iX0 : ∀ w ∈ wsX00, w ∈ wsX5_undo := fun w h => List.mem_cons_of_mem _ (List.mem_append_left _ (List.mem_append_right _ h))
  have iX5 : ∀ w ∈ wsX50, w ∈ wsX5_undo := fun w h => List.mem_cons_of_mem _ (List.mem_append_left _ (List.mem_append_left _ (List.mem_append_right _ h)))
  have w32 := hts (.fieldLink RX5 32 "StepRiders" "acts" "LStepRiders$Acts;") (by decide +kernel)
  have w172 := hts (.fieldLink RX5 172 "StepRiders$Acts" "kept" "I") (by decide +kernel)
  have w25 := hts (.fieldLink RX5 25 "StepRiders" "now" "LStepRiders$Stair;") (by decide +kernel)
  have w140 := hts (.constant RX5 140 (-1000002)) (by decide +kernel)
  obtain ⟨Qz, hQz⟩ : ∃ Qz : State → Prop, Qz = MQ below (qI g (wl 203 a (eX g a M')) r (aA 203 a s.heap.size)) args s 0 0 (aA 203 a s.heap.size) := ⟨_, rfl⟩
  rw [← hQz]
  unfold fX5_undo at h
  refine lv_aload_n hx hb dX5_undo_0 rfl (lv_at hl 0 rfl) ?_
  refine r_get (v := .ref (a 9)) hx hb hts iX5 hown hK hP 0 (by decide) eX_0 rfl 3 (by decide) w32 rfl dX5_undo_1 ?_
  refine r_get (v := .int (M 9 2)) hx hb hts iX0 hown hK hP 9 (by decide) eX_9 rfl 2 (by decide) w172 rfl dX5_undo_4 ?_
  refine lv_if_ne (x := (M 9 2)) (tgt := 13) hx hb dX5_undo_7 (by decide) (fun q1 => ?_) (fun q1 => ?_)
  · replace h := if_f q1 h
    refine lv_aload_n hx hb dX5_undo_13 rfl (lv_at hl 0 rfl) ?_
    refine r_get (v := .ref (a 9)) hx hb hts iX5 hown hK hP 0 (by decide) eX_0 rfl 3 (by decide) w32 rfl dX5_undo_14 ?_
    refine lv_aload_n hx hb dX5_undo_17 rfl (lv_at hl 0 rfl) ?_
    refine r_get (v := .ref (a 4)) hx hb hts iX5 hown hK hP 0 (by decide) eX_0 rfl 2 (by decide) w25 rfl dX5_undo_18 ?_
    obtain ⟨M4, e3, h⟩ := bdV_ok h
    refine r_callVv (As := [.ref (a 4)]) (rest := []) (ws' := (wl 203 a (eX g a M4))) (ok_X0_takeBack l g a hI M M4 e3) ⟨hx, hb, hml, hown, hts⟩ (cwV 1 hts gX5_undo_X0_takeBack rfl rfl rfl (by decide +kernel) ⟨Nat.le_of_ble_eq_true rfl, Nat.le_of_ble_eq_true rfl⟩) hK (r_recv hK hP 9 (by decide) eX_9 (show vwCl[0]? = some (RX0, TX0, 3) from rfl)) hS hP (fun _ hq => aA_mono hS.1 hq) (fun _ h _ => h) rfl hl.1 rfl (Nat.le_of_ble_eq_true rfl) dX5_undo_21 ⟨Nat.zero_le _, Nat.zero_le _⟩ (fun H locs hP hS => ?_)
    refine lv_aload_n hx hb dX5_undo_24 rfl (lv_at hl 0 rfl) ?_
    refine r_get (v := .ref (a 9)) hx hb hts iX5 hown hK hP 0 (by decide) eX_0 rfl 3 (by decide) w32 rfl dX5_undo_25 ?_
    refine r_get (v := .int (M4 9 2)) hx hb hts iX0 hown hK hP 9 (by decide) eX_9 rfl 2 (by decide) w172 rfl dX5_undo_28 ?_
    rw [hQz]
    exact r_iret (v := (M4 9 2)) hx hb hr hlk hS ((Prod.mk.inj (Option.some.inj h)).2 ▸ hP) (Prod.mk.inj (Option.some.inj h)).1 dX5_undo_31
  · replace h := if_t q1 h
    refine lv_ldc (v := (-1000002)) hx hb hown w140 dX5_undo_10 ?_
    rw [hQz]
    exact r_iret (v := (-1000002)) hx hb hr hlk hS ((Prod.mk.inj (Option.some.inj h)).2 ▸ hP) (Prod.mk.inj (Option.some.inj h)).1 dX5_undo_12
def rmX5_oneIf : Room := { frames := 1, cells := 0, slots := 0, locals := 60 }
set_option maxHeartbeats 4000000 in
set_option maxRecDepth 100000 in
theorem ok_X5_oneIf (l : Launch) (g : gT) (p0 : Int32) (r : Int32) (h : fX5_oneIf p0 = some r) : MI l yX5_oneIf wsX5_oneIf rmX5_oneIf g 0 (fun _ => 0) [.int p0] ([] : va_W) ([] : va_W) r := by
  refine MI_of (cc := cX5_oneIf) (maxL := 1) (rt := .int) (by decide) rfl (Nat.le_of_ble_eq_true rfl) ?_
  intro p e s m args below meth c ls hx hb hml hr hlk hts hown hK hP hl
  have hown : s.vm.findClass RX5 = some m.cls := hown
  have hl : lv_has ls 1 [(0, .int p0)] := hl
  have hS : va_S (aA 0 (fun _ => 0) s.heap.size) s.heap s.heap [] := va_S.rf
  obtain ⟨Qz, hQz⟩ : ∃ Qz : State → Prop, Qz = MQ below (qI g ([] : va_W) r (aA 0 (fun _ => 0) s.heap.size)) args s 0 0 (aA 0 (fun _ => 0) s.heap.size) := ⟨_, rfl⟩
  rw [← hQz]
  unfold fX5_oneIf at h
  refine lv_iload_n hx hb dX5_oneIf_0 rfl (lv_at hl 0 rfl) ?_
  refine lv_if_eq (x := p0) (tgt := 8) hx hb dX5_oneIf_1 (by decide) (fun q1 => ?_) (fun q1 => ?_)
  · replace h := if_t q1 h
    refine lv_iconst (v := 0) hx hb dX5_oneIf_8 (by decide) ?_
    rw [hQz]
    exact r_iret (v := 0) hx hb hr hlk hS hP (Option.some.inj h) dX5_oneIf_9
  · replace h := if_f q1 h
    refine lv_iconst (v := 1) hx hb dX5_oneIf_4 (by decide) ?_
    refine lv_goto (tgt := 9) hx hb dX5_oneIf_5 (by decide) ?_
    rw [hQz]
    exact r_iret (v := 1) hx hb hr hlk hS hP (Option.some.inj h) dX5_oneIf_9
def rmX5_rider : Room := { frames := 3, cells := 0, slots := 0, locals := 106 }
set_option maxHeartbeats 4000000 in
set_option maxRecDepth 100000 in
theorem ok_X5_rider (l : Launch) (g : gT) (a : Nat → Nat) (hI : ij 203 a) (p1 : Int32) (p2 : Int32) (M : Mem) (r : Int32) (h : fX5_rider p1 p2 M = some r) : MI l yX5_rider wsX5_rider rmX5_rider g 203 a [.ref (a 0), .int p1, .int p2] (wl 203 a (eX g a M)) (wl 203 a (eX g a M)) r := by
  refine MI_of (cc := cX5_rider) (maxL := 3) (rt := .int) (by decide) rfl (Nat.le_of_ble_eq_true rfl) ?_
  intro p e s m args below meth c ls hx hb hml hr hlk hts hown hK hP hl
  have hown : s.vm.findClass RX5 = some m.cls := hown
  have hl : lv_has ls 3 [(0, .ref (a 0)), (1, .int p1), (2, .int p2)] := hl
  have hS : va_S (aA 203 a s.heap.size) s.heap s.heap [] := va_S.rf
  have iX2 : ∀ w ∈ wsX20, w ∈ wsX5_rider := fun w h => List.mem_cons_of_mem _ (List.mem_append_right _ h)
  have iX5 : ∀ w ∈ wsX50, w ∈ wsX5_rider := fun w h => List.mem_cons_of_mem _ (List.mem_append_left _ (List.mem_append_right _ h))
  have w25 := hts (.fieldLink RX5 25 "StepRiders" "now" "LStepRiders$Stair;") (by decide +kernel)
  have w160 := hts (.fieldLink RX5 160 "StepRiders$Stair" "at" "[I") (by decide +kernel)
  have w166 := hts (.fieldLink RX5 166 "StepRiders$Stair" "lane" "[I") (by decide +kernel)
  have w73 := hts (.constant RX5 73 (-1000001)) (by decide +kernel)
  obtain ⟨Qz, hQz⟩ : ∃ Qz : State → Prop, Qz = MQ below (qI g (wl 203 a (eX g a M)) r (aA 203 a s.heap.size)) args s 0 0 (aA 203 a s.heap.size) := ⟨_, rfl⟩
  rw [← hQz]
  unfold fX5_rider at h
  refine lv_aload_n hx hb dX5_rider_0 rfl (lv_at hl 0 rfl) ?_
  refine lv_iload_n hx hb dX5_rider_1 rfl (lv_at hl 1 rfl) ?_
  obtain ⟨r1, e2, h⟩ := bdP_ok h
  refine r_callVi (As := [.int p1]) (rest := []) (ws' := (wl 203 a (eX g a M))) (ok_X5_noRider l g a hI p1 M r1 e2) ⟨hx, hb, hml, hown, hts⟩ (cwV 1 hts gX5_rider_X5_noRider rfl rfl rfl (by decide +kernel) ⟨Nat.le_of_ble_eq_true rfl, Nat.le_of_ble_eq_true rfl⟩) hK (r_recv hK hP 0 (by decide) eX_0 (show vwCl[5]? = some (RX5, TX5, 11) from rfl)) hS hP (fun _ hq => aA_mono hS.1 hq) (fun _ h _ => h) rfl hl.1 rfl (Nat.le_of_ble_eq_true rfl) dX5_rider_2 ⟨Nat.zero_le _, Nat.zero_le _⟩ (fun H locs hP hS => ?_)
  refine lv_if_eq (x := r1) (tgt := 11) hx hb dX5_rider_5 (by decide) (fun q3 => ?_) (fun q3 => ?_)
  · replace h := if_t q3 h
    refine lv_iload_n hx hb dX5_rider_11 rfl (lv_at hl 2 rfl) ?_
    by_cases q4 : p2 = 0
    · replace h := if_t q4 h
      refine lv_tableIn (x := p2) (tgt := 44) (off := 32) hx hb dX5_rider_12 (by rw [q4]; decide) (by rw [q4]; decide) (by rw [q4]; decide) (by decide) ?_
      refine lv_aload_n hx hb dX5_rider_44 rfl (lv_at hl 0 rfl) ?_
      refine r_get (v := .ref (a 4)) hx hb hts iX5 hown hK hP 0 (by decide) eX_0 rfl 2 (by decide) w25 rfl dX5_rider_45 ?_
      refine r_get (v := .ref (a 7)) hx hb hts iX2 hown hK hP 4 (isSt_lt (c := 4) (by decide) 0 (by decide)) (eX_Stair (c := 4) (by decide)) rfl 6 (by decide) w160 rfl dX5_rider_48 ?_
      refine lv_iload_n hx hb dX5_rider_51 rfl (lv_at hl 1 rfl) ?_
      obtain ⟨q5, h⟩ := chk_ok h
      refine r_iald (i := p1) (h := M 7) hx hb hK hP 7 (isSt_lt (c := 4) (by decide) 3 (by decide)) (eX_Sa3 (c := 4) (by decide)) q5 dX5_rider_52 ?_
      rw [hQz]
      exact r_iret (v := (M 7 (Int32.toNatClampNeg p1))) hx hb hr hlk hS hP (Option.some.inj h) dX5_rider_53
    replace h := if_f q4 h
    by_cases q6 : p2 = 1
    · replace h := if_t q6 h
      refine lv_tableIn (x := p2) (tgt := 54) (off := 42) hx hb dX5_rider_12 (by rw [q6]; decide) (by rw [q6]; decide) (by rw [q6]; decide) (by decide) ?_
      refine lv_aload_n hx hb dX5_rider_54 rfl (lv_at hl 0 rfl) ?_
      refine r_get (v := .ref (a 4)) hx hb hts iX5 hown hK hP 0 (by decide) eX_0 rfl 2 (by decide) w25 rfl dX5_rider_55 ?_
      refine r_get (v := .ref (a 6)) hx hb hts iX2 hown hK hP 4 (isSt_lt (c := 4) (by decide) 0 (by decide)) (eX_Stair (c := 4) (by decide)) rfl 5 (by decide) w166 rfl dX5_rider_58 ?_
      refine lv_iload_n hx hb dX5_rider_61 rfl (lv_at hl 1 rfl) ?_
      obtain ⟨q7, h⟩ := chk_ok h
      refine r_iald (i := p1) (h := M 6) hx hb hK hP 6 (isSt_lt (c := 4) (by decide) 2 (by decide)) (eX_Sa2 (c := 4) (by decide)) q7 dX5_rider_62 ?_
      rw [hQz]
      exact r_iret (v := (M 6 (Int32.toNatClampNeg p1))) hx hb hr hlk hS hP (Option.some.inj h) dX5_rider_63
    replace h := if_f q6 h
    by_cases q8 : p2 = 2
    · replace h := if_t q8 h
      refine lv_tableIn (x := p2) (tgt := 64) (off := 52) hx hb dX5_rider_12 (by rw [q8]; decide) (by rw [q8]; decide) (by rw [q8]; decide) (by decide) ?_
      refine lv_aload_n hx hb dX5_rider_64 rfl (lv_at hl 0 rfl) ?_
      refine r_get (v := .ref (a 4)) hx hb hts iX5 hown hK hP 0 (by decide) eX_0 rfl 2 (by decide) w25 rfl dX5_rider_65 ?_
      refine lv_iload_n hx hb dX5_rider_68 rfl (lv_at hl 1 rfl) ?_
      obtain ⟨r9, e10, h⟩ := bdP_ok h
      refine r_callVi (As := [.int p1]) (rest := []) (ws' := (wl 203 a (eX g a M))) (ok_X2_takesBoth l g (gA a 4) (gA_ij (c := 4) (by decide) hI) p1 (gS M 4) r9 e10) ⟨hx, hb, hml, hown, hts⟩ (cwV 1 hts gX5_rider_X2_takesBoth rfl rfl rfl (by decide +kernel) ⟨Nat.le_of_ble_eq_true rfl, Nat.le_of_ble_eq_true rfl⟩) hK (r_recv hK hP 4 (isSt_lt (c := 4) (by decide) 0 (by decide)) (eX_Stair (c := 4) (by decide)) (show vwCl[2]? = some (RX2, TX2, 8) from rfl)) hS (S_cut (c := 4) (by decide) hP) (S_A (c := 4) (by decide) hS.1) (S_keep (c := 4) (by decide) hI hP) rfl hl.1 rfl (Nat.le_of_ble_eq_true rfl) dX5_rider_69 ⟨Nat.zero_le _, Nat.zero_le _⟩ (fun H locs hP hS => ?_)
      obtain ⟨r11, e12, h⟩ := bdP_ok h
      refine r_callSi (As := [.int r9]) (rest := []) (ws' := (wl 203 a (eX g a M))) (ok_X5_oneIf l g r9 r11 e12) ⟨hx, hb, hml, hown, hts⟩ (cwS 1 hts gX5_rider_X5_oneIf rfl rfl rfl (by decide +kernel) ⟨Nat.le_of_ble_eq_true rfl, Nat.le_of_ble_eq_true rfl⟩) hK hS nilP (P_A hS.1) (fun _ _ hk => wl_keep hP hk) rfl hl.1 rfl (Nat.le_of_ble_eq_true rfl) dX5_rider_72 ⟨Nat.zero_le _, Nat.zero_le _⟩ (fun H locs hP hS => ?_)
      rw [hQz]
      exact r_iret (v := r11) hx hb hr hlk hS hP (Option.some.inj h) dX5_rider_75
    replace h := if_f q8 h
    by_cases q13 : p2 = 3
    · replace h := if_t q13 h
      refine lv_tableIn (x := p2) (tgt := 76) (off := 64) hx hb dX5_rider_12 (by rw [q13]; decide) (by rw [q13]; decide) (by rw [q13]; decide) (by decide) ?_
      refine lv_aload_n hx hb dX5_rider_76 rfl (lv_at hl 0 rfl) ?_
      refine r_get (v := .ref (a 4)) hx hb hts iX5 hown hK hP 0 (by decide) eX_0 rfl 2 (by decide) w25 rfl dX5_rider_77 ?_
      refine lv_iload_n hx hb dX5_rider_80 rfl (lv_at hl 1 rfl) ?_
      obtain ⟨r14, e15, h⟩ := bdP_ok h
      refine r_callVi (As := [.int p1]) (rest := []) (ws' := (wl 203 a (eX g a M))) (ok_X2_isOn l g (gA a 4) (gA_ij (c := 4) (by decide) hI) p1 (gS M 4) r14 e15) ⟨hx, hb, hml, hown, hts⟩ (cwV 1 hts gX5_rider_X2_isOn rfl rfl rfl (by decide +kernel) ⟨Nat.le_of_ble_eq_true rfl, Nat.le_of_ble_eq_true rfl⟩) hK (r_recv hK hP 4 (isSt_lt (c := 4) (by decide) 0 (by decide)) (eX_Stair (c := 4) (by decide)) (show vwCl[2]? = some (RX2, TX2, 8) from rfl)) hS (S_cut (c := 4) (by decide) hP) (S_A (c := 4) (by decide) hS.1) (S_keep (c := 4) (by decide) hI hP) rfl hl.1 rfl (Nat.le_of_ble_eq_true rfl) dX5_rider_81 ⟨Nat.zero_le _, Nat.zero_le _⟩ (fun H locs hP hS => ?_)
      refine lv_if_eq (x := r14) (tgt := 113) hx hb dX5_rider_84 (by decide) (fun q16 => ?_) (fun q16 => ?_)
      · replace h := if_t q16 h
        refine lv_iconst (v := 0) hx hb dX5_rider_113 (by decide) ?_
        obtain ⟨r17, e18, h⟩ := bdP_ok h
        refine r_callSi (As := [.int 0]) (rest := []) (ws' := (wl 203 a (eX g a M))) (ok_X5_oneIf l g 0 r17 e18) ⟨hx, hb, hml, hown, hts⟩ (cwS 1 hts gX5_rider_X5_oneIf rfl rfl rfl (by decide +kernel) ⟨Nat.le_of_ble_eq_true rfl, Nat.le_of_ble_eq_true rfl⟩) hK hS nilP (P_A hS.1) (fun _ _ hk => wl_keep hP hk) rfl hl.1 rfl (Nat.le_of_ble_eq_true rfl) dX5_rider_114 ⟨Nat.zero_le _, Nat.zero_le _⟩ (fun H locs hP hS => ?_)
        rw [hQz]
        exact r_iret (v := r17) hx hb hr hlk hS hP (Option.some.inj h) dX5_rider_117
      · replace h := if_f q16 h
        refine lv_aload_n hx hb dX5_rider_87 rfl (lv_at hl 0 rfl) ?_
        refine r_get (v := .ref (a 4)) hx hb hts iX5 hown hK hP 0 (by decide) eX_0 rfl 2 (by decide) w25 rfl dX5_rider_88 ?_
        refine lv_iload_n hx hb dX5_rider_91 rfl (lv_at hl 1 rfl) ?_
        refine lv_aload_n hx hb dX5_rider_92 rfl (lv_at hl 0 rfl) ?_
        refine r_get (v := .ref (a 4)) hx hb hts iX5 hown hK hP 0 (by decide) eX_0 rfl 2 (by decide) w25 rfl dX5_rider_93 ?_
        refine r_get (v := .ref (a 7)) hx hb hts iX2 hown hK hP 4 (isSt_lt (c := 4) (by decide) 0 (by decide)) (eX_Stair (c := 4) (by decide)) rfl 6 (by decide) w160 rfl dX5_rider_96 ?_
        refine lv_iload_n hx hb dX5_rider_99 rfl (lv_at hl 1 rfl) ?_
        obtain ⟨q19, h⟩ := chk_ok h
        refine r_iald (i := p1) (h := M 7) hx hb hK hP 7 (isSt_lt (c := 4) (by decide) 3 (by decide)) (eX_Sa3 (c := 4) (by decide)) q19 dX5_rider_100 ?_
        refine lv_iconst (v := 1) hx hb dX5_rider_101 (by decide) ?_
        refine lv_iadd (x := (M 7 (Int32.toNatClampNeg p1))) (y := 1) hx hb dX5_rider_102 ?_
        obtain ⟨r20, e21, h⟩ := bdP_ok h
        refine r_callVi (As := [.int p1, .int ((M 7 (Int32.toNatClampNeg p1)) + 1)]) (rest := []) (ws' := (wl 203 a (eX g a M))) (ok_X2_mayGo l g (gA a 4) (gA_ij (c := 4) (by decide) hI) p1 ((M 7 (Int32.toNatClampNeg p1)) + 1) (gS M 4) r20 e21) ⟨hx, hb, hml, hown, hts⟩ (cwV 2 hts gX5_rider_X2_mayGo rfl rfl rfl (by decide +kernel) ⟨Nat.le_of_ble_eq_true rfl, Nat.le_of_ble_eq_true rfl⟩) hK (r_recv hK hP 4 (isSt_lt (c := 4) (by decide) 0 (by decide)) (eX_Stair (c := 4) (by decide)) (show vwCl[2]? = some (RX2, TX2, 8) from rfl)) hS (S_cut (c := 4) (by decide) hP) (S_A (c := 4) (by decide) hS.1) (S_keep (c := 4) (by decide) hI hP) rfl hl.1 rfl (Nat.le_of_ble_eq_true rfl) dX5_rider_103 ⟨Nat.zero_le _, Nat.zero_le _⟩ (fun H locs hP hS => ?_)
        refine lv_if_eq (x := r20) (tgt := 113) hx hb dX5_rider_106 (by decide) (fun q22 => ?_) (fun q22 => ?_)
        · replace h := if_t q22 h
          refine lv_iconst (v := 0) hx hb dX5_rider_113 (by decide) ?_
          obtain ⟨r23, e24, h⟩ := bdP_ok h
          refine r_callSi (As := [.int 0]) (rest := []) (ws' := (wl 203 a (eX g a M))) (ok_X5_oneIf l g 0 r23 e24) ⟨hx, hb, hml, hown, hts⟩ (cwS 1 hts gX5_rider_X5_oneIf rfl rfl rfl (by decide +kernel) ⟨Nat.le_of_ble_eq_true rfl, Nat.le_of_ble_eq_true rfl⟩) hK hS nilP (P_A hS.1) (fun _ _ hk => wl_keep hP hk) rfl hl.1 rfl (Nat.le_of_ble_eq_true rfl) dX5_rider_114 ⟨Nat.zero_le _, Nat.zero_le _⟩ (fun H locs hP hS => ?_)
          rw [hQz]
          exact r_iret (v := r23) hx hb hr hlk hS hP (Option.some.inj h) dX5_rider_117
        · replace h := if_f q22 h
          refine lv_iconst (v := 1) hx hb dX5_rider_109 (by decide) ?_
          refine lv_goto (tgt := 114) hx hb dX5_rider_110 (by decide) ?_
          obtain ⟨r25, e26, h⟩ := bdP_ok h
          refine r_callSi (As := [.int 1]) (rest := []) (ws' := (wl 203 a (eX g a M))) (ok_X5_oneIf l g 1 r25 e26) ⟨hx, hb, hml, hown, hts⟩ (cwS 1 hts gX5_rider_X5_oneIf rfl rfl rfl (by decide +kernel) ⟨Nat.le_of_ble_eq_true rfl, Nat.le_of_ble_eq_true rfl⟩) hK hS nilP (P_A hS.1) (fun _ _ hk => wl_keep hP hk) rfl hl.1 rfl (Nat.le_of_ble_eq_true rfl) dX5_rider_114 ⟨Nat.zero_le _, Nat.zero_le _⟩ (fun H locs hP hS => ?_)
          rw [hQz]
          exact r_iret (v := r25) hx hb hr hlk hS hP (Option.some.inj h) dX5_rider_117
    replace h := if_f q13 h
    have tq4 := lv_neT q4 (show (0 : Int32).toInt = 0 from rfl)
    have tq6 := lv_neT q6 (show (1 : Int32).toInt = 1 from rfl)
    have tq8 := lv_neT q8 (show (2 : Int32).toInt = 2 from rfl)
    have tq13 := lv_neT q13 (show (3 : Int32).toInt = 3 from rfl)
    refine lv_tableOut (x := p2) (tgt := 118) hx hb dX5_rider_12 (by omega) (by decide) ?_
    refine lv_ldc (v := (-1000001)) hx hb hown w73 dX5_rider_118 ?_
    rw [hQz]
    exact r_iret (v := (-1000001)) hx hb hr hlk hS hP (Option.some.inj h) dX5_rider_120
  · replace h := if_f q3 h
    refine lv_ldc (v := (-1000001)) hx hb hown w73 dX5_rider_8 ?_
    rw [hQz]
    exact r_iret (v := (-1000001)) hx hb hr hlk hS hP (Option.some.inj h) dX5_rider_10
def rmX5_step : Room := { frames := 3, cells := 0, slots := 0, locals := 105 }
set_option maxHeartbeats 4000000 in
set_option maxRecDepth 100000 in
theorem ok_X5_step (l : Launch) (g : gT) (a : Nat → Nat) (hI : ij 203 a) (p1 : Int32) (p2 : Int32) (M : Mem) (r : Int32) (h : fX5_step p1 p2 M = some r) : MI l yX5_step wsX5_step rmX5_step g 203 a [.ref (a 0), .int p1, .int p2] (wl 203 a (eX g a M)) (wl 203 a (eX g a M)) r := by
  refine MI_of (cc := cX5_step) (maxL := 3) (rt := .int) (by decide) rfl (Nat.le_of_ble_eq_true rfl) ?_
  intro p e s m args below meth c ls hx hb hml hr hlk hts hown hK hP hl
  have hown : s.vm.findClass RX5 = some m.cls := hown
  have hl : lv_has ls 3 [(0, .ref (a 0)), (1, .int p1), (2, .int p2)] := hl
  have hS : va_S (aA 203 a s.heap.size) s.heap s.heap [] := va_S.rf
  have iX2 : ∀ w ∈ wsX20, w ∈ wsX5_step := fun w h => List.mem_cons_of_mem _ (List.mem_append_right _ h)
  have iX5 : ∀ w ∈ wsX50, w ∈ wsX5_step := fun w h => List.mem_cons_of_mem _ (List.mem_append_left _ (List.mem_append_right _ h))
  have w25 := hts (.fieldLink RX5 25 "StepRiders" "now" "LStepRiders$Stair;") (by decide +kernel)
  have w191 := hts (.fieldLink RX5 191 "StepRiders$Stair" "steps" "I") (by decide +kernel)
  have w73 := hts (.constant RX5 73 (-1000001)) (by decide +kernel)
  obtain ⟨Qz, hQz⟩ : ∃ Qz : State → Prop, Qz = MQ below (qI g (wl 203 a (eX g a M)) r (aA 203 a s.heap.size)) args s 0 0 (aA 203 a s.heap.size) := ⟨_, rfl⟩
  rw [← hQz]
  unfold fX5_step at h
  refine lv_iload_n hx hb dX5_step_0 rfl (lv_at hl 1 rfl) ?_
  refine lv_iconst (v := 0) hx hb dX5_step_1 (by decide) ?_
  refine lv_aload_n hx hb dX5_step_2 rfl (lv_at hl 0 rfl) ?_
  refine r_get (v := .ref (a 4)) hx hb hts iX5 hown hK hP 0 (by decide) eX_0 rfl 2 (by decide) w25 rfl dX5_step_3 ?_
  refine r_get (v := .int (M 4 0)) hx hb hts iX2 hown hK hP 4 (isSt_lt (c := 4) (by decide) 0 (by decide)) (eX_Stair (c := 4) (by decide)) rfl 0 (by decide) w191 rfl dX5_step_6 ?_
  refine lv_iconst (v := 1) hx hb dX5_step_9 (by decide) ?_
  refine lv_isub (x := (M 4 0)) (y := 1) hx hb dX5_step_10 ?_
  obtain ⟨r1, e2, h⟩ := bdP_ok h
  refine r_callSi (As := [.int p1, .int 0, .int ((M 4 0) - 1)]) (rest := []) (ws' := (wl 203 a (eX g a M))) (ok_X5_outside l g p1 0 ((M 4 0) - 1) r1 e2) ⟨hx, hb, hml, hown, hts⟩ (cwS 3 hts gX5_step_X5_outside rfl rfl rfl (by decide +kernel) ⟨Nat.le_of_ble_eq_true rfl, Nat.le_of_ble_eq_true rfl⟩) hK hS nilP (P_A hS.1) (fun _ _ hk => wl_keep hP hk) rfl hl.1 rfl (Nat.le_of_ble_eq_true rfl) dX5_step_11 ⟨Nat.zero_le _, Nat.zero_le _⟩ (fun H locs hP hS => ?_)
  refine lv_if_ne (x := r1) (tgt := 26) hx hb dX5_step_14 (by decide) (fun q3 => ?_) (fun q3 => ?_)
  · replace h := if_f q3 h
    refine lv_ldc (v := (-1000001)) hx hb hown w73 dX5_step_26 ?_
    rw [hQz]
    exact r_iret (v := (-1000001)) hx hb hr hlk hS hP (Option.some.inj h) dX5_step_28
  · replace h := if_t q3 h
    refine lv_iload_n hx hb dX5_step_17 rfl (lv_at hl 2 rfl) ?_
    refine lv_iconst (v := 0) hx hb dX5_step_18 (by decide) ?_
    refine lv_iconst (v := 1) hx hb dX5_step_19 (by decide) ?_
    obtain ⟨r4, e5, h⟩ := bdP_ok h
    refine r_callSi (As := [.int p2, .int 0, .int 1]) (rest := []) (ws' := (wl 203 a (eX g a M))) (ok_X5_outside l g p2 0 1 r4 e5) ⟨hx, hb, hml, hown, hts⟩ (cwS 3 hts gX5_step_X5_outside rfl rfl rfl (by decide +kernel) ⟨Nat.le_of_ble_eq_true rfl, Nat.le_of_ble_eq_true rfl⟩) hK hS nilP (P_A hS.1) (fun _ _ hk => wl_keep hP hk) rfl hl.1 rfl (Nat.le_of_ble_eq_true rfl) dX5_step_20 ⟨Nat.zero_le _, Nat.zero_le _⟩ (fun H locs hP hS => ?_)
    refine lv_if_eq (x := r4) (tgt := 29) hx hb dX5_step_23 (by decide) (fun q6 => ?_) (fun q6 => ?_)
    · replace h := if_t q6 h
      refine lv_aload_n hx hb dX5_step_29 rfl (lv_at hl 0 rfl) ?_
      refine r_get (v := .ref (a 4)) hx hb hts iX5 hown hK hP 0 (by decide) eX_0 rfl 2 (by decide) w25 rfl dX5_step_30 ?_
      refine lv_iload_n hx hb dX5_step_33 rfl (lv_at hl 1 rfl) ?_
      refine lv_iload_n hx hb dX5_step_34 rfl (lv_at hl 2 rfl) ?_
      obtain ⟨r7, e8, h⟩ := bdP_ok h
      refine r_callVi (As := [.int p1, .int p2]) (rest := []) (ws' := (wl 203 a (eX g a M))) (ok_X2_whoTakes l g (gA a 4) (gA_ij (c := 4) (by decide) hI) p1 p2 (gS M 4) r7 e8) ⟨hx, hb, hml, hown, hts⟩ (cwV 2 hts gX5_step_X2_whoTakes rfl rfl rfl (by decide +kernel) ⟨Nat.le_of_ble_eq_true rfl, Nat.le_of_ble_eq_true rfl⟩) hK (r_recv hK hP 4 (isSt_lt (c := 4) (by decide) 0 (by decide)) (eX_Stair (c := 4) (by decide)) (show vwCl[2]? = some (RX2, TX2, 8) from rfl)) hS (S_cut (c := 4) (by decide) hP) (S_A (c := 4) (by decide) hS.1) (S_keep (c := 4) (by decide) hI hP) rfl hl.1 rfl (Nat.le_of_ble_eq_true rfl) dX5_step_35 ⟨Nat.zero_le _, Nat.zero_le _⟩ (fun H locs hP hS => ?_)
      rw [hQz]
      exact r_iret (v := r7) hx hb hr hlk hS hP (Option.some.inj h) dX5_step_38
    · replace h := if_f q6 h
      refine lv_ldc (v := (-1000001)) hx hb hown w73 dX5_step_26 ?_
      rw [hQz]
      exact r_iret (v := (-1000001)) hx hb hr hlk hS hP (Option.some.inj h) dX5_step_28
def rmX5_tryTicks : Room := { frames := 5, cells := 0, slots := 0, locals := 152 }
set_option maxHeartbeats 4000000 in
set_option maxRecDepth 100000 in
theorem ok_X5_tryTicks (l : Launch) (g : gT) (a : Nat → Nat) (hI : ij 203 a) (p1 : Int32) (M : Mem) (M' : Mem) (h : fX5_tryTicks p1 M = some M') : MV l yX5_tryTicks wsX5_tryTicks rmX5_tryTicks g 203 a [.ref (a 0), .int p1] (wl 203 a (eX g a M)) (wl 203 a (eX g a M')) := by
  refine MV_of (cc := cX5_tryTicks) (maxL := 3) (by decide) rfl (Nat.le_of_ble_eq_true rfl) ?_
  intro p e s m args below meth c ls hx hb hml hr hlk hts hown hK hP hl
  have hown : s.vm.findClass RX5 = some m.cls := hown
  have hl : lv_has ls 3 [(0, .ref (a 0)), (1, .int p1)] := hl
  have hS : va_S (aA 203 a s.heap.size) s.heap s.heap [] := va_S.rf
  have iX5 : ∀ w ∈ wsX50, w ∈ wsX5_tryTicks := fun w h => List.mem_cons_of_mem _ (List.mem_append_left _ (List.mem_append_right _ h))
  have w47 := hts (.fieldLink RX5 47 "StepRiders" "trial" "LStepRiders$Stair;") (by decide +kernel)
  have w25 := hts (.fieldLink RX5 25 "StepRiders" "now" "LStepRiders$Stair;") (by decide +kernel)
  obtain ⟨Qz, hQz⟩ : ∃ Qz : State → Prop, Qz = MQ below (qV g (wl 203 a (eX g a M')) (aA 203 a s.heap.size)) args s 0 0 (aA 203 a s.heap.size) := ⟨_, rfl⟩
  rw [← hQz]
  have B13 : ∀ (k13 : Int32 → Mem → Option (Mem)) (C13 : ∀ (x2 : Int32) (M : Mem) (H : Heap) (locs : List Loc) (ls : Array Slot), k13 x2 M = some M' → va_P g.1 vwCl (wl 203 a (eX g a M)) H → va_S (aA 203 a s.heap.size) s.heap H locs → lv_has ls 3 [(0, .ref (a 0)), (1, .int p1), (2, .int x2)] → W p l e rmX5_tryTicks s m args below meth c H locs 0 0 Qz (F0 m 13 ls [])), ∀ (x2 : Int32) (M : Mem) (H : Heap) (locs : List Loc) (ls : Array Slot), fX5_tryTicks_b13 p1 k13 x2 M = some M' → va_P g.1 vwCl (wl 203 a (eX g a M)) H → va_S (aA 203 a s.heap.size) s.heap H locs → lv_has ls 3 [(0, .ref (a 0)), (1, .int p1), (2, .int x2)] → W p l e rmX5_tryTicks s m args below meth c H locs 0 0 Qz (F0 m 13 ls []) := by
    intro k13 C13 x2 M H locs ls h hP hS hl
    unfold fX5_tryTicks_b13 at h
    refine lv_iload_n hx hb dX5_tryTicks_13 rfl (lv_at hl 2 rfl) ?_
    refine lv_iload_n hx hb dX5_tryTicks_14 rfl (lv_at hl 1 rfl) ?_
    refine lv_icmp_ge (x := x2) (y := p1) (tgt := 32) hx hb dX5_tryTicks_15 (by decide) (fun q1 => ?_) (fun q1 => ?_)
    · replace h := if_t q1 h
      rw [hQz]
      exact r_vret hx hb hr hlk hS (Option.some.inj h ▸ hP) dX5_tryTicks_32
    · replace h := if_f q1 h
      refine lv_aload_n hx hb dX5_tryTicks_18 rfl (lv_at hl 0 rfl) ?_
      refine r_get (v := .ref (a 134)) hx hb hts iX5 hown hK hP 0 (by decide) eX_0 rfl 6 (by decide) w47 rfl dX5_tryTicks_19 ?_
      obtain ⟨r2, M4, e3, h⟩ := bdI_ok h
      refine r_callVi (As := []) (rest := []) (ws' := (wl 203 a (eX g a (pS M 134 M4)))) (ok_X2_pass l g (gA a 134) (gA_ij (c := 134) (by decide) hI) (gS M 134) M4 r2 e3) ⟨hx, hb, hml, hown, hts⟩ (cwV 0 hts gX5_tryTicks_X2_pass rfl rfl rfl (by decide +kernel) ⟨Nat.le_of_ble_eq_true rfl, Nat.le_of_ble_eq_true rfl⟩) hK (r_recv hK hP 134 (isSt_lt (c := 134) (by decide) 0 (by decide)) (eX_Stair (c := 134) (by decide)) (show vwCl[2]? = some (RX2, TX2, 8) from rfl)) hS (S_cut (c := 134) (by decide) hP) (S_A (c := 134) (by decide) hS.1) (S_join (c := 134) (by decide) hI hP) rfl hl.1 rfl (Nat.le_of_ble_eq_true rfl) dX5_tryTicks_22 ⟨Nat.zero_le _, Nat.zero_le _⟩ (fun H locs hP hS => ?_)
      refine lv_pop hx hb dX5_tryTicks_25 rfl ?_
      refine lv_iinc (v := (x2 + 1)) (lv' := [(2, .int (x2 + 1)), (0, .ref (a 0)), (1, .int p1)]) hx hb dX5_tryTicks_26 hl (k := 2) rfl rfl (by decide) rfl (fun ls hl => ?_)
      refine lv_goto (tgt := 13) hx hb dX5_tryTicks_29 (by decide) ?_
      exact C13 (x2 + 1) (pS M 134 M4) _ _ _ h hP hS (lv_sub hl [1, 2, 0] rfl)
  have L13 : ∀ (n : Nat), ∀ (x2 : Int32) (M : Mem) (H : Heap) (locs : List Loc) (ls : Array Slot), fX5_tryTicks_l13 p1 n x2 M = some M' → va_P g.1 vwCl (wl 203 a (eX g a M)) H → va_S (aA 203 a s.heap.size) s.heap H locs → lv_has ls 3 [(0, .ref (a 0)), (1, .int p1), (2, .int x2)] → W p l e rmX5_tryTicks s m args below meth c H locs 0 0 Qz (F0 m 13 ls []) := by
    intro n
    induction n with
    | zero => intro x2 M H locs ls h; exact absurd (show (none : Option (Mem)) = some _ from h) (fun z => by cases z)
    | succ n ih => exact fun x2 M H locs ls h hP hS hl => B13 (fX5_tryTicks_l13 p1 n) ih x2 M H locs ls h hP hS hl
  unfold fX5_tryTicks at h
  refine lv_aload_n hx hb dX5_tryTicks_0 rfl (lv_at hl 0 rfl) ?_
  refine r_get (v := .ref (a 134)) hx hb hts iX5 hown hK hP 0 (by decide) eX_0 rfl 6 (by decide) w47 rfl dX5_tryTicks_1 ?_
  refine lv_aload_n hx hb dX5_tryTicks_4 rfl (lv_at hl 0 rfl) ?_
  refine r_get (v := .ref (a 4)) hx hb hts iX5 hown hK hP 0 (by decide) eX_0 rfl 2 (by decide) w25 rfl dX5_tryTicks_5 ?_
  obtain ⟨M3, e2, h⟩ := bdV_ok h
  refine r_callVv (As := [.ref (a 4)]) (rest := []) (ws' := (wl 203 a (eX g a M3))) (ok_X2_become l g a hI 134 4 M M3 (by decide) (by decide) e2) ⟨hx, hb, hml, hown, hts⟩ (cwV 1 hts gX5_tryTicks_X2_become rfl rfl rfl (by decide +kernel) ⟨Nat.le_of_ble_eq_true rfl, Nat.le_of_ble_eq_true rfl⟩) hK (r_recv hK hP 134 (isSt_lt (c := 134) (by decide) 0 (by decide)) (eX_Stair (c := 134) (by decide)) (show vwCl[2]? = some (RX2, TX2, 8) from rfl)) hS hP (fun _ hq => aA_mono hS.1 hq) (fun _ h _ => h) rfl hl.1 rfl (Nat.le_of_ble_eq_true rfl) dX5_tryTicks_8 ⟨Nat.zero_le _, Nat.zero_le _⟩ (fun H locs hP hS => ?_)
  refine lv_iconst (v := 0) hx hb dX5_tryTicks_11 (by decide) ?_
  refine lv_istore_n (lv' := [(2, .int 0), (0, .ref (a 0)), (1, .int p1)]) hx hb dX5_tryTicks_12 rfl hl (by decide) rfl (fun ls hl => ?_)
  exact L13 FU 0 M3 _ _ _ h hP hS (lv_sub hl [1, 2, 0] rfl)
def rmX5_ahead : Room := { frames := 6, cells := 0, slots := 0, locals := 174 }
set_option maxHeartbeats 4000000 in
set_option maxRecDepth 100000 in
theorem ok_X5_ahead (l : Launch) (g : gT) (a : Nat → Nat) (hI : ij 203 a) (p1 : Int32) (p2 : Int32) (M : Mem) (M' : Mem) (r : Int32) (h : fX5_ahead p1 p2 M = some (r, M')) : MI l yX5_ahead wsX5_ahead rmX5_ahead g 203 a [.ref (a 0), .int p1, .int p2] (wl 203 a (eX g a M)) (wl 203 a (eX g a M')) r := by
  refine MI_of (cc := cX5_ahead) (maxL := 3) (rt := .int) (by decide) rfl (Nat.le_of_ble_eq_true rfl) ?_
  intro p e s m args below meth c ls hx hb hml hr hlk hts hown hK hP hl
  have hown : s.vm.findClass RX5 = some m.cls := hown
  have hl : lv_has ls 3 [(0, .ref (a 0)), (1, .int p1), (2, .int p2)] := hl
  have hS : va_S (aA 203 a s.heap.size) s.heap s.heap [] := va_S.rf
  have iX2 : ∀ w ∈ wsX20, w ∈ wsX5_ahead := fun w h => List.mem_cons_of_mem _ (List.mem_append_right _ h)
  have iX5 : ∀ w ∈ wsX50, w ∈ wsX5_ahead := fun w h => List.mem_cons_of_mem _ (List.mem_append_left _ (List.mem_append_right _ h))
  have w73 := hts (.constant RX5 73 (-1000001)) (by decide +kernel)
  have w47 := hts (.fieldLink RX5 47 "StepRiders" "trial" "LStepRiders$Stair;") (by decide +kernel)
  have w160 := hts (.fieldLink RX5 160 "StepRiders$Stair" "at" "[I") (by decide +kernel)
  obtain ⟨Qz, hQz⟩ : ∃ Qz : State → Prop, Qz = MQ below (qI g (wl 203 a (eX g a M')) r (aA 203 a s.heap.size)) args s 0 0 (aA 203 a s.heap.size) := ⟨_, rfl⟩
  rw [← hQz]
  unfold fX5_ahead at h
  refine lv_aload_n hx hb dX5_ahead_0 rfl (lv_at hl 0 rfl) ?_
  refine lv_iload_n hx hb dX5_ahead_1 rfl (lv_at hl 1 rfl) ?_
  obtain ⟨r1, e2, h⟩ := bdP_ok h
  refine r_callVi (As := [.int p1]) (rest := []) (ws' := (wl 203 a (eX g a M))) (ok_X5_noRider l g a hI p1 M r1 e2) ⟨hx, hb, hml, hown, hts⟩ (cwV 1 hts gX5_ahead_X5_noRider rfl rfl rfl (by decide +kernel) ⟨Nat.le_of_ble_eq_true rfl, Nat.le_of_ble_eq_true rfl⟩) hK (r_recv hK hP 0 (by decide) eX_0 (show vwCl[5]? = some (RX5, TX5, 11) from rfl)) hS hP (fun _ hq => aA_mono hS.1 hq) (fun _ h _ => h) rfl hl.1 rfl (Nat.le_of_ble_eq_true rfl) dX5_ahead_2 ⟨Nat.zero_le _, Nat.zero_le _⟩ (fun H locs hP hS => ?_)
  refine lv_if_ne (x := r1) (tgt := 18) hx hb dX5_ahead_5 (by decide) (fun q3 => ?_) (fun q3 => ?_)
  · replace h := if_f q3 h
    refine lv_ldc (v := (-1000001)) hx hb hown w73 dX5_ahead_18 ?_
    rw [hQz]
    exact r_iret (v := (-1000001)) hx hb hr hlk hS ((Prod.mk.inj (Option.some.inj h)).2 ▸ hP) (Prod.mk.inj (Option.some.inj h)).1 dX5_ahead_20
  · replace h := if_t q3 h
    refine lv_iload_n hx hb dX5_ahead_8 rfl (lv_at hl 2 rfl) ?_
    refine lv_iconst (v := 0) hx hb dX5_ahead_9 (by decide) ?_
    refine lv_bipush (v := 60) hx hb dX5_ahead_10 (by decide) ?_
    obtain ⟨r4, e5, h⟩ := bdP_ok h
    refine r_callSi (As := [.int p2, .int 0, .int 60]) (rest := []) (ws' := (wl 203 a (eX g a M))) (ok_X5_outside l g p2 0 60 r4 e5) ⟨hx, hb, hml, hown, hts⟩ (cwS 3 hts gX5_ahead_X5_outside rfl rfl rfl (by decide +kernel) ⟨Nat.le_of_ble_eq_true rfl, Nat.le_of_ble_eq_true rfl⟩) hK hS nilP (P_A hS.1) (fun _ _ hk => wl_keep hP hk) rfl hl.1 rfl (Nat.le_of_ble_eq_true rfl) dX5_ahead_12 ⟨Nat.zero_le _, Nat.zero_le _⟩ (fun H locs hP hS => ?_)
    refine lv_if_eq (x := r4) (tgt := 21) hx hb dX5_ahead_15 (by decide) (fun q6 => ?_) (fun q6 => ?_)
    · replace h := if_t q6 h
      refine lv_aload_n hx hb dX5_ahead_21 rfl (lv_at hl 0 rfl) ?_
      refine lv_iload_n hx hb dX5_ahead_22 rfl (lv_at hl 2 rfl) ?_
      obtain ⟨M9, e8, h⟩ := bdV_ok h
      refine r_callVv (As := [.int p2]) (rest := []) (ws' := (wl 203 a (eX g a M9))) (ok_X5_tryTicks l g a hI p2 M M9 e8) ⟨hx, hb, hml, hown, hts⟩ (cwV 1 hts gX5_ahead_X5_tryTicks rfl rfl rfl (by decide +kernel) ⟨Nat.le_of_ble_eq_true rfl, Nat.le_of_ble_eq_true rfl⟩) hK (r_recv hK hP 0 (by decide) eX_0 (show vwCl[5]? = some (RX5, TX5, 11) from rfl)) hS hP (fun _ hq => aA_mono hS.1 hq) (fun _ h _ => h) rfl hl.1 rfl (Nat.le_of_ble_eq_true rfl) dX5_ahead_23 ⟨Nat.zero_le _, Nat.zero_le _⟩ (fun H locs hP hS => ?_)
      refine lv_aload_n hx hb dX5_ahead_26 rfl (lv_at hl 0 rfl) ?_
      refine r_get (v := .ref (a 134)) hx hb hts iX5 hown hK hP 0 (by decide) eX_0 rfl 6 (by decide) w47 rfl dX5_ahead_27 ?_
      refine r_get (v := .ref (a 137)) hx hb hts iX2 hown hK hP 134 (isSt_lt (c := 134) (by decide) 0 (by decide)) (eX_Stair (c := 134) (by decide)) rfl 6 (by decide) w160 rfl dX5_ahead_30 ?_
      refine lv_iload_n hx hb dX5_ahead_33 rfl (lv_at hl 1 rfl) ?_
      obtain ⟨q10, h⟩ := chk_ok h
      refine r_iald (i := p1) (h := M9 137) hx hb hK hP 137 (isSt_lt (c := 134) (by decide) 3 (by decide)) (eX_Sa3 (c := 134) (by decide)) q10 dX5_ahead_34 ?_
      rw [hQz]
      exact r_iret (v := (M9 137 (Int32.toNatClampNeg p1))) hx hb hr hlk hS ((Prod.mk.inj (Option.some.inj h)).2 ▸ hP) (Prod.mk.inj (Option.some.inj h)).1 dX5_ahead_35
    · replace h := if_f q6 h
      refine lv_ldc (v := (-1000001)) hx hb hown w73 dX5_ahead_18 ?_
      rw [hQz]
      exact r_iret (v := (-1000001)) hx hb hr hlk hS ((Prod.mk.inj (Option.some.inj h)).2 ▸ hP) (Prod.mk.inj (Option.some.inj h)).1 dX5_ahead_20
def rmX5_later : Room := { frames := 6, cells := 0, slots := 0, locals := 174 }
set_option maxHeartbeats 4000000 in
set_option maxRecDepth 100000 in
theorem ok_X5_later (l : Launch) (g : gT) (a : Nat → Nat) (hI : ij 203 a) (p1 : Int32) (p2 : Int32) (M : Mem) (M' : Mem) (r : Int32) (h : fX5_later p1 p2 M = some (r, M')) : MI l yX5_later wsX5_later rmX5_later g 203 a [.ref (a 0), .int p1, .int p2] (wl 203 a (eX g a M)) (wl 203 a (eX g a M')) r := by
  refine MI_of (cc := cX5_later) (maxL := 3) (rt := .int) (by decide) rfl (Nat.le_of_ble_eq_true rfl) ?_
  intro p e s m args below meth c ls hx hb hml hr hlk hts hown hK hP hl
  have hown : s.vm.findClass RX5 = some m.cls := hown
  have hl : lv_has ls 3 [(0, .ref (a 0)), (1, .int p1), (2, .int p2)] := hl
  have hS : va_S (aA 203 a s.heap.size) s.heap s.heap [] := va_S.rf
  have iX5 : ∀ w ∈ wsX50, w ∈ wsX5_later := fun w h => List.mem_cons_of_mem _ (List.mem_append_left _ (List.mem_append_right _ h))
  have w73 := hts (.constant RX5 73 (-1000001)) (by decide +kernel)
  have w47 := hts (.fieldLink RX5 47 "StepRiders" "trial" "LStepRiders$Stair;") (by decide +kernel)
  have w140 := hts (.constant RX5 140 (-1000002)) (by decide +kernel)
  obtain ⟨Qz, hQz⟩ : ∃ Qz : State → Prop, Qz = MQ below (qI g (wl 203 a (eX g a M')) r (aA 203 a s.heap.size)) args s 0 0 (aA 203 a s.heap.size) := ⟨_, rfl⟩
  rw [← hQz]
  unfold fX5_later at h
  refine lv_aload_n hx hb dX5_later_0 rfl (lv_at hl 0 rfl) ?_
  obtain ⟨r1, e2, h⟩ := bdP_ok h
  refine r_callVi (As := []) (rest := []) (ws' := (wl 203 a (eX g a M))) (ok_X5_noStair l g a hI M r1 e2) ⟨hx, hb, hml, hown, hts⟩ (cwV 0 hts gX5_later_X5_noStair rfl rfl rfl (by decide +kernel) ⟨Nat.le_of_ble_eq_true rfl, Nat.le_of_ble_eq_true rfl⟩) hK (r_recv hK hP 0 (by decide) eX_0 (show vwCl[5]? = some (RX5, TX5, 11) from rfl)) hS hP (fun _ hq => aA_mono hS.1 hq) (fun _ h _ => h) rfl hl.1 rfl (Nat.le_of_ble_eq_true rfl) dX5_later_1 ⟨Nat.zero_le _, Nat.zero_le _⟩ (fun H locs hP hS => ?_)
  refine lv_if_eq (x := r1) (tgt := 10) hx hb dX5_later_4 (by decide) (fun q3 => ?_) (fun q3 => ?_)
  · replace h := if_t q3 h
    refine lv_iload_n hx hb dX5_later_10 rfl (lv_at hl 1 rfl) ?_
    refine lv_iconst (v := 0) hx hb dX5_later_11 (by decide) ?_
    refine lv_bipush (v := 60) hx hb dX5_later_12 (by decide) ?_
    obtain ⟨r4, e5, h⟩ := bdP_ok h
    refine r_callSi (As := [.int p1, .int 0, .int 60]) (rest := []) (ws' := (wl 203 a (eX g a M))) (ok_X5_outside l g p1 0 60 r4 e5) ⟨hx, hb, hml, hown, hts⟩ (cwS 3 hts gX5_later_X5_outside rfl rfl rfl (by decide +kernel) ⟨Nat.le_of_ble_eq_true rfl, Nat.le_of_ble_eq_true rfl⟩) hK hS nilP (P_A hS.1) (fun _ _ hk => wl_keep hP hk) rfl hl.1 rfl (Nat.le_of_ble_eq_true rfl) dX5_later_14 ⟨Nat.zero_le _, Nat.zero_le _⟩ (fun H locs hP hS => ?_)
    refine lv_if_ne (x := r4) (tgt := 29) hx hb dX5_later_17 (by decide) (fun q6 => ?_) (fun q6 => ?_)
    · replace h := if_f q6 h
      refine lv_ldc (v := (-1000001)) hx hb hown w73 dX5_later_29 ?_
      rw [hQz]
      exact r_iret (v := (-1000001)) hx hb hr hlk hS ((Prod.mk.inj (Option.some.inj h)).2 ▸ hP) (Prod.mk.inj (Option.some.inj h)).1 dX5_later_31
    · replace h := if_t q6 h
      refine lv_iload_n hx hb dX5_later_20 rfl (lv_at hl 2 rfl) ?_
      refine lv_iconst (v := 0) hx hb dX5_later_21 (by decide) ?_
      refine lv_iconst (v := 1) hx hb dX5_later_22 (by decide) ?_
      obtain ⟨r7, e8, h⟩ := bdP_ok h
      refine r_callSi (As := [.int p2, .int 0, .int 1]) (rest := []) (ws' := (wl 203 a (eX g a M))) (ok_X5_outside l g p2 0 1 r7 e8) ⟨hx, hb, hml, hown, hts⟩ (cwS 3 hts gX5_later_X5_outside rfl rfl rfl (by decide +kernel) ⟨Nat.le_of_ble_eq_true rfl, Nat.le_of_ble_eq_true rfl⟩) hK hS nilP (P_A hS.1) (fun _ _ hk => wl_keep hP hk) rfl hl.1 rfl (Nat.le_of_ble_eq_true rfl) dX5_later_23 ⟨Nat.zero_le _, Nat.zero_le _⟩ (fun H locs hP hS => ?_)
      refine lv_if_eq (x := r7) (tgt := 32) hx hb dX5_later_26 (by decide) (fun q9 => ?_) (fun q9 => ?_)
      · replace h := if_t q9 h
        refine lv_aload_n hx hb dX5_later_32 rfl (lv_at hl 0 rfl) ?_
        refine lv_iload_n hx hb dX5_later_33 rfl (lv_at hl 1 rfl) ?_
        obtain ⟨M12, e11, h⟩ := bdV_ok h
        refine r_callVv (As := [.int p1]) (rest := []) (ws' := (wl 203 a (eX g a M12))) (ok_X5_tryTicks l g a hI p1 M M12 e11) ⟨hx, hb, hml, hown, hts⟩ (cwV 1 hts gX5_later_X5_tryTicks rfl rfl rfl (by decide +kernel) ⟨Nat.le_of_ble_eq_true rfl, Nat.le_of_ble_eq_true rfl⟩) hK (r_recv hK hP 0 (by decide) eX_0 (show vwCl[5]? = some (RX5, TX5, 11) from rfl)) hS hP (fun _ hq => aA_mono hS.1 hq) (fun _ h _ => h) rfl hl.1 rfl (Nat.le_of_ble_eq_true rfl) dX5_later_34 ⟨Nat.zero_le _, Nat.zero_le _⟩ (fun H locs hP hS => ?_)
        refine lv_iload_n hx hb dX5_later_37 rfl (lv_at hl 2 rfl) ?_
        refine lv_if_ne (x := p2) (tgt := 53) hx hb dX5_later_38 (by decide) (fun q13 => ?_) (fun q13 => ?_)
        · replace h := if_f q13 h
          refine lv_aload_n hx hb dX5_later_53 rfl (lv_at hl 0 rfl) ?_
          refine r_get (v := .ref (a 134)) hx hb hts iX5 hown hK hP 0 (by decide) eX_0 rfl 6 (by decide) w47 rfl dX5_later_54 ?_
          obtain ⟨r14, e15, h⟩ := bdP_ok h
          refine r_callVi (As := []) (rest := []) (ws' := (wl 203 a (eX g a M12))) (ok_X2_stepsTaken l g (gA a 134) (gA_ij (c := 134) (by decide) hI) (gS M12 134) r14 e15) ⟨hx, hb, hml, hown, hts⟩ (cwV 0 hts gX5_later_X2_stepsTaken rfl rfl rfl (by decide +kernel) ⟨Nat.le_of_ble_eq_true rfl, Nat.le_of_ble_eq_true rfl⟩) hK (r_recv hK hP 134 (isSt_lt (c := 134) (by decide) 0 (by decide)) (eX_Stair (c := 134) (by decide)) (show vwCl[2]? = some (RX2, TX2, 8) from rfl)) hS (S_cut (c := 134) (by decide) hP) (S_A (c := 134) (by decide) hS.1) (S_keep (c := 134) (by decide) hI hP) rfl hl.1 rfl (Nat.le_of_ble_eq_true rfl) dX5_later_57 ⟨Nat.zero_le _, Nat.zero_le _⟩ (fun H locs hP hS => ?_)
          rw [hQz]
          exact r_iret (v := r14) hx hb hr hlk hS ((Prod.mk.inj (Option.some.inj h)).2 ▸ hP) (Prod.mk.inj (Option.some.inj h)).1 dX5_later_60
        · replace h := if_t q13 h
          refine lv_aload_n hx hb dX5_later_41 rfl (lv_at hl 0 rfl) ?_
          refine r_get (v := .ref (a 134)) hx hb hts iX5 hown hK hP 0 (by decide) eX_0 rfl 6 (by decide) w47 rfl dX5_later_42 ?_
          refine lv_bipush (v := 99) hx hb dX5_later_45 (by decide) ?_
          obtain ⟨r16, e17, h⟩ := bdP_ok h
          refine r_callVi (As := [.int 99]) (rest := []) (ws' := (wl 203 a (eX g a M12))) (ok_X2_howManyAt l g (gA a 134) (gA_ij (c := 134) (by decide) hI) 99 (gS M12 134) r16 e17) ⟨hx, hb, hml, hown, hts⟩ (cwV 1 hts gX5_later_X2_howManyAt rfl rfl rfl (by decide +kernel) ⟨Nat.le_of_ble_eq_true rfl, Nat.le_of_ble_eq_true rfl⟩) hK (r_recv hK hP 134 (isSt_lt (c := 134) (by decide) 0 (by decide)) (eX_Stair (c := 134) (by decide)) (show vwCl[2]? = some (RX2, TX2, 8) from rfl)) hS (S_cut (c := 134) (by decide) hP) (S_A (c := 134) (by decide) hS.1) (S_keep (c := 134) (by decide) hI hP) rfl hl.1 rfl (Nat.le_of_ble_eq_true rfl) dX5_later_47 ⟨Nat.zero_le _, Nat.zero_le _⟩ (fun H locs hP hS => ?_)
          refine lv_goto (tgt := 60) hx hb dX5_later_50 (by decide) ?_
          rw [hQz]
          exact r_iret (v := r16) hx hb hr hlk hS ((Prod.mk.inj (Option.some.inj h)).2 ▸ hP) (Prod.mk.inj (Option.some.inj h)).1 dX5_later_60
      · replace h := if_f q9 h
        refine lv_ldc (v := (-1000001)) hx hb hown w73 dX5_later_29 ?_
        rw [hQz]
        exact r_iret (v := (-1000001)) hx hb hr hlk hS ((Prod.mk.inj (Option.some.inj h)).2 ▸ hP) (Prod.mk.inj (Option.some.inj h)).1 dX5_later_31
  · replace h := if_f q3 h
    refine lv_ldc (v := (-1000002)) hx hb hown w140 dX5_later_7 ?_
    rw [hQz]
    exact r_iret (v := (-1000002)) hx hb hr hlk hS ((Prod.mk.inj (Option.some.inj h)).2 ▸ hP) (Prod.mk.inj (Option.some.inj h)).1 dX5_later_9
