def rmX2_become : Room := { frames := 1, cells := 0, slots := 0, locals := 60 }
set_option maxHeartbeats 4000000 in
set_option maxRecDepth 100000 in
theorem ok_X2_become (l : Launch) (g : gT) (a : Nat → Nat) (hI : ij 203 a) (c0 : Nat) (c1 : Nat) (M : Mem) (M' : Mem) (h0 : isSt c0 = true) (h1 : isSt c1 = true) (h : fX2_become c0 c1 M = some M') : MV l yX2_become wsX2_become rmX2_become g 203 a [.ref (a c0), .ref (a c1)] (wl 203 a (eX g a M)) (wl 203 a (eX g a M')) := by
  refine MV_of (cc := cX2_become) (maxL := 2) (by decide) rfl (Nat.le_of_ble_eq_true rfl) ?_
  intro p e s m args below meth c ls hx hb hml hr hlk hts hown hK hP hl
  have hown : s.vm.findClass RX2 = some m.cls := hown
  have hl : lv_has ls 2 [(0, .ref (a c0)), (1, .ref (a c1))] := hl
  have hS : va_S (aA 203 a s.heap.size) s.heap s.heap [] := va_S.rf
  have iX2 : ∀ w ∈ wsX20, w ∈ wsX2_become := fun w h => List.mem_cons_of_mem _ (List.mem_append_right _ h)
  have w9 := hts (.fieldLink RX2 9 "StepRiders$Stair" "steps" "I") (by decide +kernel)
  have w15 := hts (.fieldLink RX2 15 "StepRiders$Stair" "speed" "I") (by decide +kernel)
  have w18 := hts (.fieldLink RX2 18 "StepRiders$Stair" "tick" "I") (by decide +kernel)
  have w21 := hts (.fieldLink RX2 21 "StepRiders$Stair" "riders" "I") (by decide +kernel)
  have w24 := hts (.fieldLink RX2 24 "StepRiders$Stair" "kind" "[I") (by decide +kernel)
  have w37 := hts (.methodLink RX2 37 arraycopyName) (by decide +kernel)
  have wnat := hts (.native arraycopyName) (by decide +kernel)
  have wstat := hts (.static arraycopyName) (by decide +kernel)
  have wini := hts (.initialized "java/lang/System") (by decide +kernel)
  have w28 := hts (.fieldLink RX2 28 "StepRiders$Stair" "lane" "[I") (by decide +kernel)
  have w31 := hts (.fieldLink RX2 31 "StepRiders$Stair" "at" "[I") (by decide +kernel)
  obtain ⟨Qz, hQz⟩ : ∃ Qz : State → Prop, Qz = MQ below (qV g (wl 203 a (eX g a M')) (aA 203 a s.heap.size)) args s 0 0 (aA 203 a s.heap.size) := ⟨_, rfl⟩
  rw [← hQz]
  unfold fX2_become at h
  refine lv_aload_n hx hb dX2_become_0 rfl (lv_at hl 0 rfl) ?_
  refine lv_aload_n hx hb dX2_become_1 rfl (lv_at hl 1 rfl) ?_
  refine r_get (v := .int (M c1 0)) hx hb hts iX2 hown hK hP c1 (isSt_lt h1 0 (by decide)) (eX_Stair h1) rfl 0 (by decide) w9 rfl dX2_become_2 ?_
  refine r_put (v := .int (M c1 0)) (ty := .int) (f' := eX g a (mp M c0 0 (M c1 0))) hx hb hts iX2 tyX2 tyX2_ok nmX2 hown hK hI (fun _ h => aA_in h) hP hS c0 (isSt_lt h0 0 (by decide)) (eX_Stair h0) rfl 0 (by decide) w9 rfl (by decide +kernel) rfl rfl (Nat.le_of_ble_eq_true rfl) (eX_pStair0 h0) dX2_become_5 (fun H locs hP hS => ?_)
  refine lv_aload_n hx hb dX2_become_8 rfl (lv_at hl 0 rfl) ?_
  refine lv_aload_n hx hb dX2_become_9 rfl (lv_at hl 1 rfl) ?_
  refine r_get (v := .int ((mp M c0 0 (M c1 0)) c1 1)) hx hb hts iX2 hown hK hP c1 (isSt_lt h1 0 (by decide)) (eX_Stair h1) rfl 1 (by decide) w15 rfl dX2_become_10 ?_
  refine r_put (v := .int ((mp M c0 0 (M c1 0)) c1 1)) (ty := .int) (f' := eX g a (mp (mp M c0 0 (M c1 0)) c0 1 ((mp M c0 0 (M c1 0)) c1 1))) hx hb hts iX2 tyX2 tyX2_ok nmX2 hown hK hI (fun _ h => aA_in h) hP hS c0 (isSt_lt h0 0 (by decide)) (eX_Stair h0) rfl 1 (by decide) w15 rfl (by decide +kernel) rfl rfl (Nat.le_of_ble_eq_true rfl) (eX_pStair1 h0) dX2_become_13 (fun H locs hP hS => ?_)
  refine lv_aload_n hx hb dX2_become_16 rfl (lv_at hl 0 rfl) ?_
  refine lv_aload_n hx hb dX2_become_17 rfl (lv_at hl 1 rfl) ?_
  refine r_get (v := .int ((mp (mp M c0 0 (M c1 0)) c0 1 ((mp M c0 0 (M c1 0)) c1 1)) c1 2)) hx hb hts iX2 hown hK hP c1 (isSt_lt h1 0 (by decide)) (eX_Stair h1) rfl 2 (by decide) w18 rfl dX2_become_18 ?_
  refine r_put (v := .int ((mp (mp M c0 0 (M c1 0)) c0 1 ((mp M c0 0 (M c1 0)) c1 1)) c1 2)) (ty := .int) (f' := eX g a (mp (mp (mp M c0 0 (M c1 0)) c0 1 ((mp M c0 0 (M c1 0)) c1 1)) c0 2 ((mp (mp M c0 0 (M c1 0)) c0 1 ((mp M c0 0 (M c1 0)) c1 1)) c1 2))) hx hb hts iX2 tyX2 tyX2_ok nmX2 hown hK hI (fun _ h => aA_in h) hP hS c0 (isSt_lt h0 0 (by decide)) (eX_Stair h0) rfl 2 (by decide) w18 rfl (by decide +kernel) rfl rfl (Nat.le_of_ble_eq_true rfl) (eX_pStair2 h0) dX2_become_21 (fun H locs hP hS => ?_)
  refine lv_aload_n hx hb dX2_become_24 rfl (lv_at hl 0 rfl) ?_
  refine lv_aload_n hx hb dX2_become_25 rfl (lv_at hl 1 rfl) ?_
  refine r_get (v := .int ((mp (mp (mp M c0 0 (M c1 0)) c0 1 ((mp M c0 0 (M c1 0)) c1 1)) c0 2 ((mp (mp M c0 0 (M c1 0)) c0 1 ((mp M c0 0 (M c1 0)) c1 1)) c1 2)) c1 3)) hx hb hts iX2 hown hK hP c1 (isSt_lt h1 0 (by decide)) (eX_Stair h1) rfl 3 (by decide) w21 rfl dX2_become_26 ?_
  refine r_put (v := .int ((mp (mp (mp M c0 0 (M c1 0)) c0 1 ((mp M c0 0 (M c1 0)) c1 1)) c0 2 ((mp (mp M c0 0 (M c1 0)) c0 1 ((mp M c0 0 (M c1 0)) c1 1)) c1 2)) c1 3)) (ty := .int) (f' := eX g a (mp (mp (mp (mp M c0 0 (M c1 0)) c0 1 ((mp M c0 0 (M c1 0)) c1 1)) c0 2 ((mp (mp M c0 0 (M c1 0)) c0 1 ((mp M c0 0 (M c1 0)) c1 1)) c1 2)) c0 3 ((mp (mp (mp M c0 0 (M c1 0)) c0 1 ((mp M c0 0 (M c1 0)) c1 1)) c0 2 ((mp (mp M c0 0 (M c1 0)) c0 1 ((mp M c0 0 (M c1 0)) c1 1)) c1 2)) c1 3))) hx hb hts iX2 tyX2 tyX2_ok nmX2 hown hK hI (fun _ h => aA_in h) hP hS c0 (isSt_lt h0 0 (by decide)) (eX_Stair h0) rfl 3 (by decide) w21 rfl (by decide +kernel) rfl rfl (Nat.le_of_ble_eq_true rfl) (eX_pStair3 h0) dX2_become_29 (fun H locs hP hS => ?_)
  refine lv_aload_n hx hb dX2_become_32 rfl (lv_at hl 1 rfl) ?_
  refine r_get (v := .ref (a (c1 + 1))) hx hb hts iX2 hown hK hP c1 (isSt_lt h1 0 (by decide)) (eX_Stair h1) rfl 4 (by decide) w24 rfl dX2_become_33 ?_
  refine lv_iconst (v := 0) hx hb dX2_become_36 (by decide) ?_
  refine lv_aload_n hx hb dX2_become_37 rfl (lv_at hl 0 rfl) ?_
  refine r_get (v := .ref (a (c0 + 1))) hx hb hts iX2 hown hK hP c0 (isSt_lt h0 0 (by decide)) (eX_Stair h0) rfl 4 (by decide) w24 rfl dX2_become_38 ?_
  refine lv_iconst (v := 0) hx hb dX2_become_41 (by decide) ?_
  refine lv_bipush (v := 7) hx hb dX2_become_42 (by decide) ?_
  obtain ⟨q1, h⟩ := chk_ok h
  refine r_copy (sp := 0) (dp := 0) (k := 7) (h := (mp (mp (mp (mp M c0 0 (M c1 0)) c0 1 ((mp M c0 0 (M c1 0)) c1 1)) c0 2 ((mp (mp M c0 0 (M c1 0)) c0 1 ((mp M c0 0 (M c1 0)) c1 1)) c1 2)) c0 3 ((mp (mp (mp M c0 0 (M c1 0)) c0 1 ((mp M c0 0 (M c1 0)) c1 1)) c0 2 ((mp (mp M c0 0 (M c1 0)) c0 1 ((mp M c0 0 (M c1 0)) c1 1)) c1 2)) c1 3)) (c1 + 1)) (h' := (mp (mp (mp (mp M c0 0 (M c1 0)) c0 1 ((mp M c0 0 (M c1 0)) c1 1)) c0 2 ((mp (mp M c0 0 (M c1 0)) c0 1 ((mp M c0 0 (M c1 0)) c1 1)) c1 2)) c0 3 ((mp (mp (mp M c0 0 (M c1 0)) c0 1 ((mp M c0 0 (M c1 0)) c1 1)) c0 2 ((mp (mp M c0 0 (M c1 0)) c0 1 ((mp M c0 0 (M c1 0)) c1 1)) c1 2)) c1 3)) (c0 + 1)) (f' := eX g a (va_up (mp (mp (mp (mp M c0 0 (M c1 0)) c0 1 ((mp M c0 0 (M c1 0)) c1 1)) c0 2 ((mp (mp M c0 0 (M c1 0)) c0 1 ((mp M c0 0 (M c1 0)) c1 1)) c1 2)) c0 3 ((mp (mp (mp M c0 0 (M c1 0)) c0 1 ((mp M c0 0 (M c1 0)) c1 1)) c0 2 ((mp (mp M c0 0 (M c1 0)) c0 1 ((mp M c0 0 (M c1 0)) c1 1)) c1 2)) c1 3)) (c0 + 1) (va_cpy ((mp (mp (mp (mp M c0 0 (M c1 0)) c0 1 ((mp M c0 0 (M c1 0)) c1 1)) c0 2 ((mp (mp M c0 0 (M c1 0)) c0 1 ((mp M c0 0 (M c1 0)) c1 1)) c1 2)) c0 3 ((mp (mp (mp M c0 0 (M c1 0)) c0 1 ((mp M c0 0 (M c1 0)) c1 1)) c0 2 ((mp (mp M c0 0 (M c1 0)) c0 1 ((mp M c0 0 (M c1 0)) c1 1)) c1 2)) c1 3)) (c1 + 1)) ((mp (mp (mp (mp M c0 0 (M c1 0)) c0 1 ((mp M c0 0 (M c1 0)) c1 1)) c0 2 ((mp (mp M c0 0 (M c1 0)) c0 1 ((mp M c0 0 (M c1 0)) c1 1)) c1 2)) c0 3 ((mp (mp (mp M c0 0 (M c1 0)) c0 1 ((mp M c0 0 (M c1 0)) c1 1)) c0 2 ((mp (mp M c0 0 (M c1 0)) c0 1 ((mp M c0 0 (M c1 0)) c1 1)) c1 2)) c1 3)) (c0 + 1)) (Int32.toNatClampNeg 0) (Int32.toNatClampNeg 0) (Int32.toNatClampNeg 7)))) hx hb (hml.trans hl.1.symm) hown w37 wnat wstat wini hK hI (fun _ h => aA_in h) hP hS (c1 + 1) (c0 + 1) (isSt_lt h1 1 (by decide)) (isSt_lt h0 1 (by decide)) (eX_Sa1 h1) (eX_Sa1 h0) q1 (eX_ua (fun _ => eX_Sa1 h0)) (Nat.le_of_ble_eq_true rfl) (Nat.le_of_ble_eq_true rfl) dX2_become_44 (fun H locs hP hS => ?_)
  refine lv_aload_n hx hb dX2_become_47 rfl (lv_at hl 1 rfl) ?_
  refine r_get (v := .ref (a (c1 + 2))) hx hb hts iX2 hown hK hP c1 (isSt_lt h1 0 (by decide)) (eX_Stair h1) rfl 5 (by decide) w28 rfl dX2_become_48 ?_
  refine lv_iconst (v := 0) hx hb dX2_become_51 (by decide) ?_
  refine lv_aload_n hx hb dX2_become_52 rfl (lv_at hl 0 rfl) ?_
  refine r_get (v := .ref (a (c0 + 2))) hx hb hts iX2 hown hK hP c0 (isSt_lt h0 0 (by decide)) (eX_Stair h0) rfl 5 (by decide) w28 rfl dX2_become_53 ?_
  refine lv_iconst (v := 0) hx hb dX2_become_56 (by decide) ?_
  refine lv_bipush (v := 7) hx hb dX2_become_57 (by decide) ?_
  obtain ⟨q2, h⟩ := chk_ok h
  refine r_copy (sp := 0) (dp := 0) (k := 7) (h := (va_up (mp (mp (mp (mp M c0 0 (M c1 0)) c0 1 ((mp M c0 0 (M c1 0)) c1 1)) c0 2 ((mp (mp M c0 0 (M c1 0)) c0 1 ((mp M c0 0 (M c1 0)) c1 1)) c1 2)) c0 3 ((mp (mp (mp M c0 0 (M c1 0)) c0 1 ((mp M c0 0 (M c1 0)) c1 1)) c0 2 ((mp (mp M c0 0 (M c1 0)) c0 1 ((mp M c0 0 (M c1 0)) c1 1)) c1 2)) c1 3)) (c0 + 1) (va_cpy ((mp (mp (mp (mp M c0 0 (M c1 0)) c0 1 ((mp M c0 0 (M c1 0)) c1 1)) c0 2 ((mp (mp M c0 0 (M c1 0)) c0 1 ((mp M c0 0 (M c1 0)) c1 1)) c1 2)) c0 3 ((mp (mp (mp M c0 0 (M c1 0)) c0 1 ((mp M c0 0 (M c1 0)) c1 1)) c0 2 ((mp (mp M c0 0 (M c1 0)) c0 1 ((mp M c0 0 (M c1 0)) c1 1)) c1 2)) c1 3)) (c1 + 1)) ((mp (mp (mp (mp M c0 0 (M c1 0)) c0 1 ((mp M c0 0 (M c1 0)) c1 1)) c0 2 ((mp (mp M c0 0 (M c1 0)) c0 1 ((mp M c0 0 (M c1 0)) c1 1)) c1 2)) c0 3 ((mp (mp (mp M c0 0 (M c1 0)) c0 1 ((mp M c0 0 (M c1 0)) c1 1)) c0 2 ((mp (mp M c0 0 (M c1 0)) c0 1 ((mp M c0 0 (M c1 0)) c1 1)) c1 2)) c1 3)) (c0 + 1)) (Int32.toNatClampNeg 0) (Int32.toNatClampNeg 0) (Int32.toNatClampNeg 7))) (c1 + 2)) (h' := (va_up (mp (mp (mp (mp M c0 0 (M c1 0)) c0 1 ((mp M c0 0 (M c1 0)) c1 1)) c0 2 ((mp (mp M c0 0 (M c1 0)) c0 1 ((mp M c0 0 (M c1 0)) c1 1)) c1 2)) c0 3 ((mp (mp (mp M c0 0 (M c1 0)) c0 1 ((mp M c0 0 (M c1 0)) c1 1)) c0 2 ((mp (mp M c0 0 (M c1 0)) c0 1 ((mp M c0 0 (M c1 0)) c1 1)) c1 2)) c1 3)) (c0 + 1) (va_cpy ((mp (mp (mp (mp M c0 0 (M c1 0)) c0 1 ((mp M c0 0 (M c1 0)) c1 1)) c0 2 ((mp (mp M c0 0 (M c1 0)) c0 1 ((mp M c0 0 (M c1 0)) c1 1)) c1 2)) c0 3 ((mp (mp (mp M c0 0 (M c1 0)) c0 1 ((mp M c0 0 (M c1 0)) c1 1)) c0 2 ((mp (mp M c0 0 (M c1 0)) c0 1 ((mp M c0 0 (M c1 0)) c1 1)) c1 2)) c1 3)) (c1 + 1)) ((mp (mp (mp (mp M c0 0 (M c1 0)) c0 1 ((mp M c0 0 (M c1 0)) c1 1)) c0 2 ((mp (mp M c0 0 (M c1 0)) c0 1 ((mp M c0 0 (M c1 0)) c1 1)) c1 2)) c0 3 ((mp (mp (mp M c0 0 (M c1 0)) c0 1 ((mp M c0 0 (M c1 0)) c1 1)) c0 2 ((mp (mp M c0 0 (M c1 0)) c0 1 ((mp M c0 0 (M c1 0)) c1 1)) c1 2)) c1 3)) (c0 + 1)) (Int32.toNatClampNeg 0) (Int32.toNatClampNeg 0) (Int32.toNatClampNeg 7))) (c0 + 2)) (f' := eX g a (va_up (va_up (mp (mp (mp (mp M c0 0 (M c1 0)) c0 1 ((mp M c0 0 (M c1 0)) c1 1)) c0 2 ((mp (mp M c0 0 (M c1 0)) c0 1 ((mp M c0 0 (M c1 0)) c1 1)) c1 2)) c0 3 ((mp (mp (mp M c0 0 (M c1 0)) c0 1 ((mp M c0 0 (M c1 0)) c1 1)) c0 2 ((mp (mp M c0 0 (M c1 0)) c0 1 ((mp M c0 0 (M c1 0)) c1 1)) c1 2)) c1 3)) (c0 + 1) (va_cpy ((mp (mp (mp (mp M c0 0 (M c1 0)) c0 1 ((mp M c0 0 (M c1 0)) c1 1)) c0 2 ((mp (mp M c0 0 (M c1 0)) c0 1 ((mp M c0 0 (M c1 0)) c1 1)) c1 2)) c0 3 ((mp (mp (mp M c0 0 (M c1 0)) c0 1 ((mp M c0 0 (M c1 0)) c1 1)) c0 2 ((mp (mp M c0 0 (M c1 0)) c0 1 ((mp M c0 0 (M c1 0)) c1 1)) c1 2)) c1 3)) (c1 + 1)) ((mp (mp (mp (mp M c0 0 (M c1 0)) c0 1 ((mp M c0 0 (M c1 0)) c1 1)) c0 2 ((mp (mp M c0 0 (M c1 0)) c0 1 ((mp M c0 0 (M c1 0)) c1 1)) c1 2)) c0 3 ((mp (mp (mp M c0 0 (M c1 0)) c0 1 ((mp M c0 0 (M c1 0)) c1 1)) c0 2 ((mp (mp M c0 0 (M c1 0)) c0 1 ((mp M c0 0 (M c1 0)) c1 1)) c1 2)) c1 3)) (c0 + 1)) (Int32.toNatClampNeg 0) (Int32.toNatClampNeg 0) (Int32.toNatClampNeg 7))) (c0 + 2) (va_cpy ((va_up (mp (mp (mp (mp M c0 0 (M c1 0)) c0 1 ((mp M c0 0 (M c1 0)) c1 1)) c0 2 ((mp (mp M c0 0 (M c1 0)) c0 1 ((mp M c0 0 (M c1 0)) c1 1)) c1 2)) c0 3 ((mp (mp (mp M c0 0 (M c1 0)) c0 1 ((mp M c0 0 (M c1 0)) c1 1)) c0 2 ((mp (mp M c0 0 (M c1 0)) c0 1 ((mp M c0 0 (M c1 0)) c1 1)) c1 2)) c1 3)) (c0 + 1) (va_cpy ((mp (mp (mp (mp M c0 0 (M c1 0)) c0 1 ((mp M c0 0 (M c1 0)) c1 1)) c0 2 ((mp (mp M c0 0 (M c1 0)) c0 1 ((mp M c0 0 (M c1 0)) c1 1)) c1 2)) c0 3 ((mp (mp (mp M c0 0 (M c1 0)) c0 1 ((mp M c0 0 (M c1 0)) c1 1)) c0 2 ((mp (mp M c0 0 (M c1 0)) c0 1 ((mp M c0 0 (M c1 0)) c1 1)) c1 2)) c1 3)) (c1 + 1)) ((mp (mp (mp (mp M c0 0 (M c1 0)) c0 1 ((mp M c0 0 (M c1 0)) c1 1)) c0 2 ((mp (mp M c0 0 (M c1 0)) c0 1 ((mp M c0 0 (M c1 0)) c1 1)) c1 2)) c0 3 ((mp (mp (mp M c0 0 (M c1 0)) c0 1 ((mp M c0 0 (M c1 0)) c1 1)) c0 2 ((mp (mp M c0 0 (M c1 0)) c0 1 ((mp M c0 0 (M c1 0)) c1 1)) c1 2)) c1 3)) (c0 + 1)) (Int32.toNatClampNeg 0) (Int32.toNatClampNeg 0) (Int32.toNatClampNeg 7))) (c1 + 2)) ((va_up (mp (mp (mp (mp M c0 0 (M c1 0)) c0 1 ((mp M c0 0 (M c1 0)) c1 1)) c0 2 ((mp (mp M c0 0 (M c1 0)) c0 1 ((mp M c0 0 (M c1 0)) c1 1)) c1 2)) c0 3 ((mp (mp (mp M c0 0 (M c1 0)) c0 1 ((mp M c0 0 (M c1 0)) c1 1)) c0 2 ((mp (mp M c0 0 (M c1 0)) c0 1 ((mp M c0 0 (M c1 0)) c1 1)) c1 2)) c1 3)) (c0 + 1) (va_cpy ((mp (mp (mp (mp M c0 0 (M c1 0)) c0 1 ((mp M c0 0 (M c1 0)) c1 1)) c0 2 ((mp (mp M c0 0 (M c1 0)) c0 1 ((mp M c0 0 (M c1 0)) c1 1)) c1 2)) c0 3 ((mp (mp (mp M c0 0 (M c1 0)) c0 1 ((mp M c0 0 (M c1 0)) c1 1)) c0 2 ((mp (mp M c0 0 (M c1 0)) c0 1 ((mp M c0 0 (M c1 0)) c1 1)) c1 2)) c1 3)) (c1 + 1)) ((mp (mp (mp (mp M c0 0 (M c1 0)) c0 1 ((mp M c0 0 (M c1 0)) c1 1)) c0 2 ((mp (mp M c0 0 (M c1 0)) c0 1 ((mp M c0 0 (M c1 0)) c1 1)) c1 2)) c0 3 ((mp (mp (mp M c0 0 (M c1 0)) c0 1 ((mp M c0 0 (M c1 0)) c1 1)) c0 2 ((mp (mp M c0 0 (M c1 0)) c0 1 ((mp M c0 0 (M c1 0)) c1 1)) c1 2)) c1 3)) (c0 + 1)) (Int32.toNatClampNeg 0) (Int32.toNatClampNeg 0) (Int32.toNatClampNeg 7))) (c0 + 2)) (Int32.toNatClampNeg 0) (Int32.toNatClampNeg 0) (Int32.toNatClampNeg 7)))) hx hb (hml.trans hl.1.symm) hown w37 wnat wstat wini hK hI (fun _ h => aA_in h) hP hS (c1 + 2) (c0 + 2) (isSt_lt h1 2 (by decide)) (isSt_lt h0 2 (by decide)) (eX_Sa2 h1) (eX_Sa2 h0) q2 (eX_ua (fun _ => eX_Sa2 h0)) (Nat.le_of_ble_eq_true rfl) (Nat.le_of_ble_eq_true rfl) dX2_become_59 (fun H locs hP hS => ?_)
  refine lv_aload_n hx hb dX2_become_62 rfl (lv_at hl 1 rfl) ?_
  refine r_get (v := .ref (a (c1 + 3))) hx hb hts iX2 hown hK hP c1 (isSt_lt h1 0 (by decide)) (eX_Stair h1) rfl 6 (by decide) w31 rfl dX2_become_63 ?_
  refine lv_iconst (v := 0) hx hb dX2_become_66 (by decide) ?_
  refine lv_aload_n hx hb dX2_become_67 rfl (lv_at hl 0 rfl) ?_
  refine r_get (v := .ref (a (c0 + 3))) hx hb hts iX2 hown hK hP c0 (isSt_lt h0 0 (by decide)) (eX_Stair h0) rfl 6 (by decide) w31 rfl dX2_become_68 ?_
  refine lv_iconst (v := 0) hx hb dX2_become_71 (by decide) ?_
  refine lv_bipush (v := 7) hx hb dX2_become_72 (by decide) ?_
  obtain ⟨q3, h⟩ := chk_ok h
  refine r_copy (sp := 0) (dp := 0) (k := 7) (h := (va_up (va_up (mp (mp (mp (mp M c0 0 (M c1 0)) c0 1 ((mp M c0 0 (M c1 0)) c1 1)) c0 2 ((mp (mp M c0 0 (M c1 0)) c0 1 ((mp M c0 0 (M c1 0)) c1 1)) c1 2)) c0 3 ((mp (mp (mp M c0 0 (M c1 0)) c0 1 ((mp M c0 0 (M c1 0)) c1 1)) c0 2 ((mp (mp M c0 0 (M c1 0)) c0 1 ((mp M c0 0 (M c1 0)) c1 1)) c1 2)) c1 3)) (c0 + 1) (va_cpy ((mp (mp (mp (mp M c0 0 (M c1 0)) c0 1 ((mp M c0 0 (M c1 0)) c1 1)) c0 2 ((mp (mp M c0 0 (M c1 0)) c0 1 ((mp M c0 0 (M c1 0)) c1 1)) c1 2)) c0 3 ((mp (mp (mp M c0 0 (M c1 0)) c0 1 ((mp M c0 0 (M c1 0)) c1 1)) c0 2 ((mp (mp M c0 0 (M c1 0)) c0 1 ((mp M c0 0 (M c1 0)) c1 1)) c1 2)) c1 3)) (c1 + 1)) ((mp (mp (mp (mp M c0 0 (M c1 0)) c0 1 ((mp M c0 0 (M c1 0)) c1 1)) c0 2 ((mp (mp M c0 0 (M c1 0)) c0 1 ((mp M c0 0 (M c1 0)) c1 1)) c1 2)) c0 3 ((mp (mp (mp M c0 0 (M c1 0)) c0 1 ((mp M c0 0 (M c1 0)) c1 1)) c0 2 ((mp (mp M c0 0 (M c1 0)) c0 1 ((mp M c0 0 (M c1 0)) c1 1)) c1 2)) c1 3)) (c0 + 1)) (Int32.toNatClampNeg 0) (Int32.toNatClampNeg 0) (Int32.toNatClampNeg 7))) (c0 + 2) (va_cpy ((va_up (mp (mp (mp (mp M c0 0 (M c1 0)) c0 1 ((mp M c0 0 (M c1 0)) c1 1)) c0 2 ((mp (mp M c0 0 (M c1 0)) c0 1 ((mp M c0 0 (M c1 0)) c1 1)) c1 2)) c0 3 ((mp (mp (mp M c0 0 (M c1 0)) c0 1 ((mp M c0 0 (M c1 0)) c1 1)) c0 2 ((mp (mp M c0 0 (M c1 0)) c0 1 ((mp M c0 0 (M c1 0)) c1 1)) c1 2)) c1 3)) (c0 + 1) (va_cpy ((mp (mp (mp (mp M c0 0 (M c1 0)) c0 1 ((mp M c0 0 (M c1 0)) c1 1)) c0 2 ((mp (mp M c0 0 (M c1 0)) c0 1 ((mp M c0 0 (M c1 0)) c1 1)) c1 2)) c0 3 ((mp (mp (mp M c0 0 (M c1 0)) c0 1 ((mp M c0 0 (M c1 0)) c1 1)) c0 2 ((mp (mp M c0 0 (M c1 0)) c0 1 ((mp M c0 0 (M c1 0)) c1 1)) c1 2)) c1 3)) (c1 + 1)) ((mp (mp (mp (mp M c0 0 (M c1 0)) c0 1 ((mp M c0 0 (M c1 0)) c1 1)) c0 2 ((mp (mp M c0 0 (M c1 0)) c0 1 ((mp M c0 0 (M c1 0)) c1 1)) c1 2)) c0 3 ((mp (mp (mp M c0 0 (M c1 0)) c0 1 ((mp M c0 0 (M c1 0)) c1 1)) c0 2 ((mp (mp M c0 0 (M c1 0)) c0 1 ((mp M c0 0 (M c1 0)) c1 1)) c1 2)) c1 3)) (c0 + 1)) (Int32.toNatClampNeg 0) (Int32.toNatClampNeg 0) (Int32.toNatClampNeg 7))) (c1 + 2)) ((va_up (mp (mp (mp (mp M c0 0 (M c1 0)) c0 1 ((mp M c0 0 (M c1 0)) c1 1)) c0 2 ((mp (mp M c0 0 (M c1 0)) c0 1 ((mp M c0 0 (M c1 0)) c1 1)) c1 2)) c0 3 ((mp (mp (mp M c0 0 (M c1 0)) c0 1 ((mp M c0 0 (M c1 0)) c1 1)) c0 2 ((mp (mp M c0 0 (M c1 0)) c0 1 ((mp M c0 0 (M c1 0)) c1 1)) c1 2)) c1 3)) (c0 + 1) (va_cpy ((mp (mp (mp (mp M c0 0 (M c1 0)) c0 1 ((mp M c0 0 (M c1 0)) c1 1)) c0 2 ((mp (mp M c0 0 (M c1 0)) c0 1 ((mp M c0 0 (M c1 0)) c1 1)) c1 2)) c0 3 ((mp (mp (mp M c0 0 (M c1 0)) c0 1 ((mp M c0 0 (M c1 0)) c1 1)) c0 2 ((mp (mp M c0 0 (M c1 0)) c0 1 ((mp M c0 0 (M c1 0)) c1 1)) c1 2)) c1 3)) (c1 + 1)) ((mp (mp (mp (mp M c0 0 (M c1 0)) c0 1 ((mp M c0 0 (M c1 0)) c1 1)) c0 2 ((mp (mp M c0 0 (M c1 0)) c0 1 ((mp M c0 0 (M c1 0)) c1 1)) c1 2)) c0 3 ((mp (mp (mp M c0 0 (M c1 0)) c0 1 ((mp M c0 0 (M c1 0)) c1 1)) c0 2 ((mp (mp M c0 0 (M c1 0)) c0 1 ((mp M c0 0 (M c1 0)) c1 1)) c1 2)) c1 3)) (c0 + 1)) (Int32.toNatClampNeg 0) (Int32.toNatClampNeg 0) (Int32.toNatClampNeg 7))) (c0 + 2)) (Int32.toNatClampNeg 0) (Int32.toNatClampNeg 0) (Int32.toNatClampNeg 7))) (c1 + 3)) (h' := (va_up (va_up (mp (mp (mp (mp M c0 0 (M c1 0)) c0 1 ((mp M c0 0 (M c1 0)) c1 1)) c0 2 ((mp (mp M c0 0 (M c1 0)) c0 1 ((mp M c0 0 (M c1 0)) c1 1)) c1 2)) c0 3 ((mp (mp (mp M c0 0 (M c1 0)) c0 1 ((mp M c0 0 (M c1 0)) c1 1)) c0 2 ((mp (mp M c0 0 (M c1 0)) c0 1 ((mp M c0 0 (M c1 0)) c1 1)) c1 2)) c1 3)) (c0 + 1) (va_cpy ((mp (mp (mp (mp M c0 0 (M c1 0)) c0 1 ((mp M c0 0 (M c1 0)) c1 1)) c0 2 ((mp (mp M c0 0 (M c1 0)) c0 1 ((mp M c0 0 (M c1 0)) c1 1)) c1 2)) c0 3 ((mp (mp (mp M c0 0 (M c1 0)) c0 1 ((mp M c0 0 (M c1 0)) c1 1)) c0 2 ((mp (mp M c0 0 (M c1 0)) c0 1 ((mp M c0 0 (M c1 0)) c1 1)) c1 2)) c1 3)) (c1 + 1)) ((mp (mp (mp (mp M c0 0 (M c1 0)) c0 1 ((mp M c0 0 (M c1 0)) c1 1)) c0 2 ((mp (mp M c0 0 (M c1 0)) c0 1 ((mp M c0 0 (M c1 0)) c1 1)) c1 2)) c0 3 ((mp (mp (mp M c0 0 (M c1 0)) c0 1 ((mp M c0 0 (M c1 0)) c1 1)) c0 2 ((mp (mp M c0 0 (M c1 0)) c0 1 ((mp M c0 0 (M c1 0)) c1 1)) c1 2)) c1 3)) (c0 + 1)) (Int32.toNatClampNeg 0) (Int32.toNatClampNeg 0) (Int32.toNatClampNeg 7))) (c0 + 2) (va_cpy ((va_up (mp (mp (mp (mp M c0 0 (M c1 0)) c0 1 ((mp M c0 0 (M c1 0)) c1 1)) c0 2 ((mp (mp M c0 0 (M c1 0)) c0 1 ((mp M c0 0 (M c1 0)) c1 1)) c1 2)) c0 3 ((mp (mp (mp M c0 0 (M c1 0)) c0 1 ((mp M c0 0 (M c1 0)) c1 1)) c0 2 ((mp (mp M c0 0 (M c1 0)) c0 1 ((mp M c0 0 (M c1 0)) c1 1)) c1 2)) c1 3)) (c0 + 1) (va_cpy ((mp (mp (mp (mp M c0 0 (M c1 0)) c0 1 ((mp M c0 0 (M c1 0)) c1 1)) c0 2 ((mp (mp M c0 0 (M c1 0)) c0 1 ((mp M c0 0 (M c1 0)) c1 1)) c1 2)) c0 3 ((mp (mp (mp M c0 0 (M c1 0)) c0 1 ((mp M c0 0 (M c1 0)) c1 1)) c0 2 ((mp (mp M c0 0 (M c1 0)) c0 1 ((mp M c0 0 (M c1 0)) c1 1)) c1 2)) c1 3)) (c1 + 1)) ((mp (mp (mp (mp M c0 0 (M c1 0)) c0 1 ((mp M c0 0 (M c1 0)) c1 1)) c0 2 ((mp (mp M c0 0 (M c1 0)) c0 1 ((mp M c0 0 (M c1 0)) c1 1)) c1 2)) c0 3 ((mp (mp (mp M c0 0 (M c1 0)) c0 1 ((mp M c0 0 (M c1 0)) c1 1)) c0 2 ((mp (mp M c0 0 (M c1 0)) c0 1 ((mp M c0 0 (M c1 0)) c1 1)) c1 2)) c1 3)) (c0 + 1)) (Int32.toNatClampNeg 0) (Int32.toNatClampNeg 0) (Int32.toNatClampNeg 7))) (c1 + 2)) ((va_up (mp (mp (mp (mp M c0 0 (M c1 0)) c0 1 ((mp M c0 0 (M c1 0)) c1 1)) c0 2 ((mp (mp M c0 0 (M c1 0)) c0 1 ((mp M c0 0 (M c1 0)) c1 1)) c1 2)) c0 3 ((mp (mp (mp M c0 0 (M c1 0)) c0 1 ((mp M c0 0 (M c1 0)) c1 1)) c0 2 ((mp (mp M c0 0 (M c1 0)) c0 1 ((mp M c0 0 (M c1 0)) c1 1)) c1 2)) c1 3)) (c0 + 1) (va_cpy ((mp (mp (mp (mp M c0 0 (M c1 0)) c0 1 ((mp M c0 0 (M c1 0)) c1 1)) c0 2 ((mp (mp M c0 0 (M c1 0)) c0 1 ((mp M c0 0 (M c1 0)) c1 1)) c1 2)) c0 3 ((mp (mp (mp M c0 0 (M c1 0)) c0 1 ((mp M c0 0 (M c1 0)) c1 1)) c0 2 ((mp (mp M c0 0 (M c1 0)) c0 1 ((mp M c0 0 (M c1 0)) c1 1)) c1 2)) c1 3)) (c1 + 1)) ((mp (mp (mp (mp M c0 0 (M c1 0)) c0 1 ((mp M c0 0 (M c1 0)) c1 1)) c0 2 ((mp (mp M c0 0 (M c1 0)) c0 1 ((mp M c0 0 (M c1 0)) c1 1)) c1 2)) c0 3 ((mp (mp (mp M c0 0 (M c1 0)) c0 1 ((mp M c0 0 (M c1 0)) c1 1)) c0 2 ((mp (mp M c0 0 (M c1 0)) c0 1 ((mp M c0 0 (M c1 0)) c1 1)) c1 2)) c1 3)) (c0 + 1)) (Int32.toNatClampNeg 0) (Int32.toNatClampNeg 0) (Int32.toNatClampNeg 7))) (c0 + 2)) (Int32.toNatClampNeg 0) (Int32.toNatClampNeg 0) (Int32.toNatClampNeg 7))) (c0 + 3)) (f' := eX g a (va_up (va_up (va_up (mp (mp (mp (mp M c0 0 (M c1 0)) c0 1 ((mp M c0 0 (M c1 0)) c1 1)) c0 2 ((mp (mp M c0 0 (M c1 0)) c0 1 ((mp M c0 0 (M c1 0)) c1 1)) c1 2)) c0 3 ((mp (mp (mp M c0 0 (M c1 0)) c0 1 ((mp M c0 0 (M c1 0)) c1 1)) c0 2 ((mp (mp M c0 0 (M c1 0)) c0 1 ((mp M c0 0 (M c1 0)) c1 1)) c1 2)) c1 3)) (c0 + 1) (va_cpy ((mp (mp (mp (mp M c0 0 (M c1 0)) c0 1 ((mp M c0 0 (M c1 0)) c1 1)) c0 2 ((mp (mp M c0 0 (M c1 0)) c0 1 ((mp M c0 0 (M c1 0)) c1 1)) c1 2)) c0 3 ((mp (mp (mp M c0 0 (M c1 0)) c0 1 ((mp M c0 0 (M c1 0)) c1 1)) c0 2 ((mp (mp M c0 0 (M c1 0)) c0 1 ((mp M c0 0 (M c1 0)) c1 1)) c1 2)) c1 3)) (c1 + 1)) ((mp (mp (mp (mp M c0 0 (M c1 0)) c0 1 ((mp M c0 0 (M c1 0)) c1 1)) c0 2 ((mp (mp M c0 0 (M c1 0)) c0 1 ((mp M c0 0 (M c1 0)) c1 1)) c1 2)) c0 3 ((mp (mp (mp M c0 0 (M c1 0)) c0 1 ((mp M c0 0 (M c1 0)) c1 1)) c0 2 ((mp (mp M c0 0 (M c1 0)) c0 1 ((mp M c0 0 (M c1 0)) c1 1)) c1 2)) c1 3)) (c0 + 1)) (Int32.toNatClampNeg 0) (Int32.toNatClampNeg 0) (Int32.toNatClampNeg 7))) (c0 + 2) (va_cpy ((va_up (mp (mp (mp (mp M c0 0 (M c1 0)) c0 1 ((mp M c0 0 (M c1 0)) c1 1)) c0 2 ((mp (mp M c0 0 (M c1 0)) c0 1 ((mp M c0 0 (M c1 0)) c1 1)) c1 2)) c0 3 ((mp (mp (mp M c0 0 (M c1 0)) c0 1 ((mp M c0 0 (M c1 0)) c1 1)) c0 2 ((mp (mp M c0 0 (M c1 0)) c0 1 ((mp M c0 0 (M c1 0)) c1 1)) c1 2)) c1 3)) (c0 + 1) (va_cpy ((mp (mp (mp (mp M c0 0 (M c1 0)) c0 1 ((mp M c0 0 (M c1 0)) c1 1)) c0 2 ((mp (mp M c0 0 (M c1 0)) c0 1 ((mp M c0 0 (M c1 0)) c1 1)) c1 2)) c0 3 ((mp (mp (mp M c0 0 (M c1 0)) c0 1 ((mp M c0 0 (M c1 0)) c1 1)) c0 2 ((mp (mp M c0 0 (M c1 0)) c0 1 ((mp M c0 0 (M c1 0)) c1 1)) c1 2)) c1 3)) (c1 + 1)) ((mp (mp (mp (mp M c0 0 (M c1 0)) c0 1 ((mp M c0 0 (M c1 0)) c1 1)) c0 2 ((mp (mp M c0 0 (M c1 0)) c0 1 ((mp M c0 0 (M c1 0)) c1 1)) c1 2)) c0 3 ((mp (mp (mp M c0 0 (M c1 0)) c0 1 ((mp M c0 0 (M c1 0)) c1 1)) c0 2 ((mp (mp M c0 0 (M c1 0)) c0 1 ((mp M c0 0 (M c1 0)) c1 1)) c1 2)) c1 3)) (c0 + 1)) (Int32.toNatClampNeg 0) (Int32.toNatClampNeg 0) (Int32.toNatClampNeg 7))) (c1 + 2)) ((va_up (mp (mp (mp (mp M c0 0 (M c1 0)) c0 1 ((mp M c0 0 (M c1 0)) c1 1)) c0 2 ((mp (mp M c0 0 (M c1 0)) c0 1 ((mp M c0 0 (M c1 0)) c1 1)) c1 2)) c0 3 ((mp (mp (mp M c0 0 (M c1 0)) c0 1 ((mp M c0 0 (M c1 0)) c1 1)) c0 2 ((mp (mp M c0 0 (M c1 0)) c0 1 ((mp M c0 0 (M c1 0)) c1 1)) c1 2)) c1 3)) (c0 + 1) (va_cpy ((mp (mp (mp (mp M c0 0 (M c1 0)) c0 1 ((mp M c0 0 (M c1 0)) c1 1)) c0 2 ((mp (mp M c0 0 (M c1 0)) c0 1 ((mp M c0 0 (M c1 0)) c1 1)) c1 2)) c0 3 ((mp (mp (mp M c0 0 (M c1 0)) c0 1 ((mp M c0 0 (M c1 0)) c1 1)) c0 2 ((mp (mp M c0 0 (M c1 0)) c0 1 ((mp M c0 0 (M c1 0)) c1 1)) c1 2)) c1 3)) (c1 + 1)) ((mp (mp (mp (mp M c0 0 (M c1 0)) c0 1 ((mp M c0 0 (M c1 0)) c1 1)) c0 2 ((mp (mp M c0 0 (M c1 0)) c0 1 ((mp M c0 0 (M c1 0)) c1 1)) c1 2)) c0 3 ((mp (mp (mp M c0 0 (M c1 0)) c0 1 ((mp M c0 0 (M c1 0)) c1 1)) c0 2 ((mp (mp M c0 0 (M c1 0)) c0 1 ((mp M c0 0 (M c1 0)) c1 1)) c1 2)) c1 3)) (c0 + 1)) (Int32.toNatClampNeg 0) (Int32.toNatClampNeg 0) (Int32.toNatClampNeg 7))) (c0 + 2)) (Int32.toNatClampNeg 0) (Int32.toNatClampNeg 0) (Int32.toNatClampNeg 7))) (c0 + 3) (va_cpy ((va_up (va_up (mp (mp (mp (mp M c0 0 (M c1 0)) c0 1 ((mp M c0 0 (M c1 0)) c1 1)) c0 2 ((mp (mp M c0 0 (M c1 0)) c0 1 ((mp M c0 0 (M c1 0)) c1 1)) c1 2)) c0 3 ((mp (mp (mp M c0 0 (M c1 0)) c0 1 ((mp M c0 0 (M c1 0)) c1 1)) c0 2 ((mp (mp M c0 0 (M c1 0)) c0 1 ((mp M c0 0 (M c1 0)) c1 1)) c1 2)) c1 3)) (c0 + 1) (va_cpy ((mp (mp (mp (mp M c0 0 (M c1 0)) c0 1 ((mp M c0 0 (M c1 0)) c1 1)) c0 2 ((mp (mp M c0 0 (M c1 0)) c0 1 ((mp M c0 0 (M c1 0)) c1 1)) c1 2)) c0 3 ((mp (mp (mp M c0 0 (M c1 0)) c0 1 ((mp M c0 0 (M c1 0)) c1 1)) c0 2 ((mp (mp M c0 0 (M c1 0)) c0 1 ((mp M c0 0 (M c1 0)) c1 1)) c1 2)) c1 3)) (c1 + 1)) ((mp (mp (mp (mp M c0 0 (M c1 0)) c0 1 ((mp M c0 0 (M c1 0)) c1 1)) c0 2 ((mp (mp M c0 0 (M c1 0)) c0 1 ((mp M c0 0 (M c1 0)) c1 1)) c1 2)) c0 3 ((mp (mp (mp M c0 0 (M c1 0)) c0 1 ((mp M c0 0 (M c1 0)) c1 1)) c0 2 ((mp (mp M c0 0 (M c1 0)) c0 1 ((mp M c0 0 (M c1 0)) c1 1)) c1 2)) c1 3)) (c0 + 1)) (Int32.toNatClampNeg 0) (Int32.toNatClampNeg 0) (Int32.toNatClampNeg 7))) (c0 + 2) (va_cpy ((va_up (mp (mp (mp (mp M c0 0 (M c1 0)) c0 1 ((mp M c0 0 (M c1 0)) c1 1)) c0 2 ((mp (mp M c0 0 (M c1 0)) c0 1 ((mp M c0 0 (M c1 0)) c1 1)) c1 2)) c0 3 ((mp (mp (mp M c0 0 (M c1 0)) c0 1 ((mp M c0 0 (M c1 0)) c1 1)) c0 2 ((mp (mp M c0 0 (M c1 0)) c0 1 ((mp M c0 0 (M c1 0)) c1 1)) c1 2)) c1 3)) (c0 + 1) (va_cpy ((mp (mp (mp (mp M c0 0 (M c1 0)) c0 1 ((mp M c0 0 (M c1 0)) c1 1)) c0 2 ((mp (mp M c0 0 (M c1 0)) c0 1 ((mp M c0 0 (M c1 0)) c1 1)) c1 2)) c0 3 ((mp (mp (mp M c0 0 (M c1 0)) c0 1 ((mp M c0 0 (M c1 0)) c1 1)) c0 2 ((mp (mp M c0 0 (M c1 0)) c0 1 ((mp M c0 0 (M c1 0)) c1 1)) c1 2)) c1 3)) (c1 + 1)) ((mp (mp (mp (mp M c0 0 (M c1 0)) c0 1 ((mp M c0 0 (M c1 0)) c1 1)) c0 2 ((mp (mp M c0 0 (M c1 0)) c0 1 ((mp M c0 0 (M c1 0)) c1 1)) c1 2)) c0 3 ((mp (mp (mp M c0 0 (M c1 0)) c0 1 ((mp M c0 0 (M c1 0)) c1 1)) c0 2 ((mp (mp M c0 0 (M c1 0)) c0 1 ((mp M c0 0 (M c1 0)) c1 1)) c1 2)) c1 3)) (c0 + 1)) (Int32.toNatClampNeg 0) (Int32.toNatClampNeg 0) (Int32.toNatClampNeg 7))) (c1 + 2)) ((va_up (mp (mp (mp (mp M c0 0 (M c1 0)) c0 1 ((mp M c0 0 (M c1 0)) c1 1)) c0 2 ((mp (mp M c0 0 (M c1 0)) c0 1 ((mp M c0 0 (M c1 0)) c1 1)) c1 2)) c0 3 ((mp (mp (mp M c0 0 (M c1 0)) c0 1 ((mp M c0 0 (M c1 0)) c1 1)) c0 2 ((mp (mp M c0 0 (M c1 0)) c0 1 ((mp M c0 0 (M c1 0)) c1 1)) c1 2)) c1 3)) (c0 + 1) (va_cpy ((mp (mp (mp (mp M c0 0 (M c1 0)) c0 1 ((mp M c0 0 (M c1 0)) c1 1)) c0 2 ((mp (mp M c0 0 (M c1 0)) c0 1 ((mp M c0 0 (M c1 0)) c1 1)) c1 2)) c0 3 ((mp (mp (mp M c0 0 (M c1 0)) c0 1 ((mp M c0 0 (M c1 0)) c1 1)) c0 2 ((mp (mp M c0 0 (M c1 0)) c0 1 ((mp M c0 0 (M c1 0)) c1 1)) c1 2)) c1 3)) (c1 + 1)) ((mp (mp (mp (mp M c0 0 (M c1 0)) c0 1 ((mp M c0 0 (M c1 0)) c1 1)) c0 2 ((mp (mp M c0 0 (M c1 0)) c0 1 ((mp M c0 0 (M c1 0)) c1 1)) c1 2)) c0 3 ((mp (mp (mp M c0 0 (M c1 0)) c0 1 ((mp M c0 0 (M c1 0)) c1 1)) c0 2 ((mp (mp M c0 0 (M c1 0)) c0 1 ((mp M c0 0 (M c1 0)) c1 1)) c1 2)) c1 3)) (c0 + 1)) (Int32.toNatClampNeg 0) (Int32.toNatClampNeg 0) (Int32.toNatClampNeg 7))) (c0 + 2)) (Int32.toNatClampNeg 0) (Int32.toNatClampNeg 0) (Int32.toNatClampNeg 7))) (c1 + 3)) ((va_up (va_up (mp (mp (mp (mp M c0 0 (M c1 0)) c0 1 ((mp M c0 0 (M c1 0)) c1 1)) c0 2 ((mp (mp M c0 0 (M c1 0)) c0 1 ((mp M c0 0 (M c1 0)) c1 1)) c1 2)) c0 3 ((mp (mp (mp M c0 0 (M c1 0)) c0 1 ((mp M c0 0 (M c1 0)) c1 1)) c0 2 ((mp (mp M c0 0 (M c1 0)) c0 1 ((mp M c0 0 (M c1 0)) c1 1)) c1 2)) c1 3)) (c0 + 1) (va_cpy ((mp (mp (mp (mp M c0 0 (M c1 0)) c0 1 ((mp M c0 0 (M c1 0)) c1 1)) c0 2 ((mp (mp M c0 0 (M c1 0)) c0 1 ((mp M c0 0 (M c1 0)) c1 1)) c1 2)) c0 3 ((mp (mp (mp M c0 0 (M c1 0)) c0 1 ((mp M c0 0 (M c1 0)) c1 1)) c0 2 ((mp (mp M c0 0 (M c1 0)) c0 1 ((mp M c0 0 (M c1 0)) c1 1)) c1 2)) c1 3)) (c1 + 1)) ((mp (mp (mp (mp M c0 0 (M c1 0)) c0 1 ((mp M c0 0 (M c1 0)) c1 1)) c0 2 ((mp (mp M c0 0 (M c1 0)) c0 1 ((mp M c0 0 (M c1 0)) c1 1)) c1 2)) c0 3 ((mp (mp (mp M c0 0 (M c1 0)) c0 1 ((mp M c0 0 (M c1 0)) c1 1)) c0 2 ((mp (mp M c0 0 (M c1 0)) c0 1 ((mp M c0 0 (M c1 0)) c1 1)) c1 2)) c1 3)) (c0 + 1)) (Int32.toNatClampNeg 0) (Int32.toNatClampNeg 0) (Int32.toNatClampNeg 7))) (c0 + 2) (va_cpy ((va_up (mp (mp (mp (mp M c0 0 (M c1 0)) c0 1 ((mp M c0 0 (M c1 0)) c1 1)) c0 2 ((mp (mp M c0 0 (M c1 0)) c0 1 ((mp M c0 0 (M c1 0)) c1 1)) c1 2)) c0 3 ((mp (mp (mp M c0 0 (M c1 0)) c0 1 ((mp M c0 0 (M c1 0)) c1 1)) c0 2 ((mp (mp M c0 0 (M c1 0)) c0 1 ((mp M c0 0 (M c1 0)) c1 1)) c1 2)) c1 3)) (c0 + 1) (va_cpy ((mp (mp (mp (mp M c0 0 (M c1 0)) c0 1 ((mp M c0 0 (M c1 0)) c1 1)) c0 2 ((mp (mp M c0 0 (M c1 0)) c0 1 ((mp M c0 0 (M c1 0)) c1 1)) c1 2)) c0 3 ((mp (mp (mp M c0 0 (M c1 0)) c0 1 ((mp M c0 0 (M c1 0)) c1 1)) c0 2 ((mp (mp M c0 0 (M c1 0)) c0 1 ((mp M c0 0 (M c1 0)) c1 1)) c1 2)) c1 3)) (c1 + 1)) ((mp (mp (mp (mp M c0 0 (M c1 0)) c0 1 ((mp M c0 0 (M c1 0)) c1 1)) c0 2 ((mp (mp M c0 0 (M c1 0)) c0 1 ((mp M c0 0 (M c1 0)) c1 1)) c1 2)) c0 3 ((mp (mp (mp M c0 0 (M c1 0)) c0 1 ((mp M c0 0 (M c1 0)) c1 1)) c0 2 ((mp (mp M c0 0 (M c1 0)) c0 1 ((mp M c0 0 (M c1 0)) c1 1)) c1 2)) c1 3)) (c0 + 1)) (Int32.toNatClampNeg 0) (Int32.toNatClampNeg 0) (Int32.toNatClampNeg 7))) (c1 + 2)) ((va_up (mp (mp (mp (mp M c0 0 (M c1 0)) c0 1 ((mp M c0 0 (M c1 0)) c1 1)) c0 2 ((mp (mp M c0 0 (M c1 0)) c0 1 ((mp M c0 0 (M c1 0)) c1 1)) c1 2)) c0 3 ((mp (mp (mp M c0 0 (M c1 0)) c0 1 ((mp M c0 0 (M c1 0)) c1 1)) c0 2 ((mp (mp M c0 0 (M c1 0)) c0 1 ((mp M c0 0 (M c1 0)) c1 1)) c1 2)) c1 3)) (c0 + 1) (va_cpy ((mp (mp (mp (mp M c0 0 (M c1 0)) c0 1 ((mp M c0 0 (M c1 0)) c1 1)) c0 2 ((mp (mp M c0 0 (M c1 0)) c0 1 ((mp M c0 0 (M c1 0)) c1 1)) c1 2)) c0 3 ((mp (mp (mp M c0 0 (M c1 0)) c0 1 ((mp M c0 0 (M c1 0)) c1 1)) c0 2 ((mp (mp M c0 0 (M c1 0)) c0 1 ((mp M c0 0 (M c1 0)) c1 1)) c1 2)) c1 3)) (c1 + 1)) ((mp (mp (mp (mp M c0 0 (M c1 0)) c0 1 ((mp M c0 0 (M c1 0)) c1 1)) c0 2 ((mp (mp M c0 0 (M c1 0)) c0 1 ((mp M c0 0 (M c1 0)) c1 1)) c1 2)) c0 3 ((mp (mp (mp M c0 0 (M c1 0)) c0 1 ((mp M c0 0 (M c1 0)) c1 1)) c0 2 ((mp (mp M c0 0 (M c1 0)) c0 1 ((mp M c0 0 (M c1 0)) c1 1)) c1 2)) c1 3)) (c0 + 1)) (Int32.toNatClampNeg 0) (Int32.toNatClampNeg 0) (Int32.toNatClampNeg 7))) (c0 + 2)) (Int32.toNatClampNeg 0) (Int32.toNatClampNeg 0) (Int32.toNatClampNeg 7))) (c0 + 3)) (Int32.toNatClampNeg 0) (Int32.toNatClampNeg 0) (Int32.toNatClampNeg 7)))) hx hb (hml.trans hl.1.symm) hown w37 wnat wstat wini hK hI (fun _ h => aA_in h) hP hS (c1 + 3) (c0 + 3) (isSt_lt h1 3 (by decide)) (isSt_lt h0 3 (by decide)) (eX_Sa3 h1) (eX_Sa3 h0) q3 (eX_ua (fun _ => eX_Sa3 h0)) (Nat.le_of_ble_eq_true rfl) (Nat.le_of_ble_eq_true rfl) dX2_become_74 (fun H locs hP hS => ?_)
  rw [hQz]
  exact r_vret hx hb hr hlk hS (Option.some.inj h ▸ hP) dX2_become_77
def rmX0_keep : Room := { frames := 2, cells := 0, slots := 0, locals := 81 }
set_option maxHeartbeats 4000000 in
set_option maxRecDepth 100000 in
theorem ok_X0_keep (l : Launch) (g : gT) (a : Nat → Nat) (hI : ij 203 a) (M : Mem) (M' : Mem) (h : fX0_keep M = some M') : MV l yX0_keep wsX0_keep rmX0_keep g 203 a [.ref (a 9), .ref (a 4)] (wl 203 a (eX g a M)) (wl 203 a (eX g a M')) := by
  refine MV_of (cc := cX0_keep) (maxL := 2) (by decide) rfl (Nat.le_of_ble_eq_true rfl) ?_
  intro p e s m args below meth c ls hx hb hml hr hlk hts hown hK hP hl
  have hown : s.vm.findClass RX0 = some m.cls := hown
  have hl : lv_has ls 2 [(0, .ref (a 9)), (1, .ref (a 4))] := hl
  have hS : va_S (aA 203 a s.heap.size) s.heap s.heap [] := va_S.rf
  have iX0 : ∀ w ∈ wsX00, w ∈ wsX0_keep := fun w h => List.mem_cons_of_mem _ (List.mem_append_left _ (List.mem_append_right _ h))
  have w11 := hts (.fieldLink RX0 11 "StepRiders$Acts" "before" "[LStepRiders$Stair;") (by decide +kernel)
  have w17 := hts (.fieldLink RX0 17 "StepRiders$Acts" "next" "I") (by decide +kernel)
  have w21 := hts (.fieldLink RX0 21 "StepRiders$Acts" "kept" "I") (by decide +kernel)
  have w29 := hts (.methodLink RX0 29 Lib.Math.min.name) (by decide +kernel)
  have wsMmin := hts (.static Lib.Math.min.name) (by decide +kernel)
  have wcMmin := hts (.code Lib.Math.min.name Lib.Math.min.code 2 (some .int)) (by decide +kernel)
  have wiMath := hts (.initialized "java/lang/Math") (by decide +kernel)
  obtain ⟨Qz, hQz⟩ : ∃ Qz : State → Prop, Qz = MQ below (qV g (wl 203 a (eX g a M')) (aA 203 a s.heap.size)) args s 0 0 (aA 203 a s.heap.size) := ⟨_, rfl⟩
  rw [← hQz]
  unfold fX0_keep at h
  refine lv_aload_n hx hb dX0_keep_0 rfl (lv_at hl 0 rfl) ?_
  refine r_get (v := .ref (a 10)) hx hb hts iX0 hown hK hP 9 (by decide) eX_9 rfl 0 (by decide) w11 rfl dX0_keep_1 ?_
  refine lv_aload_n hx hb dX0_keep_4 rfl (lv_at hl 0 rfl) ?_
  refine r_get (v := .int (M 9 1)) hx hb hts iX0 hown hK hP 9 (by decide) eX_9 rfl 1 (by decide) w17 rfl dX0_keep_5 ?_
  obtain ⟨q1, h⟩ := chk_ok h
  refine r_bef (i := (M 9 1)) hx hb hK hP q1 dX0_keep_8 ?_
  refine lv_aload_n hx hb dX0_keep_9 rfl (lv_at hl 1 rfl) ?_
  obtain ⟨M4, e3, h⟩ := bdV_ok h
  refine r_callVv (As := [.ref (a 4)]) (rest := []) (ws' := (wl 203 a (eX g a M4))) (ok_X2_become l g a hI (11 + 5 * (Int32.toNatClampNeg (M 9 1))) 4 M M4 (st_b _ (bIn_lt q1)) (by decide) e3) ⟨hx, hb, hml, hown, hts⟩ (cwV 1 hts gX0_keep_X2_become rfl rfl rfl (by decide +kernel) ⟨Nat.le_of_ble_eq_true rfl, Nat.le_of_ble_eq_true rfl⟩) hK (r_recv hK hP (11 + 5 * (Int32.toNatClampNeg (M 9 1))) (isSt_lt (st_b _ (bIn_lt q1)) 0 (by decide)) (eX_Stair (st_b _ (bIn_lt q1))) (show vwCl[2]? = some (RX2, TX2, 8) from rfl)) hS hP (fun _ hq => aA_mono hS.1 hq) (fun _ h _ => h) rfl hl.1 rfl (Nat.le_of_ble_eq_true rfl) dX0_keep_10 ⟨Nat.zero_le _, Nat.zero_le _⟩ (fun H locs hP hS => ?_)
  refine lv_aload_n hx hb dX0_keep_13 rfl (lv_at hl 0 rfl) ?_
  refine lv_aload_n hx hb dX0_keep_14 rfl (lv_at hl 0 rfl) ?_
  refine r_get (v := .int (M4 9 1)) hx hb hts iX0 hown hK hP 9 (by decide) eX_9 rfl 1 (by decide) w17 rfl dX0_keep_15 ?_
  refine lv_iconst (v := 1) hx hb dX0_keep_18 (by decide) ?_
  refine lv_iadd (x := (M4 9 1)) (y := 1) hx hb dX0_keep_19 ?_
  refine lv_bipush (v := 24) hx hb dX0_keep_20 (by decide) ?_
  refine lv_irem (x := ((M4 9 1) + 1)) (y := 24) hx hb dX0_keep_22 (by decide) ?_
  refine r_put (v := .int (((M4 9 1) + 1) - ((M4 9 1) + 1) / 24 * 24)) (ty := .int) (f' := eX g a (mp M4 9 1 (((M4 9 1) + 1) - ((M4 9 1) + 1) / 24 * 24))) hx hb hts iX0 tyX0 tyX0_ok nmX0 hown hK hI (fun _ h => aA_in h) hP hS 9 (by decide) eX_9 rfl 1 (by decide) w17 rfl (by decide +kernel) rfl rfl (Nat.le_of_ble_eq_true rfl) eX_pActs1 dX0_keep_23 (fun H locs hP hS => ?_)
  refine lv_aload_n hx hb dX0_keep_26 rfl (lv_at hl 0 rfl) ?_
  refine lv_aload_n hx hb dX0_keep_27 rfl (lv_at hl 0 rfl) ?_
  refine r_get (v := .int ((mp M4 9 1 (((M4 9 1) + 1) - ((M4 9 1) + 1) / 24 * 24)) 9 2)) hx hb hts iX0 hown hK hP 9 (by decide) eX_9 rfl 2 (by decide) w21 rfl dX0_keep_28 ?_
  refine lv_iconst (v := 1) hx hb dX0_keep_31 (by decide) ?_
  refine lv_iadd (x := ((mp M4 9 1 (((M4 9 1) + 1) - ((M4 9 1) + 1) / 24 * 24)) 9 2)) (y := 1) hx hb dX0_keep_32 ?_
  refine lv_bipush (v := 24) hx hb dX0_keep_33 (by decide) ?_
  refine va_mmin (x := (((mp M4 9 1 (((M4 9 1) + 1) - ((M4 9 1) + 1) / 24 * 24)) 9 2) + 1)) (y := 24) hx hb (hml.trans hl.1.symm) hown w29 wsMmin wiMath wcMmin (Nat.le_of_ble_eq_true rfl) (Nat.le_of_ble_eq_true rfl) (Nat.zero_le _) (Nat.zero_le _) dX0_keep_35 ?_
  refine r_put (v := .int (if 24 < (((mp M4 9 1 (((M4 9 1) + 1) - ((M4 9 1) + 1) / 24 * 24)) 9 2) + 1) then 24 else (((mp M4 9 1 (((M4 9 1) + 1) - ((M4 9 1) + 1) / 24 * 24)) 9 2) + 1))) (ty := .int) (f' := eX g a (mp (mp M4 9 1 (((M4 9 1) + 1) - ((M4 9 1) + 1) / 24 * 24)) 9 2 (if 24 < (((mp M4 9 1 (((M4 9 1) + 1) - ((M4 9 1) + 1) / 24 * 24)) 9 2) + 1) then 24 else (((mp M4 9 1 (((M4 9 1) + 1) - ((M4 9 1) + 1) / 24 * 24)) 9 2) + 1)))) hx hb hts iX0 tyX0 tyX0_ok nmX0 hown hK hI (fun _ h => aA_in h) hP hS 9 (by decide) eX_9 rfl 2 (by decide) w21 rfl (by decide +kernel) rfl rfl (Nat.le_of_ble_eq_true rfl) eX_pActs2 dX0_keep_38 (fun H locs hP hS => ?_)
  rw [hQz]
  exact r_vret hx hb hr hlk hS (Option.some.inj h ▸ hP) dX0_keep_41
def rmX0_takeBack : Room := { frames := 2, cells := 0, slots := 0, locals := 81 }
set_option maxHeartbeats 4000000 in
set_option maxRecDepth 100000 in
theorem ok_X0_takeBack (l : Launch) (g : gT) (a : Nat → Nat) (hI : ij 203 a) (M : Mem) (M' : Mem) (h : fX0_takeBack M = some M') : MV l yX0_takeBack wsX0_takeBack rmX0_takeBack g 203 a [.ref (a 9), .ref (a 4)] (wl 203 a (eX g a M)) (wl 203 a (eX g a M')) := by
  refine MV_of (cc := cX0_takeBack) (maxL := 2) (by decide) rfl (Nat.le_of_ble_eq_true rfl) ?_
  intro p e s m args below meth c ls hx hb hml hr hlk hts hown hK hP hl
  have hown : s.vm.findClass RX0 = some m.cls := hown
  have hl : lv_has ls 2 [(0, .ref (a 9)), (1, .ref (a 4))] := hl
  have hS : va_S (aA 203 a s.heap.size) s.heap s.heap [] := va_S.rf
  have iX0 : ∀ w ∈ wsX00, w ∈ wsX0_takeBack := fun w h => List.mem_cons_of_mem _ (List.mem_append_left _ (List.mem_append_right _ h))
  have w17 := hts (.fieldLink RX0 17 "StepRiders$Acts" "next" "I") (by decide +kernel)
  have w11 := hts (.fieldLink RX0 11 "StepRiders$Acts" "before" "[LStepRiders$Stair;") (by decide +kernel)
  have w21 := hts (.fieldLink RX0 21 "StepRiders$Acts" "kept" "I") (by decide +kernel)
  have w35 := hts (.methodLink RX0 35 Lib.Math.max.name) (by decide +kernel)
  have wsMmax := hts (.static Lib.Math.max.name) (by decide +kernel)
  have wcMmax := hts (.code Lib.Math.max.name Lib.Math.max.code 2 (some .int)) (by decide +kernel)
  have wiMath := hts (.initialized "java/lang/Math") (by decide +kernel)
  obtain ⟨Qz, hQz⟩ : ∃ Qz : State → Prop, Qz = MQ below (qV g (wl 203 a (eX g a M')) (aA 203 a s.heap.size)) args s 0 0 (aA 203 a s.heap.size) := ⟨_, rfl⟩
  rw [← hQz]
  unfold fX0_takeBack at h
  refine lv_aload_n hx hb dX0_takeBack_0 rfl (lv_at hl 0 rfl) ?_
  refine lv_aload_n hx hb dX0_takeBack_1 rfl (lv_at hl 0 rfl) ?_
  refine r_get (v := .int (M 9 1)) hx hb hts iX0 hown hK hP 9 (by decide) eX_9 rfl 1 (by decide) w17 rfl dX0_takeBack_2 ?_
  refine lv_bipush (v := 24) hx hb dX0_takeBack_5 (by decide) ?_
  refine lv_iadd (x := (M 9 1)) (y := 24) hx hb dX0_takeBack_7 ?_
  refine lv_iconst (v := 1) hx hb dX0_takeBack_8 (by decide) ?_
  refine lv_isub (x := ((M 9 1) + 24)) (y := 1) hx hb dX0_takeBack_9 ?_
  refine lv_bipush (v := 24) hx hb dX0_takeBack_10 (by decide) ?_
  refine lv_irem (x := (((M 9 1) + 24) - 1)) (y := 24) hx hb dX0_takeBack_12 (by decide) ?_
  refine r_put (v := .int ((((M 9 1) + 24) - 1) - (((M 9 1) + 24) - 1) / 24 * 24)) (ty := .int) (f' := eX g a (mp M 9 1 ((((M 9 1) + 24) - 1) - (((M 9 1) + 24) - 1) / 24 * 24))) hx hb hts iX0 tyX0 tyX0_ok nmX0 hown hK hI (fun _ h => aA_in h) hP hS 9 (by decide) eX_9 rfl 1 (by decide) w17 rfl (by decide +kernel) rfl rfl (Nat.le_of_ble_eq_true rfl) eX_pActs1 dX0_takeBack_13 (fun H locs hP hS => ?_)
  refine lv_aload_n hx hb dX0_takeBack_16 rfl (lv_at hl 1 rfl) ?_
  refine lv_aload_n hx hb dX0_takeBack_17 rfl (lv_at hl 0 rfl) ?_
  refine r_get (v := .ref (a 10)) hx hb hts iX0 hown hK hP 9 (by decide) eX_9 rfl 0 (by decide) w11 rfl dX0_takeBack_18 ?_
  refine lv_aload_n hx hb dX0_takeBack_21 rfl (lv_at hl 0 rfl) ?_
  refine r_get (v := .int ((mp M 9 1 ((((M 9 1) + 24) - 1) - (((M 9 1) + 24) - 1) / 24 * 24)) 9 1)) hx hb hts iX0 hown hK hP 9 (by decide) eX_9 rfl 1 (by decide) w17 rfl dX0_takeBack_22 ?_
  obtain ⟨q1, h⟩ := chk_ok h
  refine r_bef (i := ((mp M 9 1 ((((M 9 1) + 24) - 1) - (((M 9 1) + 24) - 1) / 24 * 24)) 9 1)) hx hb hK hP q1 dX0_takeBack_25 ?_
  obtain ⟨M4, e3, h⟩ := bdV_ok h
  refine r_callVv (As := [.ref (a (11 + 5 * (Int32.toNatClampNeg ((mp M 9 1 ((((M 9 1) + 24) - 1) - (((M 9 1) + 24) - 1) / 24 * 24)) 9 1))))]) (rest := []) (ws' := (wl 203 a (eX g a M4))) (ok_X2_become l g a hI 4 (11 + 5 * (Int32.toNatClampNeg ((mp M 9 1 ((((M 9 1) + 24) - 1) - (((M 9 1) + 24) - 1) / 24 * 24)) 9 1))) (mp M 9 1 ((((M 9 1) + 24) - 1) - (((M 9 1) + 24) - 1) / 24 * 24)) M4 (by decide) (st_b _ (bIn_lt q1)) e3) ⟨hx, hb, hml, hown, hts⟩ (cwV 1 hts gX0_takeBack_X2_become rfl rfl rfl (by decide +kernel) ⟨Nat.le_of_ble_eq_true rfl, Nat.le_of_ble_eq_true rfl⟩) hK (r_recv hK hP 4 (isSt_lt (c := 4) (by decide) 0 (by decide)) (eX_Stair (c := 4) (by decide)) (show vwCl[2]? = some (RX2, TX2, 8) from rfl)) hS hP (fun _ hq => aA_mono hS.1 hq) (fun _ h _ => h) rfl hl.1 rfl (Nat.le_of_ble_eq_true rfl) dX0_takeBack_26 ⟨Nat.zero_le _, Nat.zero_le _⟩ (fun H locs hP hS => ?_)
  refine lv_aload_n hx hb dX0_takeBack_29 rfl (lv_at hl 0 rfl) ?_
  refine lv_aload_n hx hb dX0_takeBack_30 rfl (lv_at hl 0 rfl) ?_
  refine r_get (v := .int (M4 9 2)) hx hb hts iX0 hown hK hP 9 (by decide) eX_9 rfl 2 (by decide) w21 rfl dX0_takeBack_31 ?_
  refine lv_iconst (v := 1) hx hb dX0_takeBack_34 (by decide) ?_
  refine lv_isub (x := (M4 9 2)) (y := 1) hx hb dX0_takeBack_35 ?_
  refine lv_iconst (v := 0) hx hb dX0_takeBack_36 (by decide) ?_
  refine va_mmax (x := ((M4 9 2) - 1)) (y := 0) hx hb (hml.trans hl.1.symm) hown w35 wsMmax wiMath wcMmax (Nat.le_of_ble_eq_true rfl) (Nat.le_of_ble_eq_true rfl) (Nat.zero_le _) (Nat.zero_le _) dX0_takeBack_37 ?_
  refine r_put (v := .int (if ((M4 9 2) - 1) < 0 then 0 else ((M4 9 2) - 1))) (ty := .int) (f' := eX g a (mp M4 9 2 (if ((M4 9 2) - 1) < 0 then 0 else ((M4 9 2) - 1)))) hx hb hts iX0 tyX0 tyX0_ok nmX0 hown hK hI (fun _ h => aA_in h) hP hS 9 (by decide) eX_9 rfl 2 (by decide) w21 rfl (by decide +kernel) rfl rfl (Nat.le_of_ble_eq_true rfl) eX_pActs2 dX0_takeBack_40 (fun H locs hP hS => ?_)
  rw [hQz]
  exact r_vret hx hb hr hlk hS (Option.some.inj h ▸ hP) dX0_takeBack_43
def rmX0_forgetAll : Room := { frames := 1, cells := 0, slots := 0, locals := 60 }
set_option maxHeartbeats 4000000 in
set_option maxRecDepth 100000 in
theorem ok_X0_forgetAll (l : Launch) (g : gT) (a : Nat → Nat) (hI : ij 203 a) (M : Mem) (M' : Mem) (h : fX0_forgetAll M = some M') : MV l yX0_forgetAll wsX0_forgetAll rmX0_forgetAll g 203 a [.ref (a 9)] (wl 203 a (eX g a M)) (wl 203 a (eX g a M')) := by
  refine MV_of (cc := cX0_forgetAll) (maxL := 1) (by decide) rfl (Nat.le_of_ble_eq_true rfl) ?_
  intro p e s m args below meth c ls hx hb hml hr hlk hts hown hK hP hl
  have hown : s.vm.findClass RX0 = some m.cls := hown
  have hl : lv_has ls 1 [(0, .ref (a 9))] := hl
  have hS : va_S (aA 203 a s.heap.size) s.heap s.heap [] := va_S.rf
  have iX0 : ∀ w ∈ wsX00, w ∈ wsX0_forgetAll := fun w h => List.mem_cons_of_mem _ (List.mem_append_right _ h)
  have w21 := hts (.fieldLink RX0 21 "StepRiders$Acts" "kept" "I") (by decide +kernel)
  obtain ⟨Qz, hQz⟩ : ∃ Qz : State → Prop, Qz = MQ below (qV g (wl 203 a (eX g a M')) (aA 203 a s.heap.size)) args s 0 0 (aA 203 a s.heap.size) := ⟨_, rfl⟩
  rw [← hQz]
  unfold fX0_forgetAll at h
  refine lv_aload_n hx hb dX0_forgetAll_0 rfl (lv_at hl 0 rfl) ?_
  refine lv_iconst (v := 0) hx hb dX0_forgetAll_1 (by decide) ?_
  refine r_put (v := .int 0) (ty := .int) (f' := eX g a (mp M 9 2 0)) hx hb hts iX0 tyX0 tyX0_ok nmX0 hown hK hI (fun _ h => aA_in h) hP hS 9 (by decide) eX_9 rfl 2 (by decide) w21 rfl (by decide +kernel) rfl rfl (Nat.le_of_ble_eq_true rfl) eX_pActs2 dX0_forgetAll_2 (fun H locs hP hS => ?_)
  rw [hQz]
  exact r_vret hx hb hr hlk hS (Option.some.inj h ▸ hP) dX0_forgetAll_5
def rmX1_begin : Room := { frames := 1, cells := 0, slots := 0, locals := 60 }
set_option maxHeartbeats 4000000 in
set_option maxRecDepth 100000 in
theorem ok_X1_begin (l : Launch) (g : gT) (a : Nat → Nat) (hI : ij 203 a) (c0 : Nat) (p1 : Int32) (p2 : Int32) (M : Mem) (M' : Mem) (h0 : isRw c0 = true) (h : fX1_begin c0 p1 p2 M = some M') : MV l yX1_begin wsX1_begin rmX1_begin g 203 a [.ref (a c0), .int p1, .int p2] (wl 203 a (eX g a M)) (wl 203 a (eX g a M')) := by
  refine MV_of (cc := cX1_begin) (maxL := 4) (by decide) rfl (Nat.le_of_ble_eq_true rfl) ?_
  intro p e s m args below meth c ls hx hb hml hr hlk hts hown hK hP hl
  have hown : s.vm.findClass RX1 = some m.cls := hown
  have hl : lv_has ls 4 [(0, .ref (a c0)), (1, .int p1), (2, .int p2)] := hl
  have hS : va_S (aA 203 a s.heap.size) s.heap s.heap [] := va_S.rf
  have iX1 : ∀ w ∈ wsX10, w ∈ wsX1_begin := fun w h => List.mem_cons_of_mem _ (List.mem_append_right _ h)
  have w9 := hts (.fieldLink RX1 9 "StepRiders$Row" "items" "[I") (by decide +kernel)
  have w15 := hts (.fieldLink RX1 15 "StepRiders$Row" "missing" "Z") (by decide +kernel)
  have w19 := hts (.fieldLink RX1 19 "StepRiders$Row" "width" "I") (by decide +kernel)
  have w23 := hts (.fieldLink RX1 23 "StepRiders$Row" "length" "I") (by decide +kernel)
  obtain ⟨Qz, hQz⟩ : ∃ Qz : State → Prop, Qz = MQ below (qV g (wl 203 a (eX g a M')) (aA 203 a s.heap.size)) args s 0 0 (aA 203 a s.heap.size) := ⟨_, rfl⟩
  rw [← hQz]
  have B17 : ∀ (k17 : Int32 → Mem → Option (Mem)) (C17 : ∀ (x3 : Int32) (M : Mem) (H : Heap) (locs : List Loc) (ls : Array Slot), k17 x3 M = some M' → va_P g.1 vwCl (wl 203 a (eX g a M)) H → va_S (aA 203 a s.heap.size) s.heap H locs → lv_has ls 4 [(0, .ref (a c0)), (1, .int p1), (2, .int p2), (3, .int x3)] → W p l e rmX1_begin s m args below meth c H locs 0 0 Qz (F0 m 17 ls [])), ∀ (x3 : Int32) (M : Mem) (H : Heap) (locs : List Loc) (ls : Array Slot), fX1_begin_b17 c0 p1 p2 k17 x3 M = some M' → va_P g.1 vwCl (wl 203 a (eX g a M)) H → va_S (aA 203 a s.heap.size) s.heap H locs → lv_has ls 4 [(0, .ref (a c0)), (1, .int p1), (2, .int p2), (3, .int x3)] → W p l e rmX1_begin s m args below meth c H locs 0 0 Qz (F0 m 17 ls []) := by
    intro k17 C17 x3 M H locs ls h hP hS hl
    unfold fX1_begin_b17 at h
    refine lv_iload_n hx hb dX1_begin_17 rfl (lv_at hl 3 rfl) ?_
    refine lv_bipush (v := 40) hx hb dX1_begin_18 (by decide) ?_
    refine lv_icmp_ge (x := x3) (y := 40) (tgt := 36) hx hb dX1_begin_20 (by decide) (fun q1 => ?_) (fun q1 => ?_)
    · replace h := if_t q1 h
      rw [hQz]
      exact r_vret hx hb hr hlk hS (Option.some.inj h ▸ hP) dX1_begin_36
    · replace h := if_f q1 h
      refine lv_aload_n hx hb dX1_begin_23 rfl (lv_at hl 0 rfl) ?_
      refine r_get (v := .ref (a (c0 + 1))) hx hb hts iX1 hown hK hP c0 (isRw_lt h0) (eX_Row h0) rfl 0 (by decide) w9 rfl dX1_begin_24 ?_
      refine lv_iload_n hx hb dX1_begin_27 rfl (lv_at hl 3 rfl) ?_
      refine lv_iconst (v := 0) hx hb dX1_begin_28 (by decide) ?_
      obtain ⟨q2, h⟩ := chk_ok h
      refine r_iast (i := x3) (x := 0) (h := M (c0 + 1)) (f' := eX g a (mp M (c0 + 1) (Int32.toNatClampNeg x3) 0)) hx hb hK hI (fun _ h => aA_in h) hP hS (c0 + 1) (isRw_lt1 h0) (eX_Ri h0) q2 (eX_ua (fun _ => eX_Ri h0)) dX1_begin_29 (fun H locs hP hS => ?_)
      refine lv_iinc (v := (x3 + 1)) (lv' := [(3, .int (x3 + 1)), (0, .ref (a c0)), (1, .int p1), (2, .int p2)]) hx hb dX1_begin_30 hl (k := 3) rfl rfl (by decide) rfl (fun ls hl => ?_)
      refine lv_goto (tgt := 17) hx hb dX1_begin_33 (by decide) ?_
      exact C17 (x3 + 1) (mp M (c0 + 1) (Int32.toNatClampNeg x3) 0) _ _ _ h hP hS (lv_sub hl [1, 2, 3, 0] rfl)
  have L17 : ∀ (n : Nat), ∀ (x3 : Int32) (M : Mem) (H : Heap) (locs : List Loc) (ls : Array Slot), fX1_begin_l17 c0 p1 p2 n x3 M = some M' → va_P g.1 vwCl (wl 203 a (eX g a M)) H → va_S (aA 203 a s.heap.size) s.heap H locs → lv_has ls 4 [(0, .ref (a c0)), (1, .int p1), (2, .int p2), (3, .int x3)] → W p l e rmX1_begin s m args below meth c H locs 0 0 Qz (F0 m 17 ls []) := by
    intro n
    induction n with
    | zero => intro x3 M H locs ls h; exact absurd (show (none : Option (Mem)) = some _ from h) (fun z => by cases z)
    | succ n ih => exact fun x3 M H locs ls h hP hS hl => B17 (fX1_begin_l17 c0 p1 p2 n) ih x3 M H locs ls h hP hS hl
  unfold fX1_begin at h
  refine lv_aload_n hx hb dX1_begin_0 rfl (lv_at hl 0 rfl) ?_
  refine lv_iconst (v := 0) hx hb dX1_begin_1 (by decide) ?_
  refine r_put (v := .int 0) (ty := .boolean) (f' := eX g a (mp M c0 1 0)) hx hb hts iX1 tyX1 tyX1_ok nmX1 hown hK hI (fun _ h => aA_in h) hP hS c0 (isRw_lt h0) (eX_Row h0) rfl 1 (by decide) w15 rfl (by decide +kernel) rfl rfl (Nat.le_of_ble_eq_true rfl) (eX_pRow1 h0) dX1_begin_2 (fun H locs hP hS => ?_)
  refine lv_aload_n hx hb dX1_begin_5 rfl (lv_at hl 0 rfl) ?_
  refine lv_iload_n hx hb dX1_begin_6 rfl (lv_at hl 1 rfl) ?_
  refine r_put (v := .int p1) (ty := .int) (f' := eX g a (mp (mp M c0 1 0) c0 2 p1)) hx hb hts iX1 tyX1 tyX1_ok nmX1 hown hK hI (fun _ h => aA_in h) hP hS c0 (isRw_lt h0) (eX_Row h0) rfl 2 (by decide) w19 rfl (by decide +kernel) rfl rfl (Nat.le_of_ble_eq_true rfl) (eX_pRow2 h0) dX1_begin_7 (fun H locs hP hS => ?_)
  refine lv_aload_n hx hb dX1_begin_10 rfl (lv_at hl 0 rfl) ?_
  refine lv_iload_n hx hb dX1_begin_11 rfl (lv_at hl 2 rfl) ?_
  refine r_put (v := .int p2) (ty := .int) (f' := eX g a (mp (mp (mp M c0 1 0) c0 2 p1) c0 3 p2)) hx hb hts iX1 tyX1 tyX1_ok nmX1 hown hK hI (fun _ h => aA_in h) hP hS c0 (isRw_lt h0) (eX_Row h0) rfl 3 (by decide) w23 rfl (by decide +kernel) rfl rfl (Nat.le_of_ble_eq_true rfl) (eX_pRow3 h0) dX1_begin_12 (fun H locs hP hS => ?_)
  refine lv_iconst (v := 0) hx hb dX1_begin_15 (by decide) ?_
  refine lv_istore_n (lv' := [(3, .int 0), (0, .ref (a c0)), (1, .int p1), (2, .int p2)]) hx hb dX1_begin_16 rfl hl (by decide) rfl (fun ls hl => ?_)
  exact L17 FU 0 (mp (mp (mp M c0 1 0) c0 2 p1) c0 3 p2) _ _ _ h hP hS (lv_sub hl [1, 2, 3, 0] rfl)
def rmX1_holds : Room := { frames := 1, cells := 0, slots := 0, locals := 60 }
set_option maxHeartbeats 4000000 in
set_option maxRecDepth 100000 in
theorem ok_X1_holds (l : Launch) (g : gT) (a : Nat → Nat) (hI : ij 203 a) (c0 : Nat) (p1 : Int32) (p2 : Int32) (M : Mem) (r : Int32) (h0 : isRw c0 = true) (h : fX1_holds c0 p1 p2 M = some r) : MI l yX1_holds wsX1_holds rmX1_holds g 203 a [.ref (a c0), .int p1, .int p2] (wl 203 a (eX g a M)) (wl 203 a (eX g a M)) r := by
  refine MI_of (cc := cX1_holds) (maxL := 3) (rt := .boolean) (by decide) rfl (Nat.le_of_ble_eq_true rfl) ?_
  intro p e s m args below meth c ls hx hb hml hr hlk hts hown hK hP hl
  have hown : s.vm.findClass RX1 = some m.cls := hown
  have hl : lv_has ls 3 [(0, .ref (a c0)), (1, .int p1), (2, .int p2)] := hl
  have hS : va_S (aA 203 a s.heap.size) s.heap s.heap [] := va_S.rf
  have iX1 : ∀ w ∈ wsX10, w ∈ wsX1_holds := fun w h => List.mem_cons_of_mem _ (List.mem_append_right _ h)
  have w23 := hts (.fieldLink RX1 23 "StepRiders$Row" "length" "I") (by decide +kernel)
  obtain ⟨Qz, hQz⟩ : ∃ Qz : State → Prop, Qz = MQ below (qI g (wl 203 a (eX g a M)) r (aA 203 a s.heap.size)) args s 0 0 (aA 203 a s.heap.size) := ⟨_, rfl⟩
  rw [← hQz]
  unfold fX1_holds at h
  refine lv_iload_n hx hb dX1_holds_0 rfl (lv_at hl 1 rfl) ?_
  refine lv_if_lt (x := p1) (tgt := 30) hx hb dX1_holds_1 (by decide) (fun q1 => ?_) (fun q1 => ?_)
  · replace h := if_t q1 h
    refine lv_iconst (v := 0) hx hb dX1_holds_30 (by decide) ?_
    rw [hQz]
    exact r_zret (v := 0) hx hb hr hlk hS hP (Option.some.inj h) (by decide) dX1_holds_31
  · replace h := if_f q1 h
    refine lv_iload_n hx hb dX1_holds_4 rfl (lv_at hl 2 rfl) ?_
    refine lv_if_lt (x := p2) (tgt := 30) hx hb dX1_holds_5 (by decide) (fun q2 => ?_) (fun q2 => ?_)
    · replace h := if_t q2 h
      refine lv_iconst (v := 0) hx hb dX1_holds_30 (by decide) ?_
      rw [hQz]
      exact r_zret (v := 0) hx hb hr hlk hS hP (Option.some.inj h) (by decide) dX1_holds_31
    · replace h := if_f q2 h
      refine lv_iload_n hx hb dX1_holds_8 rfl (lv_at hl 1 rfl) ?_
      refine lv_aload_n hx hb dX1_holds_9 rfl (lv_at hl 0 rfl) ?_
      refine r_get (v := .int (M c0 3)) hx hb hts iX1 hown hK hP c0 (isRw_lt h0) (eX_Row h0) rfl 3 (by decide) w23 rfl dX1_holds_10 ?_
      refine lv_icmp_gt (x := p1) (y := (M c0 3)) (tgt := 30) hx hb dX1_holds_13 (by decide) (fun q3 => ?_) (fun q3 => ?_)
      · replace h := if_t q3 h
        refine lv_iconst (v := 0) hx hb dX1_holds_30 (by decide) ?_
        rw [hQz]
        exact r_zret (v := 0) hx hb hr hlk hS hP (Option.some.inj h) (by decide) dX1_holds_31
      · replace h := if_f q3 h
        refine lv_iload_n hx hb dX1_holds_16 rfl (lv_at hl 2 rfl) ?_
        refine lv_aload_n hx hb dX1_holds_17 rfl (lv_at hl 0 rfl) ?_
        refine r_get (v := .int (M c0 3)) hx hb hts iX1 hown hK hP c0 (isRw_lt h0) (eX_Row h0) rfl 3 (by decide) w23 rfl dX1_holds_18 ?_
        refine lv_iload_n hx hb dX1_holds_21 rfl (lv_at hl 1 rfl) ?_
        refine lv_isub (x := (M c0 3)) (y := p1) hx hb dX1_holds_22 ?_
        refine lv_icmp_gt (x := p2) (y := ((M c0 3) - p1)) (tgt := 30) hx hb dX1_holds_23 (by decide) (fun q4 => ?_) (fun q4 => ?_)
        · replace h := if_t q4 h
          refine lv_iconst (v := 0) hx hb dX1_holds_30 (by decide) ?_
          rw [hQz]
          exact r_zret (v := 0) hx hb hr hlk hS hP (Option.some.inj h) (by decide) dX1_holds_31
        · replace h := if_f q4 h
          refine lv_iconst (v := 1) hx hb dX1_holds_26 (by decide) ?_
          refine lv_goto (tgt := 31) hx hb dX1_holds_27 (by decide) ?_
          rw [hQz]
          exact r_zret (v := 1) hx hb hr hlk hS hP (Option.some.inj h) (by decide) dX1_holds_31
def rmX1_cut : Room := { frames := 1, cells := 0, slots := 0, locals := 60 }
set_option maxHeartbeats 4000000 in
set_option maxRecDepth 100000 in
theorem ok_X1_cut (l : Launch) (g : gT) (a : Nat → Nat) (hI : ij 203 a) (c0 : Nat) (p1 : Int32) (M : Mem) (r : Int32) (h0 : isRw c0 = true) (h : fX1_cut c0 p1 M = some r) : MI l yX1_cut wsX1_cut rmX1_cut g 203 a [.ref (a c0), .int p1] (wl 203 a (eX g a M)) (wl 203 a (eX g a M)) r := by
  refine MI_of (cc := cX1_cut) (maxL := 2) (rt := .int) (by decide) rfl (Nat.le_of_ble_eq_true rfl) ?_
  intro p e s m args below meth c ls hx hb hml hr hlk hts hown hK hP hl
  have hown : s.vm.findClass RX1 = some m.cls := hown
  have hl : lv_has ls 2 [(0, .ref (a c0)), (1, .int p1)] := hl
  have hS : va_S (aA 203 a s.heap.size) s.heap s.heap [] := va_S.rf
  have iX1 : ∀ w ∈ wsX10, w ∈ wsX1_cut := fun w h => List.mem_cons_of_mem _ (List.mem_append_right _ h)
  have w19 := hts (.fieldLink RX1 19 "StepRiders$Row" "width" "I") (by decide +kernel)
  obtain ⟨Qz, hQz⟩ : ∃ Qz : State → Prop, Qz = MQ below (qI g (wl 203 a (eX g a M)) r (aA 203 a s.heap.size)) args s 0 0 (aA 203 a s.heap.size) := ⟨_, rfl⟩
  rw [← hQz]
  unfold fX1_cut at h
  refine lv_aload_n hx hb dX1_cut_0 rfl (lv_at hl 0 rfl) ?_
  refine r_get (v := .int (M c0 2)) hx hb hts iX1 hown hK hP c0 (isRw_lt h0) (eX_Row h0) rfl 2 (by decide) w19 rfl dX1_cut_1 ?_
  by_cases q1 : (M c0 2) = 0
  · replace h := if_t q1 h
    refine lv_lookup (x := (M c0 2)) (tgt := 32) (off := 28) hx hb dX1_cut_4 (by decide) (by rw [q1]; decide) (by decide) ?_
    refine lv_iload_n hx hb dX1_cut_32 rfl (lv_at hl 1 rfl) ?_
    refine lv_i2b (x := p1) hx hb dX1_cut_33 rfl ?_
    rw [hQz]
    exact r_iret (v := ((Int32.toInt8 p1).toInt32)) hx hb hr hlk hS hP (Option.some.inj h) dX1_cut_34
  replace h := if_f q1 h
  by_cases q2 : (M c0 2) = 1
  · replace h := if_t q2 h
    refine lv_lookup (x := (M c0 2)) (tgt := 35) (off := 31) hx hb dX1_cut_4 (by decide) (by rw [q2]; decide) (by decide) ?_
    refine lv_iload_n hx hb dX1_cut_35 rfl (lv_at hl 1 rfl) ?_
    refine lv_i2s (x := p1) hx hb dX1_cut_36 rfl ?_
    rw [hQz]
    exact r_iret (v := ((Int32.toInt16 p1).toInt32)) hx hb hr hlk hS hP (Option.some.inj h) dX1_cut_37
  replace h := if_f q2 h
  refine lv_lookup (x := (M c0 2)) (tgt := 38) (off := 34) hx hb dX1_cut_4 (by decide) (by show Op.lookupswitch.offset [(0, 28), (1, 31)] 34 _ = _; rw [lv_osw q1 (show (0 : Int32).toInt = 0 from rfl), lv_osw q2 (show (1 : Int32).toInt = 1 from rfl)]; rfl) (by decide) ?_
  refine lv_iload_n hx hb dX1_cut_38 rfl (lv_at hl 1 rfl) ?_
  rw [hQz]
  exact r_iret (v := p1) hx hb hr hlk hS hP (Option.some.inj h) dX1_cut_39
def rmX2_empty : Room := { frames := 1, cells := 0, slots := 0, locals := 60 }
set_option maxHeartbeats 4000000 in
set_option maxRecDepth 100000 in
theorem ok_X2_empty (l : Launch) (g : gT) (a : Nat → Nat) (hI : ij 5 a) (M : Mem) (M' : Mem) (h : fX2_empty M = some M') : MV l yX2_empty wsX2_empty rmX2_empty g 5 a [.ref (a 0)] (wl 5 a (eS g a M)) (wl 5 a (eS g a M')) := by
  refine MV_of (cc := cX2_empty) (maxL := 2) (by decide) rfl (Nat.le_of_ble_eq_true rfl) ?_
  intro p e s m args below meth c ls hx hb hml hr hlk hts hown hK hP hl
  have hown : s.vm.findClass RX2 = some m.cls := hown
  have hl : lv_has ls 2 [(0, .ref (a 0))] := hl
  have hS : va_S (aA 5 a s.heap.size) s.heap s.heap [] := va_S.rf
  have iX2 : ∀ w ∈ wsX20, w ∈ wsX2_empty := fun w h => List.mem_cons_of_mem _ (List.mem_append_right _ h)
  have w31 := hts (.fieldLink RX2 31 "StepRiders$Stair" "at" "[I") (by decide +kernel)
  have w9 := hts (.fieldLink RX2 9 "StepRiders$Stair" "steps" "I") (by decide +kernel)
  have w15 := hts (.fieldLink RX2 15 "StepRiders$Stair" "speed" "I") (by decide +kernel)
  have w18 := hts (.fieldLink RX2 18 "StepRiders$Stair" "tick" "I") (by decide +kernel)
  have w21 := hts (.fieldLink RX2 21 "StepRiders$Stair" "riders" "I") (by decide +kernel)
  obtain ⟨Qz, hQz⟩ : ∃ Qz : State → Prop, Qz = MQ below (qV g (wl 5 a (eS g a M')) (aA 5 a s.heap.size)) args s 0 0 (aA 5 a s.heap.size) := ⟨_, rfl⟩
  rw [← hQz]
  have B22 : ∀ (k22 : Int32 → Mem → Option (Mem)) (C22 : ∀ (x1 : Int32) (M : Mem) (H : Heap) (locs : List Loc) (ls : Array Slot), k22 x1 M = some M' → va_P g.1 vwCl (wl 5 a (eS g a M)) H → va_S (aA 5 a s.heap.size) s.heap H locs → lv_has ls 2 [(0, .ref (a 0)), (1, .int x1)] → W p l e rmX2_empty s m args below meth c H locs 0 0 Qz (F0 m 22 ls [])), ∀ (x1 : Int32) (M : Mem) (H : Heap) (locs : List Loc) (ls : Array Slot), fX2_empty_b22 k22 x1 M = some M' → va_P g.1 vwCl (wl 5 a (eS g a M)) H → va_S (aA 5 a s.heap.size) s.heap H locs → lv_has ls 2 [(0, .ref (a 0)), (1, .int x1)] → W p l e rmX2_empty s m args below meth c H locs 0 0 Qz (F0 m 22 ls []) := by
    intro k22 C22 x1 M H locs ls h hP hS hl
    unfold fX2_empty_b22 at h
    refine lv_iload_n hx hb dX2_empty_22 rfl (lv_at hl 1 rfl) ?_
    refine lv_bipush (v := 7) hx hb dX2_empty_23 (by decide) ?_
    refine lv_icmp_ge (x := x1) (y := 7) (tgt := 41) hx hb dX2_empty_25 (by decide) (fun q1 => ?_) (fun q1 => ?_)
    · replace h := if_t q1 h
      rw [hQz]
      exact r_vret hx hb hr hlk hS (Option.some.inj h ▸ hP) dX2_empty_41
    · replace h := if_f q1 h
      refine lv_aload_n hx hb dX2_empty_28 rfl (lv_at hl 0 rfl) ?_
      refine r_get (v := .ref (a 3)) hx hb hts iX2 hown hK hP 0 (by decide) eS_0 rfl 6 (by decide) w31 rfl dX2_empty_29 ?_
      refine lv_iload_n hx hb dX2_empty_32 rfl (lv_at hl 1 rfl) ?_
      refine lv_iconst (v := (-1)) hx hb dX2_empty_33 (by decide) ?_
      obtain ⟨q2, h⟩ := chk_ok h
      refine r_iast (i := x1) (x := (-1)) (h := M 3) (f' := eS g a (mp M 3 (Int32.toNatClampNeg x1) (-1))) hx hb hK hI (fun _ h => aA_in h) hP hS 3 (by decide) (eS_a (by decide)) q2 (eS_ua (by decide)) dX2_empty_34 (fun H locs hP hS => ?_)
      refine lv_iinc (v := (x1 + 1)) (lv' := [(1, .int (x1 + 1)), (0, .ref (a 0))]) hx hb dX2_empty_35 hl (k := 1) rfl rfl (by decide) rfl (fun ls hl => ?_)
      refine lv_goto (tgt := 22) hx hb dX2_empty_38 (by decide) ?_
      exact C22 (x1 + 1) (mp M 3 (Int32.toNatClampNeg x1) (-1)) _ _ _ h hP hS (lv_sub hl [1, 0] rfl)
  have L22 : ∀ (n : Nat), ∀ (x1 : Int32) (M : Mem) (H : Heap) (locs : List Loc) (ls : Array Slot), fX2_empty_l22 n x1 M = some M' → va_P g.1 vwCl (wl 5 a (eS g a M)) H → va_S (aA 5 a s.heap.size) s.heap H locs → lv_has ls 2 [(0, .ref (a 0)), (1, .int x1)] → W p l e rmX2_empty s m args below meth c H locs 0 0 Qz (F0 m 22 ls []) := by
    intro n
    induction n with
    | zero => intro x1 M H locs ls h; exact absurd (show (none : Option (Mem)) = some _ from h) (fun z => by cases z)
    | succ n ih => exact fun x1 M H locs ls h hP hS hl => B22 (fX2_empty_l22 n) ih x1 M H locs ls h hP hS hl
  unfold fX2_empty at h
  refine lv_aload_n hx hb dX2_empty_0 rfl (lv_at hl 0 rfl) ?_
  refine lv_iconst (v := 0) hx hb dX2_empty_1 (by decide) ?_
  refine r_put (v := .int 0) (ty := .int) (f' := eS g a (mp M 0 0 0)) hx hb hts iX2 tyX2 tyX2_ok nmX2 hown hK hI (fun _ h => aA_in h) hP hS 0 (by decide) eS_0 rfl 0 (by decide) w9 rfl (by decide +kernel) rfl rfl (Nat.le_of_ble_eq_true rfl) eS_p0 dX2_empty_2 (fun H locs hP hS => ?_)
  refine lv_aload_n hx hb dX2_empty_5 rfl (lv_at hl 0 rfl) ?_
  refine lv_iconst (v := 0) hx hb dX2_empty_6 (by decide) ?_
  refine r_put (v := .int 0) (ty := .int) (f' := eS g a (mp (mp M 0 0 0) 0 1 0)) hx hb hts iX2 tyX2 tyX2_ok nmX2 hown hK hI (fun _ h => aA_in h) hP hS 0 (by decide) eS_0 rfl 1 (by decide) w15 rfl (by decide +kernel) rfl rfl (Nat.le_of_ble_eq_true rfl) eS_p1 dX2_empty_7 (fun H locs hP hS => ?_)
  refine lv_aload_n hx hb dX2_empty_10 rfl (lv_at hl 0 rfl) ?_
  refine lv_iconst (v := 0) hx hb dX2_empty_11 (by decide) ?_
  refine r_put (v := .int 0) (ty := .int) (f' := eS g a (mp (mp (mp M 0 0 0) 0 1 0) 0 2 0)) hx hb hts iX2 tyX2 tyX2_ok nmX2 hown hK hI (fun _ h => aA_in h) hP hS 0 (by decide) eS_0 rfl 2 (by decide) w18 rfl (by decide +kernel) rfl rfl (Nat.le_of_ble_eq_true rfl) eS_p2 dX2_empty_12 (fun H locs hP hS => ?_)
  refine lv_aload_n hx hb dX2_empty_15 rfl (lv_at hl 0 rfl) ?_
  refine lv_iconst (v := 0) hx hb dX2_empty_16 (by decide) ?_
  refine r_put (v := .int 0) (ty := .int) (f' := eS g a (mp (mp (mp (mp M 0 0 0) 0 1 0) 0 2 0) 0 3 0)) hx hb hts iX2 tyX2 tyX2_ok nmX2 hown hK hI (fun _ h => aA_in h) hP hS 0 (by decide) eS_0 rfl 3 (by decide) w21 rfl (by decide +kernel) rfl rfl (Nat.le_of_ble_eq_true rfl) eS_p3 dX2_empty_17 (fun H locs hP hS => ?_)
  refine lv_iconst (v := 0) hx hb dX2_empty_20 (by decide) ?_
  refine lv_istore_n (lv' := [(1, .int 0), (0, .ref (a 0))]) hx hb dX2_empty_21 rfl hl (by decide) rfl (fun ls hl => ?_)
  exact L22 FU 0 (mp (mp (mp (mp M 0 0 0) 0 1 0) 0 2 0) 0 3 0) _ _ _ h hP hS (lv_sub hl [1, 0] rfl)
def rmX2_isOn : Room := { frames := 1, cells := 0, slots := 0, locals := 60 }
set_option maxHeartbeats 4000000 in
set_option maxRecDepth 100000 in
theorem ok_X2_isOn (l : Launch) (g : gT) (a : Nat → Nat) (hI : ij 5 a) (p1 : Int32) (M : Mem) (r : Int32) (h : fX2_isOn p1 M = some r) : MI l yX2_isOn wsX2_isOn rmX2_isOn g 5 a [.ref (a 0), .int p1] (wl 5 a (eS g a M)) (wl 5 a (eS g a M)) r := by
  refine MI_of (cc := cX2_isOn) (maxL := 2) (rt := .boolean) (by decide) rfl (Nat.le_of_ble_eq_true rfl) ?_
  intro p e s m args below meth c ls hx hb hml hr hlk hts hown hK hP hl
  have hown : s.vm.findClass RX2 = some m.cls := hown
  have hl : lv_has ls 2 [(0, .ref (a 0)), (1, .int p1)] := hl
  have hS : va_S (aA 5 a s.heap.size) s.heap s.heap [] := va_S.rf
  have iX2 : ∀ w ∈ wsX20, w ∈ wsX2_isOn := fun w h => List.mem_cons_of_mem _ (List.mem_append_right _ h)
  have w31 := hts (.fieldLink RX2 31 "StepRiders$Stair" "at" "[I") (by decide +kernel)
  have w9 := hts (.fieldLink RX2 9 "StepRiders$Stair" "steps" "I") (by decide +kernel)
  obtain ⟨Qz, hQz⟩ : ∃ Qz : State → Prop, Qz = MQ below (qI g (wl 5 a (eS g a M)) r (aA 5 a s.heap.size)) args s 0 0 (aA 5 a s.heap.size) := ⟨_, rfl⟩
  rw [← hQz]
  unfold fX2_isOn at h
  refine lv_aload_n hx hb dX2_isOn_0 rfl (lv_at hl 0 rfl) ?_
  refine r_get (v := .ref (a 3)) hx hb hts iX2 hown hK hP 0 (by decide) eS_0 rfl 6 (by decide) w31 rfl dX2_isOn_1 ?_
  refine lv_iload_n hx hb dX2_isOn_4 rfl (lv_at hl 1 rfl) ?_
  obtain ⟨q1, h⟩ := chk_ok h
  refine r_iald (i := p1) (h := M 3) hx hb hK hP 3 (by decide) (eS_a (by decide)) q1 dX2_isOn_5 ?_
  refine lv_if_lt (x := (M 3 (Int32.toNatClampNeg p1))) (tgt := 26) hx hb dX2_isOn_6 (by decide) (fun q2 => ?_) (fun q2 => ?_)
  · replace h := if_t q2 h
    refine lv_iconst (v := 0) hx hb dX2_isOn_26 (by decide) ?_
    rw [hQz]
    exact r_zret (v := 0) hx hb hr hlk hS hP (Option.some.inj h) (by decide) dX2_isOn_27
  · replace h := if_f q2 h
    refine lv_aload_n hx hb dX2_isOn_9 rfl (lv_at hl 0 rfl) ?_
    refine r_get (v := .ref (a 3)) hx hb hts iX2 hown hK hP 0 (by decide) eS_0 rfl 6 (by decide) w31 rfl dX2_isOn_10 ?_
    refine lv_iload_n hx hb dX2_isOn_13 rfl (lv_at hl 1 rfl) ?_
    obtain ⟨q3, h⟩ := chk_ok h
    refine r_iald (i := p1) (h := M 3) hx hb hK hP 3 (by decide) (eS_a (by decide)) q3 dX2_isOn_14 ?_
    refine lv_aload_n hx hb dX2_isOn_15 rfl (lv_at hl 0 rfl) ?_
    refine r_get (v := .int (M 0 0)) hx hb hts iX2 hown hK hP 0 (by decide) eS_0 rfl 0 (by decide) w9 rfl dX2_isOn_16 ?_
    refine lv_icmp_ge (x := (M 3 (Int32.toNatClampNeg p1))) (y := (M 0 0)) (tgt := 26) hx hb dX2_isOn_19 (by decide) (fun q4 => ?_) (fun q4 => ?_)
    · replace h := if_t q4 h
      refine lv_iconst (v := 0) hx hb dX2_isOn_26 (by decide) ?_
      rw [hQz]
      exact r_zret (v := 0) hx hb hr hlk hS hP (Option.some.inj h) (by decide) dX2_isOn_27
    · replace h := if_f q4 h
      refine lv_iconst (v := 1) hx hb dX2_isOn_22 (by decide) ?_
      refine lv_goto (tgt := 27) hx hb dX2_isOn_23 (by decide) ?_
      rw [hQz]
      exact r_zret (v := 1) hx hb hr hlk hS hP (Option.some.inj h) (by decide) dX2_isOn_27
def rmX2_takesBoth : Room := { frames := 1, cells := 0, slots := 0, locals := 60 }
set_option maxHeartbeats 4000000 in
set_option maxRecDepth 100000 in
theorem ok_X2_takesBoth (l : Launch) (g : gT) (a : Nat → Nat) (hI : ij 5 a) (p1 : Int32) (M : Mem) (r : Int32) (h : fX2_takesBoth p1 M = some r) : MI l yX2_takesBoth wsX2_takesBoth rmX2_takesBoth g 5 a [.ref (a 0), .int p1] (wl 5 a (eS g a M)) (wl 5 a (eS g a M)) r := by
  refine MI_of (cc := cX2_takesBoth) (maxL := 2) (rt := .boolean) (by decide) rfl (Nat.le_of_ble_eq_true rfl) ?_
  intro p e s m args below meth c ls hx hb hml hr hlk hts hown hK hP hl
  have hown : s.vm.findClass RX2 = some m.cls := hown
  have hl : lv_has ls 2 [(0, .ref (a 0)), (1, .int p1)] := hl
  have hS : va_S (aA 5 a s.heap.size) s.heap s.heap [] := va_S.rf
  have iX2 : ∀ w ∈ wsX20, w ∈ wsX2_takesBoth := fun w h => List.mem_cons_of_mem _ (List.mem_append_right _ h)
  have w24 := hts (.fieldLink RX2 24 "StepRiders$Stair" "kind" "[I") (by decide +kernel)
  obtain ⟨Qz, hQz⟩ : ∃ Qz : State → Prop, Qz = MQ below (qI g (wl 5 a (eS g a M)) r (aA 5 a s.heap.size)) args s 0 0 (aA 5 a s.heap.size) := ⟨_, rfl⟩
  rw [← hQz]
  unfold fX2_takesBoth at h
  refine lv_aload_n hx hb dX2_takesBoth_0 rfl (lv_at hl 0 rfl) ?_
  refine r_get (v := .ref (a 1)) hx hb hts iX2 hown hK hP 0 (by decide) eS_0 rfl 4 (by decide) w24 rfl dX2_takesBoth_1 ?_
  refine lv_iload_n hx hb dX2_takesBoth_4 rfl (lv_at hl 1 rfl) ?_
  obtain ⟨q1, h⟩ := chk_ok h
  refine r_iald (i := p1) (h := M 1) hx hb hK hP 1 (by decide) (eS_a (by decide)) q1 dX2_takesBoth_5 ?_
  refine lv_iconst (v := 4) hx hb dX2_takesBoth_6 (by decide) ?_
  refine lv_icmp_lt (x := (M 1 (Int32.toNatClampNeg p1))) (y := 4) (tgt := 14) hx hb dX2_takesBoth_7 (by decide) (fun q2 => ?_) (fun q2 => ?_)
  · replace h := if_t q2 h
    refine lv_iconst (v := 0) hx hb dX2_takesBoth_14 (by decide) ?_
    rw [hQz]
    exact r_zret (v := 0) hx hb hr hlk hS hP (Option.some.inj h) (by decide) dX2_takesBoth_15
  · replace h := if_f q2 h
    refine lv_iconst (v := 1) hx hb dX2_takesBoth_10 (by decide) ?_
    refine lv_goto (tgt := 15) hx hb dX2_takesBoth_11 (by decide) ?_
    rw [hQz]
    exact r_zret (v := 1) hx hb hr hlk hS hP (Option.some.inj h) (by decide) dX2_takesBoth_15
def rmX2_isFree : Room := { frames := 1, cells := 0, slots := 0, locals := 60 }
set_option maxHeartbeats 4000000 in
set_option maxRecDepth 100000 in
theorem ok_X2_isFree (l : Launch) (g : gT) (a : Nat → Nat) (hI : ij 5 a) (p1 : Int32) (p2 : Int32) (M : Mem) (r : Int32) (h : fX2_isFree p1 p2 M = some r) : MI l yX2_isFree wsX2_isFree rmX2_isFree g 5 a [.ref (a 0), .int p1, .int p2] (wl 5 a (eS g a M)) (wl 5 a (eS g a M)) r := by
  refine MI_of (cc := cX2_isFree) (maxL := 5) (rt := .boolean) (by decide) rfl (Nat.le_of_ble_eq_true rfl) ?_
  intro p e s m args below meth c ls hx hb hml hr hlk hts hown hK hP hl
  have hown : s.vm.findClass RX2 = some m.cls := hown
  have hl : lv_has ls 5 [(0, .ref (a 0)), (1, .int p1), (2, .int p2)] := hl
  have hS : va_S (aA 5 a s.heap.size) s.heap s.heap [] := va_S.rf
  have iX2 : ∀ w ∈ wsX20, w ∈ wsX2_isFree := fun w h => List.mem_cons_of_mem _ (List.mem_append_right _ h)
  have w21 := hts (.fieldLink RX2 21 "StepRiders$Stair" "riders" "I") (by decide +kernel)
  have w31 := hts (.fieldLink RX2 31 "StepRiders$Stair" "at" "[I") (by decide +kernel)
  have w24 := hts (.fieldLink RX2 24 "StepRiders$Stair" "kind" "[I") (by decide +kernel)
  have w28 := hts (.fieldLink RX2 28 "StepRiders$Stair" "lane" "[I") (by decide +kernel)
  obtain ⟨Qz, hQz⟩ : ∃ Qz : State → Prop, Qz = MQ below (qI g (wl 5 a (eS g a M)) r (aA 5 a s.heap.size)) args s 0 0 (aA 5 a s.heap.size) := ⟨_, rfl⟩
  rw [← hQz]
  have B78 : ∀ (k19 : Int32 → Int32 → Option (Int32)) (C19 : ∀ (x3 : Int32) (x4 : Int32) (H : Heap) (locs : List Loc) (ls : Array Slot), k19 x3 x4 = some r → va_P g.1 vwCl (wl 5 a (eS g a M)) H → va_S (aA 5 a s.heap.size) s.heap H locs → lv_has ls 5 [(0, .ref (a 0)), (1, .int p1), (2, .int p2), (3, .int x3), (4, .int x4)] → W p l e rmX2_isFree s m args below meth c H locs 0 0 Qz (F0 m 19 ls [])), ∀ (x3 : Int32) (x4 : Int32) (H : Heap) (locs : List Loc) (ls : Array Slot), fX2_isFree_b78 p1 p2 M k19 x3 x4 = some r → va_P g.1 vwCl (wl 5 a (eS g a M)) H → va_S (aA 5 a s.heap.size) s.heap H locs → lv_has ls 5 [(0, .ref (a 0)), (1, .int p1), (2, .int p2), (3, .int x3), (4, .int x4)] → W p l e rmX2_isFree s m args below meth c H locs 0 0 Qz (F0 m 78 ls []) := by
    intro k19 C19 x3 x4 H locs ls h hP hS hl
    unfold fX2_isFree_b78 at h
    refine lv_iinc (v := (x4 + 1)) (lv' := [(4, .int (x4 + 1)), (0, .ref (a 0)), (1, .int p1), (2, .int p2), (3, .int x3)]) hx hb dX2_isFree_78 hl (k := 4) rfl rfl (by decide) rfl (fun ls hl => ?_)
    refine lv_goto (tgt := 19) hx hb dX2_isFree_81 (by decide) ?_
    exact C19 x3 (x4 + 1) _ _ _ h hP hS (lv_sub hl [1, 2, 3, 4, 0] rfl)
  have B19 : ∀ (k19 : Int32 → Int32 → Option (Int32)) (C19 : ∀ (x3 : Int32) (x4 : Int32) (H : Heap) (locs : List Loc) (ls : Array Slot), k19 x3 x4 = some r → va_P g.1 vwCl (wl 5 a (eS g a M)) H → va_S (aA 5 a s.heap.size) s.heap H locs → lv_has ls 5 [(0, .ref (a 0)), (1, .int p1), (2, .int p2), (3, .int x3), (4, .int x4)] → W p l e rmX2_isFree s m args below meth c H locs 0 0 Qz (F0 m 19 ls [])), ∀ (x3 : Int32) (x4 : Int32) (H : Heap) (locs : List Loc) (ls : Array Slot), fX2_isFree_b19 p1 p2 M k19 x3 x4 = some r → va_P g.1 vwCl (wl 5 a (eS g a M)) H → va_S (aA 5 a s.heap.size) s.heap H locs → lv_has ls 5 [(0, .ref (a 0)), (1, .int p1), (2, .int p2), (3, .int x3), (4, .int x4)] → W p l e rmX2_isFree s m args below meth c H locs 0 0 Qz (F0 m 19 ls []) := by
    intro k19 C19 x3 x4 H locs ls h hP hS hl
    unfold fX2_isFree_b19 at h
    refine lv_iload hx hb dX2_isFree_19 (lv_at hl 4 rfl) ?_
    refine lv_aload_n hx hb dX2_isFree_21 rfl (lv_at hl 0 rfl) ?_
    refine r_get (v := .int (M 0 3)) hx hb hts iX2 hown hK hP 0 (by decide) eS_0 rfl 3 (by decide) w21 rfl dX2_isFree_22 ?_
    refine lv_icmp_ge (x := x4) (y := (M 0 3)) (tgt := 84) hx hb dX2_isFree_25 (by decide) (fun q1 => ?_) (fun q1 => ?_)
    · replace h := if_t q1 h
      refine lv_iconst (v := 1) hx hb dX2_isFree_84 (by decide) ?_
      rw [hQz]
      exact r_zret (v := 1) hx hb hr hlk hS hP (Option.some.inj h) (by decide) dX2_isFree_85
    · replace h := if_f q1 h
      refine lv_iload hx hb dX2_isFree_28 (lv_at hl 4 rfl) ?_
      refine lv_iload_n hx hb dX2_isFree_30 rfl (lv_at hl 1 rfl) ?_
      refine lv_icmp_eq (x := x4) (y := p1) (tgt := 78) hx hb dX2_isFree_31 (by decide) (fun q2 => ?_) (fun q2 => ?_)
      · replace h := if_t q2 h
        exact B78 k19 C19 x3 x4 _ _ _ h hP hS (lv_sub hl [0, 1, 2, 3, 4] rfl)
      · replace h := if_f q2 h
        refine lv_aload_n hx hb dX2_isFree_34 rfl (lv_at hl 0 rfl) ?_
        refine r_get (v := .ref (a 3)) hx hb hts iX2 hown hK hP 0 (by decide) eS_0 rfl 6 (by decide) w31 rfl dX2_isFree_35 ?_
        refine lv_iload hx hb dX2_isFree_38 (lv_at hl 4 rfl) ?_
        obtain ⟨q3, h⟩ := chk_ok h
        refine r_iald (i := x4) (h := M 3) hx hb hK hP 3 (by decide) (eS_a (by decide)) q3 dX2_isFree_40 ?_
        refine lv_iload_n hx hb dX2_isFree_41 rfl (lv_at hl 2 rfl) ?_
        refine lv_icmp_ne (x := (M 3 (Int32.toNatClampNeg x4))) (y := p2) (tgt := 78) hx hb dX2_isFree_42 (by decide) (fun q4 => ?_) (fun q4 => ?_)
        · replace h := if_f q4 h
          exact B78 k19 C19 x3 x4 _ _ _ h hP hS (lv_sub hl [0, 1, 2, 3, 4] rfl)
        · replace h := if_t q4 h
          refine lv_iload_n hx hb dX2_isFree_45 rfl (lv_at hl 3 rfl) ?_
          refine lv_if_ne (x := x3) (tgt := 76) hx hb dX2_isFree_46 (by decide) (fun q5 => ?_) (fun q5 => ?_)
          · replace h := if_f q5 h
            refine lv_iconst (v := 0) hx hb dX2_isFree_76 (by decide) ?_
            rw [hQz]
            exact r_zret (v := 0) hx hb hr hlk hS hP (Option.some.inj h) (by decide) dX2_isFree_77
          · replace h := if_t q5 h
            refine lv_aload_n hx hb dX2_isFree_49 rfl (lv_at hl 0 rfl) ?_
            refine r_get (v := .ref (a 1)) hx hb hts iX2 hown hK hP 0 (by decide) eS_0 rfl 4 (by decide) w24 rfl dX2_isFree_50 ?_
            refine lv_iload hx hb dX2_isFree_53 (lv_at hl 4 rfl) ?_
            obtain ⟨q6, h⟩ := chk_ok h
            refine r_iald (i := x4) (h := M 1) hx hb hK hP 1 (by decide) (eS_a (by decide)) q6 dX2_isFree_55 ?_
            refine lv_iconst (v := 4) hx hb dX2_isFree_56 (by decide) ?_
            refine lv_icmp_ge (x := (M 1 (Int32.toNatClampNeg x4))) (y := 4) (tgt := 76) hx hb dX2_isFree_57 (by decide) (fun q7 => ?_) (fun q7 => ?_)
            · replace h := if_t q7 h
              refine lv_iconst (v := 0) hx hb dX2_isFree_76 (by decide) ?_
              rw [hQz]
              exact r_zret (v := 0) hx hb hr hlk hS hP (Option.some.inj h) (by decide) dX2_isFree_77
            · replace h := if_f q7 h
              refine lv_aload_n hx hb dX2_isFree_60 rfl (lv_at hl 0 rfl) ?_
              refine r_get (v := .ref (a 2)) hx hb hts iX2 hown hK hP 0 (by decide) eS_0 rfl 5 (by decide) w28 rfl dX2_isFree_61 ?_
              refine lv_iload hx hb dX2_isFree_64 (lv_at hl 4 rfl) ?_
              obtain ⟨q8, h⟩ := chk_ok h
              refine r_iald (i := x4) (h := M 2) hx hb hK hP 2 (by decide) (eS_a (by decide)) q8 dX2_isFree_66 ?_
              refine lv_aload_n hx hb dX2_isFree_67 rfl (lv_at hl 0 rfl) ?_
              refine r_get (v := .ref (a 2)) hx hb hts iX2 hown hK hP 0 (by decide) eS_0 rfl 5 (by decide) w28 rfl dX2_isFree_68 ?_
              refine lv_iload_n hx hb dX2_isFree_71 rfl (lv_at hl 1 rfl) ?_
              obtain ⟨q9, h⟩ := chk_ok h
              refine r_iald (i := p1) (h := M 2) hx hb hK hP 2 (by decide) (eS_a (by decide)) q9 dX2_isFree_72 ?_
              refine lv_icmp_ne (x := (M 2 (Int32.toNatClampNeg x4))) (y := (M 2 (Int32.toNatClampNeg p1))) (tgt := 78) hx hb dX2_isFree_73 (by decide) (fun q10 => ?_) (fun q10 => ?_)
              · replace h := if_f q10 h
                exact B78 k19 C19 x3 x4 _ _ _ h hP hS (lv_sub hl [0, 1, 2, 3, 4] rfl)
              · replace h := if_t q10 h
                refine lv_iconst (v := 0) hx hb dX2_isFree_76 (by decide) ?_
                rw [hQz]
                exact r_zret (v := 0) hx hb hr hlk hS hP (Option.some.inj h) (by decide) dX2_isFree_77
  have L19 : ∀ (n : Nat), ∀ (x3 : Int32) (x4 : Int32) (H : Heap) (locs : List Loc) (ls : Array Slot), fX2_isFree_l19 p1 p2 M n x3 x4 = some r → va_P g.1 vwCl (wl 5 a (eS g a M)) H → va_S (aA 5 a s.heap.size) s.heap H locs → lv_has ls 5 [(0, .ref (a 0)), (1, .int p1), (2, .int p2), (3, .int x3), (4, .int x4)] → W p l e rmX2_isFree s m args below meth c H locs 0 0 Qz (F0 m 19 ls []) := by
    intro n
    induction n with
    | zero => intro x3 x4 H locs ls h; exact absurd (show (none : Option (Int32)) = some _ from h) (fun z => by cases z)
    | succ n ih => exact fun x3 x4 H locs ls h hP hS hl => B19 (fX2_isFree_l19 p1 p2 M n) ih x3 x4 H locs ls h hP hS hl
  have B15 : ∀ (s0 : Int32) (H : Heap) (locs : List Loc) (ls : Array Slot), fX2_isFree_b15 p1 p2 M s0 = some r → va_P g.1 vwCl (wl 5 a (eS g a M)) H → va_S (aA 5 a s.heap.size) s.heap H locs → lv_has ls 5 [(0, .ref (a 0)), (1, .int p1), (2, .int p2)] → W p l e rmX2_isFree s m args below meth c H locs 0 0 Qz (F0 m 15 ls [.int s0]) := by
    intro s0 H locs ls h hP hS hl
    unfold fX2_isFree_b15 at h
    refine lv_istore_n (lv' := [(3, .int s0), (0, .ref (a 0)), (1, .int p1), (2, .int p2)]) hx hb dX2_isFree_15 rfl hl (by decide) rfl (fun ls hl => ?_)
    refine lv_iconst (v := 0) hx hb dX2_isFree_16 (by decide) ?_
    refine lv_istore (lv' := [(4, .int 0), (3, .int s0), (0, .ref (a 0)), (1, .int p1), (2, .int p2)]) hx hb dX2_isFree_17 hl (by decide) rfl (fun ls hl => ?_)
    exact L19 FU s0 0 _ _ _ h hP hS (lv_sub hl [2, 3, 4, 1, 0] rfl)
  unfold fX2_isFree at h
  refine lv_aload_n hx hb dX2_isFree_0 rfl (lv_at hl 0 rfl) ?_
  refine r_get (v := .ref (a 1)) hx hb hts iX2 hown hK hP 0 (by decide) eS_0 rfl 4 (by decide) w24 rfl dX2_isFree_1 ?_
  refine lv_iload_n hx hb dX2_isFree_4 rfl (lv_at hl 1 rfl) ?_
  obtain ⟨q1, h⟩ := chk_ok h
  refine r_iald (i := p1) (h := M 1) hx hb hK hP 1 (by decide) (eS_a (by decide)) q1 dX2_isFree_5 ?_
  refine lv_iconst (v := 4) hx hb dX2_isFree_6 (by decide) ?_
  refine lv_icmp_lt (x := (M 1 (Int32.toNatClampNeg p1))) (y := 4) (tgt := 14) hx hb dX2_isFree_7 (by decide) (fun q2 => ?_) (fun q2 => ?_)
  · replace h := if_t q2 h
    refine lv_iconst (v := 0) hx hb dX2_isFree_14 (by decide) ?_
    exact B15 0 _ _ _ h hP hS (lv_sub hl [0, 1, 2] rfl)
  · replace h := if_f q2 h
    refine lv_iconst (v := 1) hx hb dX2_isFree_10 (by decide) ?_
    refine lv_goto (tgt := 15) hx hb dX2_isFree_11 (by decide) ?_
    exact B15 1 _ _ _ h hP hS (lv_sub hl [0, 1, 2] rfl)
def rmX2_mayGo : Room := { frames := 2, cells := 0, slots := 0, locals := 84 }
set_option maxHeartbeats 4000000 in
set_option maxRecDepth 100000 in
theorem ok_X2_mayGo (l : Launch) (g : gT) (a : Nat → Nat) (hI : ij 5 a) (p1 : Int32) (p2 : Int32) (M : Mem) (r : Int32) (h : fX2_mayGo p1 p2 M = some r) : MI l yX2_mayGo wsX2_mayGo rmX2_mayGo g 5 a [.ref (a 0), .int p1, .int p2] (wl 5 a (eS g a M)) (wl 5 a (eS g a M)) r := by
  refine MI_of (cc := cX2_mayGo) (maxL := 3) (rt := .boolean) (by decide) rfl (Nat.le_of_ble_eq_true rfl) ?_
  intro p e s m args below meth c ls hx hb hml hr hlk hts hown hK hP hl
  have hown : s.vm.findClass RX2 = some m.cls := hown
  have hl : lv_has ls 3 [(0, .ref (a 0)), (1, .int p1), (2, .int p2)] := hl
  have hS : va_S (aA 5 a s.heap.size) s.heap s.heap [] := va_S.rf
  have iX2 : ∀ w ∈ wsX20, w ∈ wsX2_mayGo := fun w h => List.mem_cons_of_mem _ (List.mem_append_right _ h)
  have w9 := hts (.fieldLink RX2 9 "StepRiders$Stair" "steps" "I") (by decide +kernel)
  obtain ⟨Qz, hQz⟩ : ∃ Qz : State → Prop, Qz = MQ below (qI g (wl 5 a (eS g a M)) r (aA 5 a s.heap.size)) args s 0 0 (aA 5 a s.heap.size) := ⟨_, rfl⟩
  rw [← hQz]
  unfold fX2_mayGo at h
  refine lv_iload_n hx hb dX2_mayGo_0 rfl (lv_at hl 2 rfl) ?_
  refine lv_if_lt (x := p2) (tgt := 25) hx hb dX2_mayGo_1 (by decide) (fun q1 => ?_) (fun q1 => ?_)
  · replace h := if_t q1 h
    refine lv_iconst (v := 0) hx hb dX2_mayGo_25 (by decide) ?_
    rw [hQz]
    exact r_zret (v := 0) hx hb hr hlk hS hP (Option.some.inj h) (by decide) dX2_mayGo_26
  · replace h := if_f q1 h
    refine lv_iload_n hx hb dX2_mayGo_4 rfl (lv_at hl 2 rfl) ?_
    refine lv_aload_n hx hb dX2_mayGo_5 rfl (lv_at hl 0 rfl) ?_
    refine r_get (v := .int (M 0 0)) hx hb hts iX2 hown hK hP 0 (by decide) eS_0 rfl 0 (by decide) w9 rfl dX2_mayGo_6 ?_
    refine lv_icmp_ge (x := p2) (y := (M 0 0)) (tgt := 25) hx hb dX2_mayGo_9 (by decide) (fun q2 => ?_) (fun q2 => ?_)
    · replace h := if_t q2 h
      refine lv_iconst (v := 0) hx hb dX2_mayGo_25 (by decide) ?_
      rw [hQz]
      exact r_zret (v := 0) hx hb hr hlk hS hP (Option.some.inj h) (by decide) dX2_mayGo_26
    · replace h := if_f q2 h
      refine lv_aload_n hx hb dX2_mayGo_12 rfl (lv_at hl 0 rfl) ?_
      refine lv_iload_n hx hb dX2_mayGo_13 rfl (lv_at hl 1 rfl) ?_
      refine lv_iload_n hx hb dX2_mayGo_14 rfl (lv_at hl 2 rfl) ?_
      obtain ⟨r3, e4, h⟩ := bdP_ok h
      refine r_callVi (As := [.int p1, .int p2]) (rest := []) (ws' := (wl 5 a (eS g a M))) (ok_X2_isFree l g a hI p1 p2 M r3 e4) ⟨hx, hb, hml, hown, hts⟩ (cwV 2 hts gX2_mayGo_X2_isFree rfl rfl rfl (by decide +kernel) ⟨Nat.le_of_ble_eq_true rfl, Nat.le_of_ble_eq_true rfl⟩) hK (r_recv hK hP 0 (by decide) eS_0 (show vwCl[2]? = some (RX2, TX2, 8) from rfl)) hS hP (fun _ hq => aA_mono hS.1 hq) (fun _ h _ => h) rfl hl.1 rfl (Nat.le_of_ble_eq_true rfl) dX2_mayGo_15 ⟨Nat.zero_le _, Nat.zero_le _⟩ (fun H locs hP hS => ?_)
      refine lv_if_eq (x := r3) (tgt := 25) hx hb dX2_mayGo_18 (by decide) (fun q5 => ?_) (fun q5 => ?_)
      · replace h := if_t q5 h
        refine lv_iconst (v := 0) hx hb dX2_mayGo_25 (by decide) ?_
        rw [hQz]
        exact r_zret (v := 0) hx hb hr hlk hS hP (Option.some.inj h) (by decide) dX2_mayGo_26
      · replace h := if_f q5 h
        refine lv_iconst (v := 1) hx hb dX2_mayGo_21 (by decide) ?_
        refine lv_goto (tgt := 26) hx hb dX2_mayGo_22 (by decide) ?_
        rw [hQz]
        exact r_zret (v := 1) hx hb hr hlk hS hP (Option.some.inj h) (by decide) dX2_mayGo_26
def rmX2_whoTakes : Room := { frames := 2, cells := 0, slots := 0, locals := 81 }
set_option maxHeartbeats 4000000 in
set_option maxRecDepth 100000 in
theorem ok_X2_whoTakes (l : Launch) (g : gT) (a : Nat → Nat) (hI : ij 5 a) (p1 : Int32) (p2 : Int32) (M : Mem) (r : Int32) (h : fX2_whoTakes p1 p2 M = some r) : MI l yX2_whoTakes wsX2_whoTakes rmX2_whoTakes g 5 a [.ref (a 0), .int p1, .int p2] (wl 5 a (eS g a M)) (wl 5 a (eS g a M)) r := by
  refine MI_of (cc := cX2_whoTakes) (maxL := 5) (rt := .int) (by decide) rfl (Nat.le_of_ble_eq_true rfl) ?_
  intro p e s m args below meth c ls hx hb hml hr hlk hts hown hK hP hl
  have hown : s.vm.findClass RX2 = some m.cls := hown
  have hl : lv_has ls 5 [(0, .ref (a 0)), (1, .int p1), (2, .int p2)] := hl
  have hS : va_S (aA 5 a s.heap.size) s.heap s.heap [] := va_S.rf
  have iX2 : ∀ w ∈ wsX20, w ∈ wsX2_whoTakes := fun w h => List.mem_cons_of_mem _ (List.mem_append_right _ h)
  have w21 := hts (.fieldLink RX2 21 "StepRiders$Stair" "riders" "I") (by decide +kernel)
  have w31 := hts (.fieldLink RX2 31 "StepRiders$Stair" "at" "[I") (by decide +kernel)
  have w28 := hts (.fieldLink RX2 28 "StepRiders$Stair" "lane" "[I") (by decide +kernel)
  obtain ⟨Qz, hQz⟩ : ∃ Qz : State → Prop, Qz = MQ below (qI g (wl 5 a (eS g a M)) r (aA 5 a s.heap.size)) args s 0 0 (aA 5 a s.heap.size) := ⟨_, rfl⟩
  rw [← hQz]
  have B52 : ∀ (k5 : Int32 → Int32 → Option (Int32)) (C5 : ∀ (x3 : Int32) (x4 : Int32) (H : Heap) (locs : List Loc) (ls : Array Slot), k5 x3 x4 = some r → va_P g.1 vwCl (wl 5 a (eS g a M)) H → va_S (aA 5 a s.heap.size) s.heap H locs → lv_has ls 5 [(0, .ref (a 0)), (1, .int p1), (2, .int p2), (3, .int x3), (4, .int x4)] → W p l e rmX2_whoTakes s m args below meth c H locs 0 0 Qz (F0 m 5 ls [])), ∀ (x3 : Int32) (x4 : Int32) (H : Heap) (locs : List Loc) (ls : Array Slot), fX2_whoTakes_b52 p1 p2 M k5 x3 x4 = some r → va_P g.1 vwCl (wl 5 a (eS g a M)) H → va_S (aA 5 a s.heap.size) s.heap H locs → lv_has ls 5 [(0, .ref (a 0)), (1, .int p1), (2, .int p2), (3, .int x3), (4, .int x4)] → W p l e rmX2_whoTakes s m args below meth c H locs 0 0 Qz (F0 m 52 ls []) := by
    intro k5 C5 x3 x4 H locs ls h hP hS hl
    unfold fX2_whoTakes_b52 at h
    refine lv_iinc (v := (x4 + 1)) (lv' := [(4, .int (x4 + 1)), (0, .ref (a 0)), (1, .int p1), (2, .int p2), (3, .int x3)]) hx hb dX2_whoTakes_52 hl (k := 4) rfl rfl (by decide) rfl (fun ls hl => ?_)
    refine lv_goto (tgt := 5) hx hb dX2_whoTakes_55 (by decide) ?_
    exact C5 x3 (x4 + 1) _ _ _ h hP hS (lv_sub hl [1, 2, 3, 4, 0] rfl)
  have B45 : ∀ (k5 : Int32 → Int32 → Option (Int32)) (C5 : ∀ (x3 : Int32) (x4 : Int32) (H : Heap) (locs : List Loc) (ls : Array Slot), k5 x3 x4 = some r → va_P g.1 vwCl (wl 5 a (eS g a M)) H → va_S (aA 5 a s.heap.size) s.heap H locs → lv_has ls 5 [(0, .ref (a 0)), (1, .int p1), (2, .int p2), (3, .int x3), (4, .int x4)] → W p l e rmX2_whoTakes s m args below meth c H locs 0 0 Qz (F0 m 5 ls [])), ∀ (x3 : Int32) (x4 : Int32) (H : Heap) (locs : List Loc) (ls : Array Slot), fX2_whoTakes_b45 p1 p2 M k5 x3 x4 = some r → va_P g.1 vwCl (wl 5 a (eS g a M)) H → va_S (aA 5 a s.heap.size) s.heap H locs → lv_has ls 5 [(0, .ref (a 0)), (1, .int p1), (2, .int p2), (3, .int x3), (4, .int x4)] → W p l e rmX2_whoTakes s m args below meth c H locs 0 0 Qz (F0 m 45 ls []) := by
    intro k5 C5 x3 x4 H locs ls h hP hS hl
    unfold fX2_whoTakes_b45 at h
    refine lv_iload_n hx hb dX2_whoTakes_45 rfl (lv_at hl 3 rfl) ?_
    refine lv_iconst (v := 1) hx hb dX2_whoTakes_46 (by decide) ?_
    refine lv_iload hx hb dX2_whoTakes_47 (lv_at hl 4 rfl) ?_
    refine lv_ishl (x := 1) (y := x4) hx hb dX2_whoTakes_49 ?_
    refine lv_ior (x := x3) (y := (1 <<< (x4 &&& 31))) hx hb dX2_whoTakes_50 ?_
    refine lv_istore_n (lv' := [(3, .int (x3 ||| (1 <<< (x4 &&& 31)))), (0, .ref (a 0)), (1, .int p1), (2, .int p2), (4, .int x4)]) hx hb dX2_whoTakes_51 rfl hl (by decide) rfl (fun ls hl => ?_)
    exact B52 k5 C5 (x3 ||| (1 <<< (x4 &&& 31))) x4 _ _ _ h hP hS (lv_sub hl [1, 2, 3, 0, 4] rfl)
  have B5 : ∀ (k5 : Int32 → Int32 → Option (Int32)) (C5 : ∀ (x3 : Int32) (x4 : Int32) (H : Heap) (locs : List Loc) (ls : Array Slot), k5 x3 x4 = some r → va_P g.1 vwCl (wl 5 a (eS g a M)) H → va_S (aA 5 a s.heap.size) s.heap H locs → lv_has ls 5 [(0, .ref (a 0)), (1, .int p1), (2, .int p2), (3, .int x3), (4, .int x4)] → W p l e rmX2_whoTakes s m args below meth c H locs 0 0 Qz (F0 m 5 ls [])), ∀ (x3 : Int32) (x4 : Int32) (H : Heap) (locs : List Loc) (ls : Array Slot), fX2_whoTakes_b5 p1 p2 M k5 x3 x4 = some r → va_P g.1 vwCl (wl 5 a (eS g a M)) H → va_S (aA 5 a s.heap.size) s.heap H locs → lv_has ls 5 [(0, .ref (a 0)), (1, .int p1), (2, .int p2), (3, .int x3), (4, .int x4)] → W p l e rmX2_whoTakes s m args below meth c H locs 0 0 Qz (F0 m 5 ls []) := by
    intro k5 C5 x3 x4 H locs ls h hP hS hl
    unfold fX2_whoTakes_b5 at h
    refine lv_iload hx hb dX2_whoTakes_5 (lv_at hl 4 rfl) ?_
    refine lv_aload_n hx hb dX2_whoTakes_7 rfl (lv_at hl 0 rfl) ?_
    refine r_get (v := .int (M 0 3)) hx hb hts iX2 hown hK hP 0 (by decide) eS_0 rfl 3 (by decide) w21 rfl dX2_whoTakes_8 ?_
    refine lv_icmp_ge (x := x4) (y := (M 0 3)) (tgt := 58) hx hb dX2_whoTakes_11 (by decide) (fun q1 => ?_) (fun q1 => ?_)
    · replace h := if_t q1 h
      refine lv_iload_n hx hb dX2_whoTakes_58 rfl (lv_at hl 3 rfl) ?_
      rw [hQz]
      exact r_iret (v := x3) hx hb hr hlk hS hP (Option.some.inj h) dX2_whoTakes_59
    · replace h := if_f q1 h
      refine lv_aload_n hx hb dX2_whoTakes_14 rfl (lv_at hl 0 rfl) ?_
      refine r_get (v := .ref (a 3)) hx hb hts iX2 hown hK hP 0 (by decide) eS_0 rfl 6 (by decide) w31 rfl dX2_whoTakes_15 ?_
      refine lv_iload hx hb dX2_whoTakes_18 (lv_at hl 4 rfl) ?_
      obtain ⟨q2, h⟩ := chk_ok h
      refine r_iald (i := x4) (h := M 3) hx hb hK hP 3 (by decide) (eS_a (by decide)) q2 dX2_whoTakes_20 ?_
      refine lv_iload_n hx hb dX2_whoTakes_21 rfl (lv_at hl 1 rfl) ?_
      refine lv_icmp_ne (x := (M 3 (Int32.toNatClampNeg x4))) (y := p1) (tgt := 52) hx hb dX2_whoTakes_22 (by decide) (fun q3 => ?_) (fun q3 => ?_)
      · replace h := if_f q3 h
        exact B52 k5 C5 x3 x4 _ _ _ h hP hS (lv_sub hl [0, 1, 2, 3, 4] rfl)
      · replace h := if_t q3 h
        refine lv_aload_n hx hb dX2_whoTakes_25 rfl (lv_at hl 0 rfl) ?_
        refine r_get (v := .ref (a 2)) hx hb hts iX2 hown hK hP 0 (by decide) eS_0 rfl 5 (by decide) w28 rfl dX2_whoTakes_26 ?_
        refine lv_iload hx hb dX2_whoTakes_29 (lv_at hl 4 rfl) ?_
        obtain ⟨q4, h⟩ := chk_ok h
        refine r_iald (i := x4) (h := M 2) hx hb hK hP 2 (by decide) (eS_a (by decide)) q4 dX2_whoTakes_31 ?_
        refine lv_iload_n hx hb dX2_whoTakes_32 rfl (lv_at hl 2 rfl) ?_
        refine lv_icmp_eq (x := (M 2 (Int32.toNatClampNeg x4))) (y := p2) (tgt := 45) hx hb dX2_whoTakes_33 (by decide) (fun q5 => ?_) (fun q5 => ?_)
        · replace h := if_t q5 h
          exact B45 k5 C5 x3 x4 _ _ _ h hP hS (lv_sub hl [0, 1, 2, 3, 4] rfl)
        · replace h := if_f q5 h
          refine lv_aload_n hx hb dX2_whoTakes_36 rfl (lv_at hl 0 rfl) ?_
          refine lv_iload hx hb dX2_whoTakes_37 (lv_at hl 4 rfl) ?_
          obtain ⟨r6, e7, h⟩ := bdP_ok h
          refine r_callVi (As := [.int x4]) (rest := []) (ws' := (wl 5 a (eS g a M))) (ok_X2_takesBoth l g a hI x4 M r6 e7) ⟨hx, hb, hml, hown, hts⟩ (cwV 1 hts gX2_whoTakes_X2_takesBoth rfl rfl rfl (by decide +kernel) ⟨Nat.le_of_ble_eq_true rfl, Nat.le_of_ble_eq_true rfl⟩) hK (r_recv hK hP 0 (by decide) eS_0 (show vwCl[2]? = some (RX2, TX2, 8) from rfl)) hS hP (fun _ hq => aA_mono hS.1 hq) (fun _ h _ => h) rfl hl.1 rfl (Nat.le_of_ble_eq_true rfl) dX2_whoTakes_39 ⟨Nat.zero_le _, Nat.zero_le _⟩ (fun H locs hP hS => ?_)
          refine lv_if_eq (x := r6) (tgt := 52) hx hb dX2_whoTakes_42 (by decide) (fun q8 => ?_) (fun q8 => ?_)
          · replace h := if_t q8 h
            exact B52 k5 C5 x3 x4 _ _ _ h hP hS (lv_sub hl [0, 1, 2, 3, 4] rfl)
          · replace h := if_f q8 h
            exact B45 k5 C5 x3 x4 _ _ _ h hP hS (lv_sub hl [0, 1, 2, 3, 4] rfl)
  have L5 : ∀ (n : Nat), ∀ (x3 : Int32) (x4 : Int32) (H : Heap) (locs : List Loc) (ls : Array Slot), fX2_whoTakes_l5 p1 p2 M n x3 x4 = some r → va_P g.1 vwCl (wl 5 a (eS g a M)) H → va_S (aA 5 a s.heap.size) s.heap H locs → lv_has ls 5 [(0, .ref (a 0)), (1, .int p1), (2, .int p2), (3, .int x3), (4, .int x4)] → W p l e rmX2_whoTakes s m args below meth c H locs 0 0 Qz (F0 m 5 ls []) := by
    intro n
    induction n with
    | zero => intro x3 x4 H locs ls h; exact absurd (show (none : Option (Int32)) = some _ from h) (fun z => by cases z)
    | succ n ih => exact fun x3 x4 H locs ls h hP hS hl => B5 (fX2_whoTakes_l5 p1 p2 M n) ih x3 x4 H locs ls h hP hS hl
  unfold fX2_whoTakes at h
  refine lv_iconst (v := 0) hx hb dX2_whoTakes_0 (by decide) ?_
  refine lv_istore_n (lv' := [(3, .int 0), (0, .ref (a 0)), (1, .int p1), (2, .int p2)]) hx hb dX2_whoTakes_1 rfl hl (by decide) rfl (fun ls hl => ?_)
  refine lv_iconst (v := 0) hx hb dX2_whoTakes_2 (by decide) ?_
  refine lv_istore (lv' := [(4, .int 0), (3, .int 0), (0, .ref (a 0)), (1, .int p1), (2, .int p2)]) hx hb dX2_whoTakes_3 hl (by decide) rfl (fun ls hl => ?_)
  exact L5 FU 0 0 _ _ _ h hP hS (lv_sub hl [2, 3, 4, 1, 0] rfl)
