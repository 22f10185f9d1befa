def rmX6_speed : Room := { frames := 2, cells := 0, slots := 0, locals := 82 }
set_option maxHeartbeats 4000000 in
set_option maxRecDepth 100000 in
theorem ok_X6_speed (l : Launch) (g : gT) (a : Nat → Nat) (hI : ij 14 a) (p1 : Int32) (M : Mem) (M' : Mem) (r : Int32) (h : fX6_speed p1 M = some (r, M')) : MI l yX6_speed wsX6_speed rmX6_speed g 14 a [.ref (a 0), .int p1] (wl 14 a (eN g a M)) (wl 14 a (eN g a M')) r := by
  refine MI_of (cc := cX6_speed) (maxL := 3) (rt := .int) (by decide) rfl (Nat.le_of_ble_eq_true rfl) ?_
  intro p e s m args below meth c ls hx hb hml hr hlk hts hown hK hP hl
  have hown : s.vm.findClass RX6 = some m.cls := hown
  have hl : lv_has ls 3 [(0, .ref (a 0)), (1, .int p1)] := hl
  have hS : va_S (aA 14 a s.heap.size) s.heap s.heap [] := va_S.rf
  have iX6 : ∀ w ∈ wsX60, w ∈ wsX6_speed := fun w h => List.mem_cons_of_mem _ (List.mem_append_right _ h)
  have w25 := hts (.fieldLink RX6 25 "StepRidersModel" "s" "[I") (by decide +kernel)
  have w65 := hts (.constant RX6 65 (-1000001)) (by decide +kernel)
  have w136 := hts (.constant RX6 136 (-1000002)) (by decide +kernel)
  obtain ⟨Qz, hQz⟩ : ∃ Qz : State → Prop, Qz = MQ below (qI g (wl 14 a (eN g a M')) r (aA 14 a s.heap.size)) args s 0 0 (aA 14 a s.heap.size) := ⟨_, rfl⟩
  rw [← hQz]
  unfold fX6_speed at h
  refine lv_aload_n hx hb dX6_speed_0 rfl (lv_at hl 0 rfl) ?_
  obtain ⟨r1, e2, h⟩ := bdP_ok h
  refine r_callVi (As := []) (rest := []) (ws' := (wl 14 a (eN g a M))) (ok_X6_isStair l g a hI M r1 e2) ⟨hx, hb, hml, hown, hts⟩ (cwV 0 hts gX6_speed_X6_isStair rfl rfl rfl (by decide +kernel) ⟨Nat.le_of_ble_eq_true rfl, Nat.le_of_ble_eq_true rfl⟩) hK (r_recv hK hP 0 (by decide) eN_0 (show vwCl[6]? = some (RX6, TX6, 20) from rfl)) hS hP (fun _ hq => aA_mono hS.1 hq) (fun _ h _ => h) rfl hl.1 rfl (Nat.le_of_ble_eq_true rfl) dX6_speed_1 ⟨Nat.zero_le _, Nat.zero_le _⟩ (fun H locs hP hS => ?_)
  refine lv_if_ne (x := r1) (tgt := 10) hx hb dX6_speed_4 (by decide) (fun q3 => ?_) (fun q3 => ?_)
  · replace h := if_f q3 h
    refine lv_iload_n hx hb dX6_speed_10 rfl (lv_at hl 1 rfl) ?_
    refine lv_iconst (v := 0) hx hb dX6_speed_11 (by decide) ?_
    refine lv_iconst (v := 2) hx hb dX6_speed_12 (by decide) ?_
    obtain ⟨r4, e5, h⟩ := bdP_ok h
    refine r_callSi (As := [.int p1, .int 0, .int 2]) (rest := []) (ws' := (wl 14 a (eN g a M))) (ok_X6_in l g p1 0 2 r4 e5) ⟨hx, hb, hml, hown, hts⟩ (cwS 3 hts gX6_speed_X6_in rfl rfl rfl (by decide +kernel) ⟨Nat.le_of_ble_eq_true rfl, Nat.le_of_ble_eq_true rfl⟩) hK hS nilP (P_A hS.1) (fun _ _ hk => wl_keep hP hk) rfl hl.1 rfl (Nat.le_of_ble_eq_true rfl) dX6_speed_13 ⟨Nat.zero_le _, Nat.zero_le _⟩ (fun H locs hP hS => ?_)
    refine lv_if_ne (x := r4) (tgt := 22) hx hb dX6_speed_16 (by decide) (fun q6 => ?_) (fun q6 => ?_)
    · replace h := if_f q6 h
      refine lv_aload_n hx hb dX6_speed_22 rfl (lv_at hl 0 rfl) ?_
      obtain ⟨M9, e8, h⟩ := bdV_ok h
      refine r_callVv (As := []) (rest := []) (ws' := (wl 14 a (eN g a M9))) (ok_X6_keeps l g a hI M M9 e8) ⟨hx, hb, hml, hown, hts⟩ (cwV 0 hts gX6_speed_X6_keeps rfl rfl rfl (by decide +kernel) ⟨Nat.le_of_ble_eq_true rfl, Nat.le_of_ble_eq_true rfl⟩) hK (r_recv hK hP 0 (by decide) eN_0 (show vwCl[6]? = some (RX6, TX6, 20) from rfl)) hS hP (fun _ hq => aA_mono hS.1 hq) (fun _ h _ => h) rfl hl.1 rfl (Nat.le_of_ble_eq_true rfl) dX6_speed_23 ⟨Nat.zero_le _, Nat.zero_le _⟩ (fun H locs hP hS => ?_)
      refine lv_aload_n hx hb dX6_speed_26 rfl (lv_at hl 0 rfl) ?_
      refine r_get (v := .ref (a 6)) hx hb hts iX6 hown hK hP 0 (by decide) eN_0 rfl 8 (by decide) w25 rfl dX6_speed_27 ?_
      refine lv_iconst (v := 1) hx hb dX6_speed_30 (by decide) ?_
      obtain ⟨q10, h⟩ := chk_ok h
      refine r_iald (i := 1) (h := M9 6) hx hb hK hP 6 (by decide) rfl q10 dX6_speed_31 ?_
      refine lv_istore_n (lv' := [(2, .int (M9 6 (Int32.toNatClampNeg 1))), (0, .ref (a 0)), (1, .int p1)]) hx hb dX6_speed_32 rfl hl (by decide) rfl (fun ls hl => ?_)
      refine lv_aload_n hx hb dX6_speed_33 rfl (lv_at hl 1 rfl) ?_
      refine r_get (v := .ref (a 6)) hx hb hts iX6 hown hK hP 0 (by decide) eN_0 rfl 8 (by decide) w25 rfl dX6_speed_34 ?_
      refine lv_iconst (v := 1) hx hb dX6_speed_37 (by decide) ?_
      refine lv_iload_n hx hb dX6_speed_38 rfl (lv_at hl 2 rfl) ?_
      obtain ⟨q11, h⟩ := chk_ok h
      refine r_iast (i := 1) (x := p1) (h := M9 6) (f' := eN g a (mp M9 6 (Int32.toNatClampNeg 1) p1)) hx hb hK hI (fun _ h => aA_in h) hP hS 6 (by decide) rfl q11 (eN_ua (fun _ => rfl)) dX6_speed_39 (fun H locs hP hS => ?_)
      refine lv_iload_n hx hb dX6_speed_40 rfl (lv_at hl 0 rfl) ?_
      rw [hQz]
      exact r_iret (v := (M9 6 (Int32.toNatClampNeg 1))) hx hb hr hlk hS ((Prod.mk.inj (Option.some.inj h)).2 ▸ hP) (Prod.mk.inj (Option.some.inj h)).1 dX6_speed_41
    · replace h := if_t q6 h
      refine lv_ldc (v := (-1000001)) hx hb hown w65 dX6_speed_19 ?_
      rw [hQz]
      exact r_iret (v := (-1000001)) hx hb hr hlk hS ((Prod.mk.inj (Option.some.inj h)).2 ▸ hP) (Prod.mk.inj (Option.some.inj h)).1 dX6_speed_21
  · replace h := if_t q3 h
    refine lv_ldc (v := (-1000002)) hx hb hown w136 dX6_speed_7 ?_
    rw [hQz]
    exact r_iret (v := (-1000002)) hx hb hr hlk hS ((Prod.mk.inj (Option.some.inj h)).2 ▸ hP) (Prod.mk.inj (Option.some.inj h)).1 dX6_speed_9
def rmX6_cross : Room := { frames := 3, cells := 0, slots := 0, locals := 103 }
set_option maxHeartbeats 4000000 in
set_option maxRecDepth 100000 in
theorem ok_X6_cross (l : Launch) (g : gT) (a : Nat → Nat) (hI : ij 14 a) (p1 : Int32) (M : Mem) (M' : Mem) (r : Int32) (h : fX6_cross p1 M = some (r, M')) : MI l yX6_cross wsX6_cross rmX6_cross g 14 a [.ref (a 0), .int p1] (wl 14 a (eN g a M)) (wl 14 a (eN g a M')) r := by
  refine MI_of (cc := cX6_cross) (maxL := 4) (rt := .int) (by decide) rfl (Nat.le_of_ble_eq_true rfl) ?_
  intro p e s m args below meth c ls hx hb hml hr hlk hts hown hK hP hl
  have hown : s.vm.findClass RX6 = some m.cls := hown
  have hl : lv_has ls 4 [(0, .ref (a 0)), (1, .int p1)] := hl
  have hS : va_S (aA 14 a s.heap.size) s.heap s.heap [] := va_S.rf
  have iX6 : ∀ w ∈ wsX60, w ∈ wsX6_cross := fun w h => List.mem_cons_of_mem _ (List.mem_append_right _ h)
  have w25 := hts (.fieldLink RX6 25 "StepRidersModel" "s" "[I") (by decide +kernel)
  have w136 := hts (.constant RX6 136 (-1000002)) (by decide +kernel)
  have w65 := hts (.constant RX6 65 (-1000001)) (by decide +kernel)
  obtain ⟨Qz, hQz⟩ : ∃ Qz : State → Prop, Qz = MQ below (qI g (wl 14 a (eN g a M')) r (aA 14 a s.heap.size)) args s 0 0 (aA 14 a s.heap.size) := ⟨_, rfl⟩
  rw [← hQz]
  have B74 : ∀ (x2 : Int32) (M : Mem) (H : Heap) (locs : List Loc) (ls : Array Slot), fX6_cross_b74 p1 x2 M = some (r, M') → va_P g.1 vwCl (wl 14 a (eN g a M)) H → va_S (aA 14 a s.heap.size) s.heap H locs → lv_has ls 4 [(0, .ref (a 0)), (1, .int p1), (2, .int x2)] → W p l e rmX6_cross s m args below meth c H locs 0 0 Qz (F0 m 74 ls []) := by
    intro x2 M H locs ls h hP hS hl
    unfold fX6_cross_b74 at h
    refine lv_aload_n hx hb dX6_cross_74 rfl (lv_at hl 0 rfl) ?_
    obtain ⟨M3, e2, h⟩ := bdV_ok h
    refine r_callVv (As := []) (rest := []) (ws' := (wl 14 a (eN g a M3))) (ok_X6_keeps l g a hI M M3 e2) ⟨hx, hb, hml, hown, hts⟩ (cwV 0 hts gX6_cross_X6_keeps rfl rfl rfl (by decide +kernel) ⟨Nat.le_of_ble_eq_true rfl, Nat.le_of_ble_eq_true rfl⟩) hK (r_recv hK hP 0 (by decide) eN_0 (show vwCl[6]? = some (RX6, TX6, 20) from rfl)) hS hP (fun _ hq => aA_mono hS.1 hq) (fun _ h _ => h) rfl hl.1 rfl (Nat.le_of_ble_eq_true rfl) dX6_cross_75 ⟨Nat.zero_le _, Nat.zero_le _⟩ (fun H locs hP hS => ?_)
    refine lv_aload_n hx hb dX6_cross_78 rfl (lv_at hl 0 rfl) ?_
    refine r_get (v := .ref (a 6)) hx hb hts iX6 hown hK hP 0 (by decide) eN_0 rfl 8 (by decide) w25 rfl dX6_cross_79 ?_
    refine lv_bipush (v := 9) hx hb dX6_cross_82 (by decide) ?_
    refine lv_iload_n hx hb dX6_cross_84 rfl (lv_at hl 1 rfl) ?_
    refine lv_iadd (x := 9) (y := p1) hx hb dX6_cross_85 ?_
    refine lv_iload_n hx hb dX6_cross_86 rfl (lv_at hl 2 rfl) ?_
    obtain ⟨q4, h⟩ := chk_ok h
    refine r_iast (i := (9 + p1)) (x := x2) (h := M3 6) (f' := eN g a (mp M3 6 (Int32.toNatClampNeg (9 + p1)) x2)) hx hb hK hI (fun _ h => aA_in h) hP hS 6 (by decide) rfl q4 (eN_ua (fun _ => rfl)) dX6_cross_87 (fun H locs hP hS => ?_)
    refine lv_iload_n hx hb dX6_cross_88 rfl (lv_at hl 2 rfl) ?_
    rw [hQz]
    exact r_iret (v := x2) hx hb hr hlk hS ((Prod.mk.inj (Option.some.inj h)).2 ▸ hP) (Prod.mk.inj (Option.some.inj h)).1 dX6_cross_89
  unfold fX6_cross at h
  refine lv_aload_n hx hb dX6_cross_0 rfl (lv_at hl 0 rfl) ?_
  refine lv_iload_n hx hb dX6_cross_1 rfl (lv_at hl 1 rfl) ?_
  obtain ⟨r1, e2, h⟩ := bdP_ok h
  refine r_callVi (As := [.int p1]) (rest := []) (ws' := (wl 14 a (eN g a M))) (ok_X6_isRider l g a hI p1 M r1 e2) ⟨hx, hb, hml, hown, hts⟩ (cwV 1 hts gX6_cross_X6_isRider rfl rfl rfl (by decide +kernel) ⟨Nat.le_of_ble_eq_true rfl, Nat.le_of_ble_eq_true rfl⟩) hK (r_recv hK hP 0 (by decide) eN_0 (show vwCl[6]? = some (RX6, TX6, 20) from rfl)) hS hP (fun _ hq => aA_mono hS.1 hq) (fun _ h _ => h) rfl hl.1 rfl (Nat.le_of_ble_eq_true rfl) dX6_cross_2 ⟨Nat.zero_le _, Nat.zero_le _⟩ (fun H locs hP hS => ?_)
  refine lv_if_ne (x := r1) (tgt := 11) hx hb dX6_cross_5 (by decide) (fun q3 => ?_) (fun q3 => ?_)
  · replace h := if_f q3 h
    refine lv_iconst (v := 1) hx hb dX6_cross_11 (by decide) ?_
    refine lv_aload_n hx hb dX6_cross_12 rfl (lv_at hl 0 rfl) ?_
    refine r_get (v := .ref (a 6)) hx hb hts iX6 hown hK hP 0 (by decide) eN_0 rfl 8 (by decide) w25 rfl dX6_cross_13 ?_
    refine lv_bipush (v := 9) hx hb dX6_cross_16 (by decide) ?_
    refine lv_iload_n hx hb dX6_cross_18 rfl (lv_at hl 1 rfl) ?_
    refine lv_iadd (x := 9) (y := p1) hx hb dX6_cross_19 ?_
    obtain ⟨q4, h⟩ := chk_ok h
    refine r_iald (i := (9 + p1)) (h := M 6) hx hb hK hP 6 (by decide) rfl q4 dX6_cross_20 ?_
    refine lv_isub (x := 1) (y := (M 6 (Int32.toNatClampNeg (9 + p1)))) hx hb dX6_cross_21 ?_
    refine lv_istore_n (lv' := [(2, .int (1 - (M 6 (Int32.toNatClampNeg (9 + p1))))), (0, .ref (a 0)), (1, .int p1)]) hx hb dX6_cross_22 rfl hl (by decide) rfl (fun ls hl => ?_)
    refine lv_aload_n hx hb dX6_cross_23 rfl (lv_at hl 1 rfl) ?_
    refine r_get (v := .ref (a 6)) hx hb hts iX6 hown hK hP 0 (by decide) eN_0 rfl 8 (by decide) w25 rfl dX6_cross_24 ?_
    refine lv_iconst (v := 2) hx hb dX6_cross_27 (by decide) ?_
    refine lv_iload_n hx hb dX6_cross_28 rfl (lv_at hl 2 rfl) ?_
    refine lv_iadd (x := 2) (y := p1) hx hb dX6_cross_29 ?_
    obtain ⟨q5, h⟩ := chk_ok h
    refine r_iald (i := (2 + p1)) (h := M 6) hx hb hK hP 6 (by decide) rfl q5 dX6_cross_30 ?_
    refine lv_istore_n (lv' := [(3, .int (M 6 (Int32.toNatClampNeg (2 + p1)))), (2, .int (1 - (M 6 (Int32.toNatClampNeg (9 + p1))))), (0, .ref (a 0)), (1, .int p1)]) hx hb dX6_cross_31 rfl hl (by decide) rfl (fun ls hl => ?_)
    refine lv_iload_n hx hb dX6_cross_32 rfl (lv_at hl 0 rfl) ?_
    refine lv_bipush (v := 99) hx hb dX6_cross_33 (by decide) ?_
    refine lv_icmp_eq (x := (M 6 (Int32.toNatClampNeg (2 + p1)))) (y := 99) (tgt := 71) hx hb dX6_cross_35 (by decide) (fun q6 => ?_) (fun q6 => ?_)
    · replace h := if_t q6 h
      refine lv_ldc (v := (-1000002)) hx hb hown w136 dX6_cross_71 ?_
      rw [hQz]
      exact r_iret (v := (-1000002)) hx hb hr hlk hS ((Prod.mk.inj (Option.some.inj h)).2 ▸ hP) (Prod.mk.inj (Option.some.inj h)).1 dX6_cross_73
    · replace h := if_f q6 h
      refine lv_iload_n hx hb dX6_cross_38 rfl (lv_at hl 0 rfl) ?_
      obtain ⟨r7, e8, h⟩ := bdP_ok h
      refine r_callSi (As := [.int (M 6 (Int32.toNatClampNeg (2 + p1)))]) (rest := []) (ws' := (wl 14 a (eN g a M))) (ok_X6_isOn l g (M 6 (Int32.toNatClampNeg (2 + p1))) r7 e8) ⟨hx, hb, hml, hown, hts⟩ (cwS 1 hts gX6_cross_X6_isOn rfl rfl rfl (by decide +kernel) ⟨Nat.le_of_ble_eq_true rfl, Nat.le_of_ble_eq_true rfl⟩) hK hS nilP (P_A hS.1) (fun _ _ hk => wl_keep hP hk) rfl hl.1 rfl (Nat.le_of_ble_eq_true rfl) dX6_cross_39 ⟨Nat.zero_le _, Nat.zero_le _⟩ (fun H locs hP hS => ?_)
      refine lv_if_eq (x := r7) (tgt := 74) hx hb dX6_cross_42 (by decide) (fun q9 => ?_) (fun q9 => ?_)
      · replace h := if_t q9 h
        exact B74 (1 - (M 6 (Int32.toNatClampNeg (9 + p1)))) M _ _ _ h hP hS (lv_sub hl [2, 3, 1] rfl)
      · replace h := if_f q9 h
        refine lv_aload_n hx hb dX6_cross_45 rfl (lv_at hl 2 rfl) ?_
        refine r_get (v := .ref (a 6)) hx hb hts iX6 hown hK hP 0 (by decide) eN_0 rfl 8 (by decide) w25 rfl dX6_cross_46 ?_
        refine lv_bipush (v := 18) hx hb dX6_cross_49 (by decide) ?_
        refine lv_iload_n hx hb dX6_cross_51 rfl (lv_at hl 3 rfl) ?_
        refine lv_iadd (x := 18) (y := p1) hx hb dX6_cross_52 ?_
        obtain ⟨q10, h⟩ := chk_ok h
        refine r_iald (i := (18 + p1)) (h := M 6) hx hb hK hP 6 (by decide) rfl q10 dX6_cross_53 ?_
        refine lv_iconst (v := 4) hx hb dX6_cross_54 (by decide) ?_
        refine lv_icmp_ge (x := (M 6 (Int32.toNatClampNeg (18 + p1)))) (y := 4) (tgt := 74) hx hb dX6_cross_55 (by decide) (fun q11 => ?_) (fun q11 => ?_)
        · replace h := if_t q11 h
          exact B74 (1 - (M 6 (Int32.toNatClampNeg (9 + p1)))) M _ _ _ h hP hS (lv_sub hl [2, 3, 1] rfl)
        · replace h := if_f q11 h
          refine lv_aload_n hx hb dX6_cross_58 rfl (lv_at hl 2 rfl) ?_
          refine r_get (v := .ref (a 6)) hx hb hts iX6 hown hK hP 0 (by decide) eN_0 rfl 8 (by decide) w25 rfl dX6_cross_59 ?_
          refine lv_iload_n hx hb dX6_cross_62 rfl (lv_at hl 3 rfl) ?_
          refine lv_iload_n hx hb dX6_cross_63 rfl (lv_at hl 0 rfl) ?_
          refine lv_iload_n hx hb dX6_cross_64 rfl (lv_at hl 1 rfl) ?_
          obtain ⟨r12, e13, h⟩ := bdP_ok h
          refine r_callSi (As := [.ref (a 6), .int p1, .int (M 6 (Int32.toNatClampNeg (2 + p1))), .int (1 - (M 6 (Int32.toNatClampNeg (9 + p1))))]) (rest := []) (ws' := (wl 14 a (eN g a M))) (ok_X6_isFree l g (fun _ => a 6) C_ij p1 (M 6 (Int32.toNatClampNeg (2 + p1))) (1 - (M 6 (Int32.toNatClampNeg (9 + p1)))) (gC M 6) r12 e13) ⟨hx, hb, hml, hown, hts⟩ (cwS 4 hts gX6_cross_X6_isFree rfl rfl rfl (by decide +kernel) ⟨Nat.le_of_ble_eq_true rfl, Nat.le_of_ble_eq_true rfl⟩) hK hS (C_cut (c := 6) (by decide) hP) (C_A (c := 6) (by decide) hS.1) (C_keep (c := 6) (by decide) hI hP) rfl hl.1 rfl (Nat.le_of_ble_eq_true rfl) dX6_cross_65 ⟨Nat.zero_le _, Nat.zero_le _⟩ (fun H locs hP hS => ?_)
          refine lv_if_ne (x := r12) (tgt := 74) hx hb dX6_cross_68 (by decide) (fun q14 => ?_) (fun q14 => ?_)
          · replace h := if_f q14 h
            exact B74 (1 - (M 6 (Int32.toNatClampNeg (9 + p1)))) M _ _ _ h hP hS (lv_sub hl [2, 3, 1] rfl)
          · replace h := if_t q14 h
            refine lv_ldc (v := (-1000002)) hx hb hown w136 dX6_cross_71 ?_
            rw [hQz]
            exact r_iret (v := (-1000002)) hx hb hr hlk hS ((Prod.mk.inj (Option.some.inj h)).2 ▸ hP) (Prod.mk.inj (Option.some.inj h)).1 dX6_cross_73
  · replace h := if_t q3 h
    refine lv_ldc (v := (-1000001)) hx hb hown w65 dX6_cross_8 ?_
    rw [hQz]
    exact r_iret (v := (-1000001)) hx hb hr hlk hS ((Prod.mk.inj (Option.some.inj h)).2 ▸ hP) (Prod.mk.inj (Option.some.inj h)).1 dX6_cross_10
def rmX6_take : Room := { frames := 3, cells := 0, slots := 0, locals := 103 }
set_option maxHeartbeats 4000000 in
set_option maxRecDepth 100000 in
theorem ok_X6_take (l : Launch) (g : gT) (a : Nat → Nat) (hI : ij 14 a) (p1 : Int32) (M : Mem) (M' : Mem) (r : Int32) (h : fX6_take p1 M = some (r, M')) : MI l yX6_take wsX6_take rmX6_take g 14 a [.ref (a 0), .int p1] (wl 14 a (eN g a M)) (wl 14 a (eN g a M')) r := by
  refine MI_of (cc := cX6_take) (maxL := 3) (rt := .int) (by decide) rfl (Nat.le_of_ble_eq_true rfl) ?_
  intro p e s m args below meth c ls hx hb hml hr hlk hts hown hK hP hl
  have hown : s.vm.findClass RX6 = some m.cls := hown
  have hl : lv_has ls 3 [(0, .ref (a 0)), (1, .int p1)] := hl
  have hS : va_S (aA 14 a s.heap.size) s.heap s.heap [] := va_S.rf
  have iX6 : ∀ w ∈ wsX60, w ∈ wsX6_take := fun w h => List.mem_cons_of_mem _ (List.mem_append_right _ h)
  have w25 := hts (.fieldLink RX6 25 "StepRidersModel" "s" "[I") (by decide +kernel)
  have w136 := hts (.constant RX6 136 (-1000002)) (by decide +kernel)
  have w65 := hts (.constant RX6 65 (-1000001)) (by decide +kernel)
  obtain ⟨Qz, hQz⟩ : ∃ Qz : State → Prop, Qz = MQ below (qI g (wl 14 a (eN g a M')) r (aA 14 a s.heap.size)) args s 0 0 (aA 14 a s.heap.size) := ⟨_, rfl⟩
  rw [← hQz]
  unfold fX6_take at h
  refine lv_aload_n hx hb dX6_take_0 rfl (lv_at hl 0 rfl) ?_
  refine lv_iload_n hx hb dX6_take_1 rfl (lv_at hl 1 rfl) ?_
  obtain ⟨r1, e2, h⟩ := bdP_ok h
  refine r_callVi (As := [.int p1]) (rest := []) (ws' := (wl 14 a (eN g a M))) (ok_X6_isRider l g a hI p1 M r1 e2) ⟨hx, hb, hml, hown, hts⟩ (cwV 1 hts gX6_take_X6_isRider rfl rfl rfl (by decide +kernel) ⟨Nat.le_of_ble_eq_true rfl, Nat.le_of_ble_eq_true rfl⟩) hK (r_recv hK hP 0 (by decide) eN_0 (show vwCl[6]? = some (RX6, TX6, 20) from rfl)) hS hP (fun _ hq => aA_mono hS.1 hq) (fun _ h _ => h) rfl hl.1 rfl (Nat.le_of_ble_eq_true rfl) dX6_take_2 ⟨Nat.zero_le _, Nat.zero_le _⟩ (fun H locs hP hS => ?_)
  refine lv_if_ne (x := r1) (tgt := 11) hx hb dX6_take_5 (by decide) (fun q3 => ?_) (fun q3 => ?_)
  · replace h := if_f q3 h
    refine lv_aload_n hx hb dX6_take_11 rfl (lv_at hl 0 rfl) ?_
    refine r_get (v := .ref (a 6)) hx hb hts iX6 hown hK hP 0 (by decide) eN_0 rfl 8 (by decide) w25 rfl dX6_take_12 ?_
    refine lv_iconst (v := 2) hx hb dX6_take_15 (by decide) ?_
    refine lv_iload_n hx hb dX6_take_16 rfl (lv_at hl 1 rfl) ?_
    refine lv_iadd (x := 2) (y := p1) hx hb dX6_take_17 ?_
    obtain ⟨q4, h⟩ := chk_ok h
    refine r_iald (i := (2 + p1)) (h := M 6) hx hb hK hP 6 (by decide) rfl q4 dX6_take_18 ?_
    refine lv_istore_n (lv' := [(2, .int (M 6 (Int32.toNatClampNeg (2 + p1)))), (0, .ref (a 0)), (1, .int p1)]) hx hb dX6_take_19 rfl hl (by decide) rfl (fun ls hl => ?_)
    refine lv_iload_n hx hb dX6_take_20 rfl (lv_at hl 0 rfl) ?_
    refine lv_bipush (v := 99) hx hb dX6_take_21 (by decide) ?_
    refine lv_icmp_ne (x := (M 6 (Int32.toNatClampNeg (2 + p1)))) (y := 99) (tgt := 29) hx hb dX6_take_23 (by decide) (fun q5 => ?_) (fun q5 => ?_)
    · replace h := if_f q5 h
      refine lv_aload_n hx hb dX6_take_29 rfl (lv_at hl 1 rfl) ?_
      obtain ⟨M8, e7, h⟩ := bdV_ok h
      refine r_callVv (As := []) (rest := []) (ws' := (wl 14 a (eN g a M8))) (ok_X6_keeps l g a hI M M8 e7) ⟨hx, hb, hml, hown, hts⟩ (cwV 0 hts gX6_take_X6_keeps rfl rfl rfl (by decide +kernel) ⟨Nat.le_of_ble_eq_true rfl, Nat.le_of_ble_eq_true rfl⟩) hK (r_recv hK hP 0 (by decide) eN_0 (show vwCl[6]? = some (RX6, TX6, 20) from rfl)) hS hP (fun _ hq => aA_mono hS.1 hq) (fun _ h _ => h) rfl hl.1 rfl (Nat.le_of_ble_eq_true rfl) dX6_take_30 ⟨Nat.zero_le _, Nat.zero_le _⟩ (fun H locs hP hS => ?_)
      refine lv_aload_n hx hb dX6_take_33 rfl (lv_at hl 1 rfl) ?_
      refine r_get (v := .ref (a 6)) hx hb hts iX6 hown hK hP 0 (by decide) eN_0 rfl 8 (by decide) w25 rfl dX6_take_34 ?_
      refine lv_iconst (v := 2) hx hb dX6_take_37 (by decide) ?_
      refine lv_iload_n hx hb dX6_take_38 rfl (lv_at hl 2 rfl) ?_
      refine lv_iadd (x := 2) (y := p1) hx hb dX6_take_39 ?_
      refine lv_bipush (v := 99) hx hb dX6_take_40 (by decide) ?_
      obtain ⟨q9, h⟩ := chk_ok h
      refine r_iast (i := (2 + p1)) (x := 99) (h := M8 6) (f' := eN g a (mp M8 6 (Int32.toNatClampNeg (2 + p1)) 99)) hx hb hK hI (fun _ h => aA_in h) hP hS 6 (by decide) rfl q9 (eN_ua (fun _ => rfl)) dX6_take_42 (fun H locs hP hS => ?_)
      refine lv_iload_n hx hb dX6_take_43 rfl (lv_at hl 0 rfl) ?_
      rw [hQz]
      exact r_iret (v := (M 6 (Int32.toNatClampNeg (2 + p1)))) hx hb hr hlk hS ((Prod.mk.inj (Option.some.inj h)).2 ▸ hP) (Prod.mk.inj (Option.some.inj h)).1 dX6_take_44
    · replace h := if_t q5 h
      refine lv_ldc (v := (-1000002)) hx hb hown w136 dX6_take_26 ?_
      rw [hQz]
      exact r_iret (v := (-1000002)) hx hb hr hlk hS ((Prod.mk.inj (Option.some.inj h)).2 ▸ hP) (Prod.mk.inj (Option.some.inj h)).1 dX6_take_28
  · replace h := if_t q3 h
    refine lv_ldc (v := (-1000001)) hx hb hown w65 dX6_take_8 ?_
    rw [hQz]
    exact r_iret (v := (-1000001)) hx hb hr hlk hS ((Prod.mk.inj (Option.some.inj h)).2 ▸ hP) (Prod.mk.inj (Option.some.inj h)).1 dX6_take_10
def rmX6_again : Room := { frames := 3, cells := 0, slots := 0, locals := 103 }
set_option maxHeartbeats 4000000 in
set_option maxRecDepth 100000 in
theorem ok_X6_again (l : Launch) (g : gT) (a : Nat → Nat) (hI : ij 14 a) (p1 : Int32) (p2 : Int32) (M : Mem) (M' : Mem) (r : Int32) (h : fX6_again p1 p2 M = some (r, M')) : MI l yX6_again wsX6_again rmX6_again g 14 a [.ref (a 0), .int p1, .int p2] (wl 14 a (eN g a M)) (wl 14 a (eN g a M')) r := by
  refine MI_of (cc := cX6_again) (maxL := 3) (rt := .int) (by decide) rfl (Nat.le_of_ble_eq_true rfl) ?_
  intro p e s m args below meth c ls hx hb hml hr hlk hts hown hK hP hl
  have hown : s.vm.findClass RX6 = some m.cls := hown
  have hl : lv_has ls 3 [(0, .ref (a 0)), (1, .int p1), (2, .int p2)] := hl
  have hS : va_S (aA 14 a s.heap.size) s.heap s.heap [] := va_S.rf
  have iX6 : ∀ w ∈ wsX60, w ∈ wsX6_again := fun w h => List.mem_cons_of_mem _ (List.mem_append_right _ h)
  have w65 := hts (.constant RX6 65 (-1000001)) (by decide +kernel)
  have w25 := hts (.fieldLink RX6 25 "StepRidersModel" "s" "[I") (by decide +kernel)
  have w136 := hts (.constant RX6 136 (-1000002)) (by decide +kernel)
  obtain ⟨Qz, hQz⟩ : ∃ Qz : State → Prop, Qz = MQ below (qI g (wl 14 a (eN g a M')) r (aA 14 a s.heap.size)) args s 0 0 (aA 14 a s.heap.size) := ⟨_, rfl⟩
  rw [← hQz]
  unfold fX6_again at h
  refine lv_aload_n hx hb dX6_again_0 rfl (lv_at hl 0 rfl) ?_
  refine lv_iload_n hx hb dX6_again_1 rfl (lv_at hl 1 rfl) ?_
  obtain ⟨r1, e2, h⟩ := bdP_ok h
  refine r_callVi (As := [.int p1]) (rest := []) (ws' := (wl 14 a (eN g a M))) (ok_X6_isRider l g a hI p1 M r1 e2) ⟨hx, hb, hml, hown, hts⟩ (cwV 1 hts gX6_again_X6_isRider rfl rfl rfl (by decide +kernel) ⟨Nat.le_of_ble_eq_true rfl, Nat.le_of_ble_eq_true rfl⟩) hK (r_recv hK hP 0 (by decide) eN_0 (show vwCl[6]? = some (RX6, TX6, 20) from rfl)) hS hP (fun _ hq => aA_mono hS.1 hq) (fun _ h _ => h) rfl hl.1 rfl (Nat.le_of_ble_eq_true rfl) dX6_again_2 ⟨Nat.zero_le _, Nat.zero_le _⟩ (fun H locs hP hS => ?_)
  refine lv_if_eq (x := r1) (tgt := 17) hx hb dX6_again_5 (by decide) (fun q3 => ?_) (fun q3 => ?_)
  · replace h := if_t q3 h
    refine lv_ldc (v := (-1000001)) hx hb hown w65 dX6_again_17 ?_
    rw [hQz]
    exact r_iret (v := (-1000001)) hx hb hr hlk hS ((Prod.mk.inj (Option.some.inj h)).2 ▸ hP) (Prod.mk.inj (Option.some.inj h)).1 dX6_again_19
  · replace h := if_f q3 h
    refine lv_iload_n hx hb dX6_again_8 rfl (lv_at hl 2 rfl) ?_
    refine lv_iconst (v := 0) hx hb dX6_again_9 (by decide) ?_
    refine lv_iconst (v := 1) hx hb dX6_again_10 (by decide) ?_
    obtain ⟨r4, e5, h⟩ := bdP_ok h
    refine r_callSi (As := [.int p2, .int 0, .int 1]) (rest := []) (ws' := (wl 14 a (eN g a M))) (ok_X6_in l g p2 0 1 r4 e5) ⟨hx, hb, hml, hown, hts⟩ (cwS 3 hts gX6_again_X6_in rfl rfl rfl (by decide +kernel) ⟨Nat.le_of_ble_eq_true rfl, Nat.le_of_ble_eq_true rfl⟩) hK hS nilP (P_A hS.1) (fun _ _ hk => wl_keep hP hk) rfl hl.1 rfl (Nat.le_of_ble_eq_true rfl) dX6_again_11 ⟨Nat.zero_le _, Nat.zero_le _⟩ (fun H locs hP hS => ?_)
    refine lv_if_ne (x := r4) (tgt := 20) hx hb dX6_again_14 (by decide) (fun q6 => ?_) (fun q6 => ?_)
    · replace h := if_f q6 h
      refine lv_aload_n hx hb dX6_again_20 rfl (lv_at hl 0 rfl) ?_
      refine r_get (v := .ref (a 6)) hx hb hts iX6 hown hK hP 0 (by decide) eN_0 rfl 8 (by decide) w25 rfl dX6_again_21 ?_
      refine lv_iconst (v := 2) hx hb dX6_again_24 (by decide) ?_
      refine lv_iload_n hx hb dX6_again_25 rfl (lv_at hl 1 rfl) ?_
      refine lv_iadd (x := 2) (y := p1) hx hb dX6_again_26 ?_
      obtain ⟨q7, h⟩ := chk_ok h
      refine r_iald (i := (2 + p1)) (h := M 6) hx hb hK hP 6 (by decide) rfl q7 dX6_again_27 ?_
      refine lv_bipush (v := 99) hx hb dX6_again_28 (by decide) ?_
      refine lv_icmp_eq (x := (M 6 (Int32.toNatClampNeg (2 + p1)))) (y := 99) (tgt := 36) hx hb dX6_again_30 (by decide) (fun q8 => ?_) (fun q8 => ?_)
      · replace h := if_t q8 h
        refine lv_aload_n hx hb dX6_again_36 rfl (lv_at hl 0 rfl) ?_
        obtain ⟨M11, e10, h⟩ := bdV_ok h
        refine r_callVv (As := []) (rest := []) (ws' := (wl 14 a (eN g a M11))) (ok_X6_keeps l g a hI M M11 e10) ⟨hx, hb, hml, hown, hts⟩ (cwV 0 hts gX6_again_X6_keeps rfl rfl rfl (by decide +kernel) ⟨Nat.le_of_ble_eq_true rfl, Nat.le_of_ble_eq_true rfl⟩) hK (r_recv hK hP 0 (by decide) eN_0 (show vwCl[6]? = some (RX6, TX6, 20) from rfl)) hS hP (fun _ hq => aA_mono hS.1 hq) (fun _ h _ => h) rfl hl.1 rfl (Nat.le_of_ble_eq_true rfl) dX6_again_37 ⟨Nat.zero_le _, Nat.zero_le _⟩ (fun H locs hP hS => ?_)
        refine lv_aload_n hx hb dX6_again_40 rfl (lv_at hl 0 rfl) ?_
        refine r_get (v := .ref (a 6)) hx hb hts iX6 hown hK hP 0 (by decide) eN_0 rfl 8 (by decide) w25 rfl dX6_again_41 ?_
        refine lv_iconst (v := 2) hx hb dX6_again_44 (by decide) ?_
        refine lv_iload_n hx hb dX6_again_45 rfl (lv_at hl 1 rfl) ?_
        refine lv_iadd (x := 2) (y := p1) hx hb dX6_again_46 ?_
        refine lv_iconst (v := (-1)) hx hb dX6_again_47 (by decide) ?_
        obtain ⟨q12, h⟩ := chk_ok h
        refine r_iast (i := (2 + p1)) (x := (-1)) (h := M11 6) (f' := eN g a (mp M11 6 (Int32.toNatClampNeg (2 + p1)) (-1))) hx hb hK hI (fun _ h => aA_in h) hP hS 6 (by decide) rfl q12 (eN_ua (fun _ => rfl)) dX6_again_48 (fun H locs hP hS => ?_)
        refine lv_aload_n hx hb dX6_again_49 rfl (lv_at hl 0 rfl) ?_
        refine r_get (v := .ref (a 6)) hx hb hts iX6 hown hK hP 0 (by decide) eN_0 rfl 8 (by decide) w25 rfl dX6_again_50 ?_
        refine lv_bipush (v := 9) hx hb dX6_again_53 (by decide) ?_
        refine lv_iload_n hx hb dX6_again_55 rfl (lv_at hl 1 rfl) ?_
        refine lv_iadd (x := 9) (y := p1) hx hb dX6_again_56 ?_
        refine lv_iload_n hx hb dX6_again_57 rfl (lv_at hl 2 rfl) ?_
        obtain ⟨q13, h⟩ := chk_ok h
        refine r_iast (i := (9 + p1)) (x := p2) (h := (mp M11 6 (Int32.toNatClampNeg (2 + p1)) (-1)) 6) (f' := eN g a (mp (mp M11 6 (Int32.toNatClampNeg (2 + p1)) (-1)) 6 (Int32.toNatClampNeg (9 + p1)) p2)) hx hb hK hI (fun _ h => aA_in h) hP hS 6 (by decide) rfl q13 (eN_ua (fun _ => rfl)) dX6_again_58 (fun H locs hP hS => ?_)
        refine lv_aload_n hx hb dX6_again_59 rfl (lv_at hl 0 rfl) ?_
        refine r_get (v := .ref (a 6)) hx hb hts iX6 hown hK hP 0 (by decide) eN_0 rfl 8 (by decide) w25 rfl dX6_again_60 ?_
        obtain ⟨r14, e15, h⟩ := bdP_ok h
        refine r_callSi (As := [.ref (a 6)]) (rest := []) (ws' := (wl 14 a (eN g a (mp (mp M11 6 (Int32.toNatClampNeg (2 + p1)) (-1)) 6 (Int32.toNatClampNeg (9 + p1)) p2)))) (ok_X6_offIn l g (fun _ => a 6) C_ij (gC (mp (mp M11 6 (Int32.toNatClampNeg (2 + p1)) (-1)) 6 (Int32.toNatClampNeg (9 + p1)) p2) 6) r14 e15) ⟨hx, hb, hml, hown, hts⟩ (cwS 1 hts gX6_again_X6_offIn rfl rfl rfl (by decide +kernel) ⟨Nat.le_of_ble_eq_true rfl, Nat.le_of_ble_eq_true rfl⟩) hK hS (C_cut (c := 6) (by decide) hP) (C_A (c := 6) (by decide) hS.1) (C_keep (c := 6) (by decide) hI hP) rfl hl.1 rfl (Nat.le_of_ble_eq_true rfl) dX6_again_63 ⟨Nat.zero_le _, Nat.zero_le _⟩ (fun H locs hP hS => ?_)
        rw [hQz]
        exact r_iret (v := r14) hx hb hr hlk hS ((Prod.mk.inj (Option.some.inj h)).2 ▸ hP) (Prod.mk.inj (Option.some.inj h)).1 dX6_again_66
      · replace h := if_f q8 h
        refine lv_ldc (v := (-1000002)) hx hb hown w136 dX6_again_33 ?_
        rw [hQz]
        exact r_iret (v := (-1000002)) hx hb hr hlk hS ((Prod.mk.inj (Option.some.inj h)).2 ▸ hP) (Prod.mk.inj (Option.some.inj h)).1 dX6_again_35
    · replace h := if_t q6 h
      refine lv_ldc (v := (-1000001)) hx hb hown w65 dX6_again_17 ?_
      rw [hQz]
      exact r_iret (v := (-1000001)) hx hb hr hlk hS ((Prod.mk.inj (Option.some.inj h)).2 ▸ hP) (Prod.mk.inj (Option.some.inj h)).1 dX6_again_19
def rmX6_undo : Room := { frames := 1, cells := 0, slots := 0, locals := 60 }
set_option maxHeartbeats 4000000 in
set_option maxRecDepth 100000 in
theorem ok_X6_undo (l : Launch) (g : gT) (a : Nat → Nat) (hI : ij 14 a) (M : Mem) (M' : Mem) (r : Int32) (h : fX6_undo M = some (r, M')) : MI l yX6_undo wsX6_undo rmX6_undo g 14 a [.ref (a 0)] (wl 14 a (eN g a M)) (wl 14 a (eN g a M')) r := by
  refine MI_of (cc := cX6_undo) (maxL := 2) (rt := .int) (by decide) rfl (Nat.le_of_ble_eq_true rfl) ?_
  intro p e s m args below meth c ls hx hb hml hr hlk hts hown hK hP hl
  have hown : s.vm.findClass RX6 = some m.cls := hown
  have hl : lv_has ls 2 [(0, .ref (a 0))] := hl
  have hS : va_S (aA 14 a s.heap.size) s.heap s.heap [] := va_S.rf
  have iX6 : ∀ w ∈ wsX60, w ∈ wsX6_undo := fun w h => List.mem_cons_of_mem _ (List.mem_append_right _ h)
  have w115 := hts (.fieldLink RX6 115 "StepRidersModel" "known" "I") (by decide +kernel)
  have w25 := hts (.fieldLink RX6 25 "StepRidersModel" "s" "[I") (by decide +kernel)
  have w38 := hts (.fieldLink RX6 38 "StepRidersModel" "past" "[I") (by decide +kernel)
  have w136 := hts (.constant RX6 136 (-1000002)) (by decide +kernel)
  obtain ⟨Qz, hQz⟩ : ∃ Qz : State → Prop, Qz = MQ below (qI g (wl 14 a (eN g a M')) r (aA 14 a s.heap.size)) args s 0 0 (aA 14 a s.heap.size) := ⟨_, rfl⟩
  rw [← hQz]
  have B22 : ∀ (k22 : Int32 → Mem → Option (Int32 × Mem)) (C22 : ∀ (x1 : Int32) (M : Mem) (H : Heap) (locs : List Loc) (ls : Array Slot), k22 x1 M = some (r, M') → va_P g.1 vwCl (wl 14 a (eN g a M)) H → va_S (aA 14 a s.heap.size) s.heap H locs → lv_has ls 2 [(0, .ref (a 0)), (1, .int x1)] → W p l e rmX6_undo s m args below meth c H locs 0 0 Qz (F0 m 22 ls [])), ∀ (x1 : Int32) (M : Mem) (H : Heap) (locs : List Loc) (ls : Array Slot), fX6_undo_b22 k22 x1 M = some (r, M') → va_P g.1 vwCl (wl 14 a (eN g a M)) H → va_S (aA 14 a s.heap.size) s.heap H locs → lv_has ls 2 [(0, .ref (a 0)), (1, .int x1)] → W p l e rmX6_undo s m args below meth c H locs 0 0 Qz (F0 m 22 ls []) := by
    intro k22 C22 x1 M H locs ls h hP hS hl
    unfold fX6_undo_b22 at h
    refine lv_iload_n hx hb dX6_undo_22 rfl (lv_at hl 1 rfl) ?_
    refine lv_bipush (v := 16) hx hb dX6_undo_23 (by decide) ?_
    refine lv_icmp_ge (x := x1) (y := 16) (tgt := 54) hx hb dX6_undo_25 (by decide) (fun q1 => ?_) (fun q1 => ?_)
    · replace h := if_t q1 h
      refine lv_aload_n hx hb dX6_undo_54 rfl (lv_at hl 0 rfl) ?_
      refine r_get (v := .int (M 0 13)) hx hb hts iX6 hown hK hP 0 (by decide) eN_0 rfl 13 (by decide) w115 rfl dX6_undo_55 ?_
      rw [hQz]
      exact r_iret (v := (M 0 13)) hx hb hr hlk hS ((Prod.mk.inj (Option.some.inj h)).2 ▸ hP) (Prod.mk.inj (Option.some.inj h)).1 dX6_undo_58
    · replace h := if_f q1 h
      refine lv_aload_n hx hb dX6_undo_28 rfl (lv_at hl 0 rfl) ?_
      refine r_get (v := .ref (a 6)) hx hb hts iX6 hown hK hP 0 (by decide) eN_0 rfl 8 (by decide) w25 rfl dX6_undo_29 ?_
      refine lv_iload_n hx hb dX6_undo_32 rfl (lv_at hl 1 rfl) ?_
      refine lv_aload_n hx hb dX6_undo_33 rfl (lv_at hl 0 rfl) ?_
      refine r_get (v := .ref (a 10)) hx hb hts iX6 hown hK hP 0 (by decide) eN_0 rfl 12 (by decide) w38 rfl dX6_undo_34 ?_
      refine lv_bipush (v := 16) hx hb dX6_undo_37 (by decide) ?_
      refine lv_aload_n hx hb dX6_undo_39 rfl (lv_at hl 0 rfl) ?_
      refine r_get (v := .int (M 0 13)) hx hb hts iX6 hown hK hP 0 (by decide) eN_0 rfl 13 (by decide) w115 rfl dX6_undo_40 ?_
      refine lv_imul (x := 16) (y := (M 0 13)) hx hb dX6_undo_43 ?_
      refine lv_iload_n hx hb dX6_undo_44 rfl (lv_at hl 1 rfl) ?_
      refine lv_iadd (x := (16 * (M 0 13))) (y := x1) hx hb dX6_undo_45 ?_
      obtain ⟨q2, h⟩ := chk_ok h
      refine r_iald (i := ((16 * (M 0 13)) + x1)) (h := M 10) hx hb hK hP 10 (by decide) rfl q2 dX6_undo_46 ?_
      obtain ⟨q3, h⟩ := chk_ok h
      refine r_iast (i := x1) (x := (M 10 (Int32.toNatClampNeg ((16 * (M 0 13)) + x1)))) (h := M 6) (f' := eN g a (mp M 6 (Int32.toNatClampNeg x1) (M 10 (Int32.toNatClampNeg ((16 * (M 0 13)) + x1))))) hx hb hK hI (fun _ h => aA_in h) hP hS 6 (by decide) rfl q3 (eN_ua (fun _ => rfl)) dX6_undo_47 (fun H locs hP hS => ?_)
      refine lv_iinc (v := (x1 + 1)) (lv' := [(1, .int (x1 + 1)), (0, .ref (a 0))]) hx hb dX6_undo_48 hl (k := 1) rfl rfl (by decide) rfl (fun ls hl => ?_)
      refine lv_goto (tgt := 22) hx hb dX6_undo_51 (by decide) ?_
      exact C22 (x1 + 1) (mp M 6 (Int32.toNatClampNeg x1) (M 10 (Int32.toNatClampNeg ((16 * (M 0 13)) + x1)))) _ _ _ h hP hS (lv_sub hl [1, 0] rfl)
  have L22 : ∀ (n : Nat), ∀ (x1 : Int32) (M : Mem) (H : Heap) (locs : List Loc) (ls : Array Slot), fX6_undo_l22 n x1 M = some (r, M') → va_P g.1 vwCl (wl 14 a (eN g a M)) H → va_S (aA 14 a s.heap.size) s.heap H locs → lv_has ls 2 [(0, .ref (a 0)), (1, .int x1)] → W p l e rmX6_undo s m args below meth c H locs 0 0 Qz (F0 m 22 ls []) := by
    intro n
    induction n with
    | zero => intro x1 M H locs ls h; exact absurd (show (none : Option (Int32 × Mem)) = some _ from h) (fun z => by cases z)
    | succ n ih => exact fun x1 M H locs ls h hP hS hl => B22 (fX6_undo_l22 n) ih x1 M H locs ls h hP hS hl
  unfold fX6_undo at h
  refine lv_aload_n hx hb dX6_undo_0 rfl (lv_at hl 0 rfl) ?_
  refine r_get (v := .int (M 0 13)) hx hb hts iX6 hown hK hP 0 (by decide) eN_0 rfl 13 (by decide) w115 rfl dX6_undo_1 ?_
  refine lv_if_ne (x := (M 0 13)) (tgt := 10) hx hb dX6_undo_4 (by decide) (fun q1 => ?_) (fun q1 => ?_)
  · replace h := if_f q1 h
    refine lv_aload_n hx hb dX6_undo_10 rfl (lv_at hl 0 rfl) ?_
    refine lv_dup hx hb dX6_undo_11 rfl ?_
    refine r_get (v := .int (M 0 13)) hx hb hts iX6 hown hK hP 0 (by decide) eN_0 rfl 13 (by decide) w115 rfl dX6_undo_12 ?_
    refine lv_iconst (v := 1) hx hb dX6_undo_15 (by decide) ?_
    refine lv_isub (x := (M 0 13)) (y := 1) hx hb dX6_undo_16 ?_
    refine r_put (v := .int ((M 0 13) - 1)) (ty := .int) (f' := eN g a (mp M 0 13 ((M 0 13) - 1))) hx hb hts iX6 tyX6 tyX6_ok nmX6 hown hK hI (fun _ h => aA_in h) hP hS 0 (by decide) eN_0 rfl 13 (by decide) w115 rfl (by decide +kernel) rfl rfl (Nat.le_of_ble_eq_true rfl) eN_p13 dX6_undo_17 (fun H locs hP hS => ?_)
    refine lv_iconst (v := 0) hx hb dX6_undo_20 (by decide) ?_
    refine lv_istore_n (lv' := [(1, .int 0), (0, .ref (a 0))]) hx hb dX6_undo_21 rfl hl (by decide) rfl (fun ls hl => ?_)
    exact L22 FU 0 (mp M 0 13 ((M 0 13) - 1)) _ _ _ h hP hS (lv_sub hl [1, 0] rfl)
  · replace h := if_t q1 h
    refine lv_ldc (v := (-1000002)) hx hb hown w136 dX6_undo_7 ?_
    rw [hQz]
    exact r_iret (v := (-1000002)) hx hb hr hlk hS ((Prod.mk.inj (Option.some.inj h)).2 ▸ hP) (Prod.mk.inj (Option.some.inj h)).1 dX6_undo_9
def rmX6_rider : Room := { frames := 3, cells := 0, slots := 0, locals := 103 }
set_option maxHeartbeats 4000000 in
set_option maxRecDepth 100000 in
theorem ok_X6_rider (l : Launch) (g : gT) (a : Nat → Nat) (hI : ij 14 a) (p1 : Int32) (p2 : Int32) (M : Mem) (r : Int32) (h : fX6_rider p1 p2 M = some r) : MI l yX6_rider wsX6_rider rmX6_rider g 14 a [.ref (a 0), .int p1, .int p2] (wl 14 a (eN g a M)) (wl 14 a (eN g a M)) r := by
  refine MI_of (cc := cX6_rider) (maxL := 4) (rt := .int) (by decide) rfl (Nat.le_of_ble_eq_true rfl) ?_
  intro p e s m args below meth c ls hx hb hml hr hlk hts hown hK hP hl
  have hown : s.vm.findClass RX6 = some m.cls := hown
  have hl : lv_has ls 4 [(0, .ref (a 0)), (1, .int p1), (2, .int p2)] := hl
  have hS : va_S (aA 14 a s.heap.size) s.heap s.heap [] := va_S.rf
  have iX6 : ∀ w ∈ wsX60, w ∈ wsX6_rider := fun w h => List.mem_cons_of_mem _ (List.mem_append_right _ h)
  have w25 := hts (.fieldLink RX6 25 "StepRidersModel" "s" "[I") (by decide +kernel)
  have w65 := hts (.constant RX6 65 (-1000001)) (by decide +kernel)
  obtain ⟨Qz, hQz⟩ : ∃ Qz : State → Prop, Qz = MQ below (qI g (wl 14 a (eN g a M)) r (aA 14 a s.heap.size)) args s 0 0 (aA 14 a s.heap.size) := ⟨_, rfl⟩
  rw [← hQz]
  unfold fX6_rider at h
  refine lv_aload_n hx hb dX6_rider_0 rfl (lv_at hl 0 rfl) ?_
  refine lv_iload_n hx hb dX6_rider_1 rfl (lv_at hl 1 rfl) ?_
  obtain ⟨r1, e2, h⟩ := bdP_ok h
  refine r_callVi (As := [.int p1]) (rest := []) (ws' := (wl 14 a (eN g a M))) (ok_X6_isRider l g a hI p1 M r1 e2) ⟨hx, hb, hml, hown, hts⟩ (cwV 1 hts gX6_rider_X6_isRider rfl rfl rfl (by decide +kernel) ⟨Nat.le_of_ble_eq_true rfl, Nat.le_of_ble_eq_true rfl⟩) hK (r_recv hK hP 0 (by decide) eN_0 (show vwCl[6]? = some (RX6, TX6, 20) from rfl)) hS hP (fun _ hq => aA_mono hS.1 hq) (fun _ h _ => h) rfl hl.1 rfl (Nat.le_of_ble_eq_true rfl) dX6_rider_2 ⟨Nat.zero_le _, Nat.zero_le _⟩ (fun H locs hP hS => ?_)
  refine lv_if_ne (x := r1) (tgt := 11) hx hb dX6_rider_5 (by decide) (fun q3 => ?_) (fun q3 => ?_)
  · replace h := if_f q3 h
    refine lv_aload_n hx hb dX6_rider_11 rfl (lv_at hl 0 rfl) ?_
    refine r_get (v := .ref (a 6)) hx hb hts iX6 hown hK hP 0 (by decide) eN_0 rfl 8 (by decide) w25 rfl dX6_rider_12 ?_
    refine lv_iconst (v := 2) hx hb dX6_rider_15 (by decide) ?_
    refine lv_iload_n hx hb dX6_rider_16 rfl (lv_at hl 1 rfl) ?_
    refine lv_iadd (x := 2) (y := p1) hx hb dX6_rider_17 ?_
    obtain ⟨q4, h⟩ := chk_ok h
    refine r_iald (i := (2 + p1)) (h := M 6) hx hb hK hP 6 (by decide) rfl q4 dX6_rider_18 ?_
    refine lv_istore_n (lv' := [(3, .int (M 6 (Int32.toNatClampNeg (2 + p1)))), (0, .ref (a 0)), (1, .int p1), (2, .int p2)]) hx hb dX6_rider_19 rfl hl (by decide) rfl (fun ls hl => ?_)
    refine lv_iload_n hx hb dX6_rider_20 rfl (lv_at hl 3 rfl) ?_
    by_cases q5 : p2 = 0
    · replace h := if_t q5 h
      refine lv_tableIn (x := p2) (tgt := 52) (off := 31) hx hb dX6_rider_21 (by rw [q5]; decide) (by rw [q5]; decide) (by rw [q5]; decide) (by decide) ?_
      refine lv_iload_n hx hb dX6_rider_52 rfl (lv_at hl 0 rfl) ?_
      rw [hQz]
      exact r_iret (v := (M 6 (Int32.toNatClampNeg (2 + p1)))) hx hb hr hlk hS hP (Option.some.inj h) dX6_rider_53
    replace h := if_f q5 h
    by_cases q6 : p2 = 1
    · replace h := if_t q6 h
      refine lv_tableIn (x := p2) (tgt := 54) (off := 33) hx hb dX6_rider_21 (by rw [q6]; decide) (by rw [q6]; decide) (by rw [q6]; decide) (by decide) ?_
      refine lv_aload_n hx hb dX6_rider_54 rfl (lv_at hl 1 rfl) ?_
      refine r_get (v := .ref (a 6)) hx hb hts iX6 hown hK hP 0 (by decide) eN_0 rfl 8 (by decide) w25 rfl dX6_rider_55 ?_
      refine lv_bipush (v := 9) hx hb dX6_rider_58 (by decide) ?_
      refine lv_iload_n hx hb dX6_rider_60 rfl (lv_at hl 2 rfl) ?_
      refine lv_iadd (x := 9) (y := p1) hx hb dX6_rider_61 ?_
      obtain ⟨q7, h⟩ := chk_ok h
      refine r_iald (i := (9 + p1)) (h := M 6) hx hb hK hP 6 (by decide) rfl q7 dX6_rider_62 ?_
      rw [hQz]
      exact r_iret (v := (M 6 (Int32.toNatClampNeg (9 + p1)))) hx hb hr hlk hS hP (Option.some.inj h) dX6_rider_63
    replace h := if_f q6 h
    by_cases q8 : p2 = 2
    · replace h := if_t q8 h
      refine lv_tableIn (x := p2) (tgt := 64) (off := 43) hx hb dX6_rider_21 (by rw [q8]; decide) (by rw [q8]; decide) (by rw [q8]; decide) (by decide) ?_
      refine lv_aload_n hx hb dX6_rider_64 rfl (lv_at hl 1 rfl) ?_
      refine r_get (v := .ref (a 6)) hx hb hts iX6 hown hK hP 0 (by decide) eN_0 rfl 8 (by decide) w25 rfl dX6_rider_65 ?_
      refine lv_bipush (v := 18) hx hb dX6_rider_68 (by decide) ?_
      refine lv_iload_n hx hb dX6_rider_70 rfl (lv_at hl 2 rfl) ?_
      refine lv_iadd (x := 18) (y := p1) hx hb dX6_rider_71 ?_
      obtain ⟨q9, h⟩ := chk_ok h
      refine r_iald (i := (18 + p1)) (h := M 6) hx hb hK hP 6 (by decide) rfl q9 dX6_rider_72 ?_
      refine lv_iconst (v := 4) hx hb dX6_rider_73 (by decide) ?_
      refine lv_icmp_lt (x := (M 6 (Int32.toNatClampNeg (18 + p1)))) (y := 4) (tgt := 81) hx hb dX6_rider_74 (by decide) (fun q10 => ?_) (fun q10 => ?_)
      · replace h := if_t q10 h
        refine lv_iconst (v := 0) hx hb dX6_rider_81 (by decide) ?_
        rw [hQz]
        exact r_iret (v := 0) hx hb hr hlk hS hP (Option.some.inj h) dX6_rider_82
      · replace h := if_f q10 h
        refine lv_iconst (v := 1) hx hb dX6_rider_77 (by decide) ?_
        refine lv_goto (tgt := 82) hx hb dX6_rider_78 (by decide) ?_
        rw [hQz]
        exact r_iret (v := 1) hx hb hr hlk hS hP (Option.some.inj h) dX6_rider_82
    replace h := if_f q8 h
    by_cases q11 : p2 = 3
    · replace h := if_t q11 h
      refine lv_tableIn (x := p2) (tgt := 83) (off := 62) hx hb dX6_rider_21 (by rw [q11]; decide) (by rw [q11]; decide) (by rw [q11]; decide) (by decide) ?_
      refine lv_iload_n hx hb dX6_rider_83 rfl (lv_at hl 0 rfl) ?_
      obtain ⟨r12, e13, h⟩ := bdP_ok h
      refine r_callSi (As := [.int (M 6 (Int32.toNatClampNeg (2 + p1)))]) (rest := []) (ws' := (wl 14 a (eN g a M))) (ok_X6_isOn l g (M 6 (Int32.toNatClampNeg (2 + p1))) r12 e13) ⟨hx, hb, hml, hown, hts⟩ (cwS 1 hts gX6_rider_X6_isOn rfl rfl rfl (by decide +kernel) ⟨Nat.le_of_ble_eq_true rfl, Nat.le_of_ble_eq_true rfl⟩) hK hS nilP (P_A hS.1) (fun _ _ hk => wl_keep hP hk) rfl hl.1 rfl (Nat.le_of_ble_eq_true rfl) dX6_rider_84 ⟨Nat.zero_le _, Nat.zero_le _⟩ (fun H locs hP hS => ?_)
      refine lv_if_eq (x := r12) (tgt := 130) hx hb dX6_rider_87 (by decide) (fun q14 => ?_) (fun q14 => ?_)
      · replace h := if_t q14 h
        refine lv_iconst (v := 0) hx hb dX6_rider_130 (by decide) ?_
        rw [hQz]
        exact r_iret (v := 0) hx hb hr hlk hS hP (Option.some.inj h) dX6_rider_131
      · replace h := if_f q14 h
        refine lv_iload_n hx hb dX6_rider_90 rfl (lv_at hl 0 rfl) ?_
        refine lv_aload_n hx hb dX6_rider_91 rfl (lv_at hl 1 rfl) ?_
        refine r_get (v := .ref (a 6)) hx hb hts iX6 hown hK hP 0 (by decide) eN_0 rfl 8 (by decide) w25 rfl dX6_rider_92 ?_
        refine lv_bipush (v := 16) hx hb dX6_rider_95 (by decide) ?_
        obtain ⟨q15, h⟩ := chk_ok h
        refine r_iald (i := 16) (h := M 6) hx hb hK hP 6 (by decide) rfl q15 dX6_rider_97 ?_
        refine lv_iconst (v := 1) hx hb dX6_rider_98 (by decide) ?_
        refine lv_isub (x := (M 6 (Int32.toNatClampNeg 16))) (y := 1) hx hb dX6_rider_99 ?_
        refine lv_icmp_ge (x := (M 6 (Int32.toNatClampNeg (2 + p1)))) (y := ((M 6 (Int32.toNatClampNeg 16)) - 1)) (tgt := 130) hx hb dX6_rider_100 (by decide) (fun q16 => ?_) (fun q16 => ?_)
        · replace h := if_t q16 h
          refine lv_iconst (v := 0) hx hb dX6_rider_130 (by decide) ?_
          rw [hQz]
          exact r_iret (v := 0) hx hb hr hlk hS hP (Option.some.inj h) dX6_rider_131
        · replace h := if_f q16 h
          refine lv_aload_n hx hb dX6_rider_103 rfl (lv_at hl 1 rfl) ?_
          refine r_get (v := .ref (a 6)) hx hb hts iX6 hown hK hP 0 (by decide) eN_0 rfl 8 (by decide) w25 rfl dX6_rider_104 ?_
          refine lv_iload_n hx hb dX6_rider_107 rfl (lv_at hl 2 rfl) ?_
          refine lv_iload_n hx hb dX6_rider_108 rfl (lv_at hl 0 rfl) ?_
          refine lv_iconst (v := 1) hx hb dX6_rider_109 (by decide) ?_
          refine lv_iadd (x := (M 6 (Int32.toNatClampNeg (2 + p1)))) (y := 1) hx hb dX6_rider_110 ?_
          refine lv_aload_n hx hb dX6_rider_111 rfl (lv_at hl 1 rfl) ?_
          refine r_get (v := .ref (a 6)) hx hb hts iX6 hown hK hP 0 (by decide) eN_0 rfl 8 (by decide) w25 rfl dX6_rider_112 ?_
          refine lv_bipush (v := 9) hx hb dX6_rider_115 (by decide) ?_
          refine lv_iload_n hx hb dX6_rider_117 rfl (lv_at hl 2 rfl) ?_
          refine lv_iadd (x := 9) (y := p1) hx hb dX6_rider_118 ?_
          obtain ⟨q17, h⟩ := chk_ok h
          refine r_iald (i := (9 + p1)) (h := M 6) hx hb hK hP 6 (by decide) rfl q17 dX6_rider_119 ?_
          obtain ⟨r18, e19, h⟩ := bdP_ok h
          refine r_callSi (As := [.ref (a 6), .int p1, .int ((M 6 (Int32.toNatClampNeg (2 + p1))) + 1), .int (M 6 (Int32.toNatClampNeg (9 + p1)))]) (rest := []) (ws' := (wl 14 a (eN g a M))) (ok_X6_isFree l g (fun _ => a 6) C_ij p1 ((M 6 (Int32.toNatClampNeg (2 + p1))) + 1) (M 6 (Int32.toNatClampNeg (9 + p1))) (gC M 6) r18 e19) ⟨hx, hb, hml, hown, hts⟩ (cwS 4 hts gX6_rider_X6_isFree rfl rfl rfl (by decide +kernel) ⟨Nat.le_of_ble_eq_true rfl, Nat.le_of_ble_eq_true rfl⟩) hK hS (C_cut (c := 6) (by decide) hP) (C_A (c := 6) (by decide) hS.1) (C_keep (c := 6) (by decide) hI hP) rfl hl.1 rfl (Nat.le_of_ble_eq_true rfl) dX6_rider_120 ⟨Nat.zero_le _, Nat.zero_le _⟩ (fun H locs hP hS => ?_)
          refine lv_if_eq (x := r18) (tgt := 130) hx hb dX6_rider_123 (by decide) (fun q20 => ?_) (fun q20 => ?_)
          · replace h := if_t q20 h
            refine lv_iconst (v := 0) hx hb dX6_rider_130 (by decide) ?_
            rw [hQz]
            exact r_iret (v := 0) hx hb hr hlk hS hP (Option.some.inj h) dX6_rider_131
          · replace h := if_f q20 h
            refine lv_iconst (v := 1) hx hb dX6_rider_126 (by decide) ?_
            refine lv_goto (tgt := 131) hx hb dX6_rider_127 (by decide) ?_
            rw [hQz]
            exact r_iret (v := 1) hx hb hr hlk hS hP (Option.some.inj h) dX6_rider_131
    replace h := if_f q11 h
    have tq5 := lv_neT q5 (show (0 : Int32).toInt = 0 from rfl)
    have tq6 := lv_neT q6 (show (1 : Int32).toInt = 1 from rfl)
    have tq8 := lv_neT q8 (show (2 : Int32).toInt = 2 from rfl)
    have tq11 := lv_neT q11 (show (3 : Int32).toInt = 3 from rfl)
    refine lv_tableOut (x := p2) (tgt := 132) hx hb dX6_rider_21 (by omega) (by decide) ?_
    refine lv_ldc (v := (-1000001)) hx hb hown w65 dX6_rider_132 ?_
    rw [hQz]
    exact r_iret (v := (-1000001)) hx hb hr hlk hS hP (Option.some.inj h) dX6_rider_134
  · replace h := if_t q3 h
    refine lv_ldc (v := (-1000001)) hx hb hown w65 dX6_rider_8 ?_
    rw [hQz]
    exact r_iret (v := (-1000001)) hx hb hr hlk hS hP (Option.some.inj h) dX6_rider_10
def rmX6_step : Room := { frames := 2, cells := 0, slots := 0, locals := 82 }
set_option maxHeartbeats 4000000 in
set_option maxRecDepth 100000 in
theorem ok_X6_step (l : Launch) (g : gT) (a : Nat → Nat) (hI : ij 14 a) (p1 : Int32) (p2 : Int32) (M : Mem) (r : Int32) (h : fX6_step p1 p2 M = some r) : MI l yX6_step wsX6_step rmX6_step g 14 a [.ref (a 0), .int p1, .int p2] (wl 14 a (eN g a M)) (wl 14 a (eN g a M)) r := by
  refine MI_of (cc := cX6_step) (maxL := 6) (rt := .int) (by decide) rfl (Nat.le_of_ble_eq_true rfl) ?_
  intro p e s m args below meth c ls hx hb hml hr hlk hts hown hK hP hl
  have hown : s.vm.findClass RX6 = some m.cls := hown
  have hl : lv_has ls 6 [(0, .ref (a 0)), (1, .int p1), (2, .int p2)] := hl
  have hS : va_S (aA 14 a s.heap.size) s.heap s.heap [] := va_S.rf
  have iX6 : ∀ w ∈ wsX60, w ∈ wsX6_step := fun w h => List.mem_cons_of_mem _ (List.mem_append_right _ h)
  have w25 := hts (.fieldLink RX6 25 "StepRidersModel" "s" "[I") (by decide +kernel)
  have w65 := hts (.constant RX6 65 (-1000001)) (by decide +kernel)
  obtain ⟨Qz, hQz⟩ : ∃ Qz : State → Prop, Qz = MQ below (qI g (wl 14 a (eN g a M)) r (aA 14 a s.heap.size)) args s 0 0 (aA 14 a s.heap.size) := ⟨_, rfl⟩
  rw [← hQz]
  have B108 : ∀ (k34 : Int32 → Int32 → Option (Int32)) (C34 : ∀ (x3 : Int32) (x4 : Int32) (H : Heap) (locs : List Loc) (ls : Array Slot), k34 x3 x4 = some r → va_P g.1 vwCl (wl 14 a (eN g a M)) H → va_S (aA 14 a s.heap.size) s.heap H locs → lv_has ls 6 [(0, .ref (a 0)), (1, .int p1), (2, .int p2), (3, .int x3), (4, .int x4)] → W p l e rmX6_step s m args below meth c H locs 0 0 Qz (F0 m 34 ls [])), ∀ (x4 : Int32) (s0 : Int32) (s1 : Int32) (H : Heap) (locs : List Loc) (ls : Array Slot), fX6_step_b108 p1 p2 M k34 x4 s0 s1 = some r → va_P g.1 vwCl (wl 14 a (eN g a M)) H → va_S (aA 14 a s.heap.size) s.heap H locs → lv_has ls 6 [(0, .ref (a 0)), (1, .int p1), (2, .int p2), (4, .int x4)] → W p l e rmX6_step s m args below meth c H locs 0 0 Qz (F0 m 108 ls [.int s0, .int s1]) := by
    intro k34 C34 x4 s0 s1 H locs ls h hP hS hl
    unfold fX6_step_b108 at h
    refine lv_ior (x := s1) (y := s0) hx hb dX6_step_108 ?_
    refine lv_istore_n (lv' := [(3, .int (s1 ||| s0)), (0, .ref (a 0)), (1, .int p1), (2, .int p2), (4, .int x4)]) hx hb dX6_step_109 rfl hl (by decide) rfl (fun ls hl => ?_)
    refine lv_iinc (v := (x4 + 1)) (lv' := [(4, .int (x4 + 1)), (3, .int (s1 ||| s0)), (0, .ref (a 0)), (1, .int p1), (2, .int p2)]) hx hb dX6_step_110 hl (k := 4) rfl rfl (by decide) rfl (fun ls hl => ?_)
    refine lv_goto (tgt := 34) hx hb dX6_step_113 (by decide) ?_
    exact C34 (s1 ||| s0) (x4 + 1) _ _ _ h hP hS (lv_sub hl [2, 3, 4, 1, 0] rfl)
  have B92 : ∀ (k34 : Int32 → Int32 → Option (Int32)) (C34 : ∀ (x3 : Int32) (x4 : Int32) (H : Heap) (locs : List Loc) (ls : Array Slot), k34 x3 x4 = some r → va_P g.1 vwCl (wl 14 a (eN g a M)) H → va_S (aA 14 a s.heap.size) s.heap H locs → lv_has ls 6 [(0, .ref (a 0)), (1, .int p1), (2, .int p2), (3, .int x3), (4, .int x4)] → W p l e rmX6_step s m args below meth c H locs 0 0 Qz (F0 m 34 ls [])), ∀ (x3 : Int32) (x4 : Int32) (s0 : Int32) (H : Heap) (locs : List Loc) (ls : Array Slot), fX6_step_b92 p1 p2 M k34 x3 x4 s0 = some r → va_P g.1 vwCl (wl 14 a (eN g a M)) H → va_S (aA 14 a s.heap.size) s.heap H locs → lv_has ls 6 [(0, .ref (a 0)), (1, .int p1), (2, .int p2), (3, .int x3), (4, .int x4)] → W p l e rmX6_step s m args below meth c H locs 0 0 Qz (F0 m 92 ls [.int s0]) := by
    intro k34 C34 x3 x4 s0 H locs ls h hP hS hl
    unfold fX6_step_b92 at h
    refine lv_istore (lv' := [(5, .int s0), (0, .ref (a 0)), (1, .int p1), (2, .int p2), (3, .int x3), (4, .int x4)]) hx hb dX6_step_92 hl (by decide) rfl (fun ls hl => ?_)
    refine lv_iload_n hx hb dX6_step_94 rfl (lv_at hl 4 rfl) ?_
    refine lv_iload hx hb dX6_step_95 (lv_at hl 0 rfl) ?_
    refine lv_if_eq (x := s0) (tgt := 107) hx hb dX6_step_97 (by decide) (fun q1 => ?_) (fun q1 => ?_)
    · replace h := if_t q1 h
      refine lv_iconst (v := 0) hx hb dX6_step_107 (by decide) ?_
      exact B108 k34 C34 x4 0 x3 _ _ _ h hP hS (lv_sub hl [1, 2, 3, 5] rfl)
    · replace h := if_f q1 h
      refine lv_iconst (v := 1) hx hb dX6_step_100 (by decide) ?_
      refine lv_iload hx hb dX6_step_101 (lv_at hl 5 rfl) ?_
      refine lv_ishl (x := 1) (y := x4) hx hb dX6_step_103 ?_
      refine lv_goto (tgt := 108) hx hb dX6_step_104 (by decide) ?_
      exact B108 k34 C34 x4 (1 <<< (x4 &&& 31)) x3 _ _ _ h hP hS (lv_sub hl [1, 2, 3, 5] rfl)
  have B91 : ∀ (k34 : Int32 → Int32 → Option (Int32)) (C34 : ∀ (x3 : Int32) (x4 : Int32) (H : Heap) (locs : List Loc) (ls : Array Slot), k34 x3 x4 = some r → va_P g.1 vwCl (wl 14 a (eN g a M)) H → va_S (aA 14 a s.heap.size) s.heap H locs → lv_has ls 6 [(0, .ref (a 0)), (1, .int p1), (2, .int p2), (3, .int x3), (4, .int x4)] → W p l e rmX6_step s m args below meth c H locs 0 0 Qz (F0 m 34 ls [])), ∀ (x3 : Int32) (x4 : Int32) (H : Heap) (locs : List Loc) (ls : Array Slot), fX6_step_b91 p1 p2 M k34 x3 x4 = some r → va_P g.1 vwCl (wl 14 a (eN g a M)) H → va_S (aA 14 a s.heap.size) s.heap H locs → lv_has ls 6 [(0, .ref (a 0)), (1, .int p1), (2, .int p2), (3, .int x3), (4, .int x4)] → W p l e rmX6_step s m args below meth c H locs 0 0 Qz (F0 m 91 ls []) := by
    intro k34 C34 x3 x4 H locs ls h hP hS hl
    unfold fX6_step_b91 at h
    refine lv_iconst (v := 0) hx hb dX6_step_91 (by decide) ?_
    exact B92 k34 C34 x3 x4 0 _ _ _ h hP hS (lv_sub hl [0, 1, 2, 3, 4] rfl)
  have B87 : ∀ (k34 : Int32 → Int32 → Option (Int32)) (C34 : ∀ (x3 : Int32) (x4 : Int32) (H : Heap) (locs : List Loc) (ls : Array Slot), k34 x3 x4 = some r → va_P g.1 vwCl (wl 14 a (eN g a M)) H → va_S (aA 14 a s.heap.size) s.heap H locs → lv_has ls 6 [(0, .ref (a 0)), (1, .int p1), (2, .int p2), (3, .int x3), (4, .int x4)] → W p l e rmX6_step s m args below meth c H locs 0 0 Qz (F0 m 34 ls [])), ∀ (x3 : Int32) (x4 : Int32) (H : Heap) (locs : List Loc) (ls : Array Slot), fX6_step_b87 p1 p2 M k34 x3 x4 = some r → va_P g.1 vwCl (wl 14 a (eN g a M)) H → va_S (aA 14 a s.heap.size) s.heap H locs → lv_has ls 6 [(0, .ref (a 0)), (1, .int p1), (2, .int p2), (3, .int x3), (4, .int x4)] → W p l e rmX6_step s m args below meth c H locs 0 0 Qz (F0 m 87 ls []) := by
    intro k34 C34 x3 x4 H locs ls h hP hS hl
    unfold fX6_step_b87 at h
    refine lv_iconst (v := 1) hx hb dX6_step_87 (by decide) ?_
    refine lv_goto (tgt := 92) hx hb dX6_step_88 (by decide) ?_
    exact B92 k34 C34 x3 x4 1 _ _ _ h hP hS (lv_sub hl [0, 1, 2, 3, 4] rfl)
  have B34 : ∀ (k34 : Int32 → Int32 → Option (Int32)) (C34 : ∀ (x3 : Int32) (x4 : Int32) (H : Heap) (locs : List Loc) (ls : Array Slot), k34 x3 x4 = some r → va_P g.1 vwCl (wl 14 a (eN g a M)) H → va_S (aA 14 a s.heap.size) s.heap H locs → lv_has ls 6 [(0, .ref (a 0)), (1, .int p1), (2, .int p2), (3, .int x3), (4, .int x4)] → W p l e rmX6_step s m args below meth c H locs 0 0 Qz (F0 m 34 ls [])), ∀ (x3 : Int32) (x4 : Int32) (H : Heap) (locs : List Loc) (ls : Array Slot), fX6_step_b34 p1 p2 M k34 x3 x4 = some r → va_P g.1 vwCl (wl 14 a (eN g a M)) H → va_S (aA 14 a s.heap.size) s.heap H locs → lv_has ls 6 [(0, .ref (a 0)), (1, .int p1), (2, .int p2), (3, .int x3), (4, .int x4)] → W p l e rmX6_step s m args below meth c H locs 0 0 Qz (F0 m 34 ls []) := by
    intro k34 C34 x3 x4 H locs ls h hP hS hl
    unfold fX6_step_b34 at h
    refine lv_iload hx hb dX6_step_34 (lv_at hl 4 rfl) ?_
    refine lv_aload_n hx hb dX6_step_36 rfl (lv_at hl 0 rfl) ?_
    refine r_get (v := .ref (a 6)) hx hb hts iX6 hown hK hP 0 (by decide) eN_0 rfl 8 (by decide) w25 rfl dX6_step_37 ?_
    refine lv_bipush (v := 17) hx hb dX6_step_40 (by decide) ?_
    obtain ⟨q1, h⟩ := chk_ok h
    refine r_iald (i := 17) (h := M 6) hx hb hK hP 6 (by decide) rfl q1 dX6_step_42 ?_
    refine lv_icmp_ge (x := x4) (y := (M 6 (Int32.toNatClampNeg 17))) (tgt := 116) hx hb dX6_step_43 (by decide) (fun q2 => ?_) (fun q2 => ?_)
    · replace h := if_t q2 h
      refine lv_iload_n hx hb dX6_step_116 rfl (lv_at hl 3 rfl) ?_
      rw [hQz]
      exact r_iret (v := x3) hx hb hr hlk hS hP (Option.some.inj h) dX6_step_117
    · replace h := if_f q2 h
      refine lv_aload_n hx hb dX6_step_46 rfl (lv_at hl 0 rfl) ?_
      refine r_get (v := .ref (a 6)) hx hb hts iX6 hown hK hP 0 (by decide) eN_0 rfl 8 (by decide) w25 rfl dX6_step_47 ?_
      refine lv_iconst (v := 2) hx hb dX6_step_50 (by decide) ?_
      refine lv_iload hx hb dX6_step_51 (lv_at hl 4 rfl) ?_
      refine lv_iadd (x := 2) (y := x4) hx hb dX6_step_53 ?_
      obtain ⟨q3, h⟩ := chk_ok h
      refine r_iald (i := (2 + x4)) (h := M 6) hx hb hK hP 6 (by decide) rfl q3 dX6_step_54 ?_
      refine lv_iload_n hx hb dX6_step_55 rfl (lv_at hl 1 rfl) ?_
      refine lv_icmp_ne (x := (M 6 (Int32.toNatClampNeg (2 + x4)))) (y := p1) (tgt := 91) hx hb dX6_step_56 (by decide) (fun q4 => ?_) (fun q4 => ?_)
      · replace h := if_f q4 h
        exact B91 k34 C34 x3 x4 _ _ _ h hP hS (lv_sub hl [0, 1, 2, 3, 4] rfl)
      · replace h := if_t q4 h
        refine lv_aload_n hx hb dX6_step_59 rfl (lv_at hl 0 rfl) ?_
        refine r_get (v := .ref (a 6)) hx hb hts iX6 hown hK hP 0 (by decide) eN_0 rfl 8 (by decide) w25 rfl dX6_step_60 ?_
        refine lv_bipush (v := 18) hx hb dX6_step_63 (by decide) ?_
        refine lv_iload hx hb dX6_step_65 (lv_at hl 4 rfl) ?_
        refine lv_iadd (x := 18) (y := x4) hx hb dX6_step_67 ?_
        obtain ⟨q5, h⟩ := chk_ok h
        refine r_iald (i := (18 + x4)) (h := M 6) hx hb hK hP 6 (by decide) rfl q5 dX6_step_68 ?_
        refine lv_iconst (v := 4) hx hb dX6_step_69 (by decide) ?_
        refine lv_icmp_ge (x := (M 6 (Int32.toNatClampNeg (18 + x4)))) (y := 4) (tgt := 87) hx hb dX6_step_70 (by decide) (fun q6 => ?_) (fun q6 => ?_)
        · replace h := if_t q6 h
          exact B87 k34 C34 x3 x4 _ _ _ h hP hS (lv_sub hl [0, 1, 2, 3, 4] rfl)
        · replace h := if_f q6 h
          refine lv_aload_n hx hb dX6_step_73 rfl (lv_at hl 0 rfl) ?_
          refine r_get (v := .ref (a 6)) hx hb hts iX6 hown hK hP 0 (by decide) eN_0 rfl 8 (by decide) w25 rfl dX6_step_74 ?_
          refine lv_bipush (v := 9) hx hb dX6_step_77 (by decide) ?_
          refine lv_iload hx hb dX6_step_79 (lv_at hl 4 rfl) ?_
          refine lv_iadd (x := 9) (y := x4) hx hb dX6_step_81 ?_
          obtain ⟨q7, h⟩ := chk_ok h
          refine r_iald (i := (9 + x4)) (h := M 6) hx hb hK hP 6 (by decide) rfl q7 dX6_step_82 ?_
          refine lv_iload_n hx hb dX6_step_83 rfl (lv_at hl 2 rfl) ?_
          refine lv_icmp_ne (x := (M 6 (Int32.toNatClampNeg (9 + x4)))) (y := p2) (tgt := 91) hx hb dX6_step_84 (by decide) (fun q8 => ?_) (fun q8 => ?_)
          · replace h := if_f q8 h
            exact B91 k34 C34 x3 x4 _ _ _ h hP hS (lv_sub hl [0, 1, 2, 3, 4] rfl)
          · replace h := if_t q8 h
            exact B87 k34 C34 x3 x4 _ _ _ h hP hS (lv_sub hl [0, 1, 2, 3, 4] rfl)
  have L34 : ∀ (n : Nat), ∀ (x3 : Int32) (x4 : Int32) (H : Heap) (locs : List Loc) (ls : Array Slot), fX6_step_l34 p1 p2 M n x3 x4 = some r → va_P g.1 vwCl (wl 14 a (eN g a M)) H → va_S (aA 14 a s.heap.size) s.heap H locs → lv_has ls 6 [(0, .ref (a 0)), (1, .int p1), (2, .int p2), (3, .int x3), (4, .int x4)] → W p l e rmX6_step s m args below meth c H locs 0 0 Qz (F0 m 34 ls []) := by
    intro n
    induction n with
    | zero => intro x3 x4 H locs ls h; exact absurd (show (none : Option (Int32)) = some _ from h) (fun z => by cases z)
    | succ n ih => exact fun x3 x4 H locs ls h hP hS hl => B34 (fX6_step_l34 p1 p2 M n) ih x3 x4 H locs ls h hP hS hl
  unfold fX6_step at h
  refine lv_iload_n hx hb dX6_step_0 rfl (lv_at hl 1 rfl) ?_
  refine lv_iconst (v := 0) hx hb dX6_step_1 (by decide) ?_
  refine lv_aload_n hx hb dX6_step_2 rfl (lv_at hl 0 rfl) ?_
  refine r_get (v := .ref (a 6)) hx hb hts iX6 hown hK hP 0 (by decide) eN_0 rfl 8 (by decide) w25 rfl dX6_step_3 ?_
  refine lv_bipush (v := 16) hx hb dX6_step_6 (by decide) ?_
  obtain ⟨q1, h⟩ := chk_ok h
  refine r_iald (i := 16) (h := M 6) hx hb hK hP 6 (by decide) rfl q1 dX6_step_8 ?_
  refine lv_iconst (v := 1) hx hb dX6_step_9 (by decide) ?_
  refine lv_isub (x := (M 6 (Int32.toNatClampNeg 16))) (y := 1) hx hb dX6_step_10 ?_
  obtain ⟨r2, e3, h⟩ := bdP_ok h
  refine r_callSi (As := [.int p1, .int 0, .int ((M 6 (Int32.toNatClampNeg 16)) - 1)]) (rest := []) (ws' := (wl 14 a (eN g a M))) (ok_X6_in l g p1 0 ((M 6 (Int32.toNatClampNeg 16)) - 1) r2 e3) ⟨hx, hb, hml, hown, hts⟩ (cwS 3 hts gX6_step_X6_in rfl rfl rfl (by decide +kernel) ⟨Nat.le_of_ble_eq_true rfl, Nat.le_of_ble_eq_true rfl⟩) hK hS nilP (P_A hS.1) (fun _ _ hk => wl_keep hP hk) rfl hl.1 rfl (Nat.le_of_ble_eq_true rfl) dX6_step_11 ⟨Nat.zero_le _, Nat.zero_le _⟩ (fun H locs hP hS => ?_)
  refine lv_if_eq (x := r2) (tgt := 26) hx hb dX6_step_14 (by decide) (fun q4 => ?_) (fun q4 => ?_)
  · replace h := if_t q4 h
    refine lv_ldc (v := (-1000001)) hx hb hown w65 dX6_step_26 ?_
    rw [hQz]
    exact r_iret (v := (-1000001)) hx hb hr hlk hS hP (Option.some.inj h) dX6_step_28
  · replace h := if_f q4 h
    refine lv_iload_n hx hb dX6_step_17 rfl (lv_at hl 2 rfl) ?_
    refine lv_iconst (v := 0) hx hb dX6_step_18 (by decide) ?_
    refine lv_iconst (v := 1) hx hb dX6_step_19 (by decide) ?_
    obtain ⟨r5, e6, h⟩ := bdP_ok h
    refine r_callSi (As := [.int p2, .int 0, .int 1]) (rest := []) (ws' := (wl 14 a (eN g a M))) (ok_X6_in l g p2 0 1 r5 e6) ⟨hx, hb, hml, hown, hts⟩ (cwS 3 hts gX6_step_X6_in rfl rfl rfl (by decide +kernel) ⟨Nat.le_of_ble_eq_true rfl, Nat.le_of_ble_eq_true rfl⟩) hK hS nilP (P_A hS.1) (fun _ _ hk => wl_keep hP hk) rfl hl.1 rfl (Nat.le_of_ble_eq_true rfl) dX6_step_20 ⟨Nat.zero_le _, Nat.zero_le _⟩ (fun H locs hP hS => ?_)
    refine lv_if_ne (x := r5) (tgt := 29) hx hb dX6_step_23 (by decide) (fun q7 => ?_) (fun q7 => ?_)
    · replace h := if_f q7 h
      refine lv_iconst (v := 0) hx hb dX6_step_29 (by decide) ?_
      refine lv_istore_n (lv' := [(3, .int 0), (0, .ref (a 0)), (1, .int p1), (2, .int p2)]) hx hb dX6_step_30 rfl hl (by decide) rfl (fun ls hl => ?_)
      refine lv_iconst (v := 0) hx hb dX6_step_31 (by decide) ?_
      refine lv_istore (lv' := [(4, .int 0), (3, .int 0), (0, .ref (a 0)), (1, .int p1), (2, .int p2)]) hx hb dX6_step_32 hl (by decide) rfl (fun ls hl => ?_)
      exact L34 FU 0 0 _ _ _ h hP hS (lv_sub hl [2, 3, 4, 1, 0] rfl)
    · replace h := if_t q7 h
      refine lv_ldc (v := (-1000001)) hx hb hown w65 dX6_step_26 ?_
      rw [hQz]
      exact r_iret (v := (-1000001)) hx hb hr hlk hS hP (Option.some.inj h) dX6_step_28
def rmX6_starts : Room := { frames := 1, cells := 0, slots := 0, locals := 60 }
set_option maxHeartbeats 4000000 in
set_option maxRecDepth 100000 in
theorem ok_X6_starts (l : Launch) (g : gT) (a : Nat → Nat) (hI : ij 14 a) (M : Mem) (M' : Mem) (h : fX6_starts M = some M') : MV l yX6_starts wsX6_starts rmX6_starts g 14 a [.ref (a 0)] (wl 14 a (eN g a M)) (wl 14 a (eN g a M')) := by
  refine MV_of (cc := cX6_starts) (maxL := 2) (by decide) rfl (Nat.le_of_ble_eq_true rfl) ?_
  intro p e s m args below meth c ls hx hb hml hr hlk hts hown hK hP hl
  have hown : s.vm.findClass RX6 = some m.cls := hown
  have hl : lv_has ls 2 [(0, .ref (a 0))] := hl
  have hS : va_S (aA 14 a s.heap.size) s.heap s.heap [] := va_S.rf
  have iX6 : ∀ w ∈ wsX60, w ∈ wsX6_starts := fun w h => List.mem_cons_of_mem _ (List.mem_append_right _ h)
  have w41 := hts (.fieldLink RX6 41 "StepRidersModel" "then" "[I") (by decide +kernel)
  have w25 := hts (.fieldLink RX6 25 "StepRidersModel" "s" "[I") (by decide +kernel)
  obtain ⟨Qz, hQz⟩ : ∃ Qz : State → Prop, Qz = MQ below (qV g (wl 14 a (eN g a M')) (aA 14 a s.heap.size)) args s 0 0 (aA 14 a s.heap.size) := ⟨_, rfl⟩
  rw [← hQz]
  have B2 : ∀ (k2 : Int32 → Mem → Option (Mem)) (C2 : ∀ (x1 : Int32) (M : Mem) (H : Heap) (locs : List Loc) (ls : Array Slot), k2 x1 M = some M' → va_P g.1 vwCl (wl 14 a (eN g a M)) H → va_S (aA 14 a s.heap.size) s.heap H locs → lv_has ls 2 [(0, .ref (a 0)), (1, .int x1)] → W p l e rmX6_starts s m args below meth c H locs 0 0 Qz (F0 m 2 ls [])), ∀ (x1 : Int32) (M : Mem) (H : Heap) (locs : List Loc) (ls : Array Slot), fX6_starts_b2 k2 x1 M = some M' → va_P g.1 vwCl (wl 14 a (eN g a M)) H → va_S (aA 14 a s.heap.size) s.heap H locs → lv_has ls 2 [(0, .ref (a 0)), (1, .int x1)] → W p l e rmX6_starts s m args below meth c H locs 0 0 Qz (F0 m 2 ls []) := by
    intro k2 C2 x1 M H locs ls h hP hS hl
    unfold fX6_starts_b2 at h
    refine lv_iload_n hx hb dX6_starts_2 rfl (lv_at hl 1 rfl) ?_
    refine lv_bipush (v := 25) hx hb dX6_starts_3 (by decide) ?_
    refine lv_icmp_ge (x := x1) (y := 25) (tgt := 26) hx hb dX6_starts_5 (by decide) (fun q1 => ?_) (fun q1 => ?_)
    · replace h := if_t q1 h
      rw [hQz]
      exact r_vret hx hb hr hlk hS (Option.some.inj h ▸ hP) dX6_starts_26
    · replace h := if_f q1 h
      refine lv_aload_n hx hb dX6_starts_8 rfl (lv_at hl 0 rfl) ?_
      refine r_get (v := .ref (a 11)) hx hb hts iX6 hown hK hP 0 (by decide) eN_0 rfl 14 (by decide) w41 rfl dX6_starts_9 ?_
      refine lv_iload_n hx hb dX6_starts_12 rfl (lv_at hl 1 rfl) ?_
      refine lv_aload_n hx hb dX6_starts_13 rfl (lv_at hl 0 rfl) ?_
      refine r_get (v := .ref (a 6)) hx hb hts iX6 hown hK hP 0 (by decide) eN_0 rfl 8 (by decide) w25 rfl dX6_starts_14 ?_
      refine lv_iload_n hx hb dX6_starts_17 rfl (lv_at hl 1 rfl) ?_
      obtain ⟨q2, h⟩ := chk_ok h
      refine r_iald (i := x1) (h := M 6) hx hb hK hP 6 (by decide) rfl q2 dX6_starts_18 ?_
      obtain ⟨q3, h⟩ := chk_ok h
      refine r_iast (i := x1) (x := (M 6 (Int32.toNatClampNeg x1))) (h := M 11) (f' := eN g a (mp M 11 (Int32.toNatClampNeg x1) (M 6 (Int32.toNatClampNeg x1)))) hx hb hK hI (fun _ h => aA_in h) hP hS 11 (by decide) rfl q3 (eN_ua (fun _ => rfl)) dX6_starts_19 (fun H locs hP hS => ?_)
      refine lv_iinc (v := (x1 + 1)) (lv' := [(1, .int (x1 + 1)), (0, .ref (a 0))]) hx hb dX6_starts_20 hl (k := 1) rfl rfl (by decide) rfl (fun ls hl => ?_)
      refine lv_goto (tgt := 2) hx hb dX6_starts_23 (by decide) ?_
      exact C2 (x1 + 1) (mp M 11 (Int32.toNatClampNeg x1) (M 6 (Int32.toNatClampNeg x1))) _ _ _ h hP hS (lv_sub hl [1, 0] rfl)
  have L2 : ∀ (n : Nat), ∀ (x1 : Int32) (M : Mem) (H : Heap) (locs : List Loc) (ls : Array Slot), fX6_starts_l2 n x1 M = some M' → va_P g.1 vwCl (wl 14 a (eN g a M)) H → va_S (aA 14 a s.heap.size) s.heap H locs → lv_has ls 2 [(0, .ref (a 0)), (1, .int x1)] → W p l e rmX6_starts s m args below meth c H locs 0 0 Qz (F0 m 2 ls []) := by
    intro n
    induction n with
    | zero => intro x1 M H locs ls h; exact absurd (show (none : Option (Mem)) = some _ from h) (fun z => by cases z)
    | succ n ih => exact fun x1 M H locs ls h hP hS hl => B2 (fX6_starts_l2 n) ih x1 M H locs ls h hP hS hl
  unfold fX6_starts at h
  refine lv_iconst (v := 0) hx hb dX6_starts_0 (by decide) ?_
  refine lv_istore_n (lv' := [(1, .int 0), (0, .ref (a 0))]) hx hb dX6_starts_1 rfl hl (by decide) rfl (fun ls hl => ?_)
  exact L2 FU 0 M _ _ _ h hP hS (lv_sub hl [1, 0] rfl)
