def rmX5_fits : Room := { frames := 7, cells := 0, slots := 0, locals := 203 }
set_option maxHeartbeats 4000000 in
set_option maxRecDepth 100000 in
theorem ok_X5_fits (l : Launch) (g : gT) (a : Nat → Nat) (hI : ij 203 a) (p1 : Int32) (p2 : Int32) (p3 : Int32) (p4 : Int32) (p5 : Int32) (M : Mem) (M' : Mem) (r : Int32) (h : fX5_fits p1 p2 p3 p4 p5 M = some (r, M')) : MI l yX5_fits wsX5_fits rmX5_fits g 203 a [.ref (a 0), .int p1, .int p2, .int p3, .int p4, .int p5] (wl 203 a (eX g a M)) (wl 203 a (eX g a M')) r := by
  refine MI_of (cc := cX5_fits) (maxL := 7) (rt := .int) (by decide) rfl (Nat.le_of_ble_eq_true rfl) ?_
  intro p e s m args below meth c ls hx hb hml hr hlk hts hown hK hP hl
  have hown : s.vm.findClass RX5 = some m.cls := hown
  have hl : lv_has ls 7 [(0, .ref (a 0)), (1, .int p1), (2, .int p2), (3, .int p3), (4, .int p4), (5, .int p5)] := hl
  have hS : va_S (aA 203 a s.heap.size) s.heap s.heap [] := va_S.rf
  have iX1 : ∀ w ∈ wsX10, w ∈ wsX5_fits := fun w h => List.mem_cons_of_mem _ (List.mem_append_left _ (List.mem_append_right _ h))
  have iX5 : ∀ w ∈ wsX50, w ∈ wsX5_fits := fun w h => List.mem_cons_of_mem _ (List.mem_append_left _ (List.mem_append_left _ (List.mem_append_right _ h)))
  have w73 := hts (.constant RX5 73 (-1000001)) (by decide +kernel)
  have w11 := hts (.fieldLink RX5 11 "StepRiders" "rows" "[LStepRiders$Row;") (by decide +kernel)
  have w85 := hts (.fieldLink RX5 85 "StepRiders$Row" "missing" "Z") (by decide +kernel)
  obtain ⟨Qz, hQz⟩ : ∃ Qz : State → Prop, Qz = MQ below (qI g (wl 203 a (eX g a M')) r (aA 203 a s.heap.size)) args s 0 0 (aA 203 a s.heap.size) := ⟨_, rfl⟩
  rw [← hQz]
  unfold fX5_fits at h
  refine lv_aload_n hx hb dX5_fits_0 rfl (lv_at hl 0 rfl) ?_
  refine lv_iload_n hx hb dX5_fits_1 rfl (lv_at hl 1 rfl) ?_
  obtain ⟨r1, e2, h⟩ := bdP_ok h
  refine r_callVi (As := [.int p1]) (rest := []) (ws' := (wl 203 a (eX g a M))) (ok_X5_noRider l g a hI p1 M r1 e2) ⟨hx, hb, hml, hown, hts⟩ (cwV 1 hts gX5_fits_X5_noRider rfl rfl rfl (by decide +kernel) ⟨Nat.le_of_ble_eq_true rfl, Nat.le_of_ble_eq_true rfl⟩) hK (r_recv hK hP 0 (by decide) eX_0 (show vwCl[5]? = some (RX5, TX5, 11) from rfl)) hS hP (fun _ hq => aA_mono hS.1 hq) (fun _ h _ => h) rfl hl.1 rfl (Nat.le_of_ble_eq_true rfl) dX5_fits_2 ⟨Nat.zero_le _, Nat.zero_le _⟩ (fun H locs hP hS => ?_)
  refine lv_if_ne (x := r1) (tgt := 36) hx hb dX5_fits_5 (by decide) (fun q3 => ?_) (fun q3 => ?_)
  · replace h := if_f q3 h
    refine lv_ldc (v := (-1000001)) hx hb hown w73 dX5_fits_36 ?_
    rw [hQz]
    exact r_iret (v := (-1000001)) hx hb hr hlk hS ((Prod.mk.inj (Option.some.inj h)).2 ▸ hP) (Prod.mk.inj (Option.some.inj h)).1 dX5_fits_38
  · replace h := if_t q3 h
    refine lv_iload_n hx hb dX5_fits_8 rfl (lv_at hl 2 rfl) ?_
    obtain ⟨r4, e5, h⟩ := bdP_ok h
    refine r_callSi (As := [.int p2]) (rest := []) (ws' := (wl 203 a (eX g a M))) (ok_X5_noRow l g p2 r4 e5) ⟨hx, hb, hml, hown, hts⟩ (cwS 1 hts gX5_fits_X5_noRow rfl rfl rfl (by decide +kernel) ⟨Nat.le_of_ble_eq_true rfl, Nat.le_of_ble_eq_true rfl⟩) hK hS nilP (P_A hS.1) (fun _ _ hk => wl_keep hP hk) rfl hl.1 rfl (Nat.le_of_ble_eq_true rfl) dX5_fits_9 ⟨Nat.zero_le _, Nat.zero_le _⟩ (fun H locs hP hS => ?_)
    refine lv_if_ne (x := r4) (tgt := 36) hx hb dX5_fits_12 (by decide) (fun q6 => ?_) (fun q6 => ?_)
    · replace h := if_f q6 h
      refine lv_ldc (v := (-1000001)) hx hb hown w73 dX5_fits_36 ?_
      rw [hQz]
      exact r_iret (v := (-1000001)) hx hb hr hlk hS ((Prod.mk.inj (Option.some.inj h)).2 ▸ hP) (Prod.mk.inj (Option.some.inj h)).1 dX5_fits_38
    · replace h := if_t q6 h
      refine lv_iload hx hb dX5_fits_15 (lv_at hl 4 rfl) ?_
      refine lv_iconst (v := 1) hx hb dX5_fits_17 (by decide) ?_
      refine lv_bipush (v := 12) hx hb dX5_fits_18 (by decide) ?_
      obtain ⟨r7, e8, h⟩ := bdP_ok h
      refine r_callSi (As := [.int p4, .int 1, .int 12]) (rest := []) (ws' := (wl 203 a (eX g a M))) (ok_X5_outside l g p4 1 12 r7 e8) ⟨hx, hb, hml, hown, hts⟩ (cwS 3 hts gX5_fits_X5_outside rfl rfl rfl (by decide +kernel) ⟨Nat.le_of_ble_eq_true rfl, Nat.le_of_ble_eq_true rfl⟩) hK hS nilP (P_A hS.1) (fun _ _ hk => wl_keep hP hk) rfl hl.1 rfl (Nat.le_of_ble_eq_true rfl) dX5_fits_20 ⟨Nat.zero_le _, Nat.zero_le _⟩ (fun H locs hP hS => ?_)
      refine lv_if_ne (x := r7) (tgt := 36) hx hb dX5_fits_23 (by decide) (fun q9 => ?_) (fun q9 => ?_)
      · replace h := if_f q9 h
        refine lv_ldc (v := (-1000001)) hx hb hown w73 dX5_fits_36 ?_
        rw [hQz]
        exact r_iret (v := (-1000001)) hx hb hr hlk hS ((Prod.mk.inj (Option.some.inj h)).2 ▸ hP) (Prod.mk.inj (Option.some.inj h)).1 dX5_fits_38
      · replace h := if_t q9 h
        refine lv_iload hx hb dX5_fits_26 (lv_at hl 5 rfl) ?_
        refine lv_iconst (v := 0) hx hb dX5_fits_28 (by decide) ?_
        refine lv_iconst (v := 3) hx hb dX5_fits_29 (by decide) ?_
        obtain ⟨r10, e11, h⟩ := bdP_ok h
        refine r_callSi (As := [.int p5, .int 0, .int 3]) (rest := []) (ws' := (wl 203 a (eX g a M))) (ok_X5_outside l g p5 0 3 r10 e11) ⟨hx, hb, hml, hown, hts⟩ (cwS 3 hts gX5_fits_X5_outside rfl rfl rfl (by decide +kernel) ⟨Nat.le_of_ble_eq_true rfl, Nat.le_of_ble_eq_true rfl⟩) hK hS nilP (P_A hS.1) (fun _ _ hk => wl_keep hP hk) rfl hl.1 rfl (Nat.le_of_ble_eq_true rfl) dX5_fits_30 ⟨Nat.zero_le _, Nat.zero_le _⟩ (fun H locs hP hS => ?_)
        refine lv_if_eq (x := r10) (tgt := 39) hx hb dX5_fits_33 (by decide) (fun q12 => ?_) (fun q12 => ?_)
        · replace h := if_t q12 h
          refine lv_aload_n hx hb dX5_fits_39 rfl (lv_at hl 0 rfl) ?_
          refine r_get (v := .ref (a 1)) hx hb hts iX5 hown hK hP 0 (by decide) eX_0 rfl 0 (by decide) w11 rfl dX5_fits_40 ?_
          refine lv_iload_n hx hb dX5_fits_43 rfl (lv_at hl 2 rfl) ?_
          obtain ⟨q13, h⟩ := chk_ok h
          refine r_rows (i := p2) hx hb hK hP q13 dX5_fits_44 ?_
          refine lv_astore (lv' := [(6, .ref (a (142 + 2 * (Int32.toNatClampNeg p2)))), (0, .ref (a 0)), (1, .int p1), (2, .int p2), (3, .int p3), (4, .int p4), (5, .int p5)]) hx hb dX5_fits_45 hl (by decide) rfl (fun ls hl => ?_)
          refine lv_aload hx hb dX5_fits_47 (lv_at hl 0 rfl) ?_
          refine r_get (v := .int (M (142 + 2 * (Int32.toNatClampNeg p2)) 1)) hx hb hts iX1 hown hK hP (142 + 2 * (Int32.toNatClampNeg p2)) (isRw_lt (rw_r _ (bIn_lt q13))) (eX_Row (rw_r _ (bIn_lt q13))) rfl 1 (by decide) w85 rfl dX5_fits_49 ?_
          refine lv_if_eq (x := (M (142 + 2 * (Int32.toNatClampNeg p2)) 1)) (tgt := 61) hx hb dX5_fits_52 (by decide) (fun q14 => ?_) (fun q14 => ?_)
          · replace h := if_t q14 h
            refine lv_aload hx hb dX5_fits_61 (lv_at hl 0 rfl) ?_
            refine lv_iload_n hx hb dX5_fits_63 rfl (lv_at hl 4 rfl) ?_
            refine lv_iload hx hb dX5_fits_64 (lv_at hl 5 rfl) ?_
            obtain ⟨r15, e16, h⟩ := bdP_ok h
            refine r_callVi (As := [.int p3, .int p4]) (rest := []) (ws' := (wl 203 a (eX g a M))) (ok_X1_holds l g a hI (142 + 2 * (Int32.toNatClampNeg p2)) p3 p4 M r15 (rw_r _ (bIn_lt q13)) e16) ⟨hx, hb, hml, hown, hts⟩ (cwV 2 hts gX5_fits_X1_holds rfl rfl rfl (by decide +kernel) ⟨Nat.le_of_ble_eq_true rfl, Nat.le_of_ble_eq_true rfl⟩) hK (r_recv hK hP (142 + 2 * (Int32.toNatClampNeg p2)) (isRw_lt (rw_r _ (bIn_lt q13))) (eX_Row (rw_r _ (bIn_lt q13))) (show vwCl[1]? = some (RX1, TX1, 4) from rfl)) hS hP (fun _ hq => aA_mono hS.1 hq) (fun _ h _ => h) rfl hl.1 rfl (Nat.le_of_ble_eq_true rfl) dX5_fits_66 ⟨Nat.zero_le _, Nat.zero_le _⟩ (fun H locs hP hS => ?_)
            refine lv_if_ne (x := r15) (tgt := 78) hx hb dX5_fits_69 (by decide) (fun q17 => ?_) (fun q17 => ?_)
            · replace h := if_f q17 h
              refine lv_iload hx hb dX5_fits_78 (lv_at hl 6 rfl) ?_
              by_cases q18 : p5 = 0
              · replace h := if_t q18 h
                refine lv_tableIn (x := p5) (tgt := 108) (off := 28) hx hb dX5_fits_80 (by rw [q18]; decide) (by rw [q18]; decide) (by rw [q18]; decide) (by decide) ?_
                refine lv_aload_n hx hb dX5_fits_108 rfl (lv_at hl 1 rfl) ?_
                refine lv_aload_n hx hb dX5_fits_109 rfl (lv_at hl 1 rfl) ?_
                refine lv_iload_n hx hb dX5_fits_110 rfl (lv_at hl 2 rfl) ?_
                refine lv_aload hx hb dX5_fits_111 (lv_at hl 0 rfl) ?_
                refine lv_iload_n hx hb dX5_fits_113 rfl (lv_at hl 4 rfl) ?_
                refine lv_iload hx hb dX5_fits_114 (lv_at hl 5 rfl) ?_
                obtain ⟨r19, M21, e20, h⟩ := bdI_ok h
                refine r_callVi (As := [.int p1, .ref (a (142 + 2 * (Int32.toNatClampNeg p2))), .int p3, .int p4]) (rest := [.ref (a 0)]) (ws' := (wl 203 a (eX g a M21))) (ok_X5_kindsThatFit l g a hI p1 (142 + 2 * (Int32.toNatClampNeg p2)) p3 p4 M M21 r19 (rw_r _ (bIn_lt q13)) e20) ⟨hx, hb, hml, hown, hts⟩ (cwV 4 hts gX5_fits_X5_kindsThatFit rfl rfl rfl (by decide +kernel) ⟨Nat.le_of_ble_eq_true rfl, Nat.le_of_ble_eq_true rfl⟩) hK (r_recv hK hP 0 (by decide) eX_0 (show vwCl[5]? = some (RX5, TX5, 11) from rfl)) hS hP (fun _ hq => aA_mono hS.1 hq) (fun _ h _ => h) rfl hl.1 rfl (Nat.le_of_ble_eq_true rfl) dX5_fits_116 ⟨Nat.zero_le _, Nat.zero_le _⟩ (fun H locs hP hS => ?_)
                obtain ⟨r22, M24, e23, h⟩ := bdI_ok h
                refine r_callVi (As := [.int r19]) (rest := []) (ws' := (wl 203 a (eX g a M24))) (ok_X5_fine l g a hI r19 M21 M24 r22 e23) ⟨hx, hb, hml, hown, hts⟩ (cwV 1 hts gX5_fits_X5_fine rfl rfl rfl (by decide +kernel) ⟨Nat.le_of_ble_eq_true rfl, Nat.le_of_ble_eq_true rfl⟩) hK (r_recv hK hP 0 (by decide) eX_0 (show vwCl[5]? = some (RX5, TX5, 11) from rfl)) hS hP (fun _ hq => aA_mono hS.1 hq) (fun _ h _ => h) rfl hl.1 rfl (Nat.le_of_ble_eq_true rfl) dX5_fits_119 ⟨Nat.zero_le _, Nat.zero_le _⟩ (fun H locs hP hS => ?_)
                rw [hQz]
                exact r_iret (v := r22) hx hb hr hlk hS ((Prod.mk.inj (Option.some.inj h)).2 ▸ hP) (Prod.mk.inj (Option.some.inj h)).1 dX5_fits_122
              replace h := if_f q18 h
              by_cases q25 : p5 = 1
              · replace h := if_t q25 h
                refine lv_tableIn (x := p5) (tgt := 123) (off := 43) hx hb dX5_fits_80 (by rw [q25]; decide) (by rw [q25]; decide) (by rw [q25]; decide) (by decide) ?_
                refine lv_aload_n hx hb dX5_fits_123 rfl (lv_at hl 1 rfl) ?_
                refine lv_aload_n hx hb dX5_fits_124 rfl (lv_at hl 1 rfl) ?_
                refine lv_iload_n hx hb dX5_fits_125 rfl (lv_at hl 2 rfl) ?_
                refine lv_aload hx hb dX5_fits_126 (lv_at hl 0 rfl) ?_
                refine lv_iload_n hx hb dX5_fits_128 rfl (lv_at hl 4 rfl) ?_
                refine lv_iload hx hb dX5_fits_129 (lv_at hl 5 rfl) ?_
                obtain ⟨r26, M28, e27, h⟩ := bdI_ok h
                refine r_callVi (As := [.int p1, .ref (a (142 + 2 * (Int32.toNatClampNeg p2))), .int p3, .int p4]) (rest := [.ref (a 0)]) (ws' := (wl 203 a (eX g a M28))) (ok_X5_lanesThatFit l g a hI p1 (142 + 2 * (Int32.toNatClampNeg p2)) p3 p4 M M28 r26 (rw_r _ (bIn_lt q13)) e27) ⟨hx, hb, hml, hown, hts⟩ (cwV 4 hts gX5_fits_X5_lanesThatFit rfl rfl rfl (by decide +kernel) ⟨Nat.le_of_ble_eq_true rfl, Nat.le_of_ble_eq_true rfl⟩) hK (r_recv hK hP 0 (by decide) eX_0 (show vwCl[5]? = some (RX5, TX5, 11) from rfl)) hS hP (fun _ hq => aA_mono hS.1 hq) (fun _ h _ => h) rfl hl.1 rfl (Nat.le_of_ble_eq_true rfl) dX5_fits_131 ⟨Nat.zero_le _, Nat.zero_le _⟩ (fun H locs hP hS => ?_)
                obtain ⟨r29, M31, e30, h⟩ := bdI_ok h
                refine r_callVi (As := [.int r26]) (rest := []) (ws' := (wl 203 a (eX g a M31))) (ok_X5_fine l g a hI r26 M28 M31 r29 e30) ⟨hx, hb, hml, hown, hts⟩ (cwV 1 hts gX5_fits_X5_fine rfl rfl rfl (by decide +kernel) ⟨Nat.le_of_ble_eq_true rfl, Nat.le_of_ble_eq_true rfl⟩) hK (r_recv hK hP 0 (by decide) eX_0 (show vwCl[5]? = some (RX5, TX5, 11) from rfl)) hS hP (fun _ hq => aA_mono hS.1 hq) (fun _ h _ => h) rfl hl.1 rfl (Nat.le_of_ble_eq_true rfl) dX5_fits_134 ⟨Nat.zero_le _, Nat.zero_le _⟩ (fun H locs hP hS => ?_)
                rw [hQz]
                exact r_iret (v := r29) hx hb hr hlk hS ((Prod.mk.inj (Option.some.inj h)).2 ▸ hP) (Prod.mk.inj (Option.some.inj h)).1 dX5_fits_137
              replace h := if_f q25 h
              by_cases q32 : p5 = 2
              · replace h := if_t q32 h
                refine lv_tableIn (x := p5) (tgt := 138) (off := 58) hx hb dX5_fits_80 (by rw [q32]; decide) (by rw [q32]; decide) (by rw [q32]; decide) (by decide) ?_
                refine lv_aload_n hx hb dX5_fits_138 rfl (lv_at hl 1 rfl) ?_
                refine lv_aload_n hx hb dX5_fits_139 rfl (lv_at hl 1 rfl) ?_
                refine lv_iload_n hx hb dX5_fits_140 rfl (lv_at hl 2 rfl) ?_
                refine lv_aload hx hb dX5_fits_141 (lv_at hl 0 rfl) ?_
                refine lv_iload_n hx hb dX5_fits_143 rfl (lv_at hl 4 rfl) ?_
                refine lv_iload hx hb dX5_fits_144 (lv_at hl 5 rfl) ?_
                obtain ⟨r33, M35, e34, h⟩ := bdI_ok h
                refine r_callVi (As := [.int p1, .ref (a (142 + 2 * (Int32.toNatClampNeg p2))), .int p3, .int p4]) (rest := [.ref (a 0)]) (ws' := (wl 203 a (eX g a M35))) (ok_X5_speedsThatFit l g a hI p1 (142 + 2 * (Int32.toNatClampNeg p2)) p3 p4 M M35 r33 (rw_r _ (bIn_lt q13)) e34) ⟨hx, hb, hml, hown, hts⟩ (cwV 4 hts gX5_fits_X5_speedsThatFit rfl rfl rfl (by decide +kernel) ⟨Nat.le_of_ble_eq_true rfl, Nat.le_of_ble_eq_true rfl⟩) hK (r_recv hK hP 0 (by decide) eX_0 (show vwCl[5]? = some (RX5, TX5, 11) from rfl)) hS hP (fun _ hq => aA_mono hS.1 hq) (fun _ h _ => h) rfl hl.1 rfl (Nat.le_of_ble_eq_true rfl) dX5_fits_146 ⟨Nat.zero_le _, Nat.zero_le _⟩ (fun H locs hP hS => ?_)
                obtain ⟨r36, M38, e37, h⟩ := bdI_ok h
                refine r_callVi (As := [.int r33]) (rest := []) (ws' := (wl 203 a (eX g a M38))) (ok_X5_fine l g a hI r33 M35 M38 r36 e37) ⟨hx, hb, hml, hown, hts⟩ (cwV 1 hts gX5_fits_X5_fine rfl rfl rfl (by decide +kernel) ⟨Nat.le_of_ble_eq_true rfl, Nat.le_of_ble_eq_true rfl⟩) hK (r_recv hK hP 0 (by decide) eX_0 (show vwCl[5]? = some (RX5, TX5, 11) from rfl)) hS hP (fun _ hq => aA_mono hS.1 hq) (fun _ h _ => h) rfl hl.1 rfl (Nat.le_of_ble_eq_true rfl) dX5_fits_149 ⟨Nat.zero_le _, Nat.zero_le _⟩ (fun H locs hP hS => ?_)
                rw [hQz]
                exact r_iret (v := r36) hx hb hr hlk hS ((Prod.mk.inj (Option.some.inj h)).2 ▸ hP) (Prod.mk.inj (Option.some.inj h)).1 dX5_fits_152
              replace h := if_f q32 h
              have tq18 := lv_neT q18 (show (0 : Int32).toInt = 0 from rfl)
              have tq25 := lv_neT q25 (show (1 : Int32).toInt = 1 from rfl)
              have tq32 := lv_neT q32 (show (2 : Int32).toInt = 2 from rfl)
              refine lv_tableOut (x := p5) (tgt := 153) hx hb dX5_fits_80 (by omega) (by decide) ?_
              refine lv_aload_n hx hb dX5_fits_153 rfl (lv_at hl 1 rfl) ?_
              refine lv_aload_n hx hb dX5_fits_154 rfl (lv_at hl 1 rfl) ?_
              refine lv_iload_n hx hb dX5_fits_155 rfl (lv_at hl 2 rfl) ?_
              refine lv_aload hx hb dX5_fits_156 (lv_at hl 0 rfl) ?_
              refine lv_iload_n hx hb dX5_fits_158 rfl (lv_at hl 4 rfl) ?_
              refine lv_iload hx hb dX5_fits_159 (lv_at hl 5 rfl) ?_
              obtain ⟨r39, M41, e40, h⟩ := bdI_ok h
              refine r_callVi (As := [.int p1, .ref (a (142 + 2 * (Int32.toNatClampNeg p2))), .int p3, .int p4]) (rest := [.ref (a 0)]) (ws' := (wl 203 a (eX g a M41))) (ok_X5_startsThatFit l g a hI p1 (142 + 2 * (Int32.toNatClampNeg p2)) p3 p4 M M41 r39 (rw_r _ (bIn_lt q13)) e40) ⟨hx, hb, hml, hown, hts⟩ (cwV 4 hts gX5_fits_X5_startsThatFit rfl rfl rfl (by decide +kernel) ⟨Nat.le_of_ble_eq_true rfl, Nat.le_of_ble_eq_true rfl⟩) hK (r_recv hK hP 0 (by decide) eX_0 (show vwCl[5]? = some (RX5, TX5, 11) from rfl)) hS hP (fun _ hq => aA_mono hS.1 hq) (fun _ h _ => h) rfl hl.1 rfl (Nat.le_of_ble_eq_true rfl) dX5_fits_161 ⟨Nat.zero_le _, Nat.zero_le _⟩ (fun H locs hP hS => ?_)
              obtain ⟨r42, M44, e43, h⟩ := bdI_ok h
              refine r_callVi (As := [.int r39]) (rest := []) (ws' := (wl 203 a (eX g a M44))) (ok_X5_fine l g a hI r39 M41 M44 r42 e43) ⟨hx, hb, hml, hown, hts⟩ (cwV 1 hts gX5_fits_X5_fine rfl rfl rfl (by decide +kernel) ⟨Nat.le_of_ble_eq_true rfl, Nat.le_of_ble_eq_true rfl⟩) hK (r_recv hK hP 0 (by decide) eX_0 (show vwCl[5]? = some (RX5, TX5, 11) from rfl)) hS hP (fun _ hq => aA_mono hS.1 hq) (fun _ h _ => h) rfl hl.1 rfl (Nat.le_of_ble_eq_true rfl) dX5_fits_164 ⟨Nat.zero_le _, Nat.zero_le _⟩ (fun H locs hP hS => ?_)
              rw [hQz]
              exact r_iret (v := r42) hx hb hr hlk hS ((Prod.mk.inj (Option.some.inj h)).2 ▸ hP) (Prod.mk.inj (Option.some.inj h)).1 dX5_fits_167
            · replace h := if_t q17 h
              refine lv_aload_n hx hb dX5_fits_72 rfl (lv_at hl 1 rfl) ?_
              refine lv_iconst (v := 2) hx hb dX5_fits_73 (by decide) ?_
              obtain ⟨r45, M47, e46, h⟩ := bdI_ok h
              refine r_callVi (As := [.int 2]) (rest := []) (ws' := (wl 203 a (eX g a M47))) (ok_X5_found l g a hI 2 M M47 r45 e46) ⟨hx, hb, hml, hown, hts⟩ (cwV 1 hts gX5_fits_X5_found rfl rfl rfl (by decide +kernel) ⟨Nat.le_of_ble_eq_true rfl, Nat.le_of_ble_eq_true rfl⟩) hK (r_recv hK hP 0 (by decide) eX_0 (show vwCl[5]? = some (RX5, TX5, 11) from rfl)) hS hP (fun _ hq => aA_mono hS.1 hq) (fun _ h _ => h) rfl hl.1 rfl (Nat.le_of_ble_eq_true rfl) dX5_fits_74 ⟨Nat.zero_le _, Nat.zero_le _⟩ (fun H locs hP hS => ?_)
              rw [hQz]
              exact r_iret (v := r45) hx hb hr hlk hS ((Prod.mk.inj (Option.some.inj h)).2 ▸ hP) (Prod.mk.inj (Option.some.inj h)).1 dX5_fits_77
          · replace h := if_f q14 h
            refine lv_aload_n hx hb dX5_fits_55 rfl (lv_at hl 1 rfl) ?_
            refine lv_iconst (v := 1) hx hb dX5_fits_56 (by decide) ?_
            obtain ⟨r48, M50, e49, h⟩ := bdI_ok h
            refine r_callVi (As := [.int 1]) (rest := []) (ws' := (wl 203 a (eX g a M50))) (ok_X5_found l g a hI 1 M M50 r48 e49) ⟨hx, hb, hml, hown, hts⟩ (cwV 1 hts gX5_fits_X5_found rfl rfl rfl (by decide +kernel) ⟨Nat.le_of_ble_eq_true rfl, Nat.le_of_ble_eq_true rfl⟩) hK (r_recv hK hP 0 (by decide) eX_0 (show vwCl[5]? = some (RX5, TX5, 11) from rfl)) hS hP (fun _ hq => aA_mono hS.1 hq) (fun _ h _ => h) rfl hl.1 rfl (Nat.le_of_ble_eq_true rfl) dX5_fits_57 ⟨Nat.zero_le _, Nat.zero_le _⟩ (fun H locs hP hS => ?_)
            rw [hQz]
            exact r_iret (v := r48) hx hb hr hlk hS ((Prod.mk.inj (Option.some.inj h)).2 ▸ hP) (Prod.mk.inj (Option.some.inj h)).1 dX5_fits_60
        · replace h := if_f q12 h
          refine lv_ldc (v := (-1000001)) hx hb hown w73 dX5_fits_36 ?_
          rw [hQz]
          exact r_iret (v := (-1000001)) hx hb hr hlk hS ((Prod.mk.inj (Option.some.inj h)).2 ▸ hP) (Prod.mk.inj (Option.some.inj h)).1 dX5_fits_38
def rmX5_greatestDivisor : Room := { frames := 1, cells := 0, slots := 0, locals := 60 }
set_option maxHeartbeats 4000000 in
set_option maxRecDepth 100000 in
theorem ok_X5_greatestDivisor (l : Launch) (g : gT) (p0 : Int32) (p1 : Int32) (r : Int32) (h : fX5_greatestDivisor p0 p1 = some r) : MI l yX5_greatestDivisor wsX5_greatestDivisor rmX5_greatestDivisor g 0 (fun _ => 0) [.int p0, .int p1] ([] : va_W) ([] : va_W) r := by
  refine MI_of (cc := cX5_greatestDivisor) (maxL := 6) (rt := .int) (by decide) rfl (Nat.le_of_ble_eq_true rfl) ?_
  intro p e s m args below meth c ls hx hb hml hr hlk hts hown hK hP hl
  have hown : s.vm.findClass RX5 = some m.cls := hown
  have hl : lv_has ls 6 [(0, .int p0), (1, .int p1)] := hl
  have hS : va_S (aA 0 (fun _ => 0) s.heap.size) s.heap s.heap [] := va_S.rf
  have w278 := hts (.methodLink RX5 278 Lib.Math.max.name) (by decide +kernel)
  have wsMmax := hts (.static Lib.Math.max.name) (by decide +kernel)
  have wcMmax := hts (.code Lib.Math.max.name Lib.Math.max.code 2 (some .int)) (by decide +kernel)
  have wiMath := hts (.initialized "java/lang/Math") (by decide +kernel)
  obtain ⟨Qz, hQz⟩ : ∃ Qz : State → Prop, Qz = MQ below (qI g ([] : va_W) r (aA 0 (fun _ => 0) s.heap.size)) args s 0 0 (aA 0 (fun _ => 0) s.heap.size) := ⟨_, rfl⟩
  rw [← hQz]
  have B7 : ∀ (k7 : Int32 → Int32 → Int32 → Option (Int32)) (C7 : ∀ (x2 : Int32) (x3 : Int32) (x4 : Int32) (H : Heap) (locs : List Loc) (ls : Array Slot), k7 x2 x3 x4 = some r → va_P g.1 vwCl ([] : va_W) H → va_S (aA 0 (fun _ => 0) s.heap.size) s.heap H locs → lv_has ls 6 [(0, .int p0), (1, .int p1), (2, .int x2), (3, .int x3), (4, .int x4)] → W p l e rmX5_greatestDivisor s m args below meth c H locs 0 0 Qz (F0 m 7 ls [])), ∀ (x2 : Int32) (x3 : Int32) (x4 : Int32) (H : Heap) (locs : List Loc) (ls : Array Slot), fX5_greatestDivisor_b7 p0 p1 k7 x2 x3 x4 = some r → va_P g.1 vwCl ([] : va_W) H → va_S (aA 0 (fun _ => 0) s.heap.size) s.heap H locs → lv_has ls 6 [(0, .int p0), (1, .int p1), (2, .int x2), (3, .int x3), (4, .int x4)] → W p l e rmX5_greatestDivisor s m args below meth c H locs 0 0 Qz (F0 m 7 ls []) := by
    intro k7 C7 x2 x3 x4 H locs ls h hP hS hl
    unfold fX5_greatestDivisor_b7 at h
    refine lv_iload hx hb dX5_greatestDivisor_7 (lv_at hl 4 rfl) ?_
    refine lv_bipush (v := 100) hx hb dX5_greatestDivisor_9 (by decide) ?_
    refine lv_icmp_ge (x := x4) (y := 100) (tgt := 34) hx hb dX5_greatestDivisor_11 (by decide) (fun q1 => ?_) (fun q1 => ?_)
    · replace h := if_t q1 h
      refine lv_iload_n hx hb dX5_greatestDivisor_34 rfl (lv_at hl 2 rfl) ?_
      refine lv_iconst (v := 1) hx hb dX5_greatestDivisor_35 (by decide) ?_
      refine va_mmax (x := x2) (y := 1) hx hb (hml.trans hl.1.symm) hown w278 wsMmax wiMath wcMmax (Nat.le_of_ble_eq_true rfl) (Nat.le_of_ble_eq_true rfl) (Nat.zero_le _) (Nat.zero_le _) dX5_greatestDivisor_36 ?_
      rw [hQz]
      exact r_iret (v := (if x2 < 1 then 1 else x2)) hx hb hr hlk hS hP (Option.some.inj h) dX5_greatestDivisor_39
    · replace h := if_f q1 h
      refine lv_iload_n hx hb dX5_greatestDivisor_14 rfl (lv_at hl 3 rfl) ?_
      refine lv_if_eq (x := x3) (tgt := 34) hx hb dX5_greatestDivisor_15 (by decide) (fun q2 => ?_) (fun q2 => ?_)
      · replace h := if_t q2 h
        refine lv_iload_n hx hb dX5_greatestDivisor_34 rfl (lv_at hl 2 rfl) ?_
        refine lv_iconst (v := 1) hx hb dX5_greatestDivisor_35 (by decide) ?_
        refine va_mmax (x := x2) (y := 1) hx hb (hml.trans hl.1.symm) hown w278 wsMmax wiMath wcMmax (Nat.le_of_ble_eq_true rfl) (Nat.le_of_ble_eq_true rfl) (Nat.zero_le _) (Nat.zero_le _) dX5_greatestDivisor_36 ?_
        rw [hQz]
        exact r_iret (v := (if x2 < 1 then 1 else x2)) hx hb hr hlk hS hP (Option.some.inj h) dX5_greatestDivisor_39
      · replace h := if_f q2 h
        refine lv_iload_n hx hb dX5_greatestDivisor_18 rfl (lv_at hl 2 rfl) ?_
        refine lv_iload_n hx hb dX5_greatestDivisor_19 rfl (lv_at hl 3 rfl) ?_
        obtain ⟨q3, h⟩ := chk_ok h
        refine lv_irem (x := x2) (y := x3) hx hb dX5_greatestDivisor_20 (of_decide_eq_true q3) ?_
        refine lv_istore (lv' := [(5, .int (x2 - x2 / x3 * x3)), (0, .int p0), (1, .int p1), (2, .int x2), (3, .int x3), (4, .int x4)]) hx hb dX5_greatestDivisor_21 hl (by decide) rfl (fun ls hl => ?_)
        refine lv_iload_n hx hb dX5_greatestDivisor_23 rfl (lv_at hl 4 rfl) ?_
        refine lv_istore_n (lv' := [(2, .int x3), (5, .int (x2 - x2 / x3 * x3)), (0, .int p0), (1, .int p1), (3, .int x3), (4, .int x4)]) hx hb dX5_greatestDivisor_24 rfl hl (by decide) rfl (fun ls hl => ?_)
        refine lv_iload hx hb dX5_greatestDivisor_25 (lv_at hl 1 rfl) ?_
        refine lv_istore_n (lv' := [(3, .int (x2 - x2 / x3 * x3)), (2, .int x3), (5, .int (x2 - x2 / x3 * x3)), (0, .int p0), (1, .int p1), (4, .int x4)]) hx hb dX5_greatestDivisor_27 rfl hl (by decide) rfl (fun ls hl => ?_)
        refine lv_iinc (v := (x4 + 1)) (lv' := [(4, .int (x4 + 1)), (3, .int (x2 - x2 / x3 * x3)), (2, .int x3), (5, .int (x2 - x2 / x3 * x3)), (0, .int p0), (1, .int p1)]) hx hb dX5_greatestDivisor_28 hl (k := 5) rfl rfl (by decide) rfl (fun ls hl => ?_)
        refine lv_goto (tgt := 7) hx hb dX5_greatestDivisor_31 (by decide) ?_
        exact C7 x3 (x2 - x2 / x3 * x3) (x4 + 1) _ _ _ h hP hS (lv_sub hl [4, 5, 2, 1, 0] rfl)
  have L7 : ∀ (n : Nat), ∀ (x2 : Int32) (x3 : Int32) (x4 : Int32) (H : Heap) (locs : List Loc) (ls : Array Slot), fX5_greatestDivisor_l7 p0 p1 n x2 x3 x4 = some r → va_P g.1 vwCl ([] : va_W) H → va_S (aA 0 (fun _ => 0) s.heap.size) s.heap H locs → lv_has ls 6 [(0, .int p0), (1, .int p1), (2, .int x2), (3, .int x3), (4, .int x4)] → W p l e rmX5_greatestDivisor s m args below meth c H locs 0 0 Qz (F0 m 7 ls []) := by
    intro n
    induction n with
    | zero => intro x2 x3 x4 H locs ls h; exact absurd (show (none : Option (Int32)) = some _ from h) (fun z => by cases z)
    | succ n ih => exact fun x2 x3 x4 H locs ls h hP hS hl => B7 (fX5_greatestDivisor_l7 p0 p1 n) ih x2 x3 x4 H locs ls h hP hS hl
  unfold fX5_greatestDivisor at h
  refine lv_iload_n hx hb dX5_greatestDivisor_0 rfl (lv_at hl 0 rfl) ?_
  refine lv_istore_n (lv' := [(2, .int p0), (0, .int p0), (1, .int p1)]) hx hb dX5_greatestDivisor_1 rfl hl (by decide) rfl (fun ls hl => ?_)
  refine lv_iload_n hx hb dX5_greatestDivisor_2 rfl (lv_at hl 2 rfl) ?_
  refine lv_istore_n (lv' := [(3, .int p1), (2, .int p0), (0, .int p0), (1, .int p1)]) hx hb dX5_greatestDivisor_3 rfl hl (by decide) rfl (fun ls hl => ?_)
  refine lv_iconst (v := 0) hx hb dX5_greatestDivisor_4 (by decide) ?_
  refine lv_istore (lv' := [(4, .int 0), (3, .int p1), (2, .int p0), (0, .int p0), (1, .int p1)]) hx hb dX5_greatestDivisor_5 hl (by decide) rfl (fun ls hl => ?_)
  exact L7 FU p0 p1 0 _ _ _ h hP hS (lv_sub hl [3, 4, 2, 1, 0] rfl)
def rmX5_absent : Room := { frames := 6, cells := 0, slots := 0, locals := 175 }
set_option maxHeartbeats 4000000 in
set_option maxRecDepth 100000 in
theorem ok_X5_absent (l : Launch) (g : gT) (a : Nat → Nat) (hI : ij 203 a) (p1 : Int32) (p2 : Int32) (p3 : Int32) (p4 : Int32) (M : Mem) (M' : Mem) (r : Int32) (h : fX5_absent p1 p2 p3 p4 M = some (r, M')) : MI l yX5_absent wsX5_absent rmX5_absent g 203 a [.ref (a 0), .int p1, .int p2, .int p3, .int p4] (wl 203 a (eX g a M)) (wl 203 a (eX g a M')) r := by
  refine MI_of (cc := cX5_absent) (maxL := 11) (rt := .int) (by decide) rfl (Nat.le_of_ble_eq_true rfl) ?_
  intro p e s m args below meth c ls hx hb hml hr hlk hts hown hK hP hl
  have hown : s.vm.findClass RX5 = some m.cls := hown
  have hl : lv_has ls 11 [(0, .ref (a 0)), (1, .int p1), (2, .int p2), (3, .int p3), (4, .int p4)] := hl
  have hS : va_S (aA 203 a s.heap.size) s.heap s.heap [] := va_S.rf
  have iX5 : ∀ w ∈ wsX50, w ∈ wsX5_absent := fun w h => List.mem_cons_of_mem _ (List.mem_append_left _ (List.mem_append_right _ h))
  have w47 := hts (.fieldLink RX5 47 "StepRiders" "trial" "LStepRiders$Stair;") (by decide +kernel)
  have w25 := hts (.fieldLink RX5 25 "StepRiders" "now" "LStepRiders$Stair;") (by decide +kernel)
  have w121 := hts (.constant RX5 121 (-1000000)) (by decide +kernel)
  have w73 := hts (.constant RX5 73 (-1000001)) (by decide +kernel)
  obtain ⟨Qz, hQz⟩ : ∃ Qz : State → Prop, Qz = MQ below (qI g (wl 203 a (eX g a M')) r (aA 203 a s.heap.size)) args s 0 0 (aA 203 a s.heap.size) := ⟨_, rfl⟩
  rw [← hQz]
  have B163 : ∀ (x6 : Int32) (x7 : Int32) (M : Mem) (H : Heap) (locs : List Loc) (ls : Array Slot), fX5_absent_b163 p1 p2 p3 p4 x6 x7 M = some (r, M') → va_P g.1 vwCl (wl 203 a (eX g a M)) H → va_S (aA 203 a s.heap.size) s.heap H locs → lv_has ls 11 [(0, .ref (a 0)), (1, .int p1), (2, .int p2), (3, .int p3), (4, .int p4), (6, .int x6), (7, .int x7)] → W p l e rmX5_absent s m args below meth c H locs 0 0 Qz (F0 m 163 ls []) := by
    intro x6 x7 M H locs ls h hP hS hl
    unfold fX5_absent_b163 at h
    refine lv_bipush (v := 10) hx hb dX5_absent_163 (by decide) ?_
    refine lv_iload hx hb dX5_absent_165 (lv_at hl 5 rfl) ?_
    obtain ⟨r1, e2, h⟩ := bdP_ok h
    refine r_callSi (As := [.int 10, .int x6]) (rest := []) (ws' := (wl 203 a (eX g a M))) (ok_X5_power l g 10 x6 r1 e2) ⟨hx, hb, hml, hown, hts⟩ (cwS 2 hts gX5_absent_X5_power rfl rfl rfl (by decide +kernel) ⟨Nat.le_of_ble_eq_true rfl, Nat.le_of_ble_eq_true rfl⟩) hK hS nilP (P_A hS.1) (fun _ _ hk => wl_keep hP hk) rfl hl.1 rfl (Nat.le_of_ble_eq_true rfl) dX5_absent_167 ⟨Nat.zero_le _, Nat.zero_le _⟩ (fun H locs hP hS => ?_)
    refine lv_istore (lv' := [(9, .int r1), (0, .ref (a 0)), (1, .int p1), (2, .int p2), (3, .int p3), (4, .int p4), (6, .int x6), (7, .int x7)]) hx hb dX5_absent_170 hl (by decide) rfl (fun ls hl => ?_)
    refine lv_iload hx hb dX5_absent_172 (lv_at hl 7 rfl) ?_
    refine lv_iload hx hb dX5_absent_174 (lv_at hl 0 rfl) ?_
    obtain ⟨r3, e4, h⟩ := bdP_ok h
    refine r_callSi (As := [.int x7, .int r1]) (rest := []) (ws' := (wl 203 a (eX g a M))) (ok_X5_greatestDivisor l g x7 r1 r3 e4) ⟨hx, hb, hml, hown, hts⟩ (cwS 2 hts gX5_absent_X5_greatestDivisor rfl rfl rfl (by decide +kernel) ⟨Nat.le_of_ble_eq_true rfl, Nat.le_of_ble_eq_true rfl⟩) hK hS nilP (P_A hS.1) (fun _ _ hk => wl_keep hP hk) rfl hl.1 rfl (Nat.le_of_ble_eq_true rfl) dX5_absent_176 ⟨Nat.zero_le _, Nat.zero_le _⟩ (fun H locs hP hS => ?_)
    refine lv_istore (lv' := [(10, .int r3), (9, .int r1), (0, .ref (a 0)), (1, .int p1), (2, .int p2), (3, .int p3), (4, .int p4), (6, .int x6), (7, .int x7)]) hx hb dX5_absent_179 hl (by decide) rfl (fun ls hl => ?_)
    refine lv_iload hx hb dX5_absent_181 (lv_at hl 6 rfl) ?_
    refine lv_if_ne (x := p4) (tgt := 194) hx hb dX5_absent_183 (by decide) (fun q5 => ?_) (fun q5 => ?_)
    · replace h := if_f q5 h
      refine lv_iload hx hb dX5_absent_194 (lv_at hl 1 rfl) ?_
      refine lv_iload hx hb dX5_absent_196 (lv_at hl 0 rfl) ?_
      obtain ⟨q6, h⟩ := chk_ok h
      refine lv_idiv (x := r1) (y := r3) hx hb dX5_absent_198 (of_decide_eq_true q6) ?_
      rw [hQz]
      exact r_iret (v := (r1 / r3)) hx hb hr hlk hS ((Prod.mk.inj (Option.some.inj h)).2 ▸ hP) (Prod.mk.inj (Option.some.inj h)).1 dX5_absent_199
    · replace h := if_t q5 h
      refine lv_iload hx hb dX5_absent_186 (lv_at hl 8 rfl) ?_
      refine lv_iload hx hb dX5_absent_188 (lv_at hl 0 rfl) ?_
      obtain ⟨q7, h⟩ := chk_ok h
      refine lv_idiv (x := x7) (y := r3) hx hb dX5_absent_190 (of_decide_eq_true q7) ?_
      refine lv_goto (tgt := 199) hx hb dX5_absent_191 (by decide) ?_
      rw [hQz]
      exact r_iret (v := (x7 / r3)) hx hb hr hlk hS ((Prod.mk.inj (Option.some.inj h)).2 ▸ hP) (Prod.mk.inj (Option.some.inj h)).1 dX5_absent_199
  have B154 : ∀ (x6 : Int32) (x7 : Int32) (M : Mem) (H : Heap) (locs : List Loc) (ls : Array Slot), fX5_absent_b154 p1 p2 p3 p4 x6 x7 M = some (r, M') → va_P g.1 vwCl (wl 203 a (eX g a M)) H → va_S (aA 203 a s.heap.size) s.heap H locs → lv_has ls 11 [(0, .ref (a 0)), (1, .int p1), (2, .int p2), (3, .int p3), (4, .int p4), (6, .int x6), (7, .int x7)] → W p l e rmX5_absent s m args below meth c H locs 0 0 Qz (F0 m 154 ls []) := by
    intro x6 x7 M H locs ls h hP hS hl
    unfold fX5_absent_b154 at h
    refine lv_goto (tgt := 163) hx hb dX5_absent_154 (by decide) ?_
    exact B163 x6 x7 M _ _ _ h hP hS (lv_sub hl [0, 1, 2, 3, 4, 5, 6] rfl)
  have B140 : ∀ (k67 : Int32 → Int32 → Int32 → Int32 → Int32 → Mem → Option (Int32 × Mem)) (C67 : ∀ (x5 : Int32) (x6 : Int32) (x7 : Int32) (x8 : Int32) (x9 : Int32) (M : Mem) (H : Heap) (locs : List Loc) (ls : Array Slot), k67 x5 x6 x7 x8 x9 M = some (r, M') → va_P g.1 vwCl (wl 203 a (eX g a M)) H → va_S (aA 203 a s.heap.size) s.heap H locs → lv_has ls 11 [(0, .ref (a 0)), (1, .int p1), (2, .int p2), (3, .int p3), (4, .int p4), (5, .int x5), (6, .int x6), (7, .int x7), (8, .int x8), (9, .int x9)] → W p l e rmX5_absent s m args below meth c H locs 0 0 Qz (F0 m 67 ls [])), ∀ (x5 : Int32) (x6 : Int32) (x7 : Int32) (x8 : Int32) (x9 : Int32) (M : Mem) (H : Heap) (locs : List Loc) (ls : Array Slot), fX5_absent_b140 p1 p2 p3 p4 k67 x5 x6 x7 x8 x9 M = some (r, M') → va_P g.1 vwCl (wl 203 a (eX g a M)) H → va_S (aA 203 a s.heap.size) s.heap H locs → lv_has ls 11 [(0, .ref (a 0)), (1, .int p1), (2, .int p2), (3, .int p3), (4, .int p4), (5, .int x5), (6, .int x6), (7, .int x7), (8, .int x8), (9, .int x9)] → W p l e rmX5_absent s m args below meth c H locs 0 0 Qz (F0 m 140 ls []) := by
    intro k67 C67 x5 x6 x7 x8 x9 M H locs ls h hP hS hl
    unfold fX5_absent_b140 at h
    refine lv_iload hx hb dX5_absent_140 (lv_at hl 8 rfl) ?_
    refine lv_iload hx hb dX5_absent_142 (lv_at hl 5 rfl) ?_
    obtain ⟨r1, e2, h⟩ := bdP_ok h
    refine r_callSi (As := [.int x8, .int x5]) (rest := []) (ws' := (wl 203 a (eX g a M))) (ok_X5_nextSubset l g x8 x5 r1 e2) ⟨hx, hb, hml, hown, hts⟩ (cwS 2 hts gX5_absent_X5_nextSubset rfl rfl rfl (by decide +kernel) ⟨Nat.le_of_ble_eq_true rfl, Nat.le_of_ble_eq_true rfl⟩) hK hS nilP (P_A hS.1) (fun _ _ hk => wl_keep hP hk) rfl hl.1 rfl (Nat.le_of_ble_eq_true rfl) dX5_absent_144 ⟨Nat.zero_le _, Nat.zero_le _⟩ (fun H locs hP hS => ?_)
    refine lv_istore (lv' := [(8, .int r1), (0, .ref (a 0)), (1, .int p1), (2, .int p2), (3, .int p3), (4, .int p4), (5, .int x5), (6, .int x6), (7, .int x7), (9, .int x9)]) hx hb dX5_absent_147 hl (by decide) rfl (fun ls hl => ?_)
    refine lv_iload hx hb dX5_absent_149 (lv_at hl 0 rfl) ?_
    refine lv_if_ne (x := r1) (tgt := 157) hx hb dX5_absent_151 (by decide) (fun q3 => ?_) (fun q3 => ?_)
    · replace h := if_f q3 h
      refine lv_iinc (v := (x9 + 1)) (lv' := [(9, .int (x9 + 1)), (8, .int r1), (0, .ref (a 0)), (1, .int p1), (2, .int p2), (3, .int p3), (4, .int p4), (5, .int x5), (6, .int x6), (7, .int x7)]) hx hb dX5_absent_157 hl (k := 9) rfl rfl (by decide) rfl (fun ls hl => ?_)
      refine lv_goto (tgt := 67) hx hb dX5_absent_160 (by decide) ?_
      exact C67 x5 x6 x7 r1 (x9 + 1) M _ _ _ h hP hS (lv_sub hl [2, 3, 4, 5, 6, 7, 8, 9, 1, 0] rfl)
    · replace h := if_t q3 h
      exact B154 x6 x7 M _ _ _ h hP hS (lv_sub hl [1, 2, 3, 4, 5, 7, 8] rfl)
  have B67 : ∀ (k67 : Int32 → Int32 → Int32 → Int32 → Int32 → Mem → Option (Int32 × Mem)) (C67 : ∀ (x5 : Int32) (x6 : Int32) (x7 : Int32) (x8 : Int32) (x9 : Int32) (M : Mem) (H : Heap) (locs : List Loc) (ls : Array Slot), k67 x5 x6 x7 x8 x9 M = some (r, M') → va_P g.1 vwCl (wl 203 a (eX g a M)) H → va_S (aA 203 a s.heap.size) s.heap H locs → lv_has ls 11 [(0, .ref (a 0)), (1, .int p1), (2, .int p2), (3, .int p3), (4, .int p4), (5, .int x5), (6, .int x6), (7, .int x7), (8, .int x8), (9, .int x9)] → W p l e rmX5_absent s m args below meth c H locs 0 0 Qz (F0 m 67 ls [])), ∀ (x5 : Int32) (x6 : Int32) (x7 : Int32) (x8 : Int32) (x9 : Int32) (M : Mem) (H : Heap) (locs : List Loc) (ls : Array Slot), fX5_absent_b67 p1 p2 p3 p4 k67 x5 x6 x7 x8 x9 M = some (r, M') → va_P g.1 vwCl (wl 203 a (eX g a M)) H → va_S (aA 203 a s.heap.size) s.heap H locs → lv_has ls 11 [(0, .ref (a 0)), (1, .int p1), (2, .int p2), (3, .int p3), (4, .int p4), (5, .int x5), (6, .int x6), (7, .int x7), (8, .int x8), (9, .int x9)] → W p l e rmX5_absent s m args below meth c H locs 0 0 Qz (F0 m 67 ls []) := by
    intro k67 C67 x5 x6 x7 x8 x9 M H locs ls h hP hS hl
    unfold fX5_absent_b67 at h
    refine lv_iload hx hb dX5_absent_67 (lv_at hl 9 rfl) ?_
    refine lv_sipush (v := 128) hx hb dX5_absent_69 (by decide) ?_
    refine lv_icmp_ge (x := x9) (y := 128) (tgt := 163) hx hb dX5_absent_72 (by decide) (fun q1 => ?_) (fun q1 => ?_)
    · replace h := if_t q1 h
      exact B163 x6 x7 M _ _ _ h hP hS (lv_sub hl [0, 1, 2, 3, 4, 6, 7] rfl)
    · replace h := if_f q1 h
      refine lv_aload_n hx hb dX5_absent_75 rfl (lv_at hl 0 rfl) ?_
      refine r_get (v := .ref (a 134)) hx hb hts iX5 hown hK hP 0 (by decide) eX_0 rfl 6 (by decide) w47 rfl dX5_absent_76 ?_
      refine lv_aload_n hx hb dX5_absent_79 rfl (lv_at hl 0 rfl) ?_
      refine r_get (v := .ref (a 4)) hx hb hts iX5 hown hK hP 0 (by decide) eX_0 rfl 2 (by decide) w25 rfl dX5_absent_80 ?_
      obtain ⟨M4, e3, h⟩ := bdV_ok h
      refine r_callVv (As := [.ref (a 4)]) (rest := []) (ws' := (wl 203 a (eX g a M4))) (ok_X2_become l g a hI 134 4 M M4 (by decide) (by decide) e3) ⟨hx, hb, hml, hown, hts⟩ (cwV 1 hts gX5_absent_X2_become rfl rfl rfl (by decide +kernel) ⟨Nat.le_of_ble_eq_true rfl, Nat.le_of_ble_eq_true rfl⟩) hK (r_recv hK hP 134 (isSt_lt (c := 134) (by decide) 0 (by decide)) (eX_Stair (c := 134) (by decide)) (show vwCl[2]? = some (RX2, TX2, 8) from rfl)) hS hP (fun _ hq => aA_mono hS.1 hq) (fun _ h _ => h) rfl hl.1 rfl (Nat.le_of_ble_eq_true rfl) dX5_absent_83 ⟨Nat.zero_le _, Nat.zero_le _⟩ (fun H locs hP hS => ?_)
      refine lv_aload_n hx hb dX5_absent_86 rfl (lv_at hl 0 rfl) ?_
      refine r_get (v := .ref (a 134)) hx hb hts iX5 hown hK hP 0 (by decide) eX_0 rfl 6 (by decide) w47 rfl dX5_absent_87 ?_
      refine lv_iload hx hb dX5_absent_90 (lv_at hl 8 rfl) ?_
      obtain ⟨M7, e6, h⟩ := bdV_ok h
      refine r_callVv (As := [.int x8]) (rest := []) (ws' := (wl 203 a (eX g a (pS M4 134 M7)))) (ok_X2_takeOff l g (gA a 134) (gA_ij (c := 134) (by decide) hI) x8 (gS M4 134) M7 e6) ⟨hx, hb, hml, hown, hts⟩ (cwV 1 hts gX5_absent_X2_takeOff rfl rfl rfl (by decide +kernel) ⟨Nat.le_of_ble_eq_true rfl, Nat.le_of_ble_eq_true rfl⟩) hK (r_recv hK hP 134 (isSt_lt (c := 134) (by decide) 0 (by decide)) (eX_Stair (c := 134) (by decide)) (show vwCl[2]? = some (RX2, TX2, 8) from rfl)) hS (S_cut (c := 134) (by decide) hP) (S_A (c := 134) (by decide) hS.1) (S_join (c := 134) (by decide) hI hP) rfl hl.1 rfl (Nat.le_of_ble_eq_true rfl) dX5_absent_92 ⟨Nat.zero_le _, Nat.zero_le _⟩ (fun H locs hP hS => ?_)
      refine lv_aload_n hx hb dX5_absent_95 rfl (lv_at hl 0 rfl) ?_
      refine r_get (v := .ref (a 134)) hx hb hts iX5 hown hK hP 0 (by decide) eX_0 rfl 6 (by decide) w47 rfl dX5_absent_96 ?_
      refine lv_iload_n hx hb dX5_absent_99 rfl (lv_at hl 1 rfl) ?_
      refine lv_iload_n hx hb dX5_absent_100 rfl (lv_at hl 2 rfl) ?_
      obtain ⟨r8, M10, e9, h⟩ := bdI_ok h
      refine r_callVi (As := [.int p1, .int p2]) (rest := []) (ws' := (wl 203 a (eX g a (pS (pS M4 134 M7) 134 M10)))) (ok_X2_passUntilOff l g (gA a 134) (gA_ij (c := 134) (by decide) hI) p1 p2 (gS (pS M4 134 M7) 134) M10 r8 e9) ⟨hx, hb, hml, hown, hts⟩ (cwV 2 hts gX5_absent_X2_passUntilOff rfl rfl rfl (by decide +kernel) ⟨Nat.le_of_ble_eq_true rfl, Nat.le_of_ble_eq_true rfl⟩) hK (r_recv hK hP 134 (isSt_lt (c := 134) (by decide) 0 (by decide)) (eX_Stair (c := 134) (by decide)) (show vwCl[2]? = some (RX2, TX2, 8) from rfl)) hS (S_cut (c := 134) (by decide) hP) (S_A (c := 134) (by decide) hS.1) (S_join (c := 134) (by decide) hI hP) rfl hl.1 rfl (Nat.le_of_ble_eq_true rfl) dX5_absent_101 ⟨Nat.zero_le _, Nat.zero_le _⟩ (fun H locs hP hS => ?_)
      refine lv_ldc (v := (-1000000)) hx hb hown w121 dX5_absent_104 ?_
      refine lv_icmp_eq (x := r8) (y := (-1000000)) (tgt := 140) hx hb dX5_absent_106 (by decide) (fun q11 => ?_) (fun q11 => ?_)
      · replace h := if_t q11 h
        exact B140 k67 C67 x5 x6 x7 x8 x9 (pS (pS M4 134 M7) 134 M10) _ _ _ h hP hS (lv_sub hl [0, 1, 2, 3, 4, 5, 6, 7, 8, 9] rfl)
      · replace h := if_f q11 h
        refine lv_iload hx hb dX5_absent_109 (lv_at hl 8 rfl) ?_
        obtain ⟨r12, e13, h⟩ := bdP_ok h
        refine r_callSi (As := [.int x8]) (rest := []) (ws' := (wl 203 a (eX g a (pS (pS M4 134 M7) 134 M10)))) (ok_J6_bitCount_0f7a4 l g x8 r12 e13) ⟨hx, hb, hml, hown, hts⟩ (va_cwS 1 hts gX5_absent_J6_bitCount_0f7a4 rfl rfl rfl (by decide +kernel) ⟨Nat.le_of_ble_eq_true rfl, Nat.le_of_ble_eq_true rfl⟩) hK hS nilP (P_A hS.1) (fun _ _ hk => wl_keep hP hk) rfl hl.1 rfl (Nat.le_of_ble_eq_true rfl) dX5_absent_111 ⟨Nat.zero_le _, Nat.zero_le _⟩ (fun H locs hP hS => ?_)
        refine lv_istore (lv' := [(10, .int r12), (0, .ref (a 0)), (1, .int p1), (2, .int p2), (3, .int p3), (4, .int p4), (5, .int x5), (6, .int x6), (7, .int x7), (8, .int x8), (9, .int x9)]) hx hb dX5_absent_114 hl (by decide) rfl (fun ls hl => ?_)
        refine lv_iload hx hb dX5_absent_116 (lv_at hl 8 rfl) ?_
        refine lv_iload_n hx hb dX5_absent_118 rfl (lv_at hl 4 rfl) ?_
        refine lv_iload hx hb dX5_absent_119 (lv_at hl 0 rfl) ?_
        obtain ⟨r14, e15, h⟩ := bdP_ok h
        refine r_callSi (As := [.int p3, .int r12]) (rest := [.int x7]) (ws' := (wl 203 a (eX g a (pS (pS M4 134 M7) 134 M10)))) (ok_X5_power l g p3 r12 r14 e15) ⟨hx, hb, hml, hown, hts⟩ (cwS 2 hts gX5_absent_X5_power rfl rfl rfl (by decide +kernel) ⟨Nat.le_of_ble_eq_true rfl, Nat.le_of_ble_eq_true rfl⟩) hK hS nilP (P_A hS.1) (fun _ _ hk => wl_keep hP hk) rfl hl.1 rfl (Nat.le_of_ble_eq_true rfl) dX5_absent_121 ⟨Nat.zero_le _, Nat.zero_le _⟩ (fun H locs hP hS => ?_)
        refine lv_bipush (v := 10) hx hb dX5_absent_124 (by decide) ?_
        refine lv_iload_n hx hb dX5_absent_126 rfl (lv_at hl 4 rfl) ?_
        refine lv_isub (x := 10) (y := p3) hx hb dX5_absent_127 ?_
        refine lv_iload hx hb dX5_absent_128 (lv_at hl 7 rfl) ?_
        refine lv_iload hx hb dX5_absent_130 (lv_at hl 0 rfl) ?_
        refine lv_isub (x := x6) (y := r12) hx hb dX5_absent_132 ?_
        obtain ⟨r16, e17, h⟩ := bdP_ok h
        refine r_callSi (As := [.int (10 - p3), .int (x6 - r12)]) (rest := [.int r14, .int x7]) (ws' := (wl 203 a (eX g a (pS (pS M4 134 M7) 134 M10)))) (ok_X5_power l g (10 - p3) (x6 - r12) r16 e17) ⟨hx, hb, hml, hown, hts⟩ (cwS 2 hts gX5_absent_X5_power rfl rfl rfl (by decide +kernel) ⟨Nat.le_of_ble_eq_true rfl, Nat.le_of_ble_eq_true rfl⟩) hK hS nilP (P_A hS.1) (fun _ _ hk => wl_keep hP hk) rfl hl.1 rfl (Nat.le_of_ble_eq_true rfl) dX5_absent_133 ⟨Nat.zero_le _, Nat.zero_le _⟩ (fun H locs hP hS => ?_)
        refine lv_imul (x := r14) (y := r16) hx hb dX5_absent_136 ?_
        refine lv_iadd (x := x7) (y := (r14 * r16)) hx hb dX5_absent_137 ?_
        refine lv_istore (lv' := [(7, .int (x7 + (r14 * r16))), (10, .int r12), (0, .ref (a 0)), (1, .int p1), (2, .int p2), (3, .int p3), (4, .int p4), (5, .int x5), (6, .int x6), (8, .int x8), (9, .int x9)]) hx hb dX5_absent_138 hl (by decide) rfl (fun ls hl => ?_)
        exact B140 k67 C67 x5 x6 (x7 + (r14 * r16)) x8 x9 (pS (pS M4 134 M7) 134 M10) _ _ _ h hP hS (lv_sub hl [2, 3, 4, 5, 6, 7, 8, 0, 9, 10] rfl)
  have L67 : ∀ (n : Nat), ∀ (x5 : Int32) (x6 : Int32) (x7 : Int32) (x8 : Int32) (x9 : Int32) (M : Mem) (H : Heap) (locs : List Loc) (ls : Array Slot), fX5_absent_l67 p1 p2 p3 p4 n x5 x6 x7 x8 x9 M = some (r, M') → va_P g.1 vwCl (wl 203 a (eX g a M)) H → va_S (aA 203 a s.heap.size) s.heap H locs → lv_has ls 11 [(0, .ref (a 0)), (1, .int p1), (2, .int p2), (3, .int p3), (4, .int p4), (5, .int x5), (6, .int x6), (7, .int x7), (8, .int x8), (9, .int x9)] → W p l e rmX5_absent s m args below meth c H locs 0 0 Qz (F0 m 67 ls []) := by
    intro n
    induction n with
    | zero => intro x5 x6 x7 x8 x9 M H locs ls h; exact absurd (show (none : Option (Int32 × Mem)) = some _ from h) (fun z => by cases z)
    | succ n ih => exact fun x5 x6 x7 x8 x9 M H locs ls h hP hS hl => B67 (fX5_absent_l67 p1 p2 p3 p4 n) ih x5 x6 x7 x8 x9 M H locs ls h hP hS hl
  unfold fX5_absent at h
  refine lv_aload_n hx hb dX5_absent_0 rfl (lv_at hl 0 rfl) ?_
  refine lv_iload_n hx hb dX5_absent_1 rfl (lv_at hl 1 rfl) ?_
  obtain ⟨r1, e2, h⟩ := bdP_ok h
  refine r_callVi (As := [.int p1]) (rest := []) (ws' := (wl 203 a (eX g a M))) (ok_X5_noRider l g a hI p1 M r1 e2) ⟨hx, hb, hml, hown, hts⟩ (cwV 1 hts gX5_absent_X5_noRider rfl rfl rfl (by decide +kernel) ⟨Nat.le_of_ble_eq_true rfl, Nat.le_of_ble_eq_true rfl⟩) hK (r_recv hK hP 0 (by decide) eX_0 (show vwCl[5]? = some (RX5, TX5, 11) from rfl)) hS hP (fun _ hq => aA_mono hS.1 hq) (fun _ h _ => h) rfl hl.1 rfl (Nat.le_of_ble_eq_true rfl) dX5_absent_2 ⟨Nat.zero_le _, Nat.zero_le _⟩ (fun H locs hP hS => ?_)
  refine lv_if_ne (x := r1) (tgt := 38) hx hb dX5_absent_5 (by decide) (fun q3 => ?_) (fun q3 => ?_)
  · replace h := if_f q3 h
    refine lv_ldc (v := (-1000001)) hx hb hown w73 dX5_absent_38 ?_
    rw [hQz]
    exact r_iret (v := (-1000001)) hx hb hr hlk hS ((Prod.mk.inj (Option.some.inj h)).2 ▸ hP) (Prod.mk.inj (Option.some.inj h)).1 dX5_absent_40
  · replace h := if_t q3 h
    refine lv_iload_n hx hb dX5_absent_8 rfl (lv_at hl 2 rfl) ?_
    refine lv_iconst (v := 0) hx hb dX5_absent_9 (by decide) ?_
    refine lv_bipush (v := 60) hx hb dX5_absent_10 (by decide) ?_
    obtain ⟨r4, e5, h⟩ := bdP_ok h
    refine r_callSi (As := [.int p2, .int 0, .int 60]) (rest := []) (ws' := (wl 203 a (eX g a M))) (ok_X5_outside l g p2 0 60 r4 e5) ⟨hx, hb, hml, hown, hts⟩ (cwS 3 hts gX5_absent_X5_outside rfl rfl rfl (by decide +kernel) ⟨Nat.le_of_ble_eq_true rfl, Nat.le_of_ble_eq_true rfl⟩) hK hS nilP (P_A hS.1) (fun _ _ hk => wl_keep hP hk) rfl hl.1 rfl (Nat.le_of_ble_eq_true rfl) dX5_absent_12 ⟨Nat.zero_le _, Nat.zero_le _⟩ (fun H locs hP hS => ?_)
    refine lv_if_ne (x := r4) (tgt := 38) hx hb dX5_absent_15 (by decide) (fun q6 => ?_) (fun q6 => ?_)
    · replace h := if_f q6 h
      refine lv_ldc (v := (-1000001)) hx hb hown w73 dX5_absent_38 ?_
      rw [hQz]
      exact r_iret (v := (-1000001)) hx hb hr hlk hS ((Prod.mk.inj (Option.some.inj h)).2 ▸ hP) (Prod.mk.inj (Option.some.inj h)).1 dX5_absent_40
    · replace h := if_t q6 h
      refine lv_iload_n hx hb dX5_absent_18 rfl (lv_at hl 3 rfl) ?_
      refine lv_iconst (v := 0) hx hb dX5_absent_19 (by decide) ?_
      refine lv_bipush (v := 10) hx hb dX5_absent_20 (by decide) ?_
      obtain ⟨r7, e8, h⟩ := bdP_ok h
      refine r_callSi (As := [.int p3, .int 0, .int 10]) (rest := []) (ws' := (wl 203 a (eX g a M))) (ok_X5_outside l g p3 0 10 r7 e8) ⟨hx, hb, hml, hown, hts⟩ (cwS 3 hts gX5_absent_X5_outside rfl rfl rfl (by decide +kernel) ⟨Nat.le_of_ble_eq_true rfl, Nat.le_of_ble_eq_true rfl⟩) hK hS nilP (P_A hS.1) (fun _ _ hk => wl_keep hP hk) rfl hl.1 rfl (Nat.le_of_ble_eq_true rfl) dX5_absent_22 ⟨Nat.zero_le _, Nat.zero_le _⟩ (fun H locs hP hS => ?_)
      refine lv_if_ne (x := r7) (tgt := 38) hx hb dX5_absent_25 (by decide) (fun q9 => ?_) (fun q9 => ?_)
      · replace h := if_f q9 h
        refine lv_ldc (v := (-1000001)) hx hb hown w73 dX5_absent_38 ?_
        rw [hQz]
        exact r_iret (v := (-1000001)) hx hb hr hlk hS ((Prod.mk.inj (Option.some.inj h)).2 ▸ hP) (Prod.mk.inj (Option.some.inj h)).1 dX5_absent_40
      · replace h := if_t q9 h
        refine lv_iload hx hb dX5_absent_28 (lv_at hl 4 rfl) ?_
        refine lv_iconst (v := 0) hx hb dX5_absent_30 (by decide) ?_
        refine lv_iconst (v := 1) hx hb dX5_absent_31 (by decide) ?_
        obtain ⟨r10, e11, h⟩ := bdP_ok h
        refine r_callSi (As := [.int p4, .int 0, .int 1]) (rest := []) (ws' := (wl 203 a (eX g a M))) (ok_X5_outside l g p4 0 1 r10 e11) ⟨hx, hb, hml, hown, hts⟩ (cwS 3 hts gX5_absent_X5_outside rfl rfl rfl (by decide +kernel) ⟨Nat.le_of_ble_eq_true rfl, Nat.le_of_ble_eq_true rfl⟩) hK hS nilP (P_A hS.1) (fun _ _ hk => wl_keep hP hk) rfl hl.1 rfl (Nat.le_of_ble_eq_true rfl) dX5_absent_32 ⟨Nat.zero_le _, Nat.zero_le _⟩ (fun H locs hP hS => ?_)
        refine lv_if_eq (x := r10) (tgt := 41) hx hb dX5_absent_35 (by decide) (fun q12 => ?_) (fun q12 => ?_)
        · replace h := if_t q12 h
          refine lv_aload_n hx hb dX5_absent_41 rfl (lv_at hl 0 rfl) ?_
          refine r_get (v := .ref (a 4)) hx hb hts iX5 hown hK hP 0 (by decide) eX_0 rfl 2 (by decide) w25 rfl dX5_absent_42 ?_
          refine lv_iconst (v := (-1)) hx hb dX5_absent_45 (by decide) ?_
          obtain ⟨r13, e14, h⟩ := bdP_ok h
          refine r_callVi (As := [.int (-1)]) (rest := []) (ws' := (wl 203 a (eX g a M))) (ok_X2_whoIsAt l g (gA a 4) (gA_ij (c := 4) (by decide) hI) (-1) (gS M 4) r13 e14) ⟨hx, hb, hml, hown, hts⟩ (cwV 1 hts gX5_absent_X2_whoIsAt rfl rfl rfl (by decide +kernel) ⟨Nat.le_of_ble_eq_true rfl, Nat.le_of_ble_eq_true rfl⟩) hK (r_recv hK hP 4 (isSt_lt (c := 4) (by decide) 0 (by decide)) (eX_Stair (c := 4) (by decide)) (show vwCl[2]? = some (RX2, TX2, 8) from rfl)) hS (S_cut (c := 4) (by decide) hP) (S_A (c := 4) (by decide) hS.1) (S_keep (c := 4) (by decide) hI hP) rfl hl.1 rfl (Nat.le_of_ble_eq_true rfl) dX5_absent_46 ⟨Nat.zero_le _, Nat.zero_le _⟩ (fun H locs hP hS => ?_)
          refine lv_istore (lv' := [(5, .int r13), (0, .ref (a 0)), (1, .int p1), (2, .int p2), (3, .int p3), (4, .int p4)]) hx hb dX5_absent_49 hl (by decide) rfl (fun ls hl => ?_)
          refine lv_iload hx hb dX5_absent_51 (lv_at hl 0 rfl) ?_
          obtain ⟨r15, e16, h⟩ := bdP_ok h
          refine r_callSi (As := [.int r13]) (rest := []) (ws' := (wl 203 a (eX g a M))) (ok_J6_bitCount_0f7a4 l g r13 r15 e16) ⟨hx, hb, hml, hown, hts⟩ (va_cwS 1 hts gX5_absent_J6_bitCount_0f7a4 rfl rfl rfl (by decide +kernel) ⟨Nat.le_of_ble_eq_true rfl, Nat.le_of_ble_eq_true rfl⟩) hK hS nilP (P_A hS.1) (fun _ _ hk => wl_keep hP hk) rfl hl.1 rfl (Nat.le_of_ble_eq_true rfl) dX5_absent_53 ⟨Nat.zero_le _, Nat.zero_le _⟩ (fun H locs hP hS => ?_)
          refine lv_istore (lv' := [(6, .int r15), (5, .int r13), (0, .ref (a 0)), (1, .int p1), (2, .int p2), (3, .int p3), (4, .int p4)]) hx hb dX5_absent_56 hl (by decide) rfl (fun ls hl => ?_)
          refine lv_iconst (v := 0) hx hb dX5_absent_58 (by decide) ?_
          refine lv_istore (lv' := [(7, .int 0), (6, .int r15), (5, .int r13), (0, .ref (a 0)), (1, .int p1), (2, .int p2), (3, .int p3), (4, .int p4)]) hx hb dX5_absent_59 hl (by decide) rfl (fun ls hl => ?_)
          refine lv_iconst (v := 0) hx hb dX5_absent_61 (by decide) ?_
          refine lv_istore (lv' := [(8, .int 0), (7, .int 0), (6, .int r15), (5, .int r13), (0, .ref (a 0)), (1, .int p1), (2, .int p2), (3, .int p3), (4, .int p4)]) hx hb dX5_absent_62 hl (by decide) rfl (fun ls hl => ?_)
          refine lv_iconst (v := 0) hx hb dX5_absent_64 (by decide) ?_
          refine lv_istore (lv' := [(9, .int 0), (8, .int 0), (7, .int 0), (6, .int r15), (5, .int r13), (0, .ref (a 0)), (1, .int p1), (2, .int p2), (3, .int p3), (4, .int p4)]) hx hb dX5_absent_65 hl (by decide) rfl (fun ls hl => ?_)
          exact L67 FU r13 r15 0 0 0 M _ _ _ h hP hS (lv_sub hl [5, 6, 7, 8, 9, 4, 3, 2, 1, 0] rfl)
        · replace h := if_f q12 h
          refine lv_ldc (v := (-1000001)) hx hb hown w73 dX5_absent_38 ?_
          rw [hQz]
          exact r_iret (v := (-1000001)) hx hb hr hlk hS ((Prod.mk.inj (Option.some.inj h)).2 ▸ hP) (Prod.mk.inj (Option.some.inj h)).1 dX5_absent_40
def rmX5_drawn : Room := { frames := 5, cells := 0, slots := 0, locals := 152 }
set_option maxHeartbeats 4000000 in
set_option maxRecDepth 100000 in
theorem ok_X5_drawn (l : Launch) (g : gT) (a : Nat → Nat) (hI : ij 203 a) (p1 : Int32) (p2 : Int32) (p3 : Int32) (M : Mem) (M' : Mem) (r : Int32) (h : fX5_drawn p1 p2 p3 M = some (r, M')) : MI l yX5_drawn wsX5_drawn rmX5_drawn g 203 a [.ref (a 0), .int p1, .int p2, .int p3] (wl 203 a (eX g a M)) (wl 203 a (eX g a M')) r := by
  refine MI_of (cc := cX5_drawn) (maxL := 8) (rt := .int) (by decide) rfl (Nat.le_of_ble_eq_true rfl) ?_
  intro p e s m args below meth c ls hx hb hml hr hlk hts hown hK hP hl
  have hown : s.vm.findClass RX5 = some m.cls := hown
  have hl : lv_has ls 8 [(0, .ref (a 0)), (1, .int p1), (2, .int p2), (3, .int p3)] := hl
  have hS : va_S (aA 203 a s.heap.size) s.heap s.heap [] := va_S.rf
  have iX5 : ∀ w ∈ wsX50, w ∈ wsX5_drawn := fun w h => List.mem_cons_of_mem _ (List.mem_append_left _ (List.mem_append_right _ h))
  have w47 := hts (.fieldLink RX5 47 "StepRiders" "trial" "LStepRiders$Stair;") (by decide +kernel)
  have w250 := hts (.constantLong RX5 250 (16807)) (by decide +kernel)
  have w252 := hts (.constantLong RX5 252 (2147483647)) (by decide +kernel)
  have w73 := hts (.constant RX5 73 (-1000001)) (by decide +kernel)
  have w249 := hts (.constant RX5 249 (999999)) (by decide +kernel)
  have w25 := hts (.fieldLink RX5 25 "StepRiders" "now" "LStepRiders$Stair;") (by decide +kernel)
  have w140 := hts (.constant RX5 140 (-1000002)) (by decide +kernel)
  obtain ⟨Qz, hQz⟩ : ∃ Qz : State → Prop, Qz = MQ below (qI g (wl 203 a (eX g a M')) r (aA 203 a s.heap.size)) args s 0 0 (aA 203 a s.heap.size) := ⟨_, rfl⟩
  rw [← hQz]
  have B109 : ∀ (x6 : Int32) (M : Mem) (H : Heap) (locs : List Loc) (ls : Array Slot), fX5_drawn_b109 p1 p2 p3 x6 M = some (r, M') → va_P g.1 vwCl (wl 203 a (eX g a M)) H → va_S (aA 203 a s.heap.size) s.heap H locs → lv_has ls 8 [(0, .ref (a 0)), (1, .int p1), (2, .int p2), (3, .int p3), (6, .int x6)] → W p l e rmX5_drawn s m args below meth c H locs 0 0 Qz (F0 m 109 ls []) := by
    intro x6 M H locs ls h hP hS hl
    unfold fX5_drawn_b109 at h
    refine lv_iload_n hx hb dX5_drawn_109 rfl (lv_at hl 3 rfl) ?_
    refine lv_if_ne (x := p3) (tgt := 118) hx hb dX5_drawn_110 (by decide) (fun q1 => ?_) (fun q1 => ?_)
    · replace h := if_f q1 h
      refine lv_aload_n hx hb dX5_drawn_118 rfl (lv_at hl 0 rfl) ?_
      refine r_get (v := .ref (a 134)) hx hb hts iX5 hown hK hP 0 (by decide) eX_0 rfl 6 (by decide) w47 rfl dX5_drawn_119 ?_
      refine lv_bipush (v := 99) hx hb dX5_drawn_122 (by decide) ?_
      obtain ⟨r2, e3, h⟩ := bdP_ok h
      refine r_callVi (As := [.int 99]) (rest := []) (ws' := (wl 203 a (eX g a M))) (ok_X2_howManyAt l g (gA a 134) (gA_ij (c := 134) (by decide) hI) 99 (gS M 134) r2 e3) ⟨hx, hb, hml, hown, hts⟩ (cwV 1 hts gX5_drawn_X2_howManyAt rfl rfl rfl (by decide +kernel) ⟨Nat.le_of_ble_eq_true rfl, Nat.le_of_ble_eq_true rfl⟩) hK (r_recv hK hP 134 (isSt_lt (c := 134) (by decide) 0 (by decide)) (eX_Stair (c := 134) (by decide)) (show vwCl[2]? = some (RX2, TX2, 8) from rfl)) hS (S_cut (c := 134) (by decide) hP) (S_A (c := 134) (by decide) hS.1) (S_keep (c := 134) (by decide) hI hP) rfl hl.1 rfl (Nat.le_of_ble_eq_true rfl) dX5_drawn_124 ⟨Nat.zero_le _, Nat.zero_le _⟩ (fun H locs hP hS => ?_)
      rw [hQz]
      exact r_iret (v := r2) hx hb hr hlk hS ((Prod.mk.inj (Option.some.inj h)).2 ▸ hP) (Prod.mk.inj (Option.some.inj h)).1 dX5_drawn_127
    · replace h := if_t q1 h
      refine lv_iload hx hb dX5_drawn_113 (lv_at hl 4 rfl) ?_
      refine lv_goto (tgt := 127) hx hb dX5_drawn_115 (by decide) ?_
      rw [hQz]
      exact r_iret (v := x6) hx hb hr hlk hS ((Prod.mk.inj (Option.some.inj h)).2 ▸ hP) (Prod.mk.inj (Option.some.inj h)).1 dX5_drawn_127
  have B63 : ∀ (k63 : Int64 → Int32 → Int32 → Mem → Option (Int32 × Mem)) (C63 : ∀ (x4 : Int64) (x6 : Int32) (x7 : Int32) (M : Mem) (H : Heap) (locs : List Loc) (ls : Array Slot), k63 x4 x6 x7 M = some (r, M') → va_P g.1 vwCl (wl 203 a (eX g a M)) H → va_S (aA 203 a s.heap.size) s.heap H locs → lv_has ls 8 [(0, .ref (a 0)), (1, .int p1), (2, .int p2), (3, .int p3), (4, .long x4), (6, .int x6), (7, .int x7)] → W p l e rmX5_drawn s m args below meth c H locs 0 0 Qz (F0 m 63 ls [])), ∀ (x4 : Int64) (x6 : Int32) (x7 : Int32) (M : Mem) (H : Heap) (locs : List Loc) (ls : Array Slot), fX5_drawn_b63 p1 p2 p3 k63 x4 x6 x7 M = some (r, M') → va_P g.1 vwCl (wl 203 a (eX g a M)) H → va_S (aA 203 a s.heap.size) s.heap H locs → lv_has ls 8 [(0, .ref (a 0)), (1, .int p1), (2, .int p2), (3, .int p3), (4, .long x4), (6, .int x6), (7, .int x7)] → W p l e rmX5_drawn s m args below meth c H locs 0 0 Qz (F0 m 63 ls []) := by
    intro k63 C63 x4 x6 x7 M H locs ls h hP hS hl
    unfold fX5_drawn_b63 at h
    refine lv_iload hx hb dX5_drawn_63 (lv_at hl 6 rfl) ?_
    refine lv_iload_n hx hb dX5_drawn_65 rfl (lv_at hl 1 rfl) ?_
    refine lv_icmp_ge (x := x7) (y := p1) (tgt := 109) hx hb dX5_drawn_66 (by decide) (fun q1 => ?_) (fun q1 => ?_)
    · replace h := if_t q1 h
      exact B109 x6 M _ _ _ h hP hS (lv_sub hl [0, 1, 2, 3, 5] rfl)
    · replace h := if_f q1 h
      refine lv_lload hx hb dX5_drawn_69 (lv_at hl 4 rfl) ?_
      refine lv_ldc2 (v := 16807) hx hb hown w250 dX5_drawn_71 ?_
      refine lv_lmul (x := x4) (y := 16807) hx hb dX5_drawn_74 ?_
      refine lv_ldc2 (v := 2147483647) hx hb hown w252 dX5_drawn_75 ?_
      refine lv_lrem (x := (x4 * 16807)) (y := 2147483647) hx hb dX5_drawn_78 (by decide) ?_
      refine lv_lstore (lv' := [(4, .long ((x4 * 16807) - (x4 * 16807) / 2147483647 * 2147483647)), (0, .ref (a 0)), (1, .int p1), (2, .int p2), (3, .int p3), (6, .int x6), (7, .int x7)]) hx hb dX5_drawn_79 hl (by decide) rfl (fun ls hl => ?_)
      refine lv_aload_n hx hb dX5_drawn_81 rfl (lv_at hl 1 rfl) ?_
      refine r_get (v := .ref (a 134)) hx hb hts iX5 hown hK hP 0 (by decide) eX_0 rfl 6 (by decide) w47 rfl dX5_drawn_82 ?_
      refine lv_lload hx hb dX5_drawn_85 (lv_at hl 0 rfl) ?_
      refine lv_l2i (x := ((x4 * 16807) - (x4 * 16807) / 2147483647 * 2147483647)) hx hb dX5_drawn_87 rfl ?_
      obtain ⟨M4, e3, h⟩ := bdV_ok h
      refine r_callVv (As := [.int (Int64.toInt32 ((x4 * 16807) - (x4 * 16807) / 2147483647 * 2147483647))]) (rest := []) (ws' := (wl 203 a (eX g a (pS M 134 M4)))) (ok_X2_draw l g (gA a 134) (gA_ij (c := 134) (by decide) hI) (Int64.toInt32 ((x4 * 16807) - (x4 * 16807) / 2147483647 * 2147483647)) (gS M 134) M4 e3) ⟨hx, hb, hml, hown, hts⟩ (cwV 1 hts gX5_drawn_X2_draw rfl rfl rfl (by decide +kernel) ⟨Nat.le_of_ble_eq_true rfl, Nat.le_of_ble_eq_true rfl⟩) hK (r_recv hK hP 134 (isSt_lt (c := 134) (by decide) 0 (by decide)) (eX_Stair (c := 134) (by decide)) (show vwCl[2]? = some (RX2, TX2, 8) from rfl)) hS (S_cut (c := 134) (by decide) hP) (S_A (c := 134) (by decide) hS.1) (S_join (c := 134) (by decide) hI hP) rfl hl.1 rfl (Nat.le_of_ble_eq_true rfl) dX5_drawn_88 ⟨Nat.zero_le _, Nat.zero_le _⟩ (fun H locs hP hS => ?_)
      refine lv_iload hx hb dX5_drawn_91 (lv_at hl 5 rfl) ?_
      refine lv_aload_n hx hb dX5_drawn_93 rfl (lv_at hl 1 rfl) ?_
      refine r_get (v := .ref (a 134)) hx hb hts iX5 hown hK hP 0 (by decide) eX_0 rfl 6 (by decide) w47 rfl dX5_drawn_94 ?_
      obtain ⟨r5, M7, e6, h⟩ := bdI_ok h
      refine r_callVi (As := []) (rest := [.int x6]) (ws' := (wl 203 a (eX g a (pS (pS M 134 M4) 134 M7)))) (ok_X2_pass l g (gA a 134) (gA_ij (c := 134) (by decide) hI) (gS (pS M 134 M4) 134) M7 r5 e6) ⟨hx, hb, hml, hown, hts⟩ (cwV 0 hts gX5_drawn_X2_pass rfl rfl rfl (by decide +kernel) ⟨Nat.le_of_ble_eq_true rfl, Nat.le_of_ble_eq_true rfl⟩) hK (r_recv hK hP 134 (isSt_lt (c := 134) (by decide) 0 (by decide)) (eX_Stair (c := 134) (by decide)) (show vwCl[2]? = some (RX2, TX2, 8) from rfl)) hS (S_cut (c := 134) (by decide) hP) (S_A (c := 134) (by decide) hS.1) (S_join (c := 134) (by decide) hI hP) rfl hl.1 rfl (Nat.le_of_ble_eq_true rfl) dX5_drawn_97 ⟨Nat.zero_le _, Nat.zero_le _⟩ (fun H locs hP hS => ?_)
      refine lv_iadd (x := x6) (y := r5) hx hb dX5_drawn_100 ?_
      refine lv_istore (lv' := [(6, .int (x6 + r5)), (4, .long ((x4 * 16807) - (x4 * 16807) / 2147483647 * 2147483647)), (0, .ref (a 0)), (1, .int p1), (2, .int p2), (3, .int p3), (7, .int x7)]) hx hb dX5_drawn_101 hl (by decide) rfl (fun ls hl => ?_)
      refine lv_iinc (v := (x7 + 1)) (lv' := [(7, .int (x7 + 1)), (6, .int (x6 + r5)), (4, .long ((x4 * 16807) - (x4 * 16807) / 2147483647 * 2147483647)), (0, .ref (a 0)), (1, .int p1), (2, .int p2), (3, .int p3)]) hx hb dX5_drawn_103 hl (k := 6) rfl rfl (by decide) rfl (fun ls hl => ?_)
      refine lv_goto (tgt := 63) hx hb dX5_drawn_106 (by decide) ?_
      exact C63 ((x4 * 16807) - (x4 * 16807) / 2147483647 * 2147483647) (x6 + r5) (x7 + 1) (pS (pS M 134 M4) 134 M7) _ _ _ h hP hS (lv_sub hl [3, 4, 5, 6, 2, 1, 0] rfl)
  have L63 : ∀ (n : Nat), ∀ (x4 : Int64) (x6 : Int32) (x7 : Int32) (M : Mem) (H : Heap) (locs : List Loc) (ls : Array Slot), fX5_drawn_l63 p1 p2 p3 n x4 x6 x7 M = some (r, M') → va_P g.1 vwCl (wl 203 a (eX g a M)) H → va_S (aA 203 a s.heap.size) s.heap H locs → lv_has ls 8 [(0, .ref (a 0)), (1, .int p1), (2, .int p2), (3, .int p3), (4, .long x4), (6, .int x6), (7, .int x7)] → W p l e rmX5_drawn s m args below meth c H locs 0 0 Qz (F0 m 63 ls []) := by
    intro n
    induction n with
    | zero => intro x4 x6 x7 M H locs ls h; exact absurd (show (none : Option (Int32 × Mem)) = some _ from h) (fun z => by cases z)
    | succ n ih => exact fun x4 x6 x7 M H locs ls h hP hS hl => B63 (fX5_drawn_l63 p1 p2 p3 n) ih x4 x6 x7 M H locs ls h hP hS hl
  unfold fX5_drawn at h
  refine lv_aload_n hx hb dX5_drawn_0 rfl (lv_at hl 0 rfl) ?_
  obtain ⟨r1, e2, h⟩ := bdP_ok h
  refine r_callVi (As := []) (rest := []) (ws' := (wl 203 a (eX g a M))) (ok_X5_noStair l g a hI M r1 e2) ⟨hx, hb, hml, hown, hts⟩ (cwV 0 hts gX5_drawn_X5_noStair rfl rfl rfl (by decide +kernel) ⟨Nat.le_of_ble_eq_true rfl, Nat.le_of_ble_eq_true rfl⟩) hK (r_recv hK hP 0 (by decide) eX_0 (show vwCl[5]? = some (RX5, TX5, 11) from rfl)) hS hP (fun _ hq => aA_mono hS.1 hq) (fun _ h _ => h) rfl hl.1 rfl (Nat.le_of_ble_eq_true rfl) dX5_drawn_1 ⟨Nat.zero_le _, Nat.zero_le _⟩ (fun H locs hP hS => ?_)
  refine lv_if_eq (x := r1) (tgt := 10) hx hb dX5_drawn_4 (by decide) (fun q3 => ?_) (fun q3 => ?_)
  · replace h := if_t q3 h
    refine lv_iload_n hx hb dX5_drawn_10 rfl (lv_at hl 1 rfl) ?_
    refine lv_iconst (v := 0) hx hb dX5_drawn_11 (by decide) ?_
    refine lv_bipush (v := 60) hx hb dX5_drawn_12 (by decide) ?_
    obtain ⟨r4, e5, h⟩ := bdP_ok h
    refine r_callSi (As := [.int p1, .int 0, .int 60]) (rest := []) (ws' := (wl 203 a (eX g a M))) (ok_X5_outside l g p1 0 60 r4 e5) ⟨hx, hb, hml, hown, hts⟩ (cwS 3 hts gX5_drawn_X5_outside rfl rfl rfl (by decide +kernel) ⟨Nat.le_of_ble_eq_true rfl, Nat.le_of_ble_eq_true rfl⟩) hK hS nilP (P_A hS.1) (fun _ _ hk => wl_keep hP hk) rfl hl.1 rfl (Nat.le_of_ble_eq_true rfl) dX5_drawn_14 ⟨Nat.zero_le _, Nat.zero_le _⟩ (fun H locs hP hS => ?_)
    refine lv_if_ne (x := r4) (tgt := 39) hx hb dX5_drawn_17 (by decide) (fun q6 => ?_) (fun q6 => ?_)
    · replace h := if_f q6 h
      refine lv_ldc (v := (-1000001)) hx hb hown w73 dX5_drawn_39 ?_
      rw [hQz]
      exact r_iret (v := (-1000001)) hx hb hr hlk hS ((Prod.mk.inj (Option.some.inj h)).2 ▸ hP) (Prod.mk.inj (Option.some.inj h)).1 dX5_drawn_41
    · replace h := if_t q6 h
      refine lv_iload_n hx hb dX5_drawn_20 rfl (lv_at hl 2 rfl) ?_
      refine lv_iconst (v := 1) hx hb dX5_drawn_21 (by decide) ?_
      refine lv_ldc (v := 999999) hx hb hown w249 dX5_drawn_22 ?_
      obtain ⟨r7, e8, h⟩ := bdP_ok h
      refine r_callSi (As := [.int p2, .int 1, .int 999999]) (rest := []) (ws' := (wl 203 a (eX g a M))) (ok_X5_outside l g p2 1 999999 r7 e8) ⟨hx, hb, hml, hown, hts⟩ (cwS 3 hts gX5_drawn_X5_outside rfl rfl rfl (by decide +kernel) ⟨Nat.le_of_ble_eq_true rfl, Nat.le_of_ble_eq_true rfl⟩) hK hS nilP (P_A hS.1) (fun _ _ hk => wl_keep hP hk) rfl hl.1 rfl (Nat.le_of_ble_eq_true rfl) dX5_drawn_24 ⟨Nat.zero_le _, Nat.zero_le _⟩ (fun H locs hP hS => ?_)
      refine lv_if_ne (x := r7) (tgt := 39) hx hb dX5_drawn_27 (by decide) (fun q9 => ?_) (fun q9 => ?_)
      · replace h := if_f q9 h
        refine lv_ldc (v := (-1000001)) hx hb hown w73 dX5_drawn_39 ?_
        rw [hQz]
        exact r_iret (v := (-1000001)) hx hb hr hlk hS ((Prod.mk.inj (Option.some.inj h)).2 ▸ hP) (Prod.mk.inj (Option.some.inj h)).1 dX5_drawn_41
      · replace h := if_t q9 h
        refine lv_iload_n hx hb dX5_drawn_30 rfl (lv_at hl 3 rfl) ?_
        refine lv_iconst (v := 0) hx hb dX5_drawn_31 (by decide) ?_
        refine lv_iconst (v := 1) hx hb dX5_drawn_32 (by decide) ?_
        obtain ⟨r10, e11, h⟩ := bdP_ok h
        refine r_callSi (As := [.int p3, .int 0, .int 1]) (rest := []) (ws' := (wl 203 a (eX g a M))) (ok_X5_outside l g p3 0 1 r10 e11) ⟨hx, hb, hml, hown, hts⟩ (cwS 3 hts gX5_drawn_X5_outside rfl rfl rfl (by decide +kernel) ⟨Nat.le_of_ble_eq_true rfl, Nat.le_of_ble_eq_true rfl⟩) hK hS nilP (P_A hS.1) (fun _ _ hk => wl_keep hP hk) rfl hl.1 rfl (Nat.le_of_ble_eq_true rfl) dX5_drawn_33 ⟨Nat.zero_le _, Nat.zero_le _⟩ (fun H locs hP hS => ?_)
        refine lv_if_eq (x := r10) (tgt := 42) hx hb dX5_drawn_36 (by decide) (fun q12 => ?_) (fun q12 => ?_)
        · replace h := if_t q12 h
          refine lv_aload_n hx hb dX5_drawn_42 rfl (lv_at hl 0 rfl) ?_
          refine r_get (v := .ref (a 134)) hx hb hts iX5 hown hK hP 0 (by decide) eX_0 rfl 6 (by decide) w47 rfl dX5_drawn_43 ?_
          refine lv_aload_n hx hb dX5_drawn_46 rfl (lv_at hl 0 rfl) ?_
          refine r_get (v := .ref (a 4)) hx hb hts iX5 hown hK hP 0 (by decide) eX_0 rfl 2 (by decide) w25 rfl dX5_drawn_47 ?_
          obtain ⟨M15, e14, h⟩ := bdV_ok h
          refine r_callVv (As := [.ref (a 4)]) (rest := []) (ws' := (wl 203 a (eX g a M15))) (ok_X2_become l g a hI 134 4 M M15 (by decide) (by decide) e14) ⟨hx, hb, hml, hown, hts⟩ (cwV 1 hts gX5_drawn_X2_become rfl rfl rfl (by decide +kernel) ⟨Nat.le_of_ble_eq_true rfl, Nat.le_of_ble_eq_true rfl⟩) hK (r_recv hK hP 134 (isSt_lt (c := 134) (by decide) 0 (by decide)) (eX_Stair (c := 134) (by decide)) (show vwCl[2]? = some (RX2, TX2, 8) from rfl)) hS hP (fun _ hq => aA_mono hS.1 hq) (fun _ h _ => h) rfl hl.1 rfl (Nat.le_of_ble_eq_true rfl) dX5_drawn_50 ⟨Nat.zero_le _, Nat.zero_le _⟩ (fun H locs hP hS => ?_)
          refine lv_iload_n hx hb dX5_drawn_53 rfl (lv_at hl 2 rfl) ?_
          refine lv_i2l (x := p2) hx hb dX5_drawn_54 rfl ?_
          refine lv_lstore (lv' := [(4, .long (Int32.toInt64 p2)), (0, .ref (a 0)), (1, .int p1), (2, .int p2), (3, .int p3)]) hx hb dX5_drawn_55 hl (by decide) rfl (fun ls hl => ?_)
          refine lv_iconst (v := 0) hx hb dX5_drawn_57 (by decide) ?_
          refine lv_istore (lv' := [(6, .int 0), (4, .long (Int32.toInt64 p2)), (0, .ref (a 0)), (1, .int p1), (2, .int p2), (3, .int p3)]) hx hb dX5_drawn_58 hl (by decide) rfl (fun ls hl => ?_)
          refine lv_iconst (v := 0) hx hb dX5_drawn_60 (by decide) ?_
          refine lv_istore (lv' := [(7, .int 0), (6, .int 0), (4, .long (Int32.toInt64 p2)), (0, .ref (a 0)), (1, .int p1), (2, .int p2), (3, .int p3)]) hx hb dX5_drawn_61 hl (by decide) rfl (fun ls hl => ?_)
          exact L63 FU (Int32.toInt64 p2) 0 0 M15 _ _ _ h hP hS (lv_sub hl [3, 4, 5, 6, 2, 1, 0] rfl)
        · replace h := if_f q12 h
          refine lv_ldc (v := (-1000001)) hx hb hown w73 dX5_drawn_39 ?_
          rw [hQz]
          exact r_iret (v := (-1000001)) hx hb hr hlk hS ((Prod.mk.inj (Option.some.inj h)).2 ▸ hP) (Prod.mk.inj (Option.some.inj h)).1 dX5_drawn_41
  · replace h := if_f q3 h
    refine lv_ldc (v := (-1000002)) hx hb hown w140 dX5_drawn_7 ?_
    rw [hQz]
    exact r_iret (v := (-1000002)) hx hb hr hlk hS ((Prod.mk.inj (Option.some.inj h)).2 ▸ hP) (Prod.mk.inj (Option.some.inj h)).1 dX5_drawn_9
def rmX5_image : Room := { frames := 2, cells := 0, slots := 0, locals := 82 }
set_option maxHeartbeats 4000000 in
set_option maxRecDepth 100000 in
theorem ok_X5_image (l : Launch) (g : gT) (a : Nat → Nat) (hI : ij 203 a) (p1 : Int32) (M : Mem) (M' : Mem) (r : Int32) (h : fX5_image p1 M = some (r, M')) : MI l yX5_image wsX5_image rmX5_image g 203 a [.ref (a 0), .int p1] (wl 203 a (eX g a M)) (wl 203 a (eX g a M')) r := by
  refine MI_of (cc := cX5_image) (maxL := 2) (rt := .int) (by decide) rfl (Nat.le_of_ble_eq_true rfl) ?_
  intro p e s m args below meth c ls hx hb hml hr hlk hts hown hK hP hl
  have hown : s.vm.findClass RX5 = some m.cls := hown
  have hl : lv_has ls 2 [(0, .ref (a 0)), (1, .int p1)] := hl
  have hS : va_S (aA 203 a s.heap.size) s.heap s.heap [] := va_S.rf
  have iX5 : ∀ w ∈ wsX50, w ∈ wsX5_image := fun w h => List.mem_cons_of_mem _ (List.mem_append_left _ (List.mem_append_right _ h))
  have w36 := hts (.fieldLink RX5 36 "StepRiders" "images" "[LStepRiders$Stair;") (by decide +kernel)
  have w25 := hts (.fieldLink RX5 25 "StepRiders" "now" "LStepRiders$Stair;") (by decide +kernel)
  have w140 := hts (.constant RX5 140 (-1000002)) (by decide +kernel)
  have w73 := hts (.constant RX5 73 (-1000001)) (by decide +kernel)
  obtain ⟨Qz, hQz⟩ : ∃ Qz : State → Prop, Qz = MQ below (qI g (wl 203 a (eX g a M')) r (aA 203 a s.heap.size)) args s 0 0 (aA 203 a s.heap.size) := ⟨_, rfl⟩
  rw [← hQz]
  unfold fX5_image at h
  refine lv_iload_n hx hb dX5_image_0 rfl (lv_at hl 1 rfl) ?_
  refine lv_iconst (v := 0) hx hb dX5_image_1 (by decide) ?_
  refine lv_iconst (v := 1) hx hb dX5_image_2 (by decide) ?_
  obtain ⟨r1, e2, h⟩ := bdP_ok h
  refine r_callSi (As := [.int p1, .int 0, .int 1]) (rest := []) (ws' := (wl 203 a (eX g a M))) (ok_X5_outside l g p1 0 1 r1 e2) ⟨hx, hb, hml, hown, hts⟩ (cwS 3 hts gX5_image_X5_outside rfl rfl rfl (by decide +kernel) ⟨Nat.le_of_ble_eq_true rfl, Nat.le_of_ble_eq_true rfl⟩) hK hS nilP (P_A hS.1) (fun _ _ hk => wl_keep hP hk) rfl hl.1 rfl (Nat.le_of_ble_eq_true rfl) dX5_image_3 ⟨Nat.zero_le _, Nat.zero_le _⟩ (fun H locs hP hS => ?_)
  refine lv_if_eq (x := r1) (tgt := 12) hx hb dX5_image_6 (by decide) (fun q3 => ?_) (fun q3 => ?_)
  · replace h := if_t q3 h
    refine lv_aload_n hx hb dX5_image_12 rfl (lv_at hl 0 rfl) ?_
    obtain ⟨r4, e5, h⟩ := bdP_ok h
    refine r_callVi (As := []) (rest := []) (ws' := (wl 203 a (eX g a M))) (ok_X5_noStair l g a hI M r4 e5) ⟨hx, hb, hml, hown, hts⟩ (cwV 0 hts gX5_image_X5_noStair rfl rfl rfl (by decide +kernel) ⟨Nat.le_of_ble_eq_true rfl, Nat.le_of_ble_eq_true rfl⟩) hK (r_recv hK hP 0 (by decide) eX_0 (show vwCl[5]? = some (RX5, TX5, 11) from rfl)) hS hP (fun _ hq => aA_mono hS.1 hq) (fun _ h _ => h) rfl hl.1 rfl (Nat.le_of_ble_eq_true rfl) dX5_image_13 ⟨Nat.zero_le _, Nat.zero_le _⟩ (fun H locs hP hS => ?_)
    refine lv_if_eq (x := r4) (tgt := 22) hx hb dX5_image_16 (by decide) (fun q6 => ?_) (fun q6 => ?_)
    · replace h := if_t q6 h
      refine lv_aload_n hx hb dX5_image_22 rfl (lv_at hl 0 rfl) ?_
      refine r_get (v := .ref (a 131)) hx hb hts iX5 hown hK hP 0 (by decide) eX_0 rfl 4 (by decide) w36 rfl dX5_image_23 ?_
      refine lv_iload_n hx hb dX5_image_26 rfl (lv_at hl 1 rfl) ?_
      obtain ⟨q7, h⟩ := chk_ok h
      refine r_img (i := p1) hx hb hK hP q7 dX5_image_27 ?_
      refine lv_aload_n hx hb dX5_image_28 rfl (lv_at hl 0 rfl) ?_
      refine r_get (v := .ref (a 4)) hx hb hts iX5 hown hK hP 0 (by decide) eX_0 rfl 2 (by decide) w25 rfl dX5_image_29 ?_
      obtain ⟨M10, e9, h⟩ := bdV_ok h
      refine r_callVv (As := [.ref (a 4)]) (rest := []) (ws' := (wl 203 a (eX g a M10))) (ok_X2_become l g a hI (158 + 5 * (Int32.toNatClampNeg p1)) 4 M M10 (st_i _ (bIn_lt q7)) (by decide) e9) ⟨hx, hb, hml, hown, hts⟩ (cwV 1 hts gX5_image_X2_become rfl rfl rfl (by decide +kernel) ⟨Nat.le_of_ble_eq_true rfl, Nat.le_of_ble_eq_true rfl⟩) hK (r_recv hK hP (158 + 5 * (Int32.toNatClampNeg p1)) (isSt_lt (st_i _ (bIn_lt q7)) 0 (by decide)) (eX_Stair (st_i _ (bIn_lt q7))) (show vwCl[2]? = some (RX2, TX2, 8) from rfl)) hS hP (fun _ hq => aA_mono hS.1 hq) (fun _ h _ => h) rfl hl.1 rfl (Nat.le_of_ble_eq_true rfl) dX5_image_32 ⟨Nat.zero_le _, Nat.zero_le _⟩ (fun H locs hP hS => ?_)
      refine lv_iconst (v := 1) hx hb dX5_image_35 (by decide) ?_
      rw [hQz]
      exact r_iret (v := 1) hx hb hr hlk hS ((Prod.mk.inj (Option.some.inj h)).2 ▸ hP) (Prod.mk.inj (Option.some.inj h)).1 dX5_image_36
    · replace h := if_f q6 h
      refine lv_ldc (v := (-1000002)) hx hb hown w140 dX5_image_19 ?_
      rw [hQz]
      exact r_iret (v := (-1000002)) hx hb hr hlk hS ((Prod.mk.inj (Option.some.inj h)).2 ▸ hP) (Prod.mk.inj (Option.some.inj h)).1 dX5_image_21
  · replace h := if_f q3 h
    refine lv_ldc (v := (-1000001)) hx hb hown w73 dX5_image_9 ?_
    rw [hQz]
    exact r_iret (v := (-1000001)) hx hb hr hlk hS ((Prod.mk.inj (Option.some.inj h)).2 ▸ hP) (Prod.mk.inj (Option.some.inj h)).1 dX5_image_11
def rmX5_restore : Room := { frames := 2, cells := 0, slots := 0, locals := 82 }
set_option maxHeartbeats 4000000 in
set_option maxRecDepth 100000 in
theorem ok_X5_restore (l : Launch) (g : gT) (a : Nat → Nat) (hI : ij 203 a) (p1 : Int32) (M : Mem) (M' : Mem) (r : Int32) (h : fX5_restore p1 M = some (r, M')) : MI l yX5_restore wsX5_restore rmX5_restore g 203 a [.ref (a 0), .int p1] (wl 203 a (eX g a M)) (wl 203 a (eX g a M')) r := by
  refine MI_of (cc := cX5_restore) (maxL := 2) (rt := .int) (by decide) rfl (Nat.le_of_ble_eq_true rfl) ?_
  intro p e s m args below meth c ls hx hb hml hr hlk hts hown hK hP hl
  have hown : s.vm.findClass RX5 = some m.cls := hown
  have hl : lv_has ls 2 [(0, .ref (a 0)), (1, .int p1)] := hl
  have hS : va_S (aA 203 a s.heap.size) s.heap s.heap [] := va_S.rf
  have iX2 : ∀ w ∈ wsX20, w ∈ wsX5_restore := fun w h => List.mem_cons_of_mem _ (List.mem_append_left _ (List.mem_append_right _ h))
  have iX5 : ∀ w ∈ wsX50, w ∈ wsX5_restore := fun w h => List.mem_cons_of_mem _ (List.mem_append_left _ (List.mem_append_left _ (List.mem_append_right _ h)))
  have w36 := hts (.fieldLink RX5 36 "StepRiders" "images" "[LStepRiders$Stair;") (by decide +kernel)
  have w130 := hts (.fieldLink RX5 130 "StepRiders$Stair" "riders" "I") (by decide +kernel)
  have w25 := hts (.fieldLink RX5 25 "StepRiders" "now" "LStepRiders$Stair;") (by decide +kernel)
  have w32 := hts (.fieldLink RX5 32 "StepRiders" "acts" "LStepRiders$Acts;") (by decide +kernel)
  have w140 := hts (.constant RX5 140 (-1000002)) (by decide +kernel)
  have w73 := hts (.constant RX5 73 (-1000001)) (by decide +kernel)
  obtain ⟨Qz, hQz⟩ : ∃ Qz : State → Prop, Qz = MQ below (qI g (wl 203 a (eX g a M')) r (aA 203 a s.heap.size)) args s 0 0 (aA 203 a s.heap.size) := ⟨_, rfl⟩
  rw [← hQz]
  unfold fX5_restore at h
  refine lv_iload_n hx hb dX5_restore_0 rfl (lv_at hl 1 rfl) ?_
  refine lv_iconst (v := 0) hx hb dX5_restore_1 (by decide) ?_
  refine lv_iconst (v := 1) hx hb dX5_restore_2 (by decide) ?_
  obtain ⟨r1, e2, h⟩ := bdP_ok h
  refine r_callSi (As := [.int p1, .int 0, .int 1]) (rest := []) (ws' := (wl 203 a (eX g a M))) (ok_X5_outside l g p1 0 1 r1 e2) ⟨hx, hb, hml, hown, hts⟩ (cwS 3 hts gX5_restore_X5_outside rfl rfl rfl (by decide +kernel) ⟨Nat.le_of_ble_eq_true rfl, Nat.le_of_ble_eq_true rfl⟩) hK hS nilP (P_A hS.1) (fun _ _ hk => wl_keep hP hk) rfl hl.1 rfl (Nat.le_of_ble_eq_true rfl) dX5_restore_3 ⟨Nat.zero_le _, Nat.zero_le _⟩ (fun H locs hP hS => ?_)
  refine lv_if_eq (x := r1) (tgt := 12) hx hb dX5_restore_6 (by decide) (fun q3 => ?_) (fun q3 => ?_)
  · replace h := if_t q3 h
    refine lv_aload_n hx hb dX5_restore_12 rfl (lv_at hl 0 rfl) ?_
    refine r_get (v := .ref (a 131)) hx hb hts iX5 hown hK hP 0 (by decide) eX_0 rfl 4 (by decide) w36 rfl dX5_restore_13 ?_
    refine lv_iload_n hx hb dX5_restore_16 rfl (lv_at hl 1 rfl) ?_
    obtain ⟨q4, h⟩ := chk_ok h
    refine r_img (i := p1) hx hb hK hP q4 dX5_restore_17 ?_
    refine r_get (v := .int (M (158 + 5 * (Int32.toNatClampNeg p1)) 3)) hx hb hts iX2 hown hK hP (158 + 5 * (Int32.toNatClampNeg p1)) (isSt_lt (st_i _ (bIn_lt q4)) 0 (by decide)) (eX_Stair (st_i _ (bIn_lt q4))) rfl 3 (by decide) w130 rfl dX5_restore_18 ?_
    refine lv_if_ne (x := (M (158 + 5 * (Int32.toNatClampNeg p1)) 3)) (tgt := 27) hx hb dX5_restore_21 (by decide) (fun q5 => ?_) (fun q5 => ?_)
    · replace h := if_f q5 h
      refine lv_aload_n hx hb dX5_restore_27 rfl (lv_at hl 0 rfl) ?_
      refine r_get (v := .ref (a 4)) hx hb hts iX5 hown hK hP 0 (by decide) eX_0 rfl 2 (by decide) w25 rfl dX5_restore_28 ?_
      refine lv_aload_n hx hb dX5_restore_31 rfl (lv_at hl 0 rfl) ?_
      refine r_get (v := .ref (a 131)) hx hb hts iX5 hown hK hP 0 (by decide) eX_0 rfl 4 (by decide) w36 rfl dX5_restore_32 ?_
      refine lv_iload_n hx hb dX5_restore_35 rfl (lv_at hl 1 rfl) ?_
      obtain ⟨q6, h⟩ := chk_ok h
      refine r_img (i := p1) hx hb hK hP q6 dX5_restore_36 ?_
      obtain ⟨M9, e8, h⟩ := bdV_ok h
      refine r_callVv (As := [.ref (a (158 + 5 * (Int32.toNatClampNeg p1)))]) (rest := []) (ws' := (wl 203 a (eX g a M9))) (ok_X2_become l g a hI 4 (158 + 5 * (Int32.toNatClampNeg p1)) M M9 (by decide) (st_i _ (bIn_lt q6)) e8) ⟨hx, hb, hml, hown, hts⟩ (cwV 1 hts gX5_restore_X2_become rfl rfl rfl (by decide +kernel) ⟨Nat.le_of_ble_eq_true rfl, Nat.le_of_ble_eq_true rfl⟩) hK (r_recv hK hP 4 (isSt_lt (c := 4) (by decide) 0 (by decide)) (eX_Stair (c := 4) (by decide)) (show vwCl[2]? = some (RX2, TX2, 8) from rfl)) hS hP (fun _ hq => aA_mono hS.1 hq) (fun _ h _ => h) rfl hl.1 rfl (Nat.le_of_ble_eq_true rfl) dX5_restore_37 ⟨Nat.zero_le _, Nat.zero_le _⟩ (fun H locs hP hS => ?_)
      refine lv_aload_n hx hb dX5_restore_40 rfl (lv_at hl 0 rfl) ?_
      refine r_get (v := .ref (a 9)) hx hb hts iX5 hown hK hP 0 (by decide) eX_0 rfl 3 (by decide) w32 rfl dX5_restore_41 ?_
      obtain ⟨M12, e11, h⟩ := bdV_ok h
      refine r_callVv (As := []) (rest := []) (ws' := (wl 203 a (eX g a M12))) (ok_X0_forgetAll l g a hI M9 M12 e11) ⟨hx, hb, hml, hown, hts⟩ (cwV 0 hts gX5_restore_X0_forgetAll rfl rfl rfl (by decide +kernel) ⟨Nat.le_of_ble_eq_true rfl, Nat.le_of_ble_eq_true rfl⟩) hK (r_recv hK hP 9 (by decide) eX_9 (show vwCl[0]? = some (RX0, TX0, 3) from rfl)) hS hP (fun _ hq => aA_mono hS.1 hq) (fun _ h _ => h) rfl hl.1 rfl (Nat.le_of_ble_eq_true rfl) dX5_restore_44 ⟨Nat.zero_le _, Nat.zero_le _⟩ (fun H locs hP hS => ?_)
      refine lv_iconst (v := 1) hx hb dX5_restore_47 (by decide) ?_
      rw [hQz]
      exact r_iret (v := 1) hx hb hr hlk hS ((Prod.mk.inj (Option.some.inj h)).2 ▸ hP) (Prod.mk.inj (Option.some.inj h)).1 dX5_restore_48
    · replace h := if_t q5 h
      refine lv_ldc (v := (-1000002)) hx hb hown w140 dX5_restore_24 ?_
      rw [hQz]
      exact r_iret (v := (-1000002)) hx hb hr hlk hS ((Prod.mk.inj (Option.some.inj h)).2 ▸ hP) (Prod.mk.inj (Option.some.inj h)).1 dX5_restore_26
  · replace h := if_f q3 h
    refine lv_ldc (v := (-1000001)) hx hb hown w73 dX5_restore_9 ?_
    rw [hQz]
    exact r_iret (v := (-1000001)) hx hb hr hlk hS ((Prod.mk.inj (Option.some.inj h)).2 ▸ hP) (Prod.mk.inj (Option.some.inj h)).1 dX5_restore_11
def rmX5_kind : Room := { frames := 3, cells := 0, slots := 0, locals := 103 }
set_option maxHeartbeats 4000000 in
set_option maxRecDepth 100000 in
theorem ok_X5_kind (l : Launch) (g : gT) (a : Nat → Nat) (hI : ij 203 a) (p1 : Int32) (M : Mem) (r : Int32) (h : fX5_kind p1 M = some r) : MI l yX5_kind wsX5_kind rmX5_kind g 203 a [.ref (a 0), .int p1] (wl 203 a (eX g a M)) (wl 203 a (eX g a M)) r := by
  refine MI_of (cc := cX5_kind) (maxL := 2) (rt := .int) (by decide) rfl (Nat.le_of_ble_eq_true rfl) ?_
  intro p e s m args below meth c ls hx hb hml hr hlk hts hown hK hP hl
  have hown : s.vm.findClass RX5 = some m.cls := hown
  have hl : lv_has ls 2 [(0, .ref (a 0)), (1, .int p1)] := hl
  have hS : va_S (aA 203 a s.heap.size) s.heap s.heap [] := va_S.rf
  have iX2 : ∀ w ∈ wsX20, w ∈ wsX5_kind := fun w h => List.mem_cons_of_mem _ (List.mem_append_right _ h)
  have iX5 : ∀ w ∈ wsX50, w ∈ wsX5_kind := fun w h => List.mem_cons_of_mem _ (List.mem_append_left _ (List.mem_append_right _ h))
  have w25 := hts (.fieldLink RX5 25 "StepRiders" "now" "LStepRiders$Stair;") (by decide +kernel)
  have w257 := hts (.fieldLink RX5 257 "StepRiders$Stair" "kind" "[I") (by decide +kernel)
  have w73 := hts (.constant RX5 73 (-1000001)) (by decide +kernel)
  obtain ⟨Qz, hQz⟩ : ∃ Qz : State → Prop, Qz = MQ below (qI g (wl 203 a (eX g a M)) r (aA 203 a s.heap.size)) args s 0 0 (aA 203 a s.heap.size) := ⟨_, rfl⟩
  rw [← hQz]
  unfold fX5_kind at h
  refine lv_aload_n hx hb dX5_kind_0 rfl (lv_at hl 0 rfl) ?_
  refine lv_iload_n hx hb dX5_kind_1 rfl (lv_at hl 1 rfl) ?_
  obtain ⟨r1, e2, h⟩ := bdP_ok h
  refine r_callVi (As := [.int p1]) (rest := []) (ws' := (wl 203 a (eX g a M))) (ok_X5_noRider l g a hI p1 M r1 e2) ⟨hx, hb, hml, hown, hts⟩ (cwV 1 hts gX5_kind_X5_noRider rfl rfl rfl (by decide +kernel) ⟨Nat.le_of_ble_eq_true rfl, Nat.le_of_ble_eq_true rfl⟩) hK (r_recv hK hP 0 (by decide) eX_0 (show vwCl[5]? = some (RX5, TX5, 11) from rfl)) hS hP (fun _ hq => aA_mono hS.1 hq) (fun _ h _ => h) rfl hl.1 rfl (Nat.le_of_ble_eq_true rfl) dX5_kind_2 ⟨Nat.zero_le _, Nat.zero_le _⟩ (fun H locs hP hS => ?_)
  refine lv_if_eq (x := r1) (tgt := 13) hx hb dX5_kind_5 (by decide) (fun q3 => ?_) (fun q3 => ?_)
  · replace h := if_t q3 h
    refine lv_aload_n hx hb dX5_kind_13 rfl (lv_at hl 0 rfl) ?_
    refine r_get (v := .ref (a 4)) hx hb hts iX5 hown hK hP 0 (by decide) eX_0 rfl 2 (by decide) w25 rfl dX5_kind_14 ?_
    refine r_get (v := .ref (a 5)) hx hb hts iX2 hown hK hP 4 (isSt_lt (c := 4) (by decide) 0 (by decide)) (eX_Stair (c := 4) (by decide)) rfl 4 (by decide) w257 rfl dX5_kind_17 ?_
    refine lv_iload_n hx hb dX5_kind_20 rfl (lv_at hl 1 rfl) ?_
    obtain ⟨q4, h⟩ := chk_ok h
    refine r_iald (i := p1) (h := M 5) hx hb hK hP 5 (isSt_lt (c := 4) (by decide) 1 (by decide)) (eX_Sa1 (c := 4) (by decide)) q4 dX5_kind_21 ?_
    rw [hQz]
    exact r_iret (v := (M 5 (Int32.toNatClampNeg p1))) hx hb hr hlk hS hP (Option.some.inj h) dX5_kind_22
  · replace h := if_f q3 h
    refine lv_ldc (v := (-1000001)) hx hb hown w73 dX5_kind_8 ?_
    refine lv_goto (tgt := 22) hx hb dX5_kind_10 (by decide) ?_
    rw [hQz]
    exact r_iret (v := (-1000001)) hx hb hr hlk hS hP (Option.some.inj h) dX5_kind_22
