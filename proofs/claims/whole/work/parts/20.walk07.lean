def rmX5_findPaces : Room := { frames := 6, cells := 0, slots := 0, locals := 176 }
set_option maxHeartbeats 4000000 in
set_option maxRecDepth 100000 in
theorem ok_X5_findPaces (l : Launch) (g : gT) (a : Nat → Nat) (hI : ij 203 a) (p1 : Int32) (p2 : Int32) (M : Mem) (M' : Mem) (r : Int32) (h : fX5_findPaces p1 p2 M = some (r, M')) : MI l yX5_findPaces wsX5_findPaces rmX5_findPaces g 203 a [.ref (a 0), .int p1, .int p2] (wl 203 a (eX g a M)) (wl 203 a (eX g a M')) r := by
  refine MI_of (cc := cX5_findPaces) (maxL := 7) (rt := .int) (by decide) rfl (Nat.le_of_ble_eq_true rfl) ?_
  intro p e s m args below meth c ls hx hb hml hr hlk hts hown hK hP hl
  have hown : s.vm.findClass RX5 = some m.cls := hown
  have hl : lv_has ls 7 [(0, .ref (a 0)), (1, .int p1), (2, .int p2)] := hl
  have hS : va_S (aA 203 a s.heap.size) s.heap s.heap [] := va_S.rf
  have iX2 : ∀ w ∈ wsX20, w ∈ wsX5_findPaces := fun w h => List.mem_cons_of_mem _ (List.mem_append_right _ h)
  have iX5 : ∀ w ∈ wsX50, w ∈ wsX5_findPaces := fun w h => List.mem_cons_of_mem _ (List.mem_append_left _ (List.mem_append_right _ h))
  have w53 := hts (.fieldLink RX5 53 "StepRiders" "paces" "[I") (by decide +kernel)
  have w57 := hts (.fieldLink RX5 57 "StepRiders" "bestPaces" "[I") (by decide +kernel)
  have w102 := hts (.methodLink RX5 102 arraycopyName) (by decide +kernel)
  have wnat := hts (.native arraycopyName) (by decide +kernel)
  have wstat := hts (.static arraycopyName) (by decide +kernel)
  have wini := hts (.initialized "java/lang/System") (by decide +kernel)
  have w50 := hts (.fieldLink RX5 50 "StepRiders" "levels" "[LStepRiders$Stair;") (by decide +kernel)
  have w160 := hts (.fieldLink RX5 160 "StepRiders$Stair" "at" "[I") (by decide +kernel)
  have w121 := hts (.constant RX5 121 (-1000000)) (by decide +kernel)
  have w25 := hts (.fieldLink RX5 25 "StepRiders" "now" "LStepRiders$Stair;") (by decide +kernel)
  obtain ⟨Qz, hQz⟩ : ∃ Qz : State → Prop, Qz = MQ below (qI g (wl 203 a (eX g a M')) r (aA 203 a s.heap.size)) args s 0 0 (aA 203 a s.heap.size) := ⟨_, rfl⟩
  rw [← hQz]
  have B97 : ∀ (k26 : Int32 → Int32 → Int32 → Mem → Option (Int32 × Mem)) (C26 : ∀ (x3 : Int32) (x4 : Int32) (x5 : Int32) (M : Mem) (H : Heap) (locs : List Loc) (ls : Array Slot), k26 x3 x4 x5 M = some (r, M') → va_P g.1 vwCl (wl 203 a (eX g a M)) H → va_S (aA 203 a s.heap.size) s.heap H locs → lv_has ls 7 [(0, .ref (a 0)), (1, .int p1), (2, .int p2), (3, .int x3), (4, .int x4), (5, .int x5)] → W p l e rmX5_findPaces s m args below meth c H locs 0 0 Qz (F0 m 26 ls [])), ∀ (x3 : Int32) (x4 : Int32) (x5 : Int32) (M : Mem) (H : Heap) (locs : List Loc) (ls : Array Slot), fX5_findPaces_b97 p1 p2 k26 x3 x4 x5 M = some (r, M') → va_P g.1 vwCl (wl 203 a (eX g a M)) H → va_S (aA 203 a s.heap.size) s.heap H locs → lv_has ls 7 [(0, .ref (a 0)), (1, .int p1), (2, .int p2), (3, .int x3), (4, .int x4), (5, .int x5)] → W p l e rmX5_findPaces s m args below meth c H locs 0 0 Qz (F0 m 97 ls []) := by
    intro k26 C26 x3 x4 x5 M H locs ls h hP hS hl
    unfold fX5_findPaces_b97 at h
    refine lv_iinc (v := (x5 + 1)) (lv' := [(5, .int (x5 + 1)), (0, .ref (a 0)), (1, .int p1), (2, .int p2), (3, .int x3), (4, .int x4)]) hx hb dX5_findPaces_97 hl (k := 5) rfl rfl (by decide) rfl (fun ls hl => ?_)
    refine lv_goto (tgt := 26) hx hb dX5_findPaces_100 (by decide) ?_
    exact C26 x3 x4 (x5 + 1) M _ _ _ h hP hS (lv_sub hl [1, 2, 3, 4, 5, 0] rfl)
  have B80 : ∀ (k26 : Int32 → Int32 → Int32 → Mem → Option (Int32 × Mem)) (C26 : ∀ (x3 : Int32) (x4 : Int32) (x5 : Int32) (M : Mem) (H : Heap) (locs : List Loc) (ls : Array Slot), k26 x3 x4 x5 M = some (r, M') → va_P g.1 vwCl (wl 203 a (eX g a M)) H → va_S (aA 203 a s.heap.size) s.heap H locs → lv_has ls 7 [(0, .ref (a 0)), (1, .int p1), (2, .int p2), (3, .int x3), (4, .int x4), (5, .int x5)] → W p l e rmX5_findPaces s m args below meth c H locs 0 0 Qz (F0 m 26 ls [])), ∀ (x4 : Int32) (x5 : Int32) (x6 : Int32) (M : Mem) (H : Heap) (locs : List Loc) (ls : Array Slot), fX5_findPaces_b80 p1 p2 k26 x4 x5 x6 M = some (r, M') → va_P g.1 vwCl (wl 203 a (eX g a M)) H → va_S (aA 203 a s.heap.size) s.heap H locs → lv_has ls 7 [(0, .ref (a 0)), (1, .int p1), (2, .int p2), (4, .int x4), (5, .int x5), (6, .int x6)] → W p l e rmX5_findPaces s m args below meth c H locs 0 0 Qz (F0 m 80 ls []) := by
    intro k26 C26 x4 x5 x6 M H locs ls h hP hS hl
    unfold fX5_findPaces_b80 at h
    refine lv_iload hx hb dX5_findPaces_80 (lv_at hl 5 rfl) ?_
    refine lv_istore_n (lv' := [(3, .int x6), (0, .ref (a 0)), (1, .int p1), (2, .int p2), (4, .int x4), (5, .int x5), (6, .int x6)]) hx hb dX5_findPaces_82 rfl hl (by decide) rfl (fun ls hl => ?_)
    refine lv_aload_n hx hb dX5_findPaces_83 rfl (lv_at hl 1 rfl) ?_
    refine r_get (v := .ref (a 140)) hx hb hts iX5 hown hK hP 0 (by decide) eX_0 rfl 8 (by decide) w53 rfl dX5_findPaces_84 ?_
    refine lv_iconst (v := 0) hx hb dX5_findPaces_87 (by decide) ?_
    refine lv_aload_n hx hb dX5_findPaces_88 rfl (lv_at hl 1 rfl) ?_
    refine r_get (v := .ref (a 141)) hx hb hts iX5 hown hK hP 0 (by decide) eX_0 rfl 9 (by decide) w57 rfl dX5_findPaces_89 ?_
    refine lv_iconst (v := 0) hx hb dX5_findPaces_92 (by decide) ?_
    refine lv_iload_n hx hb dX5_findPaces_93 rfl (lv_at hl 3 rfl) ?_
    obtain ⟨q1, h⟩ := chk_ok h
    refine r_copy (sp := 0) (dp := 0) (k := p2) (h := M 140) (h' := M 141) (f' := eX g a (va_up M 141 (va_cpy (M 140) (M 141) (Int32.toNatClampNeg 0) (Int32.toNatClampNeg 0) (Int32.toNatClampNeg p2)))) hx hb (hml.trans hl.1.symm) hown w102 wnat wstat wini hK hI (fun _ h => aA_in h) hP hS 140 141 (by decide) (by decide) rfl rfl q1 (eX_ua (fun _ => rfl)) (Nat.le_of_ble_eq_true rfl) (Nat.le_of_ble_eq_true rfl) dX5_findPaces_94 (fun H locs hP hS => ?_)
    exact B97 k26 C26 x6 x4 x5 (va_up M 141 (va_cpy (M 140) (M 141) (Int32.toNatClampNeg 0) (Int32.toNatClampNeg 0) (Int32.toNatClampNeg p2))) _ _ _ h hP hS (lv_sub hl [1, 2, 3, 0, 4, 5] rfl)
  have B26 : ∀ (k26 : Int32 → Int32 → Int32 → Mem → Option (Int32 × Mem)) (C26 : ∀ (x3 : Int32) (x4 : Int32) (x5 : Int32) (M : Mem) (H : Heap) (locs : List Loc) (ls : Array Slot), k26 x3 x4 x5 M = some (r, M') → va_P g.1 vwCl (wl 203 a (eX g a M)) H → va_S (aA 203 a s.heap.size) s.heap H locs → lv_has ls 7 [(0, .ref (a 0)), (1, .int p1), (2, .int p2), (3, .int x3), (4, .int x4), (5, .int x5)] → W p l e rmX5_findPaces s m args below meth c H locs 0 0 Qz (F0 m 26 ls [])), ∀ (x3 : Int32) (x4 : Int32) (x5 : Int32) (M : Mem) (H : Heap) (locs : List Loc) (ls : Array Slot), fX5_findPaces_b26 p1 p2 k26 x3 x4 x5 M = some (r, M') → va_P g.1 vwCl (wl 203 a (eX g a M)) H → va_S (aA 203 a s.heap.size) s.heap H locs → lv_has ls 7 [(0, .ref (a 0)), (1, .int p1), (2, .int p2), (3, .int x3), (4, .int x4), (5, .int x5)] → W p l e rmX5_findPaces s m args below meth c H locs 0 0 Qz (F0 m 26 ls []) := by
    intro k26 C26 x3 x4 x5 M H locs ls h hP hS hl
    unfold fX5_findPaces_b26 at h
    refine lv_iload hx hb dX5_findPaces_26 (lv_at hl 5 rfl) ?_
    refine lv_iload hx hb dX5_findPaces_28 (lv_at hl 4 rfl) ?_
    refine lv_icmp_ge (x := x5) (y := x4) (tgt := 103) hx hb dX5_findPaces_30 (by decide) (fun q1 => ?_) (fun q1 => ?_)
    · replace h := if_t q1 h
      refine lv_iload_n hx hb dX5_findPaces_103 rfl (lv_at hl 3 rfl) ?_
      rw [hQz]
      exact r_iret (v := x3) hx hb hr hlk hS ((Prod.mk.inj (Option.some.inj h)).2 ▸ hP) (Prod.mk.inj (Option.some.inj h)).1 dX5_findPaces_104
    · replace h := if_f q1 h
      refine lv_aload_n hx hb dX5_findPaces_33 rfl (lv_at hl 0 rfl) ?_
      refine lv_aload_n hx hb dX5_findPaces_34 rfl (lv_at hl 0 rfl) ?_
      refine lv_iload hx hb dX5_findPaces_35 (lv_at hl 5 rfl) ?_
      refine lv_iload_n hx hb dX5_findPaces_37 rfl (lv_at hl 2 rfl) ?_
      obtain ⟨r2, M4, e3, h⟩ := bdI_ok h
      refine r_callVi (As := [.int x5, .int p2]) (rest := [.ref (a 0)]) (ws' := (wl 203 a (eX g a M4))) (ok_X5_writePaces l g a hI x5 p2 M M4 r2 e3) ⟨hx, hb, hml, hown, hts⟩ (cwV 2 hts gX5_findPaces_X5_writePaces rfl rfl rfl (by decide +kernel) ⟨Nat.le_of_ble_eq_true rfl, Nat.le_of_ble_eq_true rfl⟩) hK (r_recv hK hP 0 (by decide) eX_0 (show vwCl[5]? = some (RX5, TX5, 11) from rfl)) hS hP (fun _ hq => aA_mono hS.1 hq) (fun _ h _ => h) rfl hl.1 rfl (Nat.le_of_ble_eq_true rfl) dX5_findPaces_38 ⟨Nat.zero_le _, Nat.zero_le _⟩ (fun H locs hP hS => ?_)
      refine lv_iload_n hx hb dX5_findPaces_41 rfl (lv_at hl 2 rfl) ?_
      obtain ⟨M7, e6, h⟩ := bdV_ok h
      refine r_callVv (As := [.int r2, .int p2]) (rest := []) (ws' := (wl 203 a (eX g a M7))) (ok_X5_passLevels l g a hI r2 p2 M4 M7 e6) ⟨hx, hb, hml, hown, hts⟩ (cwV 2 hts gX5_findPaces_X5_passLevels rfl rfl rfl (by decide +kernel) ⟨Nat.le_of_ble_eq_true rfl, Nat.le_of_ble_eq_true rfl⟩) hK (r_recv hK hP 0 (by decide) eX_0 (show vwCl[5]? = some (RX5, TX5, 11) from rfl)) hS hP (fun _ hq => aA_mono hS.1 hq) (fun _ h _ => h) rfl hl.1 rfl (Nat.le_of_ble_eq_true rfl) dX5_findPaces_42 ⟨Nat.zero_le _, Nat.zero_le _⟩ (fun H locs hP hS => ?_)
      refine lv_aload_n hx hb dX5_findPaces_45 rfl (lv_at hl 0 rfl) ?_
      refine lv_iload_n hx hb dX5_findPaces_46 rfl (lv_at hl 2 rfl) ?_
      obtain ⟨r8, e9, h⟩ := bdP_ok h
      refine r_callVi (As := [.int p2]) (rest := []) (ws' := (wl 203 a (eX g a M7))) (ok_X5_sumOfPaces l g a hI p2 M7 r8 e9) ⟨hx, hb, hml, hown, hts⟩ (cwV 1 hts gX5_findPaces_X5_sumOfPaces rfl rfl rfl (by decide +kernel) ⟨Nat.le_of_ble_eq_true rfl, Nat.le_of_ble_eq_true rfl⟩) hK (r_recv hK hP 0 (by decide) eX_0 (show vwCl[5]? = some (RX5, TX5, 11) from rfl)) hS hP (fun _ hq => aA_mono hS.1 hq) (fun _ h _ => h) rfl hl.1 rfl (Nat.le_of_ble_eq_true rfl) dX5_findPaces_47 ⟨Nat.zero_le _, Nat.zero_le _⟩ (fun H locs hP hS => ?_)
      refine lv_istore (lv' := [(6, .int r8), (0, .ref (a 0)), (1, .int p1), (2, .int p2), (3, .int x3), (4, .int x4), (5, .int x5)]) hx hb dX5_findPaces_50 hl (by decide) rfl (fun ls hl => ?_)
      refine lv_aload_n hx hb dX5_findPaces_52 rfl (lv_at hl 1 rfl) ?_
      refine r_get (v := .ref (a 139)) hx hb hts iX5 hown hK hP 0 (by decide) eX_0 rfl 7 (by decide) w50 rfl dX5_findPaces_53 ?_
      refine lv_iload_n hx hb dX5_findPaces_56 rfl (lv_at hl 3 rfl) ?_
      obtain ⟨q10, h⟩ := chk_ok h
      refine r_lev (i := p2) hx hb hK hP q10 dX5_findPaces_57 ?_
      refine r_get (v := .ref (a ((168 + 5 * (Int32.toNatClampNeg p2)) + 3))) hx hb hts iX2 hown hK hP (168 + 5 * (Int32.toNatClampNeg p2)) (isSt_lt (st_l _ (bIn_lt q10)) 0 (by decide)) (eX_Stair (st_l _ (bIn_lt q10))) rfl 6 (by decide) w160 rfl dX5_findPaces_58 ?_
      refine lv_iload_n hx hb dX5_findPaces_61 rfl (lv_at hl 2 rfl) ?_
      obtain ⟨q11, h⟩ := chk_ok h
      refine r_iald (i := p1) (h := M7 ((168 + 5 * (Int32.toNatClampNeg p2)) + 3)) hx hb hK hP ((168 + 5 * (Int32.toNatClampNeg p2)) + 3) (isSt_lt (st_l _ (bIn_lt q10)) 3 (by decide)) (eX_Sa3 (st_l _ (bIn_lt q10))) q11 dX5_findPaces_62 ?_
      refine lv_bipush (v := 99) hx hb dX5_findPaces_63 (by decide) ?_
      refine lv_icmp_ne (x := (M7 ((168 + 5 * (Int32.toNatClampNeg p2)) + 3) (Int32.toNatClampNeg p1))) (y := 99) (tgt := 97) hx hb dX5_findPaces_65 (by decide) (fun q12 => ?_) (fun q12 => ?_)
      · replace h := if_f q12 h
        exact B97 k26 C26 x3 x4 x5 M7 _ _ _ h hP hS (lv_sub hl [1, 2, 3, 4, 5, 6] rfl)
      · replace h := if_t q12 h
        refine lv_iload_n hx hb dX5_findPaces_68 rfl (lv_at hl 4 rfl) ?_
        refine lv_ldc (v := (-1000000)) hx hb hown w121 dX5_findPaces_69 ?_
        refine lv_icmp_eq (x := x3) (y := (-1000000)) (tgt := 80) hx hb dX5_findPaces_71 (by decide) (fun q13 => ?_) (fun q13 => ?_)
        · replace h := if_t q13 h
          exact B80 k26 C26 x4 x5 r8 M7 _ _ _ h hP hS (lv_sub hl [1, 2, 3, 5, 6, 0] rfl)
        · replace h := if_f q13 h
          refine lv_iload hx hb dX5_findPaces_74 (lv_at hl 0 rfl) ?_
          refine lv_iload_n hx hb dX5_findPaces_76 rfl (lv_at hl 4 rfl) ?_
          refine lv_icmp_ge (x := r8) (y := x3) (tgt := 97) hx hb dX5_findPaces_77 (by decide) (fun q14 => ?_) (fun q14 => ?_)
          · replace h := if_t q14 h
            exact B97 k26 C26 x3 x4 x5 M7 _ _ _ h hP hS (lv_sub hl [1, 2, 3, 4, 5, 6] rfl)
          · replace h := if_f q14 h
            exact B80 k26 C26 x4 x5 r8 M7 _ _ _ h hP hS (lv_sub hl [1, 2, 3, 5, 6, 0] rfl)
  have L26 : ∀ (n : Nat), ∀ (x3 : Int32) (x4 : Int32) (x5 : Int32) (M : Mem) (H : Heap) (locs : List Loc) (ls : Array Slot), fX5_findPaces_l26 p1 p2 n x3 x4 x5 M = some (r, M') → va_P g.1 vwCl (wl 203 a (eX g a M)) H → va_S (aA 203 a s.heap.size) s.heap H locs → lv_has ls 7 [(0, .ref (a 0)), (1, .int p1), (2, .int p2), (3, .int x3), (4, .int x4), (5, .int x5)] → W p l e rmX5_findPaces s m args below meth c H locs 0 0 Qz (F0 m 26 ls []) := by
    intro n
    induction n with
    | zero => intro x3 x4 x5 M H locs ls h; exact absurd (show (none : Option (Int32 × Mem)) = some _ from h) (fun z => by cases z)
    | succ n ih => exact fun x3 x4 x5 M H locs ls h hP hS hl => B26 (fX5_findPaces_l26 p1 p2 n) ih x3 x4 x5 M H locs ls h hP hS hl
  unfold fX5_findPaces at h
  refine lv_ldc (v := (-1000000)) hx hb hown w121 dX5_findPaces_0 ?_
  refine lv_istore_n (lv' := [(3, .int (-1000000)), (0, .ref (a 0)), (1, .int p1), (2, .int p2)]) hx hb dX5_findPaces_2 rfl hl (by decide) rfl (fun ls hl => ?_)
  refine lv_iconst (v := 3) hx hb dX5_findPaces_3 (by decide) ?_
  refine lv_iload_n hx hb dX5_findPaces_4 rfl (lv_at hl 3 rfl) ?_
  obtain ⟨r1, e2, h⟩ := bdP_ok h
  refine r_callSi (As := [.int 3, .int p2]) (rest := []) (ws' := (wl 203 a (eX g a M))) (ok_X5_power l g 3 p2 r1 e2) ⟨hx, hb, hml, hown, hts⟩ (cwS 2 hts gX5_findPaces_X5_power rfl rfl rfl (by decide +kernel) ⟨Nat.le_of_ble_eq_true rfl, Nat.le_of_ble_eq_true rfl⟩) hK hS nilP (P_A hS.1) (fun _ _ hk => wl_keep hP hk) rfl hl.1 rfl (Nat.le_of_ble_eq_true rfl) dX5_findPaces_5 ⟨Nat.zero_le _, Nat.zero_le _⟩ (fun H locs hP hS => ?_)
  refine lv_istore (lv' := [(4, .int r1), (3, .int (-1000000)), (0, .ref (a 0)), (1, .int p1), (2, .int p2)]) hx hb dX5_findPaces_8 hl (by decide) rfl (fun ls hl => ?_)
  refine lv_aload_n hx hb dX5_findPaces_10 rfl (lv_at hl 2 rfl) ?_
  refine r_get (v := .ref (a 139)) hx hb hts iX5 hown hK hP 0 (by decide) eX_0 rfl 7 (by decide) w50 rfl dX5_findPaces_11 ?_
  refine lv_iconst (v := 0) hx hb dX5_findPaces_14 (by decide) ?_
  obtain ⟨q3, h⟩ := chk_ok h
  refine r_lev (i := 0) hx hb hK hP q3 dX5_findPaces_15 ?_
  refine lv_aload_n hx hb dX5_findPaces_16 rfl (lv_at hl 2 rfl) ?_
  refine r_get (v := .ref (a 4)) hx hb hts iX5 hown hK hP 0 (by decide) eX_0 rfl 2 (by decide) w25 rfl dX5_findPaces_17 ?_
  obtain ⟨M6, e5, h⟩ := bdV_ok h
  refine r_callVv (As := [.ref (a 4)]) (rest := []) (ws' := (wl 203 a (eX g a M6))) (ok_X2_become l g a hI (168 + 5 * (Int32.toNatClampNeg 0)) 4 M M6 (st_l _ (bIn_lt q3)) (by decide) e5) ⟨hx, hb, hml, hown, hts⟩ (cwV 1 hts gX5_findPaces_X2_become rfl rfl rfl (by decide +kernel) ⟨Nat.le_of_ble_eq_true rfl, Nat.le_of_ble_eq_true rfl⟩) hK (r_recv hK hP (168 + 5 * (Int32.toNatClampNeg 0)) (isSt_lt (st_l _ (bIn_lt q3)) 0 (by decide)) (eX_Stair (st_l _ (bIn_lt q3))) (show vwCl[2]? = some (RX2, TX2, 8) from rfl)) hS hP (fun _ hq => aA_mono hS.1 hq) (fun _ h _ => h) rfl hl.1 rfl (Nat.le_of_ble_eq_true rfl) dX5_findPaces_20 ⟨Nat.zero_le _, Nat.zero_le _⟩ (fun H locs hP hS => ?_)
  refine lv_iconst (v := 0) hx hb dX5_findPaces_23 (by decide) ?_
  refine lv_istore (lv' := [(5, .int 0), (4, .int r1), (3, .int (-1000000)), (0, .ref (a 0)), (1, .int p1), (2, .int p2)]) hx hb dX5_findPaces_24 hl (by decide) rfl (fun ls hl => ?_)
  exact L26 FU (-1000000) r1 0 M6 _ _ _ h hP hS (lv_sub hl [3, 4, 5, 2, 1, 0] rfl)
def rmX5_pace : Room := { frames := 7, cells := 0, slots := 0, locals := 202 }
set_option maxHeartbeats 4000000 in
set_option maxRecDepth 100000 in
theorem ok_X5_pace (l : Launch) (g : gT) (a : Nat → Nat) (hI : ij 203 a) (p1 : Int32) (p2 : Int32) (p3 : Int32) (M : Mem) (M' : Mem) (r : Int32) (h : fX5_pace p1 p2 p3 M = some (r, M')) : MI l yX5_pace wsX5_pace rmX5_pace g 203 a [.ref (a 0), .int p1, .int p2, .int p3] (wl 203 a (eX g a M)) (wl 203 a (eX g a M')) r := by
  refine MI_of (cc := cX5_pace) (maxL := 5) (rt := .int) (by decide) rfl (Nat.le_of_ble_eq_true rfl) ?_
  intro p e s m args below meth c ls hx hb hml hr hlk hts hown hK hP hl
  have hown : s.vm.findClass RX5 = some m.cls := hown
  have hl : lv_has ls 5 [(0, .ref (a 0)), (1, .int p1), (2, .int p2), (3, .int p3)] := hl
  have hS : va_S (aA 203 a s.heap.size) s.heap s.heap [] := va_S.rf
  have iX5 : ∀ w ∈ wsX50, w ∈ wsX5_pace := fun w h => List.mem_cons_of_mem _ (List.mem_append_left _ (List.mem_append_right _ h))
  have w73 := hts (.constant RX5 73 (-1000001)) (by decide +kernel)
  have w121 := hts (.constant RX5 121 (-1000000)) (by decide +kernel)
  have w57 := hts (.fieldLink RX5 57 "StepRiders" "bestPaces" "[I") (by decide +kernel)
  obtain ⟨Qz, hQz⟩ : ∃ Qz : State → Prop, Qz = MQ below (qI g (wl 203 a (eX g a M')) r (aA 203 a s.heap.size)) args s 0 0 (aA 203 a s.heap.size) := ⟨_, rfl⟩
  rw [← hQz]
  unfold fX5_pace at h
  refine lv_aload_n hx hb dX5_pace_0 rfl (lv_at hl 0 rfl) ?_
  refine lv_iload_n hx hb dX5_pace_1 rfl (lv_at hl 1 rfl) ?_
  obtain ⟨r1, e2, h⟩ := bdP_ok h
  refine r_callVi (As := [.int p1]) (rest := []) (ws' := (wl 203 a (eX g a M))) (ok_X5_noRider l g a hI p1 M r1 e2) ⟨hx, hb, hml, hown, hts⟩ (cwV 1 hts gX5_pace_X5_noRider rfl rfl rfl (by decide +kernel) ⟨Nat.le_of_ble_eq_true rfl, Nat.le_of_ble_eq_true rfl⟩) hK (r_recv hK hP 0 (by decide) eX_0 (show vwCl[5]? = some (RX5, TX5, 11) from rfl)) hS hP (fun _ hq => aA_mono hS.1 hq) (fun _ h _ => h) rfl hl.1 rfl (Nat.le_of_ble_eq_true rfl) dX5_pace_2 ⟨Nat.zero_le _, Nat.zero_le _⟩ (fun H locs hP hS => ?_)
  refine lv_if_ne (x := r1) (tgt := 23) hx hb dX5_pace_5 (by decide) (fun q3 => ?_) (fun q3 => ?_)
  · replace h := if_f q3 h
    refine lv_ldc (v := (-1000001)) hx hb hown w73 dX5_pace_23 ?_
    rw [hQz]
    exact r_iret (v := (-1000001)) hx hb hr hlk hS ((Prod.mk.inj (Option.some.inj h)).2 ▸ hP) (Prod.mk.inj (Option.some.inj h)).1 dX5_pace_25
  · replace h := if_t q3 h
    refine lv_iload_n hx hb dX5_pace_8 rfl (lv_at hl 2 rfl) ?_
    refine lv_iconst (v := 1) hx hb dX5_pace_9 (by decide) ?_
    refine lv_bipush (v := 6) hx hb dX5_pace_10 (by decide) ?_
    obtain ⟨r4, e5, h⟩ := bdP_ok h
    refine r_callSi (As := [.int p2, .int 1, .int 6]) (rest := []) (ws' := (wl 203 a (eX g a M))) (ok_X5_outside l g p2 1 6 r4 e5) ⟨hx, hb, hml, hown, hts⟩ (cwS 3 hts gX5_pace_X5_outside rfl rfl rfl (by decide +kernel) ⟨Nat.le_of_ble_eq_true rfl, Nat.le_of_ble_eq_true rfl⟩) hK hS nilP (P_A hS.1) (fun _ _ hk => wl_keep hP hk) rfl hl.1 rfl (Nat.le_of_ble_eq_true rfl) dX5_pace_12 ⟨Nat.zero_le _, Nat.zero_le _⟩ (fun H locs hP hS => ?_)
    refine lv_if_ne (x := r4) (tgt := 23) hx hb dX5_pace_15 (by decide) (fun q6 => ?_) (fun q6 => ?_)
    · replace h := if_f q6 h
      refine lv_ldc (v := (-1000001)) hx hb hown w73 dX5_pace_23 ?_
      rw [hQz]
      exact r_iret (v := (-1000001)) hx hb hr hlk hS ((Prod.mk.inj (Option.some.inj h)).2 ▸ hP) (Prod.mk.inj (Option.some.inj h)).1 dX5_pace_25
    · replace h := if_t q6 h
      refine lv_iload_n hx hb dX5_pace_18 rfl (lv_at hl 3 rfl) ?_
      refine lv_iconst (v := (-1)) hx hb dX5_pace_19 (by decide) ?_
      refine lv_icmp_ge (x := p3) (y := (-1)) (tgt := 26) hx hb dX5_pace_20 (by decide) (fun q7 => ?_) (fun q7 => ?_)
      · replace h := if_t q7 h
        refine lv_aload_n hx hb dX5_pace_26 rfl (lv_at hl 0 rfl) ?_
        refine lv_iload_n hx hb dX5_pace_27 rfl (lv_at hl 1 rfl) ?_
        refine lv_iload_n hx hb dX5_pace_28 rfl (lv_at hl 2 rfl) ?_
        obtain ⟨r8, M10, e9, h⟩ := bdI_ok h
        refine r_callVi (As := [.int p1, .int p2]) (rest := []) (ws' := (wl 203 a (eX g a M10))) (ok_X5_findPaces l g a hI p1 p2 M M10 r8 e9) ⟨hx, hb, hml, hown, hts⟩ (cwV 2 hts gX5_pace_X5_findPaces rfl rfl rfl (by decide +kernel) ⟨Nat.le_of_ble_eq_true rfl, Nat.le_of_ble_eq_true rfl⟩) hK (r_recv hK hP 0 (by decide) eX_0 (show vwCl[5]? = some (RX5, TX5, 11) from rfl)) hS hP (fun _ hq => aA_mono hS.1 hq) (fun _ h _ => h) rfl hl.1 rfl (Nat.le_of_ble_eq_true rfl) dX5_pace_29 ⟨Nat.zero_le _, Nat.zero_le _⟩ (fun H locs hP hS => ?_)
        refine lv_istore (lv' := [(4, .int r8), (0, .ref (a 0)), (1, .int p1), (2, .int p2), (3, .int p3)]) hx hb dX5_pace_32 hl (by decide) rfl (fun ls hl => ?_)
        refine lv_iload hx hb dX5_pace_34 (lv_at hl 0 rfl) ?_
        refine lv_ldc (v := (-1000000)) hx hb hown w121 dX5_pace_36 ?_
        refine lv_icmp_eq (x := r8) (y := (-1000000)) (tgt := 46) hx hb dX5_pace_38 (by decide) (fun q11 => ?_) (fun q11 => ?_)
        · replace h := if_t q11 h
          refine lv_iload hx hb dX5_pace_46 (lv_at hl 0 rfl) ?_
          rw [hQz]
          exact r_iret (v := r8) hx hb hr hlk hS ((Prod.mk.inj (Option.some.inj h)).2 ▸ hP) (Prod.mk.inj (Option.some.inj h)).1 dX5_pace_48
        · replace h := if_f q11 h
          refine lv_iload_n hx hb dX5_pace_41 rfl (lv_at hl 4 rfl) ?_
          refine lv_iconst (v := (-1)) hx hb dX5_pace_42 (by decide) ?_
          refine lv_icmp_ne (x := p3) (y := (-1)) (tgt := 49) hx hb dX5_pace_43 (by decide) (fun q12 => ?_) (fun q12 => ?_)
          · replace h := if_f q12 h
            refine lv_iload_n hx hb dX5_pace_49 rfl (lv_at hl 4 rfl) ?_
            refine lv_iload_n hx hb dX5_pace_50 rfl (lv_at hl 3 rfl) ?_
            refine lv_icmp_ge (x := p3) (y := p2) (tgt := 63) hx hb dX5_pace_51 (by decide) (fun q13 => ?_) (fun q13 => ?_)
            · replace h := if_t q13 h
              refine lv_ldc (v := (-1000000)) hx hb hown w121 dX5_pace_63 ?_
              rw [hQz]
              exact r_iret (v := (-1000000)) hx hb hr hlk hS ((Prod.mk.inj (Option.some.inj h)).2 ▸ hP) (Prod.mk.inj (Option.some.inj h)).1 dX5_pace_65
            · replace h := if_f q13 h
              refine lv_aload_n hx hb dX5_pace_54 rfl (lv_at hl 1 rfl) ?_
              refine r_get (v := .ref (a 141)) hx hb hts iX5 hown hK hP 0 (by decide) eX_0 rfl 9 (by decide) w57 rfl dX5_pace_55 ?_
              refine lv_iload_n hx hb dX5_pace_58 rfl (lv_at hl 4 rfl) ?_
              obtain ⟨q14, h⟩ := chk_ok h
              refine r_iald (i := p3) (h := M10 141) hx hb hK hP 141 (by decide) rfl q14 dX5_pace_59 ?_
              refine lv_goto (tgt := 65) hx hb dX5_pace_60 (by decide) ?_
              rw [hQz]
              exact r_iret (v := (M10 141 (Int32.toNatClampNeg p3))) hx hb hr hlk hS ((Prod.mk.inj (Option.some.inj h)).2 ▸ hP) (Prod.mk.inj (Option.some.inj h)).1 dX5_pace_65
          · replace h := if_t q12 h
            refine lv_iload hx hb dX5_pace_46 (lv_at hl 0 rfl) ?_
            rw [hQz]
            exact r_iret (v := r8) hx hb hr hlk hS ((Prod.mk.inj (Option.some.inj h)).2 ▸ hP) (Prod.mk.inj (Option.some.inj h)).1 dX5_pace_48
      · replace h := if_f q7 h
        refine lv_ldc (v := (-1000001)) hx hb hown w73 dX5_pace_23 ?_
        rw [hQz]
        exact r_iret (v := (-1000001)) hx hb hr hlk hS ((Prod.mk.inj (Option.some.inj h)).2 ▸ hP) (Prod.mk.inj (Option.some.inj h)).1 dX5_pace_25
def rmX5_trialFits : Room := { frames := 5, cells := 0, slots := 0, locals := 152 }
set_option maxHeartbeats 4000000 in
set_option maxRecDepth 100000 in
theorem ok_X5_trialFits (l : Launch) (g : gT) (a : Nat → Nat) (hI : ij 203 a) (p1 : Int32) (c2 : Nat) (p3 : Int32) (p4 : Int32) (M : Mem) (M' : Mem) (r : Int32) (h2 : isRw c2 = true) (h : fX5_trialFits p1 c2 p3 p4 M = some (r, M')) : MI l yX5_trialFits wsX5_trialFits rmX5_trialFits g 203 a [.ref (a 0), .int p1, .ref (a c2), .int p3, .int p4] (wl 203 a (eX g a M)) (wl 203 a (eX g a M')) r := by
  refine MI_of (cc := cX5_trialFits) (maxL := 6) (rt := .boolean) (by decide) rfl (Nat.le_of_ble_eq_true rfl) ?_
  intro p e s m args below meth c ls hx hb hml hr hlk hts hown hK hP hl
  have hown : s.vm.findClass RX5 = some m.cls := hown
  have hl : lv_has ls 6 [(0, .ref (a 0)), (1, .int p1), (2, .ref (a c2)), (3, .int p3), (4, .int p4)] := hl
  have hS : va_S (aA 203 a s.heap.size) s.heap s.heap [] := va_S.rf
  have iX1 : ∀ w ∈ wsX10, w ∈ wsX5_trialFits := fun w h => List.mem_cons_of_mem _ (List.mem_append_right _ h)
  have iX2 : ∀ w ∈ wsX20, w ∈ wsX5_trialFits := fun w h => List.mem_cons_of_mem _ (List.mem_append_left _ (List.mem_append_right _ h))
  have iX5 : ∀ w ∈ wsX50, w ∈ wsX5_trialFits := fun w h => List.mem_cons_of_mem _ (List.mem_append_left _ (List.mem_append_left _ (List.mem_append_right _ h)))
  have w47 := hts (.fieldLink RX5 47 "StepRiders" "trial" "LStepRiders$Stair;") (by decide +kernel)
  have w160 := hts (.fieldLink RX5 160 "StepRiders$Stair" "at" "[I") (by decide +kernel)
  have w93 := hts (.fieldLink RX5 93 "StepRiders$Row" "items" "[I") (by decide +kernel)
  obtain ⟨Qz, hQz⟩ : ∃ Qz : State → Prop, Qz = MQ below (qI g (wl 203 a (eX g a M')) r (aA 203 a s.heap.size)) args s 0 0 (aA 203 a s.heap.size) := ⟨_, rfl⟩
  rw [← hQz]
  have B3 : ∀ (k3 : Int32 → Mem → Option (Int32 × Mem)) (C3 : ∀ (x5 : Int32) (M : Mem) (H : Heap) (locs : List Loc) (ls : Array Slot), k3 x5 M = some (r, M') → va_P g.1 vwCl (wl 203 a (eX g a M)) H → va_S (aA 203 a s.heap.size) s.heap H locs → lv_has ls 6 [(0, .ref (a 0)), (1, .int p1), (2, .ref (a c2)), (3, .int p3), (4, .int p4), (5, .int x5)] → W p l e rmX5_trialFits s m args below meth c H locs 0 0 Qz (F0 m 3 ls [])), ∀ (x5 : Int32) (M : Mem) (H : Heap) (locs : List Loc) (ls : Array Slot), fX5_trialFits_b3 p1 c2 p3 p4 k3 x5 M = some (r, M') → va_P g.1 vwCl (wl 203 a (eX g a M)) H → va_S (aA 203 a s.heap.size) s.heap H locs → lv_has ls 6 [(0, .ref (a 0)), (1, .int p1), (2, .ref (a c2)), (3, .int p3), (4, .int p4), (5, .int x5)] → W p l e rmX5_trialFits s m args below meth c H locs 0 0 Qz (F0 m 3 ls []) := by
    intro k3 C3 x5 M H locs ls h hP hS hl
    unfold fX5_trialFits_b3 at h
    refine lv_iload hx hb dX5_trialFits_3 (lv_at hl 5 rfl) ?_
    refine lv_iload hx hb dX5_trialFits_5 (lv_at hl 4 rfl) ?_
    refine lv_icmp_ge (x := x5) (y := p4) (tgt := 47) hx hb dX5_trialFits_7 (by decide) (fun q1 => ?_) (fun q1 => ?_)
    · replace h := if_t q1 h
      refine lv_iconst (v := 1) hx hb dX5_trialFits_47 (by decide) ?_
      rw [hQz]
      exact r_zret (v := 1) hx hb hr hlk hS ((Prod.mk.inj (Option.some.inj h)).2 ▸ hP) (Prod.mk.inj (Option.some.inj h)).1 (by decide) dX5_trialFits_48
    · replace h := if_f q1 h
      refine lv_aload_n hx hb dX5_trialFits_10 rfl (lv_at hl 0 rfl) ?_
      refine r_get (v := .ref (a 134)) hx hb hts iX5 hown hK hP 0 (by decide) eX_0 rfl 6 (by decide) w47 rfl dX5_trialFits_11 ?_
      obtain ⟨r2, M4, e3, h⟩ := bdI_ok h
      refine r_callVi (As := []) (rest := []) (ws' := (wl 203 a (eX g a (pS M 134 M4)))) (ok_X2_pass l g (gA a 134) (gA_ij (c := 134) (by decide) hI) (gS M 134) M4 r2 e3) ⟨hx, hb, hml, hown, hts⟩ (cwV 0 hts gX5_trialFits_X2_pass rfl rfl rfl (by decide +kernel) ⟨Nat.le_of_ble_eq_true rfl, Nat.le_of_ble_eq_true rfl⟩) hK (r_recv hK hP 134 (isSt_lt (c := 134) (by decide) 0 (by decide)) (eX_Stair (c := 134) (by decide)) (show vwCl[2]? = some (RX2, TX2, 8) from rfl)) hS (S_cut (c := 134) (by decide) hP) (S_A (c := 134) (by decide) hS.1) (S_join (c := 134) (by decide) hI hP) rfl hl.1 rfl (Nat.le_of_ble_eq_true rfl) dX5_trialFits_14 ⟨Nat.zero_le _, Nat.zero_le _⟩ (fun H locs hP hS => ?_)
      refine lv_pop hx hb dX5_trialFits_17 rfl ?_
      refine lv_aload_n hx hb dX5_trialFits_18 rfl (lv_at hl 0 rfl) ?_
      refine r_get (v := .ref (a 134)) hx hb hts iX5 hown hK hP 0 (by decide) eX_0 rfl 6 (by decide) w47 rfl dX5_trialFits_19 ?_
      refine r_get (v := .ref (a 137)) hx hb hts iX2 hown hK hP 134 (isSt_lt (c := 134) (by decide) 0 (by decide)) (eX_Stair (c := 134) (by decide)) rfl 6 (by decide) w160 rfl dX5_trialFits_22 ?_
      refine lv_iload_n hx hb dX5_trialFits_25 rfl (lv_at hl 1 rfl) ?_
      obtain ⟨q5, h⟩ := chk_ok h
      refine r_iald (i := p1) (h := (pS M 134 M4) 137) hx hb hK hP 137 (isSt_lt (c := 134) (by decide) 3 (by decide)) (eX_Sa3 (c := 134) (by decide)) q5 dX5_trialFits_26 ?_
      refine lv_aload_n hx hb dX5_trialFits_27 rfl (lv_at hl 2 rfl) ?_
      refine r_get (v := .ref (a (c2 + 1))) hx hb hts iX1 hown hK hP c2 (isRw_lt h2) (eX_Row h2) rfl 0 (by decide) w93 rfl dX5_trialFits_28 ?_
      refine lv_iload_n hx hb dX5_trialFits_31 rfl (lv_at hl 3 rfl) ?_
      refine lv_iload hx hb dX5_trialFits_32 (lv_at hl 5 rfl) ?_
      refine lv_iadd (x := p3) (y := x5) hx hb dX5_trialFits_34 ?_
      obtain ⟨q6, h⟩ := chk_ok h
      refine r_iald (i := (p3 + x5)) (h := (pS M 134 M4) (c2 + 1)) hx hb hK hP (c2 + 1) (isRw_lt1 h2) (eX_Ri h2) q6 dX5_trialFits_35 ?_
      refine lv_icmp_eq (x := ((pS M 134 M4) 137 (Int32.toNatClampNeg p1))) (y := ((pS M 134 M4) (c2 + 1) (Int32.toNatClampNeg (p3 + x5)))) (tgt := 41) hx hb dX5_trialFits_36 (by decide) (fun q7 => ?_) (fun q7 => ?_)
      · replace h := if_t q7 h
        refine lv_iinc (v := (x5 + 1)) (lv' := [(5, .int (x5 + 1)), (0, .ref (a 0)), (1, .int p1), (2, .ref (a c2)), (3, .int p3), (4, .int p4)]) hx hb dX5_trialFits_41 hl (k := 5) rfl rfl (by decide) rfl (fun ls hl => ?_)
        refine lv_goto (tgt := 3) hx hb dX5_trialFits_44 (by decide) ?_
        exact C3 (x5 + 1) (pS M 134 M4) _ _ _ h hP hS (lv_sub hl [1, 2, 3, 4, 5, 0] rfl)
      · replace h := if_f q7 h
        refine lv_iconst (v := 0) hx hb dX5_trialFits_39 (by decide) ?_
        rw [hQz]
        exact r_zret (v := 0) hx hb hr hlk hS ((Prod.mk.inj (Option.some.inj h)).2 ▸ hP) (Prod.mk.inj (Option.some.inj h)).1 (by decide) dX5_trialFits_40
  have L3 : ∀ (n : Nat), ∀ (x5 : Int32) (M : Mem) (H : Heap) (locs : List Loc) (ls : Array Slot), fX5_trialFits_l3 p1 c2 p3 p4 n x5 M = some (r, M') → va_P g.1 vwCl (wl 203 a (eX g a M)) H → va_S (aA 203 a s.heap.size) s.heap H locs → lv_has ls 6 [(0, .ref (a 0)), (1, .int p1), (2, .ref (a c2)), (3, .int p3), (4, .int p4), (5, .int x5)] → W p l e rmX5_trialFits s m args below meth c H locs 0 0 Qz (F0 m 3 ls []) := by
    intro n
    induction n with
    | zero => intro x5 M H locs ls h; exact absurd (show (none : Option (Int32 × Mem)) = some _ from h) (fun z => by cases z)
    | succ n ih => exact fun x5 M H locs ls h hP hS hl => B3 (fX5_trialFits_l3 p1 c2 p3 p4 n) ih x5 M H locs ls h hP hS hl
  unfold fX5_trialFits at h
  refine lv_iconst (v := 0) hx hb dX5_trialFits_0 (by decide) ?_
  refine lv_istore (lv' := [(5, .int 0), (0, .ref (a 0)), (1, .int p1), (2, .ref (a c2)), (3, .int p3), (4, .int p4)]) hx hb dX5_trialFits_1 hl (by decide) rfl (fun ls hl => ?_)
  exact L3 FU 0 M _ _ _ h hP hS (lv_sub hl [1, 2, 3, 4, 5, 0] rfl)
def rmX5_kindsThatFit : Room := { frames := 6, cells := 0, slots := 0, locals := 177 }
set_option maxHeartbeats 4000000 in
set_option maxRecDepth 100000 in
theorem ok_X5_kindsThatFit (l : Launch) (g : gT) (a : Nat → Nat) (hI : ij 203 a) (p1 : Int32) (c2 : Nat) (p3 : Int32) (p4 : Int32) (M : Mem) (M' : Mem) (r : Int32) (h2 : isRw c2 = true) (h : fX5_kindsThatFit p1 c2 p3 p4 M = some (r, M')) : MI l yX5_kindsThatFit wsX5_kindsThatFit rmX5_kindsThatFit g 203 a [.ref (a 0), .int p1, .ref (a c2), .int p3, .int p4] (wl 203 a (eX g a M)) (wl 203 a (eX g a M')) r := by
  refine MI_of (cc := cX5_kindsThatFit) (maxL := 7) (rt := .int) (by decide) rfl (Nat.le_of_ble_eq_true rfl) ?_
  intro p e s m args below meth c ls hx hb hml hr hlk hts hown hK hP hl
  have hown : s.vm.findClass RX5 = some m.cls := hown
  have hl : lv_has ls 7 [(0, .ref (a 0)), (1, .int p1), (2, .ref (a c2)), (3, .int p3), (4, .int p4)] := hl
  have hS : va_S (aA 203 a s.heap.size) s.heap s.heap [] := va_S.rf
  have iX2 : ∀ w ∈ wsX20, w ∈ wsX5_kindsThatFit := fun w h => List.mem_cons_of_mem _ (List.mem_append_left _ (List.mem_append_right _ h))
  have iX5 : ∀ w ∈ wsX50, w ∈ wsX5_kindsThatFit := fun w h => List.mem_cons_of_mem _ (List.mem_append_left _ (List.mem_append_left _ (List.mem_append_right _ h)))
  have w47 := hts (.fieldLink RX5 47 "StepRiders" "trial" "LStepRiders$Stair;") (by decide +kernel)
  have w25 := hts (.fieldLink RX5 25 "StepRiders" "now" "LStepRiders$Stair;") (by decide +kernel)
  have w257 := hts (.fieldLink RX5 257 "StepRiders$Stair" "kind" "[I") (by decide +kernel)
  obtain ⟨Qz, hQz⟩ : ∃ Qz : State → Prop, Qz = MQ below (qI g (wl 203 a (eX g a M')) r (aA 203 a s.heap.size)) args s 0 0 (aA 203 a s.heap.size) := ⟨_, rfl⟩
  rw [← hQz]
  have B6 : ∀ (k6 : Int32 → Int32 → Mem → Option (Int32 × Mem)) (C6 : ∀ (x5 : Int32) (x6 : Int32) (M : Mem) (H : Heap) (locs : List Loc) (ls : Array Slot), k6 x5 x6 M = some (r, M') → va_P g.1 vwCl (wl 203 a (eX g a M)) H → va_S (aA 203 a s.heap.size) s.heap H locs → lv_has ls 7 [(0, .ref (a 0)), (1, .int p1), (2, .ref (a c2)), (3, .int p3), (4, .int p4), (5, .int x5), (6, .int x6)] → W p l e rmX5_kindsThatFit s m args below meth c H locs 0 0 Qz (F0 m 6 ls [])), ∀ (x5 : Int32) (x6 : Int32) (M : Mem) (H : Heap) (locs : List Loc) (ls : Array Slot), fX5_kindsThatFit_b6 p1 c2 p3 p4 k6 x5 x6 M = some (r, M') → va_P g.1 vwCl (wl 203 a (eX g a M)) H → va_S (aA 203 a s.heap.size) s.heap H locs → lv_has ls 7 [(0, .ref (a 0)), (1, .int p1), (2, .ref (a c2)), (3, .int p3), (4, .int p4), (5, .int x5), (6, .int x6)] → W p l e rmX5_kindsThatFit s m args below meth c H locs 0 0 Qz (F0 m 6 ls []) := by
    intro k6 C6 x5 x6 M H locs ls h hP hS hl
    unfold fX5_kindsThatFit_b6 at h
    refine lv_iload hx hb dX5_kindsThatFit_6 (lv_at hl 6 rfl) ?_
    refine lv_iconst (v := 5) hx hb dX5_kindsThatFit_8 (by decide) ?_
    refine lv_icmp_gt (x := x6) (y := 5) (tgt := 60) hx hb dX5_kindsThatFit_9 (by decide) (fun q1 => ?_) (fun q1 => ?_)
    · replace h := if_t q1 h
      refine lv_iload hx hb dX5_kindsThatFit_60 (lv_at hl 5 rfl) ?_
      rw [hQz]
      exact r_iret (v := x5) hx hb hr hlk hS ((Prod.mk.inj (Option.some.inj h)).2 ▸ hP) (Prod.mk.inj (Option.some.inj h)).1 dX5_kindsThatFit_62
    · replace h := if_f q1 h
      refine lv_aload_n hx hb dX5_kindsThatFit_12 rfl (lv_at hl 0 rfl) ?_
      refine r_get (v := .ref (a 134)) hx hb hts iX5 hown hK hP 0 (by decide) eX_0 rfl 6 (by decide) w47 rfl dX5_kindsThatFit_13 ?_
      refine lv_aload_n hx hb dX5_kindsThatFit_16 rfl (lv_at hl 0 rfl) ?_
      refine r_get (v := .ref (a 4)) hx hb hts iX5 hown hK hP 0 (by decide) eX_0 rfl 2 (by decide) w25 rfl dX5_kindsThatFit_17 ?_
      obtain ⟨M4, e3, h⟩ := bdV_ok h
      refine r_callVv (As := [.ref (a 4)]) (rest := []) (ws' := (wl 203 a (eX g a M4))) (ok_X2_become l g a hI 134 4 M M4 (by decide) (by decide) e3) ⟨hx, hb, hml, hown, hts⟩ (cwV 1 hts gX5_kindsThatFit_X2_become rfl rfl rfl (by decide +kernel) ⟨Nat.le_of_ble_eq_true rfl, Nat.le_of_ble_eq_true rfl⟩) hK (r_recv hK hP 134 (isSt_lt (c := 134) (by decide) 0 (by decide)) (eX_Stair (c := 134) (by decide)) (show vwCl[2]? = some (RX2, TX2, 8) from rfl)) hS hP (fun _ hq => aA_mono hS.1 hq) (fun _ h _ => h) rfl hl.1 rfl (Nat.le_of_ble_eq_true rfl) dX5_kindsThatFit_20 ⟨Nat.zero_le _, Nat.zero_le _⟩ (fun H locs hP hS => ?_)
      refine lv_aload_n hx hb dX5_kindsThatFit_23 rfl (lv_at hl 0 rfl) ?_
      refine r_get (v := .ref (a 134)) hx hb hts iX5 hown hK hP 0 (by decide) eX_0 rfl 6 (by decide) w47 rfl dX5_kindsThatFit_24 ?_
      refine r_get (v := .ref (a 135)) hx hb hts iX2 hown hK hP 134 (isSt_lt (c := 134) (by decide) 0 (by decide)) (eX_Stair (c := 134) (by decide)) rfl 4 (by decide) w257 rfl dX5_kindsThatFit_27 ?_
      refine lv_iload_n hx hb dX5_kindsThatFit_30 rfl (lv_at hl 1 rfl) ?_
      refine lv_iload hx hb dX5_kindsThatFit_31 (lv_at hl 6 rfl) ?_
      obtain ⟨q5, h⟩ := chk_ok h
      refine r_iast (i := p1) (x := x6) (h := M4 135) (f' := eX g a (mp M4 135 (Int32.toNatClampNeg p1) x6)) hx hb hK hI (fun _ h => aA_in h) hP hS 135 (isSt_lt (c := 134) (by decide) 1 (by decide)) (eX_Sa1 (c := 134) (by decide)) q5 (eX_ua (fun _ => eX_Sa1 (c := 134) (by decide))) dX5_kindsThatFit_33 (fun H locs hP hS => ?_)
      refine lv_iload hx hb dX5_kindsThatFit_34 (lv_at hl 5 rfl) ?_
      refine lv_aload_n hx hb dX5_kindsThatFit_36 rfl (lv_at hl 0 rfl) ?_
      refine lv_iload_n hx hb dX5_kindsThatFit_37 rfl (lv_at hl 1 rfl) ?_
      refine lv_aload_n hx hb dX5_kindsThatFit_38 rfl (lv_at hl 2 rfl) ?_
      refine lv_iload_n hx hb dX5_kindsThatFit_39 rfl (lv_at hl 3 rfl) ?_
      refine lv_iload hx hb dX5_kindsThatFit_40 (lv_at hl 4 rfl) ?_
      obtain ⟨r6, M8, e7, h⟩ := bdI_ok h
      refine r_callVi (As := [.int p1, .ref (a c2), .int p3, .int p4]) (rest := [.int x5]) (ws' := (wl 203 a (eX g a M8))) (ok_X5_trialFits l g a hI p1 c2 p3 p4 (mp M4 135 (Int32.toNatClampNeg p1) x6) M8 r6 h2 e7) ⟨hx, hb, hml, hown, hts⟩ (cwV 4 hts gX5_kindsThatFit_X5_trialFits rfl rfl rfl (by decide +kernel) ⟨Nat.le_of_ble_eq_true rfl, Nat.le_of_ble_eq_true rfl⟩) hK (r_recv hK hP 0 (by decide) eX_0 (show vwCl[5]? = some (RX5, TX5, 11) from rfl)) hS hP (fun _ hq => aA_mono hS.1 hq) (fun _ h _ => h) rfl hl.1 rfl (Nat.le_of_ble_eq_true rfl) dX5_kindsThatFit_42 ⟨Nat.zero_le _, Nat.zero_le _⟩ (fun H locs hP hS => ?_)
      obtain ⟨r9, e10, h⟩ := bdP_ok h
      refine r_callSi (As := [.int r6]) (rest := [.int x5]) (ws' := (wl 203 a (eX g a M8))) (ok_X5_oneIf l g r6 r9 e10) ⟨hx, hb, hml, hown, hts⟩ (cwS 1 hts gX5_kindsThatFit_X5_oneIf rfl rfl rfl (by decide +kernel) ⟨Nat.le_of_ble_eq_true rfl, Nat.le_of_ble_eq_true rfl⟩) hK hS nilP (P_A hS.1) (fun _ _ hk => wl_keep hP hk) rfl hl.1 rfl (Nat.le_of_ble_eq_true rfl) dX5_kindsThatFit_45 ⟨Nat.zero_le _, Nat.zero_le _⟩ (fun H locs hP hS => ?_)
      refine lv_iload hx hb dX5_kindsThatFit_48 (lv_at hl 6 rfl) ?_
      refine lv_ishl (x := r9) (y := x6) hx hb dX5_kindsThatFit_50 ?_
      refine lv_ior (x := x5) (y := (r9 <<< (x6 &&& 31))) hx hb dX5_kindsThatFit_51 ?_
      refine lv_istore (lv' := [(5, .int (x5 ||| (r9 <<< (x6 &&& 31)))), (0, .ref (a 0)), (1, .int p1), (2, .ref (a c2)), (3, .int p3), (4, .int p4), (6, .int x6)]) hx hb dX5_kindsThatFit_52 hl (by decide) rfl (fun ls hl => ?_)
      refine lv_iinc (v := (x6 + 1)) (lv' := [(6, .int (x6 + 1)), (5, .int (x5 ||| (r9 <<< (x6 &&& 31)))), (0, .ref (a 0)), (1, .int p1), (2, .ref (a c2)), (3, .int p3), (4, .int p4)]) hx hb dX5_kindsThatFit_54 hl (k := 6) rfl rfl (by decide) rfl (fun ls hl => ?_)
      refine lv_goto (tgt := 6) hx hb dX5_kindsThatFit_57 (by decide) ?_
      exact C6 (x5 ||| (r9 <<< (x6 &&& 31))) (x6 + 1) M8 _ _ _ h hP hS (lv_sub hl [2, 3, 4, 5, 6, 1, 0] rfl)
  have L6 : ∀ (n : Nat), ∀ (x5 : Int32) (x6 : Int32) (M : Mem) (H : Heap) (locs : List Loc) (ls : Array Slot), fX5_kindsThatFit_l6 p1 c2 p3 p4 n x5 x6 M = some (r, M') → va_P g.1 vwCl (wl 203 a (eX g a M)) H → va_S (aA 203 a s.heap.size) s.heap H locs → lv_has ls 7 [(0, .ref (a 0)), (1, .int p1), (2, .ref (a c2)), (3, .int p3), (4, .int p4), (5, .int x5), (6, .int x6)] → W p l e rmX5_kindsThatFit s m args below meth c H locs 0 0 Qz (F0 m 6 ls []) := by
    intro n
    induction n with
    | zero => intro x5 x6 M H locs ls h; exact absurd (show (none : Option (Int32 × Mem)) = some _ from h) (fun z => by cases z)
    | succ n ih => exact fun x5 x6 M H locs ls h hP hS hl => B6 (fX5_kindsThatFit_l6 p1 c2 p3 p4 n) ih x5 x6 M H locs ls h hP hS hl
  unfold fX5_kindsThatFit at h
  refine lv_iconst (v := 0) hx hb dX5_kindsThatFit_0 (by decide) ?_
  refine lv_istore (lv' := [(5, .int 0), (0, .ref (a 0)), (1, .int p1), (2, .ref (a c2)), (3, .int p3), (4, .int p4)]) hx hb dX5_kindsThatFit_1 hl (by decide) rfl (fun ls hl => ?_)
  refine lv_iconst (v := 1) hx hb dX5_kindsThatFit_3 (by decide) ?_
  refine lv_istore (lv' := [(6, .int 1), (5, .int 0), (0, .ref (a 0)), (1, .int p1), (2, .ref (a c2)), (3, .int p3), (4, .int p4)]) hx hb dX5_kindsThatFit_4 hl (by decide) rfl (fun ls hl => ?_)
  exact L6 FU 0 1 M _ _ _ h hP hS (lv_sub hl [2, 3, 4, 5, 6, 1, 0] rfl)
def rmX5_lanesThatFit : Room := { frames := 6, cells := 0, slots := 0, locals := 177 }
set_option maxHeartbeats 4000000 in
set_option maxRecDepth 100000 in
theorem ok_X5_lanesThatFit (l : Launch) (g : gT) (a : Nat → Nat) (hI : ij 203 a) (p1 : Int32) (c2 : Nat) (p3 : Int32) (p4 : Int32) (M : Mem) (M' : Mem) (r : Int32) (h2 : isRw c2 = true) (h : fX5_lanesThatFit p1 c2 p3 p4 M = some (r, M')) : MI l yX5_lanesThatFit wsX5_lanesThatFit rmX5_lanesThatFit g 203 a [.ref (a 0), .int p1, .ref (a c2), .int p3, .int p4] (wl 203 a (eX g a M)) (wl 203 a (eX g a M')) r := by
  refine MI_of (cc := cX5_lanesThatFit) (maxL := 7) (rt := .int) (by decide) rfl (Nat.le_of_ble_eq_true rfl) ?_
  intro p e s m args below meth c ls hx hb hml hr hlk hts hown hK hP hl
  have hown : s.vm.findClass RX5 = some m.cls := hown
  have hl : lv_has ls 7 [(0, .ref (a 0)), (1, .int p1), (2, .ref (a c2)), (3, .int p3), (4, .int p4)] := hl
  have hS : va_S (aA 203 a s.heap.size) s.heap s.heap [] := va_S.rf
  have iX2 : ∀ w ∈ wsX20, w ∈ wsX5_lanesThatFit := fun w h => List.mem_cons_of_mem _ (List.mem_append_left _ (List.mem_append_right _ h))
  have iX5 : ∀ w ∈ wsX50, w ∈ wsX5_lanesThatFit := fun w h => List.mem_cons_of_mem _ (List.mem_append_left _ (List.mem_append_left _ (List.mem_append_right _ h)))
  have w47 := hts (.fieldLink RX5 47 "StepRiders" "trial" "LStepRiders$Stair;") (by decide +kernel)
  have w25 := hts (.fieldLink RX5 25 "StepRiders" "now" "LStepRiders$Stair;") (by decide +kernel)
  have w166 := hts (.fieldLink RX5 166 "StepRiders$Stair" "lane" "[I") (by decide +kernel)
  obtain ⟨Qz, hQz⟩ : ∃ Qz : State → Prop, Qz = MQ below (qI g (wl 203 a (eX g a M')) r (aA 203 a s.heap.size)) args s 0 0 (aA 203 a s.heap.size) := ⟨_, rfl⟩
  rw [← hQz]
  have B6 : ∀ (k6 : Int32 → Int32 → Mem → Option (Int32 × Mem)) (C6 : ∀ (x5 : Int32) (x6 : Int32) (M : Mem) (H : Heap) (locs : List Loc) (ls : Array Slot), k6 x5 x6 M = some (r, M') → va_P g.1 vwCl (wl 203 a (eX g a M)) H → va_S (aA 203 a s.heap.size) s.heap H locs → lv_has ls 7 [(0, .ref (a 0)), (1, .int p1), (2, .ref (a c2)), (3, .int p3), (4, .int p4), (5, .int x5), (6, .int x6)] → W p l e rmX5_lanesThatFit s m args below meth c H locs 0 0 Qz (F0 m 6 ls [])), ∀ (x5 : Int32) (x6 : Int32) (M : Mem) (H : Heap) (locs : List Loc) (ls : Array Slot), fX5_lanesThatFit_b6 p1 c2 p3 p4 k6 x5 x6 M = some (r, M') → va_P g.1 vwCl (wl 203 a (eX g a M)) H → va_S (aA 203 a s.heap.size) s.heap H locs → lv_has ls 7 [(0, .ref (a 0)), (1, .int p1), (2, .ref (a c2)), (3, .int p3), (4, .int p4), (5, .int x5), (6, .int x6)] → W p l e rmX5_lanesThatFit s m args below meth c H locs 0 0 Qz (F0 m 6 ls []) := by
    intro k6 C6 x5 x6 M H locs ls h hP hS hl
    unfold fX5_lanesThatFit_b6 at h
    refine lv_iload hx hb dX5_lanesThatFit_6 (lv_at hl 6 rfl) ?_
    refine lv_iconst (v := 1) hx hb dX5_lanesThatFit_8 (by decide) ?_
    refine lv_icmp_gt (x := x6) (y := 1) (tgt := 60) hx hb dX5_lanesThatFit_9 (by decide) (fun q1 => ?_) (fun q1 => ?_)
    · replace h := if_t q1 h
      refine lv_iload hx hb dX5_lanesThatFit_60 (lv_at hl 5 rfl) ?_
      rw [hQz]
      exact r_iret (v := x5) hx hb hr hlk hS ((Prod.mk.inj (Option.some.inj h)).2 ▸ hP) (Prod.mk.inj (Option.some.inj h)).1 dX5_lanesThatFit_62
    · replace h := if_f q1 h
      refine lv_aload_n hx hb dX5_lanesThatFit_12 rfl (lv_at hl 0 rfl) ?_
      refine r_get (v := .ref (a 134)) hx hb hts iX5 hown hK hP 0 (by decide) eX_0 rfl 6 (by decide) w47 rfl dX5_lanesThatFit_13 ?_
      refine lv_aload_n hx hb dX5_lanesThatFit_16 rfl (lv_at hl 0 rfl) ?_
      refine r_get (v := .ref (a 4)) hx hb hts iX5 hown hK hP 0 (by decide) eX_0 rfl 2 (by decide) w25 rfl dX5_lanesThatFit_17 ?_
      obtain ⟨M4, e3, h⟩ := bdV_ok h
      refine r_callVv (As := [.ref (a 4)]) (rest := []) (ws' := (wl 203 a (eX g a M4))) (ok_X2_become l g a hI 134 4 M M4 (by decide) (by decide) e3) ⟨hx, hb, hml, hown, hts⟩ (cwV 1 hts gX5_lanesThatFit_X2_become rfl rfl rfl (by decide +kernel) ⟨Nat.le_of_ble_eq_true rfl, Nat.le_of_ble_eq_true rfl⟩) hK (r_recv hK hP 134 (isSt_lt (c := 134) (by decide) 0 (by decide)) (eX_Stair (c := 134) (by decide)) (show vwCl[2]? = some (RX2, TX2, 8) from rfl)) hS hP (fun _ hq => aA_mono hS.1 hq) (fun _ h _ => h) rfl hl.1 rfl (Nat.le_of_ble_eq_true rfl) dX5_lanesThatFit_20 ⟨Nat.zero_le _, Nat.zero_le _⟩ (fun H locs hP hS => ?_)
      refine lv_aload_n hx hb dX5_lanesThatFit_23 rfl (lv_at hl 0 rfl) ?_
      refine r_get (v := .ref (a 134)) hx hb hts iX5 hown hK hP 0 (by decide) eX_0 rfl 6 (by decide) w47 rfl dX5_lanesThatFit_24 ?_
      refine r_get (v := .ref (a 136)) hx hb hts iX2 hown hK hP 134 (isSt_lt (c := 134) (by decide) 0 (by decide)) (eX_Stair (c := 134) (by decide)) rfl 5 (by decide) w166 rfl dX5_lanesThatFit_27 ?_
      refine lv_iload_n hx hb dX5_lanesThatFit_30 rfl (lv_at hl 1 rfl) ?_
      refine lv_iload hx hb dX5_lanesThatFit_31 (lv_at hl 6 rfl) ?_
      obtain ⟨q5, h⟩ := chk_ok h
      refine r_iast (i := p1) (x := x6) (h := M4 136) (f' := eX g a (mp M4 136 (Int32.toNatClampNeg p1) x6)) hx hb hK hI (fun _ h => aA_in h) hP hS 136 (isSt_lt (c := 134) (by decide) 2 (by decide)) (eX_Sa2 (c := 134) (by decide)) q5 (eX_ua (fun _ => eX_Sa2 (c := 134) (by decide))) dX5_lanesThatFit_33 (fun H locs hP hS => ?_)
      refine lv_iload hx hb dX5_lanesThatFit_34 (lv_at hl 5 rfl) ?_
      refine lv_aload_n hx hb dX5_lanesThatFit_36 rfl (lv_at hl 0 rfl) ?_
      refine lv_iload_n hx hb dX5_lanesThatFit_37 rfl (lv_at hl 1 rfl) ?_
      refine lv_aload_n hx hb dX5_lanesThatFit_38 rfl (lv_at hl 2 rfl) ?_
      refine lv_iload_n hx hb dX5_lanesThatFit_39 rfl (lv_at hl 3 rfl) ?_
      refine lv_iload hx hb dX5_lanesThatFit_40 (lv_at hl 4 rfl) ?_
      obtain ⟨r6, M8, e7, h⟩ := bdI_ok h
      refine r_callVi (As := [.int p1, .ref (a c2), .int p3, .int p4]) (rest := [.int x5]) (ws' := (wl 203 a (eX g a M8))) (ok_X5_trialFits l g a hI p1 c2 p3 p4 (mp M4 136 (Int32.toNatClampNeg p1) x6) M8 r6 h2 e7) ⟨hx, hb, hml, hown, hts⟩ (cwV 4 hts gX5_lanesThatFit_X5_trialFits rfl rfl rfl (by decide +kernel) ⟨Nat.le_of_ble_eq_true rfl, Nat.le_of_ble_eq_true rfl⟩) hK (r_recv hK hP 0 (by decide) eX_0 (show vwCl[5]? = some (RX5, TX5, 11) from rfl)) hS hP (fun _ hq => aA_mono hS.1 hq) (fun _ h _ => h) rfl hl.1 rfl (Nat.le_of_ble_eq_true rfl) dX5_lanesThatFit_42 ⟨Nat.zero_le _, Nat.zero_le _⟩ (fun H locs hP hS => ?_)
      obtain ⟨r9, e10, h⟩ := bdP_ok h
      refine r_callSi (As := [.int r6]) (rest := [.int x5]) (ws' := (wl 203 a (eX g a M8))) (ok_X5_oneIf l g r6 r9 e10) ⟨hx, hb, hml, hown, hts⟩ (cwS 1 hts gX5_lanesThatFit_X5_oneIf rfl rfl rfl (by decide +kernel) ⟨Nat.le_of_ble_eq_true rfl, Nat.le_of_ble_eq_true rfl⟩) hK hS nilP (P_A hS.1) (fun _ _ hk => wl_keep hP hk) rfl hl.1 rfl (Nat.le_of_ble_eq_true rfl) dX5_lanesThatFit_45 ⟨Nat.zero_le _, Nat.zero_le _⟩ (fun H locs hP hS => ?_)
      refine lv_iload hx hb dX5_lanesThatFit_48 (lv_at hl 6 rfl) ?_
      refine lv_ishl (x := r9) (y := x6) hx hb dX5_lanesThatFit_50 ?_
      refine lv_ior (x := x5) (y := (r9 <<< (x6 &&& 31))) hx hb dX5_lanesThatFit_51 ?_
      refine lv_istore (lv' := [(5, .int (x5 ||| (r9 <<< (x6 &&& 31)))), (0, .ref (a 0)), (1, .int p1), (2, .ref (a c2)), (3, .int p3), (4, .int p4), (6, .int x6)]) hx hb dX5_lanesThatFit_52 hl (by decide) rfl (fun ls hl => ?_)
      refine lv_iinc (v := (x6 + 1)) (lv' := [(6, .int (x6 + 1)), (5, .int (x5 ||| (r9 <<< (x6 &&& 31)))), (0, .ref (a 0)), (1, .int p1), (2, .ref (a c2)), (3, .int p3), (4, .int p4)]) hx hb dX5_lanesThatFit_54 hl (k := 6) rfl rfl (by decide) rfl (fun ls hl => ?_)
      refine lv_goto (tgt := 6) hx hb dX5_lanesThatFit_57 (by decide) ?_
      exact C6 (x5 ||| (r9 <<< (x6 &&& 31))) (x6 + 1) M8 _ _ _ h hP hS (lv_sub hl [2, 3, 4, 5, 6, 1, 0] rfl)
  have L6 : ∀ (n : Nat), ∀ (x5 : Int32) (x6 : Int32) (M : Mem) (H : Heap) (locs : List Loc) (ls : Array Slot), fX5_lanesThatFit_l6 p1 c2 p3 p4 n x5 x6 M = some (r, M') → va_P g.1 vwCl (wl 203 a (eX g a M)) H → va_S (aA 203 a s.heap.size) s.heap H locs → lv_has ls 7 [(0, .ref (a 0)), (1, .int p1), (2, .ref (a c2)), (3, .int p3), (4, .int p4), (5, .int x5), (6, .int x6)] → W p l e rmX5_lanesThatFit s m args below meth c H locs 0 0 Qz (F0 m 6 ls []) := by
    intro n
    induction n with
    | zero => intro x5 x6 M H locs ls h; exact absurd (show (none : Option (Int32 × Mem)) = some _ from h) (fun z => by cases z)
    | succ n ih => exact fun x5 x6 M H locs ls h hP hS hl => B6 (fX5_lanesThatFit_l6 p1 c2 p3 p4 n) ih x5 x6 M H locs ls h hP hS hl
  unfold fX5_lanesThatFit at h
  refine lv_iconst (v := 0) hx hb dX5_lanesThatFit_0 (by decide) ?_
  refine lv_istore (lv' := [(5, .int 0), (0, .ref (a 0)), (1, .int p1), (2, .ref (a c2)), (3, .int p3), (4, .int p4)]) hx hb dX5_lanesThatFit_1 hl (by decide) rfl (fun ls hl => ?_)
  refine lv_iconst (v := 0) hx hb dX5_lanesThatFit_3 (by decide) ?_
  refine lv_istore (lv' := [(6, .int 0), (5, .int 0), (0, .ref (a 0)), (1, .int p1), (2, .ref (a c2)), (3, .int p3), (4, .int p4)]) hx hb dX5_lanesThatFit_4 hl (by decide) rfl (fun ls hl => ?_)
  exact L6 FU 0 0 M _ _ _ h hP hS (lv_sub hl [2, 3, 4, 5, 6, 1, 0] rfl)
def rmX5_speedsThatFit : Room := { frames := 6, cells := 0, slots := 0, locals := 177 }
set_option maxHeartbeats 4000000 in
set_option maxRecDepth 100000 in
theorem ok_X5_speedsThatFit (l : Launch) (g : gT) (a : Nat → Nat) (hI : ij 203 a) (p1 : Int32) (c2 : Nat) (p3 : Int32) (p4 : Int32) (M : Mem) (M' : Mem) (r : Int32) (h2 : isRw c2 = true) (h : fX5_speedsThatFit p1 c2 p3 p4 M = some (r, M')) : MI l yX5_speedsThatFit wsX5_speedsThatFit rmX5_speedsThatFit g 203 a [.ref (a 0), .int p1, .ref (a c2), .int p3, .int p4] (wl 203 a (eX g a M)) (wl 203 a (eX g a M')) r := by
  refine MI_of (cc := cX5_speedsThatFit) (maxL := 7) (rt := .int) (by decide) rfl (Nat.le_of_ble_eq_true rfl) ?_
  intro p e s m args below meth c ls hx hb hml hr hlk hts hown hK hP hl
  have hown : s.vm.findClass RX5 = some m.cls := hown
  have hl : lv_has ls 7 [(0, .ref (a 0)), (1, .int p1), (2, .ref (a c2)), (3, .int p3), (4, .int p4)] := hl
  have hS : va_S (aA 203 a s.heap.size) s.heap s.heap [] := va_S.rf
  have iX2 : ∀ w ∈ wsX20, w ∈ wsX5_speedsThatFit := fun w h => List.mem_cons_of_mem _ (List.mem_append_left _ (List.mem_append_right _ h))
  have iX5 : ∀ w ∈ wsX50, w ∈ wsX5_speedsThatFit := fun w h => List.mem_cons_of_mem _ (List.mem_append_left _ (List.mem_append_left _ (List.mem_append_right _ h)))
  have w47 := hts (.fieldLink RX5 47 "StepRiders" "trial" "LStepRiders$Stair;") (by decide +kernel)
  have w25 := hts (.fieldLink RX5 25 "StepRiders" "now" "LStepRiders$Stair;") (by decide +kernel)
  have w154 := hts (.fieldLink RX5 154 "StepRiders$Stair" "speed" "I") (by decide +kernel)
  obtain ⟨Qz, hQz⟩ : ∃ Qz : State → Prop, Qz = MQ below (qI g (wl 203 a (eX g a M')) r (aA 203 a s.heap.size)) args s 0 0 (aA 203 a s.heap.size) := ⟨_, rfl⟩
  rw [← hQz]
  have B6 : ∀ (k6 : Int32 → Int32 → Mem → Option (Int32 × Mem)) (C6 : ∀ (x5 : Int32) (x6 : Int32) (M : Mem) (H : Heap) (locs : List Loc) (ls : Array Slot), k6 x5 x6 M = some (r, M') → va_P g.1 vwCl (wl 203 a (eX g a M)) H → va_S (aA 203 a s.heap.size) s.heap H locs → lv_has ls 7 [(0, .ref (a 0)), (1, .int p1), (2, .ref (a c2)), (3, .int p3), (4, .int p4), (5, .int x5), (6, .int x6)] → W p l e rmX5_speedsThatFit s m args below meth c H locs 0 0 Qz (F0 m 6 ls [])), ∀ (x5 : Int32) (x6 : Int32) (M : Mem) (H : Heap) (locs : List Loc) (ls : Array Slot), fX5_speedsThatFit_b6 p1 c2 p3 p4 k6 x5 x6 M = some (r, M') → va_P g.1 vwCl (wl 203 a (eX g a M)) H → va_S (aA 203 a s.heap.size) s.heap H locs → lv_has ls 7 [(0, .ref (a 0)), (1, .int p1), (2, .ref (a c2)), (3, .int p3), (4, .int p4), (5, .int x5), (6, .int x6)] → W p l e rmX5_speedsThatFit s m args below meth c H locs 0 0 Qz (F0 m 6 ls []) := by
    intro k6 C6 x5 x6 M H locs ls h hP hS hl
    unfold fX5_speedsThatFit_b6 at h
    refine lv_iload hx hb dX5_speedsThatFit_6 (lv_at hl 6 rfl) ?_
    refine lv_iconst (v := 2) hx hb dX5_speedsThatFit_8 (by decide) ?_
    refine lv_icmp_gt (x := x6) (y := 2) (tgt := 58) hx hb dX5_speedsThatFit_9 (by decide) (fun q1 => ?_) (fun q1 => ?_)
    · replace h := if_t q1 h
      refine lv_iload hx hb dX5_speedsThatFit_58 (lv_at hl 5 rfl) ?_
      rw [hQz]
      exact r_iret (v := x5) hx hb hr hlk hS ((Prod.mk.inj (Option.some.inj h)).2 ▸ hP) (Prod.mk.inj (Option.some.inj h)).1 dX5_speedsThatFit_60
    · replace h := if_f q1 h
      refine lv_aload_n hx hb dX5_speedsThatFit_12 rfl (lv_at hl 0 rfl) ?_
      refine r_get (v := .ref (a 134)) hx hb hts iX5 hown hK hP 0 (by decide) eX_0 rfl 6 (by decide) w47 rfl dX5_speedsThatFit_13 ?_
      refine lv_aload_n hx hb dX5_speedsThatFit_16 rfl (lv_at hl 0 rfl) ?_
      refine r_get (v := .ref (a 4)) hx hb hts iX5 hown hK hP 0 (by decide) eX_0 rfl 2 (by decide) w25 rfl dX5_speedsThatFit_17 ?_
      obtain ⟨M4, e3, h⟩ := bdV_ok h
      refine r_callVv (As := [.ref (a 4)]) (rest := []) (ws' := (wl 203 a (eX g a M4))) (ok_X2_become l g a hI 134 4 M M4 (by decide) (by decide) e3) ⟨hx, hb, hml, hown, hts⟩ (cwV 1 hts gX5_speedsThatFit_X2_become rfl rfl rfl (by decide +kernel) ⟨Nat.le_of_ble_eq_true rfl, Nat.le_of_ble_eq_true rfl⟩) hK (r_recv hK hP 134 (isSt_lt (c := 134) (by decide) 0 (by decide)) (eX_Stair (c := 134) (by decide)) (show vwCl[2]? = some (RX2, TX2, 8) from rfl)) hS hP (fun _ hq => aA_mono hS.1 hq) (fun _ h _ => h) rfl hl.1 rfl (Nat.le_of_ble_eq_true rfl) dX5_speedsThatFit_20 ⟨Nat.zero_le _, Nat.zero_le _⟩ (fun H locs hP hS => ?_)
      refine lv_aload_n hx hb dX5_speedsThatFit_23 rfl (lv_at hl 0 rfl) ?_
      refine r_get (v := .ref (a 134)) hx hb hts iX5 hown hK hP 0 (by decide) eX_0 rfl 6 (by decide) w47 rfl dX5_speedsThatFit_24 ?_
      refine lv_iload hx hb dX5_speedsThatFit_27 (lv_at hl 6 rfl) ?_
      refine r_put (v := .int x6) (ty := .int) (f' := eX g a (mp M4 134 1 x6)) hx hb hts iX2 tyX2 tyX2_ok nmX2 hown hK hI (fun _ h => aA_in h) hP hS 134 (isSt_lt (c := 134) (by decide) 0 (by decide)) (eX_Stair (c := 134) (by decide)) rfl 1 (by decide) w154 rfl (by decide +kernel) rfl rfl (Nat.le_of_ble_eq_true rfl) (eX_pStair1 (c := 134) (by decide)) dX5_speedsThatFit_29 (fun H locs hP hS => ?_)
      refine lv_iload hx hb dX5_speedsThatFit_32 (lv_at hl 5 rfl) ?_
      refine lv_aload_n hx hb dX5_speedsThatFit_34 rfl (lv_at hl 0 rfl) ?_
      refine lv_iload_n hx hb dX5_speedsThatFit_35 rfl (lv_at hl 1 rfl) ?_
      refine lv_aload_n hx hb dX5_speedsThatFit_36 rfl (lv_at hl 2 rfl) ?_
      refine lv_iload_n hx hb dX5_speedsThatFit_37 rfl (lv_at hl 3 rfl) ?_
      refine lv_iload hx hb dX5_speedsThatFit_38 (lv_at hl 4 rfl) ?_
      obtain ⟨r5, M7, e6, h⟩ := bdI_ok h
      refine r_callVi (As := [.int p1, .ref (a c2), .int p3, .int p4]) (rest := [.int x5]) (ws' := (wl 203 a (eX g a M7))) (ok_X5_trialFits l g a hI p1 c2 p3 p4 (mp M4 134 1 x6) M7 r5 h2 e6) ⟨hx, hb, hml, hown, hts⟩ (cwV 4 hts gX5_speedsThatFit_X5_trialFits rfl rfl rfl (by decide +kernel) ⟨Nat.le_of_ble_eq_true rfl, Nat.le_of_ble_eq_true rfl⟩) hK (r_recv hK hP 0 (by decide) eX_0 (show vwCl[5]? = some (RX5, TX5, 11) from rfl)) hS hP (fun _ hq => aA_mono hS.1 hq) (fun _ h _ => h) rfl hl.1 rfl (Nat.le_of_ble_eq_true rfl) dX5_speedsThatFit_40 ⟨Nat.zero_le _, Nat.zero_le _⟩ (fun H locs hP hS => ?_)
      obtain ⟨r8, e9, h⟩ := bdP_ok h
      refine r_callSi (As := [.int r5]) (rest := [.int x5]) (ws' := (wl 203 a (eX g a M7))) (ok_X5_oneIf l g r5 r8 e9) ⟨hx, hb, hml, hown, hts⟩ (cwS 1 hts gX5_speedsThatFit_X5_oneIf rfl rfl rfl (by decide +kernel) ⟨Nat.le_of_ble_eq_true rfl, Nat.le_of_ble_eq_true rfl⟩) hK hS nilP (P_A hS.1) (fun _ _ hk => wl_keep hP hk) rfl hl.1 rfl (Nat.le_of_ble_eq_true rfl) dX5_speedsThatFit_43 ⟨Nat.zero_le _, Nat.zero_le _⟩ (fun H locs hP hS => ?_)
      refine lv_iload hx hb dX5_speedsThatFit_46 (lv_at hl 6 rfl) ?_
      refine lv_ishl (x := r8) (y := x6) hx hb dX5_speedsThatFit_48 ?_
      refine lv_ior (x := x5) (y := (r8 <<< (x6 &&& 31))) hx hb dX5_speedsThatFit_49 ?_
      refine lv_istore (lv' := [(5, .int (x5 ||| (r8 <<< (x6 &&& 31)))), (0, .ref (a 0)), (1, .int p1), (2, .ref (a c2)), (3, .int p3), (4, .int p4), (6, .int x6)]) hx hb dX5_speedsThatFit_50 hl (by decide) rfl (fun ls hl => ?_)
      refine lv_iinc (v := (x6 + 1)) (lv' := [(6, .int (x6 + 1)), (5, .int (x5 ||| (r8 <<< (x6 &&& 31)))), (0, .ref (a 0)), (1, .int p1), (2, .ref (a c2)), (3, .int p3), (4, .int p4)]) hx hb dX5_speedsThatFit_52 hl (k := 6) rfl rfl (by decide) rfl (fun ls hl => ?_)
      refine lv_goto (tgt := 6) hx hb dX5_speedsThatFit_55 (by decide) ?_
      exact C6 (x5 ||| (r8 <<< (x6 &&& 31))) (x6 + 1) M7 _ _ _ h hP hS (lv_sub hl [2, 3, 4, 5, 6, 1, 0] rfl)
  have L6 : ∀ (n : Nat), ∀ (x5 : Int32) (x6 : Int32) (M : Mem) (H : Heap) (locs : List Loc) (ls : Array Slot), fX5_speedsThatFit_l6 p1 c2 p3 p4 n x5 x6 M = some (r, M') → va_P g.1 vwCl (wl 203 a (eX g a M)) H → va_S (aA 203 a s.heap.size) s.heap H locs → lv_has ls 7 [(0, .ref (a 0)), (1, .int p1), (2, .ref (a c2)), (3, .int p3), (4, .int p4), (5, .int x5), (6, .int x6)] → W p l e rmX5_speedsThatFit s m args below meth c H locs 0 0 Qz (F0 m 6 ls []) := by
    intro n
    induction n with
    | zero => intro x5 x6 M H locs ls h; exact absurd (show (none : Option (Int32 × Mem)) = some _ from h) (fun z => by cases z)
    | succ n ih => exact fun x5 x6 M H locs ls h hP hS hl => B6 (fX5_speedsThatFit_l6 p1 c2 p3 p4 n) ih x5 x6 M H locs ls h hP hS hl
  unfold fX5_speedsThatFit at h
  refine lv_iconst (v := 0) hx hb dX5_speedsThatFit_0 (by decide) ?_
  refine lv_istore (lv' := [(5, .int 0), (0, .ref (a 0)), (1, .int p1), (2, .ref (a c2)), (3, .int p3), (4, .int p4)]) hx hb dX5_speedsThatFit_1 hl (by decide) rfl (fun ls hl => ?_)
  refine lv_iconst (v := 0) hx hb dX5_speedsThatFit_3 (by decide) ?_
  refine lv_istore (lv' := [(6, .int 0), (5, .int 0), (0, .ref (a 0)), (1, .int p1), (2, .ref (a c2)), (3, .int p3), (4, .int p4)]) hx hb dX5_speedsThatFit_4 hl (by decide) rfl (fun ls hl => ?_)
  exact L6 FU 0 0 M _ _ _ h hP hS (lv_sub hl [2, 3, 4, 5, 6, 1, 0] rfl)
def rmX5_startsThatFit : Room := { frames := 6, cells := 0, slots := 0, locals := 177 }
set_option maxHeartbeats 4000000 in
set_option maxRecDepth 100000 in
theorem ok_X5_startsThatFit (l : Launch) (g : gT) (a : Nat → Nat) (hI : ij 203 a) (p1 : Int32) (c2 : Nat) (p3 : Int32) (p4 : Int32) (M : Mem) (M' : Mem) (r : Int32) (h2 : isRw c2 = true) (h : fX5_startsThatFit p1 c2 p3 p4 M = some (r, M')) : MI l yX5_startsThatFit wsX5_startsThatFit rmX5_startsThatFit g 203 a [.ref (a 0), .int p1, .ref (a c2), .int p3, .int p4] (wl 203 a (eX g a M)) (wl 203 a (eX g a M')) r := by
  refine MI_of (cc := cX5_startsThatFit) (maxL := 7) (rt := .int) (by decide) rfl (Nat.le_of_ble_eq_true rfl) ?_
  intro p e s m args below meth c ls hx hb hml hr hlk hts hown hK hP hl
  have hown : s.vm.findClass RX5 = some m.cls := hown
  have hl : lv_has ls 7 [(0, .ref (a 0)), (1, .int p1), (2, .ref (a c2)), (3, .int p3), (4, .int p4)] := hl
  have hS : va_S (aA 203 a s.heap.size) s.heap s.heap [] := va_S.rf
  have iX2 : ∀ w ∈ wsX20, w ∈ wsX5_startsThatFit := fun w h => List.mem_cons_of_mem _ (List.mem_append_left _ (List.mem_append_right _ h))
  have iX5 : ∀ w ∈ wsX50, w ∈ wsX5_startsThatFit := fun w h => List.mem_cons_of_mem _ (List.mem_append_left _ (List.mem_append_left _ (List.mem_append_right _ h)))
  have w25 := hts (.fieldLink RX5 25 "StepRiders" "now" "LStepRiders$Stair;") (by decide +kernel)
  have w191 := hts (.fieldLink RX5 191 "StepRiders$Stair" "steps" "I") (by decide +kernel)
  have w47 := hts (.fieldLink RX5 47 "StepRiders" "trial" "LStepRiders$Stair;") (by decide +kernel)
  have w160 := hts (.fieldLink RX5 160 "StepRiders$Stair" "at" "[I") (by decide +kernel)
  obtain ⟨Qz, hQz⟩ : ∃ Qz : State → Prop, Qz = MQ below (qI g (wl 203 a (eX g a M')) r (aA 203 a s.heap.size)) args s 0 0 (aA 203 a s.heap.size) := ⟨_, rfl⟩
  rw [← hQz]
  have B86 : ∀ (k19 : Int32 → Int32 → Mem → Option (Int32 × Mem)) (C19 : ∀ (x5 : Int32) (x6 : Int32) (M : Mem) (H : Heap) (locs : List Loc) (ls : Array Slot), k19 x5 x6 M = some (r, M') → va_P g.1 vwCl (wl 203 a (eX g a M)) H → va_S (aA 203 a s.heap.size) s.heap H locs → lv_has ls 7 [(0, .ref (a 0)), (1, .int p1), (2, .ref (a c2)), (3, .int p3), (4, .int p4), (5, .int x5), (6, .int x6)] → W p l e rmX5_startsThatFit s m args below meth c H locs 0 0 Qz (F0 m 19 ls [])), ∀ (x5 : Int32) (x6 : Int32) (M : Mem) (H : Heap) (locs : List Loc) (ls : Array Slot), fX5_startsThatFit_b86 p1 c2 p3 p4 k19 x5 x6 M = some (r, M') → va_P g.1 vwCl (wl 203 a (eX g a M)) H → va_S (aA 203 a s.heap.size) s.heap H locs → lv_has ls 7 [(0, .ref (a 0)), (1, .int p1), (2, .ref (a c2)), (3, .int p3), (4, .int p4), (5, .int x5), (6, .int x6)] → W p l e rmX5_startsThatFit s m args below meth c H locs 0 0 Qz (F0 m 86 ls []) := by
    intro k19 C19 x5 x6 M H locs ls h hP hS hl
    unfold fX5_startsThatFit_b86 at h
    refine lv_iinc (v := (x6 + 1)) (lv' := [(6, .int (x6 + 1)), (0, .ref (a 0)), (1, .int p1), (2, .ref (a c2)), (3, .int p3), (4, .int p4), (5, .int x5)]) hx hb dX5_startsThatFit_86 hl (k := 6) rfl rfl (by decide) rfl (fun ls hl => ?_)
    refine lv_goto (tgt := 19) hx hb dX5_startsThatFit_89 (by decide) ?_
    exact C19 x5 (x6 + 1) M _ _ _ h hP hS (lv_sub hl [1, 2, 3, 4, 5, 6, 0] rfl)
  have B19 : ∀ (k19 : Int32 → Int32 → Mem → Option (Int32 × Mem)) (C19 : ∀ (x5 : Int32) (x6 : Int32) (M : Mem) (H : Heap) (locs : List Loc) (ls : Array Slot), k19 x5 x6 M = some (r, M') → va_P g.1 vwCl (wl 203 a (eX g a M)) H → va_S (aA 203 a s.heap.size) s.heap H locs → lv_has ls 7 [(0, .ref (a 0)), (1, .int p1), (2, .ref (a c2)), (3, .int p3), (4, .int p4), (5, .int x5), (6, .int x6)] → W p l e rmX5_startsThatFit s m args below meth c H locs 0 0 Qz (F0 m 19 ls [])), ∀ (x5 : Int32) (x6 : Int32) (M : Mem) (H : Heap) (locs : List Loc) (ls : Array Slot), fX5_startsThatFit_b19 p1 c2 p3 p4 k19 x5 x6 M = some (r, M') → va_P g.1 vwCl (wl 203 a (eX g a M)) H → va_S (aA 203 a s.heap.size) s.heap H locs → lv_has ls 7 [(0, .ref (a 0)), (1, .int p1), (2, .ref (a c2)), (3, .int p3), (4, .int p4), (5, .int x5), (6, .int x6)] → W p l e rmX5_startsThatFit s m args below meth c H locs 0 0 Qz (F0 m 19 ls []) := by
    intro k19 C19 x5 x6 M H locs ls h hP hS hl
    unfold fX5_startsThatFit_b19 at h
    refine lv_iload hx hb dX5_startsThatFit_19 (lv_at hl 6 rfl) ?_
    refine lv_aload_n hx hb dX5_startsThatFit_21 rfl (lv_at hl 0 rfl) ?_
    refine r_get (v := .ref (a 4)) hx hb hts iX5 hown hK hP 0 (by decide) eX_0 rfl 2 (by decide) w25 rfl dX5_startsThatFit_22 ?_
    refine r_get (v := .int (M 4 0)) hx hb hts iX2 hown hK hP 4 (isSt_lt (c := 4) (by decide) 0 (by decide)) (eX_Stair (c := 4) (by decide)) rfl 0 (by decide) w191 rfl dX5_startsThatFit_25 ?_
    refine lv_icmp_ge (x := x6) (y := (M 4 0)) (tgt := 92) hx hb dX5_startsThatFit_28 (by decide) (fun q1 => ?_) (fun q1 => ?_)
    · replace h := if_t q1 h
      refine lv_iload hx hb dX5_startsThatFit_92 (lv_at hl 5 rfl) ?_
      rw [hQz]
      exact r_iret (v := x5) hx hb hr hlk hS ((Prod.mk.inj (Option.some.inj h)).2 ▸ hP) (Prod.mk.inj (Option.some.inj h)).1 dX5_startsThatFit_94
    · replace h := if_f q1 h
      refine lv_aload_n hx hb dX5_startsThatFit_31 rfl (lv_at hl 0 rfl) ?_
      refine r_get (v := .ref (a 4)) hx hb hts iX5 hown hK hP 0 (by decide) eX_0 rfl 2 (by decide) w25 rfl dX5_startsThatFit_32 ?_
      refine lv_iload_n hx hb dX5_startsThatFit_35 rfl (lv_at hl 1 rfl) ?_
      refine lv_iload hx hb dX5_startsThatFit_36 (lv_at hl 6 rfl) ?_
      obtain ⟨r2, e3, h⟩ := bdP_ok h
      refine r_callVi (As := [.int p1, .int x6]) (rest := []) (ws' := (wl 203 a (eX g a M))) (ok_X2_isFree l g (gA a 4) (gA_ij (c := 4) (by decide) hI) p1 x6 (gS M 4) r2 e3) ⟨hx, hb, hml, hown, hts⟩ (cwV 2 hts gX5_startsThatFit_X2_isFree rfl rfl rfl (by decide +kernel) ⟨Nat.le_of_ble_eq_true rfl, Nat.le_of_ble_eq_true rfl⟩) hK (r_recv hK hP 4 (isSt_lt (c := 4) (by decide) 0 (by decide)) (eX_Stair (c := 4) (by decide)) (show vwCl[2]? = some (RX2, TX2, 8) from rfl)) hS (S_cut (c := 4) (by decide) hP) (S_A (c := 4) (by decide) hS.1) (S_keep (c := 4) (by decide) hI hP) rfl hl.1 rfl (Nat.le_of_ble_eq_true rfl) dX5_startsThatFit_38 ⟨Nat.zero_le _, Nat.zero_le _⟩ (fun H locs hP hS => ?_)
      refine lv_if_eq (x := r2) (tgt := 86) hx hb dX5_startsThatFit_41 (by decide) (fun q4 => ?_) (fun q4 => ?_)
      · replace h := if_t q4 h
        exact B86 k19 C19 x5 x6 M _ _ _ h hP hS (lv_sub hl [0, 1, 2, 3, 4, 5, 6] rfl)
      · replace h := if_f q4 h
        refine lv_aload_n hx hb dX5_startsThatFit_44 rfl (lv_at hl 0 rfl) ?_
        refine r_get (v := .ref (a 134)) hx hb hts iX5 hown hK hP 0 (by decide) eX_0 rfl 6 (by decide) w47 rfl dX5_startsThatFit_45 ?_
        refine lv_aload_n hx hb dX5_startsThatFit_48 rfl (lv_at hl 0 rfl) ?_
        refine r_get (v := .ref (a 4)) hx hb hts iX5 hown hK hP 0 (by decide) eX_0 rfl 2 (by decide) w25 rfl dX5_startsThatFit_49 ?_
        obtain ⟨M7, e6, h⟩ := bdV_ok h
        refine r_callVv (As := [.ref (a 4)]) (rest := []) (ws' := (wl 203 a (eX g a M7))) (ok_X2_become l g a hI 134 4 M M7 (by decide) (by decide) e6) ⟨hx, hb, hml, hown, hts⟩ (cwV 1 hts gX5_startsThatFit_X2_become rfl rfl rfl (by decide +kernel) ⟨Nat.le_of_ble_eq_true rfl, Nat.le_of_ble_eq_true rfl⟩) hK (r_recv hK hP 134 (isSt_lt (c := 134) (by decide) 0 (by decide)) (eX_Stair (c := 134) (by decide)) (show vwCl[2]? = some (RX2, TX2, 8) from rfl)) hS hP (fun _ hq => aA_mono hS.1 hq) (fun _ h _ => h) rfl hl.1 rfl (Nat.le_of_ble_eq_true rfl) dX5_startsThatFit_52 ⟨Nat.zero_le _, Nat.zero_le _⟩ (fun H locs hP hS => ?_)
        refine lv_aload_n hx hb dX5_startsThatFit_55 rfl (lv_at hl 0 rfl) ?_
        refine r_get (v := .ref (a 134)) hx hb hts iX5 hown hK hP 0 (by decide) eX_0 rfl 6 (by decide) w47 rfl dX5_startsThatFit_56 ?_
        refine r_get (v := .ref (a 137)) hx hb hts iX2 hown hK hP 134 (isSt_lt (c := 134) (by decide) 0 (by decide)) (eX_Stair (c := 134) (by decide)) rfl 6 (by decide) w160 rfl dX5_startsThatFit_59 ?_
        refine lv_iload_n hx hb dX5_startsThatFit_62 rfl (lv_at hl 1 rfl) ?_
        refine lv_iload hx hb dX5_startsThatFit_63 (lv_at hl 6 rfl) ?_
        obtain ⟨q8, h⟩ := chk_ok h
        refine r_iast (i := p1) (x := x6) (h := M7 137) (f' := eX g a (mp M7 137 (Int32.toNatClampNeg p1) x6)) hx hb hK hI (fun _ h => aA_in h) hP hS 137 (isSt_lt (c := 134) (by decide) 3 (by decide)) (eX_Sa3 (c := 134) (by decide)) q8 (eX_ua (fun _ => eX_Sa3 (c := 134) (by decide))) dX5_startsThatFit_65 (fun H locs hP hS => ?_)
        refine lv_iload hx hb dX5_startsThatFit_66 (lv_at hl 5 rfl) ?_
        refine lv_aload_n hx hb dX5_startsThatFit_68 rfl (lv_at hl 0 rfl) ?_
        refine lv_iload_n hx hb dX5_startsThatFit_69 rfl (lv_at hl 1 rfl) ?_
        refine lv_aload_n hx hb dX5_startsThatFit_70 rfl (lv_at hl 2 rfl) ?_
        refine lv_iload_n hx hb dX5_startsThatFit_71 rfl (lv_at hl 3 rfl) ?_
        refine lv_iload hx hb dX5_startsThatFit_72 (lv_at hl 4 rfl) ?_
        obtain ⟨r9, M11, e10, h⟩ := bdI_ok h
        refine r_callVi (As := [.int p1, .ref (a c2), .int p3, .int p4]) (rest := [.int x5]) (ws' := (wl 203 a (eX g a M11))) (ok_X5_trialFits l g a hI p1 c2 p3 p4 (mp M7 137 (Int32.toNatClampNeg p1) x6) M11 r9 h2 e10) ⟨hx, hb, hml, hown, hts⟩ (cwV 4 hts gX5_startsThatFit_X5_trialFits rfl rfl rfl (by decide +kernel) ⟨Nat.le_of_ble_eq_true rfl, Nat.le_of_ble_eq_true rfl⟩) hK (r_recv hK hP 0 (by decide) eX_0 (show vwCl[5]? = some (RX5, TX5, 11) from rfl)) hS hP (fun _ hq => aA_mono hS.1 hq) (fun _ h _ => h) rfl hl.1 rfl (Nat.le_of_ble_eq_true rfl) dX5_startsThatFit_74 ⟨Nat.zero_le _, Nat.zero_le _⟩ (fun H locs hP hS => ?_)
        obtain ⟨r12, e13, h⟩ := bdP_ok h
        refine r_callSi (As := [.int r9]) (rest := [.int x5]) (ws' := (wl 203 a (eX g a M11))) (ok_X5_oneIf l g r9 r12 e13) ⟨hx, hb, hml, hown, hts⟩ (cwS 1 hts gX5_startsThatFit_X5_oneIf rfl rfl rfl (by decide +kernel) ⟨Nat.le_of_ble_eq_true rfl, Nat.le_of_ble_eq_true rfl⟩) hK hS nilP (P_A hS.1) (fun _ _ hk => wl_keep hP hk) rfl hl.1 rfl (Nat.le_of_ble_eq_true rfl) dX5_startsThatFit_77 ⟨Nat.zero_le _, Nat.zero_le _⟩ (fun H locs hP hS => ?_)
        refine lv_iload hx hb dX5_startsThatFit_80 (lv_at hl 6 rfl) ?_
        refine lv_ishl (x := r12) (y := x6) hx hb dX5_startsThatFit_82 ?_
        refine lv_ior (x := x5) (y := (r12 <<< (x6 &&& 31))) hx hb dX5_startsThatFit_83 ?_
        refine lv_istore (lv' := [(5, .int (x5 ||| (r12 <<< (x6 &&& 31)))), (0, .ref (a 0)), (1, .int p1), (2, .ref (a c2)), (3, .int p3), (4, .int p4), (6, .int x6)]) hx hb dX5_startsThatFit_84 hl (by decide) rfl (fun ls hl => ?_)
        exact B86 k19 C19 (x5 ||| (r12 <<< (x6 &&& 31))) x6 M11 _ _ _ h hP hS (lv_sub hl [1, 2, 3, 4, 5, 0, 6] rfl)
  have L19 : ∀ (n : Nat), ∀ (x5 : Int32) (x6 : Int32) (M : Mem) (H : Heap) (locs : List Loc) (ls : Array Slot), fX5_startsThatFit_l19 p1 c2 p3 p4 n x5 x6 M = some (r, M') → va_P g.1 vwCl (wl 203 a (eX g a M)) H → va_S (aA 203 a s.heap.size) s.heap H locs → lv_has ls 7 [(0, .ref (a 0)), (1, .int p1), (2, .ref (a c2)), (3, .int p3), (4, .int p4), (5, .int x5), (6, .int x6)] → W p l e rmX5_startsThatFit s m args below meth c H locs 0 0 Qz (F0 m 19 ls []) := by
    intro n
    induction n with
    | zero => intro x5 x6 M H locs ls h; exact absurd (show (none : Option (Int32 × Mem)) = some _ from h) (fun z => by cases z)
    | succ n ih => exact fun x5 x6 M H locs ls h hP hS hl => B19 (fX5_startsThatFit_l19 p1 c2 p3 p4 n) ih x5 x6 M H locs ls h hP hS hl
  unfold fX5_startsThatFit at h
  refine lv_aload_n hx hb dX5_startsThatFit_0 rfl (lv_at hl 0 rfl) ?_
  refine r_get (v := .ref (a 4)) hx hb hts iX5 hown hK hP 0 (by decide) eX_0 rfl 2 (by decide) w25 rfl dX5_startsThatFit_1 ?_
  refine lv_iload_n hx hb dX5_startsThatFit_4 rfl (lv_at hl 1 rfl) ?_
  obtain ⟨r1, e2, h⟩ := bdP_ok h
  refine r_callVi (As := [.int p1]) (rest := []) (ws' := (wl 203 a (eX g a M))) (ok_X2_isOn l g (gA a 4) (gA_ij (c := 4) (by decide) hI) p1 (gS M 4) r1 e2) ⟨hx, hb, hml, hown, hts⟩ (cwV 1 hts gX5_startsThatFit_X2_isOn rfl rfl rfl (by decide +kernel) ⟨Nat.le_of_ble_eq_true rfl, Nat.le_of_ble_eq_true rfl⟩) hK (r_recv hK hP 4 (isSt_lt (c := 4) (by decide) 0 (by decide)) (eX_Stair (c := 4) (by decide)) (show vwCl[2]? = some (RX2, TX2, 8) from rfl)) hS (S_cut (c := 4) (by decide) hP) (S_A (c := 4) (by decide) hS.1) (S_keep (c := 4) (by decide) hI hP) rfl hl.1 rfl (Nat.le_of_ble_eq_true rfl) dX5_startsThatFit_5 ⟨Nat.zero_le _, Nat.zero_le _⟩ (fun H locs hP hS => ?_)
  refine lv_if_ne (x := r1) (tgt := 13) hx hb dX5_startsThatFit_8 (by decide) (fun q3 => ?_) (fun q3 => ?_)
  · replace h := if_f q3 h
    refine lv_iconst (v := 0) hx hb dX5_startsThatFit_13 (by decide) ?_
    refine lv_istore (lv' := [(5, .int 0), (0, .ref (a 0)), (1, .int p1), (2, .ref (a c2)), (3, .int p3), (4, .int p4)]) hx hb dX5_startsThatFit_14 hl (by decide) rfl (fun ls hl => ?_)
    refine lv_iconst (v := 0) hx hb dX5_startsThatFit_16 (by decide) ?_
    refine lv_istore (lv' := [(6, .int 0), (5, .int 0), (0, .ref (a 0)), (1, .int p1), (2, .ref (a c2)), (3, .int p3), (4, .int p4)]) hx hb dX5_startsThatFit_17 hl (by decide) rfl (fun ls hl => ?_)
    exact L19 FU 0 0 M _ _ _ h hP hS (lv_sub hl [2, 3, 4, 5, 6, 1, 0] rfl)
  · replace h := if_t q3 h
    refine lv_iconst (v := 0) hx hb dX5_startsThatFit_11 (by decide) ?_
    rw [hQz]
    exact r_iret (v := 0) hx hb hr hlk hS ((Prod.mk.inj (Option.some.inj h)).2 ▸ hP) (Prod.mk.inj (Option.some.inj h)).1 dX5_startsThatFit_12
