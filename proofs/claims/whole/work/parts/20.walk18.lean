def rmX6_restore : Room := { frames := 2, cells := 0, slots := 0, locals := 82 }
set_option maxHeartbeats 4000000 in
set_option maxRecDepth 100000 in
theorem ok_X6_restore (l : Launch) (g : gT) (a : Nat → Nat) (hI : ij 14 a) (p1 : Int32) (M : Mem) (M' : Mem) (r : Int32) (h : fX6_restore p1 M = some (r, M')) : MI l yX6_restore wsX6_restore rmX6_restore g 14 a [.ref (a 0), .int p1] (wl 14 a (eN g a M)) (wl 14 a (eN g a M')) r := by
  refine MI_of (cc := cX6_restore) (maxL := 3) (rt := .int) (by decide) rfl (Nat.le_of_ble_eq_true rfl) ?_
  intro p e s m args below meth c ls hx hb hml hr hlk hts hown hK hP hl
  have hown : s.vm.findClass RX6 = some m.cls := hown
  have hl : lv_has ls 3 [(0, .ref (a 0)), (1, .int p1)] := hl
  have hS : va_S (aA 14 a s.heap.size) s.heap s.heap [] := va_S.rf
  have iX6 : ∀ w ∈ wsX60, w ∈ wsX6_restore := fun w h => List.mem_cons_of_mem _ (List.mem_append_right _ h)
  have w115 := hts (.fieldLink RX6 115 "StepRidersModel" "known" "I") (by decide +kernel)
  have w25 := hts (.fieldLink RX6 25 "StepRidersModel" "s" "[I") (by decide +kernel)
  have w31 := hts (.fieldLink RX6 31 "StepRidersModel" "images" "[I") (by decide +kernel)
  have w34 := hts (.fieldLink RX6 34 "StepRidersModel" "kept" "[Z") (by decide +kernel)
  have w136 := hts (.constant RX6 136 (-1000002)) (by decide +kernel)
  have w65 := hts (.constant RX6 65 (-1000001)) (by decide +kernel)
  obtain ⟨Qz, hQz⟩ : ∃ Qz : State → Prop, Qz = MQ below (qI g (wl 14 a (eN g a M')) r (aA 14 a s.heap.size)) args s 0 0 (aA 14 a s.heap.size) := ⟨_, rfl⟩
  rw [← hQz]
  have B26 : ∀ (k26 : Int32 → Mem → Option (Int32 × Mem)) (C26 : ∀ (x2 : Int32) (M : Mem) (H : Heap) (locs : List Loc) (ls : Array Slot), k26 x2 M = some (r, M') → va_P g.1 vwCl (wl 14 a (eN g a M)) H → va_S (aA 14 a s.heap.size) s.heap H locs → lv_has ls 3 [(0, .ref (a 0)), (1, .int p1), (2, .int x2)] → W p l e rmX6_restore s m args below meth c H locs 0 0 Qz (F0 m 26 ls [])), ∀ (x2 : Int32) (M : Mem) (H : Heap) (locs : List Loc) (ls : Array Slot), fX6_restore_b26 p1 k26 x2 M = some (r, M') → va_P g.1 vwCl (wl 14 a (eN g a M)) H → va_S (aA 14 a s.heap.size) s.heap H locs → lv_has ls 3 [(0, .ref (a 0)), (1, .int p1), (2, .int x2)] → W p l e rmX6_restore s m args below meth c H locs 0 0 Qz (F0 m 26 ls []) := by
    intro k26 C26 x2 M H locs ls h hP hS hl
    unfold fX6_restore_b26 at h
    refine lv_iload_n hx hb dX6_restore_26 rfl (lv_at hl 2 rfl) ?_
    refine lv_bipush (v := 25) hx hb dX6_restore_27 (by decide) ?_
    refine lv_icmp_ge (x := x2) (y := 25) (tgt := 55) hx hb dX6_restore_29 (by decide) (fun q1 => ?_) (fun q1 => ?_)
    · replace h := if_t q1 h
      refine lv_aload_n hx hb dX6_restore_55 rfl (lv_at hl 0 rfl) ?_
      refine lv_iconst (v := 0) hx hb dX6_restore_56 (by decide) ?_
      refine r_put (v := .int 0) (ty := .int) (f' := eN g a (mp M 0 13 0)) hx hb hts iX6 tyX6 tyX6_ok nmX6 hown hK hI (fun _ h => aA_in h) hP hS 0 (by decide) eN_0 rfl 13 (by decide) w115 rfl (by decide +kernel) rfl rfl (Nat.le_of_ble_eq_true rfl) eN_p13 dX6_restore_57 (fun H locs hP hS => ?_)
      refine lv_iconst (v := 1) hx hb dX6_restore_60 (by decide) ?_
      rw [hQz]
      exact r_iret (v := 1) hx hb hr hlk hS ((Prod.mk.inj (Option.some.inj h)).2 ▸ hP) (Prod.mk.inj (Option.some.inj h)).1 dX6_restore_61
    · replace h := if_f q1 h
      refine lv_aload_n hx hb dX6_restore_32 rfl (lv_at hl 0 rfl) ?_
      refine r_get (v := .ref (a 6)) hx hb hts iX6 hown hK hP 0 (by decide) eN_0 rfl 8 (by decide) w25 rfl dX6_restore_33 ?_
      refine lv_iload_n hx hb dX6_restore_36 rfl (lv_at hl 2 rfl) ?_
      refine lv_aload_n hx hb dX6_restore_37 rfl (lv_at hl 0 rfl) ?_
      refine r_get (v := .ref (a 8)) hx hb hts iX6 hown hK hP 0 (by decide) eN_0 rfl 10 (by decide) w31 rfl dX6_restore_38 ?_
      refine lv_bipush (v := 25) hx hb dX6_restore_41 (by decide) ?_
      refine lv_iload_n hx hb dX6_restore_43 rfl (lv_at hl 1 rfl) ?_
      refine lv_imul (x := 25) (y := p1) hx hb dX6_restore_44 ?_
      refine lv_iload_n hx hb dX6_restore_45 rfl (lv_at hl 2 rfl) ?_
      refine lv_iadd (x := (25 * p1)) (y := x2) hx hb dX6_restore_46 ?_
      obtain ⟨q2, h⟩ := chk_ok h
      refine r_iald (i := ((25 * p1) + x2)) (h := M 8) hx hb hK hP 8 (by decide) rfl q2 dX6_restore_47 ?_
      obtain ⟨q3, h⟩ := chk_ok h
      refine r_iast (i := x2) (x := (M 8 (Int32.toNatClampNeg ((25 * p1) + x2)))) (h := M 6) (f' := eN g a (mp M 6 (Int32.toNatClampNeg x2) (M 8 (Int32.toNatClampNeg ((25 * p1) + x2))))) hx hb hK hI (fun _ h => aA_in h) hP hS 6 (by decide) rfl q3 (eN_ua (fun _ => rfl)) dX6_restore_48 (fun H locs hP hS => ?_)
      refine lv_iinc (v := (x2 + 1)) (lv' := [(2, .int (x2 + 1)), (0, .ref (a 0)), (1, .int p1)]) hx hb dX6_restore_49 hl (k := 2) rfl rfl (by decide) rfl (fun ls hl => ?_)
      refine lv_goto (tgt := 26) hx hb dX6_restore_52 (by decide) ?_
      exact C26 (x2 + 1) (mp M 6 (Int32.toNatClampNeg x2) (M 8 (Int32.toNatClampNeg ((25 * p1) + x2)))) _ _ _ h hP hS (lv_sub hl [1, 2, 0] rfl)
  have L26 : ∀ (n : Nat), ∀ (x2 : Int32) (M : Mem) (H : Heap) (locs : List Loc) (ls : Array Slot), fX6_restore_l26 p1 n x2 M = some (r, M') → va_P g.1 vwCl (wl 14 a (eN g a M)) H → va_S (aA 14 a s.heap.size) s.heap H locs → lv_has ls 3 [(0, .ref (a 0)), (1, .int p1), (2, .int x2)] → W p l e rmX6_restore s m args below meth c H locs 0 0 Qz (F0 m 26 ls []) := by
    intro n
    induction n with
    | zero => intro x2 M H locs ls h; exact absurd (show (none : Option (Int32 × Mem)) = some _ from h) (fun z => by cases z)
    | succ n ih => exact fun x2 M H locs ls h hP hS hl => B26 (fX6_restore_l26 p1 n) ih x2 M H locs ls h hP hS hl
  unfold fX6_restore at h
  refine lv_iload_n hx hb dX6_restore_0 rfl (lv_at hl 1 rfl) ?_
  refine lv_iconst (v := 0) hx hb dX6_restore_1 (by decide) ?_
  refine lv_iconst (v := 1) hx hb dX6_restore_2 (by decide) ?_
  obtain ⟨r1, e2, h⟩ := bdP_ok h
  refine r_callSi (As := [.int p1, .int 0, .int 1]) (rest := []) (ws' := (wl 14 a (eN g a M))) (ok_X6_in l g p1 0 1 r1 e2) ⟨hx, hb, hml, hown, hts⟩ (cwS 3 hts gX6_restore_X6_in rfl rfl rfl (by decide +kernel) ⟨Nat.le_of_ble_eq_true rfl, Nat.le_of_ble_eq_true rfl⟩) hK hS nilP (P_A hS.1) (fun _ _ hk => wl_keep hP hk) rfl hl.1 rfl (Nat.le_of_ble_eq_true rfl) dX6_restore_3 ⟨Nat.zero_le _, Nat.zero_le _⟩ (fun H locs hP hS => ?_)
  refine lv_if_ne (x := r1) (tgt := 12) hx hb dX6_restore_6 (by decide) (fun q3 => ?_) (fun q3 => ?_)
  · replace h := if_f q3 h
    refine lv_aload_n hx hb dX6_restore_12 rfl (lv_at hl 0 rfl) ?_
    refine r_get (v := .ref (a 9)) hx hb hts iX6 hown hK hP 0 (by decide) eN_0 rfl 11 (by decide) w34 rfl dX6_restore_13 ?_
    refine lv_iload_n hx hb dX6_restore_16 rfl (lv_at hl 1 rfl) ?_
    obtain ⟨q4, h⟩ := chk_ok h
    refine r_zald (i := p1) (h := M 9) hx hb hK hP 9 (by decide) rfl q4 dX6_restore_17 ?_
    refine lv_if_ne (x := (M 9 (Int32.toNatClampNeg p1))) (tgt := 24) hx hb dX6_restore_18 (by decide) (fun q5 => ?_) (fun q5 => ?_)
    · replace h := if_f q5 h
      refine lv_iconst (v := 0) hx hb dX6_restore_24 (by decide) ?_
      refine lv_istore_n (lv' := [(2, .int 0), (0, .ref (a 0)), (1, .int p1)]) hx hb dX6_restore_25 rfl hl (by decide) rfl (fun ls hl => ?_)
      exact L26 FU 0 M _ _ _ h hP hS (lv_sub hl [1, 2, 0] rfl)
    · replace h := if_t q5 h
      refine lv_ldc (v := (-1000002)) hx hb hown w136 dX6_restore_21 ?_
      rw [hQz]
      exact r_iret (v := (-1000002)) hx hb hr hlk hS ((Prod.mk.inj (Option.some.inj h)).2 ▸ hP) (Prod.mk.inj (Option.some.inj h)).1 dX6_restore_23
  · replace h := if_t q3 h
    refine lv_ldc (v := (-1000001)) hx hb hown w65 dX6_restore_9 ?_
    rw [hQz]
    exact r_iret (v := (-1000001)) hx hb hr hlk hS ((Prod.mk.inj (Option.some.inj h)).2 ▸ hP) (Prod.mk.inj (Option.some.inj h)).1 dX6_restore_11
def rmX6_kind : Room := { frames := 3, cells := 0, slots := 0, locals := 103 }
set_option maxHeartbeats 4000000 in
set_option maxRecDepth 100000 in
theorem ok_X6_kind (l : Launch) (g : gT) (a : Nat → Nat) (hI : ij 14 a) (p1 : Int32) (M : Mem) (r : Int32) (h : fX6_kind p1 M = some r) : MI l yX6_kind wsX6_kind rmX6_kind g 14 a [.ref (a 0), .int p1] (wl 14 a (eN g a M)) (wl 14 a (eN g a M)) r := by
  refine MI_of (cc := cX6_kind) (maxL := 2) (rt := .int) (by decide) rfl (Nat.le_of_ble_eq_true rfl) ?_
  intro p e s m args below meth c ls hx hb hml hr hlk hts hown hK hP hl
  have hown : s.vm.findClass RX6 = some m.cls := hown
  have hl : lv_has ls 2 [(0, .ref (a 0)), (1, .int p1)] := hl
  have hS : va_S (aA 14 a s.heap.size) s.heap s.heap [] := va_S.rf
  have iX6 : ∀ w ∈ wsX60, w ∈ wsX6_kind := fun w h => List.mem_cons_of_mem _ (List.mem_append_right _ h)
  have w65 := hts (.constant RX6 65 (-1000001)) (by decide +kernel)
  have w25 := hts (.fieldLink RX6 25 "StepRidersModel" "s" "[I") (by decide +kernel)
  obtain ⟨Qz, hQz⟩ : ∃ Qz : State → Prop, Qz = MQ below (qI g (wl 14 a (eN g a M)) r (aA 14 a s.heap.size)) args s 0 0 (aA 14 a s.heap.size) := ⟨_, rfl⟩
  rw [← hQz]
  unfold fX6_kind at h
  refine lv_aload_n hx hb dX6_kind_0 rfl (lv_at hl 0 rfl) ?_
  refine lv_iload_n hx hb dX6_kind_1 rfl (lv_at hl 1 rfl) ?_
  obtain ⟨r1, e2, h⟩ := bdP_ok h
  refine r_callVi (As := [.int p1]) (rest := []) (ws' := (wl 14 a (eN g a M))) (ok_X6_isRider l g a hI p1 M r1 e2) ⟨hx, hb, hml, hown, hts⟩ (cwV 1 hts gX6_kind_X6_isRider rfl rfl rfl (by decide +kernel) ⟨Nat.le_of_ble_eq_true rfl, Nat.le_of_ble_eq_true rfl⟩) hK (r_recv hK hP 0 (by decide) eN_0 (show vwCl[6]? = some (RX6, TX6, 20) from rfl)) hS hP (fun _ hq => aA_mono hS.1 hq) (fun _ h _ => h) rfl hl.1 rfl (Nat.le_of_ble_eq_true rfl) dX6_kind_2 ⟨Nat.zero_le _, Nat.zero_le _⟩ (fun H locs hP hS => ?_)
  refine lv_if_eq (x := r1) (tgt := 20) hx hb dX6_kind_5 (by decide) (fun q3 => ?_) (fun q3 => ?_)
  · replace h := if_t q3 h
    refine lv_ldc (v := (-1000001)) hx hb hown w65 dX6_kind_20 ?_
    rw [hQz]
    exact r_iret (v := (-1000001)) hx hb hr hlk hS hP (Option.some.inj h) dX6_kind_22
  · replace h := if_f q3 h
    refine lv_aload_n hx hb dX6_kind_8 rfl (lv_at hl 0 rfl) ?_
    refine r_get (v := .ref (a 6)) hx hb hts iX6 hown hK hP 0 (by decide) eN_0 rfl 8 (by decide) w25 rfl dX6_kind_9 ?_
    refine lv_bipush (v := 18) hx hb dX6_kind_12 (by decide) ?_
    refine lv_iload_n hx hb dX6_kind_14 rfl (lv_at hl 1 rfl) ?_
    refine lv_iadd (x := 18) (y := p1) hx hb dX6_kind_15 ?_
    obtain ⟨q4, h⟩ := chk_ok h
    refine r_iald (i := (18 + p1)) (h := M 6) hx hb hK hP 6 (by decide) rfl q4 dX6_kind_16 ?_
    refine lv_goto (tgt := 22) hx hb dX6_kind_17 (by decide) ?_
    rw [hQz]
    exact r_iret (v := (M 6 (Int32.toNatClampNeg (18 + p1)))) hx hb hr hlk hS hP (Option.some.inj h) dX6_kind_22
def rmX6_as : Room := { frames := 3, cells := 0, slots := 0, locals := 103 }
set_option maxHeartbeats 4000000 in
set_option maxRecDepth 100000 in
theorem ok_X6_as (l : Launch) (g : gT) (a : Nat → Nat) (hI : ij 14 a) (p1 : Int32) (p2 : Int32) (M : Mem) (M' : Mem) (r : Int32) (h : fX6_as p1 p2 M = some (r, M')) : MI l yX6_as wsX6_as rmX6_as g 14 a [.ref (a 0), .int p1, .int p2] (wl 14 a (eN g a M)) (wl 14 a (eN g a M')) r := by
  refine MI_of (cc := cX6_as) (maxL := 5) (rt := .int) (by decide) rfl (Nat.le_of_ble_eq_true rfl) ?_
  intro p e s m args below meth c ls hx hb hml hr hlk hts hown hK hP hl
  have hown : s.vm.findClass RX6 = some m.cls := hown
  have hl : lv_has ls 5 [(0, .ref (a 0)), (1, .int p1), (2, .int p2)] := hl
  have hS : va_S (aA 14 a s.heap.size) s.heap s.heap [] := va_S.rf
  have iX6 : ∀ w ∈ wsX60, w ∈ wsX6_as := fun w h => List.mem_cons_of_mem _ (List.mem_append_right _ h)
  have w180 := hts (.constant RX6 180 (-1000013)) (by decide +kernel)
  have w65 := hts (.constant RX6 65 (-1000001)) (by decide +kernel)
  have w25 := hts (.fieldLink RX6 25 "StepRidersModel" "s" "[I") (by decide +kernel)
  obtain ⟨Qz, hQz⟩ : ∃ Qz : State → Prop, Qz = MQ below (qI g (wl 14 a (eN g a M')) r (aA 14 a s.heap.size)) args s 0 0 (aA 14 a s.heap.size) := ⟨_, rfl⟩
  rw [← hQz]
  have B64 : ∀ (s0 : Int32) (M : Mem) (H : Heap) (locs : List Loc) (ls : Array Slot), fX6_as_b64 p1 p2 s0 M = some (r, M') → va_P g.1 vwCl (wl 14 a (eN g a M)) H → va_S (aA 14 a s.heap.size) s.heap H locs → lv_has ls 5 [(0, .ref (a 0)), (1, .int p1), (2, .int p2)] → W p l e rmX6_as s m args below meth c H locs 0 0 Qz (F0 m 64 ls [.int s0]) := by
    intro s0 M H locs ls h hP hS hl
    unfold fX6_as_b64 at h
    refine lv_istore (lv' := [(4, .int s0), (0, .ref (a 0)), (1, .int p1), (2, .int p2)]) hx hb dX6_as_64 hl (by decide) rfl (fun ls hl => ?_)
    refine lv_aload_n hx hb dX6_as_66 rfl (lv_at hl 1 rfl) ?_
    refine lv_iload hx hb dX6_as_67 (lv_at hl 0 rfl) ?_
    refine lv_if_eq (x := s0) (tgt := 76) hx hb dX6_as_69 (by decide) (fun q1 => ?_) (fun q1 => ?_)
    · replace h := if_t q1 h
      refine lv_ldc (v := (-1000013)) hx hb hown w180 dX6_as_76 ?_
      obtain ⟨r2, M4, e3, h⟩ := bdI_ok h
      refine r_callVi (As := [.int (-1000013)]) (rest := []) (ws' := (wl 14 a (eN g a M4))) (ok_X6_ends l g a hI (-1000013) M M4 r2 e3) ⟨hx, hb, hml, hown, hts⟩ (cwV 1 hts gX6_as_X6_ends rfl rfl rfl (by decide +kernel) ⟨Nat.le_of_ble_eq_true rfl, Nat.le_of_ble_eq_true rfl⟩) hK (r_recv hK hP 0 (by decide) eN_0 (show vwCl[6]? = some (RX6, TX6, 20) from rfl)) hS hP (fun _ hq => aA_mono hS.1 hq) (fun _ h _ => h) rfl hl.1 rfl (Nat.le_of_ble_eq_true rfl) dX6_as_78 ⟨Nat.zero_le _, Nat.zero_le _⟩ (fun H locs hP hS => ?_)
      rw [hQz]
      exact r_iret (v := r2) hx hb hr hlk hS ((Prod.mk.inj (Option.some.inj h)).2 ▸ hP) (Prod.mk.inj (Option.some.inj h)).1 dX6_as_81
    · replace h := if_f q1 h
      refine lv_iload_n hx hb dX6_as_72 rfl (lv_at hl 2 rfl) ?_
      refine lv_goto (tgt := 78) hx hb dX6_as_73 (by decide) ?_
      obtain ⟨r5, M7, e6, h⟩ := bdI_ok h
      refine r_callVi (As := [.int p1]) (rest := []) (ws' := (wl 14 a (eN g a M7))) (ok_X6_ends l g a hI p1 M M7 r5 e6) ⟨hx, hb, hml, hown, hts⟩ (cwV 1 hts gX6_as_X6_ends rfl rfl rfl (by decide +kernel) ⟨Nat.le_of_ble_eq_true rfl, Nat.le_of_ble_eq_true rfl⟩) hK (r_recv hK hP 0 (by decide) eN_0 (show vwCl[6]? = some (RX6, TX6, 20) from rfl)) hS hP (fun _ hq => aA_mono hS.1 hq) (fun _ h _ => h) rfl hl.1 rfl (Nat.le_of_ble_eq_true rfl) dX6_as_78 ⟨Nat.zero_le _, Nat.zero_le _⟩ (fun H locs hP hS => ?_)
      rw [hQz]
      exact r_iret (v := r5) hx hb hr hlk hS ((Prod.mk.inj (Option.some.inj h)).2 ▸ hP) (Prod.mk.inj (Option.some.inj h)).1 dX6_as_81
  have B63 : ∀ (M : Mem) (H : Heap) (locs : List Loc) (ls : Array Slot), fX6_as_b63 p1 p2 M = some (r, M') → va_P g.1 vwCl (wl 14 a (eN g a M)) H → va_S (aA 14 a s.heap.size) s.heap H locs → lv_has ls 5 [(0, .ref (a 0)), (1, .int p1), (2, .int p2)] → W p l e rmX6_as s m args below meth c H locs 0 0 Qz (F0 m 63 ls []) := by
    intro M H locs ls h hP hS hl
    unfold fX6_as_b63 at h
    refine lv_iconst (v := 0) hx hb dX6_as_63 (by decide) ?_
    exact B64 0 M _ _ _ h hP hS (lv_sub hl [0, 1, 2] rfl)
  have B59 : ∀ (M : Mem) (H : Heap) (locs : List Loc) (ls : Array Slot), fX6_as_b59 p1 p2 M = some (r, M') → va_P g.1 vwCl (wl 14 a (eN g a M)) H → va_S (aA 14 a s.heap.size) s.heap H locs → lv_has ls 5 [(0, .ref (a 0)), (1, .int p1), (2, .int p2)] → W p l e rmX6_as s m args below meth c H locs 0 0 Qz (F0 m 59 ls []) := by
    intro M H locs ls h hP hS hl
    unfold fX6_as_b59 at h
    refine lv_iconst (v := 1) hx hb dX6_as_59 (by decide) ?_
    refine lv_goto (tgt := 64) hx hb dX6_as_60 (by decide) ?_
    exact B64 1 M _ _ _ h hP hS (lv_sub hl [0, 1, 2] rfl)
  have B49 : ∀ (x3 : Int32) (M : Mem) (H : Heap) (locs : List Loc) (ls : Array Slot), fX6_as_b49 p1 p2 x3 M = some (r, M') → va_P g.1 vwCl (wl 14 a (eN g a M)) H → va_S (aA 14 a s.heap.size) s.heap H locs → lv_has ls 5 [(0, .ref (a 0)), (1, .int p1), (2, .int p2), (3, .int x3)] → W p l e rmX6_as s m args below meth c H locs 0 0 Qz (F0 m 49 ls []) := by
    intro x3 M H locs ls h hP hS hl
    unfold fX6_as_b49 at h
    refine lv_iload_n hx hb dX6_as_49 rfl (lv_at hl 2 rfl) ?_
    refine lv_iconst (v := 4) hx hb dX6_as_50 (by decide) ?_
    refine lv_icmp_ne (x := p2) (y := 4) (tgt := 63) hx hb dX6_as_51 (by decide) (fun q1 => ?_) (fun q1 => ?_)
    · replace h := if_f q1 h
      exact B63 M _ _ _ h hP hS (lv_sub hl [0, 1, 2] rfl)
    · replace h := if_t q1 h
      refine lv_iload_n hx hb dX6_as_54 rfl (lv_at hl 3 rfl) ?_
      refine lv_iconst (v := 5) hx hb dX6_as_55 (by decide) ?_
      refine lv_icmp_ne (x := x3) (y := 5) (tgt := 63) hx hb dX6_as_56 (by decide) (fun q2 => ?_) (fun q2 => ?_)
      · replace h := if_f q2 h
        exact B63 M _ _ _ h hP hS (lv_sub hl [0, 1, 2] rfl)
      · replace h := if_t q2 h
        exact B59 M _ _ _ h hP hS (lv_sub hl [0, 1, 2] rfl)
  unfold fX6_as at h
  refine lv_aload_n hx hb dX6_as_0 rfl (lv_at hl 0 rfl) ?_
  refine lv_iload_n hx hb dX6_as_1 rfl (lv_at hl 1 rfl) ?_
  obtain ⟨r1, e2, h⟩ := bdP_ok h
  refine r_callVi (As := [.int p1]) (rest := []) (ws' := (wl 14 a (eN g a M))) (ok_X6_isRider l g a hI p1 M r1 e2) ⟨hx, hb, hml, hown, hts⟩ (cwV 1 hts gX6_as_X6_isRider rfl rfl rfl (by decide +kernel) ⟨Nat.le_of_ble_eq_true rfl, Nat.le_of_ble_eq_true rfl⟩) hK (r_recv hK hP 0 (by decide) eN_0 (show vwCl[6]? = some (RX6, TX6, 20) from rfl)) hS hP (fun _ hq => aA_mono hS.1 hq) (fun _ h _ => h) rfl hl.1 rfl (Nat.le_of_ble_eq_true rfl) dX6_as_2 ⟨Nat.zero_le _, Nat.zero_le _⟩ (fun H locs hP hS => ?_)
  refine lv_if_eq (x := r1) (tgt := 17) hx hb dX6_as_5 (by decide) (fun q3 => ?_) (fun q3 => ?_)
  · replace h := if_t q3 h
    refine lv_ldc (v := (-1000001)) hx hb hown w65 dX6_as_17 ?_
    rw [hQz]
    exact r_iret (v := (-1000001)) hx hb hr hlk hS ((Prod.mk.inj (Option.some.inj h)).2 ▸ hP) (Prod.mk.inj (Option.some.inj h)).1 dX6_as_19
  · replace h := if_f q3 h
    refine lv_iload_n hx hb dX6_as_8 rfl (lv_at hl 2 rfl) ?_
    refine lv_iconst (v := 0) hx hb dX6_as_9 (by decide) ?_
    refine lv_iconst (v := 5) hx hb dX6_as_10 (by decide) ?_
    obtain ⟨r4, e5, h⟩ := bdP_ok h
    refine r_callSi (As := [.int p2, .int 0, .int 5]) (rest := []) (ws' := (wl 14 a (eN g a M))) (ok_X6_in l g p2 0 5 r4 e5) ⟨hx, hb, hml, hown, hts⟩ (cwS 3 hts gX6_as_X6_in rfl rfl rfl (by decide +kernel) ⟨Nat.le_of_ble_eq_true rfl, Nat.le_of_ble_eq_true rfl⟩) hK hS nilP (P_A hS.1) (fun _ _ hk => wl_keep hP hk) rfl hl.1 rfl (Nat.le_of_ble_eq_true rfl) dX6_as_11 ⟨Nat.zero_le _, Nat.zero_le _⟩ (fun H locs hP hS => ?_)
    refine lv_if_ne (x := r4) (tgt := 20) hx hb dX6_as_14 (by decide) (fun q6 => ?_) (fun q6 => ?_)
    · replace h := if_f q6 h
      refine lv_aload_n hx hb dX6_as_20 rfl (lv_at hl 0 rfl) ?_
      refine r_get (v := .ref (a 6)) hx hb hts iX6 hown hK hP 0 (by decide) eN_0 rfl 8 (by decide) w25 rfl dX6_as_21 ?_
      refine lv_bipush (v := 18) hx hb dX6_as_24 (by decide) ?_
      refine lv_iload_n hx hb dX6_as_26 rfl (lv_at hl 1 rfl) ?_
      refine lv_iadd (x := 18) (y := p1) hx hb dX6_as_27 ?_
      obtain ⟨q7, h⟩ := chk_ok h
      refine r_iald (i := (18 + p1)) (h := M 6) hx hb hK hP 6 (by decide) rfl q7 dX6_as_28 ?_
      refine lv_istore_n (lv' := [(3, .int (M 6 (Int32.toNatClampNeg (18 + p1)))), (0, .ref (a 0)), (1, .int p1), (2, .int p2)]) hx hb dX6_as_29 rfl hl (by decide) rfl (fun ls hl => ?_)
      refine lv_iload_n hx hb dX6_as_30 rfl (lv_at hl 3 rfl) ?_
      refine lv_if_eq (x := p2) (tgt := 59) hx hb dX6_as_31 (by decide) (fun q8 => ?_) (fun q8 => ?_)
      · replace h := if_t q8 h
        exact B59 M _ _ _ h hP hS (lv_sub hl [1, 2, 3] rfl)
      · replace h := if_f q8 h
        refine lv_iload_n hx hb dX6_as_34 rfl (lv_at hl 3 rfl) ?_
        refine lv_iload_n hx hb dX6_as_35 rfl (lv_at hl 0 rfl) ?_
        refine lv_icmp_eq (x := p2) (y := (M 6 (Int32.toNatClampNeg (18 + p1)))) (tgt := 59) hx hb dX6_as_36 (by decide) (fun q9 => ?_) (fun q9 => ?_)
        · replace h := if_t q9 h
          exact B59 M _ _ _ h hP hS (lv_sub hl [1, 2, 3] rfl)
        · replace h := if_f q9 h
          refine lv_iload_n hx hb dX6_as_39 rfl (lv_at hl 3 rfl) ?_
          refine lv_iconst (v := 1) hx hb dX6_as_40 (by decide) ?_
          refine lv_icmp_ne (x := p2) (y := 1) (tgt := 49) hx hb dX6_as_41 (by decide) (fun q10 => ?_) (fun q10 => ?_)
          · replace h := if_f q10 h
            exact B49 (M 6 (Int32.toNatClampNeg (18 + p1))) M _ _ _ h hP hS (lv_sub hl [1, 2, 3, 0] rfl)
          · replace h := if_t q10 h
            refine lv_iload_n hx hb dX6_as_44 rfl (lv_at hl 0 rfl) ?_
            refine lv_iconst (v := 4) hx hb dX6_as_45 (by decide) ?_
            refine lv_icmp_lt (x := (M 6 (Int32.toNatClampNeg (18 + p1)))) (y := 4) (tgt := 59) hx hb dX6_as_46 (by decide) (fun q11 => ?_) (fun q11 => ?_)
            · replace h := if_t q11 h
              exact B59 M _ _ _ h hP hS (lv_sub hl [1, 2, 3] rfl)
            · replace h := if_f q11 h
              exact B49 (M 6 (Int32.toNatClampNeg (18 + p1))) M _ _ _ h hP hS (lv_sub hl [1, 2, 3, 0] rfl)
    · replace h := if_t q6 h
      refine lv_ldc (v := (-1000001)) hx hb hown w65 dX6_as_17 ?_
      rw [hQz]
      exact r_iret (v := (-1000001)) hx hb hr hlk hS ((Prod.mk.inj (Option.some.inj h)).2 ▸ hP) (Prod.mk.inj (Option.some.inj h)).1 dX6_as_19
def rmX6_begins : Room := { frames := 1, cells := 0, slots := 0, locals := 60 }
set_option maxHeartbeats 4000000 in
set_option maxRecDepth 100000 in
theorem ok_X6_begins (l : Launch) (g : gT) (a : Nat → Nat) (hI : ij 14 a) (p1 : Int32) (M : Mem) (M' : Mem) (h : fX6_begins p1 M = some M') : MV l yX6_begins wsX6_begins rmX6_begins g 14 a [.ref (a 0), .int p1] (wl 14 a (eN g a M)) (wl 14 a (eN g a M')) := by
  refine MV_of (cc := cX6_begins) (maxL := 2) (by decide) rfl (Nat.le_of_ble_eq_true rfl) ?_
  intro p e s m args below meth c ls hx hb hml hr hlk hts hown hK hP hl
  have hown : s.vm.findClass RX6 = some m.cls := hown
  have hl : lv_has ls 2 [(0, .ref (a 0)), (1, .int p1)] := hl
  have hS : va_S (aA 14 a s.heap.size) s.heap s.heap [] := va_S.rf
  have iX6 : ∀ w ∈ wsX60, w ∈ wsX6_begins := fun w h => List.mem_cons_of_mem _ (List.mem_append_right _ h)
  have w181 := hts (.fieldLink RX6 181 "StepRidersModel" "traced" "I") (by decide +kernel)
  have w47 := hts (.fieldLink RX6 47 "StepRidersModel" "traces" "[I") (by decide +kernel)
  obtain ⟨Qz, hQz⟩ : ∃ Qz : State → Prop, Qz = MQ below (qV g (wl 14 a (eN g a M')) (aA 14 a s.heap.size)) args s 0 0 (aA 14 a s.heap.size) := ⟨_, rfl⟩
  rw [← hQz]
  unfold fX6_begins at h
  refine lv_aload_n hx hb dX6_begins_0 rfl (lv_at hl 0 rfl) ?_
  refine r_get (v := .int (M 0 17)) hx hb hts iX6 hown hK hP 0 (by decide) eN_0 rfl 17 (by decide) w181 rfl dX6_begins_1 ?_
  refine lv_aload_n hx hb dX6_begins_4 rfl (lv_at hl 0 rfl) ?_
  refine r_get (v := .ref (a 13)) hx hb hts iX6 hown hK hP 0 (by decide) eN_0 rfl 16 (by decide) w47 rfl dX6_begins_5 ?_
  refine r_alen (v := 16) (h := M 13) hx hb hK hP 13 (by decide) rfl (by decide) dX6_begins_8 ?_
  refine lv_icmp_ge (x := (M 0 17)) (y := 16) (tgt := 32) hx hb dX6_begins_9 (by decide) (fun q1 => ?_) (fun q1 => ?_)
  · replace h := if_t q1 h
    rw [hQz]
    exact r_vret hx hb hr hlk hS (Option.some.inj h ▸ hP) dX6_begins_32
  · replace h := if_f q1 h
    refine lv_aload_n hx hb dX6_begins_12 rfl (lv_at hl 0 rfl) ?_
    refine r_get (v := .ref (a 13)) hx hb hts iX6 hown hK hP 0 (by decide) eN_0 rfl 16 (by decide) w47 rfl dX6_begins_13 ?_
    refine lv_aload_n hx hb dX6_begins_16 rfl (lv_at hl 0 rfl) ?_
    refine r_get (v := .int (M 0 17)) hx hb hts iX6 hown hK hP 0 (by decide) eN_0 rfl 17 (by decide) w181 rfl dX6_begins_17 ?_
    refine lv_iload_n hx hb dX6_begins_20 rfl (lv_at hl 1 rfl) ?_
    obtain ⟨q2, h⟩ := chk_ok h
    refine r_iast (i := (M 0 17)) (x := p1) (h := M 13) (f' := eN g a (mp M 13 (Int32.toNatClampNeg (M 0 17)) p1)) hx hb hK hI (fun _ h => aA_in h) hP hS 13 (by decide) rfl q2 (eN_ua (fun _ => rfl)) dX6_begins_21 (fun H locs hP hS => ?_)
    refine lv_aload_n hx hb dX6_begins_22 rfl (lv_at hl 0 rfl) ?_
    refine lv_dup hx hb dX6_begins_23 rfl ?_
    refine r_get (v := .int ((mp M 13 (Int32.toNatClampNeg (M 0 17)) p1) 0 17)) hx hb hts iX6 hown hK hP 0 (by decide) eN_0 rfl 17 (by decide) w181 rfl dX6_begins_24 ?_
    refine lv_iconst (v := 1) hx hb dX6_begins_27 (by decide) ?_
    refine lv_iadd (x := ((mp M 13 (Int32.toNatClampNeg (M 0 17)) p1) 0 17)) (y := 1) hx hb dX6_begins_28 ?_
    refine r_put (v := .int (((mp M 13 (Int32.toNatClampNeg (M 0 17)) p1) 0 17) + 1)) (ty := .int) (f' := eN g a (mp (mp M 13 (Int32.toNatClampNeg (M 0 17)) p1) 0 17 (((mp M 13 (Int32.toNatClampNeg (M 0 17)) p1) 0 17) + 1))) hx hb hts iX6 tyX6 tyX6_ok nmX6 hown hK hI (fun _ h => aA_in h) hP hS 0 (by decide) eN_0 rfl 17 (by decide) w181 rfl (by decide +kernel) rfl rfl (Nat.le_of_ble_eq_true rfl) eN_p17 dX6_begins_29 (fun H locs hP hS => ?_)
    rw [hQz]
    exact r_vret hx hb hr hlk hS (Option.some.inj h ▸ hP) dX6_begins_32
def rmX6_stands : Room := { frames := 2, cells := 0, slots := 0, locals := 81 }
set_option maxHeartbeats 4000000 in
set_option maxRecDepth 100000 in
theorem ok_X6_stands (l : Launch) (g : gT) (a : Nat → Nat) (hI : ij 14 a) (p1 : Int32) (M : Mem) (M' : Mem) (r : Int32) (h : fX6_stands p1 M = some (r, M')) : MI l yX6_stands wsX6_stands rmX6_stands g 14 a [.ref (a 0), .int p1] (wl 14 a (eN g a M)) (wl 14 a (eN g a M')) r := by
  refine MI_of (cc := cX6_stands) (maxL := 4) (rt := .int) (by decide) rfl (Nat.le_of_ble_eq_true rfl) ?_
  intro p e s m args below meth c ls hx hb hml hr hlk hts hown hK hP hl
  have hown : s.vm.findClass RX6 = some m.cls := hown
  have hl : lv_has ls 4 [(0, .ref (a 0)), (1, .int p1)] := hl
  have hS : va_S (aA 14 a s.heap.size) s.heap s.heap [] := va_S.rf
  have iX6 : ∀ w ∈ wsX60, w ∈ wsX6_stands := fun w h => List.mem_cons_of_mem _ (List.mem_append_right _ h)
  have w25 := hts (.fieldLink RX6 25 "StepRidersModel" "s" "[I") (by decide +kernel)
  obtain ⟨Qz, hQz⟩ : ∃ Qz : State → Prop, Qz = MQ below (qI g (wl 14 a (eN g a M')) r (aA 14 a s.heap.size)) args s 0 0 (aA 14 a s.heap.size) := ⟨_, rfl⟩
  rw [← hQz]
  have B31 : ∀ (x2 : Int32) (M : Mem) (H : Heap) (locs : List Loc) (ls : Array Slot), fX6_stands_b31 p1 x2 M = some (r, M') → va_P g.1 vwCl (wl 14 a (eN g a M)) H → va_S (aA 14 a s.heap.size) s.heap H locs → lv_has ls 4 [(0, .ref (a 0)), (1, .int p1), (2, .int x2)] → W p l e rmX6_stands s m args below meth c H locs 0 0 Qz (F0 m 31 ls []) := by
    intro x2 M H locs ls h hP hS hl
    unfold fX6_stands_b31 at h
    refine lv_aload_n hx hb dX6_stands_31 rfl (lv_at hl 0 rfl) ?_
    refine lv_bipush (v := 21) hx hb dX6_stands_32 (by decide) ?_
    obtain ⟨M3, e2, h⟩ := bdV_ok h
    refine r_callVv (As := [.int 21]) (rest := []) (ws' := (wl 14 a (eN g a M3))) (ok_X6_begins l g a hI 21 M M3 e2) ⟨hx, hb, hml, hown, hts⟩ (cwV 1 hts gX6_stands_X6_begins rfl rfl rfl (by decide +kernel) ⟨Nat.le_of_ble_eq_true rfl, Nat.le_of_ble_eq_true rfl⟩) hK (r_recv hK hP 0 (by decide) eN_0 (show vwCl[6]? = some (RX6, TX6, 20) from rfl)) hS hP (fun _ hq => aA_mono hS.1 hq) (fun _ h _ => h) rfl hl.1 rfl (Nat.le_of_ble_eq_true rfl) dX6_stands_34 ⟨Nat.zero_le _, Nat.zero_le _⟩ (fun H locs hP hS => ?_)
    refine lv_aload_n hx hb dX6_stands_37 rfl (lv_at hl 0 rfl) ?_
    refine lv_bipush (v := 20) hx hb dX6_stands_38 (by decide) ?_
    obtain ⟨M6, e5, h⟩ := bdV_ok h
    refine r_callVv (As := [.int 20]) (rest := []) (ws' := (wl 14 a (eN g a M6))) (ok_X6_begins l g a hI 20 M3 M6 e5) ⟨hx, hb, hml, hown, hts⟩ (cwV 1 hts gX6_stands_X6_begins rfl rfl rfl (by decide +kernel) ⟨Nat.le_of_ble_eq_true rfl, Nat.le_of_ble_eq_true rfl⟩) hK (r_recv hK hP 0 (by decide) eN_0 (show vwCl[6]? = some (RX6, TX6, 20) from rfl)) hS hP (fun _ hq => aA_mono hS.1 hq) (fun _ h _ => h) rfl hl.1 rfl (Nat.le_of_ble_eq_true rfl) dX6_stands_40 ⟨Nat.zero_le _, Nat.zero_le _⟩ (fun H locs hP hS => ?_)
    refine lv_iload_n hx hb dX6_stands_43 rfl (lv_at hl 1 rfl) ?_
    refine lv_aload_n hx hb dX6_stands_44 rfl (lv_at hl 0 rfl) ?_
    refine r_get (v := .ref (a 6)) hx hb hts iX6 hown hK hP 0 (by decide) eN_0 rfl 8 (by decide) w25 rfl dX6_stands_45 ?_
    refine lv_bipush (v := 9) hx hb dX6_stands_48 (by decide) ?_
    refine lv_iload_n hx hb dX6_stands_50 rfl (lv_at hl 1 rfl) ?_
    refine lv_iadd (x := 9) (y := p1) hx hb dX6_stands_51 ?_
    obtain ⟨q7, h⟩ := chk_ok h
    refine r_iald (i := (9 + p1)) (h := M6 6) hx hb hK hP 6 (by decide) rfl q7 dX6_stands_52 ?_
    refine lv_iadd (x := p1) (y := (M6 6 (Int32.toNatClampNeg (9 + p1)))) hx hb dX6_stands_53 ?_
    refine lv_istore_n (lv' := [(3, .int (p1 + (M6 6 (Int32.toNatClampNeg (9 + p1))))), (0, .ref (a 0)), (1, .int p1), (2, .int x2)]) hx hb dX6_stands_54 rfl hl (by decide) rfl (fun ls hl => ?_)
    refine lv_iload_n hx hb dX6_stands_55 rfl (lv_at hl 3 rfl) ?_
    refine lv_iconst (v := 2) hx hb dX6_stands_56 (by decide) ?_
    refine lv_icmp_ne (x := x2) (y := 2) (tgt := 66) hx hb dX6_stands_57 (by decide) (fun q8 => ?_) (fun q8 => ?_)
    · replace h := if_f q8 h
      refine lv_iload_n hx hb dX6_stands_66 rfl (lv_at hl 3 rfl) ?_
      refine lv_iconst (v := 3) hx hb dX6_stands_67 (by decide) ?_
      refine lv_icmp_ne (x := x2) (y := 3) (tgt := 79) hx hb dX6_stands_68 (by decide) (fun q9 => ?_) (fun q9 => ?_)
      · replace h := if_f q9 h
        refine lv_iload_n hx hb dX6_stands_79 rfl (lv_at hl 0 rfl) ?_
        rw [hQz]
        exact r_iret (v := (p1 + (M6 6 (Int32.toNatClampNeg (9 + p1))))) hx hb hr hlk hS ((Prod.mk.inj (Option.some.inj h)).2 ▸ hP) (Prod.mk.inj (Option.some.inj h)).1 dX6_stands_80
      · replace h := if_t q9 h
        refine lv_iload_n hx hb dX6_stands_71 rfl (lv_at hl 0 rfl) ?_
        refine lv_sipush (v := 1000) hx hb dX6_stands_72 (by decide) ?_
        refine lv_isub (x := (p1 + (M6 6 (Int32.toNatClampNeg (9 + p1))))) (y := 1000) hx hb dX6_stands_75 ?_
        refine lv_goto (tgt := 80) hx hb dX6_stands_76 (by decide) ?_
        rw [hQz]
        exact r_iret (v := ((p1 + (M6 6 (Int32.toNatClampNeg (9 + p1)))) - 1000)) hx hb hr hlk hS ((Prod.mk.inj (Option.some.inj h)).2 ▸ hP) (Prod.mk.inj (Option.some.inj h)).1 dX6_stands_80
    · replace h := if_t q8 h
      refine lv_iconst (v := 2) hx hb dX6_stands_60 (by decide) ?_
      refine lv_iload_n hx hb dX6_stands_61 rfl (lv_at hl 0 rfl) ?_
      refine lv_imul (x := 2) (y := (p1 + (M6 6 (Int32.toNatClampNeg (9 + p1))))) hx hb dX6_stands_62 ?_
      refine lv_goto (tgt := 80) hx hb dX6_stands_63 (by decide) ?_
      rw [hQz]
      exact r_iret (v := (2 * (p1 + (M6 6 (Int32.toNatClampNeg (9 + p1)))))) hx hb hr hlk hS ((Prod.mk.inj (Option.some.inj h)).2 ▸ hP) (Prod.mk.inj (Option.some.inj h)).1 dX6_stands_80
  have B28 : ∀ (x2 : Int32) (s0 : Int32) (M : Mem) (H : Heap) (locs : List Loc) (ls : Array Slot), fX6_stands_b28 p1 x2 s0 M = some (r, M') → va_P g.1 vwCl (wl 14 a (eN g a M)) H → va_S (aA 14 a s.heap.size) s.heap H locs → lv_has ls 4 [(0, .ref (a 0)), (1, .int p1), (2, .int x2)] → W p l e rmX6_stands s m args below meth c H locs 0 0 Qz (F0 m 28 ls [.int s0, .ref (a 0)]) := by
    intro x2 s0 M H locs ls h hP hS hl
    unfold fX6_stands_b28 at h
    obtain ⟨M3, e2, h⟩ := bdV_ok h
    refine r_callVv (As := [.int s0]) (rest := []) (ws' := (wl 14 a (eN g a M3))) (ok_X6_begins l g a hI s0 M M3 e2) ⟨hx, hb, hml, hown, hts⟩ (cwV 1 hts gX6_stands_X6_begins rfl rfl rfl (by decide +kernel) ⟨Nat.le_of_ble_eq_true rfl, Nat.le_of_ble_eq_true rfl⟩) hK (r_recv hK hP 0 (by decide) eN_0 (show vwCl[6]? = some (RX6, TX6, 20) from rfl)) hS hP (fun _ hq => aA_mono hS.1 hq) (fun _ h _ => h) rfl hl.1 rfl (Nat.le_of_ble_eq_true rfl) dX6_stands_28 ⟨Nat.zero_le _, Nat.zero_le _⟩ (fun H locs hP hS => ?_)
    exact B31 x2 M3 _ _ _ h hP hS (lv_sub hl [0, 1, 2] rfl)
  unfold fX6_stands at h
  refine lv_aload_n hx hb dX6_stands_0 rfl (lv_at hl 0 rfl) ?_
  refine r_get (v := .ref (a 6)) hx hb hts iX6 hown hK hP 0 (by decide) eN_0 rfl 8 (by decide) w25 rfl dX6_stands_1 ?_
  refine lv_bipush (v := 18) hx hb dX6_stands_4 (by decide) ?_
  refine lv_iload_n hx hb dX6_stands_6 rfl (lv_at hl 1 rfl) ?_
  refine lv_iadd (x := 18) (y := p1) hx hb dX6_stands_7 ?_
  obtain ⟨q1, h⟩ := chk_ok h
  refine r_iald (i := (18 + p1)) (h := M 6) hx hb hK hP 6 (by decide) rfl q1 dX6_stands_8 ?_
  refine lv_istore_n (lv' := [(2, .int (M 6 (Int32.toNatClampNeg (18 + p1)))), (0, .ref (a 0)), (1, .int p1)]) hx hb dX6_stands_9 rfl hl (by decide) rfl (fun ls hl => ?_)
  refine lv_iload_n hx hb dX6_stands_10 rfl (lv_at hl 0 rfl) ?_
  refine lv_iconst (v := 1) hx hb dX6_stands_11 (by decide) ?_
  refine lv_icmp_eq (x := (M 6 (Int32.toNatClampNeg (18 + p1)))) (y := 1) (tgt := 31) hx hb dX6_stands_12 (by decide) (fun q2 => ?_) (fun q2 => ?_)
  · replace h := if_t q2 h
    exact B31 (M 6 (Int32.toNatClampNeg (18 + p1))) M _ _ _ h hP hS (lv_sub hl [1, 2, 0] rfl)
  · replace h := if_f q2 h
    refine lv_aload_n hx hb dX6_stands_15 rfl (lv_at hl 1 rfl) ?_
    refine lv_iload_n hx hb dX6_stands_16 rfl (lv_at hl 0 rfl) ?_
    refine lv_iconst (v := 2) hx hb dX6_stands_17 (by decide) ?_
    refine lv_icmp_ne (x := (M 6 (Int32.toNatClampNeg (18 + p1)))) (y := 2) (tgt := 26) hx hb dX6_stands_18 (by decide) (fun q3 => ?_) (fun q3 => ?_)
    · replace h := if_f q3 h
      refine lv_bipush (v := 22) hx hb dX6_stands_26 (by decide) ?_
      exact B28 (M 6 (Int32.toNatClampNeg (18 + p1))) 22 M _ _ _ h hP hS (lv_sub hl [1, 2, 0] rfl)
    · replace h := if_t q3 h
      refine lv_bipush (v := 24) hx hb dX6_stands_21 (by decide) ?_
      refine lv_goto (tgt := 28) hx hb dX6_stands_23 (by decide) ?_
      exact B28 (M 6 (Int32.toNatClampNeg (18 + p1))) 24 M _ _ _ h hP hS (lv_sub hl [1, 2, 0] rfl)
def rmX6_size : Room := { frames := 3, cells := 0, slots := 0, locals := 104 }
set_option maxHeartbeats 4000000 in
set_option maxRecDepth 100000 in
theorem ok_X6_size (l : Launch) (g : gT) (a : Nat → Nat) (hI : ij 14 a) (p1 : Int32) (M : Mem) (M' : Mem) (r : Int32) (h : fX6_size p1 M = some (r, M')) : MI l yX6_size wsX6_size rmX6_size g 14 a [.ref (a 0), .int p1] (wl 14 a (eN g a M)) (wl 14 a (eN g a M')) r := by
  refine MI_of (cc := cX6_size) (maxL := 5) (rt := .int) (by decide) rfl (Nat.le_of_ble_eq_true rfl) ?_
  intro p e s m args below meth c ls hx hb hml hr hlk hts hown hK hP hl
  have hown : s.vm.findClass RX6 = some m.cls := hown
  have hl : lv_has ls 5 [(0, .ref (a 0)), (1, .int p1)] := hl
  have hS : va_S (aA 14 a s.heap.size) s.heap s.heap [] := va_S.rf
  have iX6 : ∀ w ∈ wsX60, w ∈ wsX6_size := fun w h => List.mem_cons_of_mem _ (List.mem_append_right _ h)
  have w25 := hts (.fieldLink RX6 25 "StepRidersModel" "s" "[I") (by decide +kernel)
  obtain ⟨Qz, hQz⟩ : ∃ Qz : State → Prop, Qz = MQ below (qI g (wl 14 a (eN g a M')) r (aA 14 a s.heap.size)) args s 0 0 (aA 14 a s.heap.size) := ⟨_, rfl⟩
  rw [← hQz]
  have B77 : ∀ (x2 : Int32) (x3 : Int32) (M : Mem) (H : Heap) (locs : List Loc) (ls : Array Slot), fX6_size_b77 p1 x2 x3 M = some (r, M') → va_P g.1 vwCl (wl 14 a (eN g a M)) H → va_S (aA 14 a s.heap.size) s.heap H locs → lv_has ls 5 [(0, .ref (a 0)), (1, .int p1), (2, .int x2), (3, .int x3)] → W p l e rmX6_size s m args below meth c H locs 0 0 Qz (F0 m 77 ls []) := by
    intro x2 x3 M H locs ls h hP hS hl
    unfold fX6_size_b77 at h
    refine lv_aload_n hx hb dX6_size_77 rfl (lv_at hl 0 rfl) ?_
    refine lv_bipush (v := 11) hx hb dX6_size_78 (by decide) ?_
    obtain ⟨M3, e2, h⟩ := bdV_ok h
    refine r_callVv (As := [.int 11]) (rest := []) (ws' := (wl 14 a (eN g a M3))) (ok_X6_begins l g a hI 11 M M3 e2) ⟨hx, hb, hml, hown, hts⟩ (cwV 1 hts gX6_size_X6_begins rfl rfl rfl (by decide +kernel) ⟨Nat.le_of_ble_eq_true rfl, Nat.le_of_ble_eq_true rfl⟩) hK (r_recv hK hP 0 (by decide) eN_0 (show vwCl[6]? = some (RX6, TX6, 20) from rfl)) hS hP (fun _ hq => aA_mono hS.1 hq) (fun _ h _ => h) rfl hl.1 rfl (Nat.le_of_ble_eq_true rfl) dX6_size_80 ⟨Nat.zero_le _, Nat.zero_le _⟩ (fun H locs hP hS => ?_)
    refine lv_aload_n hx hb dX6_size_83 rfl (lv_at hl 0 rfl) ?_
    refine lv_bipush (v := 10) hx hb dX6_size_84 (by decide) ?_
    obtain ⟨M6, e5, h⟩ := bdV_ok h
    refine r_callVv (As := [.int 10]) (rest := []) (ws' := (wl 14 a (eN g a M6))) (ok_X6_begins l g a hI 10 M3 M6 e5) ⟨hx, hb, hml, hown, hts⟩ (cwV 1 hts gX6_size_X6_begins rfl rfl rfl (by decide +kernel) ⟨Nat.le_of_ble_eq_true rfl, Nat.le_of_ble_eq_true rfl⟩) hK (r_recv hK hP 0 (by decide) eN_0 (show vwCl[6]? = some (RX6, TX6, 20) from rfl)) hS hP (fun _ hq => aA_mono hS.1 hq) (fun _ h _ => h) rfl hl.1 rfl (Nat.le_of_ble_eq_true rfl) dX6_size_86 ⟨Nat.zero_le _, Nat.zero_le _⟩ (fun H locs hP hS => ?_)
    refine lv_iload_n hx hb dX6_size_89 rfl (lv_at hl 3 rfl) ?_
    refine lv_aload_n hx hb dX6_size_90 rfl (lv_at hl 0 rfl) ?_
    refine lv_iload_n hx hb dX6_size_91 rfl (lv_at hl 1 rfl) ?_
    obtain ⟨r7, M9, e8, h⟩ := bdI_ok h
    refine r_callVi (As := [.int p1]) (rest := [.int x3]) (ws' := (wl 14 a (eN g a M9))) (ok_X6_stands l g a hI p1 M6 M9 r7 e8) ⟨hx, hb, hml, hown, hts⟩ (cwV 1 hts gX6_size_X6_stands rfl rfl rfl (by decide +kernel) ⟨Nat.le_of_ble_eq_true rfl, Nat.le_of_ble_eq_true rfl⟩) hK (r_recv hK hP 0 (by decide) eN_0 (show vwCl[6]? = some (RX6, TX6, 20) from rfl)) hS hP (fun _ hq => aA_mono hS.1 hq) (fun _ h _ => h) rfl hl.1 rfl (Nat.le_of_ble_eq_true rfl) dX6_size_92 ⟨Nat.zero_le _, Nat.zero_le _⟩ (fun H locs hP hS => ?_)
    refine lv_iadd (x := x3) (y := r7) hx hb dX6_size_95 ?_
    refine lv_istore (lv' := [(4, .int (x3 + r7)), (0, .ref (a 0)), (1, .int p1), (2, .int x2), (3, .int x3)]) hx hb dX6_size_96 hl (by decide) rfl (fun ls hl => ?_)
    refine lv_iload_n hx hb dX6_size_98 rfl (lv_at hl 3 rfl) ?_
    refine lv_iconst (v := 2) hx hb dX6_size_99 (by decide) ?_
    refine lv_icmp_ne (x := x2) (y := 2) (tgt := 109) hx hb dX6_size_100 (by decide) (fun q10 => ?_) (fun q10 => ?_)
    · replace h := if_f q10 h
      refine lv_iload hx hb dX6_size_109 (lv_at hl 0 rfl) ?_
      rw [hQz]
      exact r_iret (v := (x3 + r7)) hx hb hr hlk hS ((Prod.mk.inj (Option.some.inj h)).2 ▸ hP) (Prod.mk.inj (Option.some.inj h)).1 dX6_size_111
    · replace h := if_t q10 h
      refine lv_iload hx hb dX6_size_103 (lv_at hl 0 rfl) ?_
      refine lv_ineg (x := (x3 + r7)) hx hb dX6_size_105 ?_
      refine lv_goto (tgt := 111) hx hb dX6_size_106 (by decide) ?_
      rw [hQz]
      exact r_iret (v := ((-(x3 + r7)))) hx hb hr hlk hS ((Prod.mk.inj (Option.some.inj h)).2 ▸ hP) (Prod.mk.inj (Option.some.inj h)).1 dX6_size_111
  have B30 : ∀ (x2 : Int32) (x3 : Int32) (M : Mem) (H : Heap) (locs : List Loc) (ls : Array Slot), fX6_size_b30 p1 x2 x3 M = some (r, M') → va_P g.1 vwCl (wl 14 a (eN g a M)) H → va_S (aA 14 a s.heap.size) s.heap H locs → lv_has ls 5 [(0, .ref (a 0)), (1, .int p1), (2, .int x2), (3, .int x3)] → W p l e rmX6_size s m args below meth c H locs 0 0 Qz (F0 m 30 ls []) := by
    intro x2 x3 M H locs ls h hP hS hl
    unfold fX6_size_b30 at h
    refine lv_iload_n hx hb dX6_size_30 rfl (lv_at hl 2 rfl) ?_
    refine lv_iconst (v := 4) hx hb dX6_size_31 (by decide) ?_
    refine lv_icmp_lt (x := x2) (y := 4) (tgt := 66) hx hb dX6_size_32 (by decide) (fun q1 => ?_) (fun q1 => ?_)
    · replace h := if_t q1 h
      refine lv_iload_n hx hb dX6_size_66 rfl (lv_at hl 2 rfl) ?_
      refine lv_iconst (v := 2) hx hb dX6_size_67 (by decide) ?_
      refine lv_icmp_ne (x := x2) (y := 2) (tgt := 77) hx hb dX6_size_68 (by decide) (fun q2 => ?_) (fun q2 => ?_)
      · replace h := if_f q2 h
        exact B77 x2 x3 M _ _ _ h hP hS (lv_sub hl [0, 1, 2, 3] rfl)
      · replace h := if_t q2 h
        refine lv_aload_n hx hb dX6_size_71 rfl (lv_at hl 0 rfl) ?_
        refine lv_bipush (v := 12) hx hb dX6_size_72 (by decide) ?_
        obtain ⟨M5, e4, h⟩ := bdV_ok h
        refine r_callVv (As := [.int 12]) (rest := []) (ws' := (wl 14 a (eN g a M5))) (ok_X6_begins l g a hI 12 M M5 e4) ⟨hx, hb, hml, hown, hts⟩ (cwV 1 hts gX6_size_X6_begins rfl rfl rfl (by decide +kernel) ⟨Nat.le_of_ble_eq_true rfl, Nat.le_of_ble_eq_true rfl⟩) hK (r_recv hK hP 0 (by decide) eN_0 (show vwCl[6]? = some (RX6, TX6, 20) from rfl)) hS hP (fun _ hq => aA_mono hS.1 hq) (fun _ h _ => h) rfl hl.1 rfl (Nat.le_of_ble_eq_true rfl) dX6_size_74 ⟨Nat.zero_le _, Nat.zero_le _⟩ (fun H locs hP hS => ?_)
        exact B77 x2 x3 M5 _ _ _ h hP hS (lv_sub hl [0, 1, 2, 3] rfl)
    · replace h := if_f q1 h
      refine lv_aload_n hx hb dX6_size_35 rfl (lv_at hl 0 rfl) ?_
      refine lv_bipush (v := 13) hx hb dX6_size_36 (by decide) ?_
      obtain ⟨M8, e7, h⟩ := bdV_ok h
      refine r_callVv (As := [.int 13]) (rest := []) (ws' := (wl 14 a (eN g a M8))) (ok_X6_begins l g a hI 13 M M8 e7) ⟨hx, hb, hml, hown, hts⟩ (cwV 1 hts gX6_size_X6_begins rfl rfl rfl (by decide +kernel) ⟨Nat.le_of_ble_eq_true rfl, Nat.le_of_ble_eq_true rfl⟩) hK (r_recv hK hP 0 (by decide) eN_0 (show vwCl[6]? = some (RX6, TX6, 20) from rfl)) hS hP (fun _ hq => aA_mono hS.1 hq) (fun _ h _ => h) rfl hl.1 rfl (Nat.le_of_ble_eq_true rfl) dX6_size_38 ⟨Nat.zero_le _, Nat.zero_le _⟩ (fun H locs hP hS => ?_)
      refine lv_aload_n hx hb dX6_size_41 rfl (lv_at hl 0 rfl) ?_
      refine lv_bipush (v := 10) hx hb dX6_size_42 (by decide) ?_
      obtain ⟨M11, e10, h⟩ := bdV_ok h
      refine r_callVv (As := [.int 10]) (rest := []) (ws' := (wl 14 a (eN g a M11))) (ok_X6_begins l g a hI 10 M8 M11 e10) ⟨hx, hb, hml, hown, hts⟩ (cwV 1 hts gX6_size_X6_begins rfl rfl rfl (by decide +kernel) ⟨Nat.le_of_ble_eq_true rfl, Nat.le_of_ble_eq_true rfl⟩) hK (r_recv hK hP 0 (by decide) eN_0 (show vwCl[6]? = some (RX6, TX6, 20) from rfl)) hS hP (fun _ hq => aA_mono hS.1 hq) (fun _ h _ => h) rfl hl.1 rfl (Nat.le_of_ble_eq_true rfl) dX6_size_44 ⟨Nat.zero_le _, Nat.zero_le _⟩ (fun H locs hP hS => ?_)
      refine lv_iload_n hx hb dX6_size_47 rfl (lv_at hl 2 rfl) ?_
      refine lv_iconst (v := 5) hx hb dX6_size_48 (by decide) ?_
      refine lv_icmp_ne (x := x2) (y := 5) (tgt := 61) hx hb dX6_size_49 (by decide) (fun q12 => ?_) (fun q12 => ?_)
      · replace h := if_f q12 h
        refine lv_iload_n hx hb dX6_size_61 rfl (lv_at hl 3 rfl) ?_
        refine lv_bipush (v := 100) hx hb dX6_size_62 (by decide) ?_
        refine lv_isub (x := x3) (y := 100) hx hb dX6_size_64 ?_
        rw [hQz]
        exact r_iret (v := (x3 - 100)) hx hb hr hlk hS ((Prod.mk.inj (Option.some.inj h)).2 ▸ hP) (Prod.mk.inj (Option.some.inj h)).1 dX6_size_65
      · replace h := if_t q12 h
        refine lv_iconst (v := 2) hx hb dX6_size_52 (by decide) ?_
        refine lv_iload_n hx hb dX6_size_53 rfl (lv_at hl 3 rfl) ?_
        refine lv_bipush (v := 100) hx hb dX6_size_54 (by decide) ?_
        refine lv_isub (x := x3) (y := 100) hx hb dX6_size_56 ?_
        refine lv_imul (x := 2) (y := (x3 - 100)) hx hb dX6_size_57 ?_
        refine lv_goto (tgt := 65) hx hb dX6_size_58 (by decide) ?_
        rw [hQz]
        exact r_iret (v := (2 * (x3 - 100))) hx hb hr hlk hS ((Prod.mk.inj (Option.some.inj h)).2 ▸ hP) (Prod.mk.inj (Option.some.inj h)).1 dX6_size_65
  unfold fX6_size at h
  refine lv_aload_n hx hb dX6_size_0 rfl (lv_at hl 0 rfl) ?_
  refine r_get (v := .ref (a 6)) hx hb hts iX6 hown hK hP 0 (by decide) eN_0 rfl 8 (by decide) w25 rfl dX6_size_1 ?_
  refine lv_bipush (v := 18) hx hb dX6_size_4 (by decide) ?_
  refine lv_iload_n hx hb dX6_size_6 rfl (lv_at hl 1 rfl) ?_
  refine lv_iadd (x := 18) (y := p1) hx hb dX6_size_7 ?_
  obtain ⟨q1, h⟩ := chk_ok h
  refine r_iald (i := (18 + p1)) (h := M 6) hx hb hK hP 6 (by decide) rfl q1 dX6_size_8 ?_
  refine lv_istore_n (lv' := [(2, .int (M 6 (Int32.toNatClampNeg (18 + p1)))), (0, .ref (a 0)), (1, .int p1)]) hx hb dX6_size_9 rfl hl (by decide) rfl (fun ls hl => ?_)
  refine lv_aload_n hx hb dX6_size_10 rfl (lv_at hl 1 rfl) ?_
  refine r_get (v := .ref (a 6)) hx hb hts iX6 hown hK hP 0 (by decide) eN_0 rfl 8 (by decide) w25 rfl dX6_size_11 ?_
  refine lv_iconst (v := 2) hx hb dX6_size_14 (by decide) ?_
  refine lv_iload_n hx hb dX6_size_15 rfl (lv_at hl 2 rfl) ?_
  refine lv_iadd (x := 2) (y := p1) hx hb dX6_size_16 ?_
  obtain ⟨q2, h⟩ := chk_ok h
  refine r_iald (i := (2 + p1)) (h := M 6) hx hb hK hP 6 (by decide) rfl q2 dX6_size_17 ?_
  refine lv_istore_n (lv' := [(3, .int (M 6 (Int32.toNatClampNeg (2 + p1)))), (2, .int (M 6 (Int32.toNatClampNeg (18 + p1)))), (0, .ref (a 0)), (1, .int p1)]) hx hb dX6_size_18 rfl hl (by decide) rfl (fun ls hl => ?_)
  refine lv_iload_n hx hb dX6_size_19 rfl (lv_at hl 1 rfl) ?_
  refine lv_iconst (v := 5) hx hb dX6_size_20 (by decide) ?_
  refine lv_icmp_ne (x := (M 6 (Int32.toNatClampNeg (18 + p1)))) (y := 5) (tgt := 30) hx hb dX6_size_21 (by decide) (fun q3 => ?_) (fun q3 => ?_)
  · replace h := if_f q3 h
    exact B30 (M 6 (Int32.toNatClampNeg (18 + p1))) (M 6 (Int32.toNatClampNeg (2 + p1))) M _ _ _ h hP hS (lv_sub hl [2, 3, 1, 0] rfl)
  · replace h := if_t q3 h
    refine lv_aload_n hx hb dX6_size_24 rfl (lv_at hl 2 rfl) ?_
    refine lv_bipush (v := 14) hx hb dX6_size_25 (by decide) ?_
    obtain ⟨M6, e5, h⟩ := bdV_ok h
    refine r_callVv (As := [.int 14]) (rest := []) (ws' := (wl 14 a (eN g a M6))) (ok_X6_begins l g a hI 14 M M6 e5) ⟨hx, hb, hml, hown, hts⟩ (cwV 1 hts gX6_size_X6_begins rfl rfl rfl (by decide +kernel) ⟨Nat.le_of_ble_eq_true rfl, Nat.le_of_ble_eq_true rfl⟩) hK (r_recv hK hP 0 (by decide) eN_0 (show vwCl[6]? = some (RX6, TX6, 20) from rfl)) hS hP (fun _ hq => aA_mono hS.1 hq) (fun _ h _ => h) rfl hl.1 rfl (Nat.le_of_ble_eq_true rfl) dX6_size_27 ⟨Nat.zero_le _, Nat.zero_le _⟩ (fun H locs hP hS => ?_)
    exact B30 (M 6 (Int32.toNatClampNeg (18 + p1))) (M 6 (Int32.toNatClampNeg (2 + p1))) M6 _ _ _ h hP hS (lv_sub hl [2, 3, 1, 0] rfl)
def rmX6_ask : Room := { frames := 4, cells := 0, slots := 0, locals := 128 }
set_option maxHeartbeats 4000000 in
set_option maxRecDepth 100000 in
theorem ok_X6_ask (l : Launch) (g : gT) (a : Nat → Nat) (hI : ij 14 a) (p1 : Int32) (p2 : Int32) (M : Mem) (M' : Mem) (r : Int32) (h : fX6_ask p1 p2 M = some (r, M')) : MI l yX6_ask wsX6_ask rmX6_ask g 14 a [.ref (a 0), .int p1, .int p2] (wl 14 a (eN g a M)) (wl 14 a (eN g a M')) r := by
  refine MI_of (cc := cX6_ask) (maxL := 3) (rt := .int) (by decide) rfl (Nat.le_of_ble_eq_true rfl) ?_
  intro p e s m args below meth c ls hx hb hml hr hlk hts hown hK hP hl
  have hown : s.vm.findClass RX6 = some m.cls := hown
  have hl : lv_has ls 3 [(0, .ref (a 0)), (1, .int p1), (2, .int p2)] := hl
  have hS : va_S (aA 14 a s.heap.size) s.heap s.heap [] := va_S.rf
  have iX6 : ∀ w ∈ wsX60, w ∈ wsX6_ask := fun w h => List.mem_cons_of_mem _ (List.mem_append_right _ h)
  have w65 := hts (.constant RX6 65 (-1000001)) (by decide +kernel)
  have w181 := hts (.fieldLink RX6 181 "StepRidersModel" "traced" "I") (by decide +kernel)
  have w25 := hts (.fieldLink RX6 25 "StepRidersModel" "s" "[I") (by decide +kernel)
  obtain ⟨Qz, hQz⟩ : ∃ Qz : State → Prop, Qz = MQ below (qI g (wl 14 a (eN g a M')) r (aA 14 a s.heap.size)) args s 0 0 (aA 14 a s.heap.size) := ⟨_, rfl⟩
  rw [← hQz]
  unfold fX6_ask at h
  refine lv_aload_n hx hb dX6_ask_0 rfl (lv_at hl 0 rfl) ?_
  refine lv_iload_n hx hb dX6_ask_1 rfl (lv_at hl 1 rfl) ?_
  obtain ⟨r1, e2, h⟩ := bdP_ok h
  refine r_callVi (As := [.int p1]) (rest := []) (ws' := (wl 14 a (eN g a M))) (ok_X6_isRider l g a hI p1 M r1 e2) ⟨hx, hb, hml, hown, hts⟩ (cwV 1 hts gX6_ask_X6_isRider rfl rfl rfl (by decide +kernel) ⟨Nat.le_of_ble_eq_true rfl, Nat.le_of_ble_eq_true rfl⟩) hK (r_recv hK hP 0 (by decide) eN_0 (show vwCl[6]? = some (RX6, TX6, 20) from rfl)) hS hP (fun _ hq => aA_mono hS.1 hq) (fun _ h _ => h) rfl hl.1 rfl (Nat.le_of_ble_eq_true rfl) dX6_ask_2 ⟨Nat.zero_le _, Nat.zero_le _⟩ (fun H locs hP hS => ?_)
  refine lv_if_eq (x := r1) (tgt := 17) hx hb dX6_ask_5 (by decide) (fun q3 => ?_) (fun q3 => ?_)
  · replace h := if_t q3 h
    refine lv_ldc (v := (-1000001)) hx hb hown w65 dX6_ask_17 ?_
    rw [hQz]
    exact r_iret (v := (-1000001)) hx hb hr hlk hS ((Prod.mk.inj (Option.some.inj h)).2 ▸ hP) (Prod.mk.inj (Option.some.inj h)).1 dX6_ask_19
  · replace h := if_f q3 h
    refine lv_iload_n hx hb dX6_ask_8 rfl (lv_at hl 2 rfl) ?_
    refine lv_iconst (v := 0) hx hb dX6_ask_9 (by decide) ?_
    refine lv_iconst (v := 1) hx hb dX6_ask_10 (by decide) ?_
    obtain ⟨r4, e5, h⟩ := bdP_ok h
    refine r_callSi (As := [.int p2, .int 0, .int 1]) (rest := []) (ws' := (wl 14 a (eN g a M))) (ok_X6_in l g p2 0 1 r4 e5) ⟨hx, hb, hml, hown, hts⟩ (cwS 3 hts gX6_ask_X6_in rfl rfl rfl (by decide +kernel) ⟨Nat.le_of_ble_eq_true rfl, Nat.le_of_ble_eq_true rfl⟩) hK hS nilP (P_A hS.1) (fun _ _ hk => wl_keep hP hk) rfl hl.1 rfl (Nat.le_of_ble_eq_true rfl) dX6_ask_11 ⟨Nat.zero_le _, Nat.zero_le _⟩ (fun H locs hP hS => ?_)
    refine lv_if_ne (x := r4) (tgt := 20) hx hb dX6_ask_14 (by decide) (fun q6 => ?_) (fun q6 => ?_)
    · replace h := if_f q6 h
      refine lv_aload_n hx hb dX6_ask_20 rfl (lv_at hl 0 rfl) ?_
      refine lv_iconst (v := 0) hx hb dX6_ask_21 (by decide) ?_
      refine r_put (v := .int 0) (ty := .int) (f' := eN g a (mp M 0 17 0)) hx hb hts iX6 tyX6 tyX6_ok nmX6 hown hK hI (fun _ h => aA_in h) hP hS 0 (by decide) eN_0 rfl 17 (by decide) w181 rfl (by decide +kernel) rfl rfl (Nat.le_of_ble_eq_true rfl) eN_p17 dX6_ask_22 (fun H locs hP hS => ?_)
      refine lv_iload_n hx hb dX6_ask_25 rfl (lv_at hl 2 rfl) ?_
      refine lv_if_ne (x := p2) (tgt := 35) hx hb dX6_ask_26 (by decide) (fun q7 => ?_) (fun q7 => ?_)
      · replace h := if_f q7 h
        refine lv_aload_n hx hb dX6_ask_35 rfl (lv_at hl 0 rfl) ?_
        refine r_get (v := .ref (a 6)) hx hb hts iX6 hown hK hP 0 (by decide) eN_0 rfl 8 (by decide) w25 rfl dX6_ask_36 ?_
        refine lv_bipush (v := 18) hx hb dX6_ask_39 (by decide) ?_
        refine lv_iload_n hx hb dX6_ask_41 rfl (lv_at hl 1 rfl) ?_
        refine lv_iadd (x := 18) (y := p1) hx hb dX6_ask_42 ?_
        obtain ⟨q8, h⟩ := chk_ok h
        refine r_iald (i := (18 + p1)) (h := (mp M 0 17 0) 6) hx hb hK hP 6 (by decide) rfl q8 dX6_ask_43 ?_
        refine lv_iconst (v := 4) hx hb dX6_ask_44 (by decide) ?_
        refine lv_icmp_ge (x := ((mp M 0 17 0) 6 (Int32.toNatClampNeg (18 + p1)))) (y := 4) (tgt := 54) hx hb dX6_ask_45 (by decide) (fun q9 => ?_) (fun q9 => ?_)
        · replace h := if_t q9 h
          refine lv_aload_n hx hb dX6_ask_54 rfl (lv_at hl 0 rfl) ?_
          refine lv_bipush (v := 23) hx hb dX6_ask_55 (by decide) ?_
          obtain ⟨M12, e11, h⟩ := bdV_ok h
          refine r_callVv (As := [.int 23]) (rest := []) (ws' := (wl 14 a (eN g a M12))) (ok_X6_begins l g a hI 23 (mp M 0 17 0) M12 e11) ⟨hx, hb, hml, hown, hts⟩ (cwV 1 hts gX6_ask_X6_begins rfl rfl rfl (by decide +kernel) ⟨Nat.le_of_ble_eq_true rfl, Nat.le_of_ble_eq_true rfl⟩) hK (r_recv hK hP 0 (by decide) eN_0 (show vwCl[6]? = some (RX6, TX6, 20) from rfl)) hS hP (fun _ hq => aA_mono hS.1 hq) (fun _ h _ => h) rfl hl.1 rfl (Nat.le_of_ble_eq_true rfl) dX6_ask_57 ⟨Nat.zero_le _, Nat.zero_le _⟩ (fun H locs hP hS => ?_)
          refine lv_aload_n hx hb dX6_ask_60 rfl (lv_at hl 0 rfl) ?_
          refine lv_bipush (v := 20) hx hb dX6_ask_61 (by decide) ?_
          obtain ⟨M15, e14, h⟩ := bdV_ok h
          refine r_callVv (As := [.int 20]) (rest := []) (ws' := (wl 14 a (eN g a M15))) (ok_X6_begins l g a hI 20 M12 M15 e14) ⟨hx, hb, hml, hown, hts⟩ (cwV 1 hts gX6_ask_X6_begins rfl rfl rfl (by decide +kernel) ⟨Nat.le_of_ble_eq_true rfl, Nat.le_of_ble_eq_true rfl⟩) hK (r_recv hK hP 0 (by decide) eN_0 (show vwCl[6]? = some (RX6, TX6, 20) from rfl)) hS hP (fun _ hq => aA_mono hS.1 hq) (fun _ h _ => h) rfl hl.1 rfl (Nat.le_of_ble_eq_true rfl) dX6_ask_63 ⟨Nat.zero_le _, Nat.zero_le _⟩ (fun H locs hP hS => ?_)
          refine lv_iload_n hx hb dX6_ask_66 rfl (lv_at hl 1 rfl) ?_
          refine lv_aload_n hx hb dX6_ask_67 rfl (lv_at hl 0 rfl) ?_
          refine lv_iload_n hx hb dX6_ask_68 rfl (lv_at hl 1 rfl) ?_
          obtain ⟨r16, M18, e17, h⟩ := bdI_ok h
          refine r_callVi (As := [.int p1]) (rest := [.int p1]) (ws' := (wl 14 a (eN g a M18))) (ok_X6_size l g a hI p1 M15 M18 r16 e17) ⟨hx, hb, hml, hown, hts⟩ (cwV 1 hts gX6_ask_X6_size rfl rfl rfl (by decide +kernel) ⟨Nat.le_of_ble_eq_true rfl, Nat.le_of_ble_eq_true rfl⟩) hK (r_recv hK hP 0 (by decide) eN_0 (show vwCl[6]? = some (RX6, TX6, 20) from rfl)) hS hP (fun _ hq => aA_mono hS.1 hq) (fun _ h _ => h) rfl hl.1 rfl (Nat.le_of_ble_eq_true rfl) dX6_ask_69 ⟨Nat.zero_le _, Nat.zero_le _⟩ (fun H locs hP hS => ?_)
          refine lv_isub (x := p1) (y := r16) hx hb dX6_ask_72 ?_
          rw [hQz]
          exact r_iret (v := (p1 - r16)) hx hb hr hlk hS ((Prod.mk.inj (Option.some.inj h)).2 ▸ hP) (Prod.mk.inj (Option.some.inj h)).1 dX6_ask_73
        · replace h := if_f q9 h
          refine lv_aload_n hx hb dX6_ask_48 rfl (lv_at hl 0 rfl) ?_
          refine lv_iload_n hx hb dX6_ask_49 rfl (lv_at hl 1 rfl) ?_
          obtain ⟨r19, M21, e20, h⟩ := bdI_ok h
          refine r_callVi (As := [.int p1]) (rest := []) (ws' := (wl 14 a (eN g a M21))) (ok_X6_stands l g a hI p1 (mp M 0 17 0) M21 r19 e20) ⟨hx, hb, hml, hown, hts⟩ (cwV 1 hts gX6_ask_X6_stands rfl rfl rfl (by decide +kernel) ⟨Nat.le_of_ble_eq_true rfl, Nat.le_of_ble_eq_true rfl⟩) hK (r_recv hK hP 0 (by decide) eN_0 (show vwCl[6]? = some (RX6, TX6, 20) from rfl)) hS hP (fun _ hq => aA_mono hS.1 hq) (fun _ h _ => h) rfl hl.1 rfl (Nat.le_of_ble_eq_true rfl) dX6_ask_50 ⟨Nat.zero_le _, Nat.zero_le _⟩ (fun H locs hP hS => ?_)
          rw [hQz]
          exact r_iret (v := r19) hx hb hr hlk hS ((Prod.mk.inj (Option.some.inj h)).2 ▸ hP) (Prod.mk.inj (Option.some.inj h)).1 dX6_ask_53
      · replace h := if_t q7 h
        refine lv_aload_n hx hb dX6_ask_29 rfl (lv_at hl 0 rfl) ?_
        refine lv_iload_n hx hb dX6_ask_30 rfl (lv_at hl 1 rfl) ?_
        obtain ⟨r22, M24, e23, h⟩ := bdI_ok h
        refine r_callVi (As := [.int p1]) (rest := []) (ws' := (wl 14 a (eN g a M24))) (ok_X6_size l g a hI p1 (mp M 0 17 0) M24 r22 e23) ⟨hx, hb, hml, hown, hts⟩ (cwV 1 hts gX6_ask_X6_size rfl rfl rfl (by decide +kernel) ⟨Nat.le_of_ble_eq_true rfl, Nat.le_of_ble_eq_true rfl⟩) hK (r_recv hK hP 0 (by decide) eN_0 (show vwCl[6]? = some (RX6, TX6, 20) from rfl)) hS hP (fun _ hq => aA_mono hS.1 hq) (fun _ h _ => h) rfl hl.1 rfl (Nat.le_of_ble_eq_true rfl) dX6_ask_31 ⟨Nat.zero_le _, Nat.zero_le _⟩ (fun H locs hP hS => ?_)
        rw [hQz]
        exact r_iret (v := r22) hx hb hr hlk hS ((Prod.mk.inj (Option.some.inj h)).2 ▸ hP) (Prod.mk.inj (Option.some.inj h)).1 dX6_ask_34
    · replace h := if_t q6 h
      refine lv_ldc (v := (-1000001)) hx hb hown w65 dX6_ask_17 ?_
      rw [hQz]
      exact r_iret (v := (-1000001)) hx hb hr hlk hS ((Prod.mk.inj (Option.some.inj h)).2 ▸ hP) (Prod.mk.inj (Option.some.inj h)).1 dX6_ask_19
def rmX6_trace : Room := { frames := 2, cells := 0, slots := 0, locals := 82 }
set_option maxHeartbeats 4000000 in
set_option maxRecDepth 100000 in
theorem ok_X6_trace (l : Launch) (g : gT) (a : Nat → Nat) (hI : ij 14 a) (p1 : Int32) (M : Mem) (r : Int32) (h : fX6_trace p1 M = some r) : MI l yX6_trace wsX6_trace rmX6_trace g 14 a [.ref (a 0), .int p1] (wl 14 a (eN g a M)) (wl 14 a (eN g a M)) r := by
  refine MI_of (cc := cX6_trace) (maxL := 2) (rt := .int) (by decide) rfl (Nat.le_of_ble_eq_true rfl) ?_
  intro p e s m args below meth c ls hx hb hml hr hlk hts hown hK hP hl
  have hown : s.vm.findClass RX6 = some m.cls := hown
  have hl : lv_has ls 2 [(0, .ref (a 0)), (1, .int p1)] := hl
  have hS : va_S (aA 14 a s.heap.size) s.heap s.heap [] := va_S.rf
  have iX6 : ∀ w ∈ wsX60, w ∈ wsX6_trace := fun w h => List.mem_cons_of_mem _ (List.mem_append_right _ h)
  have w181 := hts (.fieldLink RX6 181 "StepRidersModel" "traced" "I") (by decide +kernel)
  have w154 := hts (.constant RX6 154 (-1000000)) (by decide +kernel)
  have w47 := hts (.fieldLink RX6 47 "StepRidersModel" "traces" "[I") (by decide +kernel)
  obtain ⟨Qz, hQz⟩ : ∃ Qz : State → Prop, Qz = MQ below (qI g (wl 14 a (eN g a M)) r (aA 14 a s.heap.size)) args s 0 0 (aA 14 a s.heap.size) := ⟨_, rfl⟩
  rw [← hQz]
  unfold fX6_trace at h
  refine lv_iload_n hx hb dX6_trace_0 rfl (lv_at hl 1 rfl) ?_
  refine lv_iconst (v := 0) hx hb dX6_trace_1 (by decide) ?_
  refine lv_aload_n hx hb dX6_trace_2 rfl (lv_at hl 0 rfl) ?_
  refine r_get (v := .int (M 0 17)) hx hb hts iX6 hown hK hP 0 (by decide) eN_0 rfl 17 (by decide) w181 rfl dX6_trace_3 ?_
  refine lv_iconst (v := 1) hx hb dX6_trace_6 (by decide) ?_
  refine lv_isub (x := (M 0 17)) (y := 1) hx hb dX6_trace_7 ?_
  obtain ⟨r1, e2, h⟩ := bdP_ok h
  refine r_callSi (As := [.int p1, .int 0, .int ((M 0 17) - 1)]) (rest := []) (ws' := (wl 14 a (eN g a M))) (ok_X6_in l g p1 0 ((M 0 17) - 1) r1 e2) ⟨hx, hb, hml, hown, hts⟩ (cwS 3 hts gX6_trace_X6_in rfl rfl rfl (by decide +kernel) ⟨Nat.le_of_ble_eq_true rfl, Nat.le_of_ble_eq_true rfl⟩) hK hS nilP (P_A hS.1) (fun _ _ hk => wl_keep hP hk) rfl hl.1 rfl (Nat.le_of_ble_eq_true rfl) dX6_trace_8 ⟨Nat.zero_le _, Nat.zero_le _⟩ (fun H locs hP hS => ?_)
  refine lv_if_eq (x := r1) (tgt := 23) hx hb dX6_trace_11 (by decide) (fun q3 => ?_) (fun q3 => ?_)
  · replace h := if_t q3 h
    refine lv_ldc (v := (-1000000)) hx hb hown w154 dX6_trace_23 ?_
    rw [hQz]
    exact r_iret (v := (-1000000)) hx hb hr hlk hS hP (Option.some.inj h) dX6_trace_25
  · replace h := if_f q3 h
    refine lv_aload_n hx hb dX6_trace_14 rfl (lv_at hl 0 rfl) ?_
    refine r_get (v := .ref (a 13)) hx hb hts iX6 hown hK hP 0 (by decide) eN_0 rfl 16 (by decide) w47 rfl dX6_trace_15 ?_
    refine lv_iload_n hx hb dX6_trace_18 rfl (lv_at hl 1 rfl) ?_
    obtain ⟨q4, h⟩ := chk_ok h
    refine r_iald (i := p1) (h := M 13) hx hb hK hP 13 (by decide) rfl q4 dX6_trace_19 ?_
    refine lv_goto (tgt := 25) hx hb dX6_trace_20 (by decide) ?_
    rw [hQz]
    exact r_iret (v := (M 13 (Int32.toNatClampNeg p1))) hx hb hr hlk hS hP (Option.some.inj h) dX6_trace_25
