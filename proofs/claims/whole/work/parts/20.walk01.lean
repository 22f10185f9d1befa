def rmX2_mayCross : Room := { frames := 3, cells := 0, slots := 0, locals := 105 }
set_option maxHeartbeats 4000000 in
set_option maxRecDepth 100000 in
theorem ok_X2_mayCross (l : Launch) (g : gT) (a : Nat → Nat) (hI : ij 5 a) (p1 : Int32) (M : Mem) (r : Int32) (h : fX2_mayCross p1 M = some r) : MI l yX2_mayCross wsX2_mayCross rmX2_mayCross g 5 a [.ref (a 0), .int p1] (wl 5 a (eS g a M)) (wl 5 a (eS g a M)) r := by
  refine MI_of (cc := cX2_mayCross) (maxL := 2) (rt := .boolean) (by decide) rfl (Nat.le_of_ble_eq_true rfl) ?_
  intro p e s m args below meth c ls hx hb hml hr hlk hts hown hK hP hl
  have hown : s.vm.findClass RX2 = some m.cls := hown
  have hl : lv_has ls 2 [(0, .ref (a 0)), (1, .int p1)] := hl
  have hS : va_S (aA 5 a s.heap.size) s.heap s.heap [] := va_S.rf
  have iX2 : ∀ w ∈ wsX20, w ∈ wsX2_mayCross := fun w h => List.mem_cons_of_mem _ (List.mem_append_right _ h)
  have w31 := hts (.fieldLink RX2 31 "StepRiders$Stair" "at" "[I") (by decide +kernel)
  have w28 := hts (.fieldLink RX2 28 "StepRiders$Stair" "lane" "[I") (by decide +kernel)
  obtain ⟨Qz, hQz⟩ : ∃ Qz : State → Prop, Qz = MQ below (qI g (wl 5 a (eS g a M)) r (aA 5 a s.heap.size)) args s 0 0 (aA 5 a s.heap.size) := ⟨_, rfl⟩
  rw [← hQz]
  unfold fX2_mayCross at h
  refine lv_aload_n hx hb dX2_mayCross_0 rfl (lv_at hl 0 rfl) ?_
  refine lv_iload_n hx hb dX2_mayCross_1 rfl (lv_at hl 1 rfl) ?_
  obtain ⟨r1, e2, h⟩ := bdP_ok h
  refine r_callVi (As := [.int p1]) (rest := []) (ws' := (wl 5 a (eS g a M))) (ok_X2_isOn l g a hI p1 M r1 e2) ⟨hx, hb, hml, hown, hts⟩ (cwV 1 hts gX2_mayCross_X2_isOn rfl rfl rfl (by decide +kernel) ⟨Nat.le_of_ble_eq_true rfl, Nat.le_of_ble_eq_true rfl⟩) hK (r_recv hK hP 0 (by decide) eS_0 (show vwCl[2]? = some (RX2, TX2, 8) from rfl)) hS hP (fun _ hq => aA_mono hS.1 hq) (fun _ h _ => h) rfl hl.1 rfl (Nat.le_of_ble_eq_true rfl) dX2_mayCross_2 ⟨Nat.zero_le _, Nat.zero_le _⟩ (fun H locs hP hS => ?_)
  refine lv_if_eq (x := r1) (tgt := 37) hx hb dX2_mayCross_5 (by decide) (fun q3 => ?_) (fun q3 => ?_)
  · replace h := if_t q3 h
    refine lv_iconst (v := 1) hx hb dX2_mayCross_37 (by decide) ?_
    refine lv_goto (tgt := 42) hx hb dX2_mayCross_38 (by decide) ?_
    rw [hQz]
    exact r_zret (v := 1) hx hb hr hlk hS hP (Option.some.inj h) (by decide) dX2_mayCross_42
  · replace h := if_f q3 h
    refine lv_aload_n hx hb dX2_mayCross_8 rfl (lv_at hl 0 rfl) ?_
    refine lv_iload_n hx hb dX2_mayCross_9 rfl (lv_at hl 1 rfl) ?_
    obtain ⟨r4, e5, h⟩ := bdP_ok h
    refine r_callVi (As := [.int p1]) (rest := []) (ws' := (wl 5 a (eS g a M))) (ok_X2_takesBoth l g a hI p1 M r4 e5) ⟨hx, hb, hml, hown, hts⟩ (cwV 1 hts gX2_mayCross_X2_takesBoth rfl rfl rfl (by decide +kernel) ⟨Nat.le_of_ble_eq_true rfl, Nat.le_of_ble_eq_true rfl⟩) hK (r_recv hK hP 0 (by decide) eS_0 (show vwCl[2]? = some (RX2, TX2, 8) from rfl)) hS hP (fun _ hq => aA_mono hS.1 hq) (fun _ h _ => h) rfl hl.1 rfl (Nat.le_of_ble_eq_true rfl) dX2_mayCross_10 ⟨Nat.zero_le _, Nat.zero_le _⟩ (fun H locs hP hS => ?_)
    refine lv_if_ne (x := r4) (tgt := 37) hx hb dX2_mayCross_13 (by decide) (fun q6 => ?_) (fun q6 => ?_)
    · replace h := if_f q6 h
      refine lv_iconst (v := 1) hx hb dX2_mayCross_37 (by decide) ?_
      refine lv_goto (tgt := 42) hx hb dX2_mayCross_38 (by decide) ?_
      rw [hQz]
      exact r_zret (v := 1) hx hb hr hlk hS hP (Option.some.inj h) (by decide) dX2_mayCross_42
    · replace h := if_t q6 h
      refine lv_aload_n hx hb dX2_mayCross_16 rfl (lv_at hl 0 rfl) ?_
      refine lv_aload_n hx hb dX2_mayCross_17 rfl (lv_at hl 0 rfl) ?_
      refine r_get (v := .ref (a 3)) hx hb hts iX2 hown hK hP 0 (by decide) eS_0 rfl 6 (by decide) w31 rfl dX2_mayCross_18 ?_
      refine lv_iload_n hx hb dX2_mayCross_21 rfl (lv_at hl 1 rfl) ?_
      obtain ⟨q7, h⟩ := chk_ok h
      refine r_iald (i := p1) (h := M 3) hx hb hK hP 3 (by decide) (eS_a (by decide)) q7 dX2_mayCross_22 ?_
      refine lv_iconst (v := 1) hx hb dX2_mayCross_23 (by decide) ?_
      refine lv_aload_n hx hb dX2_mayCross_24 rfl (lv_at hl 0 rfl) ?_
      refine r_get (v := .ref (a 2)) hx hb hts iX2 hown hK hP 0 (by decide) eS_0 rfl 5 (by decide) w28 rfl dX2_mayCross_25 ?_
      refine lv_iload_n hx hb dX2_mayCross_28 rfl (lv_at hl 1 rfl) ?_
      obtain ⟨q8, h⟩ := chk_ok h
      refine r_iald (i := p1) (h := M 2) hx hb hK hP 2 (by decide) (eS_a (by decide)) q8 dX2_mayCross_29 ?_
      refine lv_isub (x := 1) (y := (M 2 (Int32.toNatClampNeg p1))) hx hb dX2_mayCross_30 ?_
      obtain ⟨r9, e10, h⟩ := bdP_ok h
      refine r_callVi (As := [.int (M 3 (Int32.toNatClampNeg p1)), .int (1 - (M 2 (Int32.toNatClampNeg p1)))]) (rest := []) (ws' := (wl 5 a (eS g a M))) (ok_X2_whoTakes l g a hI (M 3 (Int32.toNatClampNeg p1)) (1 - (M 2 (Int32.toNatClampNeg p1))) M r9 e10) ⟨hx, hb, hml, hown, hts⟩ (cwV 2 hts gX2_mayCross_X2_whoTakes rfl rfl rfl (by decide +kernel) ⟨Nat.le_of_ble_eq_true rfl, Nat.le_of_ble_eq_true rfl⟩) hK (r_recv hK hP 0 (by decide) eS_0 (show vwCl[2]? = some (RX2, TX2, 8) from rfl)) hS hP (fun _ hq => aA_mono hS.1 hq) (fun _ h _ => h) rfl hl.1 rfl (Nat.le_of_ble_eq_true rfl) dX2_mayCross_31 ⟨Nat.zero_le _, Nat.zero_le _⟩ (fun H locs hP hS => ?_)
      refine lv_if_ne (x := r9) (tgt := 41) hx hb dX2_mayCross_34 (by decide) (fun q11 => ?_) (fun q11 => ?_)
      · replace h := if_f q11 h
        refine lv_iconst (v := 0) hx hb dX2_mayCross_41 (by decide) ?_
        rw [hQz]
        exact r_zret (v := 0) hx hb hr hlk hS hP (Option.some.inj h) (by decide) dX2_mayCross_42
      · replace h := if_t q11 h
        refine lv_iconst (v := 1) hx hb dX2_mayCross_37 (by decide) ?_
        refine lv_goto (tgt := 42) hx hb dX2_mayCross_38 (by decide) ?_
        rw [hQz]
        exact r_zret (v := 1) hx hb hr hlk hS hP (Option.some.inj h) (by decide) dX2_mayCross_42
def rmX2_whoIsAt : Room := { frames := 1, cells := 0, slots := 0, locals := 60 }
set_option maxHeartbeats 4000000 in
set_option maxRecDepth 100000 in
theorem ok_X2_whoIsAt (l : Launch) (g : gT) (a : Nat → Nat) (hI : ij 5 a) (p1 : Int32) (M : Mem) (r : Int32) (h : fX2_whoIsAt p1 M = some r) : MI l yX2_whoIsAt wsX2_whoIsAt rmX2_whoIsAt g 5 a [.ref (a 0), .int p1] (wl 5 a (eS g a M)) (wl 5 a (eS g a M)) r := by
  refine MI_of (cc := cX2_whoIsAt) (maxL := 4) (rt := .int) (by decide) rfl (Nat.le_of_ble_eq_true rfl) ?_
  intro p e s m args below meth c ls hx hb hml hr hlk hts hown hK hP hl
  have hown : s.vm.findClass RX2 = some m.cls := hown
  have hl : lv_has ls 4 [(0, .ref (a 0)), (1, .int p1)] := hl
  have hS : va_S (aA 5 a s.heap.size) s.heap s.heap [] := va_S.rf
  have iX2 : ∀ w ∈ wsX20, w ∈ wsX2_whoIsAt := fun w h => List.mem_cons_of_mem _ (List.mem_append_right _ h)
  have w21 := hts (.fieldLink RX2 21 "StepRiders$Stair" "riders" "I") (by decide +kernel)
  have w31 := hts (.fieldLink RX2 31 "StepRiders$Stair" "at" "[I") (by decide +kernel)
  obtain ⟨Qz, hQz⟩ : ∃ Qz : State → Prop, Qz = MQ below (qI g (wl 5 a (eS g a M)) r (aA 5 a s.heap.size)) args s 0 0 (aA 5 a s.heap.size) := ⟨_, rfl⟩
  rw [← hQz]
  have B28 : ∀ (k4 : Int32 → Int32 → Option (Int32)) (C4 : ∀ (x2 : Int32) (x3 : Int32) (H : Heap) (locs : List Loc) (ls : Array Slot), k4 x2 x3 = some r → va_P g.1 vwCl (wl 5 a (eS g a M)) H → va_S (aA 5 a s.heap.size) s.heap H locs → lv_has ls 4 [(0, .ref (a 0)), (1, .int p1), (2, .int x2), (3, .int x3)] → W p l e rmX2_whoIsAt s m args below meth c H locs 0 0 Qz (F0 m 4 ls [])), ∀ (x2 : Int32) (x3 : Int32) (H : Heap) (locs : List Loc) (ls : Array Slot), fX2_whoIsAt_b28 p1 M k4 x2 x3 = some r → va_P g.1 vwCl (wl 5 a (eS g a M)) H → va_S (aA 5 a s.heap.size) s.heap H locs → lv_has ls 4 [(0, .ref (a 0)), (1, .int p1), (2, .int x2), (3, .int x3)] → W p l e rmX2_whoIsAt s m args below meth c H locs 0 0 Qz (F0 m 28 ls []) := by
    intro k4 C4 x2 x3 H locs ls h hP hS hl
    unfold fX2_whoIsAt_b28 at h
    refine lv_iinc (v := (x3 + 1)) (lv' := [(3, .int (x3 + 1)), (0, .ref (a 0)), (1, .int p1), (2, .int x2)]) hx hb dX2_whoIsAt_28 hl (k := 3) rfl rfl (by decide) rfl (fun ls hl => ?_)
    refine lv_goto (tgt := 4) hx hb dX2_whoIsAt_31 (by decide) ?_
    exact C4 x2 (x3 + 1) _ _ _ h hP hS (lv_sub hl [1, 2, 3, 0] rfl)
  have B4 : ∀ (k4 : Int32 → Int32 → Option (Int32)) (C4 : ∀ (x2 : Int32) (x3 : Int32) (H : Heap) (locs : List Loc) (ls : Array Slot), k4 x2 x3 = some r → va_P g.1 vwCl (wl 5 a (eS g a M)) H → va_S (aA 5 a s.heap.size) s.heap H locs → lv_has ls 4 [(0, .ref (a 0)), (1, .int p1), (2, .int x2), (3, .int x3)] → W p l e rmX2_whoIsAt s m args below meth c H locs 0 0 Qz (F0 m 4 ls [])), ∀ (x2 : Int32) (x3 : Int32) (H : Heap) (locs : List Loc) (ls : Array Slot), fX2_whoIsAt_b4 p1 M k4 x2 x3 = some r → va_P g.1 vwCl (wl 5 a (eS g a M)) H → va_S (aA 5 a s.heap.size) s.heap H locs → lv_has ls 4 [(0, .ref (a 0)), (1, .int p1), (2, .int x2), (3, .int x3)] → W p l e rmX2_whoIsAt s m args below meth c H locs 0 0 Qz (F0 m 4 ls []) := by
    intro k4 C4 x2 x3 H locs ls h hP hS hl
    unfold fX2_whoIsAt_b4 at h
    refine lv_iload_n hx hb dX2_whoIsAt_4 rfl (lv_at hl 3 rfl) ?_
    refine lv_aload_n hx hb dX2_whoIsAt_5 rfl (lv_at hl 0 rfl) ?_
    refine r_get (v := .int (M 0 3)) hx hb hts iX2 hown hK hP 0 (by decide) eS_0 rfl 3 (by decide) w21 rfl dX2_whoIsAt_6 ?_
    refine lv_icmp_ge (x := x3) (y := (M 0 3)) (tgt := 34) hx hb dX2_whoIsAt_9 (by decide) (fun q1 => ?_) (fun q1 => ?_)
    · replace h := if_t q1 h
      refine lv_iload_n hx hb dX2_whoIsAt_34 rfl (lv_at hl 2 rfl) ?_
      rw [hQz]
      exact r_iret (v := x2) hx hb hr hlk hS hP (Option.some.inj h) dX2_whoIsAt_35
    · replace h := if_f q1 h
      refine lv_aload_n hx hb dX2_whoIsAt_12 rfl (lv_at hl 0 rfl) ?_
      refine r_get (v := .ref (a 3)) hx hb hts iX2 hown hK hP 0 (by decide) eS_0 rfl 6 (by decide) w31 rfl dX2_whoIsAt_13 ?_
      refine lv_iload_n hx hb dX2_whoIsAt_16 rfl (lv_at hl 3 rfl) ?_
      obtain ⟨q2, h⟩ := chk_ok h
      refine r_iald (i := x3) (h := M 3) hx hb hK hP 3 (by decide) (eS_a (by decide)) q2 dX2_whoIsAt_17 ?_
      refine lv_iload_n hx hb dX2_whoIsAt_18 rfl (lv_at hl 1 rfl) ?_
      refine lv_icmp_ne (x := (M 3 (Int32.toNatClampNeg x3))) (y := p1) (tgt := 28) hx hb dX2_whoIsAt_19 (by decide) (fun q3 => ?_) (fun q3 => ?_)
      · replace h := if_f q3 h
        exact B28 k4 C4 x2 x3 _ _ _ h hP hS (lv_sub hl [0, 1, 2, 3] rfl)
      · replace h := if_t q3 h
        refine lv_iload_n hx hb dX2_whoIsAt_22 rfl (lv_at hl 2 rfl) ?_
        refine lv_iconst (v := 1) hx hb dX2_whoIsAt_23 (by decide) ?_
        refine lv_iload_n hx hb dX2_whoIsAt_24 rfl (lv_at hl 3 rfl) ?_
        refine lv_ishl (x := 1) (y := x3) hx hb dX2_whoIsAt_25 ?_
        refine lv_ior (x := x2) (y := (1 <<< (x3 &&& 31))) hx hb dX2_whoIsAt_26 ?_
        refine lv_istore_n (lv' := [(2, .int (x2 ||| (1 <<< (x3 &&& 31)))), (0, .ref (a 0)), (1, .int p1), (3, .int x3)]) hx hb dX2_whoIsAt_27 rfl hl (by decide) rfl (fun ls hl => ?_)
        exact B28 k4 C4 (x2 ||| (1 <<< (x3 &&& 31))) x3 _ _ _ h hP hS (lv_sub hl [1, 2, 0, 3] rfl)
  have L4 : ∀ (n : Nat), ∀ (x2 : Int32) (x3 : Int32) (H : Heap) (locs : List Loc) (ls : Array Slot), fX2_whoIsAt_l4 p1 M n x2 x3 = some r → va_P g.1 vwCl (wl 5 a (eS g a M)) H → va_S (aA 5 a s.heap.size) s.heap H locs → lv_has ls 4 [(0, .ref (a 0)), (1, .int p1), (2, .int x2), (3, .int x3)] → W p l e rmX2_whoIsAt s m args below meth c H locs 0 0 Qz (F0 m 4 ls []) := by
    intro n
    induction n with
    | zero => intro x2 x3 H locs ls h; exact absurd (show (none : Option (Int32)) = some _ from h) (fun z => by cases z)
    | succ n ih => exact fun x2 x3 H locs ls h hP hS hl => B4 (fX2_whoIsAt_l4 p1 M n) ih x2 x3 H locs ls h hP hS hl
  unfold fX2_whoIsAt at h
  refine lv_iconst (v := 0) hx hb dX2_whoIsAt_0 (by decide) ?_
  refine lv_istore_n (lv' := [(2, .int 0), (0, .ref (a 0)), (1, .int p1)]) hx hb dX2_whoIsAt_1 rfl hl (by decide) rfl (fun ls hl => ?_)
  refine lv_iconst (v := 0) hx hb dX2_whoIsAt_2 (by decide) ?_
  refine lv_istore_n (lv' := [(3, .int 0), (2, .int 0), (0, .ref (a 0)), (1, .int p1)]) hx hb dX2_whoIsAt_3 rfl hl (by decide) rfl (fun ls hl => ?_)
  exact L4 FU 0 0 _ _ _ h hP hS (lv_sub hl [2, 3, 1, 0] rfl)
def rmJ6_bitCount_0f7a4 : Room := { frames := 1, cells := 0, slots := 0, locals := 60 }
set_option maxHeartbeats 4000000 in
set_option maxRecDepth 100000 in
theorem ok_J6_bitCount_0f7a4 (l : Launch) (g : gT) (p0 : Int32) (r : Int32) (h : fJ6_bitCount_0f7a4 p0 = some r) : MI l yJ6_bitCount_0f7a4 wsJ6_bitCount_0f7a4 rmJ6_bitCount_0f7a4 g 0 (fun _ => 0) [.int p0] ([] : va_W) ([] : va_W) r := by
  refine MI_of (cc := cJ6_bitCount_0f7a4) (maxL := 1) (rt := .int) (by decide) rfl (Nat.le_of_ble_eq_true rfl) ?_
  intro p e s m args below meth c ls hx hb hml hr hlk hts hown hK hP hl
  have hown : s.vm.findClass RJ6 = some m.cls := hown
  have hl : lv_has ls 1 [(0, .int p0)] := hl
  have hS : va_S (aA 0 (fun _ => 0) s.heap.size) s.heap s.heap [] := va_S.rf
  have w265 := hts (.constant RJ6 265 (1431655765)) (by decide +kernel)
  have w266 := hts (.constant RJ6 266 (858993459)) (by decide +kernel)
  have w267 := hts (.constant RJ6 267 (252645135)) (by decide +kernel)
  obtain ⟨Qz, hQz⟩ : ∃ Qz : State → Prop, Qz = MQ below (qI g ([] : va_W) r (aA 0 (fun _ => 0) s.heap.size)) args s 0 0 (aA 0 (fun _ => 0) s.heap.size) := ⟨_, rfl⟩
  rw [← hQz]
  unfold fJ6_bitCount_0f7a4 at h
  refine lv_iload_n hx hb dJ6_bitCount_0f7a4_0 rfl (lv_at hl 0 rfl) ?_
  refine lv_iload_n hx hb dJ6_bitCount_0f7a4_1 rfl (lv_at hl 0 rfl) ?_
  refine lv_iconst (v := 1) hx hb dJ6_bitCount_0f7a4_2 (by decide) ?_
  refine lv_iushr (x := p0) (y := 1) hx hb dJ6_bitCount_0f7a4_3 rfl ?_
  refine lv_ldcw (v := 1431655765) hx hb hown w265 dJ6_bitCount_0f7a4_4 ?_
  refine lv_iand (x := ((Int32.toUInt32 p0 >>> (Int32.toUInt32 1 &&& Int32.toUInt32 31)).toInt32)) (y := 1431655765) hx hb dJ6_bitCount_0f7a4_7 ?_
  refine lv_isub (x := p0) (y := (((Int32.toUInt32 p0 >>> (Int32.toUInt32 1 &&& Int32.toUInt32 31)).toInt32) &&& 1431655765)) hx hb dJ6_bitCount_0f7a4_8 ?_
  refine lv_istore_n (lv' := [(0, .int (p0 - (((Int32.toUInt32 p0 >>> (Int32.toUInt32 1 &&& Int32.toUInt32 31)).toInt32) &&& 1431655765)))]) hx hb dJ6_bitCount_0f7a4_9 rfl hl (by decide) rfl (fun ls hl => ?_)
  refine lv_iload_n hx hb dJ6_bitCount_0f7a4_10 rfl (lv_at hl 0 rfl) ?_
  refine lv_ldcw (v := 858993459) hx hb hown w266 dJ6_bitCount_0f7a4_11 ?_
  refine lv_iand (x := (p0 - (((Int32.toUInt32 p0 >>> (Int32.toUInt32 1 &&& Int32.toUInt32 31)).toInt32) &&& 1431655765))) (y := 858993459) hx hb dJ6_bitCount_0f7a4_14 ?_
  refine lv_iload_n hx hb dJ6_bitCount_0f7a4_15 rfl (lv_at hl 0 rfl) ?_
  refine lv_iconst (v := 2) hx hb dJ6_bitCount_0f7a4_16 (by decide) ?_
  refine lv_iushr (x := (p0 - (((Int32.toUInt32 p0 >>> (Int32.toUInt32 1 &&& Int32.toUInt32 31)).toInt32) &&& 1431655765))) (y := 2) hx hb dJ6_bitCount_0f7a4_17 rfl ?_
  refine lv_ldcw (v := 858993459) hx hb hown w266 dJ6_bitCount_0f7a4_18 ?_
  refine lv_iand (x := ((Int32.toUInt32 (p0 - (((Int32.toUInt32 p0 >>> (Int32.toUInt32 1 &&& Int32.toUInt32 31)).toInt32) &&& 1431655765)) >>> (Int32.toUInt32 2 &&& Int32.toUInt32 31)).toInt32)) (y := 858993459) hx hb dJ6_bitCount_0f7a4_21 ?_
  refine lv_iadd (x := ((p0 - (((Int32.toUInt32 p0 >>> (Int32.toUInt32 1 &&& Int32.toUInt32 31)).toInt32) &&& 1431655765)) &&& 858993459)) (y := (((Int32.toUInt32 (p0 - (((Int32.toUInt32 p0 >>> (Int32.toUInt32 1 &&& Int32.toUInt32 31)).toInt32) &&& 1431655765)) >>> (Int32.toUInt32 2 &&& Int32.toUInt32 31)).toInt32) &&& 858993459)) hx hb dJ6_bitCount_0f7a4_22 ?_
  refine lv_istore_n (lv' := [(0, .int (((p0 - (((Int32.toUInt32 p0 >>> (Int32.toUInt32 1 &&& Int32.toUInt32 31)).toInt32) &&& 1431655765)) &&& 858993459) + (((Int32.toUInt32 (p0 - (((Int32.toUInt32 p0 >>> (Int32.toUInt32 1 &&& Int32.toUInt32 31)).toInt32) &&& 1431655765)) >>> (Int32.toUInt32 2 &&& Int32.toUInt32 31)).toInt32) &&& 858993459)))]) hx hb dJ6_bitCount_0f7a4_23 rfl hl (by decide) rfl (fun ls hl => ?_)
  refine lv_iload_n hx hb dJ6_bitCount_0f7a4_24 rfl (lv_at hl 0 rfl) ?_
  refine lv_iload_n hx hb dJ6_bitCount_0f7a4_25 rfl (lv_at hl 0 rfl) ?_
  refine lv_iconst (v := 4) hx hb dJ6_bitCount_0f7a4_26 (by decide) ?_
  refine lv_iushr (x := (((p0 - (((Int32.toUInt32 p0 >>> (Int32.toUInt32 1 &&& Int32.toUInt32 31)).toInt32) &&& 1431655765)) &&& 858993459) + (((Int32.toUInt32 (p0 - (((Int32.toUInt32 p0 >>> (Int32.toUInt32 1 &&& Int32.toUInt32 31)).toInt32) &&& 1431655765)) >>> (Int32.toUInt32 2 &&& Int32.toUInt32 31)).toInt32) &&& 858993459))) (y := 4) hx hb dJ6_bitCount_0f7a4_27 rfl ?_
  refine lv_iadd (x := (((p0 - (((Int32.toUInt32 p0 >>> (Int32.toUInt32 1 &&& Int32.toUInt32 31)).toInt32) &&& 1431655765)) &&& 858993459) + (((Int32.toUInt32 (p0 - (((Int32.toUInt32 p0 >>> (Int32.toUInt32 1 &&& Int32.toUInt32 31)).toInt32) &&& 1431655765)) >>> (Int32.toUInt32 2 &&& Int32.toUInt32 31)).toInt32) &&& 858993459))) (y := ((Int32.toUInt32 (((p0 - (((Int32.toUInt32 p0 >>> (Int32.toUInt32 1 &&& Int32.toUInt32 31)).toInt32) &&& 1431655765)) &&& 858993459) + (((Int32.toUInt32 (p0 - (((Int32.toUInt32 p0 >>> (Int32.toUInt32 1 &&& Int32.toUInt32 31)).toInt32) &&& 1431655765)) >>> (Int32.toUInt32 2 &&& Int32.toUInt32 31)).toInt32) &&& 858993459)) >>> (Int32.toUInt32 4 &&& Int32.toUInt32 31)).toInt32)) hx hb dJ6_bitCount_0f7a4_28 ?_
  refine lv_ldcw (v := 252645135) hx hb hown w267 dJ6_bitCount_0f7a4_29 ?_
  refine lv_iand (x := ((((p0 - (((Int32.toUInt32 p0 >>> (Int32.toUInt32 1 &&& Int32.toUInt32 31)).toInt32) &&& 1431655765)) &&& 858993459) + (((Int32.toUInt32 (p0 - (((Int32.toUInt32 p0 >>> (Int32.toUInt32 1 &&& Int32.toUInt32 31)).toInt32) &&& 1431655765)) >>> (Int32.toUInt32 2 &&& Int32.toUInt32 31)).toInt32) &&& 858993459)) + ((Int32.toUInt32 (((p0 - (((Int32.toUInt32 p0 >>> (Int32.toUInt32 1 &&& Int32.toUInt32 31)).toInt32) &&& 1431655765)) &&& 858993459) + (((Int32.toUInt32 (p0 - (((Int32.toUInt32 p0 >>> (Int32.toUInt32 1 &&& Int32.toUInt32 31)).toInt32) &&& 1431655765)) >>> (Int32.toUInt32 2 &&& Int32.toUInt32 31)).toInt32) &&& 858993459)) >>> (Int32.toUInt32 4 &&& Int32.toUInt32 31)).toInt32))) (y := 252645135) hx hb dJ6_bitCount_0f7a4_32 ?_
  refine lv_istore_n (lv' := [(0, .int (((((p0 - (((Int32.toUInt32 p0 >>> (Int32.toUInt32 1 &&& Int32.toUInt32 31)).toInt32) &&& 1431655765)) &&& 858993459) + (((Int32.toUInt32 (p0 - (((Int32.toUInt32 p0 >>> (Int32.toUInt32 1 &&& Int32.toUInt32 31)).toInt32) &&& 1431655765)) >>> (Int32.toUInt32 2 &&& Int32.toUInt32 31)).toInt32) &&& 858993459)) + ((Int32.toUInt32 (((p0 - (((Int32.toUInt32 p0 >>> (Int32.toUInt32 1 &&& Int32.toUInt32 31)).toInt32) &&& 1431655765)) &&& 858993459) + (((Int32.toUInt32 (p0 - (((Int32.toUInt32 p0 >>> (Int32.toUInt32 1 &&& Int32.toUInt32 31)).toInt32) &&& 1431655765)) >>> (Int32.toUInt32 2 &&& Int32.toUInt32 31)).toInt32) &&& 858993459)) >>> (Int32.toUInt32 4 &&& Int32.toUInt32 31)).toInt32)) &&& 252645135))]) hx hb dJ6_bitCount_0f7a4_33 rfl hl (by decide) rfl (fun ls hl => ?_)
  refine lv_iload_n hx hb dJ6_bitCount_0f7a4_34 rfl (lv_at hl 0 rfl) ?_
  refine lv_iload_n hx hb dJ6_bitCount_0f7a4_35 rfl (lv_at hl 0 rfl) ?_
  refine lv_bipush (v := 8) hx hb dJ6_bitCount_0f7a4_36 (by decide) ?_
  refine lv_iushr (x := (((((p0 - (((Int32.toUInt32 p0 >>> (Int32.toUInt32 1 &&& Int32.toUInt32 31)).toInt32) &&& 1431655765)) &&& 858993459) + (((Int32.toUInt32 (p0 - (((Int32.toUInt32 p0 >>> (Int32.toUInt32 1 &&& Int32.toUInt32 31)).toInt32) &&& 1431655765)) >>> (Int32.toUInt32 2 &&& Int32.toUInt32 31)).toInt32) &&& 858993459)) + ((Int32.toUInt32 (((p0 - (((Int32.toUInt32 p0 >>> (Int32.toUInt32 1 &&& Int32.toUInt32 31)).toInt32) &&& 1431655765)) &&& 858993459) + (((Int32.toUInt32 (p0 - (((Int32.toUInt32 p0 >>> (Int32.toUInt32 1 &&& Int32.toUInt32 31)).toInt32) &&& 1431655765)) >>> (Int32.toUInt32 2 &&& Int32.toUInt32 31)).toInt32) &&& 858993459)) >>> (Int32.toUInt32 4 &&& Int32.toUInt32 31)).toInt32)) &&& 252645135)) (y := 8) hx hb dJ6_bitCount_0f7a4_38 rfl ?_
  refine lv_iadd (x := (((((p0 - (((Int32.toUInt32 p0 >>> (Int32.toUInt32 1 &&& Int32.toUInt32 31)).toInt32) &&& 1431655765)) &&& 858993459) + (((Int32.toUInt32 (p0 - (((Int32.toUInt32 p0 >>> (Int32.toUInt32 1 &&& Int32.toUInt32 31)).toInt32) &&& 1431655765)) >>> (Int32.toUInt32 2 &&& Int32.toUInt32 31)).toInt32) &&& 858993459)) + ((Int32.toUInt32 (((p0 - (((Int32.toUInt32 p0 >>> (Int32.toUInt32 1 &&& Int32.toUInt32 31)).toInt32) &&& 1431655765)) &&& 858993459) + (((Int32.toUInt32 (p0 - (((Int32.toUInt32 p0 >>> (Int32.toUInt32 1 &&& Int32.toUInt32 31)).toInt32) &&& 1431655765)) >>> (Int32.toUInt32 2 &&& Int32.toUInt32 31)).toInt32) &&& 858993459)) >>> (Int32.toUInt32 4 &&& Int32.toUInt32 31)).toInt32)) &&& 252645135)) (y := ((Int32.toUInt32 (((((p0 - (((Int32.toUInt32 p0 >>> (Int32.toUInt32 1 &&& Int32.toUInt32 31)).toInt32) &&& 1431655765)) &&& 858993459) + (((Int32.toUInt32 (p0 - (((Int32.toUInt32 p0 >>> (Int32.toUInt32 1 &&& Int32.toUInt32 31)).toInt32) &&& 1431655765)) >>> (Int32.toUInt32 2 &&& Int32.toUInt32 31)).toInt32) &&& 858993459)) + ((Int32.toUInt32 (((p0 - (((Int32.toUInt32 p0 >>> (Int32.toUInt32 1 &&& Int32.toUInt32 31)).toInt32) &&& 1431655765)) &&& 858993459) + (((Int32.toUInt32 (p0 - (((Int32.toUInt32 p0 >>> (Int32.toUInt32 1 &&& Int32.toUInt32 31)).toInt32) &&& 1431655765)) >>> (Int32.toUInt32 2 &&& Int32.toUInt32 31)).toInt32) &&& 858993459)) >>> (Int32.toUInt32 4 &&& Int32.toUInt32 31)).toInt32)) &&& 252645135) >>> (Int32.toUInt32 8 &&& Int32.toUInt32 31)).toInt32)) hx hb dJ6_bitCount_0f7a4_39 ?_
  refine lv_istore_n (lv' := [(0, .int ((((((p0 - (((Int32.toUInt32 p0 >>> (Int32.toUInt32 1 &&& Int32.toUInt32 31)).toInt32) &&& 1431655765)) &&& 858993459) + (((Int32.toUInt32 (p0 - (((Int32.toUInt32 p0 >>> (Int32.toUInt32 1 &&& Int32.toUInt32 31)).toInt32) &&& 1431655765)) >>> (Int32.toUInt32 2 &&& Int32.toUInt32 31)).toInt32) &&& 858993459)) + ((Int32.toUInt32 (((p0 - (((Int32.toUInt32 p0 >>> (Int32.toUInt32 1 &&& Int32.toUInt32 31)).toInt32) &&& 1431655765)) &&& 858993459) + (((Int32.toUInt32 (p0 - (((Int32.toUInt32 p0 >>> (Int32.toUInt32 1 &&& Int32.toUInt32 31)).toInt32) &&& 1431655765)) >>> (Int32.toUInt32 2 &&& Int32.toUInt32 31)).toInt32) &&& 858993459)) >>> (Int32.toUInt32 4 &&& Int32.toUInt32 31)).toInt32)) &&& 252645135) + ((Int32.toUInt32 (((((p0 - (((Int32.toUInt32 p0 >>> (Int32.toUInt32 1 &&& Int32.toUInt32 31)).toInt32) &&& 1431655765)) &&& 858993459) + (((Int32.toUInt32 (p0 - (((Int32.toUInt32 p0 >>> (Int32.toUInt32 1 &&& Int32.toUInt32 31)).toInt32) &&& 1431655765)) >>> (Int32.toUInt32 2 &&& Int32.toUInt32 31)).toInt32) &&& 858993459)) + ((Int32.toUInt32 (((p0 - (((Int32.toUInt32 p0 >>> (Int32.toUInt32 1 &&& Int32.toUInt32 31)).toInt32) &&& 1431655765)) &&& 858993459) + (((Int32.toUInt32 (p0 - (((Int32.toUInt32 p0 >>> (Int32.toUInt32 1 &&& Int32.toUInt32 31)).toInt32) &&& 1431655765)) >>> (Int32.toUInt32 2 &&& Int32.toUInt32 31)).toInt32) &&& 858993459)) >>> (Int32.toUInt32 4 &&& Int32.toUInt32 31)).toInt32)) &&& 252645135) >>> (Int32.toUInt32 8 &&& Int32.toUInt32 31)).toInt32)))]) hx hb dJ6_bitCount_0f7a4_40 rfl hl (by decide) rfl (fun ls hl => ?_)
  refine lv_iload_n hx hb dJ6_bitCount_0f7a4_41 rfl (lv_at hl 0 rfl) ?_
  refine lv_iload_n hx hb dJ6_bitCount_0f7a4_42 rfl (lv_at hl 0 rfl) ?_
  refine lv_bipush (v := 16) hx hb dJ6_bitCount_0f7a4_43 (by decide) ?_
  refine lv_iushr (x := ((((((p0 - (((Int32.toUInt32 p0 >>> (Int32.toUInt32 1 &&& Int32.toUInt32 31)).toInt32) &&& 1431655765)) &&& 858993459) + (((Int32.toUInt32 (p0 - (((Int32.toUInt32 p0 >>> (Int32.toUInt32 1 &&& Int32.toUInt32 31)).toInt32) &&& 1431655765)) >>> (Int32.toUInt32 2 &&& Int32.toUInt32 31)).toInt32) &&& 858993459)) + ((Int32.toUInt32 (((p0 - (((Int32.toUInt32 p0 >>> (Int32.toUInt32 1 &&& Int32.toUInt32 31)).toInt32) &&& 1431655765)) &&& 858993459) + (((Int32.toUInt32 (p0 - (((Int32.toUInt32 p0 >>> (Int32.toUInt32 1 &&& Int32.toUInt32 31)).toInt32) &&& 1431655765)) >>> (Int32.toUInt32 2 &&& Int32.toUInt32 31)).toInt32) &&& 858993459)) >>> (Int32.toUInt32 4 &&& Int32.toUInt32 31)).toInt32)) &&& 252645135) + ((Int32.toUInt32 (((((p0 - (((Int32.toUInt32 p0 >>> (Int32.toUInt32 1 &&& Int32.toUInt32 31)).toInt32) &&& 1431655765)) &&& 858993459) + (((Int32.toUInt32 (p0 - (((Int32.toUInt32 p0 >>> (Int32.toUInt32 1 &&& Int32.toUInt32 31)).toInt32) &&& 1431655765)) >>> (Int32.toUInt32 2 &&& Int32.toUInt32 31)).toInt32) &&& 858993459)) + ((Int32.toUInt32 (((p0 - (((Int32.toUInt32 p0 >>> (Int32.toUInt32 1 &&& Int32.toUInt32 31)).toInt32) &&& 1431655765)) &&& 858993459) + (((Int32.toUInt32 (p0 - (((Int32.toUInt32 p0 >>> (Int32.toUInt32 1 &&& Int32.toUInt32 31)).toInt32) &&& 1431655765)) >>> (Int32.toUInt32 2 &&& Int32.toUInt32 31)).toInt32) &&& 858993459)) >>> (Int32.toUInt32 4 &&& Int32.toUInt32 31)).toInt32)) &&& 252645135) >>> (Int32.toUInt32 8 &&& Int32.toUInt32 31)).toInt32))) (y := 16) hx hb dJ6_bitCount_0f7a4_45 rfl ?_
  refine lv_iadd (x := ((((((p0 - (((Int32.toUInt32 p0 >>> (Int32.toUInt32 1 &&& Int32.toUInt32 31)).toInt32) &&& 1431655765)) &&& 858993459) + (((Int32.toUInt32 (p0 - (((Int32.toUInt32 p0 >>> (Int32.toUInt32 1 &&& Int32.toUInt32 31)).toInt32) &&& 1431655765)) >>> (Int32.toUInt32 2 &&& Int32.toUInt32 31)).toInt32) &&& 858993459)) + ((Int32.toUInt32 (((p0 - (((Int32.toUInt32 p0 >>> (Int32.toUInt32 1 &&& Int32.toUInt32 31)).toInt32) &&& 1431655765)) &&& 858993459) + (((Int32.toUInt32 (p0 - (((Int32.toUInt32 p0 >>> (Int32.toUInt32 1 &&& Int32.toUInt32 31)).toInt32) &&& 1431655765)) >>> (Int32.toUInt32 2 &&& Int32.toUInt32 31)).toInt32) &&& 858993459)) >>> (Int32.toUInt32 4 &&& Int32.toUInt32 31)).toInt32)) &&& 252645135) + ((Int32.toUInt32 (((((p0 - (((Int32.toUInt32 p0 >>> (Int32.toUInt32 1 &&& Int32.toUInt32 31)).toInt32) &&& 1431655765)) &&& 858993459) + (((Int32.toUInt32 (p0 - (((Int32.toUInt32 p0 >>> (Int32.toUInt32 1 &&& Int32.toUInt32 31)).toInt32) &&& 1431655765)) >>> (Int32.toUInt32 2 &&& Int32.toUInt32 31)).toInt32) &&& 858993459)) + ((Int32.toUInt32 (((p0 - (((Int32.toUInt32 p0 >>> (Int32.toUInt32 1 &&& Int32.toUInt32 31)).toInt32) &&& 1431655765)) &&& 858993459) + (((Int32.toUInt32 (p0 - (((Int32.toUInt32 p0 >>> (Int32.toUInt32 1 &&& Int32.toUInt32 31)).toInt32) &&& 1431655765)) >>> (Int32.toUInt32 2 &&& Int32.toUInt32 31)).toInt32) &&& 858993459)) >>> (Int32.toUInt32 4 &&& Int32.toUInt32 31)).toInt32)) &&& 252645135) >>> (Int32.toUInt32 8 &&& Int32.toUInt32 31)).toInt32))) (y := ((Int32.toUInt32 ((((((p0 - (((Int32.toUInt32 p0 >>> (Int32.toUInt32 1 &&& Int32.toUInt32 31)).toInt32) &&& 1431655765)) &&& 858993459) + (((Int32.toUInt32 (p0 - (((Int32.toUInt32 p0 >>> (Int32.toUInt32 1 &&& Int32.toUInt32 31)).toInt32) &&& 1431655765)) >>> (Int32.toUInt32 2 &&& Int32.toUInt32 31)).toInt32) &&& 858993459)) + ((Int32.toUInt32 (((p0 - (((Int32.toUInt32 p0 >>> (Int32.toUInt32 1 &&& Int32.toUInt32 31)).toInt32) &&& 1431655765)) &&& 858993459) + (((Int32.toUInt32 (p0 - (((Int32.toUInt32 p0 >>> (Int32.toUInt32 1 &&& Int32.toUInt32 31)).toInt32) &&& 1431655765)) >>> (Int32.toUInt32 2 &&& Int32.toUInt32 31)).toInt32) &&& 858993459)) >>> (Int32.toUInt32 4 &&& Int32.toUInt32 31)).toInt32)) &&& 252645135) + ((Int32.toUInt32 (((((p0 - (((Int32.toUInt32 p0 >>> (Int32.toUInt32 1 &&& Int32.toUInt32 31)).toInt32) &&& 1431655765)) &&& 858993459) + (((Int32.toUInt32 (p0 - (((Int32.toUInt32 p0 >>> (Int32.toUInt32 1 &&& Int32.toUInt32 31)).toInt32) &&& 1431655765)) >>> (Int32.toUInt32 2 &&& Int32.toUInt32 31)).toInt32) &&& 858993459)) + ((Int32.toUInt32 (((p0 - (((Int32.toUInt32 p0 >>> (Int32.toUInt32 1 &&& Int32.toUInt32 31)).toInt32) &&& 1431655765)) &&& 858993459) + (((Int32.toUInt32 (p0 - (((Int32.toUInt32 p0 >>> (Int32.toUInt32 1 &&& Int32.toUInt32 31)).toInt32) &&& 1431655765)) >>> (Int32.toUInt32 2 &&& Int32.toUInt32 31)).toInt32) &&& 858993459)) >>> (Int32.toUInt32 4 &&& Int32.toUInt32 31)).toInt32)) &&& 252645135) >>> (Int32.toUInt32 8 &&& Int32.toUInt32 31)).toInt32)) >>> (Int32.toUInt32 16 &&& Int32.toUInt32 31)).toInt32)) hx hb dJ6_bitCount_0f7a4_46 ?_
  refine lv_istore_n (lv' := [(0, .int (((((((p0 - (((Int32.toUInt32 p0 >>> (Int32.toUInt32 1 &&& Int32.toUInt32 31)).toInt32) &&& 1431655765)) &&& 858993459) + (((Int32.toUInt32 (p0 - (((Int32.toUInt32 p0 >>> (Int32.toUInt32 1 &&& Int32.toUInt32 31)).toInt32) &&& 1431655765)) >>> (Int32.toUInt32 2 &&& Int32.toUInt32 31)).toInt32) &&& 858993459)) + ((Int32.toUInt32 (((p0 - (((Int32.toUInt32 p0 >>> (Int32.toUInt32 1 &&& Int32.toUInt32 31)).toInt32) &&& 1431655765)) &&& 858993459) + (((Int32.toUInt32 (p0 - (((Int32.toUInt32 p0 >>> (Int32.toUInt32 1 &&& Int32.toUInt32 31)).toInt32) &&& 1431655765)) >>> (Int32.toUInt32 2 &&& Int32.toUInt32 31)).toInt32) &&& 858993459)) >>> (Int32.toUInt32 4 &&& Int32.toUInt32 31)).toInt32)) &&& 252645135) + ((Int32.toUInt32 (((((p0 - (((Int32.toUInt32 p0 >>> (Int32.toUInt32 1 &&& Int32.toUInt32 31)).toInt32) &&& 1431655765)) &&& 858993459) + (((Int32.toUInt32 (p0 - (((Int32.toUInt32 p0 >>> (Int32.toUInt32 1 &&& Int32.toUInt32 31)).toInt32) &&& 1431655765)) >>> (Int32.toUInt32 2 &&& Int32.toUInt32 31)).toInt32) &&& 858993459)) + ((Int32.toUInt32 (((p0 - (((Int32.toUInt32 p0 >>> (Int32.toUInt32 1 &&& Int32.toUInt32 31)).toInt32) &&& 1431655765)) &&& 858993459) + (((Int32.toUInt32 (p0 - (((Int32.toUInt32 p0 >>> (Int32.toUInt32 1 &&& Int32.toUInt32 31)).toInt32) &&& 1431655765)) >>> (Int32.toUInt32 2 &&& Int32.toUInt32 31)).toInt32) &&& 858993459)) >>> (Int32.toUInt32 4 &&& Int32.toUInt32 31)).toInt32)) &&& 252645135) >>> (Int32.toUInt32 8 &&& Int32.toUInt32 31)).toInt32)) + ((Int32.toUInt32 ((((((p0 - (((Int32.toUInt32 p0 >>> (Int32.toUInt32 1 &&& Int32.toUInt32 31)).toInt32) &&& 1431655765)) &&& 858993459) + (((Int32.toUInt32 (p0 - (((Int32.toUInt32 p0 >>> (Int32.toUInt32 1 &&& Int32.toUInt32 31)).toInt32) &&& 1431655765)) >>> (Int32.toUInt32 2 &&& Int32.toUInt32 31)).toInt32) &&& 858993459)) + ((Int32.toUInt32 (((p0 - (((Int32.toUInt32 p0 >>> (Int32.toUInt32 1 &&& Int32.toUInt32 31)).toInt32) &&& 1431655765)) &&& 858993459) + (((Int32.toUInt32 (p0 - (((Int32.toUInt32 p0 >>> (Int32.toUInt32 1 &&& Int32.toUInt32 31)).toInt32) &&& 1431655765)) >>> (Int32.toUInt32 2 &&& Int32.toUInt32 31)).toInt32) &&& 858993459)) >>> (Int32.toUInt32 4 &&& Int32.toUInt32 31)).toInt32)) &&& 252645135) + ((Int32.toUInt32 (((((p0 - (((Int32.toUInt32 p0 >>> (Int32.toUInt32 1 &&& Int32.toUInt32 31)).toInt32) &&& 1431655765)) &&& 858993459) + (((Int32.toUInt32 (p0 - (((Int32.toUInt32 p0 >>> (Int32.toUInt32 1 &&& Int32.toUInt32 31)).toInt32) &&& 1431655765)) >>> (Int32.toUInt32 2 &&& Int32.toUInt32 31)).toInt32) &&& 858993459)) + ((Int32.toUInt32 (((p0 - (((Int32.toUInt32 p0 >>> (Int32.toUInt32 1 &&& Int32.toUInt32 31)).toInt32) &&& 1431655765)) &&& 858993459) + (((Int32.toUInt32 (p0 - (((Int32.toUInt32 p0 >>> (Int32.toUInt32 1 &&& Int32.toUInt32 31)).toInt32) &&& 1431655765)) >>> (Int32.toUInt32 2 &&& Int32.toUInt32 31)).toInt32) &&& 858993459)) >>> (Int32.toUInt32 4 &&& Int32.toUInt32 31)).toInt32)) &&& 252645135) >>> (Int32.toUInt32 8 &&& Int32.toUInt32 31)).toInt32)) >>> (Int32.toUInt32 16 &&& Int32.toUInt32 31)).toInt32)))]) hx hb dJ6_bitCount_0f7a4_47 rfl hl (by decide) rfl (fun ls hl => ?_)
  refine lv_iload_n hx hb dJ6_bitCount_0f7a4_48 rfl (lv_at hl 0 rfl) ?_
  refine lv_bipush (v := 63) hx hb dJ6_bitCount_0f7a4_49 (by decide) ?_
  refine lv_iand (x := (((((((p0 - (((Int32.toUInt32 p0 >>> (Int32.toUInt32 1 &&& Int32.toUInt32 31)).toInt32) &&& 1431655765)) &&& 858993459) + (((Int32.toUInt32 (p0 - (((Int32.toUInt32 p0 >>> (Int32.toUInt32 1 &&& Int32.toUInt32 31)).toInt32) &&& 1431655765)) >>> (Int32.toUInt32 2 &&& Int32.toUInt32 31)).toInt32) &&& 858993459)) + ((Int32.toUInt32 (((p0 - (((Int32.toUInt32 p0 >>> (Int32.toUInt32 1 &&& Int32.toUInt32 31)).toInt32) &&& 1431655765)) &&& 858993459) + (((Int32.toUInt32 (p0 - (((Int32.toUInt32 p0 >>> (Int32.toUInt32 1 &&& Int32.toUInt32 31)).toInt32) &&& 1431655765)) >>> (Int32.toUInt32 2 &&& Int32.toUInt32 31)).toInt32) &&& 858993459)) >>> (Int32.toUInt32 4 &&& Int32.toUInt32 31)).toInt32)) &&& 252645135) + ((Int32.toUInt32 (((((p0 - (((Int32.toUInt32 p0 >>> (Int32.toUInt32 1 &&& Int32.toUInt32 31)).toInt32) &&& 1431655765)) &&& 858993459) + (((Int32.toUInt32 (p0 - (((Int32.toUInt32 p0 >>> (Int32.toUInt32 1 &&& Int32.toUInt32 31)).toInt32) &&& 1431655765)) >>> (Int32.toUInt32 2 &&& Int32.toUInt32 31)).toInt32) &&& 858993459)) + ((Int32.toUInt32 (((p0 - (((Int32.toUInt32 p0 >>> (Int32.toUInt32 1 &&& Int32.toUInt32 31)).toInt32) &&& 1431655765)) &&& 858993459) + (((Int32.toUInt32 (p0 - (((Int32.toUInt32 p0 >>> (Int32.toUInt32 1 &&& Int32.toUInt32 31)).toInt32) &&& 1431655765)) >>> (Int32.toUInt32 2 &&& Int32.toUInt32 31)).toInt32) &&& 858993459)) >>> (Int32.toUInt32 4 &&& Int32.toUInt32 31)).toInt32)) &&& 252645135) >>> (Int32.toUInt32 8 &&& Int32.toUInt32 31)).toInt32)) + ((Int32.toUInt32 ((((((p0 - (((Int32.toUInt32 p0 >>> (Int32.toUInt32 1 &&& Int32.toUInt32 31)).toInt32) &&& 1431655765)) &&& 858993459) + (((Int32.toUInt32 (p0 - (((Int32.toUInt32 p0 >>> (Int32.toUInt32 1 &&& Int32.toUInt32 31)).toInt32) &&& 1431655765)) >>> (Int32.toUInt32 2 &&& Int32.toUInt32 31)).toInt32) &&& 858993459)) + ((Int32.toUInt32 (((p0 - (((Int32.toUInt32 p0 >>> (Int32.toUInt32 1 &&& Int32.toUInt32 31)).toInt32) &&& 1431655765)) &&& 858993459) + (((Int32.toUInt32 (p0 - (((Int32.toUInt32 p0 >>> (Int32.toUInt32 1 &&& Int32.toUInt32 31)).toInt32) &&& 1431655765)) >>> (Int32.toUInt32 2 &&& Int32.toUInt32 31)).toInt32) &&& 858993459)) >>> (Int32.toUInt32 4 &&& Int32.toUInt32 31)).toInt32)) &&& 252645135) + ((Int32.toUInt32 (((((p0 - (((Int32.toUInt32 p0 >>> (Int32.toUInt32 1 &&& Int32.toUInt32 31)).toInt32) &&& 1431655765)) &&& 858993459) + (((Int32.toUInt32 (p0 - (((Int32.toUInt32 p0 >>> (Int32.toUInt32 1 &&& Int32.toUInt32 31)).toInt32) &&& 1431655765)) >>> (Int32.toUInt32 2 &&& Int32.toUInt32 31)).toInt32) &&& 858993459)) + ((Int32.toUInt32 (((p0 - (((Int32.toUInt32 p0 >>> (Int32.toUInt32 1 &&& Int32.toUInt32 31)).toInt32) &&& 1431655765)) &&& 858993459) + (((Int32.toUInt32 (p0 - (((Int32.toUInt32 p0 >>> (Int32.toUInt32 1 &&& Int32.toUInt32 31)).toInt32) &&& 1431655765)) >>> (Int32.toUInt32 2 &&& Int32.toUInt32 31)).toInt32) &&& 858993459)) >>> (Int32.toUInt32 4 &&& Int32.toUInt32 31)).toInt32)) &&& 252645135) >>> (Int32.toUInt32 8 &&& Int32.toUInt32 31)).toInt32)) >>> (Int32.toUInt32 16 &&& Int32.toUInt32 31)).toInt32))) (y := 63) hx hb dJ6_bitCount_0f7a4_51 ?_
  rw [hQz]
  exact r_iret (v := ((((((((p0 - (((Int32.toUInt32 p0 >>> (Int32.toUInt32 1 &&& Int32.toUInt32 31)).toInt32) &&& 1431655765)) &&& 858993459) + (((Int32.toUInt32 (p0 - (((Int32.toUInt32 p0 >>> (Int32.toUInt32 1 &&& Int32.toUInt32 31)).toInt32) &&& 1431655765)) >>> (Int32.toUInt32 2 &&& Int32.toUInt32 31)).toInt32) &&& 858993459)) + ((Int32.toUInt32 (((p0 - (((Int32.toUInt32 p0 >>> (Int32.toUInt32 1 &&& Int32.toUInt32 31)).toInt32) &&& 1431655765)) &&& 858993459) + (((Int32.toUInt32 (p0 - (((Int32.toUInt32 p0 >>> (Int32.toUInt32 1 &&& Int32.toUInt32 31)).toInt32) &&& 1431655765)) >>> (Int32.toUInt32 2 &&& Int32.toUInt32 31)).toInt32) &&& 858993459)) >>> (Int32.toUInt32 4 &&& Int32.toUInt32 31)).toInt32)) &&& 252645135) + ((Int32.toUInt32 (((((p0 - (((Int32.toUInt32 p0 >>> (Int32.toUInt32 1 &&& Int32.toUInt32 31)).toInt32) &&& 1431655765)) &&& 858993459) + (((Int32.toUInt32 (p0 - (((Int32.toUInt32 p0 >>> (Int32.toUInt32 1 &&& Int32.toUInt32 31)).toInt32) &&& 1431655765)) >>> (Int32.toUInt32 2 &&& Int32.toUInt32 31)).toInt32) &&& 858993459)) + ((Int32.toUInt32 (((p0 - (((Int32.toUInt32 p0 >>> (Int32.toUInt32 1 &&& Int32.toUInt32 31)).toInt32) &&& 1431655765)) &&& 858993459) + (((Int32.toUInt32 (p0 - (((Int32.toUInt32 p0 >>> (Int32.toUInt32 1 &&& Int32.toUInt32 31)).toInt32) &&& 1431655765)) >>> (Int32.toUInt32 2 &&& Int32.toUInt32 31)).toInt32) &&& 858993459)) >>> (Int32.toUInt32 4 &&& Int32.toUInt32 31)).toInt32)) &&& 252645135) >>> (Int32.toUInt32 8 &&& Int32.toUInt32 31)).toInt32)) + ((Int32.toUInt32 ((((((p0 - (((Int32.toUInt32 p0 >>> (Int32.toUInt32 1 &&& Int32.toUInt32 31)).toInt32) &&& 1431655765)) &&& 858993459) + (((Int32.toUInt32 (p0 - (((Int32.toUInt32 p0 >>> (Int32.toUInt32 1 &&& Int32.toUInt32 31)).toInt32) &&& 1431655765)) >>> (Int32.toUInt32 2 &&& Int32.toUInt32 31)).toInt32) &&& 858993459)) + ((Int32.toUInt32 (((p0 - (((Int32.toUInt32 p0 >>> (Int32.toUInt32 1 &&& Int32.toUInt32 31)).toInt32) &&& 1431655765)) &&& 858993459) + (((Int32.toUInt32 (p0 - (((Int32.toUInt32 p0 >>> (Int32.toUInt32 1 &&& Int32.toUInt32 31)).toInt32) &&& 1431655765)) >>> (Int32.toUInt32 2 &&& Int32.toUInt32 31)).toInt32) &&& 858993459)) >>> (Int32.toUInt32 4 &&& Int32.toUInt32 31)).toInt32)) &&& 252645135) + ((Int32.toUInt32 (((((p0 - (((Int32.toUInt32 p0 >>> (Int32.toUInt32 1 &&& Int32.toUInt32 31)).toInt32) &&& 1431655765)) &&& 858993459) + (((Int32.toUInt32 (p0 - (((Int32.toUInt32 p0 >>> (Int32.toUInt32 1 &&& Int32.toUInt32 31)).toInt32) &&& 1431655765)) >>> (Int32.toUInt32 2 &&& Int32.toUInt32 31)).toInt32) &&& 858993459)) + ((Int32.toUInt32 (((p0 - (((Int32.toUInt32 p0 >>> (Int32.toUInt32 1 &&& Int32.toUInt32 31)).toInt32) &&& 1431655765)) &&& 858993459) + (((Int32.toUInt32 (p0 - (((Int32.toUInt32 p0 >>> (Int32.toUInt32 1 &&& Int32.toUInt32 31)).toInt32) &&& 1431655765)) >>> (Int32.toUInt32 2 &&& Int32.toUInt32 31)).toInt32) &&& 858993459)) >>> (Int32.toUInt32 4 &&& Int32.toUInt32 31)).toInt32)) &&& 252645135) >>> (Int32.toUInt32 8 &&& Int32.toUInt32 31)).toInt32)) >>> (Int32.toUInt32 16 &&& Int32.toUInt32 31)).toInt32)) &&& 63)) hx hb hr hlk hS hP (Option.some.inj h) dJ6_bitCount_0f7a4_52
def rmX2_howManyAt : Room := { frames := 2, cells := 0, slots := 0, locals := 83 }
set_option maxHeartbeats 4000000 in
set_option maxRecDepth 100000 in
theorem ok_X2_howManyAt (l : Launch) (g : gT) (a : Nat → Nat) (hI : ij 5 a) (p1 : Int32) (M : Mem) (r : Int32) (h : fX2_howManyAt p1 M = some r) : MI l yX2_howManyAt wsX2_howManyAt rmX2_howManyAt g 5 a [.ref (a 0), .int p1] (wl 5 a (eS g a M)) (wl 5 a (eS g a M)) r := by
  refine MI_of (cc := cX2_howManyAt) (maxL := 2) (rt := .int) (by decide) rfl (Nat.le_of_ble_eq_true rfl) ?_
  intro p e s m args below meth c ls hx hb hml hr hlk hts hown hK hP hl
  have hown : s.vm.findClass RX2 = some m.cls := hown
  have hl : lv_has ls 2 [(0, .ref (a 0)), (1, .int p1)] := hl
  have hS : va_S (aA 5 a s.heap.size) s.heap s.heap [] := va_S.rf
  obtain ⟨Qz, hQz⟩ : ∃ Qz : State → Prop, Qz = MQ below (qI g (wl 5 a (eS g a M)) r (aA 5 a s.heap.size)) args s 0 0 (aA 5 a s.heap.size) := ⟨_, rfl⟩
  rw [← hQz]
  unfold fX2_howManyAt at h
  refine lv_aload_n hx hb dX2_howManyAt_0 rfl (lv_at hl 0 rfl) ?_
  refine lv_iload_n hx hb dX2_howManyAt_1 rfl (lv_at hl 1 rfl) ?_
  obtain ⟨r1, e2, h⟩ := bdP_ok h
  refine r_callVi (As := [.int p1]) (rest := []) (ws' := (wl 5 a (eS g a M))) (ok_X2_whoIsAt l g a hI p1 M r1 e2) ⟨hx, hb, hml, hown, hts⟩ (cwV 1 hts gX2_howManyAt_X2_whoIsAt rfl rfl rfl (by decide +kernel) ⟨Nat.le_of_ble_eq_true rfl, Nat.le_of_ble_eq_true rfl⟩) hK (r_recv hK hP 0 (by decide) eS_0 (show vwCl[2]? = some (RX2, TX2, 8) from rfl)) hS hP (fun _ hq => aA_mono hS.1 hq) (fun _ h _ => h) rfl hl.1 rfl (Nat.le_of_ble_eq_true rfl) dX2_howManyAt_2 ⟨Nat.zero_le _, Nat.zero_le _⟩ (fun H locs hP hS => ?_)
  obtain ⟨r3, e4, h⟩ := bdP_ok h
  refine r_callSi (As := [.int r1]) (rest := []) (ws' := (wl 5 a (eS g a M))) (ok_J6_bitCount_0f7a4 l g r1 r3 e4) ⟨hx, hb, hml, hown, hts⟩ (va_cwS 1 hts gX2_howManyAt_J6_bitCount_0f7a4 rfl rfl rfl (by decide +kernel) ⟨Nat.le_of_ble_eq_true rfl, Nat.le_of_ble_eq_true rfl⟩) hK hS nilP (P_A hS.1) (fun _ _ hk => wl_keep hP hk) rfl hl.1 rfl (Nat.le_of_ble_eq_true rfl) dX2_howManyAt_5 ⟨Nat.zero_le _, Nat.zero_le _⟩ (fun H locs hP hS => ?_)
  rw [hQz]
  exact r_iret (v := r3) hx hb hr hlk hS hP (Option.some.inj h) dX2_howManyAt_8
def rmX2_stepsTaken : Room := { frames := 2, cells := 0, slots := 0, locals := 81 }
set_option maxHeartbeats 4000000 in
set_option maxRecDepth 100000 in
theorem ok_X2_stepsTaken (l : Launch) (g : gT) (a : Nat → Nat) (hI : ij 5 a) (M : Mem) (r : Int32) (h : fX2_stepsTaken M = some r) : MI l yX2_stepsTaken wsX2_stepsTaken rmX2_stepsTaken g 5 a [.ref (a 0)] (wl 5 a (eS g a M)) (wl 5 a (eS g a M)) r := by
  refine MI_of (cc := cX2_stepsTaken) (maxL := 3) (rt := .int) (by decide) rfl (Nat.le_of_ble_eq_true rfl) ?_
  intro p e s m args below meth c ls hx hb hml hr hlk hts hown hK hP hl
  have hown : s.vm.findClass RX2 = some m.cls := hown
  have hl : lv_has ls 3 [(0, .ref (a 0))] := hl
  have hS : va_S (aA 5 a s.heap.size) s.heap s.heap [] := va_S.rf
  have iX2 : ∀ w ∈ wsX20, w ∈ wsX2_stepsTaken := fun w h => List.mem_cons_of_mem _ (List.mem_append_right _ h)
  have w21 := hts (.fieldLink RX2 21 "StepRiders$Stair" "riders" "I") (by decide +kernel)
  have w31 := hts (.fieldLink RX2 31 "StepRiders$Stair" "at" "[I") (by decide +kernel)
  obtain ⟨Qz, hQz⟩ : ∃ Qz : State → Prop, Qz = MQ below (qI g (wl 5 a (eS g a M)) r (aA 5 a s.heap.size)) args s 0 0 (aA 5 a s.heap.size) := ⟨_, rfl⟩
  rw [← hQz]
  have B31 : ∀ (k4 : Int32 → Int32 → Option (Int32)) (C4 : ∀ (x1 : Int32) (x2 : Int32) (H : Heap) (locs : List Loc) (ls : Array Slot), k4 x1 x2 = some r → va_P g.1 vwCl (wl 5 a (eS g a M)) H → va_S (aA 5 a s.heap.size) s.heap H locs → lv_has ls 3 [(0, .ref (a 0)), (1, .int x1), (2, .int x2)] → W p l e rmX2_stepsTaken s m args below meth c H locs 0 0 Qz (F0 m 4 ls [])), ∀ (x1 : Int32) (x2 : Int32) (H : Heap) (locs : List Loc) (ls : Array Slot), fX2_stepsTaken_b31 M k4 x1 x2 = some r → va_P g.1 vwCl (wl 5 a (eS g a M)) H → va_S (aA 5 a s.heap.size) s.heap H locs → lv_has ls 3 [(0, .ref (a 0)), (1, .int x1), (2, .int x2)] → W p l e rmX2_stepsTaken s m args below meth c H locs 0 0 Qz (F0 m 31 ls []) := by
    intro k4 C4 x1 x2 H locs ls h hP hS hl
    unfold fX2_stepsTaken_b31 at h
    refine lv_iinc (v := (x2 + 1)) (lv' := [(2, .int (x2 + 1)), (0, .ref (a 0)), (1, .int x1)]) hx hb dX2_stepsTaken_31 hl (k := 2) rfl rfl (by decide) rfl (fun ls hl => ?_)
    refine lv_goto (tgt := 4) hx hb dX2_stepsTaken_34 (by decide) ?_
    exact C4 x1 (x2 + 1) _ _ _ h hP hS (lv_sub hl [1, 2, 0] rfl)
  have B4 : ∀ (k4 : Int32 → Int32 → Option (Int32)) (C4 : ∀ (x1 : Int32) (x2 : Int32) (H : Heap) (locs : List Loc) (ls : Array Slot), k4 x1 x2 = some r → va_P g.1 vwCl (wl 5 a (eS g a M)) H → va_S (aA 5 a s.heap.size) s.heap H locs → lv_has ls 3 [(0, .ref (a 0)), (1, .int x1), (2, .int x2)] → W p l e rmX2_stepsTaken s m args below meth c H locs 0 0 Qz (F0 m 4 ls [])), ∀ (x1 : Int32) (x2 : Int32) (H : Heap) (locs : List Loc) (ls : Array Slot), fX2_stepsTaken_b4 M k4 x1 x2 = some r → va_P g.1 vwCl (wl 5 a (eS g a M)) H → va_S (aA 5 a s.heap.size) s.heap H locs → lv_has ls 3 [(0, .ref (a 0)), (1, .int x1), (2, .int x2)] → W p l e rmX2_stepsTaken s m args below meth c H locs 0 0 Qz (F0 m 4 ls []) := by
    intro k4 C4 x1 x2 H locs ls h hP hS hl
    unfold fX2_stepsTaken_b4 at h
    refine lv_iload_n hx hb dX2_stepsTaken_4 rfl (lv_at hl 2 rfl) ?_
    refine lv_aload_n hx hb dX2_stepsTaken_5 rfl (lv_at hl 0 rfl) ?_
    refine r_get (v := .int (M 0 3)) hx hb hts iX2 hown hK hP 0 (by decide) eS_0 rfl 3 (by decide) w21 rfl dX2_stepsTaken_6 ?_
    refine lv_icmp_ge (x := x2) (y := (M 0 3)) (tgt := 37) hx hb dX2_stepsTaken_9 (by decide) (fun q1 => ?_) (fun q1 => ?_)
    · replace h := if_t q1 h
      refine lv_iload_n hx hb dX2_stepsTaken_37 rfl (lv_at hl 1 rfl) ?_
      rw [hQz]
      exact r_iret (v := x1) hx hb hr hlk hS hP (Option.some.inj h) dX2_stepsTaken_38
    · replace h := if_f q1 h
      refine lv_aload_n hx hb dX2_stepsTaken_12 rfl (lv_at hl 0 rfl) ?_
      refine lv_iload_n hx hb dX2_stepsTaken_13 rfl (lv_at hl 2 rfl) ?_
      obtain ⟨r2, e3, h⟩ := bdP_ok h
      refine r_callVi (As := [.int x2]) (rest := []) (ws' := (wl 5 a (eS g a M))) (ok_X2_isOn l g a hI x2 M r2 e3) ⟨hx, hb, hml, hown, hts⟩ (cwV 1 hts gX2_stepsTaken_X2_isOn rfl rfl rfl (by decide +kernel) ⟨Nat.le_of_ble_eq_true rfl, Nat.le_of_ble_eq_true rfl⟩) hK (r_recv hK hP 0 (by decide) eS_0 (show vwCl[2]? = some (RX2, TX2, 8) from rfl)) hS hP (fun _ hq => aA_mono hS.1 hq) (fun _ h _ => h) rfl hl.1 rfl (Nat.le_of_ble_eq_true rfl) dX2_stepsTaken_14 ⟨Nat.zero_le _, Nat.zero_le _⟩ (fun H locs hP hS => ?_)
      refine lv_if_eq (x := r2) (tgt := 31) hx hb dX2_stepsTaken_17 (by decide) (fun q4 => ?_) (fun q4 => ?_)
      · replace h := if_t q4 h
        exact B31 k4 C4 x1 x2 _ _ _ h hP hS (lv_sub hl [0, 1, 2] rfl)
      · replace h := if_f q4 h
        refine lv_iload_n hx hb dX2_stepsTaken_20 rfl (lv_at hl 1 rfl) ?_
        refine lv_iconst (v := 1) hx hb dX2_stepsTaken_21 (by decide) ?_
        refine lv_aload_n hx hb dX2_stepsTaken_22 rfl (lv_at hl 0 rfl) ?_
        refine r_get (v := .ref (a 3)) hx hb hts iX2 hown hK hP 0 (by decide) eS_0 rfl 6 (by decide) w31 rfl dX2_stepsTaken_23 ?_
        refine lv_iload_n hx hb dX2_stepsTaken_26 rfl (lv_at hl 2 rfl) ?_
        obtain ⟨q5, h⟩ := chk_ok h
        refine r_iald (i := x2) (h := M 3) hx hb hK hP 3 (by decide) (eS_a (by decide)) q5 dX2_stepsTaken_27 ?_
        refine lv_ishl (x := 1) (y := (M 3 (Int32.toNatClampNeg x2))) hx hb dX2_stepsTaken_28 ?_
        refine lv_ior (x := x1) (y := (1 <<< ((M 3 (Int32.toNatClampNeg x2)) &&& 31))) hx hb dX2_stepsTaken_29 ?_
        refine lv_istore_n (lv' := [(1, .int (x1 ||| (1 <<< ((M 3 (Int32.toNatClampNeg x2)) &&& 31)))), (0, .ref (a 0)), (2, .int x2)]) hx hb dX2_stepsTaken_30 rfl hl (by decide) rfl (fun ls hl => ?_)
        exact B31 k4 C4 (x1 ||| (1 <<< ((M 3 (Int32.toNatClampNeg x2)) &&& 31))) x2 _ _ _ h hP hS (lv_sub hl [1, 0, 2] rfl)
  have L4 : ∀ (n : Nat), ∀ (x1 : Int32) (x2 : Int32) (H : Heap) (locs : List Loc) (ls : Array Slot), fX2_stepsTaken_l4 M n x1 x2 = some r → va_P g.1 vwCl (wl 5 a (eS g a M)) H → va_S (aA 5 a s.heap.size) s.heap H locs → lv_has ls 3 [(0, .ref (a 0)), (1, .int x1), (2, .int x2)] → W p l e rmX2_stepsTaken s m args below meth c H locs 0 0 Qz (F0 m 4 ls []) := by
    intro n
    induction n with
    | zero => intro x1 x2 H locs ls h; exact absurd (show (none : Option (Int32)) = some _ from h) (fun z => by cases z)
    | succ n ih => exact fun x1 x2 H locs ls h hP hS hl => B4 (fX2_stepsTaken_l4 M n) ih x1 x2 H locs ls h hP hS hl
  unfold fX2_stepsTaken at h
  refine lv_iconst (v := 0) hx hb dX2_stepsTaken_0 (by decide) ?_
  refine lv_istore_n (lv' := [(1, .int 0), (0, .ref (a 0))]) hx hb dX2_stepsTaken_1 rfl hl (by decide) rfl (fun ls hl => ?_)
  refine lv_iconst (v := 0) hx hb dX2_stepsTaken_2 (by decide) ?_
  refine lv_istore_n (lv' := [(2, .int 0), (1, .int 0), (0, .ref (a 0))]) hx hb dX2_stepsTaken_3 rfl hl (by decide) rfl (fun ls hl => ?_)
  exact L4 FU 0 0 _ _ _ h hP hS (lv_sub hl [2, 1, 0] rfl)
def rmX2_isClear : Room := { frames := 3, cells := 0, slots := 0, locals := 104 }
set_option maxHeartbeats 4000000 in
set_option maxRecDepth 100000 in
theorem ok_X2_isClear (l : Launch) (g : gT) (a : Nat → Nat) (hI : ij 5 a) (M : Mem) (r : Int32) (h : fX2_isClear M = some r) : MI l yX2_isClear wsX2_isClear rmX2_isClear g 5 a [.ref (a 0)] (wl 5 a (eS g a M)) (wl 5 a (eS g a M)) r := by
  refine MI_of (cc := cX2_isClear) (maxL := 1) (rt := .boolean) (by decide) rfl (Nat.le_of_ble_eq_true rfl) ?_
  intro p e s m args below meth c ls hx hb hml hr hlk hts hown hK hP hl
  have hown : s.vm.findClass RX2 = some m.cls := hown
  have hl : lv_has ls 1 [(0, .ref (a 0))] := hl
  have hS : va_S (aA 5 a s.heap.size) s.heap s.heap [] := va_S.rf
  have iX2 : ∀ w ∈ wsX20, w ∈ wsX2_isClear := fun w h => List.mem_cons_of_mem _ (List.mem_append_right _ h)
  have w21 := hts (.fieldLink RX2 21 "StepRiders$Stair" "riders" "I") (by decide +kernel)
  obtain ⟨Qz, hQz⟩ : ∃ Qz : State → Prop, Qz = MQ below (qI g (wl 5 a (eS g a M)) r (aA 5 a s.heap.size)) args s 0 0 (aA 5 a s.heap.size) := ⟨_, rfl⟩
  rw [← hQz]
  unfold fX2_isClear at h
  refine lv_aload_n hx hb dX2_isClear_0 rfl (lv_at hl 0 rfl) ?_
  refine lv_bipush (v := 99) hx hb dX2_isClear_1 (by decide) ?_
  obtain ⟨r1, e2, h⟩ := bdP_ok h
  refine r_callVi (As := [.int 99]) (rest := []) (ws' := (wl 5 a (eS g a M))) (ok_X2_howManyAt l g a hI 99 M r1 e2) ⟨hx, hb, hml, hown, hts⟩ (cwV 1 hts gX2_isClear_X2_howManyAt rfl rfl rfl (by decide +kernel) ⟨Nat.le_of_ble_eq_true rfl, Nat.le_of_ble_eq_true rfl⟩) hK (r_recv hK hP 0 (by decide) eS_0 (show vwCl[2]? = some (RX2, TX2, 8) from rfl)) hS hP (fun _ hq => aA_mono hS.1 hq) (fun _ h _ => h) rfl hl.1 rfl (Nat.le_of_ble_eq_true rfl) dX2_isClear_3 ⟨Nat.zero_le _, Nat.zero_le _⟩ (fun H locs hP hS => ?_)
  refine lv_aload_n hx hb dX2_isClear_6 rfl (lv_at hl 0 rfl) ?_
  refine r_get (v := .int (M 0 3)) hx hb hts iX2 hown hK hP 0 (by decide) eS_0 rfl 3 (by decide) w21 rfl dX2_isClear_7 ?_
  refine lv_icmp_ne (x := r1) (y := (M 0 3)) (tgt := 17) hx hb dX2_isClear_10 (by decide) (fun q3 => ?_) (fun q3 => ?_)
  · replace h := if_f q3 h
    refine lv_iconst (v := 0) hx hb dX2_isClear_17 (by decide) ?_
    rw [hQz]
    exact r_zret (v := 0) hx hb hr hlk hS hP (Option.some.inj h) (by decide) dX2_isClear_18
  · replace h := if_t q3 h
    refine lv_iconst (v := 1) hx hb dX2_isClear_13 (by decide) ?_
    refine lv_goto (tgt := 18) hx hb dX2_isClear_14 (by decide) ?_
    rw [hQz]
    exact r_zret (v := 1) hx hb hr hlk hS hP (Option.some.inj h) (by decide) dX2_isClear_18
def rmX2_sendBack : Room := { frames := 1, cells := 0, slots := 0, locals := 60 }
set_option maxHeartbeats 4000000 in
set_option maxRecDepth 100000 in
theorem ok_X2_sendBack (l : Launch) (g : gT) (a : Nat → Nat) (hI : ij 5 a) (p1 : Int32) (p2 : Int32) (M : Mem) (M' : Mem) (h : fX2_sendBack p1 p2 M = some M') : MV l yX2_sendBack wsX2_sendBack rmX2_sendBack g 5 a [.ref (a 0), .int p1, .int p2] (wl 5 a (eS g a M)) (wl 5 a (eS g a M')) := by
  refine MV_of (cc := cX2_sendBack) (maxL := 3) (by decide) rfl (Nat.le_of_ble_eq_true rfl) ?_
  intro p e s m args below meth c ls hx hb hml hr hlk hts hown hK hP hl
  have hown : s.vm.findClass RX2 = some m.cls := hown
  have hl : lv_has ls 3 [(0, .ref (a 0)), (1, .int p1), (2, .int p2)] := hl
  have hS : va_S (aA 5 a s.heap.size) s.heap s.heap [] := va_S.rf
  have iX2 : ∀ w ∈ wsX20, w ∈ wsX2_sendBack := fun w h => List.mem_cons_of_mem _ (List.mem_append_right _ h)
  have w31 := hts (.fieldLink RX2 31 "StepRiders$Stair" "at" "[I") (by decide +kernel)
  have w28 := hts (.fieldLink RX2 28 "StepRiders$Stair" "lane" "[I") (by decide +kernel)
  obtain ⟨Qz, hQz⟩ : ∃ Qz : State → Prop, Qz = MQ below (qV g (wl 5 a (eS g a M')) (aA 5 a s.heap.size)) args s 0 0 (aA 5 a s.heap.size) := ⟨_, rfl⟩
  rw [← hQz]
  unfold fX2_sendBack at h
  refine lv_aload_n hx hb dX2_sendBack_0 rfl (lv_at hl 0 rfl) ?_
  refine r_get (v := .ref (a 3)) hx hb hts iX2 hown hK hP 0 (by decide) eS_0 rfl 6 (by decide) w31 rfl dX2_sendBack_1 ?_
  refine lv_iload_n hx hb dX2_sendBack_4 rfl (lv_at hl 1 rfl) ?_
  refine lv_iconst (v := (-1)) hx hb dX2_sendBack_5 (by decide) ?_
  obtain ⟨q1, h⟩ := chk_ok h
  refine r_iast (i := p1) (x := (-1)) (h := M 3) (f' := eS g a (mp M 3 (Int32.toNatClampNeg p1) (-1))) hx hb hK hI (fun _ h => aA_in h) hP hS 3 (by decide) (eS_a (by decide)) q1 (eS_ua (by decide)) dX2_sendBack_6 (fun H locs hP hS => ?_)
  refine lv_aload_n hx hb dX2_sendBack_7 rfl (lv_at hl 0 rfl) ?_
  refine r_get (v := .ref (a 2)) hx hb hts iX2 hown hK hP 0 (by decide) eS_0 rfl 5 (by decide) w28 rfl dX2_sendBack_8 ?_
  refine lv_iload_n hx hb dX2_sendBack_11 rfl (lv_at hl 1 rfl) ?_
  refine lv_iload_n hx hb dX2_sendBack_12 rfl (lv_at hl 2 rfl) ?_
  obtain ⟨q2, h⟩ := chk_ok h
  refine r_iast (i := p1) (x := p2) (h := (mp M 3 (Int32.toNatClampNeg p1) (-1)) 2) (f' := eS g a (mp (mp M 3 (Int32.toNatClampNeg p1) (-1)) 2 (Int32.toNatClampNeg p1) p2)) hx hb hK hI (fun _ h => aA_in h) hP hS 2 (by decide) (eS_a (by decide)) q2 (eS_ua (by decide)) dX2_sendBack_13 (fun H locs hP hS => ?_)
  rw [hQz]
  exact r_vret hx hb hr hlk hS (Option.some.inj h ▸ hP) dX2_sendBack_14
def rmX2_putInLanes : Room := { frames := 1, cells := 0, slots := 0, locals := 60 }
set_option maxHeartbeats 4000000 in
set_option maxRecDepth 100000 in
theorem ok_X2_putInLanes (l : Launch) (g : gT) (a : Nat → Nat) (hI : ij 5 a) (p1 : Int32) (p2 : Int32) (M : Mem) (M' : Mem) (h : fX2_putInLanes p1 p2 M = some M') : MV l yX2_putInLanes wsX2_putInLanes rmX2_putInLanes g 5 a [.ref (a 0), .int p1, .int p2] (wl 5 a (eS g a M)) (wl 5 a (eS g a M')) := by
  refine MV_of (cc := cX2_putInLanes) (maxL := 4) (by decide) rfl (Nat.le_of_ble_eq_true rfl) ?_
  intro p e s m args below meth c ls hx hb hml hr hlk hts hown hK hP hl
  have hown : s.vm.findClass RX2 = some m.cls := hown
  have hl : lv_has ls 4 [(0, .ref (a 0)), (1, .int p1), (2, .int p2)] := hl
  have hS : va_S (aA 5 a s.heap.size) s.heap s.heap [] := va_S.rf
  have iX2 : ∀ w ∈ wsX20, w ∈ wsX2_putInLanes := fun w h => List.mem_cons_of_mem _ (List.mem_append_right _ h)
  have w21 := hts (.fieldLink RX2 21 "StepRiders$Stair" "riders" "I") (by decide +kernel)
  have w28 := hts (.fieldLink RX2 28 "StepRiders$Stair" "lane" "[I") (by decide +kernel)
  obtain ⟨Qz, hQz⟩ : ∃ Qz : State → Prop, Qz = MQ below (qV g (wl 5 a (eS g a M')) (aA 5 a s.heap.size)) args s 0 0 (aA 5 a s.heap.size) := ⟨_, rfl⟩
  rw [← hQz]
  have B30 : ∀ (k2 : Int32 → Mem → Option (Mem)) (C2 : ∀ (x3 : Int32) (M : Mem) (H : Heap) (locs : List Loc) (ls : Array Slot), k2 x3 M = some M' → va_P g.1 vwCl (wl 5 a (eS g a M)) H → va_S (aA 5 a s.heap.size) s.heap H locs → lv_has ls 4 [(0, .ref (a 0)), (1, .int p1), (2, .int p2), (3, .int x3)] → W p l e rmX2_putInLanes s m args below meth c H locs 0 0 Qz (F0 m 2 ls [])), ∀ (x3 : Int32) (M : Mem) (H : Heap) (locs : List Loc) (ls : Array Slot), fX2_putInLanes_b30 p1 p2 k2 x3 M = some M' → va_P g.1 vwCl (wl 5 a (eS g a M)) H → va_S (aA 5 a s.heap.size) s.heap H locs → lv_has ls 4 [(0, .ref (a 0)), (1, .int p1), (2, .int p2), (3, .int x3)] → W p l e rmX2_putInLanes s m args below meth c H locs 0 0 Qz (F0 m 30 ls []) := by
    intro k2 C2 x3 M H locs ls h hP hS hl
    unfold fX2_putInLanes_b30 at h
    refine lv_iinc (v := (x3 + 1)) (lv' := [(3, .int (x3 + 1)), (0, .ref (a 0)), (1, .int p1), (2, .int p2)]) hx hb dX2_putInLanes_30 hl (k := 3) rfl rfl (by decide) rfl (fun ls hl => ?_)
    refine lv_goto (tgt := 2) hx hb dX2_putInLanes_33 (by decide) ?_
    exact C2 (x3 + 1) M _ _ _ h hP hS (lv_sub hl [1, 2, 3, 0] rfl)
  have B2 : ∀ (k2 : Int32 → Mem → Option (Mem)) (C2 : ∀ (x3 : Int32) (M : Mem) (H : Heap) (locs : List Loc) (ls : Array Slot), k2 x3 M = some M' → va_P g.1 vwCl (wl 5 a (eS g a M)) H → va_S (aA 5 a s.heap.size) s.heap H locs → lv_has ls 4 [(0, .ref (a 0)), (1, .int p1), (2, .int p2), (3, .int x3)] → W p l e rmX2_putInLanes s m args below meth c H locs 0 0 Qz (F0 m 2 ls [])), ∀ (x3 : Int32) (M : Mem) (H : Heap) (locs : List Loc) (ls : Array Slot), fX2_putInLanes_b2 p1 p2 k2 x3 M = some M' → va_P g.1 vwCl (wl 5 a (eS g a M)) H → va_S (aA 5 a s.heap.size) s.heap H locs → lv_has ls 4 [(0, .ref (a 0)), (1, .int p1), (2, .int p2), (3, .int x3)] → W p l e rmX2_putInLanes s m args below meth c H locs 0 0 Qz (F0 m 2 ls []) := by
    intro k2 C2 x3 M H locs ls h hP hS hl
    unfold fX2_putInLanes_b2 at h
    refine lv_iload_n hx hb dX2_putInLanes_2 rfl (lv_at hl 3 rfl) ?_
    refine lv_aload_n hx hb dX2_putInLanes_3 rfl (lv_at hl 0 rfl) ?_
    refine r_get (v := .int (M 0 3)) hx hb hts iX2 hown hK hP 0 (by decide) eS_0 rfl 3 (by decide) w21 rfl dX2_putInLanes_4 ?_
    refine lv_icmp_ge (x := x3) (y := (M 0 3)) (tgt := 36) hx hb dX2_putInLanes_7 (by decide) (fun q1 => ?_) (fun q1 => ?_)
    · replace h := if_t q1 h
      rw [hQz]
      exact r_vret hx hb hr hlk hS (Option.some.inj h ▸ hP) dX2_putInLanes_36
    · replace h := if_f q1 h
      refine lv_iload_n hx hb dX2_putInLanes_10 rfl (lv_at hl 1 rfl) ?_
      refine lv_iload_n hx hb dX2_putInLanes_11 rfl (lv_at hl 3 rfl) ?_
      refine lv_ishr (x := p1) (y := x3) hx hb dX2_putInLanes_12 ?_
      refine lv_iconst (v := 1) hx hb dX2_putInLanes_13 (by decide) ?_
      refine lv_iand (x := (p1 >>> (x3 &&& 31))) (y := 1) hx hb dX2_putInLanes_14 ?_
      refine lv_iconst (v := 1) hx hb dX2_putInLanes_15 (by decide) ?_
      refine lv_icmp_ne (x := ((p1 >>> (x3 &&& 31)) &&& 1)) (y := 1) (tgt := 30) hx hb dX2_putInLanes_16 (by decide) (fun q2 => ?_) (fun q2 => ?_)
      · replace h := if_f q2 h
        exact B30 k2 C2 x3 M _ _ _ h hP hS (lv_sub hl [0, 1, 2, 3] rfl)
      · replace h := if_t q2 h
        refine lv_aload_n hx hb dX2_putInLanes_19 rfl (lv_at hl 0 rfl) ?_
        refine r_get (v := .ref (a 2)) hx hb hts iX2 hown hK hP 0 (by decide) eS_0 rfl 5 (by decide) w28 rfl dX2_putInLanes_20 ?_
        refine lv_iload_n hx hb dX2_putInLanes_23 rfl (lv_at hl 3 rfl) ?_
        refine lv_iload_n hx hb dX2_putInLanes_24 rfl (lv_at hl 2 rfl) ?_
        refine lv_iload_n hx hb dX2_putInLanes_25 rfl (lv_at hl 3 rfl) ?_
        refine lv_ishr (x := p2) (y := x3) hx hb dX2_putInLanes_26 ?_
        refine lv_iconst (v := 1) hx hb dX2_putInLanes_27 (by decide) ?_
        refine lv_iand (x := (p2 >>> (x3 &&& 31))) (y := 1) hx hb dX2_putInLanes_28 ?_
        obtain ⟨q3, h⟩ := chk_ok h
        refine r_iast (i := x3) (x := ((p2 >>> (x3 &&& 31)) &&& 1)) (h := M 2) (f' := eS g a (mp M 2 (Int32.toNatClampNeg x3) ((p2 >>> (x3 &&& 31)) &&& 1))) hx hb hK hI (fun _ h => aA_in h) hP hS 2 (by decide) (eS_a (by decide)) q3 (eS_ua (by decide)) dX2_putInLanes_29 (fun H locs hP hS => ?_)
        exact B30 k2 C2 x3 (mp M 2 (Int32.toNatClampNeg x3) ((p2 >>> (x3 &&& 31)) &&& 1)) _ _ _ h hP hS (lv_sub hl [0, 1, 2, 3] rfl)
  have L2 : ∀ (n : Nat), ∀ (x3 : Int32) (M : Mem) (H : Heap) (locs : List Loc) (ls : Array Slot), fX2_putInLanes_l2 p1 p2 n x3 M = some M' → va_P g.1 vwCl (wl 5 a (eS g a M)) H → va_S (aA 5 a s.heap.size) s.heap H locs → lv_has ls 4 [(0, .ref (a 0)), (1, .int p1), (2, .int p2), (3, .int x3)] → W p l e rmX2_putInLanes s m args below meth c H locs 0 0 Qz (F0 m 2 ls []) := by
    intro n
    induction n with
    | zero => intro x3 M H locs ls h; exact absurd (show (none : Option (Mem)) = some _ from h) (fun z => by cases z)
    | succ n ih => exact fun x3 M H locs ls h hP hS hl => B2 (fX2_putInLanes_l2 p1 p2 n) ih x3 M H locs ls h hP hS hl
  unfold fX2_putInLanes at h
  refine lv_iconst (v := 0) hx hb dX2_putInLanes_0 (by decide) ?_
  refine lv_istore_n (lv' := [(3, .int 0), (0, .ref (a 0)), (1, .int p1), (2, .int p2)]) hx hb dX2_putInLanes_1 rfl hl (by decide) rfl (fun ls hl => ?_)
  exact L2 FU 0 M _ _ _ h hP hS (lv_sub hl [1, 2, 3, 0] rfl)
def rmX2_takeOff : Room := { frames := 1, cells := 0, slots := 0, locals := 60 }
set_option maxHeartbeats 4000000 in
set_option maxRecDepth 100000 in
theorem ok_X2_takeOff (l : Launch) (g : gT) (a : Nat → Nat) (hI : ij 5 a) (p1 : Int32) (M : Mem) (M' : Mem) (h : fX2_takeOff p1 M = some M') : MV l yX2_takeOff wsX2_takeOff rmX2_takeOff g 5 a [.ref (a 0), .int p1] (wl 5 a (eS g a M)) (wl 5 a (eS g a M')) := by
  refine MV_of (cc := cX2_takeOff) (maxL := 3) (by decide) rfl (Nat.le_of_ble_eq_true rfl) ?_
  intro p e s m args below meth c ls hx hb hml hr hlk hts hown hK hP hl
  have hown : s.vm.findClass RX2 = some m.cls := hown
  have hl : lv_has ls 3 [(0, .ref (a 0)), (1, .int p1)] := hl
  have hS : va_S (aA 5 a s.heap.size) s.heap s.heap [] := va_S.rf
  have iX2 : ∀ w ∈ wsX20, w ∈ wsX2_takeOff := fun w h => List.mem_cons_of_mem _ (List.mem_append_right _ h)
  have w21 := hts (.fieldLink RX2 21 "StepRiders$Stair" "riders" "I") (by decide +kernel)
  have w31 := hts (.fieldLink RX2 31 "StepRiders$Stair" "at" "[I") (by decide +kernel)
  obtain ⟨Qz, hQz⟩ : ∃ Qz : State → Prop, Qz = MQ below (qV g (wl 5 a (eS g a M')) (aA 5 a s.heap.size)) args s 0 0 (aA 5 a s.heap.size) := ⟨_, rfl⟩
  rw [← hQz]
  have B27 : ∀ (k2 : Int32 → Mem → Option (Mem)) (C2 : ∀ (x2 : Int32) (M : Mem) (H : Heap) (locs : List Loc) (ls : Array Slot), k2 x2 M = some M' → va_P g.1 vwCl (wl 5 a (eS g a M)) H → va_S (aA 5 a s.heap.size) s.heap H locs → lv_has ls 3 [(0, .ref (a 0)), (1, .int p1), (2, .int x2)] → W p l e rmX2_takeOff s m args below meth c H locs 0 0 Qz (F0 m 2 ls [])), ∀ (x2 : Int32) (M : Mem) (H : Heap) (locs : List Loc) (ls : Array Slot), fX2_takeOff_b27 p1 k2 x2 M = some M' → va_P g.1 vwCl (wl 5 a (eS g a M)) H → va_S (aA 5 a s.heap.size) s.heap H locs → lv_has ls 3 [(0, .ref (a 0)), (1, .int p1), (2, .int x2)] → W p l e rmX2_takeOff s m args below meth c H locs 0 0 Qz (F0 m 27 ls []) := by
    intro k2 C2 x2 M H locs ls h hP hS hl
    unfold fX2_takeOff_b27 at h
    refine lv_iinc (v := (x2 + 1)) (lv' := [(2, .int (x2 + 1)), (0, .ref (a 0)), (1, .int p1)]) hx hb dX2_takeOff_27 hl (k := 2) rfl rfl (by decide) rfl (fun ls hl => ?_)
    refine lv_goto (tgt := 2) hx hb dX2_takeOff_30 (by decide) ?_
    exact C2 (x2 + 1) M _ _ _ h hP hS (lv_sub hl [1, 2, 0] rfl)
  have B2 : ∀ (k2 : Int32 → Mem → Option (Mem)) (C2 : ∀ (x2 : Int32) (M : Mem) (H : Heap) (locs : List Loc) (ls : Array Slot), k2 x2 M = some M' → va_P g.1 vwCl (wl 5 a (eS g a M)) H → va_S (aA 5 a s.heap.size) s.heap H locs → lv_has ls 3 [(0, .ref (a 0)), (1, .int p1), (2, .int x2)] → W p l e rmX2_takeOff s m args below meth c H locs 0 0 Qz (F0 m 2 ls [])), ∀ (x2 : Int32) (M : Mem) (H : Heap) (locs : List Loc) (ls : Array Slot), fX2_takeOff_b2 p1 k2 x2 M = some M' → va_P g.1 vwCl (wl 5 a (eS g a M)) H → va_S (aA 5 a s.heap.size) s.heap H locs → lv_has ls 3 [(0, .ref (a 0)), (1, .int p1), (2, .int x2)] → W p l e rmX2_takeOff s m args below meth c H locs 0 0 Qz (F0 m 2 ls []) := by
    intro k2 C2 x2 M H locs ls h hP hS hl
    unfold fX2_takeOff_b2 at h
    refine lv_iload_n hx hb dX2_takeOff_2 rfl (lv_at hl 2 rfl) ?_
    refine lv_aload_n hx hb dX2_takeOff_3 rfl (lv_at hl 0 rfl) ?_
    refine r_get (v := .int (M 0 3)) hx hb hts iX2 hown hK hP 0 (by decide) eS_0 rfl 3 (by decide) w21 rfl dX2_takeOff_4 ?_
    refine lv_icmp_ge (x := x2) (y := (M 0 3)) (tgt := 33) hx hb dX2_takeOff_7 (by decide) (fun q1 => ?_) (fun q1 => ?_)
    · replace h := if_t q1 h
      rw [hQz]
      exact r_vret hx hb hr hlk hS (Option.some.inj h ▸ hP) dX2_takeOff_33
    · replace h := if_f q1 h
      refine lv_iload_n hx hb dX2_takeOff_10 rfl (lv_at hl 1 rfl) ?_
      refine lv_iload_n hx hb dX2_takeOff_11 rfl (lv_at hl 2 rfl) ?_
      refine lv_ishr (x := p1) (y := x2) hx hb dX2_takeOff_12 ?_
      refine lv_iconst (v := 1) hx hb dX2_takeOff_13 (by decide) ?_
      refine lv_iand (x := (p1 >>> (x2 &&& 31))) (y := 1) hx hb dX2_takeOff_14 ?_
      refine lv_iconst (v := 1) hx hb dX2_takeOff_15 (by decide) ?_
      refine lv_icmp_ne (x := ((p1 >>> (x2 &&& 31)) &&& 1)) (y := 1) (tgt := 27) hx hb dX2_takeOff_16 (by decide) (fun q2 => ?_) (fun q2 => ?_)
      · replace h := if_f q2 h
        exact B27 k2 C2 x2 M _ _ _ h hP hS (lv_sub hl [0, 1, 2] rfl)
      · replace h := if_t q2 h
        refine lv_aload_n hx hb dX2_takeOff_19 rfl (lv_at hl 0 rfl) ?_
        refine r_get (v := .ref (a 3)) hx hb hts iX2 hown hK hP 0 (by decide) eS_0 rfl 6 (by decide) w31 rfl dX2_takeOff_20 ?_
        refine lv_iload_n hx hb dX2_takeOff_23 rfl (lv_at hl 2 rfl) ?_
        refine lv_bipush (v := 99) hx hb dX2_takeOff_24 (by decide) ?_
        obtain ⟨q3, h⟩ := chk_ok h
        refine r_iast (i := x2) (x := 99) (h := M 3) (f' := eS g a (mp M 3 (Int32.toNatClampNeg x2) 99)) hx hb hK hI (fun _ h => aA_in h) hP hS 3 (by decide) (eS_a (by decide)) q3 (eS_ua (by decide)) dX2_takeOff_26 (fun H locs hP hS => ?_)
        exact B27 k2 C2 x2 (mp M 3 (Int32.toNatClampNeg x2) 99) _ _ _ h hP hS (lv_sub hl [0, 1, 2] rfl)
  have L2 : ∀ (n : Nat), ∀ (x2 : Int32) (M : Mem) (H : Heap) (locs : List Loc) (ls : Array Slot), fX2_takeOff_l2 p1 n x2 M = some M' → va_P g.1 vwCl (wl 5 a (eS g a M)) H → va_S (aA 5 a s.heap.size) s.heap H locs → lv_has ls 3 [(0, .ref (a 0)), (1, .int p1), (2, .int x2)] → W p l e rmX2_takeOff s m args below meth c H locs 0 0 Qz (F0 m 2 ls []) := by
    intro n
    induction n with
    | zero => intro x2 M H locs ls h; exact absurd (show (none : Option (Mem)) = some _ from h) (fun z => by cases z)
    | succ n ih => exact fun x2 M H locs ls h hP hS hl => B2 (fX2_takeOff_l2 p1 n) ih x2 M H locs ls h hP hS hl
  unfold fX2_takeOff at h
  refine lv_iconst (v := 0) hx hb dX2_takeOff_0 (by decide) ?_
  refine lv_istore_n (lv' := [(2, .int 0), (0, .ref (a 0)), (1, .int p1)]) hx hb dX2_takeOff_1 rfl hl (by decide) rfl (fun ls hl => ?_)
  exact L2 FU 0 M _ _ _ h hP hS (lv_sub hl [1, 2, 0] rfl)
def rmX2_draw : Room := { frames := 2, cells := 0, slots := 0, locals := 82 }
set_option maxHeartbeats 4000000 in
set_option maxRecDepth 100000 in
theorem ok_X2_draw (l : Launch) (g : gT) (a : Nat → Nat) (hI : ij 5 a) (p1 : Int32) (M : Mem) (M' : Mem) (h : fX2_draw p1 M = some M') : MV l yX2_draw wsX2_draw rmX2_draw g 5 a [.ref (a 0), .int p1] (wl 5 a (eS g a M)) (wl 5 a (eS g a M')) := by
  refine MV_of (cc := cX2_draw) (maxL := 2) (by decide) rfl (Nat.le_of_ble_eq_true rfl) ?_
  intro p e s m args below meth c ls hx hb hml hr hlk hts hown hK hP hl
  have hown : s.vm.findClass RX2 = some m.cls := hown
  have hl : lv_has ls 2 [(0, .ref (a 0)), (1, .int p1)] := hl
  have hS : va_S (aA 5 a s.heap.size) s.heap s.heap [] := va_S.rf
  have iX2 : ∀ w ∈ wsX20, w ∈ wsX2_draw := fun w h => List.mem_cons_of_mem _ (List.mem_append_right _ h)
  have w31 := hts (.fieldLink RX2 31 "StepRiders$Stair" "at" "[I") (by decide +kernel)
  have w21 := hts (.fieldLink RX2 21 "StepRiders$Stair" "riders" "I") (by decide +kernel)
  have w15 := hts (.fieldLink RX2 15 "StepRiders$Stair" "speed" "I") (by decide +kernel)
  obtain ⟨Qz, hQz⟩ : ∃ Qz : State → Prop, Qz = MQ below (qV g (wl 5 a (eS g a M')) (aA 5 a s.heap.size)) args s 0 0 (aA 5 a s.heap.size) := ⟨_, rfl⟩
  rw [← hQz]
  have B21 : ∀ (M : Mem) (H : Heap) (locs : List Loc) (ls : Array Slot), fX2_draw_b21 p1 M = some M' → va_P g.1 vwCl (wl 5 a (eS g a M)) H → va_S (aA 5 a s.heap.size) s.heap H locs → lv_has ls 2 [(0, .ref (a 0)), (1, .int p1)] → W p l e rmX2_draw s m args below meth c H locs 0 0 Qz (F0 m 21 ls []) := by
    intro M H locs ls h hP hS hl
    unfold fX2_draw_b21 at h
    refine lv_aload_n hx hb dX2_draw_21 rfl (lv_at hl 0 rfl) ?_
    refine r_get (v := .ref (a 3)) hx hb hts iX2 hown hK hP 0 (by decide) eS_0 rfl 6 (by decide) w31 rfl dX2_draw_22 ?_
    refine lv_iload_n hx hb dX2_draw_25 rfl (lv_at hl 1 rfl) ?_
    refine lv_aload_n hx hb dX2_draw_26 rfl (lv_at hl 0 rfl) ?_
    refine r_get (v := .int (M 0 3)) hx hb hts iX2 hown hK hP 0 (by decide) eS_0 rfl 3 (by decide) w21 rfl dX2_draw_27 ?_
    obtain ⟨q1, h⟩ := chk_ok h
    refine lv_irem (x := p1) (y := (M 0 3)) hx hb dX2_draw_30 (of_decide_eq_true q1) ?_
    obtain ⟨q2, h⟩ := chk_ok h
    refine r_iald (i := (p1 - p1 / (M 0 3) * (M 0 3))) (h := M 3) hx hb hK hP 3 (by decide) (eS_a (by decide)) q2 dX2_draw_31 ?_
    refine lv_bipush (v := 99) hx hb dX2_draw_32 (by decide) ?_
    refine lv_icmp_ne (x := (M 3 (Int32.toNatClampNeg (p1 - p1 / (M 0 3) * (M 0 3))))) (y := 99) (tgt := 50) hx hb dX2_draw_34 (by decide) (fun q3 => ?_) (fun q3 => ?_)
    · replace h := if_f q3 h
      rw [hQz]
      exact r_vret hx hb hr hlk hS (Option.some.inj h ▸ hP) dX2_draw_50
    · replace h := if_t q3 h
      refine lv_aload_n hx hb dX2_draw_37 rfl (lv_at hl 0 rfl) ?_
      refine lv_iload_n hx hb dX2_draw_38 rfl (lv_at hl 1 rfl) ?_
      refine lv_aload_n hx hb dX2_draw_39 rfl (lv_at hl 0 rfl) ?_
      refine r_get (v := .int (M 0 3)) hx hb hts iX2 hown hK hP 0 (by decide) eS_0 rfl 3 (by decide) w21 rfl dX2_draw_40 ?_
      obtain ⟨q4, h⟩ := chk_ok h
      refine lv_irem (x := p1) (y := (M 0 3)) hx hb dX2_draw_43 (of_decide_eq_true q4) ?_
      refine lv_iload_n hx hb dX2_draw_44 rfl (lv_at hl 1 rfl) ?_
      refine lv_iconst (v := 2) hx hb dX2_draw_45 (by decide) ?_
      refine lv_irem (x := p1) (y := 2) hx hb dX2_draw_46 (by decide) ?_
      obtain ⟨M7, e6, h⟩ := bdV_ok h
      refine r_callVv (As := [.int (p1 - p1 / (M 0 3) * (M 0 3)), .int (p1 - p1 / 2 * 2)]) (rest := []) (ws' := (wl 5 a (eS g a M7))) (ok_X2_sendBack l g a hI (p1 - p1 / (M 0 3) * (M 0 3)) (p1 - p1 / 2 * 2) M M7 e6) ⟨hx, hb, hml, hown, hts⟩ (cwV 2 hts gX2_draw_X2_sendBack rfl rfl rfl (by decide +kernel) ⟨Nat.le_of_ble_eq_true rfl, Nat.le_of_ble_eq_true rfl⟩) hK (r_recv hK hP 0 (by decide) eS_0 (show vwCl[2]? = some (RX2, TX2, 8) from rfl)) hS hP (fun _ hq => aA_mono hS.1 hq) (fun _ h _ => h) rfl hl.1 rfl (Nat.le_of_ble_eq_true rfl) dX2_draw_47 ⟨Nat.zero_le _, Nat.zero_le _⟩ (fun H locs hP hS => ?_)
      rw [hQz]
      exact r_vret hx hb hr hlk hS (Option.some.inj h ▸ hP) dX2_draw_50
  unfold fX2_draw at h
  refine lv_aload_n hx hb dX2_draw_0 rfl (lv_at hl 0 rfl) ?_
  refine r_get (v := .int (M 0 3)) hx hb hts iX2 hown hK hP 0 (by decide) eS_0 rfl 3 (by decide) w21 rfl dX2_draw_1 ?_
  refine lv_if_ne (x := (M 0 3)) (tgt := 8) hx hb dX2_draw_4 (by decide) (fun q1 => ?_) (fun q1 => ?_)
  · replace h := if_f q1 h
    refine lv_iload_n hx hb dX2_draw_8 rfl (lv_at hl 1 rfl) ?_
    refine lv_iconst (v := 4) hx hb dX2_draw_9 (by decide) ?_
    refine lv_irem (x := p1) (y := 4) hx hb dX2_draw_10 (by decide) ?_
    refine lv_if_ne (x := (p1 - p1 / 4 * 4)) (tgt := 21) hx hb dX2_draw_11 (by decide) (fun q2 => ?_) (fun q2 => ?_)
    · replace h := if_f q2 h
      exact B21 M _ _ _ h hP hS (lv_sub hl [0, 1] rfl)
    · replace h := if_t q2 h
      refine lv_aload_n hx hb dX2_draw_14 rfl (lv_at hl 0 rfl) ?_
      refine lv_iload_n hx hb dX2_draw_15 rfl (lv_at hl 1 rfl) ?_
      refine lv_iconst (v := 3) hx hb dX2_draw_16 (by decide) ?_
      refine lv_irem (x := p1) (y := 3) hx hb dX2_draw_17 (by decide) ?_
      refine r_put (v := .int (p1 - p1 / 3 * 3)) (ty := .int) (f' := eS g a (mp M 0 1 (p1 - p1 / 3 * 3))) hx hb hts iX2 tyX2 tyX2_ok nmX2 hown hK hI (fun _ h => aA_in h) hP hS 0 (by decide) eS_0 rfl 1 (by decide) w15 rfl (by decide +kernel) rfl rfl (Nat.le_of_ble_eq_true rfl) eS_p1 dX2_draw_18 (fun H locs hP hS => ?_)
      exact B21 (mp M 0 1 (p1 - p1 / 3 * 3)) _ _ _ h hP hS (lv_sub hl [0, 1] rfl)
  · replace h := if_t q1 h
    rw [hQz]
    exact r_vret hx hb hr hlk hS (Option.some.inj h ▸ hP) dX2_draw_7
def rmX2_goes : Room := { frames := 2, cells := 0, slots := 0, locals := 81 }
set_option maxHeartbeats 4000000 in
set_option maxRecDepth 100000 in
theorem ok_X2_goes (l : Launch) (g : gT) (a : Nat → Nat) (hI : ij 5 a) (p1 : Int32) (M : Mem) (r : Int32) (h : fX2_goes p1 M = some r) : MI l yX2_goes wsX2_goes rmX2_goes g 5 a [.ref (a 0), .int p1] (wl 5 a (eS g a M)) (wl 5 a (eS g a M)) r := by
  refine MI_of (cc := cX2_goes) (maxL := 3) (rt := .boolean) (by decide) rfl (Nat.le_of_ble_eq_true rfl) ?_
  intro p e s m args below meth c ls hx hb hml hr hlk hts hown hK hP hl
  have hown : s.vm.findClass RX2 = some m.cls := hown
  have hl : lv_has ls 3 [(0, .ref (a 0)), (1, .int p1)] := hl
  have hS : va_S (aA 5 a s.heap.size) s.heap s.heap [] := va_S.rf
  have iX2 : ∀ w ∈ wsX20, w ∈ wsX2_goes := fun w h => List.mem_cons_of_mem _ (List.mem_append_right _ h)
  have w24 := hts (.fieldLink RX2 24 "StepRiders$Stair" "kind" "[I") (by decide +kernel)
  have w18 := hts (.fieldLink RX2 18 "StepRiders$Stair" "tick" "I") (by decide +kernel)
  obtain ⟨Qz, hQz⟩ : ∃ Qz : State → Prop, Qz = MQ below (qI g (wl 5 a (eS g a M)) r (aA 5 a s.heap.size)) args s 0 0 (aA 5 a s.heap.size) := ⟨_, rfl⟩
  rw [← hQz]
  unfold fX2_goes at h
  refine lv_aload_n hx hb dX2_goes_0 rfl (lv_at hl 0 rfl) ?_
  refine lv_iload_n hx hb dX2_goes_1 rfl (lv_at hl 1 rfl) ?_
  obtain ⟨r1, e2, h⟩ := bdP_ok h
  refine r_callVi (As := [.int p1]) (rest := []) (ws' := (wl 5 a (eS g a M))) (ok_X2_isOn l g a hI p1 M r1 e2) ⟨hx, hb, hml, hown, hts⟩ (cwV 1 hts gX2_goes_X2_isOn rfl rfl rfl (by decide +kernel) ⟨Nat.le_of_ble_eq_true rfl, Nat.le_of_ble_eq_true rfl⟩) hK (r_recv hK hP 0 (by decide) eS_0 (show vwCl[2]? = some (RX2, TX2, 8) from rfl)) hS hP (fun _ hq => aA_mono hS.1 hq) (fun _ h _ => h) rfl hl.1 rfl (Nat.le_of_ble_eq_true rfl) dX2_goes_2 ⟨Nat.zero_le _, Nat.zero_le _⟩ (fun H locs hP hS => ?_)
  refine lv_if_ne (x := r1) (tgt := 10) hx hb dX2_goes_5 (by decide) (fun q3 => ?_) (fun q3 => ?_)
  · replace h := if_f q3 h
    refine lv_aload_n hx hb dX2_goes_10 rfl (lv_at hl 0 rfl) ?_
    refine r_get (v := .ref (a 1)) hx hb hts iX2 hown hK hP 0 (by decide) eS_0 rfl 4 (by decide) w24 rfl dX2_goes_11 ?_
    refine lv_iload_n hx hb dX2_goes_14 rfl (lv_at hl 1 rfl) ?_
    obtain ⟨q4, h⟩ := chk_ok h
    refine r_iald (i := p1) (h := M 1) hx hb hK hP 1 (by decide) (eS_a (by decide)) q4 dX2_goes_15 ?_
    refine lv_istore_n (lv' := [(2, .int (M 1 (Int32.toNatClampNeg p1))), (0, .ref (a 0)), (1, .int p1)]) hx hb dX2_goes_16 rfl hl (by decide) rfl (fun ls hl => ?_)
    refine lv_iload_n hx hb dX2_goes_17 rfl (lv_at hl 0 rfl) ?_
    refine lv_iconst (v := 2) hx hb dX2_goes_18 (by decide) ?_
    refine lv_icmp_eq (x := (M 1 (Int32.toNatClampNeg p1))) (y := 2) (tgt := 42) hx hb dX2_goes_19 (by decide) (fun q5 => ?_) (fun q5 => ?_)
    · replace h := if_t q5 h
      refine lv_iconst (v := 1) hx hb dX2_goes_42 (by decide) ?_
      refine lv_goto (tgt := 47) hx hb dX2_goes_43 (by decide) ?_
      rw [hQz]
      exact r_zret (v := 1) hx hb hr hlk hS hP (Option.some.inj h) (by decide) dX2_goes_47
    · replace h := if_f q5 h
      refine lv_iload_n hx hb dX2_goes_22 rfl (lv_at hl 0 rfl) ?_
      refine lv_iconst (v := 3) hx hb dX2_goes_23 (by decide) ?_
      refine lv_icmp_eq (x := (M 1 (Int32.toNatClampNeg p1))) (y := 3) (tgt := 42) hx hb dX2_goes_24 (by decide) (fun q6 => ?_) (fun q6 => ?_)
      · replace h := if_t q6 h
        refine lv_iconst (v := 1) hx hb dX2_goes_42 (by decide) ?_
        refine lv_goto (tgt := 47) hx hb dX2_goes_43 (by decide) ?_
        rw [hQz]
        exact r_zret (v := 1) hx hb hr hlk hS hP (Option.some.inj h) (by decide) dX2_goes_47
      · replace h := if_f q6 h
        refine lv_iload_n hx hb dX2_goes_27 rfl (lv_at hl 0 rfl) ?_
        refine lv_iconst (v := 5) hx hb dX2_goes_28 (by decide) ?_
        refine lv_icmp_ne (x := (M 1 (Int32.toNatClampNeg p1))) (y := 5) (tgt := 46) hx hb dX2_goes_29 (by decide) (fun q7 => ?_) (fun q7 => ?_)
        · replace h := if_f q7 h
          refine lv_iconst (v := 0) hx hb dX2_goes_46 (by decide) ?_
          rw [hQz]
          exact r_zret (v := 0) hx hb hr hlk hS hP (Option.some.inj h) (by decide) dX2_goes_47
        · replace h := if_t q7 h
          refine lv_aload_n hx hb dX2_goes_32 rfl (lv_at hl 1 rfl) ?_
          refine r_get (v := .int (M 0 2)) hx hb hts iX2 hown hK hP 0 (by decide) eS_0 rfl 2 (by decide) w18 rfl dX2_goes_33 ?_
          refine lv_iconst (v := 2) hx hb dX2_goes_36 (by decide) ?_
          refine lv_irem (x := (M 0 2)) (y := 2) hx hb dX2_goes_37 (by decide) ?_
          refine lv_iconst (v := 1) hx hb dX2_goes_38 (by decide) ?_
          refine lv_icmp_ne (x := ((M 0 2) - (M 0 2) / 2 * 2)) (y := 1) (tgt := 46) hx hb dX2_goes_39 (by decide) (fun q8 => ?_) (fun q8 => ?_)
          · replace h := if_f q8 h
            refine lv_iconst (v := 0) hx hb dX2_goes_46 (by decide) ?_
            rw [hQz]
            exact r_zret (v := 0) hx hb hr hlk hS hP (Option.some.inj h) (by decide) dX2_goes_47
          · replace h := if_t q8 h
            refine lv_iconst (v := 1) hx hb dX2_goes_42 (by decide) ?_
            refine lv_goto (tgt := 47) hx hb dX2_goes_43 (by decide) ?_
            rw [hQz]
            exact r_zret (v := 1) hx hb hr hlk hS hP (Option.some.inj h) (by decide) dX2_goes_47
  · replace h := if_t q3 h
    refine lv_iconst (v := 0) hx hb dX2_goes_8 (by decide) ?_
    rw [hQz]
    exact r_zret (v := 0) hx hb hr hlk hS hP (Option.some.inj h) (by decide) dX2_goes_9
def rmX2_giveTurns : Room := { frames := 3, cells := 0, slots := 0, locals := 103 }
set_option maxHeartbeats 4000000 in
set_option maxRecDepth 100000 in
theorem ok_X2_giveTurns (l : Launch) (g : gT) (a : Nat → Nat) (hI : ij 5 a) (M : Mem) (M' : Mem) (h : fX2_giveTurns M = some M') : MV l yX2_giveTurns wsX2_giveTurns rmX2_giveTurns g 5 a [.ref (a 0)] (wl 5 a (eS g a M)) (wl 5 a (eS g a M')) := by
  refine MV_of (cc := cX2_giveTurns) (maxL := 2) (by decide) rfl (Nat.le_of_ble_eq_true rfl) ?_
  intro p e s m args below meth c ls hx hb hml hr hlk hts hown hK hP hl
  have hown : s.vm.findClass RX2 = some m.cls := hown
  have hl : lv_has ls 2 [(0, .ref (a 0))] := hl
  have hS : va_S (aA 5 a s.heap.size) s.heap s.heap [] := va_S.rf
  have iX2 : ∀ w ∈ wsX20, w ∈ wsX2_giveTurns := fun w h => List.mem_cons_of_mem _ (List.mem_append_right _ h)
  have w21 := hts (.fieldLink RX2 21 "StepRiders$Stair" "riders" "I") (by decide +kernel)
  have w34 := hts (.fieldLink RX2 34 "StepRiders$Stair" "turn" "[I") (by decide +kernel)
  have w31 := hts (.fieldLink RX2 31 "StepRiders$Stair" "at" "[I") (by decide +kernel)
  have w28 := hts (.fieldLink RX2 28 "StepRiders$Stair" "lane" "[I") (by decide +kernel)
  obtain ⟨Qz, hQz⟩ : ∃ Qz : State → Prop, Qz = MQ below (qV g (wl 5 a (eS g a M')) (aA 5 a s.heap.size)) args s 0 0 (aA 5 a s.heap.size) := ⟨_, rfl⟩
  rw [← hQz]
  have B53 : ∀ (k2 : Int32 → Mem → Option (Mem)) (C2 : ∀ (x1 : Int32) (M : Mem) (H : Heap) (locs : List Loc) (ls : Array Slot), k2 x1 M = some M' → va_P g.1 vwCl (wl 5 a (eS g a M)) H → va_S (aA 5 a s.heap.size) s.heap H locs → lv_has ls 2 [(0, .ref (a 0)), (1, .int x1)] → W p l e rmX2_giveTurns s m args below meth c H locs 0 0 Qz (F0 m 2 ls [])), ∀ (x1 : Int32) (s0 : Int32) (s1 : Int32) (M : Mem) (H : Heap) (locs : List Loc) (ls : Array Slot), fX2_giveTurns_b53 k2 x1 s0 s1 M = some M' → va_P g.1 vwCl (wl 5 a (eS g a M)) H → va_S (aA 5 a s.heap.size) s.heap H locs → lv_has ls 2 [(0, .ref (a 0)), (1, .int x1)] → W p l e rmX2_giveTurns s m args below meth c H locs 0 0 Qz (F0 m 53 ls [.int s0, .int s1, .ref (a 4)]) := by
    intro k2 C2 x1 s0 s1 M H locs ls h hP hS hl
    unfold fX2_giveTurns_b53 at h
    obtain ⟨q1, h⟩ := chk_ok h
    refine r_iast (i := s1) (x := s0) (h := M 4) (f' := eS g a (mp M 4 (Int32.toNatClampNeg s1) s0)) hx hb hK hI (fun _ h => aA_in h) hP hS 4 (by decide) (eS_a (by decide)) q1 (eS_ua (by decide)) dX2_giveTurns_53 (fun H locs hP hS => ?_)
    refine lv_iinc (v := (x1 + 1)) (lv' := [(1, .int (x1 + 1)), (0, .ref (a 0))]) hx hb dX2_giveTurns_54 hl (k := 1) rfl rfl (by decide) rfl (fun ls hl => ?_)
    refine lv_goto (tgt := 2) hx hb dX2_giveTurns_57 (by decide) ?_
    exact C2 (x1 + 1) (mp M 4 (Int32.toNatClampNeg s1) s0) _ _ _ h hP hS (lv_sub hl [1, 0] rfl)
  have B2 : ∀ (k2 : Int32 → Mem → Option (Mem)) (C2 : ∀ (x1 : Int32) (M : Mem) (H : Heap) (locs : List Loc) (ls : Array Slot), k2 x1 M = some M' → va_P g.1 vwCl (wl 5 a (eS g a M)) H → va_S (aA 5 a s.heap.size) s.heap H locs → lv_has ls 2 [(0, .ref (a 0)), (1, .int x1)] → W p l e rmX2_giveTurns s m args below meth c H locs 0 0 Qz (F0 m 2 ls [])), ∀ (x1 : Int32) (M : Mem) (H : Heap) (locs : List Loc) (ls : Array Slot), fX2_giveTurns_b2 k2 x1 M = some M' → va_P g.1 vwCl (wl 5 a (eS g a M)) H → va_S (aA 5 a s.heap.size) s.heap H locs → lv_has ls 2 [(0, .ref (a 0)), (1, .int x1)] → W p l e rmX2_giveTurns s m args below meth c H locs 0 0 Qz (F0 m 2 ls []) := by
    intro k2 C2 x1 M H locs ls h hP hS hl
    unfold fX2_giveTurns_b2 at h
    refine lv_iload_n hx hb dX2_giveTurns_2 rfl (lv_at hl 1 rfl) ?_
    refine lv_aload_n hx hb dX2_giveTurns_3 rfl (lv_at hl 0 rfl) ?_
    refine r_get (v := .int (M 0 3)) hx hb hts iX2 hown hK hP 0 (by decide) eS_0 rfl 3 (by decide) w21 rfl dX2_giveTurns_4 ?_
    refine lv_icmp_ge (x := x1) (y := (M 0 3)) (tgt := 60) hx hb dX2_giveTurns_7 (by decide) (fun q1 => ?_) (fun q1 => ?_)
    · replace h := if_t q1 h
      rw [hQz]
      exact r_vret hx hb hr hlk hS (Option.some.inj h ▸ hP) dX2_giveTurns_60
    · replace h := if_f q1 h
      refine lv_aload_n hx hb dX2_giveTurns_10 rfl (lv_at hl 0 rfl) ?_
      refine r_get (v := .ref (a 4)) hx hb hts iX2 hown hK hP 0 (by decide) eS_0 rfl 7 (by decide) w34 rfl dX2_giveTurns_11 ?_
      refine lv_iload_n hx hb dX2_giveTurns_14 rfl (lv_at hl 1 rfl) ?_
      refine lv_aload_n hx hb dX2_giveTurns_15 rfl (lv_at hl 0 rfl) ?_
      refine lv_iload_n hx hb dX2_giveTurns_16 rfl (lv_at hl 1 rfl) ?_
      obtain ⟨r2, e3, h⟩ := bdP_ok h
      refine r_callVi (As := [.int x1]) (rest := [.int x1, .ref (a 4)]) (ws' := (wl 5 a (eS g a M))) (ok_X2_goes l g a hI x1 M r2 e3) ⟨hx, hb, hml, hown, hts⟩ (cwV 1 hts gX2_giveTurns_X2_goes rfl rfl rfl (by decide +kernel) ⟨Nat.le_of_ble_eq_true rfl, Nat.le_of_ble_eq_true rfl⟩) hK (r_recv hK hP 0 (by decide) eS_0 (show vwCl[2]? = some (RX2, TX2, 8) from rfl)) hS hP (fun _ hq => aA_mono hS.1 hq) (fun _ h _ => h) rfl hl.1 rfl (Nat.le_of_ble_eq_true rfl) dX2_giveTurns_17 ⟨Nat.zero_le _, Nat.zero_le _⟩ (fun H locs hP hS => ?_)
      refine lv_if_eq (x := r2) (tgt := 52) hx hb dX2_giveTurns_20 (by decide) (fun q4 => ?_) (fun q4 => ?_)
      · replace h := if_t q4 h
        refine lv_iconst (v := (-1)) hx hb dX2_giveTurns_52 (by decide) ?_
        exact B53 k2 C2 x1 (-1) x1 M _ _ _ h hP hS (lv_sub hl [0, 1] rfl)
      · replace h := if_f q4 h
        refine lv_aload_n hx hb dX2_giveTurns_23 rfl (lv_at hl 0 rfl) ?_
        refine r_get (v := .ref (a 3)) hx hb hts iX2 hown hK hP 0 (by decide) eS_0 rfl 6 (by decide) w31 rfl dX2_giveTurns_24 ?_
        refine lv_iload_n hx hb dX2_giveTurns_27 rfl (lv_at hl 1 rfl) ?_
        obtain ⟨q5, h⟩ := chk_ok h
        refine r_iald (i := x1) (h := M 3) hx hb hK hP 3 (by decide) (eS_a (by decide)) q5 dX2_giveTurns_28 ?_
        refine lv_bipush (v := 16) hx hb dX2_giveTurns_29 (by decide) ?_
        refine lv_imul (x := (M 3 (Int32.toNatClampNeg x1))) (y := 16) hx hb dX2_giveTurns_31 ?_
        refine lv_iconst (v := 1) hx hb dX2_giveTurns_32 (by decide) ?_
        refine lv_aload_n hx hb dX2_giveTurns_33 rfl (lv_at hl 0 rfl) ?_
        refine r_get (v := .ref (a 2)) hx hb hts iX2 hown hK hP 0 (by decide) eS_0 rfl 5 (by decide) w28 rfl dX2_giveTurns_34 ?_
        refine lv_iload_n hx hb dX2_giveTurns_37 rfl (lv_at hl 1 rfl) ?_
        obtain ⟨q6, h⟩ := chk_ok h
        refine r_iald (i := x1) (h := M 2) hx hb hK hP 2 (by decide) (eS_a (by decide)) q6 dX2_giveTurns_38 ?_
        refine lv_isub (x := 1) (y := (M 2 (Int32.toNatClampNeg x1))) hx hb dX2_giveTurns_39 ?_
        refine lv_bipush (v := 8) hx hb dX2_giveTurns_40 (by decide) ?_
        refine lv_imul (x := (1 - (M 2 (Int32.toNatClampNeg x1)))) (y := 8) hx hb dX2_giveTurns_42 ?_
        refine lv_iadd (x := ((M 3 (Int32.toNatClampNeg x1)) * 16)) (y := ((1 - (M 2 (Int32.toNatClampNeg x1))) * 8)) hx hb dX2_giveTurns_43 ?_
        refine lv_bipush (v := 7) hx hb dX2_giveTurns_44 (by decide) ?_
        refine lv_iadd (x := (((M 3 (Int32.toNatClampNeg x1)) * 16) + ((1 - (M 2 (Int32.toNatClampNeg x1))) * 8))) (y := 7) hx hb dX2_giveTurns_46 ?_
        refine lv_iload_n hx hb dX2_giveTurns_47 rfl (lv_at hl 1 rfl) ?_
        refine lv_isub (x := ((((M 3 (Int32.toNatClampNeg x1)) * 16) + ((1 - (M 2 (Int32.toNatClampNeg x1))) * 8)) + 7)) (y := x1) hx hb dX2_giveTurns_48 ?_
        refine lv_goto (tgt := 53) hx hb dX2_giveTurns_49 (by decide) ?_
        exact B53 k2 C2 x1 (((((M 3 (Int32.toNatClampNeg x1)) * 16) + ((1 - (M 2 (Int32.toNatClampNeg x1))) * 8)) + 7) - x1) x1 M _ _ _ h hP hS (lv_sub hl [0, 1] rfl)
  have L2 : ∀ (n : Nat), ∀ (x1 : Int32) (M : Mem) (H : Heap) (locs : List Loc) (ls : Array Slot), fX2_giveTurns_l2 n x1 M = some M' → va_P g.1 vwCl (wl 5 a (eS g a M)) H → va_S (aA 5 a s.heap.size) s.heap H locs → lv_has ls 2 [(0, .ref (a 0)), (1, .int x1)] → W p l e rmX2_giveTurns s m args below meth c H locs 0 0 Qz (F0 m 2 ls []) := by
    intro n
    induction n with
    | zero => intro x1 M H locs ls h; exact absurd (show (none : Option (Mem)) = some _ from h) (fun z => by cases z)
    | succ n ih => exact fun x1 M H locs ls h hP hS hl => B2 (fX2_giveTurns_l2 n) ih x1 M H locs ls h hP hS hl
  unfold fX2_giveTurns at h
  refine lv_iconst (v := 0) hx hb dX2_giveTurns_0 (by decide) ?_
  refine lv_istore_n (lv' := [(1, .int 0), (0, .ref (a 0))]) hx hb dX2_giveTurns_1 rfl hl (by decide) rfl (fun ls hl => ?_)
  exact L2 FU 0 M _ _ _ h hP hS (lv_sub hl [1, 0] rfl)
