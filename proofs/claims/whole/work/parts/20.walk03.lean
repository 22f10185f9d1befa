def rmX3_widthOfToken : Room := { frames := 2, cells := 0, slots := 0, locals := 81 }
set_option maxHeartbeats 4000000 in
set_option maxRecDepth 100000 in
theorem ok_X3_widthOfToken (l : Launch) (g : gT) (a : Nat → Nat) (hI : ij 203 a) (p1 : Int32) (M : Mem) (r : Int32) (h : fX3_widthOfToken p1 M = some r) : MI l yX3_widthOfToken wsX3_widthOfToken rmX3_widthOfToken g 203 a [.ref (a 2), .int p1] (wl 203 a (eX g a M)) (wl 203 a (eX g a M)) r := by
  refine MI_of (cc := cX3_widthOfToken) (maxL := 4) (rt := .int) (by decide) rfl (Nat.le_of_ble_eq_true rfl) ?_
  intro p e s m args below meth c ls hx hb hml hr hlk hts hown hK hP hl
  have hown : s.vm.findClass RX3 = some m.cls := hown
  have hl : lv_has ls 4 [(0, .ref (a 2)), (1, .int p1)] := hl
  have hS : va_S (aA 203 a s.heap.size) s.heap s.heap [] := va_S.rf
  have iX3 : ∀ w ∈ wsX30, w ∈ wsX3_widthOfToken := fun w h => List.mem_cons_of_mem _ (List.mem_append_right _ h)
  have w9 := hts (.fieldLink RX3 9 "StepRiders$Tape" "bytes" "[I") (by decide +kernel)
  obtain ⟨Qz, hQz⟩ : ∃ Qz : State → Prop, Qz = MQ below (qI g (wl 203 a (eX g a M)) r (aA 203 a s.heap.size)) args s 0 0 (aA 203 a s.heap.size) := ⟨_, rfl⟩
  rw [← hQz]
  have B56 : ∀ (x3 : Int32) (H : Heap) (locs : List Loc) (ls : Array Slot), fX3_widthOfToken_b56 p1 M x3 = some r → va_P g.1 vwCl (wl 203 a (eX g a M)) H → va_S (aA 203 a s.heap.size) s.heap H locs → lv_has ls 4 [(0, .ref (a 2)), (1, .int p1), (3, .int x3)] → W p l e rmX3_widthOfToken s m args below meth c H locs 0 0 Qz (F0 m 56 ls []) := by
    intro x3 H locs ls h hP hS hl
    unfold fX3_widthOfToken_b56 at h
    refine lv_iload_n hx hb dX3_widthOfToken_56 rfl (lv_at hl 2 rfl) ?_
    refine lv_iconst (v := 3) hx hb dX3_widthOfToken_57 (by decide) ?_
    refine lv_icmp_ge (x := x3) (y := 3) (tgt := 65) hx hb dX3_widthOfToken_58 (by decide) (fun q1 => ?_) (fun q1 => ?_)
    · replace h := if_t q1 h
      refine lv_iconst (v := 0) hx hb dX3_widthOfToken_65 (by decide) ?_
      rw [hQz]
      exact r_iret (v := 0) hx hb hr hlk hS hP (Option.some.inj h) dX3_widthOfToken_66
    · replace h := if_f q1 h
      refine lv_iload_n hx hb dX3_widthOfToken_61 rfl (lv_at hl 2 rfl) ?_
      refine lv_goto (tgt := 66) hx hb dX3_widthOfToken_62 (by decide) ?_
      rw [hQz]
      exact r_iret (v := x3) hx hb hr hlk hS hP (Option.some.inj h) dX3_widthOfToken_66
  have B35 : ∀ (k35 : Int32 → Option (Int32)) (C35 : ∀ (x3 : Int32) (H : Heap) (locs : List Loc) (ls : Array Slot), k35 x3 = some r → va_P g.1 vwCl (wl 203 a (eX g a M)) H → va_S (aA 203 a s.heap.size) s.heap H locs → lv_has ls 4 [(0, .ref (a 2)), (1, .int p1), (3, .int x3)] → W p l e rmX3_widthOfToken s m args below meth c H locs 0 0 Qz (F0 m 35 ls [])), ∀ (x3 : Int32) (H : Heap) (locs : List Loc) (ls : Array Slot), fX3_widthOfToken_b35 p1 M k35 x3 = some r → va_P g.1 vwCl (wl 203 a (eX g a M)) H → va_S (aA 203 a s.heap.size) s.heap H locs → lv_has ls 4 [(0, .ref (a 2)), (1, .int p1), (3, .int x3)] → W p l e rmX3_widthOfToken s m args below meth c H locs 0 0 Qz (F0 m 35 ls []) := by
    intro k35 C35 x3 H locs ls h hP hS hl
    unfold fX3_widthOfToken_b35 at h
    refine lv_iload_n hx hb dX3_widthOfToken_35 rfl (lv_at hl 2 rfl) ?_
    refine lv_iconst (v := 3) hx hb dX3_widthOfToken_36 (by decide) ?_
    refine lv_icmp_ge (x := x3) (y := 3) (tgt := 56) hx hb dX3_widthOfToken_37 (by decide) (fun q1 => ?_) (fun q1 => ?_)
    · replace h := if_t q1 h
      exact B56 x3 _ _ _ h hP hS (lv_sub hl [0, 1, 2] rfl)
    · replace h := if_f q1 h
      refine lv_aload_n hx hb dX3_widthOfToken_40 rfl (lv_at hl 0 rfl) ?_
      refine lv_iload_n hx hb dX3_widthOfToken_41 rfl (lv_at hl 1 rfl) ?_
      refine lv_iload_n hx hb dX3_widthOfToken_42 rfl (lv_at hl 2 rfl) ?_
      refine lv_iadd (x := p1) (y := x3) hx hb dX3_widthOfToken_43 ?_
      obtain ⟨r2, e3, h⟩ := bdP_ok h
      refine r_callVi (As := [.int (p1 + x3)]) (rest := []) (ws' := (wl 203 a (eX g a M))) (ok_X3_isFigure l g a hI (p1 + x3) M r2 e3) ⟨hx, hb, hml, hown, hts⟩ (cwV 1 hts gX3_widthOfToken_X3_isFigure rfl rfl rfl (by decide +kernel) ⟨Nat.le_of_ble_eq_true rfl, Nat.le_of_ble_eq_true rfl⟩) hK (r_recv hK hP 2 (by decide) eX_2 (show vwCl[3]? = some (RX3, TX3, 3) from rfl)) hS hP (fun _ hq => aA_mono hS.1 hq) (fun _ h _ => h) rfl hl.1 rfl (Nat.le_of_ble_eq_true rfl) dX3_widthOfToken_44 ⟨Nat.zero_le _, Nat.zero_le _⟩ (fun H locs hP hS => ?_)
      refine lv_if_eq (x := r2) (tgt := 56) hx hb dX3_widthOfToken_47 (by decide) (fun q4 => ?_) (fun q4 => ?_)
      · replace h := if_t q4 h
        exact B56 x3 _ _ _ h hP hS (lv_sub hl [0, 1, 2] rfl)
      · replace h := if_f q4 h
        refine lv_iinc (v := (x3 + 1)) (lv' := [(3, .int (x3 + 1)), (0, .ref (a 2)), (1, .int p1)]) hx hb dX3_widthOfToken_50 hl (k := 2) rfl rfl (by decide) rfl (fun ls hl => ?_)
        refine lv_goto (tgt := 35) hx hb dX3_widthOfToken_53 (by decide) ?_
        exact C35 (x3 + 1) _ _ _ h hP hS (lv_sub hl [1, 2, 0] rfl)
  have L35 : ∀ (n : Nat), ∀ (x3 : Int32) (H : Heap) (locs : List Loc) (ls : Array Slot), fX3_widthOfToken_l35 p1 M n x3 = some r → va_P g.1 vwCl (wl 203 a (eX g a M)) H → va_S (aA 203 a s.heap.size) s.heap H locs → lv_has ls 4 [(0, .ref (a 2)), (1, .int p1), (3, .int x3)] → W p l e rmX3_widthOfToken s m args below meth c H locs 0 0 Qz (F0 m 35 ls []) := by
    intro n
    induction n with
    | zero => intro x3 H locs ls h; exact absurd (show (none : Option (Int32)) = some _ from h) (fun z => by cases z)
    | succ n ih => exact fun x3 H locs ls h hP hS hl => B35 (fX3_widthOfToken_l35 p1 M n) ih x3 H locs ls h hP hS hl
  have B19 : ∀ (x2 : Int32) (H : Heap) (locs : List Loc) (ls : Array Slot), fX3_widthOfToken_b19 p1 M x2 = some r → va_P g.1 vwCl (wl 203 a (eX g a M)) H → va_S (aA 203 a s.heap.size) s.heap H locs → lv_has ls 4 [(0, .ref (a 2)), (1, .int p1), (2, .int x2)] → W p l e rmX3_widthOfToken s m args below meth c H locs 0 0 Qz (F0 m 19 ls []) := by
    intro x2 H locs ls h hP hS hl
    unfold fX3_widthOfToken_b19 at h
    refine lv_iload_n hx hb dX3_widthOfToken_19 rfl (lv_at hl 2 rfl) ?_
    refine lv_bipush (v := 44) hx hb dX3_widthOfToken_20 (by decide) ?_
    refine lv_icmp_eq (x := x2) (y := 44) (tgt := 31) hx hb dX3_widthOfToken_22 (by decide) (fun q1 => ?_) (fun q1 => ?_)
    · replace h := if_t q1 h
      refine lv_iconst (v := 1) hx hb dX3_widthOfToken_31 (by decide) ?_
      rw [hQz]
      exact r_iret (v := 1) hx hb hr hlk hS hP (Option.some.inj h) dX3_widthOfToken_32
    · replace h := if_f q1 h
      refine lv_iload_n hx hb dX3_widthOfToken_25 rfl (lv_at hl 2 rfl) ?_
      refine lv_bipush (v := 59) hx hb dX3_widthOfToken_26 (by decide) ?_
      refine lv_icmp_ne (x := x2) (y := 59) (tgt := 33) hx hb dX3_widthOfToken_28 (by decide) (fun q2 => ?_) (fun q2 => ?_)
      · replace h := if_f q2 h
        refine lv_iconst (v := 0) hx hb dX3_widthOfToken_33 (by decide) ?_
        refine lv_istore_n (lv' := [(3, .int 0), (0, .ref (a 2)), (1, .int p1), (2, .int x2)]) hx hb dX3_widthOfToken_34 rfl hl (by decide) rfl (fun ls hl => ?_)
        exact L35 FU 0 _ _ _ h hP hS (lv_sub hl [1, 2, 0] rfl)
      · replace h := if_t q2 h
        refine lv_iconst (v := 1) hx hb dX3_widthOfToken_31 (by decide) ?_
        rw [hQz]
        exact r_iret (v := 1) hx hb hr hlk hS hP (Option.some.inj h) dX3_widthOfToken_32
  unfold fX3_widthOfToken at h
  refine lv_aload_n hx hb dX3_widthOfToken_0 rfl (lv_at hl 0 rfl) ?_
  refine r_get (v := .ref (a 3)) hx hb hts iX3 hown hK hP 2 (by decide) eX_2 rfl 0 (by decide) w9 rfl dX3_widthOfToken_1 ?_
  refine lv_iload_n hx hb dX3_widthOfToken_4 rfl (lv_at hl 1 rfl) ?_
  obtain ⟨q1, h⟩ := chk_ok h
  refine r_iald (i := p1) (h := M 3) hx hb hK hP 3 (by decide) rfl q1 dX3_widthOfToken_5 ?_
  refine lv_istore_n (lv' := [(2, .int (M 3 (Int32.toNatClampNeg p1))), (0, .ref (a 2)), (1, .int p1)]) hx hb dX3_widthOfToken_6 rfl hl (by decide) rfl (fun ls hl => ?_)
  refine lv_iload_n hx hb dX3_widthOfToken_7 rfl (lv_at hl 0 rfl) ?_
  refine lv_bipush (v := 97) hx hb dX3_widthOfToken_8 (by decide) ?_
  refine lv_icmp_lt (x := (M 3 (Int32.toNatClampNeg p1))) (y := 97) (tgt := 19) hx hb dX3_widthOfToken_10 (by decide) (fun q2 => ?_) (fun q2 => ?_)
  · replace h := if_t q2 h
    exact B19 (M 3 (Int32.toNatClampNeg p1)) _ _ _ h hP hS (lv_sub hl [1, 2, 0] rfl)
  · replace h := if_f q2 h
    refine lv_iload_n hx hb dX3_widthOfToken_13 rfl (lv_at hl 0 rfl) ?_
    refine lv_bipush (v := 122) hx hb dX3_widthOfToken_14 (by decide) ?_
    refine lv_icmp_le (x := (M 3 (Int32.toNatClampNeg p1))) (y := 122) (tgt := 31) hx hb dX3_widthOfToken_16 (by decide) (fun q3 => ?_) (fun q3 => ?_)
    · replace h := if_t q3 h
      refine lv_iconst (v := 1) hx hb dX3_widthOfToken_31 (by decide) ?_
      rw [hQz]
      exact r_iret (v := 1) hx hb hr hlk hS hP (Option.some.inj h) dX3_widthOfToken_32
    · replace h := if_f q3 h
      exact B19 (M 3 (Int32.toNatClampNeg p1)) _ _ _ h hP hS (lv_sub hl [1, 2, 0] rfl)
def rmX3_acceptSign : Room := { frames := 1, cells := 0, slots := 0, locals := 60 }
set_option maxHeartbeats 4000000 in
set_option maxRecDepth 100000 in
theorem ok_X3_acceptSign (l : Launch) (g : gT) (a : Nat → Nat) (hI : ij 203 a) (p1 : Int32) (p2 : Int32) (M : Mem) (r : Int32) (h : fX3_acceptSign p1 p2 M = some r) : MI l yX3_acceptSign wsX3_acceptSign rmX3_acceptSign g 203 a [.ref (a 2), .int p1, .int p2] (wl 203 a (eX g a M)) (wl 203 a (eX g a M)) r := by
  refine MI_of (cc := cX3_acceptSign) (maxL := 3) (rt := .int) (by decide) rfl (Nat.le_of_ble_eq_true rfl) ?_
  intro p e s m args below meth c ls hx hb hml hr hlk hts hown hK hP hl
  have hown : s.vm.findClass RX3 = some m.cls := hown
  have hl : lv_has ls 3 [(0, .ref (a 2)), (1, .int p1), (2, .int p2)] := hl
  have hS : va_S (aA 203 a s.heap.size) s.heap s.heap [] := va_S.rf
  have iX3 : ∀ w ∈ wsX30, w ∈ wsX3_acceptSign := fun w h => List.mem_cons_of_mem _ (List.mem_append_right _ h)
  have w9 := hts (.fieldLink RX3 9 "StepRiders$Tape" "bytes" "[I") (by decide +kernel)
  obtain ⟨Qz, hQz⟩ : ∃ Qz : State → Prop, Qz = MQ below (qI g (wl 203 a (eX g a M)) r (aA 203 a s.heap.size)) args s 0 0 (aA 203 a s.heap.size) := ⟨_, rfl⟩
  rw [← hQz]
  unfold fX3_acceptSign at h
  refine lv_aload_n hx hb dX3_acceptSign_0 rfl (lv_at hl 0 rfl) ?_
  refine r_get (v := .ref (a 3)) hx hb hts iX3 hown hK hP 2 (by decide) eX_2 rfl 0 (by decide) w9 rfl dX3_acceptSign_1 ?_
  refine lv_iload_n hx hb dX3_acceptSign_4 rfl (lv_at hl 2 rfl) ?_
  obtain ⟨q1, h⟩ := chk_ok h
  refine r_iald (i := p2) (h := M 3) hx hb hK hP 3 (by decide) rfl q1 dX3_acceptSign_5 ?_
  refine lv_iload_n hx hb dX3_acceptSign_6 rfl (lv_at hl 1 rfl) ?_
  refine lv_icmp_ne (x := (M 3 (Int32.toNatClampNeg p2))) (y := p1) (tgt := 14) hx hb dX3_acceptSign_7 (by decide) (fun q2 => ?_) (fun q2 => ?_)
  · replace h := if_f q2 h
    refine lv_iconst (v := 1) hx hb dX3_acceptSign_14 (by decide) ?_
    rw [hQz]
    exact r_iret (v := 1) hx hb hr hlk hS hP (Option.some.inj h) dX3_acceptSign_15
  · replace h := if_t q2 h
    refine lv_iconst (v := 0) hx hb dX3_acceptSign_10 (by decide) ?_
    refine lv_goto (tgt := 15) hx hb dX3_acceptSign_11 (by decide) ?_
    rw [hQz]
    exact r_iret (v := 0) hx hb hr hlk hS hP (Option.some.inj h) dX3_acceptSign_15
def rmX3_numberAt : Room := { frames := 2, cells := 0, slots := 0, locals := 81 }
set_option maxHeartbeats 4000000 in
set_option maxRecDepth 100000 in
theorem ok_X3_numberAt (l : Launch) (g : gT) (a : Nat → Nat) (hI : ij 203 a) (p1 : Int32) (p2 : Int32) (M : Mem) (r : Int32) (h : fX3_numberAt p1 p2 M = some r) : MI l yX3_numberAt wsX3_numberAt rmX3_numberAt g 203 a [.ref (a 2), .int p1, .int p2] (wl 203 a (eX g a M)) (wl 203 a (eX g a M)) r := by
  refine MI_of (cc := cX3_numberAt) (maxL := 4) (rt := .int) (by decide) rfl (Nat.le_of_ble_eq_true rfl) ?_
  intro p e s m args below meth c ls hx hb hml hr hlk hts hown hK hP hl
  have hown : s.vm.findClass RX3 = some m.cls := hown
  have hl : lv_has ls 4 [(0, .ref (a 2)), (1, .int p1), (2, .int p2)] := hl
  have hS : va_S (aA 203 a s.heap.size) s.heap s.heap [] := va_S.rf
  have iX3 : ∀ w ∈ wsX30, w ∈ wsX3_numberAt := fun w h => List.mem_cons_of_mem _ (List.mem_append_right _ h)
  have w9 := hts (.fieldLink RX3 9 "StepRiders$Tape" "bytes" "[I") (by decide +kernel)
  have w38 := hts (.constant RX3 38 (-1000000)) (by decide +kernel)
  obtain ⟨Qz, hQz⟩ : ∃ Qz : State → Prop, Qz = MQ below (qI g (wl 203 a (eX g a M)) r (aA 203 a s.heap.size)) args s 0 0 (aA 203 a s.heap.size) := ⟨_, rfl⟩
  rw [← hQz]
  unfold fX3_numberAt at h
  refine lv_aload_n hx hb dX3_numberAt_0 rfl (lv_at hl 0 rfl) ?_
  refine lv_iload_n hx hb dX3_numberAt_1 rfl (lv_at hl 1 rfl) ?_
  obtain ⟨r1, e2, h⟩ := bdP_ok h
  refine r_callVi (As := [.int p1]) (rest := []) (ws' := (wl 203 a (eX g a M))) (ok_X3_isFigure l g a hI p1 M r1 e2) ⟨hx, hb, hml, hown, hts⟩ (cwV 1 hts gX3_numberAt_X3_isFigure rfl rfl rfl (by decide +kernel) ⟨Nat.le_of_ble_eq_true rfl, Nat.le_of_ble_eq_true rfl⟩) hK (r_recv hK hP 2 (by decide) eX_2 (show vwCl[3]? = some (RX3, TX3, 3) from rfl)) hS hP (fun _ hq => aA_mono hS.1 hq) (fun _ h _ => h) rfl hl.1 rfl (Nat.le_of_ble_eq_true rfl) dX3_numberAt_2 ⟨Nat.zero_le _, Nat.zero_le _⟩ (fun H locs hP hS => ?_)
  refine lv_if_ne (x := r1) (tgt := 11) hx hb dX3_numberAt_5 (by decide) (fun q3 => ?_) (fun q3 => ?_)
  · replace h := if_f q3 h
    refine lv_aload_n hx hb dX3_numberAt_11 rfl (lv_at hl 0 rfl) ?_
    refine r_get (v := .ref (a 3)) hx hb hts iX3 hown hK hP 2 (by decide) eX_2 rfl 0 (by decide) w9 rfl dX3_numberAt_12 ?_
    refine lv_iload_n hx hb dX3_numberAt_15 rfl (lv_at hl 1 rfl) ?_
    obtain ⟨q4, h⟩ := chk_ok h
    refine r_iald (i := p1) (h := M 3) hx hb hK hP 3 (by decide) rfl q4 dX3_numberAt_16 ?_
    refine lv_bipush (v := 48) hx hb dX3_numberAt_17 (by decide) ?_
    refine lv_isub (x := (M 3 (Int32.toNatClampNeg p1))) (y := 48) hx hb dX3_numberAt_19 ?_
    refine lv_istore_n (lv' := [(3, .int ((M 3 (Int32.toNatClampNeg p1)) - 48)), (0, .ref (a 2)), (1, .int p1), (2, .int p2)]) hx hb dX3_numberAt_20 rfl hl (by decide) rfl (fun ls hl => ?_)
    refine lv_iload_n hx hb dX3_numberAt_21 rfl (lv_at hl 3 rfl) ?_
    refine lv_iconst (v := 2) hx hb dX3_numberAt_22 (by decide) ?_
    refine lv_icmp_ne (x := p2) (y := 2) (tgt := 55) hx hb dX3_numberAt_23 (by decide) (fun q5 => ?_) (fun q5 => ?_)
    · replace h := if_f q5 h
      refine lv_iload_n hx hb dX3_numberAt_55 rfl (lv_at hl 0 rfl) ?_
      rw [hQz]
      exact r_iret (v := ((M 3 (Int32.toNatClampNeg p1)) - 48)) hx hb hr hlk hS hP (Option.some.inj h) dX3_numberAt_56
    · replace h := if_t q5 h
      refine lv_aload_n hx hb dX3_numberAt_26 rfl (lv_at hl 1 rfl) ?_
      refine lv_iload_n hx hb dX3_numberAt_27 rfl (lv_at hl 2 rfl) ?_
      refine lv_iconst (v := 1) hx hb dX3_numberAt_28 (by decide) ?_
      refine lv_iadd (x := p1) (y := 1) hx hb dX3_numberAt_29 ?_
      obtain ⟨r6, e7, h⟩ := bdP_ok h
      refine r_callVi (As := [.int (p1 + 1)]) (rest := []) (ws' := (wl 203 a (eX g a M))) (ok_X3_isFigure l g a hI (p1 + 1) M r6 e7) ⟨hx, hb, hml, hown, hts⟩ (cwV 1 hts gX3_numberAt_X3_isFigure rfl rfl rfl (by decide +kernel) ⟨Nat.le_of_ble_eq_true rfl, Nat.le_of_ble_eq_true rfl⟩) hK (r_recv hK hP 2 (by decide) eX_2 (show vwCl[3]? = some (RX3, TX3, 3) from rfl)) hS hP (fun _ hq => aA_mono hS.1 hq) (fun _ h _ => h) rfl hl.1 rfl (Nat.le_of_ble_eq_true rfl) dX3_numberAt_30 ⟨Nat.zero_le _, Nat.zero_le _⟩ (fun H locs hP hS => ?_)
      refine lv_if_eq (x := r6) (tgt := 55) hx hb dX3_numberAt_33 (by decide) (fun q8 => ?_) (fun q8 => ?_)
      · replace h := if_t q8 h
        refine lv_iload_n hx hb dX3_numberAt_55 rfl (lv_at hl 0 rfl) ?_
        rw [hQz]
        exact r_iret (v := ((M 3 (Int32.toNatClampNeg p1)) - 48)) hx hb hr hlk hS hP (Option.some.inj h) dX3_numberAt_56
      · replace h := if_f q8 h
        refine lv_iload_n hx hb dX3_numberAt_36 rfl (lv_at hl 0 rfl) ?_
        refine lv_bipush (v := 10) hx hb dX3_numberAt_37 (by decide) ?_
        refine lv_imul (x := ((M 3 (Int32.toNatClampNeg p1)) - 48)) (y := 10) hx hb dX3_numberAt_39 ?_
        refine lv_aload_n hx hb dX3_numberAt_40 rfl (lv_at hl 1 rfl) ?_
        refine r_get (v := .ref (a 3)) hx hb hts iX3 hown hK hP 2 (by decide) eX_2 rfl 0 (by decide) w9 rfl dX3_numberAt_41 ?_
        refine lv_iload_n hx hb dX3_numberAt_44 rfl (lv_at hl 2 rfl) ?_
        refine lv_iconst (v := 1) hx hb dX3_numberAt_45 (by decide) ?_
        refine lv_iadd (x := p1) (y := 1) hx hb dX3_numberAt_46 ?_
        obtain ⟨q9, h⟩ := chk_ok h
        refine r_iald (i := (p1 + 1)) (h := M 3) hx hb hK hP 3 (by decide) rfl q9 dX3_numberAt_47 ?_
        refine lv_iadd (x := (((M 3 (Int32.toNatClampNeg p1)) - 48) * 10)) (y := (M 3 (Int32.toNatClampNeg (p1 + 1)))) hx hb dX3_numberAt_48 ?_
        refine lv_bipush (v := 48) hx hb dX3_numberAt_49 (by decide) ?_
        refine lv_isub (x := ((((M 3 (Int32.toNatClampNeg p1)) - 48) * 10) + (M 3 (Int32.toNatClampNeg (p1 + 1))))) (y := 48) hx hb dX3_numberAt_51 ?_
        refine lv_goto (tgt := 56) hx hb dX3_numberAt_52 (by decide) ?_
        rw [hQz]
        exact r_iret (v := (((((M 3 (Int32.toNatClampNeg p1)) - 48) * 10) + (M 3 (Int32.toNatClampNeg (p1 + 1)))) - 48)) hx hb hr hlk hS hP (Option.some.inj h) dX3_numberAt_56
  · replace h := if_t q3 h
    refine lv_ldc (v := (-1000000)) hx hb hown w38 dX3_numberAt_8 ?_
    rw [hQz]
    exact r_iret (v := (-1000000)) hx hb hr hlk hS hP (Option.some.inj h) dX3_numberAt_10
def rmX5_outside : Room := { frames := 1, cells := 0, slots := 0, locals := 60 }
set_option maxHeartbeats 4000000 in
set_option maxRecDepth 100000 in
theorem ok_X5_outside (l : Launch) (g : gT) (p0 : Int32) (p1 : Int32) (p2 : Int32) (r : Int32) (h : fX5_outside p0 p1 p2 = some r) : MI l yX5_outside wsX5_outside rmX5_outside g 0 (fun _ => 0) [.int p0, .int p1, .int p2] ([] : va_W) ([] : va_W) r := by
  refine MI_of (cc := cX5_outside) (maxL := 3) (rt := .boolean) (by decide) rfl (Nat.le_of_ble_eq_true rfl) ?_
  intro p e s m args below meth c ls hx hb hml hr hlk hts hown hK hP hl
  have hown : s.vm.findClass RX5 = some m.cls := hown
  have hl : lv_has ls 3 [(0, .int p0), (1, .int p1), (2, .int p2)] := hl
  have hS : va_S (aA 0 (fun _ => 0) s.heap.size) s.heap s.heap [] := va_S.rf
  obtain ⟨Qz, hQz⟩ : ∃ Qz : State → Prop, Qz = MQ below (qI g ([] : va_W) r (aA 0 (fun _ => 0) s.heap.size)) args s 0 0 (aA 0 (fun _ => 0) s.heap.size) := ⟨_, rfl⟩
  rw [← hQz]
  unfold fX5_outside at h
  refine lv_iload_n hx hb dX5_outside_0 rfl (lv_at hl 0 rfl) ?_
  refine lv_iload_n hx hb dX5_outside_1 rfl (lv_at hl 1 rfl) ?_
  refine lv_icmp_lt (x := p0) (y := p1) (tgt := 10) hx hb dX5_outside_2 (by decide) (fun q1 => ?_) (fun q1 => ?_)
  · replace h := if_t q1 h
    refine lv_iconst (v := 1) hx hb dX5_outside_10 (by decide) ?_
    refine lv_goto (tgt := 15) hx hb dX5_outside_11 (by decide) ?_
    rw [hQz]
    exact r_zret (v := 1) hx hb hr hlk hS hP (Option.some.inj h) (by decide) dX5_outside_15
  · replace h := if_f q1 h
    refine lv_iload_n hx hb dX5_outside_5 rfl (lv_at hl 0 rfl) ?_
    refine lv_iload_n hx hb dX5_outside_6 rfl (lv_at hl 2 rfl) ?_
    refine lv_icmp_le (x := p0) (y := p2) (tgt := 14) hx hb dX5_outside_7 (by decide) (fun q2 => ?_) (fun q2 => ?_)
    · replace h := if_t q2 h
      refine lv_iconst (v := 0) hx hb dX5_outside_14 (by decide) ?_
      rw [hQz]
      exact r_zret (v := 0) hx hb hr hlk hS hP (Option.some.inj h) (by decide) dX5_outside_15
    · replace h := if_f q2 h
      refine lv_iconst (v := 1) hx hb dX5_outside_10 (by decide) ?_
      refine lv_goto (tgt := 15) hx hb dX5_outside_11 (by decide) ?_
      rw [hQz]
      exact r_zret (v := 1) hx hb hr hlk hS hP (Option.some.inj h) (by decide) dX5_outside_15
def rmX3_faultOfNumber : Room := { frames := 2, cells := 0, slots := 0, locals := 82 }
set_option maxHeartbeats 4000000 in
set_option maxRecDepth 100000 in
theorem ok_X3_faultOfNumber (l : Launch) (g : gT) (a : Nat → Nat) (hI : ij 203 a) (p1 : Int32) (p2 : Int32) (p3 : Int32) (M : Mem) (r : Int32) (h : fX3_faultOfNumber p1 p2 p3 M = some r) : MI l yX3_faultOfNumber wsX3_faultOfNumber rmX3_faultOfNumber g 203 a [.ref (a 2), .int p1, .int p2, .int p3] (wl 203 a (eX g a M)) (wl 203 a (eX g a M)) r := by
  refine MI_of (cc := cX3_faultOfNumber) (maxL := 4) (rt := .int) (by decide) rfl (Nat.le_of_ble_eq_true rfl) ?_
  intro p e s m args below meth c ls hx hb hml hr hlk hts hown hK hP hl
  have hown : s.vm.findClass RX3 = some m.cls := hown
  have hl : lv_has ls 4 [(0, .ref (a 2)), (1, .int p1), (2, .int p2), (3, .int p3)] := hl
  have hS : va_S (aA 203 a s.heap.size) s.heap s.heap [] := va_S.rf
  have w38 := hts (.constant RX3 38 (-1000000)) (by decide +kernel)
  have wini5 := hts (.initialized RX5) (by decide +kernel)
  have wst5 := hts (.static yX5_outside) (by decide +kernel)
  obtain ⟨Qz, hQz⟩ : ∃ Qz : State → Prop, Qz = MQ below (qI g (wl 203 a (eX g a M)) r (aA 203 a s.heap.size)) args s 0 0 (aA 203 a s.heap.size) := ⟨_, rfl⟩
  rw [← hQz]
  unfold fX3_faultOfNumber at h
  refine lv_iload_n hx hb dX3_faultOfNumber_0 rfl (lv_at hl 1 rfl) ?_
  refine lv_ldc (v := (-1000000)) hx hb hown w38 dX3_faultOfNumber_1 ?_
  refine lv_icmp_ne (x := p1) (y := (-1000000)) (tgt := 8) hx hb dX3_faultOfNumber_3 (by decide) (fun q1 => ?_) (fun q1 => ?_)
  · replace h := if_f q1 h
    refine lv_iload_n hx hb dX3_faultOfNumber_8 rfl (lv_at hl 1 rfl) ?_
    refine lv_iload_n hx hb dX3_faultOfNumber_9 rfl (lv_at hl 2 rfl) ?_
    refine lv_iload_n hx hb dX3_faultOfNumber_10 rfl (lv_at hl 3 rfl) ?_
    obtain ⟨r2, e3, h⟩ := bdP_ok h
    refine r_callNi (As := [.int p1, .int p2, .int p3]) (rest := []) (ws' := (wl 203 a (eX g a M))) (ok_X5_outside l g p1 p2 p3 r2 e3) ⟨hx, hb, hml, hown, hts⟩ ⟨va_cnB 3 hts gX3_faultOfNumber_X5_outside_n76 rfl rfl rfl hK.2 wini5 (by decide +kernel) ⟨Nat.le_of_ble_eq_true rfl, Nat.le_of_ble_eq_true rfl⟩, wst5, trivial⟩ hK hS nilP (P_A hS.1) (fun _ _ hk => wl_keep hP hk) rfl hl.1 rfl (Nat.le_of_ble_eq_true rfl) dX3_faultOfNumber_11 ⟨Nat.zero_le _, Nat.zero_le _⟩ (fun H locs hP hS => ?_)
    refine lv_if_eq (x := r2) (tgt := 21) hx hb dX3_faultOfNumber_14 (by decide) (fun q4 => ?_) (fun q4 => ?_)
    · replace h := if_t q4 h
      refine lv_iconst (v := 0) hx hb dX3_faultOfNumber_21 (by decide) ?_
      rw [hQz]
      exact r_iret (v := 0) hx hb hr hlk hS hP (Option.some.inj h) dX3_faultOfNumber_22
    · replace h := if_f q4 h
      refine lv_iconst (v := 2) hx hb dX3_faultOfNumber_17 (by decide) ?_
      refine lv_goto (tgt := 22) hx hb dX3_faultOfNumber_18 (by decide) ?_
      rw [hQz]
      exact r_iret (v := 2) hx hb hr hlk hS hP (Option.some.inj h) dX3_faultOfNumber_22
  · replace h := if_t q1 h
    refine lv_iconst (v := 1) hx hb dX3_faultOfNumber_6 (by decide) ?_
    rw [hQz]
    exact r_iret (v := 1) hx hb hr hlk hS hP (Option.some.inj h) dX3_faultOfNumber_7
def rmX3_kindOf : Room := { frames := 1, cells := 0, slots := 0, locals := 60 }
set_option maxHeartbeats 4000000 in
set_option maxRecDepth 100000 in
theorem ok_X3_kindOf (l : Launch) (g : gT) (a : Nat → Nat) (hI : ij 203 a) (p1 : Int32) (M : Mem) (r : Int32) (h : fX3_kindOf p1 M = some r) : MI l yX3_kindOf wsX3_kindOf rmX3_kindOf g 203 a [.ref (a 2), .int p1] (wl 203 a (eX g a M)) (wl 203 a (eX g a M)) r := by
  refine MI_of (cc := cX3_kindOf) (maxL := 2) (rt := .int) (by decide) rfl (Nat.le_of_ble_eq_true rfl) ?_
  intro p e s m args below meth c ls hx hb hml hr hlk hts hown hK hP hl
  have hown : s.vm.findClass RX3 = some m.cls := hown
  have hl : lv_has ls 2 [(0, .ref (a 2)), (1, .int p1)] := hl
  have hS : va_S (aA 203 a s.heap.size) s.heap s.heap [] := va_S.rf
  have w38 := hts (.constant RX3 38 (-1000000)) (by decide +kernel)
  obtain ⟨Qz, hQz⟩ : ∃ Qz : State → Prop, Qz = MQ below (qI g (wl 203 a (eX g a M)) r (aA 203 a s.heap.size)) args s 0 0 (aA 203 a s.heap.size) := ⟨_, rfl⟩
  rw [← hQz]
  unfold fX3_kindOf at h
  refine lv_iload_n hx hb dX3_kindOf_0 rfl (lv_at hl 1 rfl) ?_
  by_cases q1 : p1 = 99
  · replace h := if_t q1 h
    refine lv_lookup (x := p1) (tgt := 60) (off := 59) hx hb dX3_kindOf_1 (by decide) (by rw [q1]; decide) (by decide) ?_
    refine lv_iconst (v := 5) hx hb dX3_kindOf_60 (by decide) ?_
    rw [hQz]
    exact r_iret (v := 5) hx hb hr hlk hS hP (Option.some.inj h) dX3_kindOf_61
  replace h := if_f q1 h
  by_cases q2 : p1 = 114
  · replace h := if_t q2 h
    refine lv_lookup (x := p1) (tgt := 56) (off := 55) hx hb dX3_kindOf_1 (by decide) (by rw [q2]; decide) (by decide) ?_
    refine lv_iconst (v := 3) hx hb dX3_kindOf_56 (by decide) ?_
    rw [hQz]
    exact r_iret (v := 3) hx hb hr hlk hS hP (Option.some.inj h) dX3_kindOf_57
  replace h := if_f q2 h
  by_cases q3 : p1 = 115
  · replace h := if_t q3 h
    refine lv_lookup (x := p1) (tgt := 52) (off := 51) hx hb dX3_kindOf_1 (by decide) (by rw [q3]; decide) (by decide) ?_
    refine lv_iconst (v := 1) hx hb dX3_kindOf_52 (by decide) ?_
    rw [hQz]
    exact r_iret (v := 1) hx hb hr hlk hS hP (Option.some.inj h) dX3_kindOf_53
  replace h := if_f q3 h
  by_cases q4 : p1 = 116
  · replace h := if_t q4 h
    refine lv_lookup (x := p1) (tgt := 58) (off := 57) hx hb dX3_kindOf_1 (by decide) (by rw [q4]; decide) (by decide) ?_
    refine lv_iconst (v := 4) hx hb dX3_kindOf_58 (by decide) ?_
    rw [hQz]
    exact r_iret (v := 4) hx hb hr hlk hS hP (Option.some.inj h) dX3_kindOf_59
  replace h := if_f q4 h
  by_cases q5 : p1 = 119
  · replace h := if_t q5 h
    refine lv_lookup (x := p1) (tgt := 54) (off := 53) hx hb dX3_kindOf_1 (by decide) (by rw [q5]; decide) (by decide) ?_
    refine lv_iconst (v := 2) hx hb dX3_kindOf_54 (by decide) ?_
    rw [hQz]
    exact r_iret (v := 2) hx hb hr hlk hS hP (Option.some.inj h) dX3_kindOf_55
  replace h := if_f q5 h
  refine lv_lookup (x := p1) (tgt := 62) (off := 61) hx hb dX3_kindOf_1 (by decide) (by show Op.lookupswitch.offset [(99, 59), (114, 55), (115, 51), (116, 57), (119, 53)] 61 _ = _; rw [lv_osw q1 (show (99 : Int32).toInt = 99 from rfl), lv_osw q2 (show (114 : Int32).toInt = 114 from rfl), lv_osw q3 (show (115 : Int32).toInt = 115 from rfl), lv_osw q4 (show (116 : Int32).toInt = 116 from rfl), lv_osw q5 (show (119 : Int32).toInt = 119 from rfl)]; rfl) (by decide) ?_
  refine lv_ldc (v := (-1000000)) hx hb hown w38 dX3_kindOf_62 ?_
  rw [hQz]
  exact r_iret (v := (-1000000)) hx hb hr hlk hS hP (Option.some.inj h) dX3_kindOf_64
def rmX3_acceptSort : Room := { frames := 2, cells := 0, slots := 0, locals := 81 }
set_option maxHeartbeats 4000000 in
set_option maxRecDepth 100000 in
theorem ok_X3_acceptSort (l : Launch) (g : gT) (a : Nat → Nat) (hI : ij 203 a) (p1 : Int32) (M : Mem) (M' : Mem) (r : Int32) (h : fX3_acceptSort p1 M = some (r, M')) : MI l yX3_acceptSort wsX3_acceptSort rmX3_acceptSort g 203 a [.ref (a 2), .int p1, .ref (a 134)] (wl 203 a (eX g a M)) (wl 203 a (eX g a M')) r := by
  refine MI_of (cc := cX3_acceptSort) (maxL := 4) (rt := .int) (by decide) rfl (Nat.le_of_ble_eq_true rfl) ?_
  intro p e s m args below meth c ls hx hb hml hr hlk hts hown hK hP hl
  have hown : s.vm.findClass RX3 = some m.cls := hown
  have hl : lv_has ls 4 [(0, .ref (a 2)), (1, .int p1), (2, .ref (a 134))] := hl
  have hS : va_S (aA 203 a s.heap.size) s.heap s.heap [] := va_S.rf
  have iX2 : ∀ w ∈ wsX20, w ∈ wsX3_acceptSort := fun w h => List.mem_cons_of_mem _ (List.mem_append_right _ h)
  have iX3 : ∀ w ∈ wsX30, w ∈ wsX3_acceptSort := fun w h => List.mem_cons_of_mem _ (List.mem_append_left _ (List.mem_append_right _ h))
  have w9 := hts (.fieldLink RX3 9 "StepRiders$Tape" "bytes" "[I") (by decide +kernel)
  have w38 := hts (.constant RX3 38 (-1000000)) (by decide +kernel)
  have w35 := hts (.fieldLink RX3 35 "StepRiders$Stair" "riders" "I") (by decide +kernel)
  have w70 := hts (.fieldLink RX3 70 "StepRiders$Stair" "kind" "[I") (by decide +kernel)
  obtain ⟨Qz, hQz⟩ : ∃ Qz : State → Prop, Qz = MQ below (qI g (wl 203 a (eX g a M')) r (aA 203 a s.heap.size)) args s 0 0 (aA 203 a s.heap.size) := ⟨_, rfl⟩
  rw [← hQz]
  unfold fX3_acceptSort at h
  refine lv_aload_n hx hb dX3_acceptSort_0 rfl (lv_at hl 0 rfl) ?_
  refine lv_aload_n hx hb dX3_acceptSort_1 rfl (lv_at hl 0 rfl) ?_
  refine r_get (v := .ref (a 3)) hx hb hts iX3 hown hK hP 2 (by decide) eX_2 rfl 0 (by decide) w9 rfl dX3_acceptSort_2 ?_
  refine lv_iload_n hx hb dX3_acceptSort_5 rfl (lv_at hl 1 rfl) ?_
  obtain ⟨q1, h⟩ := chk_ok h
  refine r_iald (i := p1) (h := M 3) hx hb hK hP 3 (by decide) rfl q1 dX3_acceptSort_6 ?_
  obtain ⟨r2, e3, h⟩ := bdP_ok h
  refine r_callVi (As := [.int (M 3 (Int32.toNatClampNeg p1))]) (rest := []) (ws' := (wl 203 a (eX g a M))) (ok_X3_kindOf l g a hI (M 3 (Int32.toNatClampNeg p1)) M r2 e3) ⟨hx, hb, hml, hown, hts⟩ (cwV 1 hts gX3_acceptSort_X3_kindOf rfl rfl rfl (by decide +kernel) ⟨Nat.le_of_ble_eq_true rfl, Nat.le_of_ble_eq_true rfl⟩) hK (r_recv hK hP 2 (by decide) eX_2 (show vwCl[3]? = some (RX3, TX3, 3) from rfl)) hS hP (fun _ hq => aA_mono hS.1 hq) (fun _ h _ => h) rfl hl.1 rfl (Nat.le_of_ble_eq_true rfl) dX3_acceptSort_7 ⟨Nat.zero_le _, Nat.zero_le _⟩ (fun H locs hP hS => ?_)
  refine lv_istore_n (lv' := [(3, .int r2), (0, .ref (a 2)), (1, .int p1), (2, .ref (a 134))]) hx hb dX3_acceptSort_10 rfl hl (by decide) rfl (fun ls hl => ?_)
  refine lv_iload_n hx hb dX3_acceptSort_11 rfl (lv_at hl 0 rfl) ?_
  refine lv_ldc (v := (-1000000)) hx hb hown w38 dX3_acceptSort_12 ?_
  refine lv_icmp_ne (x := r2) (y := (-1000000)) (tgt := 19) hx hb dX3_acceptSort_14 (by decide) (fun q4 => ?_) (fun q4 => ?_)
  · replace h := if_f q4 h
    refine lv_aload_n hx hb dX3_acceptSort_19 rfl (lv_at hl 3 rfl) ?_
    refine r_get (v := .int (M 134 3)) hx hb hts iX2 hown hK hP 134 (isSt_lt (c := 134) (by decide) 0 (by decide)) (eX_Stair (c := 134) (by decide)) rfl 3 (by decide) w35 rfl dX3_acceptSort_20 ?_
    refine lv_bipush (v := 7) hx hb dX3_acceptSort_23 (by decide) ?_
    refine lv_icmp_lt (x := (M 134 3)) (y := 7) (tgt := 30) hx hb dX3_acceptSort_25 (by decide) (fun q5 => ?_) (fun q5 => ?_)
    · replace h := if_t q5 h
      refine lv_aload_n hx hb dX3_acceptSort_30 rfl (lv_at hl 3 rfl) ?_
      refine r_get (v := .ref (a 135)) hx hb hts iX2 hown hK hP 134 (isSt_lt (c := 134) (by decide) 0 (by decide)) (eX_Stair (c := 134) (by decide)) rfl 4 (by decide) w70 rfl dX3_acceptSort_31 ?_
      refine lv_aload_n hx hb dX3_acceptSort_34 rfl (lv_at hl 3 rfl) ?_
      refine r_get (v := .int (M 134 3)) hx hb hts iX2 hown hK hP 134 (isSt_lt (c := 134) (by decide) 0 (by decide)) (eX_Stair (c := 134) (by decide)) rfl 3 (by decide) w35 rfl dX3_acceptSort_35 ?_
      refine lv_iload_n hx hb dX3_acceptSort_38 rfl (lv_at hl 0 rfl) ?_
      obtain ⟨q6, h⟩ := chk_ok h
      refine r_iast (i := (M 134 3)) (x := r2) (h := M 135) (f' := eX g a (mp M 135 (Int32.toNatClampNeg (M 134 3)) r2)) hx hb hK hI (fun _ h => aA_in h) hP hS 135 (isSt_lt (c := 134) (by decide) 1 (by decide)) (eX_Sa1 (c := 134) (by decide)) q6 (eX_ua (fun _ => eX_Sa1 (c := 134) (by decide))) dX3_acceptSort_39 (fun H locs hP hS => ?_)
      refine lv_iconst (v := 0) hx hb dX3_acceptSort_40 (by decide) ?_
      rw [hQz]
      exact r_iret (v := 0) hx hb hr hlk hS ((Prod.mk.inj (Option.some.inj h)).2 ▸ hP) (Prod.mk.inj (Option.some.inj h)).1 dX3_acceptSort_41
    · replace h := if_f q5 h
      refine lv_iconst (v := 3) hx hb dX3_acceptSort_28 (by decide) ?_
      rw [hQz]
      exact r_iret (v := 3) hx hb hr hlk hS ((Prod.mk.inj (Option.some.inj h)).2 ▸ hP) (Prod.mk.inj (Option.some.inj h)).1 dX3_acceptSort_29
  · replace h := if_t q4 h
    refine lv_iconst (v := 1) hx hb dX3_acceptSort_17 (by decide) ?_
    rw [hQz]
    exact r_iret (v := 1) hx hb hr hlk hS ((Prod.mk.inj (Option.some.inj h)).2 ▸ hP) (Prod.mk.inj (Option.some.inj h)).1 dX3_acceptSort_18
def rmX3_acceptLane : Room := { frames := 3, cells := 0, slots := 0, locals := 105 }
set_option maxHeartbeats 4000000 in
set_option maxRecDepth 100000 in
theorem ok_X3_acceptLane (l : Launch) (g : gT) (a : Nat → Nat) (hI : ij 203 a) (p1 : Int32) (M : Mem) (M' : Mem) (r : Int32) (h : fX3_acceptLane p1 M = some (r, M')) : MI l yX3_acceptLane wsX3_acceptLane rmX3_acceptLane g 203 a [.ref (a 2), .int p1, .ref (a 134)] (wl 203 a (eX g a M)) (wl 203 a (eX g a M')) r := by
  refine MI_of (cc := cX3_acceptLane) (maxL := 4) (rt := .int) (by decide) rfl (Nat.le_of_ble_eq_true rfl) ?_
  intro p e s m args below meth c ls hx hb hml hr hlk hts hown hK hP hl
  have hown : s.vm.findClass RX3 = some m.cls := hown
  have hl : lv_has ls 4 [(0, .ref (a 2)), (1, .int p1), (2, .ref (a 134))] := hl
  have hS : va_S (aA 203 a s.heap.size) s.heap s.heap [] := va_S.rf
  have iX2 : ∀ w ∈ wsX20, w ∈ wsX3_acceptLane := fun w h => List.mem_cons_of_mem _ (List.mem_append_right _ h)
  have w35 := hts (.fieldLink RX3 35 "StepRiders$Stair" "riders" "I") (by decide +kernel)
  have w73 := hts (.fieldLink RX3 73 "StepRiders$Stair" "lane" "[I") (by decide +kernel)
  obtain ⟨Qz, hQz⟩ : ∃ Qz : State → Prop, Qz = MQ below (qI g (wl 203 a (eX g a M')) r (aA 203 a s.heap.size)) args s 0 0 (aA 203 a s.heap.size) := ⟨_, rfl⟩
  rw [← hQz]
  unfold fX3_acceptLane at h
  refine lv_aload_n hx hb dX3_acceptLane_0 rfl (lv_at hl 0 rfl) ?_
  refine lv_iload_n hx hb dX3_acceptLane_1 rfl (lv_at hl 1 rfl) ?_
  refine lv_iconst (v := 0) hx hb dX3_acceptLane_2 (by decide) ?_
  refine lv_iconst (v := 1) hx hb dX3_acceptLane_3 (by decide) ?_
  obtain ⟨r1, e2, h⟩ := bdP_ok h
  refine r_callVi (As := [.int p1, .int 0, .int 1]) (rest := []) (ws' := (wl 203 a (eX g a M))) (ok_X3_faultOfNumber l g a hI p1 0 1 M r1 e2) ⟨hx, hb, hml, hown, hts⟩ (cwV 3 hts gX3_acceptLane_X3_faultOfNumber rfl rfl rfl (by decide +kernel) ⟨Nat.le_of_ble_eq_true rfl, Nat.le_of_ble_eq_true rfl⟩) hK (r_recv hK hP 2 (by decide) eX_2 (show vwCl[3]? = some (RX3, TX3, 3) from rfl)) hS hP (fun _ hq => aA_mono hS.1 hq) (fun _ h _ => h) rfl hl.1 rfl (Nat.le_of_ble_eq_true rfl) dX3_acceptLane_4 ⟨Nat.zero_le _, Nat.zero_le _⟩ (fun H locs hP hS => ?_)
  refine lv_istore_n (lv' := [(3, .int r1), (0, .ref (a 2)), (1, .int p1), (2, .ref (a 134))]) hx hb dX3_acceptLane_7 rfl hl (by decide) rfl (fun ls hl => ?_)
  refine lv_iload_n hx hb dX3_acceptLane_8 rfl (lv_at hl 0 rfl) ?_
  refine lv_if_ne (x := r1) (tgt := 41) hx hb dX3_acceptLane_9 (by decide) (fun q3 => ?_) (fun q3 => ?_)
  · replace h := if_f q3 h
    refine lv_iload_n hx hb dX3_acceptLane_41 rfl (lv_at hl 0 rfl) ?_
    rw [hQz]
    exact r_iret (v := r1) hx hb hr hlk hS ((Prod.mk.inj (Option.some.inj h)).2 ▸ hP) (Prod.mk.inj (Option.some.inj h)).1 dX3_acceptLane_42
  · replace h := if_t q3 h
    refine lv_aload_n hx hb dX3_acceptLane_12 rfl (lv_at hl 3 rfl) ?_
    refine r_get (v := .int (M 134 3)) hx hb hts iX2 hown hK hP 134 (isSt_lt (c := 134) (by decide) 0 (by decide)) (eX_Stair (c := 134) (by decide)) rfl 3 (by decide) w35 rfl dX3_acceptLane_13 ?_
    refine lv_bipush (v := 7) hx hb dX3_acceptLane_16 (by decide) ?_
    refine lv_icmp_ge (x := (M 134 3)) (y := 7) (tgt := 41) hx hb dX3_acceptLane_18 (by decide) (fun q4 => ?_) (fun q4 => ?_)
    · replace h := if_t q4 h
      refine lv_iload_n hx hb dX3_acceptLane_41 rfl (lv_at hl 0 rfl) ?_
      rw [hQz]
      exact r_iret (v := r1) hx hb hr hlk hS ((Prod.mk.inj (Option.some.inj h)).2 ▸ hP) (Prod.mk.inj (Option.some.inj h)).1 dX3_acceptLane_42
    · replace h := if_f q4 h
      refine lv_aload_n hx hb dX3_acceptLane_21 rfl (lv_at hl 3 rfl) ?_
      refine r_get (v := .ref (a 136)) hx hb hts iX2 hown hK hP 134 (isSt_lt (c := 134) (by decide) 0 (by decide)) (eX_Stair (c := 134) (by decide)) rfl 5 (by decide) w73 rfl dX3_acceptLane_22 ?_
      refine lv_aload_n hx hb dX3_acceptLane_25 rfl (lv_at hl 3 rfl) ?_
      refine r_get (v := .int (M 134 3)) hx hb hts iX2 hown hK hP 134 (isSt_lt (c := 134) (by decide) 0 (by decide)) (eX_Stair (c := 134) (by decide)) rfl 3 (by decide) w35 rfl dX3_acceptLane_26 ?_
      refine lv_iload_n hx hb dX3_acceptLane_29 rfl (lv_at hl 2 rfl) ?_
      obtain ⟨q5, h⟩ := chk_ok h
      refine r_iast (i := (M 134 3)) (x := p1) (h := M 136) (f' := eX g a (mp M 136 (Int32.toNatClampNeg (M 134 3)) p1)) hx hb hK hI (fun _ h => aA_in h) hP hS 136 (isSt_lt (c := 134) (by decide) 2 (by decide)) (eX_Sa2 (c := 134) (by decide)) q5 (eX_ua (fun _ => eX_Sa2 (c := 134) (by decide))) dX3_acceptLane_30 (fun H locs hP hS => ?_)
      refine lv_aload_n hx hb dX3_acceptLane_31 rfl (lv_at hl 3 rfl) ?_
      refine lv_dup hx hb dX3_acceptLane_32 rfl ?_
      refine r_get (v := .int ((mp M 136 (Int32.toNatClampNeg (M 134 3)) p1) 134 3)) hx hb hts iX2 hown hK hP 134 (isSt_lt (c := 134) (by decide) 0 (by decide)) (eX_Stair (c := 134) (by decide)) rfl 3 (by decide) w35 rfl dX3_acceptLane_33 ?_
      refine lv_iconst (v := 1) hx hb dX3_acceptLane_36 (by decide) ?_
      refine lv_iadd (x := ((mp M 136 (Int32.toNatClampNeg (M 134 3)) p1) 134 3)) (y := 1) hx hb dX3_acceptLane_37 ?_
      refine r_put (v := .int (((mp M 136 (Int32.toNatClampNeg (M 134 3)) p1) 134 3) + 1)) (ty := .int) (f' := eX g a (mp (mp M 136 (Int32.toNatClampNeg (M 134 3)) p1) 134 3 (((mp M 136 (Int32.toNatClampNeg (M 134 3)) p1) 134 3) + 1))) hx hb hts iX2 tyX2 tyX2_ok nmX2 hown hK hI (fun _ h => aA_in h) hP hS 134 (isSt_lt (c := 134) (by decide) 0 (by decide)) (eX_Stair (c := 134) (by decide)) rfl 3 (by decide) w35 rfl (by decide +kernel) rfl rfl (Nat.le_of_ble_eq_true rfl) (eX_pStair3 (c := 134) (by decide)) dX3_acceptLane_38 (fun H locs hP hS => ?_)
      refine lv_iload_n hx hb dX3_acceptLane_41 rfl (lv_at hl 0 rfl) ?_
      rw [hQz]
      exact r_iret (v := r1) hx hb hr hlk hS ((Prod.mk.inj (Option.some.inj h)).2 ▸ hP) (Prod.mk.inj (Option.some.inj h)).1 dX3_acceptLane_42
def rmX3_accept : Room := { frames := 4, cells := 0, slots := 0, locals := 128 }
set_option maxHeartbeats 4000000 in
set_option maxRecDepth 100000 in
theorem ok_X3_accept (l : Launch) (g : gT) (a : Nat → Nat) (hI : ij 203 a) (p1 : Int32) (p2 : Int32) (p3 : Int32) (M : Mem) (M' : Mem) (r : Int32) (h : fX3_accept p1 p2 p3 M = some (r, M')) : MI l yX3_accept wsX3_accept rmX3_accept g 203 a [.ref (a 2), .int p1, .int p2, .int p3, .ref (a 134)] (wl 203 a (eX g a M)) (wl 203 a (eX g a M')) r := by
  refine MI_of (cc := cX3_accept) (maxL := 5) (rt := .int) (by decide) rfl (Nat.le_of_ble_eq_true rfl) ?_
  intro p e s m args below meth c ls hx hb hml hr hlk hts hown hK hP hl
  have hown : s.vm.findClass RX3 = some m.cls := hown
  have hl : lv_has ls 5 [(0, .ref (a 2)), (1, .int p1), (2, .int p2), (3, .int p3), (4, .ref (a 134))] := hl
  have hS : va_S (aA 203 a s.heap.size) s.heap s.heap [] := va_S.rf
  have iX2 : ∀ w ∈ wsX20, w ∈ wsX3_accept := fun w h => List.mem_cons_of_mem _ (List.mem_append_left _ (List.mem_append_right _ h))
  have w50 := hts (.fieldLink RX3 50 "StepRiders$Stair" "steps" "I") (by decide +kernel)
  have w57 := hts (.fieldLink RX3 57 "StepRiders$Stair" "speed" "I") (by decide +kernel)
  obtain ⟨Qz, hQz⟩ : ∃ Qz : State → Prop, Qz = MQ below (qI g (wl 203 a (eX g a M')) r (aA 203 a s.heap.size)) args s 0 0 (aA 203 a s.heap.size) := ⟨_, rfl⟩
  rw [← hQz]
  unfold fX3_accept at h
  refine lv_iload_n hx hb dX3_accept_0 rfl (lv_at hl 1 rfl) ?_
  by_cases q1 : p1 = 0
  · replace h := if_t q1 h
    refine lv_tableIn (x := p1) (tgt := 44) (off := 43) hx hb dX3_accept_1 (by rw [q1]; decide) (by rw [q1]; decide) (by rw [q1]; decide) (by decide) ?_
    refine lv_aload_n hx hb dX3_accept_44 rfl (lv_at hl 0 rfl) ?_
    refine lv_bipush (v := 109) hx hb dX3_accept_45 (by decide) ?_
    refine lv_iload_n hx hb dX3_accept_47 rfl (lv_at hl 2 rfl) ?_
    obtain ⟨r2, e3, h⟩ := bdP_ok h
    refine r_callVi (As := [.int 109, .int p2]) (rest := []) (ws' := (wl 203 a (eX g a M))) (ok_X3_acceptSign l g a hI 109 p2 M r2 e3) ⟨hx, hb, hml, hown, hts⟩ (cwV 2 hts gX3_accept_X3_acceptSign rfl rfl rfl (by decide +kernel) ⟨Nat.le_of_ble_eq_true rfl, Nat.le_of_ble_eq_true rfl⟩) hK (r_recv hK hP 2 (by decide) eX_2 (show vwCl[3]? = some (RX3, TX3, 3) from rfl)) hS hP (fun _ hq => aA_mono hS.1 hq) (fun _ h _ => h) rfl hl.1 rfl (Nat.le_of_ble_eq_true rfl) dX3_accept_48 ⟨Nat.zero_le _, Nat.zero_le _⟩ (fun H locs hP hS => ?_)
    rw [hQz]
    exact r_iret (v := r2) hx hb hr hlk hS ((Prod.mk.inj (Option.some.inj h)).2 ▸ hP) (Prod.mk.inj (Option.some.inj h)).1 dX3_accept_51
  replace h := if_f q1 h
  by_cases q4 : p1 = 1
  · replace h := if_t q4 h
    refine lv_tableIn (x := p1) (tgt := 52) (off := 51) hx hb dX3_accept_1 (by rw [q4]; decide) (by rw [q4]; decide) (by rw [q4]; decide) (by decide) ?_
    refine lv_aload hx hb dX3_accept_52 (lv_at hl 4 rfl) ?_
    refine lv_aload_n hx hb dX3_accept_54 rfl (lv_at hl 0 rfl) ?_
    refine lv_iload_n hx hb dX3_accept_55 rfl (lv_at hl 2 rfl) ?_
    refine lv_iload_n hx hb dX3_accept_56 rfl (lv_at hl 3 rfl) ?_
    obtain ⟨r5, e6, h⟩ := bdP_ok h
    refine r_callVi (As := [.int p2, .int p3]) (rest := [.ref (a 134)]) (ws' := (wl 203 a (eX g a M))) (ok_X3_numberAt l g a hI p2 p3 M r5 e6) ⟨hx, hb, hml, hown, hts⟩ (cwV 2 hts gX3_accept_X3_numberAt rfl rfl rfl (by decide +kernel) ⟨Nat.le_of_ble_eq_true rfl, Nat.le_of_ble_eq_true rfl⟩) hK (r_recv hK hP 2 (by decide) eX_2 (show vwCl[3]? = some (RX3, TX3, 3) from rfl)) hS hP (fun _ hq => aA_mono hS.1 hq) (fun _ h _ => h) rfl hl.1 rfl (Nat.le_of_ble_eq_true rfl) dX3_accept_57 ⟨Nat.zero_le _, Nat.zero_le _⟩ (fun H locs hP hS => ?_)
    refine r_put (v := .int r5) (ty := .int) (f' := eX g a (mp M 134 0 r5)) hx hb hts iX2 tyX2 tyX2_ok nmX2 hown hK hI (fun _ h => aA_in h) hP hS 134 (isSt_lt (c := 134) (by decide) 0 (by decide)) (eX_Stair (c := 134) (by decide)) rfl 0 (by decide) w50 rfl (by decide +kernel) rfl rfl (Nat.le_of_ble_eq_true rfl) (eX_pStair0 (c := 134) (by decide)) dX3_accept_60 (fun H locs hP hS => ?_)
    refine lv_aload_n hx hb dX3_accept_63 rfl (lv_at hl 0 rfl) ?_
    refine lv_aload hx hb dX3_accept_64 (lv_at hl 4 rfl) ?_
    refine r_get (v := .int ((mp M 134 0 r5) 134 0)) hx hb hts iX2 hown hK hP 134 (isSt_lt (c := 134) (by decide) 0 (by decide)) (eX_Stair (c := 134) (by decide)) rfl 0 (by decide) w50 rfl dX3_accept_66 ?_
    refine lv_iconst (v := 4) hx hb dX3_accept_69 (by decide) ?_
    refine lv_bipush (v := 12) hx hb dX3_accept_70 (by decide) ?_
    obtain ⟨r7, e8, h⟩ := bdP_ok h
    refine r_callVi (As := [.int ((mp M 134 0 r5) 134 0), .int 4, .int 12]) (rest := []) (ws' := (wl 203 a (eX g a (mp M 134 0 r5)))) (ok_X3_faultOfNumber l g a hI ((mp M 134 0 r5) 134 0) 4 12 (mp M 134 0 r5) r7 e8) ⟨hx, hb, hml, hown, hts⟩ (cwV 3 hts gX3_accept_X3_faultOfNumber rfl rfl rfl (by decide +kernel) ⟨Nat.le_of_ble_eq_true rfl, Nat.le_of_ble_eq_true rfl⟩) hK (r_recv hK hP 2 (by decide) eX_2 (show vwCl[3]? = some (RX3, TX3, 3) from rfl)) hS hP (fun _ hq => aA_mono hS.1 hq) (fun _ h _ => h) rfl hl.1 rfl (Nat.le_of_ble_eq_true rfl) dX3_accept_72 ⟨Nat.zero_le _, Nat.zero_le _⟩ (fun H locs hP hS => ?_)
    rw [hQz]
    exact r_iret (v := r7) hx hb hr hlk hS ((Prod.mk.inj (Option.some.inj h)).2 ▸ hP) (Prod.mk.inj (Option.some.inj h)).1 dX3_accept_75
  replace h := if_f q4 h
  by_cases q9 : p1 = 2
  · replace h := if_t q9 h
    refine lv_tableIn (x := p1) (tgt := 76) (off := 75) hx hb dX3_accept_1 (by rw [q9]; decide) (by rw [q9]; decide) (by rw [q9]; decide) (by decide) ?_
    refine lv_aload_n hx hb dX3_accept_76 rfl (lv_at hl 0 rfl) ?_
    refine lv_bipush (v := 44) hx hb dX3_accept_77 (by decide) ?_
    refine lv_iload_n hx hb dX3_accept_79 rfl (lv_at hl 2 rfl) ?_
    obtain ⟨r10, e11, h⟩ := bdP_ok h
    refine r_callVi (As := [.int 44, .int p2]) (rest := []) (ws' := (wl 203 a (eX g a M))) (ok_X3_acceptSign l g a hI 44 p2 M r10 e11) ⟨hx, hb, hml, hown, hts⟩ (cwV 2 hts gX3_accept_X3_acceptSign rfl rfl rfl (by decide +kernel) ⟨Nat.le_of_ble_eq_true rfl, Nat.le_of_ble_eq_true rfl⟩) hK (r_recv hK hP 2 (by decide) eX_2 (show vwCl[3]? = some (RX3, TX3, 3) from rfl)) hS hP (fun _ hq => aA_mono hS.1 hq) (fun _ h _ => h) rfl hl.1 rfl (Nat.le_of_ble_eq_true rfl) dX3_accept_80 ⟨Nat.zero_le _, Nat.zero_le _⟩ (fun H locs hP hS => ?_)
    rw [hQz]
    exact r_iret (v := r10) hx hb hr hlk hS ((Prod.mk.inj (Option.some.inj h)).2 ▸ hP) (Prod.mk.inj (Option.some.inj h)).1 dX3_accept_83
  replace h := if_f q9 h
  by_cases q12 : p1 = 3
  · replace h := if_t q12 h
    refine lv_tableIn (x := p1) (tgt := 84) (off := 83) hx hb dX3_accept_1 (by rw [q12]; decide) (by rw [q12]; decide) (by rw [q12]; decide) (by decide) ?_
    refine lv_aload hx hb dX3_accept_84 (lv_at hl 4 rfl) ?_
    refine lv_aload_n hx hb dX3_accept_86 rfl (lv_at hl 0 rfl) ?_
    refine lv_iload_n hx hb dX3_accept_87 rfl (lv_at hl 2 rfl) ?_
    refine lv_iload_n hx hb dX3_accept_88 rfl (lv_at hl 3 rfl) ?_
    obtain ⟨r13, e14, h⟩ := bdP_ok h
    refine r_callVi (As := [.int p2, .int p3]) (rest := [.ref (a 134)]) (ws' := (wl 203 a (eX g a M))) (ok_X3_numberAt l g a hI p2 p3 M r13 e14) ⟨hx, hb, hml, hown, hts⟩ (cwV 2 hts gX3_accept_X3_numberAt rfl rfl rfl (by decide +kernel) ⟨Nat.le_of_ble_eq_true rfl, Nat.le_of_ble_eq_true rfl⟩) hK (r_recv hK hP 2 (by decide) eX_2 (show vwCl[3]? = some (RX3, TX3, 3) from rfl)) hS hP (fun _ hq => aA_mono hS.1 hq) (fun _ h _ => h) rfl hl.1 rfl (Nat.le_of_ble_eq_true rfl) dX3_accept_89 ⟨Nat.zero_le _, Nat.zero_le _⟩ (fun H locs hP hS => ?_)
    refine r_put (v := .int r13) (ty := .int) (f' := eX g a (mp M 134 1 r13)) hx hb hts iX2 tyX2 tyX2_ok nmX2 hown hK hI (fun _ h => aA_in h) hP hS 134 (isSt_lt (c := 134) (by decide) 0 (by decide)) (eX_Stair (c := 134) (by decide)) rfl 1 (by decide) w57 rfl (by decide +kernel) rfl rfl (Nat.le_of_ble_eq_true rfl) (eX_pStair1 (c := 134) (by decide)) dX3_accept_92 (fun H locs hP hS => ?_)
    refine lv_aload_n hx hb dX3_accept_95 rfl (lv_at hl 0 rfl) ?_
    refine lv_aload hx hb dX3_accept_96 (lv_at hl 4 rfl) ?_
    refine r_get (v := .int ((mp M 134 1 r13) 134 1)) hx hb hts iX2 hown hK hP 134 (isSt_lt (c := 134) (by decide) 0 (by decide)) (eX_Stair (c := 134) (by decide)) rfl 1 (by decide) w57 rfl dX3_accept_98 ?_
    refine lv_iconst (v := 0) hx hb dX3_accept_101 (by decide) ?_
    refine lv_iconst (v := 2) hx hb dX3_accept_102 (by decide) ?_
    obtain ⟨r15, e16, h⟩ := bdP_ok h
    refine r_callVi (As := [.int ((mp M 134 1 r13) 134 1), .int 0, .int 2]) (rest := []) (ws' := (wl 203 a (eX g a (mp M 134 1 r13)))) (ok_X3_faultOfNumber l g a hI ((mp M 134 1 r13) 134 1) 0 2 (mp M 134 1 r13) r15 e16) ⟨hx, hb, hml, hown, hts⟩ (cwV 3 hts gX3_accept_X3_faultOfNumber rfl rfl rfl (by decide +kernel) ⟨Nat.le_of_ble_eq_true rfl, Nat.le_of_ble_eq_true rfl⟩) hK (r_recv hK hP 2 (by decide) eX_2 (show vwCl[3]? = some (RX3, TX3, 3) from rfl)) hS hP (fun _ hq => aA_mono hS.1 hq) (fun _ h _ => h) rfl hl.1 rfl (Nat.le_of_ble_eq_true rfl) dX3_accept_103 ⟨Nat.zero_le _, Nat.zero_le _⟩ (fun H locs hP hS => ?_)
    rw [hQz]
    exact r_iret (v := r15) hx hb hr hlk hS ((Prod.mk.inj (Option.some.inj h)).2 ▸ hP) (Prod.mk.inj (Option.some.inj h)).1 dX3_accept_106
  replace h := if_f q12 h
  by_cases q17 : p1 = 4
  · replace h := if_t q17 h
    refine lv_tableIn (x := p1) (tgt := 128) (off := 127) hx hb dX3_accept_1 (by rw [q17]; decide) (by rw [q17]; decide) (by rw [q17]; decide) (by decide) ?_
    refine lv_aload_n hx hb dX3_accept_128 rfl (lv_at hl 0 rfl) ?_
    refine lv_bipush (v := 59) hx hb dX3_accept_129 (by decide) ?_
    refine lv_iload_n hx hb dX3_accept_131 rfl (lv_at hl 2 rfl) ?_
    obtain ⟨r18, e19, h⟩ := bdP_ok h
    refine r_callVi (As := [.int 59, .int p2]) (rest := []) (ws' := (wl 203 a (eX g a M))) (ok_X3_acceptSign l g a hI 59 p2 M r18 e19) ⟨hx, hb, hml, hown, hts⟩ (cwV 2 hts gX3_accept_X3_acceptSign rfl rfl rfl (by decide +kernel) ⟨Nat.le_of_ble_eq_true rfl, Nat.le_of_ble_eq_true rfl⟩) hK (r_recv hK hP 2 (by decide) eX_2 (show vwCl[3]? = some (RX3, TX3, 3) from rfl)) hS hP (fun _ hq => aA_mono hS.1 hq) (fun _ h _ => h) rfl hl.1 rfl (Nat.le_of_ble_eq_true rfl) dX3_accept_132 ⟨Nat.zero_le _, Nat.zero_le _⟩ (fun H locs hP hS => ?_)
    rw [hQz]
    exact r_iret (v := r18) hx hb hr hlk hS ((Prod.mk.inj (Option.some.inj h)).2 ▸ hP) (Prod.mk.inj (Option.some.inj h)).1 dX3_accept_135
  replace h := if_f q17 h
  by_cases q20 : p1 = 5
  · replace h := if_t q20 h
    refine lv_tableIn (x := p1) (tgt := 107) (off := 106) hx hb dX3_accept_1 (by rw [q20]; decide) (by rw [q20]; decide) (by rw [q20]; decide) (by decide) ?_
    refine lv_aload_n hx hb dX3_accept_107 rfl (lv_at hl 0 rfl) ?_
    refine lv_iload_n hx hb dX3_accept_108 rfl (lv_at hl 2 rfl) ?_
    refine lv_aload hx hb dX3_accept_109 (lv_at hl 4 rfl) ?_
    obtain ⟨r21, M23, e22, h⟩ := bdI_ok h
    refine r_callVi (As := [.int p2, .ref (a 134)]) (rest := []) (ws' := (wl 203 a (eX g a M23))) (ok_X3_acceptSort l g a hI p2 M M23 r21 e22) ⟨hx, hb, hml, hown, hts⟩ (cwV 2 hts gX3_accept_X3_acceptSort rfl rfl rfl (by decide +kernel) ⟨Nat.le_of_ble_eq_true rfl, Nat.le_of_ble_eq_true rfl⟩) hK (r_recv hK hP 2 (by decide) eX_2 (show vwCl[3]? = some (RX3, TX3, 3) from rfl)) hS hP (fun _ hq => aA_mono hS.1 hq) (fun _ h _ => h) rfl hl.1 rfl (Nat.le_of_ble_eq_true rfl) dX3_accept_111 ⟨Nat.zero_le _, Nat.zero_le _⟩ (fun H locs hP hS => ?_)
    rw [hQz]
    exact r_iret (v := r21) hx hb hr hlk hS ((Prod.mk.inj (Option.some.inj h)).2 ▸ hP) (Prod.mk.inj (Option.some.inj h)).1 dX3_accept_114
  replace h := if_f q20 h
  by_cases q24 : p1 = 6
  · replace h := if_t q24 h
    refine lv_tableIn (x := p1) (tgt := 115) (off := 114) hx hb dX3_accept_1 (by rw [q24]; decide) (by rw [q24]; decide) (by rw [q24]; decide) (by decide) ?_
    refine lv_aload_n hx hb dX3_accept_115 rfl (lv_at hl 0 rfl) ?_
    refine lv_aload_n hx hb dX3_accept_116 rfl (lv_at hl 0 rfl) ?_
    refine lv_iload_n hx hb dX3_accept_117 rfl (lv_at hl 2 rfl) ?_
    refine lv_iload_n hx hb dX3_accept_118 rfl (lv_at hl 3 rfl) ?_
    obtain ⟨r25, e26, h⟩ := bdP_ok h
    refine r_callVi (As := [.int p2, .int p3]) (rest := [.ref (a 2)]) (ws' := (wl 203 a (eX g a M))) (ok_X3_numberAt l g a hI p2 p3 M r25 e26) ⟨hx, hb, hml, hown, hts⟩ (cwV 2 hts gX3_accept_X3_numberAt rfl rfl rfl (by decide +kernel) ⟨Nat.le_of_ble_eq_true rfl, Nat.le_of_ble_eq_true rfl⟩) hK (r_recv hK hP 2 (by decide) eX_2 (show vwCl[3]? = some (RX3, TX3, 3) from rfl)) hS hP (fun _ hq => aA_mono hS.1 hq) (fun _ h _ => h) rfl hl.1 rfl (Nat.le_of_ble_eq_true rfl) dX3_accept_119 ⟨Nat.zero_le _, Nat.zero_le _⟩ (fun H locs hP hS => ?_)
    refine lv_aload hx hb dX3_accept_122 (lv_at hl 4 rfl) ?_
    obtain ⟨r27, M29, e28, h⟩ := bdI_ok h
    refine r_callVi (As := [.int r25, .ref (a 134)]) (rest := []) (ws' := (wl 203 a (eX g a M29))) (ok_X3_acceptLane l g a hI r25 M M29 r27 e28) ⟨hx, hb, hml, hown, hts⟩ (cwV 2 hts gX3_accept_X3_acceptLane rfl rfl rfl (by decide +kernel) ⟨Nat.le_of_ble_eq_true rfl, Nat.le_of_ble_eq_true rfl⟩) hK (r_recv hK hP 2 (by decide) eX_2 (show vwCl[3]? = some (RX3, TX3, 3) from rfl)) hS hP (fun _ hq => aA_mono hS.1 hq) (fun _ h _ => h) rfl hl.1 rfl (Nat.le_of_ble_eq_true rfl) dX3_accept_124 ⟨Nat.zero_le _, Nat.zero_le _⟩ (fun H locs hP hS => ?_)
    rw [hQz]
    exact r_iret (v := r27) hx hb hr hlk hS ((Prod.mk.inj (Option.some.inj h)).2 ▸ hP) (Prod.mk.inj (Option.some.inj h)).1 dX3_accept_127
  replace h := if_f q24 h
  have tq1 := lv_neT q1 (show (0 : Int32).toInt = 0 from rfl)
  have tq4 := lv_neT q4 (show (1 : Int32).toInt = 1 from rfl)
  have tq9 := lv_neT q9 (show (2 : Int32).toInt = 2 from rfl)
  have tq12 := lv_neT q12 (show (3 : Int32).toInt = 3 from rfl)
  have tq17 := lv_neT q17 (show (4 : Int32).toInt = 4 from rfl)
  have tq20 := lv_neT q20 (show (5 : Int32).toInt = 5 from rfl)
  have tq24 := lv_neT q24 (show (6 : Int32).toInt = 6 from rfl)
  refine lv_tableOut (x := p1) (tgt := 128) hx hb dX3_accept_1 (by omega) (by decide) ?_
  refine lv_aload_n hx hb dX3_accept_128 rfl (lv_at hl 0 rfl) ?_
  refine lv_bipush (v := 59) hx hb dX3_accept_129 (by decide) ?_
  refine lv_iload_n hx hb dX3_accept_131 rfl (lv_at hl 2 rfl) ?_
  obtain ⟨r30, e31, h⟩ := bdP_ok h
  refine r_callVi (As := [.int 59, .int p2]) (rest := []) (ws' := (wl 203 a (eX g a M))) (ok_X3_acceptSign l g a hI 59 p2 M r30 e31) ⟨hx, hb, hml, hown, hts⟩ (cwV 2 hts gX3_accept_X3_acceptSign rfl rfl rfl (by decide +kernel) ⟨Nat.le_of_ble_eq_true rfl, Nat.le_of_ble_eq_true rfl⟩) hK (r_recv hK hP 2 (by decide) eX_2 (show vwCl[3]? = some (RX3, TX3, 3) from rfl)) hS hP (fun _ hq => aA_mono hS.1 hq) (fun _ h _ => h) rfl hl.1 rfl (Nat.le_of_ble_eq_true rfl) dX3_accept_132 ⟨Nat.zero_le _, Nat.zero_le _⟩ (fun H locs hP hS => ?_)
  rw [hQz]
  exact r_iret (v := r30) hx hb hr hlk hS ((Prod.mk.inj (Option.some.inj h)).2 ▸ hP) (Prod.mk.inj (Option.some.inj h)).1 dX3_accept_135
def rmX3_readInto : Room := { frames := 5, cells := 0, slots := 0, locals := 152 }
set_option maxHeartbeats 4000000 in
set_option maxRecDepth 100000 in
theorem ok_X3_readInto (l : Launch) (g : gT) (a : Nat → Nat) (hI : ij 203 a) (M : Mem) (M' : Mem) (r : Int32) (h : fX3_readInto M = some (r, M')) : MI l yX3_readInto wsX3_readInto rmX3_readInto g 203 a [.ref (a 2), .ref (a 134)] (wl 203 a (eX g a M)) (wl 203 a (eX g a M')) r := by
  refine MI_of (cc := cX3_readInto) (maxL := 7) (rt := .int) (by decide) rfl (Nat.le_of_ble_eq_true rfl) ?_
  intro p e s m args below meth c ls hx hb hml hr hlk hts hown hK hP hl
  have hown : s.vm.findClass RX3 = some m.cls := hown
  have hl : lv_has ls 7 [(0, .ref (a 2)), (1, .ref (a 134))] := hl
  have hS : va_S (aA 203 a s.heap.size) s.heap s.heap [] := va_S.rf
  have iX2 : ∀ w ∈ wsX20, w ∈ wsX3_readInto := fun w h => List.mem_cons_of_mem _ (List.mem_append_right _ h)
  have iX3 : ∀ w ∈ wsX30, w ∈ wsX3_readInto := fun w h => List.mem_cons_of_mem _ (List.mem_append_left _ (List.mem_append_right _ h))
  have w19 := hts (.fieldLink RX3 19 "StepRiders$Tape" "fault" "I") (by decide +kernel)
  have w15 := hts (.fieldLink RX3 15 "StepRiders$Tape" "length" "I") (by decide +kernel)
  have w35 := hts (.fieldLink RX3 35 "StepRiders$Stair" "riders" "I") (by decide +kernel)
  have w38 := hts (.constant RX3 38 (-1000000)) (by decide +kernel)
  obtain ⟨Qz, hQz⟩ : ∃ Qz : State → Prop, Qz = MQ below (qI g (wl 203 a (eX g a M')) r (aA 203 a s.heap.size)) args s 0 0 (aA 203 a s.heap.size) := ⟨_, rfl⟩
  rw [← hQz]
  have B91 : ∀ (x2 : Int32) (M : Mem) (H : Heap) (locs : List Loc) (ls : Array Slot), fX3_readInto_b91 x2 M = some (r, M') → va_P g.1 vwCl (wl 203 a (eX g a M)) H → va_S (aA 203 a s.heap.size) s.heap H locs → lv_has ls 7 [(0, .ref (a 2)), (1, .ref (a 134)), (2, .int x2)] → W p l e rmX3_readInto s m args below meth c H locs 0 0 Qz (F0 m 91 ls []) := by
    intro x2 M H locs ls h hP hS hl
    unfold fX3_readInto_b91 at h
    refine lv_iload_n hx hb dX3_readInto_91 rfl (lv_at hl 2 rfl) ?_
    refine lv_iconst (v := 5) hx hb dX3_readInto_92 (by decide) ?_
    refine lv_icmp_ne (x := x2) (y := 5) (tgt := 103) hx hb dX3_readInto_93 (by decide) (fun q1 => ?_) (fun q1 => ?_)
    · replace h := if_f q1 h
      refine lv_aload_n hx hb dX3_readInto_103 rfl (lv_at hl 0 rfl) ?_
      refine lv_iconst (v := 1) hx hb dX3_readInto_104 (by decide) ?_
      refine r_put (v := .int 1) (ty := .int) (f' := eX g a (mp M 2 2 1)) hx hb hts iX3 tyX3 tyX3_ok nmX3 hown hK hI (fun _ h => aA_in h) hP hS 2 (by decide) eX_2 rfl 2 (by decide) w19 rfl (by decide +kernel) rfl rfl (Nat.le_of_ble_eq_true rfl) eX_pTape2 dX3_readInto_105 (fun H locs hP hS => ?_)
      refine lv_aload_n hx hb dX3_readInto_108 rfl (lv_at hl 0 rfl) ?_
      refine r_get (v := .int ((mp M 2 2 1) 2 1)) hx hb hts iX3 hown hK hP 2 (by decide) eX_2 rfl 1 (by decide) w15 rfl dX3_readInto_109 ?_
      rw [hQz]
      exact r_iret (v := ((mp M 2 2 1) 2 1)) hx hb hr hlk hS ((Prod.mk.inj (Option.some.inj h)).2 ▸ hP) (Prod.mk.inj (Option.some.inj h)).1 dX3_readInto_112
    · replace h := if_t q1 h
      refine lv_aload_n hx hb dX3_readInto_96 rfl (lv_at hl 1 rfl) ?_
      refine r_get (v := .int (M 134 3)) hx hb hts iX2 hown hK hP 134 (isSt_lt (c := 134) (by decide) 0 (by decide)) (eX_Stair (c := 134) (by decide)) rfl 3 (by decide) w35 rfl dX3_readInto_97 ?_
      refine lv_if_ne (x := (M 134 3)) (tgt := 113) hx hb dX3_readInto_100 (by decide) (fun q2 => ?_) (fun q2 => ?_)
      · replace h := if_f q2 h
        refine lv_ldc (v := (-1000000)) hx hb hown w38 dX3_readInto_113 ?_
        rw [hQz]
        exact r_iret (v := (-1000000)) hx hb hr hlk hS ((Prod.mk.inj (Option.some.inj h)).2 ▸ hP) (Prod.mk.inj (Option.some.inj h)).1 dX3_readInto_115
      · replace h := if_t q2 h
        refine lv_aload_n hx hb dX3_readInto_103 rfl (lv_at hl 0 rfl) ?_
        refine lv_iconst (v := 1) hx hb dX3_readInto_104 (by decide) ?_
        refine r_put (v := .int 1) (ty := .int) (f' := eX g a (mp M 2 2 1)) hx hb hts iX3 tyX3 tyX3_ok nmX3 hown hK hI (fun _ h => aA_in h) hP hS 2 (by decide) eX_2 rfl 2 (by decide) w19 rfl (by decide +kernel) rfl rfl (Nat.le_of_ble_eq_true rfl) eX_pTape2 dX3_readInto_105 (fun H locs hP hS => ?_)
        refine lv_aload_n hx hb dX3_readInto_108 rfl (lv_at hl 0 rfl) ?_
        refine r_get (v := .int ((mp M 2 2 1) 2 1)) hx hb hts iX3 hown hK hP 2 (by decide) eX_2 rfl 1 (by decide) w15 rfl dX3_readInto_109 ?_
        rw [hQz]
        exact r_iret (v := ((mp M 2 2 1) 2 1)) hx hb hr hlk hS ((Prod.mk.inj (Option.some.inj h)).2 ▸ hP) (Prod.mk.inj (Option.some.inj h)).1 dX3_readInto_112
  have B79 : ∀ (k11 : Int32 → Int32 → Int32 → Mem → Option (Int32 × Mem)) (C11 : ∀ (x2 : Int32) (x3 : Int32) (x4 : Int32) (M : Mem) (H : Heap) (locs : List Loc) (ls : Array Slot), k11 x2 x3 x4 M = some (r, M') → va_P g.1 vwCl (wl 203 a (eX g a M)) H → va_S (aA 203 a s.heap.size) s.heap H locs → lv_has ls 7 [(0, .ref (a 2)), (1, .ref (a 134)), (2, .int x2), (3, .int x3), (4, .int x4)] → W p l e rmX3_readInto s m args below meth c H locs 0 0 Qz (F0 m 11 ls [])), ∀ (x3 : Int32) (x4 : Int32) (x5 : Int32) (s0 : Int32) (M : Mem) (H : Heap) (locs : List Loc) (ls : Array Slot), fX3_readInto_b79 k11 x3 x4 x5 s0 M = some (r, M') → va_P g.1 vwCl (wl 203 a (eX g a M)) H → va_S (aA 203 a s.heap.size) s.heap H locs → lv_has ls 7 [(0, .ref (a 2)), (1, .ref (a 134)), (3, .int x3), (4, .int x4), (5, .int x5)] → W p l e rmX3_readInto s m args below meth c H locs 0 0 Qz (F0 m 79 ls [.int s0]) := by
    intro k11 C11 x3 x4 x5 s0 M H locs ls h hP hS hl
    unfold fX3_readInto_b79 at h
    refine lv_istore_n (lv' := [(2, .int s0), (0, .ref (a 2)), (1, .ref (a 134)), (3, .int x3), (4, .int x4), (5, .int x5)]) hx hb dX3_readInto_79 rfl hl (by decide) rfl (fun ls hl => ?_)
    refine lv_iload_n hx hb dX3_readInto_80 rfl (lv_at hl 3 rfl) ?_
    refine lv_iload hx hb dX3_readInto_81 (lv_at hl 5 rfl) ?_
    refine lv_iadd (x := x3) (y := x5) hx hb dX3_readInto_83 ?_
    refine lv_istore_n (lv' := [(3, .int (x3 + x5)), (2, .int s0), (0, .ref (a 2)), (1, .ref (a 134)), (4, .int x4), (5, .int x5)]) hx hb dX3_readInto_84 rfl hl (by decide) rfl (fun ls hl => ?_)
    refine lv_iinc (v := (x4 + 1)) (lv' := [(4, .int (x4 + 1)), (3, .int (x3 + x5)), (2, .int s0), (0, .ref (a 2)), (1, .ref (a 134)), (5, .int x5)]) hx hb dX3_readInto_85 hl (k := 4) rfl rfl (by decide) rfl (fun ls hl => ?_)
    refine lv_goto (tgt := 11) hx hb dX3_readInto_88 (by decide) ?_
    exact C11 s0 (x3 + x5) (x4 + 1) M _ _ _ h hP hS (lv_sub hl [3, 4, 2, 1, 0] rfl)
  have B51 : ∀ (k11 : Int32 → Int32 → Int32 → Mem → Option (Int32 × Mem)) (C11 : ∀ (x2 : Int32) (x3 : Int32) (x4 : Int32) (M : Mem) (H : Heap) (locs : List Loc) (ls : Array Slot), k11 x2 x3 x4 M = some (r, M') → va_P g.1 vwCl (wl 203 a (eX g a M)) H → va_S (aA 203 a s.heap.size) s.heap H locs → lv_has ls 7 [(0, .ref (a 2)), (1, .ref (a 134)), (2, .int x2), (3, .int x3), (4, .int x4)] → W p l e rmX3_readInto s m args below meth c H locs 0 0 Qz (F0 m 11 ls [])), ∀ (x2 : Int32) (x3 : Int32) (x4 : Int32) (x5 : Int32) (s0 : Int32) (M : Mem) (H : Heap) (locs : List Loc) (ls : Array Slot), fX3_readInto_b51 k11 x2 x3 x4 x5 s0 M = some (r, M') → va_P g.1 vwCl (wl 203 a (eX g a M)) H → va_S (aA 203 a s.heap.size) s.heap H locs → lv_has ls 7 [(0, .ref (a 2)), (1, .ref (a 134)), (2, .int x2), (3, .int x3), (4, .int x4), (5, .int x5)] → W p l e rmX3_readInto s m args below meth c H locs 0 0 Qz (F0 m 51 ls [.int s0]) := by
    intro k11 C11 x2 x3 x4 x5 s0 M H locs ls h hP hS hl
    unfold fX3_readInto_b51 at h
    refine lv_istore (lv' := [(6, .int s0), (0, .ref (a 2)), (1, .ref (a 134)), (2, .int x2), (3, .int x3), (4, .int x4), (5, .int x5)]) hx hb dX3_readInto_51 hl (by decide) rfl (fun ls hl => ?_)
    refine lv_iload hx hb dX3_readInto_53 (lv_at hl 0 rfl) ?_
    refine lv_if_eq (x := s0) (tgt := 66) hx hb dX3_readInto_55 (by decide) (fun q1 => ?_) (fun q1 => ?_)
    · replace h := if_t q1 h
      refine lv_iload_n hx hb dX3_readInto_66 rfl (lv_at hl 3 rfl) ?_
      refine lv_bipush (v := 7) hx hb dX3_readInto_67 (by decide) ?_
      refine lv_icmp_ne (x := x2) (y := 7) (tgt := 76) hx hb dX3_readInto_69 (by decide) (fun q2 => ?_) (fun q2 => ?_)
      · replace h := if_f q2 h
        refine lv_iload_n hx hb dX3_readInto_76 rfl (lv_at hl 3 rfl) ?_
        refine lv_iconst (v := 1) hx hb dX3_readInto_77 (by decide) ?_
        refine lv_iadd (x := x2) (y := 1) hx hb dX3_readInto_78 ?_
        exact B79 k11 C11 x3 x4 x5 (x2 + 1) M _ _ _ h hP hS (lv_sub hl [1, 2, 4, 5, 6] rfl)
      · replace h := if_t q2 h
        refine lv_iconst (v := 5) hx hb dX3_readInto_72 (by decide) ?_
        refine lv_goto (tgt := 79) hx hb dX3_readInto_73 (by decide) ?_
        exact B79 k11 C11 x3 x4 x5 5 M _ _ _ h hP hS (lv_sub hl [1, 2, 4, 5, 6] rfl)
    · replace h := if_f q1 h
      refine lv_aload_n hx hb dX3_readInto_58 rfl (lv_at hl 1 rfl) ?_
      refine lv_iload hx hb dX3_readInto_59 (lv_at hl 0 rfl) ?_
      refine r_put (v := .int s0) (ty := .int) (f' := eX g a (mp M 2 2 s0)) hx hb hts iX3 tyX3 tyX3_ok nmX3 hown hK hI (fun _ h => aA_in h) hP hS 2 (by decide) eX_2 rfl 2 (by decide) w19 rfl (by decide +kernel) rfl rfl (Nat.le_of_ble_eq_true rfl) eX_pTape2 dX3_readInto_61 (fun H locs hP hS => ?_)
      refine lv_iload_n hx hb dX3_readInto_64 rfl (lv_at hl 4 rfl) ?_
      rw [hQz]
      exact r_iret (v := x3) hx hb hr hlk hS ((Prod.mk.inj (Option.some.inj h)).2 ▸ hP) (Prod.mk.inj (Option.some.inj h)).1 dX3_readInto_65
  have B11 : ∀ (k11 : Int32 → Int32 → Int32 → Mem → Option (Int32 × Mem)) (C11 : ∀ (x2 : Int32) (x3 : Int32) (x4 : Int32) (M : Mem) (H : Heap) (locs : List Loc) (ls : Array Slot), k11 x2 x3 x4 M = some (r, M') → va_P g.1 vwCl (wl 203 a (eX g a M)) H → va_S (aA 203 a s.heap.size) s.heap H locs → lv_has ls 7 [(0, .ref (a 2)), (1, .ref (a 134)), (2, .int x2), (3, .int x3), (4, .int x4)] → W p l e rmX3_readInto s m args below meth c H locs 0 0 Qz (F0 m 11 ls [])), ∀ (x2 : Int32) (x3 : Int32) (x4 : Int32) (M : Mem) (H : Heap) (locs : List Loc) (ls : Array Slot), fX3_readInto_b11 k11 x2 x3 x4 M = some (r, M') → va_P g.1 vwCl (wl 203 a (eX g a M)) H → va_S (aA 203 a s.heap.size) s.heap H locs → lv_has ls 7 [(0, .ref (a 2)), (1, .ref (a 134)), (2, .int x2), (3, .int x3), (4, .int x4)] → W p l e rmX3_readInto s m args below meth c H locs 0 0 Qz (F0 m 11 ls []) := by
    intro k11 C11 x2 x3 x4 M H locs ls h hP hS hl
    unfold fX3_readInto_b11 at h
    refine lv_iload hx hb dX3_readInto_11 (lv_at hl 4 rfl) ?_
    refine lv_bipush (v := 90) hx hb dX3_readInto_13 (by decide) ?_
    refine lv_icmp_ge (x := x4) (y := 90) (tgt := 91) hx hb dX3_readInto_15 (by decide) (fun q1 => ?_) (fun q1 => ?_)
    · replace h := if_t q1 h
      exact B91 x2 M _ _ _ h hP hS (lv_sub hl [0, 1, 2] rfl)
    · replace h := if_f q1 h
      refine lv_iload_n hx hb dX3_readInto_18 rfl (lv_at hl 3 rfl) ?_
      refine lv_aload_n hx hb dX3_readInto_19 rfl (lv_at hl 0 rfl) ?_
      refine r_get (v := .int (M 2 1)) hx hb hts iX3 hown hK hP 2 (by decide) eX_2 rfl 1 (by decide) w15 rfl dX3_readInto_20 ?_
      refine lv_icmp_ge (x := x3) (y := (M 2 1)) (tgt := 91) hx hb dX3_readInto_23 (by decide) (fun q2 => ?_) (fun q2 => ?_)
      · replace h := if_t q2 h
        exact B91 x2 M _ _ _ h hP hS (lv_sub hl [0, 1, 2] rfl)
      · replace h := if_f q2 h
        refine lv_aload_n hx hb dX3_readInto_26 rfl (lv_at hl 0 rfl) ?_
        refine lv_iload_n hx hb dX3_readInto_27 rfl (lv_at hl 3 rfl) ?_
        obtain ⟨r3, e4, h⟩ := bdP_ok h
        refine r_callVi (As := [.int x3]) (rest := []) (ws' := (wl 203 a (eX g a M))) (ok_X3_widthOfToken l g a hI x3 M r3 e4) ⟨hx, hb, hml, hown, hts⟩ (cwV 1 hts gX3_readInto_X3_widthOfToken rfl rfl rfl (by decide +kernel) ⟨Nat.le_of_ble_eq_true rfl, Nat.le_of_ble_eq_true rfl⟩) hK (r_recv hK hP 2 (by decide) eX_2 (show vwCl[3]? = some (RX3, TX3, 3) from rfl)) hS hP (fun _ hq => aA_mono hS.1 hq) (fun _ h _ => h) rfl hl.1 rfl (Nat.le_of_ble_eq_true rfl) dX3_readInto_28 ⟨Nat.zero_le _, Nat.zero_le _⟩ (fun H locs hP hS => ?_)
        refine lv_istore (lv' := [(5, .int r3), (0, .ref (a 2)), (1, .ref (a 134)), (2, .int x2), (3, .int x3), (4, .int x4)]) hx hb dX3_readInto_31 hl (by decide) rfl (fun ls hl => ?_)
        refine lv_iload hx hb dX3_readInto_33 (lv_at hl 0 rfl) ?_
        refine lv_if_ne (x := r3) (tgt := 42) hx hb dX3_readInto_35 (by decide) (fun q5 => ?_) (fun q5 => ?_)
        · replace h := if_f q5 h
          refine lv_aload_n hx hb dX3_readInto_42 rfl (lv_at hl 1 rfl) ?_
          refine lv_iload_n hx hb dX3_readInto_43 rfl (lv_at hl 3 rfl) ?_
          refine lv_iload_n hx hb dX3_readInto_44 rfl (lv_at hl 4 rfl) ?_
          refine lv_iload hx hb dX3_readInto_45 (lv_at hl 0 rfl) ?_
          refine lv_aload_n hx hb dX3_readInto_47 rfl (lv_at hl 2 rfl) ?_
          obtain ⟨r6, M8, e7, h⟩ := bdI_ok h
          refine r_callVi (As := [.int x2, .int x3, .int r3, .ref (a 134)]) (rest := []) (ws' := (wl 203 a (eX g a M8))) (ok_X3_accept l g a hI x2 x3 r3 M M8 r6 e7) ⟨hx, hb, hml, hown, hts⟩ (cwV 4 hts gX3_readInto_X3_accept rfl rfl rfl (by decide +kernel) ⟨Nat.le_of_ble_eq_true rfl, Nat.le_of_ble_eq_true rfl⟩) hK (r_recv hK hP 2 (by decide) eX_2 (show vwCl[3]? = some (RX3, TX3, 3) from rfl)) hS hP (fun _ hq => aA_mono hS.1 hq) (fun _ h _ => h) rfl hl.1 rfl (Nat.le_of_ble_eq_true rfl) dX3_readInto_48 ⟨Nat.zero_le _, Nat.zero_le _⟩ (fun H locs hP hS => ?_)
          exact B51 k11 C11 x2 x3 x4 r3 r6 M8 _ _ _ h hP hS (lv_sub hl [1, 2, 3, 4, 5, 0] rfl)
        · replace h := if_t q5 h
          refine lv_iconst (v := 1) hx hb dX3_readInto_38 (by decide) ?_
          refine lv_goto (tgt := 51) hx hb dX3_readInto_39 (by decide) ?_
          exact B51 k11 C11 x2 x3 x4 r3 1 M _ _ _ h hP hS (lv_sub hl [1, 2, 3, 4, 5, 0] rfl)
  have L11 : ∀ (n : Nat), ∀ (x2 : Int32) (x3 : Int32) (x4 : Int32) (M : Mem) (H : Heap) (locs : List Loc) (ls : Array Slot), fX3_readInto_l11 n x2 x3 x4 M = some (r, M') → va_P g.1 vwCl (wl 203 a (eX g a M)) H → va_S (aA 203 a s.heap.size) s.heap H locs → lv_has ls 7 [(0, .ref (a 2)), (1, .ref (a 134)), (2, .int x2), (3, .int x3), (4, .int x4)] → W p l e rmX3_readInto s m args below meth c H locs 0 0 Qz (F0 m 11 ls []) := by
    intro n
    induction n with
    | zero => intro x2 x3 x4 M H locs ls h; exact absurd (show (none : Option (Int32 × Mem)) = some _ from h) (fun z => by cases z)
    | succ n ih => exact fun x2 x3 x4 M H locs ls h hP hS hl => B11 (fX3_readInto_l11 n) ih x2 x3 x4 M H locs ls h hP hS hl
  unfold fX3_readInto at h
  refine lv_aload_n hx hb dX3_readInto_0 rfl (lv_at hl 1 rfl) ?_
  obtain ⟨M3, e2, h⟩ := bdV_ok h
  refine r_callVv (As := []) (rest := []) (ws' := (wl 203 a (eX g a (pS M 134 M3)))) (ok_X2_empty l g (gA a 134) (gA_ij (c := 134) (by decide) hI) (gS M 134) M3 e2) ⟨hx, hb, hml, hown, hts⟩ (cwV 0 hts gX3_readInto_X2_empty rfl rfl rfl (by decide +kernel) ⟨Nat.le_of_ble_eq_true rfl, Nat.le_of_ble_eq_true rfl⟩) hK (r_recv hK hP 134 (isSt_lt (c := 134) (by decide) 0 (by decide)) (eX_Stair (c := 134) (by decide)) (show vwCl[2]? = some (RX2, TX2, 8) from rfl)) hS (S_cut (c := 134) (by decide) hP) (S_A (c := 134) (by decide) hS.1) (S_join (c := 134) (by decide) hI hP) rfl hl.1 rfl (Nat.le_of_ble_eq_true rfl) dX3_readInto_1 ⟨Nat.zero_le _, Nat.zero_le _⟩ (fun H locs hP hS => ?_)
  refine lv_iconst (v := 0) hx hb dX3_readInto_4 (by decide) ?_
  refine lv_istore_n (lv' := [(2, .int 0), (0, .ref (a 2)), (1, .ref (a 134))]) hx hb dX3_readInto_5 rfl hl (by decide) rfl (fun ls hl => ?_)
  refine lv_iconst (v := 0) hx hb dX3_readInto_6 (by decide) ?_
  refine lv_istore_n (lv' := [(3, .int 0), (2, .int 0), (0, .ref (a 2)), (1, .ref (a 134))]) hx hb dX3_readInto_7 rfl hl (by decide) rfl (fun ls hl => ?_)
  refine lv_iconst (v := 0) hx hb dX3_readInto_8 (by decide) ?_
  refine lv_istore (lv' := [(4, .int 0), (3, .int 0), (2, .int 0), (0, .ref (a 2)), (1, .ref (a 134))]) hx hb dX3_readInto_9 hl (by decide) rfl (fun ls hl => ?_)
  exact L11 FU 0 0 0 (pS M 134 M3) _ _ _ h hP hS (lv_sub hl [3, 4, 2, 1, 0] rfl)
