def rmX2_nextInTurn : Room := { frames := 1, cells := 0, slots := 0, locals := 60 }
set_option maxHeartbeats 4000000 in
set_option maxRecDepth 100000 in
theorem ok_X2_nextInTurn (l : Launch) (g : gT) (a : Nat → Nat) (hI : ij 5 a) (M : Mem) (r : Int32) (h : fX2_nextInTurn M = some r) : MI l yX2_nextInTurn wsX2_nextInTurn rmX2_nextInTurn g 5 a [.ref (a 0)] (wl 5 a (eS g a M)) (wl 5 a (eS g a M)) r := by
  refine MI_of (cc := cX2_nextInTurn) (maxL := 4) (rt := .int) (by decide) rfl (Nat.le_of_ble_eq_true rfl) ?_
  intro p e s m args below meth c ls hx hb hml hr hlk hts hown hK hP hl
  have hown : s.vm.findClass RX2 = some m.cls := hown
  have hl : lv_has ls 4 [(0, .ref (a 0))] := hl
  have hS : va_S (aA 5 a s.heap.size) s.heap s.heap [] := va_S.rf
  have iX2 : ∀ w ∈ wsX20, w ∈ wsX2_nextInTurn := fun w h => List.mem_cons_of_mem _ (List.mem_append_right _ h)
  have w21 := hts (.fieldLink RX2 21 "StepRiders$Stair" "riders" "I") (by decide +kernel)
  have w34 := hts (.fieldLink RX2 34 "StepRiders$Stair" "turn" "[I") (by decide +kernel)
  have w81 := hts (.constant RX2 81 (-1000000)) (by decide +kernel)
  obtain ⟨Qz, hQz⟩ : ∃ Qz : State → Prop, Qz = MQ below (qI g (wl 5 a (eS g a M)) r (aA 5 a s.heap.size)) args s 0 0 (aA 5 a s.heap.size) := ⟨_, rfl⟩
  rw [← hQz]
  have B34 : ∀ (k7 : Int32 → Int32 → Int32 → Option (Int32)) (C7 : ∀ (x1 : Int32) (x2 : Int32) (x3 : Int32) (H : Heap) (locs : List Loc) (ls : Array Slot), k7 x1 x2 x3 = some r → va_P g.1 vwCl (wl 5 a (eS g a M)) H → va_S (aA 5 a s.heap.size) s.heap H locs → lv_has ls 4 [(0, .ref (a 0)), (1, .int x1), (2, .int x2), (3, .int x3)] → W p l e rmX2_nextInTurn s m args below meth c H locs 0 0 Qz (F0 m 7 ls [])), ∀ (x1 : Int32) (x2 : Int32) (x3 : Int32) (H : Heap) (locs : List Loc) (ls : Array Slot), fX2_nextInTurn_b34 M k7 x1 x2 x3 = some r → va_P g.1 vwCl (wl 5 a (eS g a M)) H → va_S (aA 5 a s.heap.size) s.heap H locs → lv_has ls 4 [(0, .ref (a 0)), (1, .int x1), (2, .int x2), (3, .int x3)] → W p l e rmX2_nextInTurn s m args below meth c H locs 0 0 Qz (F0 m 34 ls []) := by
    intro k7 C7 x1 x2 x3 H locs ls h hP hS hl
    unfold fX2_nextInTurn_b34 at h
    refine lv_iinc (v := (x3 + 1)) (lv' := [(3, .int (x3 + 1)), (0, .ref (a 0)), (1, .int x1), (2, .int x2)]) hx hb dX2_nextInTurn_34 hl (k := 3) rfl rfl (by decide) rfl (fun ls hl => ?_)
    refine lv_goto (tgt := 7) hx hb dX2_nextInTurn_37 (by decide) ?_
    exact C7 x1 x2 (x3 + 1) _ _ _ h hP hS (lv_sub hl [1, 2, 3, 0] rfl)
  have B7 : ∀ (k7 : Int32 → Int32 → Int32 → Option (Int32)) (C7 : ∀ (x1 : Int32) (x2 : Int32) (x3 : Int32) (H : Heap) (locs : List Loc) (ls : Array Slot), k7 x1 x2 x3 = some r → va_P g.1 vwCl (wl 5 a (eS g a M)) H → va_S (aA 5 a s.heap.size) s.heap H locs → lv_has ls 4 [(0, .ref (a 0)), (1, .int x1), (2, .int x2), (3, .int x3)] → W p l e rmX2_nextInTurn s m args below meth c H locs 0 0 Qz (F0 m 7 ls [])), ∀ (x1 : Int32) (x2 : Int32) (x3 : Int32) (H : Heap) (locs : List Loc) (ls : Array Slot), fX2_nextInTurn_b7 M k7 x1 x2 x3 = some r → va_P g.1 vwCl (wl 5 a (eS g a M)) H → va_S (aA 5 a s.heap.size) s.heap H locs → lv_has ls 4 [(0, .ref (a 0)), (1, .int x1), (2, .int x2), (3, .int x3)] → W p l e rmX2_nextInTurn s m args below meth c H locs 0 0 Qz (F0 m 7 ls []) := by
    intro k7 C7 x1 x2 x3 H locs ls h hP hS hl
    unfold fX2_nextInTurn_b7 at h
    refine lv_iload_n hx hb dX2_nextInTurn_7 rfl (lv_at hl 3 rfl) ?_
    refine lv_aload_n hx hb dX2_nextInTurn_8 rfl (lv_at hl 0 rfl) ?_
    refine r_get (v := .int (M 0 3)) hx hb hts iX2 hown hK hP 0 (by decide) eS_0 rfl 3 (by decide) w21 rfl dX2_nextInTurn_9 ?_
    refine lv_icmp_ge (x := x3) (y := (M 0 3)) (tgt := 40) hx hb dX2_nextInTurn_12 (by decide) (fun q1 => ?_) (fun q1 => ?_)
    · replace h := if_t q1 h
      refine lv_iload_n hx hb dX2_nextInTurn_40 rfl (lv_at hl 1 rfl) ?_
      rw [hQz]
      exact r_iret (v := x1) hx hb hr hlk hS hP (Option.some.inj h) dX2_nextInTurn_41
    · replace h := if_f q1 h
      refine lv_aload_n hx hb dX2_nextInTurn_15 rfl (lv_at hl 0 rfl) ?_
      refine r_get (v := .ref (a 4)) hx hb hts iX2 hown hK hP 0 (by decide) eS_0 rfl 7 (by decide) w34 rfl dX2_nextInTurn_16 ?_
      refine lv_iload_n hx hb dX2_nextInTurn_19 rfl (lv_at hl 3 rfl) ?_
      obtain ⟨q2, h⟩ := chk_ok h
      refine r_iald (i := x3) (h := M 4) hx hb hK hP 4 (by decide) (eS_a (by decide)) q2 dX2_nextInTurn_20 ?_
      refine lv_iload_n hx hb dX2_nextInTurn_21 rfl (lv_at hl 2 rfl) ?_
      refine lv_icmp_le (x := (M 4 (Int32.toNatClampNeg x3))) (y := x2) (tgt := 34) hx hb dX2_nextInTurn_22 (by decide) (fun q3 => ?_) (fun q3 => ?_)
      · replace h := if_t q3 h
        exact B34 k7 C7 x1 x2 x3 _ _ _ h hP hS (lv_sub hl [0, 1, 2, 3] rfl)
      · replace h := if_f q3 h
        refine lv_aload_n hx hb dX2_nextInTurn_25 rfl (lv_at hl 0 rfl) ?_
        refine r_get (v := .ref (a 4)) hx hb hts iX2 hown hK hP 0 (by decide) eS_0 rfl 7 (by decide) w34 rfl dX2_nextInTurn_26 ?_
        refine lv_iload_n hx hb dX2_nextInTurn_29 rfl (lv_at hl 3 rfl) ?_
        obtain ⟨q4, h⟩ := chk_ok h
        refine r_iald (i := x3) (h := M 4) hx hb hK hP 4 (by decide) (eS_a (by decide)) q4 dX2_nextInTurn_30 ?_
        refine lv_istore_n (lv' := [(2, .int (M 4 (Int32.toNatClampNeg x3))), (0, .ref (a 0)), (1, .int x1), (3, .int x3)]) hx hb dX2_nextInTurn_31 rfl hl (by decide) rfl (fun ls hl => ?_)
        refine lv_iload_n hx hb dX2_nextInTurn_32 rfl (lv_at hl 3 rfl) ?_
        refine lv_istore_n (lv' := [(1, .int x3), (2, .int (M 4 (Int32.toNatClampNeg x3))), (0, .ref (a 0)), (3, .int x3)]) hx hb dX2_nextInTurn_33 rfl hl (by decide) rfl (fun ls hl => ?_)
        exact B34 k7 C7 x3 (M 4 (Int32.toNatClampNeg x3)) x3 _ _ _ h hP hS (lv_sub hl [2, 0, 1, 3] rfl)
  have L7 : ∀ (n : Nat), ∀ (x1 : Int32) (x2 : Int32) (x3 : Int32) (H : Heap) (locs : List Loc) (ls : Array Slot), fX2_nextInTurn_l7 M n x1 x2 x3 = some r → va_P g.1 vwCl (wl 5 a (eS g a M)) H → va_S (aA 5 a s.heap.size) s.heap H locs → lv_has ls 4 [(0, .ref (a 0)), (1, .int x1), (2, .int x2), (3, .int x3)] → W p l e rmX2_nextInTurn s m args below meth c H locs 0 0 Qz (F0 m 7 ls []) := by
    intro n
    induction n with
    | zero => intro x1 x2 x3 H locs ls h; exact absurd (show (none : Option (Int32)) = some _ from h) (fun z => by cases z)
    | succ n ih => exact fun x1 x2 x3 H locs ls h hP hS hl => B7 (fX2_nextInTurn_l7 M n) ih x1 x2 x3 H locs ls h hP hS hl
  unfold fX2_nextInTurn at h
  refine lv_ldc (v := (-1000000)) hx hb hown w81 dX2_nextInTurn_0 ?_
  refine lv_istore_n (lv' := [(1, .int (-1000000)), (0, .ref (a 0))]) hx hb dX2_nextInTurn_2 rfl hl (by decide) rfl (fun ls hl => ?_)
  refine lv_iconst (v := (-1)) hx hb dX2_nextInTurn_3 (by decide) ?_
  refine lv_istore_n (lv' := [(2, .int (-1)), (1, .int (-1000000)), (0, .ref (a 0))]) hx hb dX2_nextInTurn_4 rfl hl (by decide) rfl (fun ls hl => ?_)
  refine lv_iconst (v := 0) hx hb dX2_nextInTurn_5 (by decide) ?_
  refine lv_istore_n (lv' := [(3, .int 0), (2, .int (-1)), (1, .int (-1000000)), (0, .ref (a 0))]) hx hb dX2_nextInTurn_6 rfl hl (by decide) rfl (fun ls hl => ?_)
  exact L7 FU (-1000000) (-1) 0 _ _ _ h hP hS (lv_sub hl [3, 2, 1, 0] rfl)
def rmX2_go : Room := { frames := 3, cells := 0, slots := 0, locals := 106 }
set_option maxHeartbeats 4000000 in
set_option maxRecDepth 100000 in
theorem ok_X2_go (l : Launch) (g : gT) (a : Nat → Nat) (hI : ij 5 a) (p1 : Int32) (M : Mem) (M' : Mem) (h : fX2_go p1 M = some M') : MV l yX2_go wsX2_go rmX2_go g 5 a [.ref (a 0), .int p1] (wl 5 a (eS g a M)) (wl 5 a (eS g a M')) := by
  refine MV_of (cc := cX2_go) (maxL := 5) (by decide) rfl (Nat.le_of_ble_eq_true rfl) ?_
  intro p e s m args below meth c ls hx hb hml hr hlk hts hown hK hP hl
  have hown : s.vm.findClass RX2 = some m.cls := hown
  have hl : lv_has ls 5 [(0, .ref (a 0)), (1, .int p1)] := hl
  have hS : va_S (aA 5 a s.heap.size) s.heap s.heap [] := va_S.rf
  have iX2 : ∀ w ∈ wsX20, w ∈ wsX2_go := fun w h => List.mem_cons_of_mem _ (List.mem_append_right _ h)
  have w31 := hts (.fieldLink RX2 31 "StepRiders$Stair" "at" "[I") (by decide +kernel)
  have w24 := hts (.fieldLink RX2 24 "StepRiders$Stair" "kind" "[I") (by decide +kernel)
  obtain ⟨Qz, hQz⟩ : ∃ Qz : State → Prop, Qz = MQ below (qV g (wl 5 a (eS g a M')) (aA 5 a s.heap.size)) args s 0 0 (aA 5 a s.heap.size) := ⟨_, rfl⟩
  rw [← hQz]
  have B35 : ∀ (k35 : Int32 → Int32 → Int32 → Mem → Option (Mem)) (C35 : ∀ (x2 : Int32) (x3 : Int32) (x4 : Int32) (M : Mem) (H : Heap) (locs : List Loc) (ls : Array Slot), k35 x2 x3 x4 M = some M' → va_P g.1 vwCl (wl 5 a (eS g a M)) H → va_S (aA 5 a s.heap.size) s.heap H locs → lv_has ls 5 [(0, .ref (a 0)), (1, .int p1), (2, .int x2), (3, .int x3), (4, .int x4)] → W p l e rmX2_go s m args below meth c H locs 0 0 Qz (F0 m 35 ls [])), ∀ (x2 : Int32) (x3 : Int32) (x4 : Int32) (M : Mem) (H : Heap) (locs : List Loc) (ls : Array Slot), fX2_go_b35 p1 k35 x2 x3 x4 M = some M' → va_P g.1 vwCl (wl 5 a (eS g a M)) H → va_S (aA 5 a s.heap.size) s.heap H locs → lv_has ls 5 [(0, .ref (a 0)), (1, .int p1), (2, .int x2), (3, .int x3), (4, .int x4)] → W p l e rmX2_go s m args below meth c H locs 0 0 Qz (F0 m 35 ls []) := by
    intro k35 C35 x2 x3 x4 M H locs ls h hP hS hl
    unfold fX2_go_b35 at h
    refine lv_iload hx hb dX2_go_35 (lv_at hl 4 rfl) ?_
    refine lv_iload_n hx hb dX2_go_37 rfl (lv_at hl 3 rfl) ?_
    refine lv_icmp_ge (x := x4) (y := x3) (tgt := 76) hx hb dX2_go_38 (by decide) (fun q1 => ?_) (fun q1 => ?_)
    · replace h := if_t q1 h
      rw [hQz]
      exact r_vret hx hb hr hlk hS (Option.some.inj h ▸ hP) dX2_go_76
    · replace h := if_f q1 h
      refine lv_aload_n hx hb dX2_go_41 rfl (lv_at hl 0 rfl) ?_
      refine lv_iload_n hx hb dX2_go_42 rfl (lv_at hl 1 rfl) ?_
      refine lv_aload_n hx hb dX2_go_43 rfl (lv_at hl 0 rfl) ?_
      refine r_get (v := .ref (a 3)) hx hb hts iX2 hown hK hP 0 (by decide) eS_0 rfl 6 (by decide) w31 rfl dX2_go_44 ?_
      refine lv_iload_n hx hb dX2_go_47 rfl (lv_at hl 1 rfl) ?_
      obtain ⟨q2, h⟩ := chk_ok h
      refine r_iald (i := p1) (h := M 3) hx hb hK hP 3 (by decide) (eS_a (by decide)) q2 dX2_go_48 ?_
      refine lv_iload_n hx hb dX2_go_49 rfl (lv_at hl 2 rfl) ?_
      refine lv_iadd (x := (M 3 (Int32.toNatClampNeg p1))) (y := x2) hx hb dX2_go_50 ?_
      obtain ⟨r3, e4, h⟩ := bdP_ok h
      refine r_callVi (As := [.int p1, .int ((M 3 (Int32.toNatClampNeg p1)) + x2)]) (rest := []) (ws' := (wl 5 a (eS g a M))) (ok_X2_mayGo l g a hI p1 ((M 3 (Int32.toNatClampNeg p1)) + x2) M r3 e4) ⟨hx, hb, hml, hown, hts⟩ (cwV 2 hts gX2_go_X2_mayGo rfl rfl rfl (by decide +kernel) ⟨Nat.le_of_ble_eq_true rfl, Nat.le_of_ble_eq_true rfl⟩) hK (r_recv hK hP 0 (by decide) eS_0 (show vwCl[2]? = some (RX2, TX2, 8) from rfl)) hS hP (fun _ hq => aA_mono hS.1 hq) (fun _ h _ => h) rfl hl.1 rfl (Nat.le_of_ble_eq_true rfl) dX2_go_51 ⟨Nat.zero_le _, Nat.zero_le _⟩ (fun H locs hP hS => ?_)
      refine lv_if_ne (x := r3) (tgt := 60) hx hb dX2_go_54 (by decide) (fun q5 => ?_) (fun q5 => ?_)
      · replace h := if_f q5 h
        refine lv_aload_n hx hb dX2_go_60 rfl (lv_at hl 0 rfl) ?_
        refine r_get (v := .ref (a 3)) hx hb hts iX2 hown hK hP 0 (by decide) eS_0 rfl 6 (by decide) w31 rfl dX2_go_61 ?_
        refine lv_iload_n hx hb dX2_go_64 rfl (lv_at hl 1 rfl) ?_
        refine lv_dup2_11 hx hb dX2_go_65 rfl rfl ?_
        obtain ⟨q6, h⟩ := chk_ok h
        refine r_iald (i := p1) (h := M 3) hx hb hK hP 3 (by decide) (eS_a (by decide)) q6 dX2_go_66 ?_
        refine lv_iload_n hx hb dX2_go_67 rfl (lv_at hl 2 rfl) ?_
        refine lv_iadd (x := (M 3 (Int32.toNatClampNeg p1))) (y := x2) hx hb dX2_go_68 ?_
        obtain ⟨q7, h⟩ := chk_ok h
        refine r_iast (i := p1) (x := ((M 3 (Int32.toNatClampNeg p1)) + x2)) (h := M 3) (f' := eS g a (mp M 3 (Int32.toNatClampNeg p1) ((M 3 (Int32.toNatClampNeg p1)) + x2))) hx hb hK hI (fun _ h => aA_in h) hP hS 3 (by decide) (eS_a (by decide)) q7 (eS_ua (by decide)) dX2_go_69 (fun H locs hP hS => ?_)
        refine lv_iinc (v := (x4 + 1)) (lv' := [(4, .int (x4 + 1)), (0, .ref (a 0)), (1, .int p1), (2, .int x2), (3, .int x3)]) hx hb dX2_go_70 hl (k := 4) rfl rfl (by decide) rfl (fun ls hl => ?_)
        refine lv_goto (tgt := 35) hx hb dX2_go_73 (by decide) ?_
        exact C35 x2 x3 (x4 + 1) (mp M 3 (Int32.toNatClampNeg p1) ((M 3 (Int32.toNatClampNeg p1)) + x2)) _ _ _ h hP hS (lv_sub hl [1, 2, 3, 4, 0] rfl)
      · replace h := if_t q5 h
        refine lv_goto (tgt := 76) hx hb dX2_go_57 (by decide) ?_
        rw [hQz]
        exact r_vret hx hb hr hlk hS (Option.some.inj h ▸ hP) dX2_go_76
  have L35 : ∀ (n : Nat), ∀ (x2 : Int32) (x3 : Int32) (x4 : Int32) (M : Mem) (H : Heap) (locs : List Loc) (ls : Array Slot), fX2_go_l35 p1 n x2 x3 x4 M = some M' → va_P g.1 vwCl (wl 5 a (eS g a M)) H → va_S (aA 5 a s.heap.size) s.heap H locs → lv_has ls 5 [(0, .ref (a 0)), (1, .int p1), (2, .int x2), (3, .int x3), (4, .int x4)] → W p l e rmX2_go s m args below meth c H locs 0 0 Qz (F0 m 35 ls []) := by
    intro n
    induction n with
    | zero => intro x2 x3 x4 M H locs ls h; exact absurd (show (none : Option (Mem)) = some _ from h) (fun z => by cases z)
    | succ n ih => exact fun x2 x3 x4 M H locs ls h hP hS hl => B35 (fX2_go_l35 p1 n) ih x2 x3 x4 M H locs ls h hP hS hl
  have B31 : ∀ (x2 : Int32) (s0 : Int32) (M : Mem) (H : Heap) (locs : List Loc) (ls : Array Slot), fX2_go_b31 p1 x2 s0 M = some M' → va_P g.1 vwCl (wl 5 a (eS g a M)) H → va_S (aA 5 a s.heap.size) s.heap H locs → lv_has ls 5 [(0, .ref (a 0)), (1, .int p1), (2, .int x2)] → W p l e rmX2_go s m args below meth c H locs 0 0 Qz (F0 m 31 ls [.int s0]) := by
    intro x2 s0 M H locs ls h hP hS hl
    unfold fX2_go_b31 at h
    refine lv_istore_n (lv' := [(3, .int s0), (0, .ref (a 0)), (1, .int p1), (2, .int x2)]) hx hb dX2_go_31 rfl hl (by decide) rfl (fun ls hl => ?_)
    refine lv_iconst (v := 0) hx hb dX2_go_32 (by decide) ?_
    refine lv_istore (lv' := [(4, .int 0), (3, .int s0), (0, .ref (a 0)), (1, .int p1), (2, .int x2)]) hx hb dX2_go_33 hl (by decide) rfl (fun ls hl => ?_)
    exact L35 FU x2 s0 0 M _ _ _ h hP hS (lv_sub hl [2, 3, 4, 1, 0] rfl)
  have B15 : ∀ (s0 : Int32) (M : Mem) (H : Heap) (locs : List Loc) (ls : Array Slot), fX2_go_b15 p1 s0 M = some M' → va_P g.1 vwCl (wl 5 a (eS g a M)) H → va_S (aA 5 a s.heap.size) s.heap H locs → lv_has ls 5 [(0, .ref (a 0)), (1, .int p1)] → W p l e rmX2_go s m args below meth c H locs 0 0 Qz (F0 m 15 ls [.int s0]) := by
    intro s0 M H locs ls h hP hS hl
    unfold fX2_go_b15 at h
    refine lv_istore_n (lv' := [(2, .int s0), (0, .ref (a 0)), (1, .int p1)]) hx hb dX2_go_15 rfl hl (by decide) rfl (fun ls hl => ?_)
    refine lv_aload_n hx hb dX2_go_16 rfl (lv_at hl 1 rfl) ?_
    refine r_get (v := .ref (a 1)) hx hb hts iX2 hown hK hP 0 (by decide) eS_0 rfl 4 (by decide) w24 rfl dX2_go_17 ?_
    refine lv_iload_n hx hb dX2_go_20 rfl (lv_at hl 2 rfl) ?_
    obtain ⟨q1, h⟩ := chk_ok h
    refine r_iald (i := p1) (h := M 1) hx hb hK hP 1 (by decide) (eS_a (by decide)) q1 dX2_go_21 ?_
    refine lv_iconst (v := 3) hx hb dX2_go_22 (by decide) ?_
    refine lv_icmp_ne (x := (M 1 (Int32.toNatClampNeg p1))) (y := 3) (tgt := 30) hx hb dX2_go_23 (by decide) (fun q2 => ?_) (fun q2 => ?_)
    · replace h := if_f q2 h
      refine lv_iconst (v := 1) hx hb dX2_go_30 (by decide) ?_
      exact B31 s0 1 M _ _ _ h hP hS (lv_sub hl [1, 2, 0] rfl)
    · replace h := if_t q2 h
      refine lv_iconst (v := 2) hx hb dX2_go_26 (by decide) ?_
      refine lv_goto (tgt := 31) hx hb dX2_go_27 (by decide) ?_
      exact B31 s0 2 M _ _ _ h hP hS (lv_sub hl [1, 2, 0] rfl)
  unfold fX2_go at h
  refine lv_aload_n hx hb dX2_go_0 rfl (lv_at hl 0 rfl) ?_
  refine r_get (v := .ref (a 1)) hx hb hts iX2 hown hK hP 0 (by decide) eS_0 rfl 4 (by decide) w24 rfl dX2_go_1 ?_
  refine lv_iload_n hx hb dX2_go_4 rfl (lv_at hl 1 rfl) ?_
  obtain ⟨q1, h⟩ := chk_ok h
  refine r_iald (i := p1) (h := M 1) hx hb hK hP 1 (by decide) (eS_a (by decide)) q1 dX2_go_5 ?_
  refine lv_iconst (v := 5) hx hb dX2_go_6 (by decide) ?_
  refine lv_icmp_ne (x := (M 1 (Int32.toNatClampNeg p1))) (y := 5) (tgt := 14) hx hb dX2_go_7 (by decide) (fun q2 => ?_) (fun q2 => ?_)
  · replace h := if_f q2 h
    refine lv_iconst (v := 1) hx hb dX2_go_14 (by decide) ?_
    exact B15 1 M _ _ _ h hP hS (lv_sub hl [0, 1] rfl)
  · replace h := if_t q2 h
    refine lv_iconst (v := (-1)) hx hb dX2_go_10 (by decide) ?_
    refine lv_goto (tgt := 15) hx hb dX2_go_11 (by decide) ?_
    exact B15 (-1) M _ _ _ h hP hS (lv_sub hl [0, 1] rfl)
def rmX2_carry : Room := { frames := 2, cells := 0, slots := 0, locals := 81 }
set_option maxHeartbeats 4000000 in
set_option maxRecDepth 100000 in
theorem ok_X2_carry (l : Launch) (g : gT) (a : Nat → Nat) (hI : ij 5 a) (M : Mem) (M' : Mem) (r : Int32) (h : fX2_carry M = some (r, M')) : MI l yX2_carry wsX2_carry rmX2_carry g 5 a [.ref (a 0)] (wl 5 a (eS g a M)) (wl 5 a (eS g a M')) r := by
  refine MI_of (cc := cX2_carry) (maxL := 3) (rt := .int) (by decide) rfl (Nat.le_of_ble_eq_true rfl) ?_
  intro p e s m args below meth c ls hx hb hml hr hlk hts hown hK hP hl
  have hown : s.vm.findClass RX2 = some m.cls := hown
  have hl : lv_has ls 3 [(0, .ref (a 0))] := hl
  have hS : va_S (aA 5 a s.heap.size) s.heap s.heap [] := va_S.rf
  have iX2 : ∀ w ∈ wsX20, w ∈ wsX2_carry := fun w h => List.mem_cons_of_mem _ (List.mem_append_right _ h)
  have w21 := hts (.fieldLink RX2 21 "StepRiders$Stair" "riders" "I") (by decide +kernel)
  have w31 := hts (.fieldLink RX2 31 "StepRiders$Stair" "at" "[I") (by decide +kernel)
  have w15 := hts (.fieldLink RX2 15 "StepRiders$Stair" "speed" "I") (by decide +kernel)
  have w9 := hts (.fieldLink RX2 9 "StepRiders$Stair" "steps" "I") (by decide +kernel)
  obtain ⟨Qz, hQz⟩ : ∃ Qz : State → Prop, Qz = MQ below (qI g (wl 5 a (eS g a M')) r (aA 5 a s.heap.size)) args s 0 0 (aA 5 a s.heap.size) := ⟨_, rfl⟩
  rw [← hQz]
  have B57 : ∀ (k4 : Int32 → Int32 → Mem → Option (Int32 × Mem)) (C4 : ∀ (x1 : Int32) (x2 : Int32) (M : Mem) (H : Heap) (locs : List Loc) (ls : Array Slot), k4 x1 x2 M = some (r, M') → va_P g.1 vwCl (wl 5 a (eS g a M)) H → va_S (aA 5 a s.heap.size) s.heap H locs → lv_has ls 3 [(0, .ref (a 0)), (1, .int x1), (2, .int x2)] → W p l e rmX2_carry s m args below meth c H locs 0 0 Qz (F0 m 4 ls [])), ∀ (x1 : Int32) (x2 : Int32) (M : Mem) (H : Heap) (locs : List Loc) (ls : Array Slot), fX2_carry_b57 k4 x1 x2 M = some (r, M') → va_P g.1 vwCl (wl 5 a (eS g a M)) H → va_S (aA 5 a s.heap.size) s.heap H locs → lv_has ls 3 [(0, .ref (a 0)), (1, .int x1), (2, .int x2)] → W p l e rmX2_carry s m args below meth c H locs 0 0 Qz (F0 m 57 ls []) := by
    intro k4 C4 x1 x2 M H locs ls h hP hS hl
    unfold fX2_carry_b57 at h
    refine lv_iinc (v := (x2 + 1)) (lv' := [(2, .int (x2 + 1)), (0, .ref (a 0)), (1, .int x1)]) hx hb dX2_carry_57 hl (k := 2) rfl rfl (by decide) rfl (fun ls hl => ?_)
    refine lv_goto (tgt := 4) hx hb dX2_carry_60 (by decide) ?_
    exact C4 x1 (x2 + 1) M _ _ _ h hP hS (lv_sub hl [1, 2, 0] rfl)
  have B4 : ∀ (k4 : Int32 → Int32 → Mem → Option (Int32 × Mem)) (C4 : ∀ (x1 : Int32) (x2 : Int32) (M : Mem) (H : Heap) (locs : List Loc) (ls : Array Slot), k4 x1 x2 M = some (r, M') → va_P g.1 vwCl (wl 5 a (eS g a M)) H → va_S (aA 5 a s.heap.size) s.heap H locs → lv_has ls 3 [(0, .ref (a 0)), (1, .int x1), (2, .int x2)] → W p l e rmX2_carry s m args below meth c H locs 0 0 Qz (F0 m 4 ls [])), ∀ (x1 : Int32) (x2 : Int32) (M : Mem) (H : Heap) (locs : List Loc) (ls : Array Slot), fX2_carry_b4 k4 x1 x2 M = some (r, M') → va_P g.1 vwCl (wl 5 a (eS g a M)) H → va_S (aA 5 a s.heap.size) s.heap H locs → lv_has ls 3 [(0, .ref (a 0)), (1, .int x1), (2, .int x2)] → W p l e rmX2_carry s m args below meth c H locs 0 0 Qz (F0 m 4 ls []) := by
    intro k4 C4 x1 x2 M H locs ls h hP hS hl
    unfold fX2_carry_b4 at h
    refine lv_iload_n hx hb dX2_carry_4 rfl (lv_at hl 2 rfl) ?_
    refine lv_aload_n hx hb dX2_carry_5 rfl (lv_at hl 0 rfl) ?_
    refine r_get (v := .int (M 0 3)) hx hb hts iX2 hown hK hP 0 (by decide) eS_0 rfl 3 (by decide) w21 rfl dX2_carry_6 ?_
    refine lv_icmp_ge (x := x2) (y := (M 0 3)) (tgt := 63) hx hb dX2_carry_9 (by decide) (fun q1 => ?_) (fun q1 => ?_)
    · replace h := if_t q1 h
      refine lv_iload_n hx hb dX2_carry_63 rfl (lv_at hl 1 rfl) ?_
      rw [hQz]
      exact r_iret (v := x1) hx hb hr hlk hS ((Prod.mk.inj (Option.some.inj h)).2 ▸ hP) (Prod.mk.inj (Option.some.inj h)).1 dX2_carry_64
    · replace h := if_f q1 h
      refine lv_aload_n hx hb dX2_carry_12 rfl (lv_at hl 0 rfl) ?_
      refine lv_iload_n hx hb dX2_carry_13 rfl (lv_at hl 2 rfl) ?_
      obtain ⟨r2, e3, h⟩ := bdP_ok h
      refine r_callVi (As := [.int x2]) (rest := []) (ws' := (wl 5 a (eS g a M))) (ok_X2_isOn l g a hI x2 M r2 e3) ⟨hx, hb, hml, hown, hts⟩ (cwV 1 hts gX2_carry_X2_isOn rfl rfl rfl (by decide +kernel) ⟨Nat.le_of_ble_eq_true rfl, Nat.le_of_ble_eq_true rfl⟩) hK (r_recv hK hP 0 (by decide) eS_0 (show vwCl[2]? = some (RX2, TX2, 8) from rfl)) hS hP (fun _ hq => aA_mono hS.1 hq) (fun _ h _ => h) rfl hl.1 rfl (Nat.le_of_ble_eq_true rfl) dX2_carry_14 ⟨Nat.zero_le _, Nat.zero_le _⟩ (fun H locs hP hS => ?_)
      refine lv_if_eq (x := r2) (tgt := 57) hx hb dX2_carry_17 (by decide) (fun q4 => ?_) (fun q4 => ?_)
      · replace h := if_t q4 h
        exact B57 k4 C4 x1 x2 M _ _ _ h hP hS (lv_sub hl [0, 1, 2] rfl)
      · replace h := if_f q4 h
        refine lv_aload_n hx hb dX2_carry_20 rfl (lv_at hl 0 rfl) ?_
        refine r_get (v := .ref (a 3)) hx hb hts iX2 hown hK hP 0 (by decide) eS_0 rfl 6 (by decide) w31 rfl dX2_carry_21 ?_
        refine lv_iload_n hx hb dX2_carry_24 rfl (lv_at hl 2 rfl) ?_
        refine lv_dup2_11 hx hb dX2_carry_25 rfl rfl ?_
        obtain ⟨q5, h⟩ := chk_ok h
        refine r_iald (i := x2) (h := M 3) hx hb hK hP 3 (by decide) (eS_a (by decide)) q5 dX2_carry_26 ?_
        refine lv_aload_n hx hb dX2_carry_27 rfl (lv_at hl 0 rfl) ?_
        refine r_get (v := .int (M 0 1)) hx hb hts iX2 hown hK hP 0 (by decide) eS_0 rfl 1 (by decide) w15 rfl dX2_carry_28 ?_
        refine lv_iadd (x := (M 3 (Int32.toNatClampNeg x2))) (y := (M 0 1)) hx hb dX2_carry_31 ?_
        obtain ⟨q6, h⟩ := chk_ok h
        refine r_iast (i := x2) (x := ((M 3 (Int32.toNatClampNeg x2)) + (M 0 1))) (h := M 3) (f' := eS g a (mp M 3 (Int32.toNatClampNeg x2) ((M 3 (Int32.toNatClampNeg x2)) + (M 0 1)))) hx hb hK hI (fun _ h => aA_in h) hP hS 3 (by decide) (eS_a (by decide)) q6 (eS_ua (by decide)) dX2_carry_32 (fun H locs hP hS => ?_)
        refine lv_aload_n hx hb dX2_carry_33 rfl (lv_at hl 0 rfl) ?_
        refine r_get (v := .ref (a 3)) hx hb hts iX2 hown hK hP 0 (by decide) eS_0 rfl 6 (by decide) w31 rfl dX2_carry_34 ?_
        refine lv_iload_n hx hb dX2_carry_37 rfl (lv_at hl 2 rfl) ?_
        obtain ⟨q7, h⟩ := chk_ok h
        refine r_iald (i := x2) (h := (mp M 3 (Int32.toNatClampNeg x2) ((M 3 (Int32.toNatClampNeg x2)) + (M 0 1))) 3) hx hb hK hP 3 (by decide) (eS_a (by decide)) q7 dX2_carry_38 ?_
        refine lv_aload_n hx hb dX2_carry_39 rfl (lv_at hl 0 rfl) ?_
        refine r_get (v := .int ((mp M 3 (Int32.toNatClampNeg x2) ((M 3 (Int32.toNatClampNeg x2)) + (M 0 1))) 0 0)) hx hb hts iX2 hown hK hP 0 (by decide) eS_0 rfl 0 (by decide) w9 rfl dX2_carry_40 ?_
        refine lv_icmp_lt (x := ((mp M 3 (Int32.toNatClampNeg x2) ((M 3 (Int32.toNatClampNeg x2)) + (M 0 1))) 3 (Int32.toNatClampNeg x2))) (y := ((mp M 3 (Int32.toNatClampNeg x2) ((M 3 (Int32.toNatClampNeg x2)) + (M 0 1))) 0 0)) (tgt := 57) hx hb dX2_carry_43 (by decide) (fun q8 => ?_) (fun q8 => ?_)
        · replace h := if_t q8 h
          exact B57 k4 C4 x1 x2 (mp M 3 (Int32.toNatClampNeg x2) ((M 3 (Int32.toNatClampNeg x2)) + (M 0 1))) _ _ _ h hP hS (lv_sub hl [0, 1, 2] rfl)
        · replace h := if_f q8 h
          refine lv_aload_n hx hb dX2_carry_46 rfl (lv_at hl 0 rfl) ?_
          refine r_get (v := .ref (a 3)) hx hb hts iX2 hown hK hP 0 (by decide) eS_0 rfl 6 (by decide) w31 rfl dX2_carry_47 ?_
          refine lv_iload_n hx hb dX2_carry_50 rfl (lv_at hl 2 rfl) ?_
          refine lv_bipush (v := 99) hx hb dX2_carry_51 (by decide) ?_
          obtain ⟨q9, h⟩ := chk_ok h
          refine r_iast (i := x2) (x := 99) (h := (mp M 3 (Int32.toNatClampNeg x2) ((M 3 (Int32.toNatClampNeg x2)) + (M 0 1))) 3) (f' := eS g a (mp (mp M 3 (Int32.toNatClampNeg x2) ((M 3 (Int32.toNatClampNeg x2)) + (M 0 1))) 3 (Int32.toNatClampNeg x2) 99)) hx hb hK hI (fun _ h => aA_in h) hP hS 3 (by decide) (eS_a (by decide)) q9 (eS_ua (by decide)) dX2_carry_53 (fun H locs hP hS => ?_)
          refine lv_iinc (v := (x1 + 1)) (lv' := [(1, .int (x1 + 1)), (0, .ref (a 0)), (2, .int x2)]) hx hb dX2_carry_54 hl (k := 1) rfl rfl (by decide) rfl (fun ls hl => ?_)
          exact B57 k4 C4 (x1 + 1) x2 (mp (mp M 3 (Int32.toNatClampNeg x2) ((M 3 (Int32.toNatClampNeg x2)) + (M 0 1))) 3 (Int32.toNatClampNeg x2) 99) _ _ _ h hP hS (lv_sub hl [1, 0, 2] rfl)
  have L4 : ∀ (n : Nat), ∀ (x1 : Int32) (x2 : Int32) (M : Mem) (H : Heap) (locs : List Loc) (ls : Array Slot), fX2_carry_l4 n x1 x2 M = some (r, M') → va_P g.1 vwCl (wl 5 a (eS g a M)) H → va_S (aA 5 a s.heap.size) s.heap H locs → lv_has ls 3 [(0, .ref (a 0)), (1, .int x1), (2, .int x2)] → W p l e rmX2_carry s m args below meth c H locs 0 0 Qz (F0 m 4 ls []) := by
    intro n
    induction n with
    | zero => intro x1 x2 M H locs ls h; exact absurd (show (none : Option (Int32 × Mem)) = some _ from h) (fun z => by cases z)
    | succ n ih => exact fun x1 x2 M H locs ls h hP hS hl => B4 (fX2_carry_l4 n) ih x1 x2 M H locs ls h hP hS hl
  unfold fX2_carry at h
  refine lv_iconst (v := 0) hx hb dX2_carry_0 (by decide) ?_
  refine lv_istore_n (lv' := [(1, .int 0), (0, .ref (a 0))]) hx hb dX2_carry_1 rfl hl (by decide) rfl (fun ls hl => ?_)
  refine lv_iconst (v := 0) hx hb dX2_carry_2 (by decide) ?_
  refine lv_istore_n (lv' := [(2, .int 0), (1, .int 0), (0, .ref (a 0))]) hx hb dX2_carry_3 rfl hl (by decide) rfl (fun ls hl => ?_)
  exact L4 FU 0 0 M _ _ _ h hP hS (lv_sub hl [2, 1, 0] rfl)
def rmX2_letOneOn : Room := { frames := 2, cells := 0, slots := 0, locals := 84 }
set_option maxHeartbeats 4000000 in
set_option maxRecDepth 100000 in
theorem ok_X2_letOneOn (l : Launch) (g : gT) (a : Nat → Nat) (hI : ij 5 a) (M : Mem) (M' : Mem) (h : fX2_letOneOn M = some M') : MV l yX2_letOneOn wsX2_letOneOn rmX2_letOneOn g 5 a [.ref (a 0)] (wl 5 a (eS g a M)) (wl 5 a (eS g a M')) := by
  refine MV_of (cc := cX2_letOneOn) (maxL := 2) (by decide) rfl (Nat.le_of_ble_eq_true rfl) ?_
  intro p e s m args below meth c ls hx hb hml hr hlk hts hown hK hP hl
  have hown : s.vm.findClass RX2 = some m.cls := hown
  have hl : lv_has ls 2 [(0, .ref (a 0))] := hl
  have hS : va_S (aA 5 a s.heap.size) s.heap s.heap [] := va_S.rf
  have iX2 : ∀ w ∈ wsX20, w ∈ wsX2_letOneOn := fun w h => List.mem_cons_of_mem _ (List.mem_append_right _ h)
  have w21 := hts (.fieldLink RX2 21 "StepRiders$Stair" "riders" "I") (by decide +kernel)
  have w31 := hts (.fieldLink RX2 31 "StepRiders$Stair" "at" "[I") (by decide +kernel)
  obtain ⟨Qz, hQz⟩ : ∃ Qz : State → Prop, Qz = MQ below (qV g (wl 5 a (eS g a M')) (aA 5 a s.heap.size)) args s 0 0 (aA 5 a s.heap.size) := ⟨_, rfl⟩
  rw [← hQz]
  have B39 : ∀ (k2 : Int32 → Mem → Option (Mem)) (C2 : ∀ (x1 : Int32) (M : Mem) (H : Heap) (locs : List Loc) (ls : Array Slot), k2 x1 M = some M' → va_P g.1 vwCl (wl 5 a (eS g a M)) H → va_S (aA 5 a s.heap.size) s.heap H locs → lv_has ls 2 [(0, .ref (a 0)), (1, .int x1)] → W p l e rmX2_letOneOn s m args below meth c H locs 0 0 Qz (F0 m 2 ls [])), ∀ (x1 : Int32) (M : Mem) (H : Heap) (locs : List Loc) (ls : Array Slot), fX2_letOneOn_b39 k2 x1 M = some M' → va_P g.1 vwCl (wl 5 a (eS g a M)) H → va_S (aA 5 a s.heap.size) s.heap H locs → lv_has ls 2 [(0, .ref (a 0)), (1, .int x1)] → W p l e rmX2_letOneOn s m args below meth c H locs 0 0 Qz (F0 m 39 ls []) := by
    intro k2 C2 x1 M H locs ls h hP hS hl
    unfold fX2_letOneOn_b39 at h
    refine lv_iinc (v := (x1 + 1)) (lv' := [(1, .int (x1 + 1)), (0, .ref (a 0))]) hx hb dX2_letOneOn_39 hl (k := 1) rfl rfl (by decide) rfl (fun ls hl => ?_)
    refine lv_goto (tgt := 2) hx hb dX2_letOneOn_42 (by decide) ?_
    exact C2 (x1 + 1) M _ _ _ h hP hS (lv_sub hl [1, 0] rfl)
  have B2 : ∀ (k2 : Int32 → Mem → Option (Mem)) (C2 : ∀ (x1 : Int32) (M : Mem) (H : Heap) (locs : List Loc) (ls : Array Slot), k2 x1 M = some M' → va_P g.1 vwCl (wl 5 a (eS g a M)) H → va_S (aA 5 a s.heap.size) s.heap H locs → lv_has ls 2 [(0, .ref (a 0)), (1, .int x1)] → W p l e rmX2_letOneOn s m args below meth c H locs 0 0 Qz (F0 m 2 ls [])), ∀ (x1 : Int32) (M : Mem) (H : Heap) (locs : List Loc) (ls : Array Slot), fX2_letOneOn_b2 k2 x1 M = some M' → va_P g.1 vwCl (wl 5 a (eS g a M)) H → va_S (aA 5 a s.heap.size) s.heap H locs → lv_has ls 2 [(0, .ref (a 0)), (1, .int x1)] → W p l e rmX2_letOneOn s m args below meth c H locs 0 0 Qz (F0 m 2 ls []) := by
    intro k2 C2 x1 M H locs ls h hP hS hl
    unfold fX2_letOneOn_b2 at h
    refine lv_iload_n hx hb dX2_letOneOn_2 rfl (lv_at hl 1 rfl) ?_
    refine lv_aload_n hx hb dX2_letOneOn_3 rfl (lv_at hl 0 rfl) ?_
    refine r_get (v := .int (M 0 3)) hx hb hts iX2 hown hK hP 0 (by decide) eS_0 rfl 3 (by decide) w21 rfl dX2_letOneOn_4 ?_
    refine lv_icmp_ge (x := x1) (y := (M 0 3)) (tgt := 45) hx hb dX2_letOneOn_7 (by decide) (fun q1 => ?_) (fun q1 => ?_)
    · replace h := if_t q1 h
      rw [hQz]
      exact r_vret hx hb hr hlk hS (Option.some.inj h ▸ hP) dX2_letOneOn_45
    · replace h := if_f q1 h
      refine lv_aload_n hx hb dX2_letOneOn_10 rfl (lv_at hl 0 rfl) ?_
      refine r_get (v := .ref (a 3)) hx hb hts iX2 hown hK hP 0 (by decide) eS_0 rfl 6 (by decide) w31 rfl dX2_letOneOn_11 ?_
      refine lv_iload_n hx hb dX2_letOneOn_14 rfl (lv_at hl 1 rfl) ?_
      obtain ⟨q2, h⟩ := chk_ok h
      refine r_iald (i := x1) (h := M 3) hx hb hK hP 3 (by decide) (eS_a (by decide)) q2 dX2_letOneOn_15 ?_
      refine lv_iconst (v := (-1)) hx hb dX2_letOneOn_16 (by decide) ?_
      refine lv_icmp_ne (x := (M 3 (Int32.toNatClampNeg x1))) (y := (-1)) (tgt := 39) hx hb dX2_letOneOn_17 (by decide) (fun q3 => ?_) (fun q3 => ?_)
      · replace h := if_f q3 h
        exact B39 k2 C2 x1 M _ _ _ h hP hS (lv_sub hl [0, 1] rfl)
      · replace h := if_t q3 h
        refine lv_aload_n hx hb dX2_letOneOn_20 rfl (lv_at hl 0 rfl) ?_
        refine lv_iload_n hx hb dX2_letOneOn_21 rfl (lv_at hl 1 rfl) ?_
        refine lv_iconst (v := 0) hx hb dX2_letOneOn_22 (by decide) ?_
        obtain ⟨r4, e5, h⟩ := bdP_ok h
        refine r_callVi (As := [.int x1, .int 0]) (rest := []) (ws' := (wl 5 a (eS g a M))) (ok_X2_isFree l g a hI x1 0 M r4 e5) ⟨hx, hb, hml, hown, hts⟩ (cwV 2 hts gX2_letOneOn_X2_isFree rfl rfl rfl (by decide +kernel) ⟨Nat.le_of_ble_eq_true rfl, Nat.le_of_ble_eq_true rfl⟩) hK (r_recv hK hP 0 (by decide) eS_0 (show vwCl[2]? = some (RX2, TX2, 8) from rfl)) hS hP (fun _ hq => aA_mono hS.1 hq) (fun _ h _ => h) rfl hl.1 rfl (Nat.le_of_ble_eq_true rfl) dX2_letOneOn_23 ⟨Nat.zero_le _, Nat.zero_le _⟩ (fun H locs hP hS => ?_)
        refine lv_if_eq (x := r4) (tgt := 39) hx hb dX2_letOneOn_26 (by decide) (fun q6 => ?_) (fun q6 => ?_)
        · replace h := if_t q6 h
          exact B39 k2 C2 x1 M _ _ _ h hP hS (lv_sub hl [0, 1] rfl)
        · replace h := if_f q6 h
          refine lv_aload_n hx hb dX2_letOneOn_29 rfl (lv_at hl 0 rfl) ?_
          refine r_get (v := .ref (a 3)) hx hb hts iX2 hown hK hP 0 (by decide) eS_0 rfl 6 (by decide) w31 rfl dX2_letOneOn_30 ?_
          refine lv_iload_n hx hb dX2_letOneOn_33 rfl (lv_at hl 1 rfl) ?_
          refine lv_iconst (v := 0) hx hb dX2_letOneOn_34 (by decide) ?_
          obtain ⟨q7, h⟩ := chk_ok h
          refine r_iast (i := x1) (x := 0) (h := M 3) (f' := eS g a (mp M 3 (Int32.toNatClampNeg x1) 0)) hx hb hK hI (fun _ h => aA_in h) hP hS 3 (by decide) (eS_a (by decide)) q7 (eS_ua (by decide)) dX2_letOneOn_35 (fun H locs hP hS => ?_)
          refine lv_goto (tgt := 45) hx hb dX2_letOneOn_36 (by decide) ?_
          rw [hQz]
          exact r_vret hx hb hr hlk hS (Option.some.inj h ▸ hP) dX2_letOneOn_45
  have L2 : ∀ (n : Nat), ∀ (x1 : Int32) (M : Mem) (H : Heap) (locs : List Loc) (ls : Array Slot), fX2_letOneOn_l2 n x1 M = some M' → va_P g.1 vwCl (wl 5 a (eS g a M)) H → va_S (aA 5 a s.heap.size) s.heap H locs → lv_has ls 2 [(0, .ref (a 0)), (1, .int x1)] → W p l e rmX2_letOneOn s m args below meth c H locs 0 0 Qz (F0 m 2 ls []) := by
    intro n
    induction n with
    | zero => intro x1 M H locs ls h; exact absurd (show (none : Option (Mem)) = some _ from h) (fun z => by cases z)
    | succ n ih => exact fun x1 M H locs ls h hP hS hl => B2 (fX2_letOneOn_l2 n) ih x1 M H locs ls h hP hS hl
  unfold fX2_letOneOn at h
  refine lv_iconst (v := 0) hx hb dX2_letOneOn_0 (by decide) ?_
  refine lv_istore_n (lv' := [(1, .int 0), (0, .ref (a 0))]) hx hb dX2_letOneOn_1 rfl hl (by decide) rfl (fun ls hl => ?_)
  exact L2 FU 0 M _ _ _ h hP hS (lv_sub hl [1, 0] rfl)
def rmX2_pass : Room := { frames := 4, cells := 0, slots := 0, locals := 130 }
set_option maxHeartbeats 4000000 in
set_option maxRecDepth 100000 in
theorem ok_X2_pass (l : Launch) (g : gT) (a : Nat → Nat) (hI : ij 5 a) (M : Mem) (M' : Mem) (r : Int32) (h : fX2_pass M = some (r, M')) : MI l yX2_pass wsX2_pass rmX2_pass g 5 a [.ref (a 0)] (wl 5 a (eS g a M)) (wl 5 a (eS g a M')) r := by
  refine MI_of (cc := cX2_pass) (maxL := 3) (rt := .int) (by decide) rfl (Nat.le_of_ble_eq_true rfl) ?_
  intro p e s m args below meth c ls hx hb hml hr hlk hts hown hK hP hl
  have hown : s.vm.findClass RX2 = some m.cls := hown
  have hl : lv_has ls 3 [(0, .ref (a 0))] := hl
  have hS : va_S (aA 5 a s.heap.size) s.heap s.heap [] := va_S.rf
  have iX2 : ∀ w ∈ wsX20, w ∈ wsX2_pass := fun w h => List.mem_cons_of_mem _ (List.mem_append_right _ h)
  have w18 := hts (.fieldLink RX2 18 "StepRiders$Stair" "tick" "I") (by decide +kernel)
  have w21 := hts (.fieldLink RX2 21 "StepRiders$Stair" "riders" "I") (by decide +kernel)
  have w81 := hts (.constant RX2 81 (-1000000)) (by decide +kernel)
  have w34 := hts (.fieldLink RX2 34 "StepRiders$Stair" "turn" "[I") (by decide +kernel)
  obtain ⟨Qz, hQz⟩ : ∃ Qz : State → Prop, Qz = MQ below (qI g (wl 5 a (eS g a M')) r (aA 5 a s.heap.size)) args s 0 0 (aA 5 a s.heap.size) := ⟨_, rfl⟩
  rw [← hQz]
  have B46 : ∀ (M : Mem) (H : Heap) (locs : List Loc) (ls : Array Slot), fX2_pass_b46 M = some (r, M') → va_P g.1 vwCl (wl 5 a (eS g a M)) H → va_S (aA 5 a s.heap.size) s.heap H locs → lv_has ls 3 [(0, .ref (a 0))] → W p l e rmX2_pass s m args below meth c H locs 0 0 Qz (F0 m 46 ls []) := by
    intro M H locs ls h hP hS hl
    unfold fX2_pass_b46 at h
    refine lv_aload_n hx hb dX2_pass_46 rfl (lv_at hl 0 rfl) ?_
    obtain ⟨r1, M3, e2, h⟩ := bdI_ok h
    refine r_callVi (As := []) (rest := []) (ws' := (wl 5 a (eS g a M3))) (ok_X2_carry l g a hI M M3 r1 e2) ⟨hx, hb, hml, hown, hts⟩ (cwV 0 hts gX2_pass_X2_carry rfl rfl rfl (by decide +kernel) ⟨Nat.le_of_ble_eq_true rfl, Nat.le_of_ble_eq_true rfl⟩) hK (r_recv hK hP 0 (by decide) eS_0 (show vwCl[2]? = some (RX2, TX2, 8) from rfl)) hS hP (fun _ hq => aA_mono hS.1 hq) (fun _ h _ => h) rfl hl.1 rfl (Nat.le_of_ble_eq_true rfl) dX2_pass_47 ⟨Nat.zero_le _, Nat.zero_le _⟩ (fun H locs hP hS => ?_)
    refine lv_istore_n (lv' := [(1, .int r1), (0, .ref (a 0))]) hx hb dX2_pass_50 rfl hl (by decide) rfl (fun ls hl => ?_)
    refine lv_aload_n hx hb dX2_pass_51 rfl (lv_at hl 1 rfl) ?_
    obtain ⟨M6, e5, h⟩ := bdV_ok h
    refine r_callVv (As := []) (rest := []) (ws' := (wl 5 a (eS g a M6))) (ok_X2_letOneOn l g a hI M3 M6 e5) ⟨hx, hb, hml, hown, hts⟩ (cwV 0 hts gX2_pass_X2_letOneOn rfl rfl rfl (by decide +kernel) ⟨Nat.le_of_ble_eq_true rfl, Nat.le_of_ble_eq_true rfl⟩) hK (r_recv hK hP 0 (by decide) eS_0 (show vwCl[2]? = some (RX2, TX2, 8) from rfl)) hS hP (fun _ hq => aA_mono hS.1 hq) (fun _ h _ => h) rfl hl.1 rfl (Nat.le_of_ble_eq_true rfl) dX2_pass_52 ⟨Nat.zero_le _, Nat.zero_le _⟩ (fun H locs hP hS => ?_)
    refine lv_aload_n hx hb dX2_pass_55 rfl (lv_at hl 1 rfl) ?_
    refine lv_dup hx hb dX2_pass_56 rfl ?_
    refine r_get (v := .int (M6 0 2)) hx hb hts iX2 hown hK hP 0 (by decide) eS_0 rfl 2 (by decide) w18 rfl dX2_pass_57 ?_
    refine lv_iconst (v := 1) hx hb dX2_pass_60 (by decide) ?_
    refine lv_iadd (x := (M6 0 2)) (y := 1) hx hb dX2_pass_61 ?_
    refine r_put (v := .int ((M6 0 2) + 1)) (ty := .int) (f' := eS g a (mp M6 0 2 ((M6 0 2) + 1))) hx hb hts iX2 tyX2 tyX2_ok nmX2 hown hK hI (fun _ h => aA_in h) hP hS 0 (by decide) eS_0 rfl 2 (by decide) w18 rfl (by decide +kernel) rfl rfl (Nat.le_of_ble_eq_true rfl) eS_p2 dX2_pass_62 (fun H locs hP hS => ?_)
    refine lv_iload_n hx hb dX2_pass_65 rfl (lv_at hl 0 rfl) ?_
    rw [hQz]
    exact r_iret (v := r1) hx hb hr hlk hS ((Prod.mk.inj (Option.some.inj h)).2 ▸ hP) (Prod.mk.inj (Option.some.inj h)).1 dX2_pass_66
  have B25 : ∀ (M : Mem) (H : Heap) (locs : List Loc) (ls : Array Slot), fX2_pass_b25 M = some (r, M') → va_P g.1 vwCl (wl 5 a (eS g a M)) H → va_S (aA 5 a s.heap.size) s.heap H locs → lv_has ls 3 [(0, .ref (a 0))] → W p l e rmX2_pass s m args below meth c H locs 0 0 Qz (F0 m 25 ls []) := by
    intro M H locs ls h hP hS hl
    unfold fX2_pass_b25 at h
    refine lv_goto (tgt := 46) hx hb dX2_pass_25 (by decide) ?_
    exact B46 M _ _ _ h hP hS (lv_sub hl [0] rfl)
  have B6 : ∀ (k6 : Int32 → Mem → Option (Int32 × Mem)) (C6 : ∀ (x1 : Int32) (M : Mem) (H : Heap) (locs : List Loc) (ls : Array Slot), k6 x1 M = some (r, M') → va_P g.1 vwCl (wl 5 a (eS g a M)) H → va_S (aA 5 a s.heap.size) s.heap H locs → lv_has ls 3 [(0, .ref (a 0)), (1, .int x1)] → W p l e rmX2_pass s m args below meth c H locs 0 0 Qz (F0 m 6 ls [])), ∀ (x1 : Int32) (M : Mem) (H : Heap) (locs : List Loc) (ls : Array Slot), fX2_pass_b6 k6 x1 M = some (r, M') → va_P g.1 vwCl (wl 5 a (eS g a M)) H → va_S (aA 5 a s.heap.size) s.heap H locs → lv_has ls 3 [(0, .ref (a 0)), (1, .int x1)] → W p l e rmX2_pass s m args below meth c H locs 0 0 Qz (F0 m 6 ls []) := by
    intro k6 C6 x1 M H locs ls h hP hS hl
    unfold fX2_pass_b6 at h
    refine lv_iload_n hx hb dX2_pass_6 rfl (lv_at hl 1 rfl) ?_
    refine lv_aload_n hx hb dX2_pass_7 rfl (lv_at hl 0 rfl) ?_
    refine r_get (v := .int (M 0 3)) hx hb hts iX2 hown hK hP 0 (by decide) eS_0 rfl 3 (by decide) w21 rfl dX2_pass_8 ?_
    refine lv_icmp_ge (x := x1) (y := (M 0 3)) (tgt := 46) hx hb dX2_pass_11 (by decide) (fun q1 => ?_) (fun q1 => ?_)
    · replace h := if_t q1 h
      exact B46 M _ _ _ h hP hS (lv_sub hl [0] rfl)
    · replace h := if_f q1 h
      refine lv_aload_n hx hb dX2_pass_14 rfl (lv_at hl 0 rfl) ?_
      obtain ⟨r2, e3, h⟩ := bdP_ok h
      refine r_callVi (As := []) (rest := []) (ws' := (wl 5 a (eS g a M))) (ok_X2_nextInTurn l g a hI M r2 e3) ⟨hx, hb, hml, hown, hts⟩ (cwV 0 hts gX2_pass_X2_nextInTurn rfl rfl rfl (by decide +kernel) ⟨Nat.le_of_ble_eq_true rfl, Nat.le_of_ble_eq_true rfl⟩) hK (r_recv hK hP 0 (by decide) eS_0 (show vwCl[2]? = some (RX2, TX2, 8) from rfl)) hS hP (fun _ hq => aA_mono hS.1 hq) (fun _ h _ => h) rfl hl.1 rfl (Nat.le_of_ble_eq_true rfl) dX2_pass_15 ⟨Nat.zero_le _, Nat.zero_le _⟩ (fun H locs hP hS => ?_)
      refine lv_istore_n (lv' := [(2, .int r2), (0, .ref (a 0)), (1, .int x1)]) hx hb dX2_pass_18 rfl hl (by decide) rfl (fun ls hl => ?_)
      refine lv_iload_n hx hb dX2_pass_19 rfl (lv_at hl 0 rfl) ?_
      refine lv_ldc (v := (-1000000)) hx hb hown w81 dX2_pass_20 ?_
      refine lv_icmp_ne (x := r2) (y := (-1000000)) (tgt := 28) hx hb dX2_pass_22 (by decide) (fun q4 => ?_) (fun q4 => ?_)
      · replace h := if_f q4 h
        refine lv_aload_n hx hb dX2_pass_28 rfl (lv_at hl 1 rfl) ?_
        refine r_get (v := .ref (a 4)) hx hb hts iX2 hown hK hP 0 (by decide) eS_0 rfl 7 (by decide) w34 rfl dX2_pass_29 ?_
        refine lv_iload_n hx hb dX2_pass_32 rfl (lv_at hl 0 rfl) ?_
        refine lv_iconst (v := (-1)) hx hb dX2_pass_33 (by decide) ?_
        obtain ⟨q5, h⟩ := chk_ok h
        refine r_iast (i := r2) (x := (-1)) (h := M 4) (f' := eS g a (mp M 4 (Int32.toNatClampNeg r2) (-1))) hx hb hK hI (fun _ h => aA_in h) hP hS 4 (by decide) (eS_a (by decide)) q5 (eS_ua (by decide)) dX2_pass_34 (fun H locs hP hS => ?_)
        refine lv_aload_n hx hb dX2_pass_35 rfl (lv_at hl 1 rfl) ?_
        refine lv_iload_n hx hb dX2_pass_36 rfl (lv_at hl 0 rfl) ?_
        obtain ⟨M8, e7, h⟩ := bdV_ok h
        refine r_callVv (As := [.int r2]) (rest := []) (ws' := (wl 5 a (eS g a M8))) (ok_X2_go l g a hI r2 (mp M 4 (Int32.toNatClampNeg r2) (-1)) M8 e7) ⟨hx, hb, hml, hown, hts⟩ (cwV 1 hts gX2_pass_X2_go rfl rfl rfl (by decide +kernel) ⟨Nat.le_of_ble_eq_true rfl, Nat.le_of_ble_eq_true rfl⟩) hK (r_recv hK hP 0 (by decide) eS_0 (show vwCl[2]? = some (RX2, TX2, 8) from rfl)) hS hP (fun _ hq => aA_mono hS.1 hq) (fun _ h _ => h) rfl hl.1 rfl (Nat.le_of_ble_eq_true rfl) dX2_pass_37 ⟨Nat.zero_le _, Nat.zero_le _⟩ (fun H locs hP hS => ?_)
        refine lv_iinc (v := (x1 + 1)) (lv' := [(1, .int (x1 + 1)), (2, .int r2), (0, .ref (a 0))]) hx hb dX2_pass_40 hl (k := 2) rfl rfl (by decide) rfl (fun ls hl => ?_)
        refine lv_goto (tgt := 6) hx hb dX2_pass_43 (by decide) ?_
        exact C6 (x1 + 1) M8 _ _ _ h hP hS (lv_sub hl [2, 0] rfl)
      · replace h := if_t q4 h
        exact B25 M _ _ _ h hP hS (lv_sub hl [1] rfl)
  have L6 : ∀ (n : Nat), ∀ (x1 : Int32) (M : Mem) (H : Heap) (locs : List Loc) (ls : Array Slot), fX2_pass_l6 n x1 M = some (r, M') → va_P g.1 vwCl (wl 5 a (eS g a M)) H → va_S (aA 5 a s.heap.size) s.heap H locs → lv_has ls 3 [(0, .ref (a 0)), (1, .int x1)] → W p l e rmX2_pass s m args below meth c H locs 0 0 Qz (F0 m 6 ls []) := by
    intro n
    induction n with
    | zero => intro x1 M H locs ls h; exact absurd (show (none : Option (Int32 × Mem)) = some _ from h) (fun z => by cases z)
    | succ n ih => exact fun x1 M H locs ls h hP hS hl => B6 (fX2_pass_l6 n) ih x1 M H locs ls h hP hS hl
  unfold fX2_pass at h
  refine lv_aload_n hx hb dX2_pass_0 rfl (lv_at hl 0 rfl) ?_
  obtain ⟨M3, e2, h⟩ := bdV_ok h
  refine r_callVv (As := []) (rest := []) (ws' := (wl 5 a (eS g a M3))) (ok_X2_giveTurns l g a hI M M3 e2) ⟨hx, hb, hml, hown, hts⟩ (cwV 0 hts gX2_pass_X2_giveTurns rfl rfl rfl (by decide +kernel) ⟨Nat.le_of_ble_eq_true rfl, Nat.le_of_ble_eq_true rfl⟩) hK (r_recv hK hP 0 (by decide) eS_0 (show vwCl[2]? = some (RX2, TX2, 8) from rfl)) hS hP (fun _ hq => aA_mono hS.1 hq) (fun _ h _ => h) rfl hl.1 rfl (Nat.le_of_ble_eq_true rfl) dX2_pass_1 ⟨Nat.zero_le _, Nat.zero_le _⟩ (fun H locs hP hS => ?_)
  refine lv_iconst (v := 0) hx hb dX2_pass_4 (by decide) ?_
  refine lv_istore_n (lv' := [(1, .int 0), (0, .ref (a 0))]) hx hb dX2_pass_5 rfl hl (by decide) rfl (fun ls hl => ?_)
  exact L6 FU 0 M3 _ _ _ h hP hS (lv_sub hl [1, 0] rfl)
def rmX2_nobodyGoesOff : Room := { frames := 1, cells := 0, slots := 0, locals := 60 }
set_option maxHeartbeats 4000000 in
set_option maxRecDepth 100000 in
theorem ok_X2_nobodyGoesOff (l : Launch) (g : gT) (a : Nat → Nat) (hI : ij 5 a) (M : Mem) (r : Int32) (h : fX2_nobodyGoesOff M = some r) : MI l yX2_nobodyGoesOff wsX2_nobodyGoesOff rmX2_nobodyGoesOff g 5 a [.ref (a 0)] (wl 5 a (eS g a M)) (wl 5 a (eS g a M)) r := by
  refine MI_of (cc := cX2_nobodyGoesOff) (maxL := 1) (rt := .boolean) (by decide) rfl (Nat.le_of_ble_eq_true rfl) ?_
  intro p e s m args below meth c ls hx hb hml hr hlk hts hown hK hP hl
  have hown : s.vm.findClass RX2 = some m.cls := hown
  have hl : lv_has ls 1 [(0, .ref (a 0))] := hl
  have hS : va_S (aA 5 a s.heap.size) s.heap s.heap [] := va_S.rf
  have iX2 : ∀ w ∈ wsX20, w ∈ wsX2_nobodyGoesOff := fun w h => List.mem_cons_of_mem _ (List.mem_append_right _ h)
  have w15 := hts (.fieldLink RX2 15 "StepRiders$Stair" "speed" "I") (by decide +kernel)
  obtain ⟨Qz, hQz⟩ : ∃ Qz : State → Prop, Qz = MQ below (qI g (wl 5 a (eS g a M)) r (aA 5 a s.heap.size)) args s 0 0 (aA 5 a s.heap.size) := ⟨_, rfl⟩
  rw [← hQz]
  unfold fX2_nobodyGoesOff at h
  refine lv_aload_n hx hb dX2_nobodyGoesOff_0 rfl (lv_at hl 0 rfl) ?_
  refine r_get (v := .int (M 0 1)) hx hb hts iX2 hown hK hP 0 (by decide) eS_0 rfl 1 (by decide) w15 rfl dX2_nobodyGoesOff_1 ?_
  refine lv_if_ne (x := (M 0 1)) (tgt := 11) hx hb dX2_nobodyGoesOff_4 (by decide) (fun q1 => ?_) (fun q1 => ?_)
  · replace h := if_f q1 h
    refine lv_iconst (v := 0) hx hb dX2_nobodyGoesOff_11 (by decide) ?_
    rw [hQz]
    exact r_zret (v := 0) hx hb hr hlk hS hP (Option.some.inj h) (by decide) dX2_nobodyGoesOff_12
  · replace h := if_t q1 h
    refine lv_iconst (v := 1) hx hb dX2_nobodyGoesOff_7 (by decide) ?_
    refine lv_goto (tgt := 12) hx hb dX2_nobodyGoesOff_8 (by decide) ?_
    rw [hQz]
    exact r_zret (v := 1) hx hb hr hlk hS hP (Option.some.inj h) (by decide) dX2_nobodyGoesOff_12
def rmX2_passUntilOff : Room := { frames := 5, cells := 0, slots := 0, locals := 152 }
set_option maxHeartbeats 4000000 in
set_option maxRecDepth 100000 in
theorem ok_X2_passUntilOff (l : Launch) (g : gT) (a : Nat → Nat) (hI : ij 5 a) (p1 : Int32) (p2 : Int32) (M : Mem) (M' : Mem) (r : Int32) (h : fX2_passUntilOff p1 p2 M = some (r, M')) : MI l yX2_passUntilOff wsX2_passUntilOff rmX2_passUntilOff g 5 a [.ref (a 0), .int p1, .int p2] (wl 5 a (eS g a M)) (wl 5 a (eS g a M')) r := by
  refine MI_of (cc := cX2_passUntilOff) (maxL := 4) (rt := .int) (by decide) rfl (Nat.le_of_ble_eq_true rfl) ?_
  intro p e s m args below meth c ls hx hb hml hr hlk hts hown hK hP hl
  have hown : s.vm.findClass RX2 = some m.cls := hown
  have hl : lv_has ls 4 [(0, .ref (a 0)), (1, .int p1), (2, .int p2)] := hl
  have hS : va_S (aA 5 a s.heap.size) s.heap s.heap [] := va_S.rf
  have iX2 : ∀ w ∈ wsX20, w ∈ wsX2_passUntilOff := fun w h => List.mem_cons_of_mem _ (List.mem_append_right _ h)
  have w81 := hts (.constant RX2 81 (-1000000)) (by decide +kernel)
  have w31 := hts (.fieldLink RX2 31 "StepRiders$Stair" "at" "[I") (by decide +kernel)
  obtain ⟨Qz, hQz⟩ : ∃ Qz : State → Prop, Qz = MQ below (qI g (wl 5 a (eS g a M')) r (aA 5 a s.heap.size)) args s 0 0 (aA 5 a s.heap.size) := ⟨_, rfl⟩
  rw [← hQz]
  have B2 : ∀ (k2 : Int32 → Mem → Option (Int32 × Mem)) (C2 : ∀ (x3 : Int32) (M : Mem) (H : Heap) (locs : List Loc) (ls : Array Slot), k2 x3 M = some (r, M') → va_P g.1 vwCl (wl 5 a (eS g a M)) H → va_S (aA 5 a s.heap.size) s.heap H locs → lv_has ls 4 [(0, .ref (a 0)), (1, .int p1), (2, .int p2), (3, .int x3)] → W p l e rmX2_passUntilOff s m args below meth c H locs 0 0 Qz (F0 m 2 ls [])), ∀ (x3 : Int32) (M : Mem) (H : Heap) (locs : List Loc) (ls : Array Slot), fX2_passUntilOff_b2 p1 p2 k2 x3 M = some (r, M') → va_P g.1 vwCl (wl 5 a (eS g a M)) H → va_S (aA 5 a s.heap.size) s.heap H locs → lv_has ls 4 [(0, .ref (a 0)), (1, .int p1), (2, .int p2), (3, .int x3)] → W p l e rmX2_passUntilOff s m args below meth c H locs 0 0 Qz (F0 m 2 ls []) := by
    intro k2 C2 x3 M H locs ls h hP hS hl
    unfold fX2_passUntilOff_b2 at h
    refine lv_iload_n hx hb dX2_passUntilOff_2 rfl (lv_at hl 3 rfl) ?_
    refine lv_iload_n hx hb dX2_passUntilOff_3 rfl (lv_at hl 2 rfl) ?_
    refine lv_icmp_gt (x := x3) (y := p2) (tgt := 41) hx hb dX2_passUntilOff_4 (by decide) (fun q1 => ?_) (fun q1 => ?_)
    · replace h := if_t q1 h
      refine lv_ldc (v := (-1000000)) hx hb hown w81 dX2_passUntilOff_41 ?_
      rw [hQz]
      exact r_iret (v := (-1000000)) hx hb hr hlk hS ((Prod.mk.inj (Option.some.inj h)).2 ▸ hP) (Prod.mk.inj (Option.some.inj h)).1 dX2_passUntilOff_43
    · replace h := if_f q1 h
      refine lv_aload_n hx hb dX2_passUntilOff_7 rfl (lv_at hl 0 rfl) ?_
      refine r_get (v := .ref (a 3)) hx hb hts iX2 hown hK hP 0 (by decide) eS_0 rfl 6 (by decide) w31 rfl dX2_passUntilOff_8 ?_
      refine lv_iload_n hx hb dX2_passUntilOff_11 rfl (lv_at hl 1 rfl) ?_
      obtain ⟨q2, h⟩ := chk_ok h
      refine r_iald (i := p1) (h := M 3) hx hb hK hP 3 (by decide) (eS_a (by decide)) q2 dX2_passUntilOff_12 ?_
      refine lv_bipush (v := 99) hx hb dX2_passUntilOff_13 (by decide) ?_
      refine lv_icmp_ne (x := (M 3 (Int32.toNatClampNeg p1))) (y := 99) (tgt := 20) hx hb dX2_passUntilOff_15 (by decide) (fun q3 => ?_) (fun q3 => ?_)
      · replace h := if_f q3 h
        refine lv_aload_n hx hb dX2_passUntilOff_20 rfl (lv_at hl 0 rfl) ?_
        obtain ⟨r4, e5, h⟩ := bdP_ok h
        refine r_callVi (As := []) (rest := []) (ws' := (wl 5 a (eS g a M))) (ok_X2_nobodyGoesOff l g a hI M r4 e5) ⟨hx, hb, hml, hown, hts⟩ (cwV 0 hts gX2_passUntilOff_X2_nobodyGoesOff rfl rfl rfl (by decide +kernel) ⟨Nat.le_of_ble_eq_true rfl, Nat.le_of_ble_eq_true rfl⟩) hK (r_recv hK hP 0 (by decide) eS_0 (show vwCl[2]? = some (RX2, TX2, 8) from rfl)) hS hP (fun _ hq => aA_mono hS.1 hq) (fun _ h _ => h) rfl hl.1 rfl (Nat.le_of_ble_eq_true rfl) dX2_passUntilOff_21 ⟨Nat.zero_le _, Nat.zero_le _⟩ (fun H locs hP hS => ?_)
        refine lv_if_eq (x := r4) (tgt := 30) hx hb dX2_passUntilOff_24 (by decide) (fun q6 => ?_) (fun q6 => ?_)
        · replace h := if_t q6 h
          refine lv_aload_n hx hb dX2_passUntilOff_30 rfl (lv_at hl 0 rfl) ?_
          obtain ⟨r7, M9, e8, h⟩ := bdI_ok h
          refine r_callVi (As := []) (rest := []) (ws' := (wl 5 a (eS g a M9))) (ok_X2_pass l g a hI M M9 r7 e8) ⟨hx, hb, hml, hown, hts⟩ (cwV 0 hts gX2_passUntilOff_X2_pass rfl rfl rfl (by decide +kernel) ⟨Nat.le_of_ble_eq_true rfl, Nat.le_of_ble_eq_true rfl⟩) hK (r_recv hK hP 0 (by decide) eS_0 (show vwCl[2]? = some (RX2, TX2, 8) from rfl)) hS hP (fun _ hq => aA_mono hS.1 hq) (fun _ h _ => h) rfl hl.1 rfl (Nat.le_of_ble_eq_true rfl) dX2_passUntilOff_31 ⟨Nat.zero_le _, Nat.zero_le _⟩ (fun H locs hP hS => ?_)
          refine lv_pop hx hb dX2_passUntilOff_34 rfl ?_
          refine lv_iinc (v := (x3 + 1)) (lv' := [(3, .int (x3 + 1)), (0, .ref (a 0)), (1, .int p1), (2, .int p2)]) hx hb dX2_passUntilOff_35 hl (k := 3) rfl rfl (by decide) rfl (fun ls hl => ?_)
          refine lv_goto (tgt := 2) hx hb dX2_passUntilOff_38 (by decide) ?_
          exact C2 (x3 + 1) M9 _ _ _ h hP hS (lv_sub hl [1, 2, 3, 0] rfl)
        · replace h := if_f q6 h
          refine lv_goto (tgt := 41) hx hb dX2_passUntilOff_27 (by decide) ?_
          refine lv_ldc (v := (-1000000)) hx hb hown w81 dX2_passUntilOff_41 ?_
          rw [hQz]
          exact r_iret (v := (-1000000)) hx hb hr hlk hS ((Prod.mk.inj (Option.some.inj h)).2 ▸ hP) (Prod.mk.inj (Option.some.inj h)).1 dX2_passUntilOff_43
      · replace h := if_t q3 h
        refine lv_iload_n hx hb dX2_passUntilOff_18 rfl (lv_at hl 3 rfl) ?_
        rw [hQz]
        exact r_iret (v := x3) hx hb hr hlk hS ((Prod.mk.inj (Option.some.inj h)).2 ▸ hP) (Prod.mk.inj (Option.some.inj h)).1 dX2_passUntilOff_19
  have L2 : ∀ (n : Nat), ∀ (x3 : Int32) (M : Mem) (H : Heap) (locs : List Loc) (ls : Array Slot), fX2_passUntilOff_l2 p1 p2 n x3 M = some (r, M') → va_P g.1 vwCl (wl 5 a (eS g a M)) H → va_S (aA 5 a s.heap.size) s.heap H locs → lv_has ls 4 [(0, .ref (a 0)), (1, .int p1), (2, .int p2), (3, .int x3)] → W p l e rmX2_passUntilOff s m args below meth c H locs 0 0 Qz (F0 m 2 ls []) := by
    intro n
    induction n with
    | zero => intro x3 M H locs ls h; exact absurd (show (none : Option (Int32 × Mem)) = some _ from h) (fun z => by cases z)
    | succ n ih => exact fun x3 M H locs ls h hP hS hl => B2 (fX2_passUntilOff_l2 p1 p2 n) ih x3 M H locs ls h hP hS hl
  unfold fX2_passUntilOff at h
  refine lv_iconst (v := 0) hx hb dX2_passUntilOff_0 (by decide) ?_
  refine lv_istore_n (lv' := [(3, .int 0), (0, .ref (a 0)), (1, .int p1), (2, .int p2)]) hx hb dX2_passUntilOff_1 rfl hl (by decide) rfl (fun ls hl => ?_)
  exact L2 FU 0 M _ _ _ h hP hS (lv_sub hl [1, 2, 3, 0] rfl)
def rmX2_passUntilClear : Room := { frames := 5, cells := 0, slots := 0, locals := 152 }
set_option maxHeartbeats 4000000 in
set_option maxRecDepth 100000 in
theorem ok_X2_passUntilClear (l : Launch) (g : gT) (a : Nat → Nat) (hI : ij 5 a) (p1 : Int32) (M : Mem) (M' : Mem) (r : Int32) (h : fX2_passUntilClear p1 M = some (r, M')) : MI l yX2_passUntilClear wsX2_passUntilClear rmX2_passUntilClear g 5 a [.ref (a 0), .int p1] (wl 5 a (eS g a M)) (wl 5 a (eS g a M')) r := by
  refine MI_of (cc := cX2_passUntilClear) (maxL := 3) (rt := .int) (by decide) rfl (Nat.le_of_ble_eq_true rfl) ?_
  intro p e s m args below meth c ls hx hb hml hr hlk hts hown hK hP hl
  have hown : s.vm.findClass RX2 = some m.cls := hown
  have hl : lv_has ls 3 [(0, .ref (a 0)), (1, .int p1)] := hl
  have hS : va_S (aA 5 a s.heap.size) s.heap s.heap [] := va_S.rf
  have w81 := hts (.constant RX2 81 (-1000000)) (by decide +kernel)
  obtain ⟨Qz, hQz⟩ : ∃ Qz : State → Prop, Qz = MQ below (qI g (wl 5 a (eS g a M')) r (aA 5 a s.heap.size)) args s 0 0 (aA 5 a s.heap.size) := ⟨_, rfl⟩
  rw [← hQz]
  have B2 : ∀ (k2 : Int32 → Mem → Option (Int32 × Mem)) (C2 : ∀ (x2 : Int32) (M : Mem) (H : Heap) (locs : List Loc) (ls : Array Slot), k2 x2 M = some (r, M') → va_P g.1 vwCl (wl 5 a (eS g a M)) H → va_S (aA 5 a s.heap.size) s.heap H locs → lv_has ls 3 [(0, .ref (a 0)), (1, .int p1), (2, .int x2)] → W p l e rmX2_passUntilClear s m args below meth c H locs 0 0 Qz (F0 m 2 ls [])), ∀ (x2 : Int32) (M : Mem) (H : Heap) (locs : List Loc) (ls : Array Slot), fX2_passUntilClear_b2 p1 k2 x2 M = some (r, M') → va_P g.1 vwCl (wl 5 a (eS g a M)) H → va_S (aA 5 a s.heap.size) s.heap H locs → lv_has ls 3 [(0, .ref (a 0)), (1, .int p1), (2, .int x2)] → W p l e rmX2_passUntilClear s m args below meth c H locs 0 0 Qz (F0 m 2 ls []) := by
    intro k2 C2 x2 M H locs ls h hP hS hl
    unfold fX2_passUntilClear_b2 at h
    refine lv_iload_n hx hb dX2_passUntilClear_2 rfl (lv_at hl 2 rfl) ?_
    refine lv_iload_n hx hb dX2_passUntilClear_3 rfl (lv_at hl 1 rfl) ?_
    refine lv_icmp_gt (x := x2) (y := p1) (tgt := 37) hx hb dX2_passUntilClear_4 (by decide) (fun q1 => ?_) (fun q1 => ?_)
    · replace h := if_t q1 h
      refine lv_ldc (v := (-1000000)) hx hb hown w81 dX2_passUntilClear_37 ?_
      rw [hQz]
      exact r_iret (v := (-1000000)) hx hb hr hlk hS ((Prod.mk.inj (Option.some.inj h)).2 ▸ hP) (Prod.mk.inj (Option.some.inj h)).1 dX2_passUntilClear_39
    · replace h := if_f q1 h
      refine lv_aload_n hx hb dX2_passUntilClear_7 rfl (lv_at hl 0 rfl) ?_
      obtain ⟨r2, e3, h⟩ := bdP_ok h
      refine r_callVi (As := []) (rest := []) (ws' := (wl 5 a (eS g a M))) (ok_X2_isClear l g a hI M r2 e3) ⟨hx, hb, hml, hown, hts⟩ (cwV 0 hts gX2_passUntilClear_X2_isClear rfl rfl rfl (by decide +kernel) ⟨Nat.le_of_ble_eq_true rfl, Nat.le_of_ble_eq_true rfl⟩) hK (r_recv hK hP 0 (by decide) eS_0 (show vwCl[2]? = some (RX2, TX2, 8) from rfl)) hS hP (fun _ hq => aA_mono hS.1 hq) (fun _ h _ => h) rfl hl.1 rfl (Nat.le_of_ble_eq_true rfl) dX2_passUntilClear_8 ⟨Nat.zero_le _, Nat.zero_le _⟩ (fun H locs hP hS => ?_)
      refine lv_if_eq (x := r2) (tgt := 16) hx hb dX2_passUntilClear_11 (by decide) (fun q4 => ?_) (fun q4 => ?_)
      · replace h := if_t q4 h
        refine lv_aload_n hx hb dX2_passUntilClear_16 rfl (lv_at hl 0 rfl) ?_
        obtain ⟨r5, e6, h⟩ := bdP_ok h
        refine r_callVi (As := []) (rest := []) (ws' := (wl 5 a (eS g a M))) (ok_X2_nobodyGoesOff l g a hI M r5 e6) ⟨hx, hb, hml, hown, hts⟩ (cwV 0 hts gX2_passUntilClear_X2_nobodyGoesOff rfl rfl rfl (by decide +kernel) ⟨Nat.le_of_ble_eq_true rfl, Nat.le_of_ble_eq_true rfl⟩) hK (r_recv hK hP 0 (by decide) eS_0 (show vwCl[2]? = some (RX2, TX2, 8) from rfl)) hS hP (fun _ hq => aA_mono hS.1 hq) (fun _ h _ => h) rfl hl.1 rfl (Nat.le_of_ble_eq_true rfl) dX2_passUntilClear_17 ⟨Nat.zero_le _, Nat.zero_le _⟩ (fun H locs hP hS => ?_)
        refine lv_if_eq (x := r5) (tgt := 26) hx hb dX2_passUntilClear_20 (by decide) (fun q7 => ?_) (fun q7 => ?_)
        · replace h := if_t q7 h
          refine lv_aload_n hx hb dX2_passUntilClear_26 rfl (lv_at hl 0 rfl) ?_
          obtain ⟨r8, M10, e9, h⟩ := bdI_ok h
          refine r_callVi (As := []) (rest := []) (ws' := (wl 5 a (eS g a M10))) (ok_X2_pass l g a hI M M10 r8 e9) ⟨hx, hb, hml, hown, hts⟩ (cwV 0 hts gX2_passUntilClear_X2_pass rfl rfl rfl (by decide +kernel) ⟨Nat.le_of_ble_eq_true rfl, Nat.le_of_ble_eq_true rfl⟩) hK (r_recv hK hP 0 (by decide) eS_0 (show vwCl[2]? = some (RX2, TX2, 8) from rfl)) hS hP (fun _ hq => aA_mono hS.1 hq) (fun _ h _ => h) rfl hl.1 rfl (Nat.le_of_ble_eq_true rfl) dX2_passUntilClear_27 ⟨Nat.zero_le _, Nat.zero_le _⟩ (fun H locs hP hS => ?_)
          refine lv_pop hx hb dX2_passUntilClear_30 rfl ?_
          refine lv_iinc (v := (x2 + 1)) (lv' := [(2, .int (x2 + 1)), (0, .ref (a 0)), (1, .int p1)]) hx hb dX2_passUntilClear_31 hl (k := 2) rfl rfl (by decide) rfl (fun ls hl => ?_)
          refine lv_goto (tgt := 2) hx hb dX2_passUntilClear_34 (by decide) ?_
          exact C2 (x2 + 1) M10 _ _ _ h hP hS (lv_sub hl [1, 2, 0] rfl)
        · replace h := if_f q7 h
          refine lv_goto (tgt := 37) hx hb dX2_passUntilClear_23 (by decide) ?_
          refine lv_ldc (v := (-1000000)) hx hb hown w81 dX2_passUntilClear_37 ?_
          rw [hQz]
          exact r_iret (v := (-1000000)) hx hb hr hlk hS ((Prod.mk.inj (Option.some.inj h)).2 ▸ hP) (Prod.mk.inj (Option.some.inj h)).1 dX2_passUntilClear_39
      · replace h := if_f q4 h
        refine lv_iload_n hx hb dX2_passUntilClear_14 rfl (lv_at hl 2 rfl) ?_
        rw [hQz]
        exact r_iret (v := x2) hx hb hr hlk hS ((Prod.mk.inj (Option.some.inj h)).2 ▸ hP) (Prod.mk.inj (Option.some.inj h)).1 dX2_passUntilClear_15
  have L2 : ∀ (n : Nat), ∀ (x2 : Int32) (M : Mem) (H : Heap) (locs : List Loc) (ls : Array Slot), fX2_passUntilClear_l2 p1 n x2 M = some (r, M') → va_P g.1 vwCl (wl 5 a (eS g a M)) H → va_S (aA 5 a s.heap.size) s.heap H locs → lv_has ls 3 [(0, .ref (a 0)), (1, .int p1), (2, .int x2)] → W p l e rmX2_passUntilClear s m args below meth c H locs 0 0 Qz (F0 m 2 ls []) := by
    intro n
    induction n with
    | zero => intro x2 M H locs ls h; exact absurd (show (none : Option (Int32 × Mem)) = some _ from h) (fun z => by cases z)
    | succ n ih => exact fun x2 M H locs ls h hP hS hl => B2 (fX2_passUntilClear_l2 p1 n) ih x2 M H locs ls h hP hS hl
  unfold fX2_passUntilClear at h
  refine lv_iconst (v := 0) hx hb dX2_passUntilClear_0 (by decide) ?_
  refine lv_istore_n (lv' := [(2, .int 0), (0, .ref (a 0)), (1, .int p1)]) hx hb dX2_passUntilClear_1 rfl hl (by decide) rfl (fun ls hl => ?_)
  exact L2 FU 0 M _ _ _ h hP hS (lv_sub hl [1, 2, 0] rfl)
def rmX3_append : Room := { frames := 1, cells := 0, slots := 0, locals := 60 }
set_option maxHeartbeats 4000000 in
set_option maxRecDepth 100000 in
theorem ok_X3_append (l : Launch) (g : gT) (a : Nat → Nat) (hI : ij 203 a) (p1 : Int32) (M : Mem) (M' : Mem) (h : fX3_append p1 M = some M') : MV l yX3_append wsX3_append rmX3_append g 203 a [.ref (a 2), .int p1] (wl 203 a (eX g a M)) (wl 203 a (eX g a M')) := by
  refine MV_of (cc := cX3_append) (maxL := 2) (by decide) rfl (Nat.le_of_ble_eq_true rfl) ?_
  intro p e s m args below meth c ls hx hb hml hr hlk hts hown hK hP hl
  have hown : s.vm.findClass RX3 = some m.cls := hown
  have hl : lv_has ls 2 [(0, .ref (a 2)), (1, .int p1)] := hl
  have hS : va_S (aA 203 a s.heap.size) s.heap s.heap [] := va_S.rf
  have iX3 : ∀ w ∈ wsX30, w ∈ wsX3_append := fun w h => List.mem_cons_of_mem _ (List.mem_append_right _ h)
  have w15 := hts (.fieldLink RX3 15 "StepRiders$Tape" "length" "I") (by decide +kernel)
  have w9 := hts (.fieldLink RX3 9 "StepRiders$Tape" "bytes" "[I") (by decide +kernel)
  obtain ⟨Qz, hQz⟩ : ∃ Qz : State → Prop, Qz = MQ below (qV g (wl 203 a (eX g a M')) (aA 203 a s.heap.size)) args s 0 0 (aA 203 a s.heap.size) := ⟨_, rfl⟩
  rw [← hQz]
  unfold fX3_append at h
  refine lv_aload_n hx hb dX3_append_0 rfl (lv_at hl 0 rfl) ?_
  refine r_get (v := .int (M 2 1)) hx hb hts iX3 hown hK hP 2 (by decide) eX_2 rfl 1 (by decide) w15 rfl dX3_append_1 ?_
  refine lv_bipush (v := 90) hx hb dX3_append_4 (by decide) ?_
  refine lv_icmp_ge (x := (M 2 1)) (y := 90) (tgt := 29) hx hb dX3_append_6 (by decide) (fun q1 => ?_) (fun q1 => ?_)
  · replace h := if_t q1 h
    rw [hQz]
    exact r_vret hx hb hr hlk hS (Option.some.inj h ▸ hP) dX3_append_29
  · replace h := if_f q1 h
    refine lv_aload_n hx hb dX3_append_9 rfl (lv_at hl 0 rfl) ?_
    refine r_get (v := .ref (a 3)) hx hb hts iX3 hown hK hP 2 (by decide) eX_2 rfl 0 (by decide) w9 rfl dX3_append_10 ?_
    refine lv_aload_n hx hb dX3_append_13 rfl (lv_at hl 0 rfl) ?_
    refine r_get (v := .int (M 2 1)) hx hb hts iX3 hown hK hP 2 (by decide) eX_2 rfl 1 (by decide) w15 rfl dX3_append_14 ?_
    refine lv_iload_n hx hb dX3_append_17 rfl (lv_at hl 1 rfl) ?_
    obtain ⟨q2, h⟩ := chk_ok h
    refine r_iast (i := (M 2 1)) (x := p1) (h := M 3) (f' := eX g a (mp M 3 (Int32.toNatClampNeg (M 2 1)) p1)) hx hb hK hI (fun _ h => aA_in h) hP hS 3 (by decide) rfl q2 (eX_ua (fun _ => rfl)) dX3_append_18 (fun H locs hP hS => ?_)
    refine lv_aload_n hx hb dX3_append_19 rfl (lv_at hl 0 rfl) ?_
    refine lv_dup hx hb dX3_append_20 rfl ?_
    refine r_get (v := .int ((mp M 3 (Int32.toNatClampNeg (M 2 1)) p1) 2 1)) hx hb hts iX3 hown hK hP 2 (by decide) eX_2 rfl 1 (by decide) w15 rfl dX3_append_21 ?_
    refine lv_iconst (v := 1) hx hb dX3_append_24 (by decide) ?_
    refine lv_iadd (x := ((mp M 3 (Int32.toNatClampNeg (M 2 1)) p1) 2 1)) (y := 1) hx hb dX3_append_25 ?_
    refine r_put (v := .int (((mp M 3 (Int32.toNatClampNeg (M 2 1)) p1) 2 1) + 1)) (ty := .int) (f' := eX g a (mp (mp M 3 (Int32.toNatClampNeg (M 2 1)) p1) 2 1 (((mp M 3 (Int32.toNatClampNeg (M 2 1)) p1) 2 1) + 1))) hx hb hts iX3 tyX3 tyX3_ok nmX3 hown hK hI (fun _ h => aA_in h) hP hS 2 (by decide) eX_2 rfl 1 (by decide) w15 rfl (by decide +kernel) rfl rfl (Nat.le_of_ble_eq_true rfl) eX_pTape1 dX3_append_26 (fun H locs hP hS => ?_)
    rw [hQz]
    exact r_vret hx hb hr hlk hS (Option.some.inj h ▸ hP) dX3_append_29
def rmX3_isFigure : Room := { frames := 1, cells := 0, slots := 0, locals := 60 }
set_option maxHeartbeats 4000000 in
set_option maxRecDepth 100000 in
theorem ok_X3_isFigure (l : Launch) (g : gT) (a : Nat → Nat) (hI : ij 203 a) (p1 : Int32) (M : Mem) (r : Int32) (h : fX3_isFigure p1 M = some r) : MI l yX3_isFigure wsX3_isFigure rmX3_isFigure g 203 a [.ref (a 2), .int p1] (wl 203 a (eX g a M)) (wl 203 a (eX g a M)) r := by
  refine MI_of (cc := cX3_isFigure) (maxL := 2) (rt := .boolean) (by decide) rfl (Nat.le_of_ble_eq_true rfl) ?_
  intro p e s m args below meth c ls hx hb hml hr hlk hts hown hK hP hl
  have hown : s.vm.findClass RX3 = some m.cls := hown
  have hl : lv_has ls 2 [(0, .ref (a 2)), (1, .int p1)] := hl
  have hS : va_S (aA 203 a s.heap.size) s.heap s.heap [] := va_S.rf
  have iX3 : ∀ w ∈ wsX30, w ∈ wsX3_isFigure := fun w h => List.mem_cons_of_mem _ (List.mem_append_right _ h)
  have w15 := hts (.fieldLink RX3 15 "StepRiders$Tape" "length" "I") (by decide +kernel)
  have w9 := hts (.fieldLink RX3 9 "StepRiders$Tape" "bytes" "[I") (by decide +kernel)
  obtain ⟨Qz, hQz⟩ : ∃ Qz : State → Prop, Qz = MQ below (qI g (wl 203 a (eX g a M)) r (aA 203 a s.heap.size)) args s 0 0 (aA 203 a s.heap.size) := ⟨_, rfl⟩
  rw [← hQz]
  unfold fX3_isFigure at h
  refine lv_iload_n hx hb dX3_isFigure_0 rfl (lv_at hl 1 rfl) ?_
  refine lv_aload_n hx hb dX3_isFigure_1 rfl (lv_at hl 0 rfl) ?_
  refine r_get (v := .int (M 2 1)) hx hb hts iX3 hown hK hP 2 (by decide) eX_2 rfl 1 (by decide) w15 rfl dX3_isFigure_2 ?_
  refine lv_icmp_ge (x := p1) (y := (M 2 1)) (tgt := 34) hx hb dX3_isFigure_5 (by decide) (fun q1 => ?_) (fun q1 => ?_)
  · replace h := if_t q1 h
    refine lv_iconst (v := 0) hx hb dX3_isFigure_34 (by decide) ?_
    rw [hQz]
    exact r_zret (v := 0) hx hb hr hlk hS hP (Option.some.inj h) (by decide) dX3_isFigure_35
  · replace h := if_f q1 h
    refine lv_aload_n hx hb dX3_isFigure_8 rfl (lv_at hl 0 rfl) ?_
    refine r_get (v := .ref (a 3)) hx hb hts iX3 hown hK hP 2 (by decide) eX_2 rfl 0 (by decide) w9 rfl dX3_isFigure_9 ?_
    refine lv_iload_n hx hb dX3_isFigure_12 rfl (lv_at hl 1 rfl) ?_
    obtain ⟨q2, h⟩ := chk_ok h
    refine r_iald (i := p1) (h := M 3) hx hb hK hP 3 (by decide) rfl q2 dX3_isFigure_13 ?_
    refine lv_bipush (v := 48) hx hb dX3_isFigure_14 (by decide) ?_
    refine lv_icmp_lt (x := (M 3 (Int32.toNatClampNeg p1))) (y := 48) (tgt := 34) hx hb dX3_isFigure_16 (by decide) (fun q3 => ?_) (fun q3 => ?_)
    · replace h := if_t q3 h
      refine lv_iconst (v := 0) hx hb dX3_isFigure_34 (by decide) ?_
      rw [hQz]
      exact r_zret (v := 0) hx hb hr hlk hS hP (Option.some.inj h) (by decide) dX3_isFigure_35
    · replace h := if_f q3 h
      refine lv_aload_n hx hb dX3_isFigure_19 rfl (lv_at hl 0 rfl) ?_
      refine r_get (v := .ref (a 3)) hx hb hts iX3 hown hK hP 2 (by decide) eX_2 rfl 0 (by decide) w9 rfl dX3_isFigure_20 ?_
      refine lv_iload_n hx hb dX3_isFigure_23 rfl (lv_at hl 1 rfl) ?_
      obtain ⟨q4, h⟩ := chk_ok h
      refine r_iald (i := p1) (h := M 3) hx hb hK hP 3 (by decide) rfl q4 dX3_isFigure_24 ?_
      refine lv_bipush (v := 57) hx hb dX3_isFigure_25 (by decide) ?_
      refine lv_icmp_gt (x := (M 3 (Int32.toNatClampNeg p1))) (y := 57) (tgt := 34) hx hb dX3_isFigure_27 (by decide) (fun q5 => ?_) (fun q5 => ?_)
      · replace h := if_t q5 h
        refine lv_iconst (v := 0) hx hb dX3_isFigure_34 (by decide) ?_
        rw [hQz]
        exact r_zret (v := 0) hx hb hr hlk hS hP (Option.some.inj h) (by decide) dX3_isFigure_35
      · replace h := if_f q5 h
        refine lv_iconst (v := 1) hx hb dX3_isFigure_30 (by decide) ?_
        refine lv_goto (tgt := 35) hx hb dX3_isFigure_31 (by decide) ?_
        rw [hQz]
        exact r_zret (v := 1) hx hb hr hlk hS hP (Option.some.inj h) (by decide) dX3_isFigure_35
