def rmX6_goes : Room := { frames := 2, cells := 0, slots := 0, locals := 86 }
set_option maxHeartbeats 4000000 in
set_option maxRecDepth 100000 in
theorem ok_X6_goes (l : Launch) (g : gT) (a : Nat → Nat) (hI : ij 1 a) (p1 : Int32) (p2 : Int32) (M : Mem) (M' : Mem) (r : Int32) (h : fX6_goes p1 p2 M = some (r, M')) : MI l yX6_goes wsX6_goes rmX6_goes g 1 a [.ref (a 0), .int p1, .int p2] (wl 1 a (eC g a M)) (wl 1 a (eC g a M')) r := by
  refine MI_of (cc := cX6_goes) (maxL := 5) (rt := .boolean) (by decide) rfl (Nat.le_of_ble_eq_true rfl) ?_
  intro p e s m args below meth c ls hx hb hml hr hlk hts hown hK hP hl
  have hown : s.vm.findClass RX6 = some m.cls := hown
  have hl : lv_has ls 5 [(0, .ref (a 0)), (1, .int p1), (2, .int p2)] := hl
  have hS : va_S (aA 1 a s.heap.size) s.heap s.heap [] := va_S.rf
  obtain ⟨Qz, hQz⟩ : ∃ Qz : State → Prop, Qz = MQ below (qI g (wl 1 a (eC g a M')) r (aA 1 a s.heap.size)) args s 0 0 (aA 1 a s.heap.size) := ⟨_, rfl⟩
  rw [← hQz]
  have B42 : ∀ (s0 : Int32) (M : Mem) (H : Heap) (locs : List Loc) (ls : Array Slot), fX6_goes_b42 p1 p2 s0 M = some (r, M') → va_P g.1 vwCl (wl 1 a (eC g a M)) H → va_S (aA 1 a s.heap.size) s.heap H locs → lv_has ls 5 [(0, .ref (a 0)), (1, .int p1), (2, .int p2)] → W p l e rmX6_goes s m args below meth c H locs 0 0 Qz (F0 m 42 ls [.int s0]) := by
    intro s0 M H locs ls h hP hS hl
    unfold fX6_goes_b42 at h
    refine lv_istore (lv' := [(4, .int s0), (0, .ref (a 0)), (1, .int p1), (2, .int p2)]) hx hb dX6_goes_42 hl (by decide) rfl (fun ls hl => ?_)
    refine lv_aload_n hx hb dX6_goes_44 rfl (lv_at hl 1 rfl) ?_
    refine lv_iconst (v := 2) hx hb dX6_goes_45 (by decide) ?_
    refine lv_iload_n hx hb dX6_goes_46 rfl (lv_at hl 2 rfl) ?_
    refine lv_iadd (x := 2) (y := p1) hx hb dX6_goes_47 ?_
    refine lv_dup2_11 hx hb dX6_goes_48 rfl rfl ?_
    obtain ⟨q1, h⟩ := chk_ok h
    refine r_iald (i := (2 + p1)) (h := M 0) hx hb hK hP 0 (by decide) rfl q1 dX6_goes_49 ?_
    refine lv_iload hx hb dX6_goes_50 (lv_at hl 0 rfl) ?_
    refine lv_if_eq (x := s0) (tgt := 59) hx hb dX6_goes_52 (by decide) (fun q2 => ?_) (fun q2 => ?_)
    · replace h := if_t q2 h
      refine lv_iconst (v := 0) hx hb dX6_goes_59 (by decide) ?_
      refine lv_iadd (x := (M 0 (Int32.toNatClampNeg (2 + p1)))) (y := 0) hx hb dX6_goes_60 ?_
      obtain ⟨q3, h⟩ := chk_ok h
      refine r_iast (i := (2 + p1)) (x := ((M 0 (Int32.toNatClampNeg (2 + p1))) + 0)) (h := M 0) (f' := eC g a (mp M 0 (Int32.toNatClampNeg (2 + p1)) ((M 0 (Int32.toNatClampNeg (2 + p1))) + 0))) hx hb hK hI (fun _ h => aA_in h) hP hS 0 (by decide) rfl q3 eC_u dX6_goes_61 (fun H locs hP hS => ?_)
      refine lv_iload hx hb dX6_goes_62 (lv_at hl 0 rfl) ?_
      obtain ⟨q4, h⟩ := chk_ok h
      rw [hQz]
      exact r_zret (v := s0) hx hb hr hlk hS ((Prod.mk.inj (Option.some.inj h)).2 ▸ hP) (Prod.mk.inj (Option.some.inj h)).1 q4 dX6_goes_64
    · replace h := if_f q2 h
      refine lv_iload_n hx hb dX6_goes_55 rfl (lv_at hl 3 rfl) ?_
      refine lv_goto (tgt := 60) hx hb dX6_goes_56 (by decide) ?_
      refine lv_iadd (x := (M 0 (Int32.toNatClampNeg (2 + p1)))) (y := p2) hx hb dX6_goes_60 ?_
      obtain ⟨q5, h⟩ := chk_ok h
      refine r_iast (i := (2 + p1)) (x := ((M 0 (Int32.toNatClampNeg (2 + p1))) + p2)) (h := M 0) (f' := eC g a (mp M 0 (Int32.toNatClampNeg (2 + p1)) ((M 0 (Int32.toNatClampNeg (2 + p1))) + p2))) hx hb hK hI (fun _ h => aA_in h) hP hS 0 (by decide) rfl q5 eC_u dX6_goes_61 (fun H locs hP hS => ?_)
      refine lv_iload hx hb dX6_goes_62 (lv_at hl 0 rfl) ?_
      obtain ⟨q6, h⟩ := chk_ok h
      rw [hQz]
      exact r_zret (v := s0) hx hb hr hlk hS ((Prod.mk.inj (Option.some.inj h)).2 ▸ hP) (Prod.mk.inj (Option.some.inj h)).1 q6 dX6_goes_64
  have B41 : ∀ (M : Mem) (H : Heap) (locs : List Loc) (ls : Array Slot), fX6_goes_b41 p1 p2 M = some (r, M') → va_P g.1 vwCl (wl 1 a (eC g a M)) H → va_S (aA 1 a s.heap.size) s.heap H locs → lv_has ls 5 [(0, .ref (a 0)), (1, .int p1), (2, .int p2)] → W p l e rmX6_goes s m args below meth c H locs 0 0 Qz (F0 m 41 ls []) := by
    intro M H locs ls h hP hS hl
    unfold fX6_goes_b41 at h
    refine lv_iconst (v := 0) hx hb dX6_goes_41 (by decide) ?_
    exact B42 0 M _ _ _ h hP hS (lv_sub hl [0, 1, 2] rfl)
  unfold fX6_goes at h
  refine lv_aload_n hx hb dX6_goes_0 rfl (lv_at hl 0 rfl) ?_
  refine lv_iconst (v := 2) hx hb dX6_goes_1 (by decide) ?_
  refine lv_iload_n hx hb dX6_goes_2 rfl (lv_at hl 1 rfl) ?_
  refine lv_iadd (x := 2) (y := p1) hx hb dX6_goes_3 ?_
  obtain ⟨q1, h⟩ := chk_ok h
  refine r_iald (i := (2 + p1)) (h := M 0) hx hb hK hP 0 (by decide) rfl q1 dX6_goes_4 ?_
  refine lv_iload_n hx hb dX6_goes_5 rfl (lv_at hl 2 rfl) ?_
  refine lv_iadd (x := (M 0 (Int32.toNatClampNeg (2 + p1)))) (y := p2) hx hb dX6_goes_6 ?_
  refine lv_istore_n (lv' := [(3, .int ((M 0 (Int32.toNatClampNeg (2 + p1))) + p2)), (0, .ref (a 0)), (1, .int p1), (2, .int p2)]) hx hb dX6_goes_7 rfl hl (by decide) rfl (fun ls hl => ?_)
  refine lv_iload_n hx hb dX6_goes_8 rfl (lv_at hl 0 rfl) ?_
  refine lv_iconst (v := 0) hx hb dX6_goes_9 (by decide) ?_
  refine lv_aload_n hx hb dX6_goes_10 rfl (lv_at hl 1 rfl) ?_
  refine lv_bipush (v := 16) hx hb dX6_goes_11 (by decide) ?_
  obtain ⟨q2, h⟩ := chk_ok h
  refine r_iald (i := 16) (h := M 0) hx hb hK hP 0 (by decide) rfl q2 dX6_goes_13 ?_
  refine lv_iconst (v := 1) hx hb dX6_goes_14 (by decide) ?_
  refine lv_isub (x := (M 0 (Int32.toNatClampNeg 16))) (y := 1) hx hb dX6_goes_15 ?_
  obtain ⟨r3, e4, h⟩ := bdP_ok h
  refine r_callSi (As := [.int ((M 0 (Int32.toNatClampNeg (2 + p1))) + p2), .int 0, .int ((M 0 (Int32.toNatClampNeg 16)) - 1)]) (rest := []) (ws' := (wl 1 a (eC g a M))) (ok_X6_in l g ((M 0 (Int32.toNatClampNeg (2 + p1))) + p2) 0 ((M 0 (Int32.toNatClampNeg 16)) - 1) r3 e4) ⟨hx, hb, hml, hown, hts⟩ (cwS 3 hts gX6_goes_X6_in rfl rfl rfl (by decide +kernel) ⟨Nat.le_of_ble_eq_true rfl, Nat.le_of_ble_eq_true rfl⟩) hK hS nilP (P_A hS.1) (fun _ _ hk => wl_keep hP hk) rfl hl.1 rfl (Nat.le_of_ble_eq_true rfl) dX6_goes_16 ⟨Nat.zero_le _, Nat.zero_le _⟩ (fun H locs hP hS => ?_)
  refine lv_if_eq (x := r3) (tgt := 41) hx hb dX6_goes_19 (by decide) (fun q5 => ?_) (fun q5 => ?_)
  · replace h := if_t q5 h
    exact B41 M _ _ _ h hP hS (lv_sub hl [1, 2, 3] rfl)
  · replace h := if_f q5 h
    refine lv_aload_n hx hb dX6_goes_22 rfl (lv_at hl 1 rfl) ?_
    refine lv_iload_n hx hb dX6_goes_23 rfl (lv_at hl 2 rfl) ?_
    refine lv_iload_n hx hb dX6_goes_24 rfl (lv_at hl 0 rfl) ?_
    refine lv_aload_n hx hb dX6_goes_25 rfl (lv_at hl 1 rfl) ?_
    refine lv_bipush (v := 9) hx hb dX6_goes_26 (by decide) ?_
    refine lv_iload_n hx hb dX6_goes_28 rfl (lv_at hl 2 rfl) ?_
    refine lv_iadd (x := 9) (y := p1) hx hb dX6_goes_29 ?_
    obtain ⟨q6, h⟩ := chk_ok h
    refine r_iald (i := (9 + p1)) (h := M 0) hx hb hK hP 0 (by decide) rfl q6 dX6_goes_30 ?_
    obtain ⟨r7, e8, h⟩ := bdP_ok h
    refine r_callSi (As := [.ref (a 0), .int p1, .int ((M 0 (Int32.toNatClampNeg (2 + p1))) + p2), .int (M 0 (Int32.toNatClampNeg (9 + p1)))]) (rest := []) (ws' := (wl 1 a (eC g a M))) (ok_X6_isFree l g a hI p1 ((M 0 (Int32.toNatClampNeg (2 + p1))) + p2) (M 0 (Int32.toNatClampNeg (9 + p1))) M r7 e8) ⟨hx, hb, hml, hown, hts⟩ (cwS 4 hts gX6_goes_X6_isFree rfl rfl rfl (by decide +kernel) ⟨Nat.le_of_ble_eq_true rfl, Nat.le_of_ble_eq_true rfl⟩) hK hS hP (fun _ hq => aA_mono hS.1 hq) (fun _ h _ => h) rfl hl.1 rfl (Nat.le_of_ble_eq_true rfl) dX6_goes_31 ⟨Nat.zero_le _, Nat.zero_le _⟩ (fun H locs hP hS => ?_)
    refine lv_if_eq (x := r7) (tgt := 41) hx hb dX6_goes_34 (by decide) (fun q9 => ?_) (fun q9 => ?_)
    · replace h := if_t q9 h
      exact B41 M _ _ _ h hP hS (lv_sub hl [1, 2, 3] rfl)
    · replace h := if_f q9 h
      refine lv_iconst (v := 1) hx hb dX6_goes_37 (by decide) ?_
      refine lv_goto (tgt := 42) hx hb dX6_goes_38 (by decide) ?_
      exact B42 1 M _ _ _ h hP hS (lv_sub hl [1, 2, 3] rfl)
def rmX6_moves : Room := { frames := 3, cells := 0, slots := 0, locals := 110 }
set_option maxHeartbeats 4000000 in
set_option maxRecDepth 100000 in
theorem ok_X6_moves (l : Launch) (g : gT) (a : Nat → Nat) (hI : ij 1 a) (p1 : Int32) (M : Mem) (M' : Mem) (h : fX6_moves p1 M = some M') : MV l yX6_moves wsX6_moves rmX6_moves g 1 a [.ref (a 0), .int p1] (wl 1 a (eC g a M)) (wl 1 a (eC g a M')) := by
  refine MV_of (cc := cX6_moves) (maxL := 4) (by decide) rfl (Nat.le_of_ble_eq_true rfl) ?_
  intro p e s m args below meth c ls hx hb hml hr hlk hts hown hK hP hl
  have hown : s.vm.findClass RX6 = some m.cls := hown
  have hl : lv_has ls 4 [(0, .ref (a 0)), (1, .int p1)] := hl
  have hS : va_S (aA 1 a s.heap.size) s.heap s.heap [] := va_S.rf
  obtain ⟨Qz, hQz⟩ : ∃ Qz : State → Prop, Qz = MQ below (qV g (wl 1 a (eC g a M')) (aA 1 a s.heap.size)) args s 0 0 (aA 1 a s.heap.size) := ⟨_, rfl⟩
  rw [← hQz]
  have B54 : ∀ (x2 : Int32) (s0 : Int32) (M : Mem) (H : Heap) (locs : List Loc) (ls : Array Slot), fX6_moves_b54 p1 x2 s0 M = some M' → va_P g.1 vwCl (wl 1 a (eC g a M)) H → va_S (aA 1 a s.heap.size) s.heap H locs → lv_has ls 4 [(0, .ref (a 0)), (1, .int p1), (2, .int x2)] → W p l e rmX6_moves s m args below meth c H locs 0 0 Qz (F0 m 54 ls [.int s0]) := by
    intro x2 s0 M H locs ls h hP hS hl
    unfold fX6_moves_b54 at h
    refine lv_istore_n (lv' := [(3, .int s0), (0, .ref (a 0)), (1, .int p1), (2, .int x2)]) hx hb dX6_moves_54 rfl hl (by decide) rfl (fun ls hl => ?_)
    refine lv_iload_n hx hb dX6_moves_55 rfl (lv_at hl 3 rfl) ?_
    refine lv_iconst (v := 3) hx hb dX6_moves_56 (by decide) ?_
    refine lv_icmp_ne (x := x2) (y := 3) (tgt := 71) hx hb dX6_moves_57 (by decide) (fun q1 => ?_) (fun q1 => ?_)
    · replace h := if_f q1 h
      rw [hQz]
      exact r_vret hx hb hr hlk hS (Option.some.inj h ▸ hP) dX6_moves_71
    · replace h := if_t q1 h
      refine lv_iload_n hx hb dX6_moves_60 rfl (lv_at hl 0 rfl) ?_
      refine lv_if_eq (x := s0) (tgt := 71) hx hb dX6_moves_61 (by decide) (fun q2 => ?_) (fun q2 => ?_)
      · replace h := if_t q2 h
        rw [hQz]
        exact r_vret hx hb hr hlk hS (Option.some.inj h ▸ hP) dX6_moves_71
      · replace h := if_f q2 h
        refine lv_aload_n hx hb dX6_moves_64 rfl (lv_at hl 1 rfl) ?_
        refine lv_iload_n hx hb dX6_moves_65 rfl (lv_at hl 2 rfl) ?_
        refine lv_iconst (v := 1) hx hb dX6_moves_66 (by decide) ?_
        obtain ⟨r3, M5, e4, h⟩ := bdI_ok h
        refine r_callSi (As := [.ref (a 0), .int p1, .int 1]) (rest := []) (ws' := (wl 1 a (eC g a M5))) (ok_X6_goes l g a hI p1 1 M M5 r3 e4) ⟨hx, hb, hml, hown, hts⟩ (cwS 3 hts gX6_moves_X6_goes rfl rfl rfl (by decide +kernel) ⟨Nat.le_of_ble_eq_true rfl, Nat.le_of_ble_eq_true rfl⟩) hK hS hP (fun _ hq => aA_mono hS.1 hq) (fun _ h _ => h) rfl hl.1 rfl (Nat.le_of_ble_eq_true rfl) dX6_moves_67 ⟨Nat.zero_le _, Nat.zero_le _⟩ (fun H locs hP hS => ?_)
        refine lv_pop hx hb dX6_moves_70 rfl ?_
        rw [hQz]
        exact r_vret hx hb hr hlk hS (Option.some.inj h ▸ hP) dX6_moves_71
  have B53 : ∀ (x2 : Int32) (M : Mem) (H : Heap) (locs : List Loc) (ls : Array Slot), fX6_moves_b53 p1 x2 M = some M' → va_P g.1 vwCl (wl 1 a (eC g a M)) H → va_S (aA 1 a s.heap.size) s.heap H locs → lv_has ls 4 [(0, .ref (a 0)), (1, .int p1), (2, .int x2)] → W p l e rmX6_moves s m args below meth c H locs 0 0 Qz (F0 m 53 ls []) := by
    intro x2 M H locs ls h hP hS hl
    unfold fX6_moves_b53 at h
    refine lv_iconst (v := 0) hx hb dX6_moves_53 (by decide) ?_
    exact B54 x2 0 M _ _ _ h hP hS (lv_sub hl [0, 1, 2] rfl)
  have B17 : ∀ (x2 : Int32) (M : Mem) (H : Heap) (locs : List Loc) (ls : Array Slot), fX6_moves_b17 p1 x2 M = some M' → va_P g.1 vwCl (wl 1 a (eC g a M)) H → va_S (aA 1 a s.heap.size) s.heap H locs → lv_has ls 4 [(0, .ref (a 0)), (1, .int p1), (2, .int x2)] → W p l e rmX6_moves s m args below meth c H locs 0 0 Qz (F0 m 17 ls []) := by
    intro x2 M H locs ls h hP hS hl
    unfold fX6_moves_b17 at h
    refine lv_aload_n hx hb dX6_moves_17 rfl (lv_at hl 0 rfl) ?_
    refine lv_iload_n hx hb dX6_moves_18 rfl (lv_at hl 1 rfl) ?_
    refine lv_iconst (v := 1) hx hb dX6_moves_19 (by decide) ?_
    obtain ⟨r1, M3, e2, h⟩ := bdI_ok h
    refine r_callSi (As := [.ref (a 0), .int p1, .int 1]) (rest := []) (ws' := (wl 1 a (eC g a M3))) (ok_X6_goes l g a hI p1 1 M M3 r1 e2) ⟨hx, hb, hml, hown, hts⟩ (cwS 3 hts gX6_moves_X6_goes rfl rfl rfl (by decide +kernel) ⟨Nat.le_of_ble_eq_true rfl, Nat.le_of_ble_eq_true rfl⟩) hK hS hP (fun _ hq => aA_mono hS.1 hq) (fun _ h _ => h) rfl hl.1 rfl (Nat.le_of_ble_eq_true rfl) dX6_moves_20 ⟨Nat.zero_le _, Nat.zero_le _⟩ (fun H locs hP hS => ?_)
    refine lv_goto (tgt := 54) hx hb dX6_moves_23 (by decide) ?_
    exact B54 x2 r1 M3 _ _ _ h hP hS (lv_sub hl [0, 1, 2] rfl)
  unfold fX6_moves at h
  refine lv_aload_n hx hb dX6_moves_0 rfl (lv_at hl 0 rfl) ?_
  refine lv_bipush (v := 18) hx hb dX6_moves_1 (by decide) ?_
  refine lv_iload_n hx hb dX6_moves_3 rfl (lv_at hl 1 rfl) ?_
  refine lv_iadd (x := 18) (y := p1) hx hb dX6_moves_4 ?_
  obtain ⟨q1, h⟩ := chk_ok h
  refine r_iald (i := (18 + p1)) (h := M 0) hx hb hK hP 0 (by decide) rfl q1 dX6_moves_5 ?_
  refine lv_istore_n (lv' := [(2, .int (M 0 (Int32.toNatClampNeg (18 + p1)))), (0, .ref (a 0)), (1, .int p1)]) hx hb dX6_moves_6 rfl hl (by decide) rfl (fun ls hl => ?_)
  refine lv_iload_n hx hb dX6_moves_7 rfl (lv_at hl 0 rfl) ?_
  refine lv_iconst (v := 2) hx hb dX6_moves_8 (by decide) ?_
  refine lv_icmp_eq (x := (M 0 (Int32.toNatClampNeg (18 + p1)))) (y := 2) (tgt := 17) hx hb dX6_moves_9 (by decide) (fun q2 => ?_) (fun q2 => ?_)
  · replace h := if_t q2 h
    exact B17 (M 0 (Int32.toNatClampNeg (18 + p1))) M _ _ _ h hP hS (lv_sub hl [1, 2, 0] rfl)
  · replace h := if_f q2 h
    refine lv_iload_n hx hb dX6_moves_12 rfl (lv_at hl 0 rfl) ?_
    refine lv_iconst (v := 3) hx hb dX6_moves_13 (by decide) ?_
    refine lv_icmp_ne (x := (M 0 (Int32.toNatClampNeg (18 + p1)))) (y := 3) (tgt := 26) hx hb dX6_moves_14 (by decide) (fun q3 => ?_) (fun q3 => ?_)
    · replace h := if_f q3 h
      refine lv_iload_n hx hb dX6_moves_26 rfl (lv_at hl 0 rfl) ?_
      refine lv_iconst (v := 5) hx hb dX6_moves_27 (by decide) ?_
      refine lv_icmp_ne (x := (M 0 (Int32.toNatClampNeg (18 + p1)))) (y := 5) (tgt := 53) hx hb dX6_moves_28 (by decide) (fun q4 => ?_) (fun q4 => ?_)
      · replace h := if_f q4 h
        exact B53 (M 0 (Int32.toNatClampNeg (18 + p1))) M _ _ _ h hP hS (lv_sub hl [1, 2, 0] rfl)
      · replace h := if_t q4 h
        refine lv_aload_n hx hb dX6_moves_31 rfl (lv_at hl 1 rfl) ?_
        refine lv_iconst (v := 0) hx hb dX6_moves_32 (by decide) ?_
        obtain ⟨q5, h⟩ := chk_ok h
        refine r_iald (i := 0) (h := M 0) hx hb hK hP 0 (by decide) rfl q5 dX6_moves_33 ?_
        refine lv_iconst (v := 2) hx hb dX6_moves_34 (by decide) ?_
        refine lv_irem (x := (M 0 (Int32.toNatClampNeg 0))) (y := 2) hx hb dX6_moves_35 (by decide) ?_
        refine lv_iconst (v := 1) hx hb dX6_moves_36 (by decide) ?_
        refine lv_icmp_ne (x := ((M 0 (Int32.toNatClampNeg 0)) - (M 0 (Int32.toNatClampNeg 0)) / 2 * 2)) (y := 1) (tgt := 53) hx hb dX6_moves_37 (by decide) (fun q6 => ?_) (fun q6 => ?_)
        · replace h := if_f q6 h
          exact B53 (M 0 (Int32.toNatClampNeg (18 + p1))) M _ _ _ h hP hS (lv_sub hl [1, 2, 0] rfl)
        · replace h := if_t q6 h
          refine lv_aload_n hx hb dX6_moves_40 rfl (lv_at hl 1 rfl) ?_
          refine lv_iload_n hx hb dX6_moves_41 rfl (lv_at hl 2 rfl) ?_
          refine lv_iconst (v := (-1)) hx hb dX6_moves_42 (by decide) ?_
          obtain ⟨r7, M9, e8, h⟩ := bdI_ok h
          refine r_callSi (As := [.ref (a 0), .int p1, .int (-1)]) (rest := []) (ws' := (wl 1 a (eC g a M9))) (ok_X6_goes l g a hI p1 (-1) M M9 r7 e8) ⟨hx, hb, hml, hown, hts⟩ (cwS 3 hts gX6_moves_X6_goes rfl rfl rfl (by decide +kernel) ⟨Nat.le_of_ble_eq_true rfl, Nat.le_of_ble_eq_true rfl⟩) hK hS hP (fun _ hq => aA_mono hS.1 hq) (fun _ h _ => h) rfl hl.1 rfl (Nat.le_of_ble_eq_true rfl) dX6_moves_43 ⟨Nat.zero_le _, Nat.zero_le _⟩ (fun H locs hP hS => ?_)
          refine lv_if_eq (x := r7) (tgt := 53) hx hb dX6_moves_46 (by decide) (fun q10 => ?_) (fun q10 => ?_)
          · replace h := if_t q10 h
            exact B53 (M 0 (Int32.toNatClampNeg (18 + p1))) M9 _ _ _ h hP hS (lv_sub hl [1, 2, 0] rfl)
          · replace h := if_f q10 h
            refine lv_iconst (v := 1) hx hb dX6_moves_49 (by decide) ?_
            refine lv_goto (tgt := 54) hx hb dX6_moves_50 (by decide) ?_
            exact B54 (M 0 (Int32.toNatClampNeg (18 + p1))) 1 M9 _ _ _ h hP hS (lv_sub hl [1, 2, 0] rfl)
    · replace h := if_t q3 h
      exact B17 (M 0 (Int32.toNatClampNeg (18 + p1))) M _ _ _ h hP hS (lv_sub hl [1, 2, 0] rfl)
def rmX6_tick : Room := { frames := 4, cells := 0, slots := 0, locals := 133 }
set_option maxHeartbeats 4000000 in
set_option maxRecDepth 100000 in
theorem ok_X6_tick (l : Launch) (g : gT) (a : Nat → Nat) (hI : ij 14 a) (c1 : Nat) (M : Mem) (M' : Mem) (h1 : isTk c1 = true) (h : fX6_tick c1 M = some M') : MV l yX6_tick wsX6_tick rmX6_tick g 14 a [.ref (a 0), .ref (a c1)] (wl 14 a (eN g a M)) (wl 14 a (eN g a M')) := by
  refine MV_of (cc := cX6_tick) (maxL := 5) (by decide) rfl (Nat.le_of_ble_eq_true rfl) ?_
  intro p e s m args below meth c ls hx hb hml hr hlk hts hown hK hP hl
  have hown : s.vm.findClass RX6 = some m.cls := hown
  have hl : lv_has ls 5 [(0, .ref (a 0)), (1, .ref (a c1))] := hl
  have hS : va_S (aA 14 a s.heap.size) s.heap s.heap [] := va_S.rf
  have iX6 : ∀ w ∈ wsX60, w ∈ wsX6_tick := fun w h => List.mem_cons_of_mem _ (List.mem_append_right _ h)
  have w44 := hts (.fieldLink RX6 44 "StepRidersModel" "went" "[I") (by decide +kernel)
  obtain ⟨Qz, hQz⟩ : ∃ Qz : State → Prop, Qz = MQ below (qV g (wl 14 a (eN g a M')) (aA 14 a s.heap.size)) args s 0 0 (aA 14 a s.heap.size) := ⟨_, rfl⟩
  rw [← hQz]
  have B231 : ∀ (M : Mem) (H : Heap) (locs : List Loc) (ls : Array Slot), fX6_tick_b231 c1 M = some M' → va_P g.1 vwCl (wl 14 a (eN g a M)) H → va_S (aA 14 a s.heap.size) s.heap H locs → lv_has ls 5 [(0, .ref (a 0)), (1, .ref (a c1))] → W p l e rmX6_tick s m args below meth c H locs 0 0 Qz (F0 m 231 ls []) := by
    intro M H locs ls h hP hS hl
    unfold fX6_tick_b231 at h
    refine lv_aload_n hx hb dX6_tick_231 rfl (lv_at hl 1 rfl) ?_
    refine lv_iconst (v := 0) hx hb dX6_tick_232 (by decide) ?_
    refine lv_dup2_11 hx hb dX6_tick_233 rfl rfl ?_
    obtain ⟨q1, h⟩ := chk_ok h
    refine r_iald (i := 0) (h := M c1) hx hb hK hP c1 (isTk_lt h1) (eN_tk h1 _) q1 dX6_tick_234 ?_
    refine lv_iconst (v := 1) hx hb dX6_tick_235 (by decide) ?_
    refine lv_iadd (x := (M c1 (Int32.toNatClampNeg 0))) (y := 1) hx hb dX6_tick_236 ?_
    obtain ⟨q2, h⟩ := chk_ok h
    refine r_iast (i := 0) (x := ((M c1 (Int32.toNatClampNeg 0)) + 1)) (h := M c1) (f' := eN g a (mp M c1 (Int32.toNatClampNeg 0) ((M c1 (Int32.toNatClampNeg 0)) + 1))) hx hb hK hI (fun _ h => aA_in h) hP hS c1 (isTk_lt h1) (eN_tk h1 _) q2 (eN_ua (eN_tk h1)) dX6_tick_237 (fun H locs hP hS => ?_)
    rw [hQz]
    exact r_vret hx hb hr hlk hS (Option.some.inj h ▸ hP) dX6_tick_238
  have B221 : ∀ (x2 : Int32) (M : Mem) (H : Heap) (locs : List Loc) (ls : Array Slot), fX6_tick_b221 c1 x2 M = some M' → va_P g.1 vwCl (wl 14 a (eN g a M)) H → va_S (aA 14 a s.heap.size) s.heap H locs → lv_has ls 5 [(0, .ref (a 0)), (1, .ref (a c1)), (2, .int x2)] → W p l e rmX6_tick s m args below meth c H locs 0 0 Qz (F0 m 221 ls []) := by
    intro x2 M H locs ls h hP hS hl
    unfold fX6_tick_b221 at h
    refine lv_iload_n hx hb dX6_tick_221 rfl (lv_at hl 2 rfl) ?_
    refine lv_if_lt (x := x2) (tgt := 231) hx hb dX6_tick_222 (by decide) (fun q1 => ?_) (fun q1 => ?_)
    · replace h := if_t q1 h
      exact B231 M _ _ _ h hP hS (lv_sub hl [0, 1] rfl)
    · replace h := if_f q1 h
      refine lv_aload_n hx hb dX6_tick_225 rfl (lv_at hl 1 rfl) ?_
      refine lv_iconst (v := 2) hx hb dX6_tick_226 (by decide) ?_
      refine lv_iload_n hx hb dX6_tick_227 rfl (lv_at hl 2 rfl) ?_
      refine lv_iadd (x := 2) (y := x2) hx hb dX6_tick_228 ?_
      refine lv_iconst (v := 0) hx hb dX6_tick_229 (by decide) ?_
      obtain ⟨q2, h⟩ := chk_ok h
      refine r_iast (i := (2 + x2)) (x := 0) (h := M c1) (f' := eN g a (mp M c1 (Int32.toNatClampNeg (2 + x2)) 0)) hx hb hK hI (fun _ h => aA_in h) hP hS c1 (isTk_lt h1) (eN_tk h1 _) q2 (eN_ua (eN_tk h1)) dX6_tick_230 (fun H locs hP hS => ?_)
      exact B231 (mp M c1 (Int32.toNatClampNeg (2 + x2)) 0) _ _ _ h hP hS (lv_sub hl [0, 1] rfl)
  have B214 : ∀ (k181 : Int32 → Int32 → Mem → Option (Mem)) (C181 : ∀ (x2 : Int32) (x3 : Int32) (M : Mem) (H : Heap) (locs : List Loc) (ls : Array Slot), k181 x2 x3 M = some M' → va_P g.1 vwCl (wl 14 a (eN g a M)) H → va_S (aA 14 a s.heap.size) s.heap H locs → lv_has ls 5 [(0, .ref (a 0)), (1, .ref (a c1)), (2, .int x2), (3, .int x3)] → W p l e rmX6_tick s m args below meth c H locs 0 0 Qz (F0 m 181 ls [])), ∀ (x3 : Int32) (s0 : Int32) (M : Mem) (H : Heap) (locs : List Loc) (ls : Array Slot), fX6_tick_b214 c1 k181 x3 s0 M = some M' → va_P g.1 vwCl (wl 14 a (eN g a M)) H → va_S (aA 14 a s.heap.size) s.heap H locs → lv_has ls 5 [(0, .ref (a 0)), (1, .ref (a c1)), (3, .int x3)] → W p l e rmX6_tick s m args below meth c H locs 0 0 Qz (F0 m 214 ls [.int s0]) := by
    intro k181 C181 x3 s0 M H locs ls h hP hS hl
    unfold fX6_tick_b214 at h
    refine lv_istore_n (lv' := [(2, .int s0), (0, .ref (a 0)), (1, .ref (a c1)), (3, .int x3)]) hx hb dX6_tick_214 rfl hl (by decide) rfl (fun ls hl => ?_)
    refine lv_iinc (v := (x3 + (-1))) (lv' := [(3, .int (x3 + (-1))), (2, .int s0), (0, .ref (a 0)), (1, .ref (a c1))]) hx hb dX6_tick_215 hl (k := 3) rfl rfl (by decide) rfl (fun ls hl => ?_)
    refine lv_goto (tgt := 181) hx hb dX6_tick_218 (by decide) ?_
    exact C181 s0 (x3 + (-1)) M _ _ _ h hP hS (lv_sub hl [2, 3, 1, 0] rfl)
  have B213 : ∀ (k181 : Int32 → Int32 → Mem → Option (Mem)) (C181 : ∀ (x2 : Int32) (x3 : Int32) (M : Mem) (H : Heap) (locs : List Loc) (ls : Array Slot), k181 x2 x3 M = some M' → va_P g.1 vwCl (wl 14 a (eN g a M)) H → va_S (aA 14 a s.heap.size) s.heap H locs → lv_has ls 5 [(0, .ref (a 0)), (1, .ref (a c1)), (2, .int x2), (3, .int x3)] → W p l e rmX6_tick s m args below meth c H locs 0 0 Qz (F0 m 181 ls [])), ∀ (x2 : Int32) (x3 : Int32) (M : Mem) (H : Heap) (locs : List Loc) (ls : Array Slot), fX6_tick_b213 c1 k181 x2 x3 M = some M' → va_P g.1 vwCl (wl 14 a (eN g a M)) H → va_S (aA 14 a s.heap.size) s.heap H locs → lv_has ls 5 [(0, .ref (a 0)), (1, .ref (a c1)), (2, .int x2), (3, .int x3)] → W p l e rmX6_tick s m args below meth c H locs 0 0 Qz (F0 m 213 ls []) := by
    intro k181 C181 x2 x3 M H locs ls h hP hS hl
    unfold fX6_tick_b213 at h
    refine lv_iload_n hx hb dX6_tick_213 rfl (lv_at hl 2 rfl) ?_
    exact B214 k181 C181 x3 x2 M _ _ _ h hP hS (lv_sub hl [0, 1, 3] rfl)
  have B181 : ∀ (k181 : Int32 → Int32 → Mem → Option (Mem)) (C181 : ∀ (x2 : Int32) (x3 : Int32) (M : Mem) (H : Heap) (locs : List Loc) (ls : Array Slot), k181 x2 x3 M = some M' → va_P g.1 vwCl (wl 14 a (eN g a M)) H → va_S (aA 14 a s.heap.size) s.heap H locs → lv_has ls 5 [(0, .ref (a 0)), (1, .ref (a c1)), (2, .int x2), (3, .int x3)] → W p l e rmX6_tick s m args below meth c H locs 0 0 Qz (F0 m 181 ls [])), ∀ (x2 : Int32) (x3 : Int32) (M : Mem) (H : Heap) (locs : List Loc) (ls : Array Slot), fX6_tick_b181 c1 k181 x2 x3 M = some M' → va_P g.1 vwCl (wl 14 a (eN g a M)) H → va_S (aA 14 a s.heap.size) s.heap H locs → lv_has ls 5 [(0, .ref (a 0)), (1, .ref (a c1)), (2, .int x2), (3, .int x3)] → W p l e rmX6_tick s m args below meth c H locs 0 0 Qz (F0 m 181 ls []) := by
    intro k181 C181 x2 x3 M H locs ls h hP hS hl
    unfold fX6_tick_b181 at h
    refine lv_iload_n hx hb dX6_tick_181 rfl (lv_at hl 3 rfl) ?_
    refine lv_if_lt (x := x3) (tgt := 221) hx hb dX6_tick_182 (by decide) (fun q1 => ?_) (fun q1 => ?_)
    · replace h := if_t q1 h
      exact B221 x2 M _ _ _ h hP hS (lv_sub hl [0, 1, 2] rfl)
    · replace h := if_f q1 h
      refine lv_aload_n hx hb dX6_tick_185 rfl (lv_at hl 1 rfl) ?_
      refine lv_iconst (v := 2) hx hb dX6_tick_186 (by decide) ?_
      refine lv_iload_n hx hb dX6_tick_187 rfl (lv_at hl 3 rfl) ?_
      refine lv_iadd (x := 2) (y := x3) hx hb dX6_tick_188 ?_
      obtain ⟨q2, h⟩ := chk_ok h
      refine r_iald (i := (2 + x3)) (h := M c1) hx hb hK hP c1 (isTk_lt h1) (eN_tk h1 _) q2 dX6_tick_189 ?_
      refine lv_iconst (v := (-1)) hx hb dX6_tick_190 (by decide) ?_
      refine lv_icmp_ne (x := (M c1 (Int32.toNatClampNeg (2 + x3)))) (y := (-1)) (tgt := 213) hx hb dX6_tick_191 (by decide) (fun q3 => ?_) (fun q3 => ?_)
      · replace h := if_f q3 h
        exact B213 k181 C181 x2 x3 M _ _ _ h hP hS (lv_sub hl [0, 1, 2, 3] rfl)
      · replace h := if_t q3 h
        refine lv_aload_n hx hb dX6_tick_194 rfl (lv_at hl 1 rfl) ?_
        refine lv_iload_n hx hb dX6_tick_195 rfl (lv_at hl 3 rfl) ?_
        refine lv_iconst (v := 0) hx hb dX6_tick_196 (by decide) ?_
        refine lv_aload_n hx hb dX6_tick_197 rfl (lv_at hl 1 rfl) ?_
        refine lv_bipush (v := 9) hx hb dX6_tick_198 (by decide) ?_
        refine lv_iload_n hx hb dX6_tick_200 rfl (lv_at hl 3 rfl) ?_
        refine lv_iadd (x := 9) (y := x3) hx hb dX6_tick_201 ?_
        obtain ⟨q4, h⟩ := chk_ok h
        refine r_iald (i := (9 + x3)) (h := M c1) hx hb hK hP c1 (isTk_lt h1) (eN_tk h1 _) q4 dX6_tick_202 ?_
        obtain ⟨r5, e6, h⟩ := bdP_ok h
        refine r_callSi (As := [.ref (a c1), .int x3, .int 0, .int (M c1 (Int32.toNatClampNeg (9 + x3)))]) (rest := []) (ws' := (wl 14 a (eN g a M))) (ok_X6_isFree l g (fun _ => a c1) C_ij x3 0 (M c1 (Int32.toNatClampNeg (9 + x3))) (gC M c1) r5 e6) ⟨hx, hb, hml, hown, hts⟩ (cwS 4 hts gX6_tick_X6_isFree rfl rfl rfl (by decide +kernel) ⟨Nat.le_of_ble_eq_true rfl, Nat.le_of_ble_eq_true rfl⟩) hK hS (C_cut h1 hP) (C_A h1 hS.1) (C_keep h1 hI hP) rfl hl.1 rfl (Nat.le_of_ble_eq_true rfl) dX6_tick_203 ⟨Nat.zero_le _, Nat.zero_le _⟩ (fun H locs hP hS => ?_)
        refine lv_if_eq (x := r5) (tgt := 213) hx hb dX6_tick_206 (by decide) (fun q7 => ?_) (fun q7 => ?_)
        · replace h := if_t q7 h
          exact B213 k181 C181 x2 x3 M _ _ _ h hP hS (lv_sub hl [0, 1, 2, 3] rfl)
        · replace h := if_f q7 h
          refine lv_iload_n hx hb dX6_tick_209 rfl (lv_at hl 3 rfl) ?_
          refine lv_goto (tgt := 214) hx hb dX6_tick_210 (by decide) ?_
          exact B214 k181 C181 x3 x3 M _ _ _ h hP hS (lv_sub hl [0, 1, 3] rfl)
  have L181 : ∀ (n : Nat), ∀ (x2 : Int32) (x3 : Int32) (M : Mem) (H : Heap) (locs : List Loc) (ls : Array Slot), fX6_tick_l181 c1 n x2 x3 M = some M' → va_P g.1 vwCl (wl 14 a (eN g a M)) H → va_S (aA 14 a s.heap.size) s.heap H locs → lv_has ls 5 [(0, .ref (a 0)), (1, .ref (a c1)), (2, .int x2), (3, .int x3)] → W p l e rmX6_tick s m args below meth c H locs 0 0 Qz (F0 m 181 ls []) := by
    intro n
    induction n with
    | zero => intro x2 x3 M H locs ls h; exact absurd (show (none : Option (Mem)) = some _ from h) (fun z => by cases z)
    | succ n ih => exact fun x2 x3 M H locs ls h hP hS hl => B181 (fX6_tick_l181 c1 n) ih x2 x3 M H locs ls h hP hS hl
  have B172 : ∀ (M : Mem) (H : Heap) (locs : List Loc) (ls : Array Slot), fX6_tick_b172 c1 M = some M' → va_P g.1 vwCl (wl 14 a (eN g a M)) H → va_S (aA 14 a s.heap.size) s.heap H locs → lv_has ls 5 [(0, .ref (a 0)), (1, .ref (a c1))] → W p l e rmX6_tick s m args below meth c H locs 0 0 Qz (F0 m 172 ls []) := by
    intro M H locs ls h hP hS hl
    unfold fX6_tick_b172 at h
    refine lv_iconst (v := (-1)) hx hb dX6_tick_172 (by decide) ?_
    refine lv_istore_n (lv' := [(2, .int (-1)), (0, .ref (a 0)), (1, .ref (a c1))]) hx hb dX6_tick_173 rfl hl (by decide) rfl (fun ls hl => ?_)
    refine lv_aload_n hx hb dX6_tick_174 rfl (lv_at hl 2 rfl) ?_
    refine lv_bipush (v := 17) hx hb dX6_tick_175 (by decide) ?_
    obtain ⟨q1, h⟩ := chk_ok h
    refine r_iald (i := 17) (h := M c1) hx hb hK hP c1 (isTk_lt h1) (eN_tk h1 _) q1 dX6_tick_177 ?_
    refine lv_iconst (v := 1) hx hb dX6_tick_178 (by decide) ?_
    refine lv_isub (x := (M c1 (Int32.toNatClampNeg 17))) (y := 1) hx hb dX6_tick_179 ?_
    refine lv_istore_n (lv' := [(3, .int ((M c1 (Int32.toNatClampNeg 17)) - 1)), (2, .int (-1)), (0, .ref (a 0)), (1, .ref (a c1))]) hx hb dX6_tick_180 rfl hl (by decide) rfl (fun ls hl => ?_)
    exact L181 FU (-1) ((M c1 (Int32.toNatClampNeg 17)) - 1) M _ _ _ h hP hS (lv_sub hl [2, 3, 1, 0] rfl)
  have B166 : ∀ (k109 : Int32 → Mem → Option (Mem)) (C109 : ∀ (x2 : Int32) (M : Mem) (H : Heap) (locs : List Loc) (ls : Array Slot), k109 x2 M = some M' → va_P g.1 vwCl (wl 14 a (eN g a M)) H → va_S (aA 14 a s.heap.size) s.heap H locs → lv_has ls 5 [(0, .ref (a 0)), (1, .ref (a c1)), (2, .int x2)] → W p l e rmX6_tick s m args below meth c H locs 0 0 Qz (F0 m 109 ls [])), ∀ (x2 : Int32) (M : Mem) (H : Heap) (locs : List Loc) (ls : Array Slot), fX6_tick_b166 c1 k109 x2 M = some M' → va_P g.1 vwCl (wl 14 a (eN g a M)) H → va_S (aA 14 a s.heap.size) s.heap H locs → lv_has ls 5 [(0, .ref (a 0)), (1, .ref (a c1)), (2, .int x2)] → W p l e rmX6_tick s m args below meth c H locs 0 0 Qz (F0 m 166 ls []) := by
    intro k109 C109 x2 M H locs ls h hP hS hl
    unfold fX6_tick_b166 at h
    refine lv_iinc (v := (x2 + 1)) (lv' := [(2, .int (x2 + 1)), (0, .ref (a 0)), (1, .ref (a c1))]) hx hb dX6_tick_166 hl (k := 2) rfl rfl (by decide) rfl (fun ls hl => ?_)
    refine lv_goto (tgt := 109) hx hb dX6_tick_169 (by decide) ?_
    exact C109 (x2 + 1) M _ _ _ h hP hS (lv_sub hl [1, 2, 0] rfl)
  have B165 : ∀ (k109 : Int32 → Mem → Option (Mem)) (C109 : ∀ (x2 : Int32) (M : Mem) (H : Heap) (locs : List Loc) (ls : Array Slot), k109 x2 M = some M' → va_P g.1 vwCl (wl 14 a (eN g a M)) H → va_S (aA 14 a s.heap.size) s.heap H locs → lv_has ls 5 [(0, .ref (a 0)), (1, .ref (a c1)), (2, .int x2)] → W p l e rmX6_tick s m args below meth c H locs 0 0 Qz (F0 m 109 ls [])), ∀ (x2 : Int32) (s0 : Int32) (s1 : Int32) (M : Mem) (H : Heap) (locs : List Loc) (ls : Array Slot), fX6_tick_b165 c1 k109 x2 s0 s1 M = some M' → va_P g.1 vwCl (wl 14 a (eN g a M)) H → va_S (aA 14 a s.heap.size) s.heap H locs → lv_has ls 5 [(0, .ref (a 0)), (1, .ref (a c1)), (2, .int x2)] → W p l e rmX6_tick s m args below meth c H locs 0 0 Qz (F0 m 165 ls [.int s0, .int s1, .ref (a c1)]) := by
    intro k109 C109 x2 s0 s1 M H locs ls h hP hS hl
    unfold fX6_tick_b165 at h
    obtain ⟨q1, h⟩ := chk_ok h
    refine r_iast (i := s1) (x := s0) (h := M c1) (f' := eN g a (mp M c1 (Int32.toNatClampNeg s1) s0)) hx hb hK hI (fun _ h => aA_in h) hP hS c1 (isTk_lt h1) (eN_tk h1 _) q1 (eN_ua (eN_tk h1)) dX6_tick_165 (fun H locs hP hS => ?_)
    exact B166 k109 C109 x2 (mp M c1 (Int32.toNatClampNeg s1) s0) _ _ _ h hP hS (lv_sub hl [0, 1, 2] rfl)
  have B109 : ∀ (k109 : Int32 → Mem → Option (Mem)) (C109 : ∀ (x2 : Int32) (M : Mem) (H : Heap) (locs : List Loc) (ls : Array Slot), k109 x2 M = some M' → va_P g.1 vwCl (wl 14 a (eN g a M)) H → va_S (aA 14 a s.heap.size) s.heap H locs → lv_has ls 5 [(0, .ref (a 0)), (1, .ref (a c1)), (2, .int x2)] → W p l e rmX6_tick s m args below meth c H locs 0 0 Qz (F0 m 109 ls [])), ∀ (x2 : Int32) (M : Mem) (H : Heap) (locs : List Loc) (ls : Array Slot), fX6_tick_b109 c1 k109 x2 M = some M' → va_P g.1 vwCl (wl 14 a (eN g a M)) H → va_S (aA 14 a s.heap.size) s.heap H locs → lv_has ls 5 [(0, .ref (a 0)), (1, .ref (a c1)), (2, .int x2)] → W p l e rmX6_tick s m args below meth c H locs 0 0 Qz (F0 m 109 ls []) := by
    intro k109 C109 x2 M H locs ls h hP hS hl
    unfold fX6_tick_b109 at h
    refine lv_iload_n hx hb dX6_tick_109 rfl (lv_at hl 2 rfl) ?_
    refine lv_aload_n hx hb dX6_tick_110 rfl (lv_at hl 1 rfl) ?_
    refine lv_bipush (v := 17) hx hb dX6_tick_111 (by decide) ?_
    obtain ⟨q1, h⟩ := chk_ok h
    refine r_iald (i := 17) (h := M c1) hx hb hK hP c1 (isTk_lt h1) (eN_tk h1 _) q1 dX6_tick_113 ?_
    refine lv_icmp_ge (x := x2) (y := (M c1 (Int32.toNatClampNeg 17))) (tgt := 172) hx hb dX6_tick_114 (by decide) (fun q2 => ?_) (fun q2 => ?_)
    · replace h := if_t q2 h
      exact B172 M _ _ _ h hP hS (lv_sub hl [0, 1] rfl)
    · replace h := if_f q2 h
      refine lv_aload_n hx hb dX6_tick_117 rfl (lv_at hl 1 rfl) ?_
      refine lv_iconst (v := 2) hx hb dX6_tick_118 (by decide) ?_
      refine lv_iload_n hx hb dX6_tick_119 rfl (lv_at hl 2 rfl) ?_
      refine lv_iadd (x := 2) (y := x2) hx hb dX6_tick_120 ?_
      obtain ⟨q3, h⟩ := chk_ok h
      refine r_iald (i := (2 + x2)) (h := M c1) hx hb hK hP c1 (isTk_lt h1) (eN_tk h1 _) q3 dX6_tick_121 ?_
      obtain ⟨r4, e5, h⟩ := bdP_ok h
      refine r_callSi (As := [.int (M c1 (Int32.toNatClampNeg (2 + x2)))]) (rest := []) (ws' := (wl 14 a (eN g a M))) (ok_X6_isOn l g (M c1 (Int32.toNatClampNeg (2 + x2))) r4 e5) ⟨hx, hb, hml, hown, hts⟩ (cwS 1 hts gX6_tick_X6_isOn rfl rfl rfl (by decide +kernel) ⟨Nat.le_of_ble_eq_true rfl, Nat.le_of_ble_eq_true rfl⟩) hK hS nilP (P_A hS.1) (fun _ _ hk => wl_keep hP hk) rfl hl.1 rfl (Nat.le_of_ble_eq_true rfl) dX6_tick_122 ⟨Nat.zero_le _, Nat.zero_le _⟩ (fun H locs hP hS => ?_)
      refine lv_if_eq (x := r4) (tgt := 166) hx hb dX6_tick_125 (by decide) (fun q6 => ?_) (fun q6 => ?_)
      · replace h := if_t q6 h
        exact B166 k109 C109 x2 M _ _ _ h hP hS (lv_sub hl [0, 1, 2] rfl)
      · replace h := if_f q6 h
        refine lv_aload_n hx hb dX6_tick_128 rfl (lv_at hl 1 rfl) ?_
        refine lv_iconst (v := 2) hx hb dX6_tick_129 (by decide) ?_
        refine lv_iload_n hx hb dX6_tick_130 rfl (lv_at hl 2 rfl) ?_
        refine lv_iadd (x := 2) (y := x2) hx hb dX6_tick_131 ?_
        refine lv_dup2_11 hx hb dX6_tick_132 rfl rfl ?_
        obtain ⟨q7, h⟩ := chk_ok h
        refine r_iald (i := (2 + x2)) (h := M c1) hx hb hK hP c1 (isTk_lt h1) (eN_tk h1 _) q7 dX6_tick_133 ?_
        refine lv_aload_n hx hb dX6_tick_134 rfl (lv_at hl 1 rfl) ?_
        refine lv_iconst (v := 1) hx hb dX6_tick_135 (by decide) ?_
        obtain ⟨q8, h⟩ := chk_ok h
        refine r_iald (i := 1) (h := M c1) hx hb hK hP c1 (isTk_lt h1) (eN_tk h1 _) q8 dX6_tick_136 ?_
        refine lv_iadd (x := (M c1 (Int32.toNatClampNeg (2 + x2)))) (y := (M c1 (Int32.toNatClampNeg 1))) hx hb dX6_tick_137 ?_
        obtain ⟨q9, h⟩ := chk_ok h
        refine r_iast (i := (2 + x2)) (x := ((M c1 (Int32.toNatClampNeg (2 + x2))) + (M c1 (Int32.toNatClampNeg 1)))) (h := M c1) (f' := eN g a (mp M c1 (Int32.toNatClampNeg (2 + x2)) ((M c1 (Int32.toNatClampNeg (2 + x2))) + (M c1 (Int32.toNatClampNeg 1))))) hx hb hK hI (fun _ h => aA_in h) hP hS c1 (isTk_lt h1) (eN_tk h1 _) q9 (eN_ua (eN_tk h1)) dX6_tick_138 (fun H locs hP hS => ?_)
        refine lv_aload_n hx hb dX6_tick_139 rfl (lv_at hl 1 rfl) ?_
        refine lv_iconst (v := 2) hx hb dX6_tick_140 (by decide) ?_
        refine lv_iload_n hx hb dX6_tick_141 rfl (lv_at hl 2 rfl) ?_
        refine lv_iadd (x := 2) (y := x2) hx hb dX6_tick_142 ?_
        refine lv_aload_n hx hb dX6_tick_143 rfl (lv_at hl 1 rfl) ?_
        refine lv_iconst (v := 2) hx hb dX6_tick_144 (by decide) ?_
        refine lv_iload_n hx hb dX6_tick_145 rfl (lv_at hl 2 rfl) ?_
        refine lv_iadd (x := 2) (y := x2) hx hb dX6_tick_146 ?_
        obtain ⟨q10, h⟩ := chk_ok h
        refine r_iald (i := (2 + x2)) (h := (mp M c1 (Int32.toNatClampNeg (2 + x2)) ((M c1 (Int32.toNatClampNeg (2 + x2))) + (M c1 (Int32.toNatClampNeg 1)))) c1) hx hb hK hP c1 (isTk_lt h1) (eN_tk h1 _) q10 dX6_tick_147 ?_
        refine lv_aload_n hx hb dX6_tick_148 rfl (lv_at hl 1 rfl) ?_
        refine lv_bipush (v := 16) hx hb dX6_tick_149 (by decide) ?_
        obtain ⟨q11, h⟩ := chk_ok h
        refine r_iald (i := 16) (h := (mp M c1 (Int32.toNatClampNeg (2 + x2)) ((M c1 (Int32.toNatClampNeg (2 + x2))) + (M c1 (Int32.toNatClampNeg 1)))) c1) hx hb hK hP c1 (isTk_lt h1) (eN_tk h1 _) q11 dX6_tick_151 ?_
        refine lv_icmp_lt (x := ((mp M c1 (Int32.toNatClampNeg (2 + x2)) ((M c1 (Int32.toNatClampNeg (2 + x2))) + (M c1 (Int32.toNatClampNeg 1)))) c1 (Int32.toNatClampNeg (2 + x2)))) (y := ((mp M c1 (Int32.toNatClampNeg (2 + x2)) ((M c1 (Int32.toNatClampNeg (2 + x2))) + (M c1 (Int32.toNatClampNeg 1)))) c1 (Int32.toNatClampNeg 16))) (tgt := 160) hx hb dX6_tick_152 (by decide) (fun q12 => ?_) (fun q12 => ?_)
        · replace h := if_t q12 h
          refine lv_aload_n hx hb dX6_tick_160 rfl (lv_at hl 1 rfl) ?_
          refine lv_iconst (v := 2) hx hb dX6_tick_161 (by decide) ?_
          refine lv_iload_n hx hb dX6_tick_162 rfl (lv_at hl 2 rfl) ?_
          refine lv_iadd (x := 2) (y := x2) hx hb dX6_tick_163 ?_
          obtain ⟨q13, h⟩ := chk_ok h
          refine r_iald (i := (2 + x2)) (h := (mp M c1 (Int32.toNatClampNeg (2 + x2)) ((M c1 (Int32.toNatClampNeg (2 + x2))) + (M c1 (Int32.toNatClampNeg 1)))) c1) hx hb hK hP c1 (isTk_lt h1) (eN_tk h1 _) q13 dX6_tick_164 ?_
          exact B165 k109 C109 x2 ((mp M c1 (Int32.toNatClampNeg (2 + x2)) ((M c1 (Int32.toNatClampNeg (2 + x2))) + (M c1 (Int32.toNatClampNeg 1)))) c1 (Int32.toNatClampNeg (2 + x2))) (2 + x2) (mp M c1 (Int32.toNatClampNeg (2 + x2)) ((M c1 (Int32.toNatClampNeg (2 + x2))) + (M c1 (Int32.toNatClampNeg 1)))) _ _ _ h hP hS (lv_sub hl [0, 1, 2] rfl)
        · replace h := if_f q12 h
          refine lv_bipush (v := 99) hx hb dX6_tick_155 (by decide) ?_
          refine lv_goto (tgt := 165) hx hb dX6_tick_157 (by decide) ?_
          exact B165 k109 C109 x2 99 (2 + x2) (mp M c1 (Int32.toNatClampNeg (2 + x2)) ((M c1 (Int32.toNatClampNeg (2 + x2))) + (M c1 (Int32.toNatClampNeg 1)))) _ _ _ h hP hS (lv_sub hl [0, 1, 2] rfl)
  have L109 : ∀ (n : Nat), ∀ (x2 : Int32) (M : Mem) (H : Heap) (locs : List Loc) (ls : Array Slot), fX6_tick_l109 c1 n x2 M = some M' → va_P g.1 vwCl (wl 14 a (eN g a M)) H → va_S (aA 14 a s.heap.size) s.heap H locs → lv_has ls 5 [(0, .ref (a 0)), (1, .ref (a c1)), (2, .int x2)] → W p l e rmX6_tick s m args below meth c H locs 0 0 Qz (F0 m 109 ls []) := by
    intro n
    induction n with
    | zero => intro x2 M H locs ls h; exact absurd (show (none : Option (Mem)) = some _ from h) (fun z => by cases z)
    | succ n ih => exact fun x2 M H locs ls h hP hS hl => B109 (fX6_tick_l109 c1 n) ih x2 M H locs ls h hP hS hl
  have B107 : ∀ (M : Mem) (H : Heap) (locs : List Loc) (ls : Array Slot), fX6_tick_b107 c1 M = some M' → va_P g.1 vwCl (wl 14 a (eN g a M)) H → va_S (aA 14 a s.heap.size) s.heap H locs → lv_has ls 5 [(0, .ref (a 0)), (1, .ref (a c1))] → W p l e rmX6_tick s m args below meth c H locs 0 0 Qz (F0 m 107 ls []) := by
    intro M H locs ls h hP hS hl
    unfold fX6_tick_b107 at h
    refine lv_iconst (v := 0) hx hb dX6_tick_107 (by decide) ?_
    refine lv_istore_n (lv' := [(2, .int 0), (0, .ref (a 0)), (1, .ref (a c1))]) hx hb dX6_tick_108 rfl hl (by decide) rfl (fun ls hl => ?_)
    exact L109 FU 0 M _ _ _ h hP hS (lv_sub hl [1, 2, 0] rfl)
  have B101 : ∀ (k36 : Int32 → Mem → Option (Mem)) (C36 : ∀ (x2 : Int32) (M : Mem) (H : Heap) (locs : List Loc) (ls : Array Slot), k36 x2 M = some M' → va_P g.1 vwCl (wl 14 a (eN g a M)) H → va_S (aA 14 a s.heap.size) s.heap H locs → lv_has ls 5 [(0, .ref (a 0)), (1, .ref (a c1)), (2, .int x2)] → W p l e rmX6_tick s m args below meth c H locs 0 0 Qz (F0 m 36 ls [])), ∀ (x2 : Int32) (M : Mem) (H : Heap) (locs : List Loc) (ls : Array Slot), fX6_tick_b101 c1 k36 x2 M = some M' → va_P g.1 vwCl (wl 14 a (eN g a M)) H → va_S (aA 14 a s.heap.size) s.heap H locs → lv_has ls 5 [(0, .ref (a 0)), (1, .ref (a c1)), (2, .int x2)] → W p l e rmX6_tick s m args below meth c H locs 0 0 Qz (F0 m 101 ls []) := by
    intro k36 C36 x2 M H locs ls h hP hS hl
    unfold fX6_tick_b101 at h
    refine lv_iinc (v := (x2 + (-1))) (lv' := [(2, .int (x2 + (-1))), (0, .ref (a 0)), (1, .ref (a c1))]) hx hb dX6_tick_101 hl (k := 2) rfl rfl (by decide) rfl (fun ls hl => ?_)
    refine lv_goto (tgt := 36) hx hb dX6_tick_104 (by decide) ?_
    exact C36 (x2 + (-1)) M _ _ _ h hP hS (lv_sub hl [1, 2, 0] rfl)
  have B95 : ∀ (k36 : Int32 → Mem → Option (Mem)) (C36 : ∀ (x2 : Int32) (M : Mem) (H : Heap) (locs : List Loc) (ls : Array Slot), k36 x2 M = some M' → va_P g.1 vwCl (wl 14 a (eN g a M)) H → va_S (aA 14 a s.heap.size) s.heap H locs → lv_has ls 5 [(0, .ref (a 0)), (1, .ref (a c1)), (2, .int x2)] → W p l e rmX6_tick s m args below meth c H locs 0 0 Qz (F0 m 36 ls [])) (k42 : Int32 → Int32 → Mem → Option (Mem)) (C42 : ∀ (x2 : Int32) (x3 : Int32) (M : Mem) (H : Heap) (locs : List Loc) (ls : Array Slot), k42 x2 x3 M = some M' → va_P g.1 vwCl (wl 14 a (eN g a M)) H → va_S (aA 14 a s.heap.size) s.heap H locs → lv_has ls 5 [(0, .ref (a 0)), (1, .ref (a c1)), (2, .int x2), (3, .int x3)] → W p l e rmX6_tick s m args below meth c H locs 0 0 Qz (F0 m 42 ls [])), ∀ (x2 : Int32) (x3 : Int32) (M : Mem) (H : Heap) (locs : List Loc) (ls : Array Slot), fX6_tick_b95 c1 k36 k42 x2 x3 M = some M' → va_P g.1 vwCl (wl 14 a (eN g a M)) H → va_S (aA 14 a s.heap.size) s.heap H locs → lv_has ls 5 [(0, .ref (a 0)), (1, .ref (a c1)), (2, .int x2), (3, .int x3)] → W p l e rmX6_tick s m args below meth c H locs 0 0 Qz (F0 m 95 ls []) := by
    intro k36 C36 k42 C42 x2 x3 M H locs ls h hP hS hl
    unfold fX6_tick_b95 at h
    refine lv_iinc (v := (x3 + 1)) (lv' := [(3, .int (x3 + 1)), (0, .ref (a 0)), (1, .ref (a c1)), (2, .int x2)]) hx hb dX6_tick_95 hl (k := 3) rfl rfl (by decide) rfl (fun ls hl => ?_)
    refine lv_goto (tgt := 42) hx hb dX6_tick_98 (by decide) ?_
    exact C42 x2 (x3 + 1) M _ _ _ h hP hS (lv_sub hl [1, 2, 3, 0] rfl)
  have B89 : ∀ (k36 : Int32 → Mem → Option (Mem)) (C36 : ∀ (x2 : Int32) (M : Mem) (H : Heap) (locs : List Loc) (ls : Array Slot), k36 x2 M = some M' → va_P g.1 vwCl (wl 14 a (eN g a M)) H → va_S (aA 14 a s.heap.size) s.heap H locs → lv_has ls 5 [(0, .ref (a 0)), (1, .ref (a c1)), (2, .int x2)] → W p l e rmX6_tick s m args below meth c H locs 0 0 Qz (F0 m 36 ls [])) (k42 : Int32 → Int32 → Mem → Option (Mem)) (C42 : ∀ (x2 : Int32) (x3 : Int32) (M : Mem) (H : Heap) (locs : List Loc) (ls : Array Slot), k42 x2 x3 M = some M' → va_P g.1 vwCl (wl 14 a (eN g a M)) H → va_S (aA 14 a s.heap.size) s.heap H locs → lv_has ls 5 [(0, .ref (a 0)), (1, .ref (a c1)), (2, .int x2), (3, .int x3)] → W p l e rmX6_tick s m args below meth c H locs 0 0 Qz (F0 m 42 ls [])) (k50 : Int32 → Int32 → Int32 → Mem → Option (Mem)) (C50 : ∀ (x2 : Int32) (x3 : Int32) (x4 : Int32) (M : Mem) (H : Heap) (locs : List Loc) (ls : Array Slot), k50 x2 x3 x4 M = some M' → va_P g.1 vwCl (wl 14 a (eN g a M)) H → va_S (aA 14 a s.heap.size) s.heap H locs → lv_has ls 5 [(0, .ref (a 0)), (1, .ref (a c1)), (2, .int x2), (3, .int x3), (4, .int x4)] → W p l e rmX6_tick s m args below meth c H locs 0 0 Qz (F0 m 50 ls [])), ∀ (x2 : Int32) (x3 : Int32) (x4 : Int32) (M : Mem) (H : Heap) (locs : List Loc) (ls : Array Slot), fX6_tick_b89 c1 k36 k42 k50 x2 x3 x4 M = some M' → va_P g.1 vwCl (wl 14 a (eN g a M)) H → va_S (aA 14 a s.heap.size) s.heap H locs → lv_has ls 5 [(0, .ref (a 0)), (1, .ref (a c1)), (2, .int x2), (3, .int x3), (4, .int x4)] → W p l e rmX6_tick s m args below meth c H locs 0 0 Qz (F0 m 89 ls []) := by
    intro k36 C36 k42 C42 k50 C50 x2 x3 x4 M H locs ls h hP hS hl
    unfold fX6_tick_b89 at h
    refine lv_iinc (v := (x4 + 1)) (lv' := [(4, .int (x4 + 1)), (0, .ref (a 0)), (1, .ref (a c1)), (2, .int x2), (3, .int x3)]) hx hb dX6_tick_89 hl (k := 4) rfl rfl (by decide) rfl (fun ls hl => ?_)
    refine lv_goto (tgt := 50) hx hb dX6_tick_92 (by decide) ?_
    exact C50 x2 x3 (x4 + 1) M _ _ _ h hP hS (lv_sub hl [1, 2, 3, 4, 0] rfl)
  have B50 : ∀ (k36 : Int32 → Mem → Option (Mem)) (C36 : ∀ (x2 : Int32) (M : Mem) (H : Heap) (locs : List Loc) (ls : Array Slot), k36 x2 M = some M' → va_P g.1 vwCl (wl 14 a (eN g a M)) H → va_S (aA 14 a s.heap.size) s.heap H locs → lv_has ls 5 [(0, .ref (a 0)), (1, .ref (a c1)), (2, .int x2)] → W p l e rmX6_tick s m args below meth c H locs 0 0 Qz (F0 m 36 ls [])) (k42 : Int32 → Int32 → Mem → Option (Mem)) (C42 : ∀ (x2 : Int32) (x3 : Int32) (M : Mem) (H : Heap) (locs : List Loc) (ls : Array Slot), k42 x2 x3 M = some M' → va_P g.1 vwCl (wl 14 a (eN g a M)) H → va_S (aA 14 a s.heap.size) s.heap H locs → lv_has ls 5 [(0, .ref (a 0)), (1, .ref (a c1)), (2, .int x2), (3, .int x3)] → W p l e rmX6_tick s m args below meth c H locs 0 0 Qz (F0 m 42 ls [])) (k50 : Int32 → Int32 → Int32 → Mem → Option (Mem)) (C50 : ∀ (x2 : Int32) (x3 : Int32) (x4 : Int32) (M : Mem) (H : Heap) (locs : List Loc) (ls : Array Slot), k50 x2 x3 x4 M = some M' → va_P g.1 vwCl (wl 14 a (eN g a M)) H → va_S (aA 14 a s.heap.size) s.heap H locs → lv_has ls 5 [(0, .ref (a 0)), (1, .ref (a c1)), (2, .int x2), (3, .int x3), (4, .int x4)] → W p l e rmX6_tick s m args below meth c H locs 0 0 Qz (F0 m 50 ls [])), ∀ (x2 : Int32) (x3 : Int32) (x4 : Int32) (M : Mem) (H : Heap) (locs : List Loc) (ls : Array Slot), fX6_tick_b50 c1 k36 k42 k50 x2 x3 x4 M = some M' → va_P g.1 vwCl (wl 14 a (eN g a M)) H → va_S (aA 14 a s.heap.size) s.heap H locs → lv_has ls 5 [(0, .ref (a 0)), (1, .ref (a c1)), (2, .int x2), (3, .int x3), (4, .int x4)] → W p l e rmX6_tick s m args below meth c H locs 0 0 Qz (F0 m 50 ls []) := by
    intro k36 C36 k42 C42 k50 C50 x2 x3 x4 M H locs ls h hP hS hl
    unfold fX6_tick_b50 at h
    refine lv_iload hx hb dX6_tick_50 (lv_at hl 4 rfl) ?_
    refine lv_aload_n hx hb dX6_tick_52 rfl (lv_at hl 1 rfl) ?_
    refine lv_bipush (v := 17) hx hb dX6_tick_53 (by decide) ?_
    obtain ⟨q1, h⟩ := chk_ok h
    refine r_iald (i := 17) (h := M c1) hx hb hK hP c1 (isTk_lt h1) (eN_tk h1 _) q1 dX6_tick_55 ?_
    refine lv_icmp_ge (x := x4) (y := (M c1 (Int32.toNatClampNeg 17))) (tgt := 95) hx hb dX6_tick_56 (by decide) (fun q2 => ?_) (fun q2 => ?_)
    · replace h := if_t q2 h
      exact B95 k36 C36 k42 C42 x2 x3 M _ _ _ h hP hS (lv_sub hl [0, 1, 2, 3] rfl)
    · replace h := if_f q2 h
      refine lv_aload_n hx hb dX6_tick_59 rfl (lv_at hl 0 rfl) ?_
      refine r_get (v := .ref (a 12)) hx hb hts iX6 hown hK hP 0 (by decide) eN_0 rfl 15 (by decide) w44 rfl dX6_tick_60 ?_
      refine lv_iconst (v := 2) hx hb dX6_tick_63 (by decide) ?_
      refine lv_iload hx hb dX6_tick_64 (lv_at hl 4 rfl) ?_
      refine lv_iadd (x := 2) (y := x4) hx hb dX6_tick_66 ?_
      obtain ⟨q3, h⟩ := chk_ok h
      refine r_iald (i := (2 + x4)) (h := M 12) hx hb hK hP 12 (by decide) rfl q3 dX6_tick_67 ?_
      refine lv_iload_n hx hb dX6_tick_68 rfl (lv_at hl 2 rfl) ?_
      refine lv_icmp_ne (x := (M 12 (Int32.toNatClampNeg (2 + x4)))) (y := x2) (tgt := 89) hx hb dX6_tick_69 (by decide) (fun q4 => ?_) (fun q4 => ?_)
      · replace h := if_f q4 h
        exact B89 k36 C36 k42 C42 k50 C50 x2 x3 x4 M _ _ _ h hP hS (lv_sub hl [0, 1, 2, 3, 4] rfl)
      · replace h := if_t q4 h
        refine lv_aload_n hx hb dX6_tick_72 rfl (lv_at hl 1 rfl) ?_
        refine lv_bipush (v := 9) hx hb dX6_tick_73 (by decide) ?_
        refine lv_iload hx hb dX6_tick_75 (lv_at hl 4 rfl) ?_
        refine lv_iadd (x := 9) (y := x4) hx hb dX6_tick_77 ?_
        obtain ⟨q5, h⟩ := chk_ok h
        refine r_iald (i := (9 + x4)) (h := M c1) hx hb hK hP c1 (isTk_lt h1) (eN_tk h1 _) q5 dX6_tick_78 ?_
        refine lv_iload_n hx hb dX6_tick_79 rfl (lv_at hl 3 rfl) ?_
        refine lv_icmp_ne (x := (M c1 (Int32.toNatClampNeg (9 + x4)))) (y := x3) (tgt := 89) hx hb dX6_tick_80 (by decide) (fun q6 => ?_) (fun q6 => ?_)
        · replace h := if_f q6 h
          exact B89 k36 C36 k42 C42 k50 C50 x2 x3 x4 M _ _ _ h hP hS (lv_sub hl [0, 1, 2, 3, 4] rfl)
        · replace h := if_t q6 h
          refine lv_aload_n hx hb dX6_tick_83 rfl (lv_at hl 1 rfl) ?_
          refine lv_iload hx hb dX6_tick_84 (lv_at hl 4 rfl) ?_
          obtain ⟨M9, e8, h⟩ := bdV_ok h
          refine r_callSv (As := [.ref (a c1), .int x4]) (rest := []) (ws' := (wl 14 a (eN g a (pC M c1 M9)))) (ok_X6_moves l g (fun _ => a c1) C_ij x4 (gC M c1) M9 e8) ⟨hx, hb, hml, hown, hts⟩ (cwS 2 hts gX6_tick_X6_moves rfl rfl rfl (by decide +kernel) ⟨Nat.le_of_ble_eq_true rfl, Nat.le_of_ble_eq_true rfl⟩) hK hS (C_cut h1 hP) (C_A h1 hS.1) (C_join h1 hI hP) rfl hl.1 rfl (Nat.le_of_ble_eq_true rfl) dX6_tick_86 ⟨Nat.zero_le _, Nat.zero_le _⟩ (fun H locs hP hS => ?_)
          exact B89 k36 C36 k42 C42 k50 C50 x2 x3 x4 (pC M c1 M9) _ _ _ h hP hS (lv_sub hl [0, 1, 2, 3, 4] rfl)
  have L50 : ∀ (k36 : Int32 → Mem → Option (Mem)) (C36 : ∀ (x2 : Int32) (M : Mem) (H : Heap) (locs : List Loc) (ls : Array Slot), k36 x2 M = some M' → va_P g.1 vwCl (wl 14 a (eN g a M)) H → va_S (aA 14 a s.heap.size) s.heap H locs → lv_has ls 5 [(0, .ref (a 0)), (1, .ref (a c1)), (2, .int x2)] → W p l e rmX6_tick s m args below meth c H locs 0 0 Qz (F0 m 36 ls [])) (k42 : Int32 → Int32 → Mem → Option (Mem)) (C42 : ∀ (x2 : Int32) (x3 : Int32) (M : Mem) (H : Heap) (locs : List Loc) (ls : Array Slot), k42 x2 x3 M = some M' → va_P g.1 vwCl (wl 14 a (eN g a M)) H → va_S (aA 14 a s.heap.size) s.heap H locs → lv_has ls 5 [(0, .ref (a 0)), (1, .ref (a c1)), (2, .int x2), (3, .int x3)] → W p l e rmX6_tick s m args below meth c H locs 0 0 Qz (F0 m 42 ls [])) (n : Nat), ∀ (x2 : Int32) (x3 : Int32) (x4 : Int32) (M : Mem) (H : Heap) (locs : List Loc) (ls : Array Slot), fX6_tick_l50 c1 k36 k42 n x2 x3 x4 M = some M' → va_P g.1 vwCl (wl 14 a (eN g a M)) H → va_S (aA 14 a s.heap.size) s.heap H locs → lv_has ls 5 [(0, .ref (a 0)), (1, .ref (a c1)), (2, .int x2), (3, .int x3), (4, .int x4)] → W p l e rmX6_tick s m args below meth c H locs 0 0 Qz (F0 m 50 ls []) := by
    intro k36 C36 k42 C42 n
    induction n with
    | zero => intro x2 x3 x4 M H locs ls h; exact absurd (show (none : Option (Mem)) = some _ from h) (fun z => by cases z)
    | succ n ih => exact fun x2 x3 x4 M H locs ls h hP hS hl => B50 k36 C36 k42 C42 (fX6_tick_l50 c1 k36 k42 n) ih x2 x3 x4 M H locs ls h hP hS hl
  have B42 : ∀ (k36 : Int32 → Mem → Option (Mem)) (C36 : ∀ (x2 : Int32) (M : Mem) (H : Heap) (locs : List Loc) (ls : Array Slot), k36 x2 M = some M' → va_P g.1 vwCl (wl 14 a (eN g a M)) H → va_S (aA 14 a s.heap.size) s.heap H locs → lv_has ls 5 [(0, .ref (a 0)), (1, .ref (a c1)), (2, .int x2)] → W p l e rmX6_tick s m args below meth c H locs 0 0 Qz (F0 m 36 ls [])) (k42 : Int32 → Int32 → Mem → Option (Mem)) (C42 : ∀ (x2 : Int32) (x3 : Int32) (M : Mem) (H : Heap) (locs : List Loc) (ls : Array Slot), k42 x2 x3 M = some M' → va_P g.1 vwCl (wl 14 a (eN g a M)) H → va_S (aA 14 a s.heap.size) s.heap H locs → lv_has ls 5 [(0, .ref (a 0)), (1, .ref (a c1)), (2, .int x2), (3, .int x3)] → W p l e rmX6_tick s m args below meth c H locs 0 0 Qz (F0 m 42 ls [])), ∀ (x2 : Int32) (x3 : Int32) (M : Mem) (H : Heap) (locs : List Loc) (ls : Array Slot), fX6_tick_b42 c1 k36 k42 x2 x3 M = some M' → va_P g.1 vwCl (wl 14 a (eN g a M)) H → va_S (aA 14 a s.heap.size) s.heap H locs → lv_has ls 5 [(0, .ref (a 0)), (1, .ref (a c1)), (2, .int x2), (3, .int x3)] → W p l e rmX6_tick s m args below meth c H locs 0 0 Qz (F0 m 42 ls []) := by
    intro k36 C36 k42 C42 x2 x3 M H locs ls h hP hS hl
    unfold fX6_tick_b42 at h
    refine lv_iload_n hx hb dX6_tick_42 rfl (lv_at hl 3 rfl) ?_
    refine lv_iconst (v := 2) hx hb dX6_tick_43 (by decide) ?_
    refine lv_icmp_ge (x := x3) (y := 2) (tgt := 101) hx hb dX6_tick_44 (by decide) (fun q1 => ?_) (fun q1 => ?_)
    · replace h := if_t q1 h
      exact B101 k36 C36 x2 M _ _ _ h hP hS (lv_sub hl [0, 1, 2] rfl)
    · replace h := if_f q1 h
      refine lv_iconst (v := 0) hx hb dX6_tick_47 (by decide) ?_
      refine lv_istore (lv' := [(4, .int 0), (0, .ref (a 0)), (1, .ref (a c1)), (2, .int x2), (3, .int x3)]) hx hb dX6_tick_48 hl (by decide) rfl (fun ls hl => ?_)
      exact L50 k36 C36 k42 C42 FU x2 x3 0 M _ _ _ h hP hS (lv_sub hl [1, 2, 3, 4, 0] rfl)
  have L42 : ∀ (k36 : Int32 → Mem → Option (Mem)) (C36 : ∀ (x2 : Int32) (M : Mem) (H : Heap) (locs : List Loc) (ls : Array Slot), k36 x2 M = some M' → va_P g.1 vwCl (wl 14 a (eN g a M)) H → va_S (aA 14 a s.heap.size) s.heap H locs → lv_has ls 5 [(0, .ref (a 0)), (1, .ref (a c1)), (2, .int x2)] → W p l e rmX6_tick s m args below meth c H locs 0 0 Qz (F0 m 36 ls [])) (n : Nat), ∀ (x2 : Int32) (x3 : Int32) (M : Mem) (H : Heap) (locs : List Loc) (ls : Array Slot), fX6_tick_l42 c1 k36 n x2 x3 M = some M' → va_P g.1 vwCl (wl 14 a (eN g a M)) H → va_S (aA 14 a s.heap.size) s.heap H locs → lv_has ls 5 [(0, .ref (a 0)), (1, .ref (a c1)), (2, .int x2), (3, .int x3)] → W p l e rmX6_tick s m args below meth c H locs 0 0 Qz (F0 m 42 ls []) := by
    intro k36 C36 n
    induction n with
    | zero => intro x2 x3 M H locs ls h; exact absurd (show (none : Option (Mem)) = some _ from h) (fun z => by cases z)
    | succ n ih => exact fun x2 x3 M H locs ls h hP hS hl => B42 k36 C36 (fX6_tick_l42 c1 k36 n) ih x2 x3 M H locs ls h hP hS hl
  have B36 : ∀ (k36 : Int32 → Mem → Option (Mem)) (C36 : ∀ (x2 : Int32) (M : Mem) (H : Heap) (locs : List Loc) (ls : Array Slot), k36 x2 M = some M' → va_P g.1 vwCl (wl 14 a (eN g a M)) H → va_S (aA 14 a s.heap.size) s.heap H locs → lv_has ls 5 [(0, .ref (a 0)), (1, .ref (a c1)), (2, .int x2)] → W p l e rmX6_tick s m args below meth c H locs 0 0 Qz (F0 m 36 ls [])), ∀ (x2 : Int32) (M : Mem) (H : Heap) (locs : List Loc) (ls : Array Slot), fX6_tick_b36 c1 k36 x2 M = some M' → va_P g.1 vwCl (wl 14 a (eN g a M)) H → va_S (aA 14 a s.heap.size) s.heap H locs → lv_has ls 5 [(0, .ref (a 0)), (1, .ref (a c1)), (2, .int x2)] → W p l e rmX6_tick s m args below meth c H locs 0 0 Qz (F0 m 36 ls []) := by
    intro k36 C36 x2 M H locs ls h hP hS hl
    unfold fX6_tick_b36 at h
    refine lv_iload_n hx hb dX6_tick_36 rfl (lv_at hl 2 rfl) ?_
    refine lv_if_lt (x := x2) (tgt := 107) hx hb dX6_tick_37 (by decide) (fun q1 => ?_) (fun q1 => ?_)
    · replace h := if_t q1 h
      exact B107 M _ _ _ h hP hS (lv_sub hl [0, 1] rfl)
    · replace h := if_f q1 h
      refine lv_iconst (v := 0) hx hb dX6_tick_40 (by decide) ?_
      refine lv_istore_n (lv' := [(3, .int 0), (0, .ref (a 0)), (1, .ref (a c1)), (2, .int x2)]) hx hb dX6_tick_41 rfl hl (by decide) rfl (fun ls hl => ?_)
      exact L42 k36 C36 FU x2 0 M _ _ _ h hP hS (lv_sub hl [1, 2, 3, 0] rfl)
  have L36 : ∀ (n : Nat), ∀ (x2 : Int32) (M : Mem) (H : Heap) (locs : List Loc) (ls : Array Slot), fX6_tick_l36 c1 n x2 M = some M' → va_P g.1 vwCl (wl 14 a (eN g a M)) H → va_S (aA 14 a s.heap.size) s.heap H locs → lv_has ls 5 [(0, .ref (a 0)), (1, .ref (a c1)), (2, .int x2)] → W p l e rmX6_tick s m args below meth c H locs 0 0 Qz (F0 m 36 ls []) := by
    intro n
    induction n with
    | zero => intro x2 M H locs ls h; exact absurd (show (none : Option (Mem)) = some _ from h) (fun z => by cases z)
    | succ n ih => exact fun x2 M H locs ls h hP hS hl => B36 (fX6_tick_l36 c1 n) ih x2 M H locs ls h hP hS hl
  have B29 : ∀ (M : Mem) (H : Heap) (locs : List Loc) (ls : Array Slot), fX6_tick_b29 c1 M = some M' → va_P g.1 vwCl (wl 14 a (eN g a M)) H → va_S (aA 14 a s.heap.size) s.heap H locs → lv_has ls 5 [(0, .ref (a 0)), (1, .ref (a c1))] → W p l e rmX6_tick s m args below meth c H locs 0 0 Qz (F0 m 29 ls []) := by
    intro M H locs ls h hP hS hl
    unfold fX6_tick_b29 at h
    refine lv_aload_n hx hb dX6_tick_29 rfl (lv_at hl 1 rfl) ?_
    refine lv_bipush (v := 16) hx hb dX6_tick_30 (by decide) ?_
    obtain ⟨q1, h⟩ := chk_ok h
    refine r_iald (i := 16) (h := M c1) hx hb hK hP c1 (isTk_lt h1) (eN_tk h1 _) q1 dX6_tick_32 ?_
    refine lv_iconst (v := 1) hx hb dX6_tick_33 (by decide) ?_
    refine lv_isub (x := (M c1 (Int32.toNatClampNeg 16))) (y := 1) hx hb dX6_tick_34 ?_
    refine lv_istore_n (lv' := [(2, .int ((M c1 (Int32.toNatClampNeg 16)) - 1)), (0, .ref (a 0)), (1, .ref (a c1))]) hx hb dX6_tick_35 rfl hl (by decide) rfl (fun ls hl => ?_)
    exact L36 FU ((M c1 (Int32.toNatClampNeg 16)) - 1) M _ _ _ h hP hS (lv_sub hl [1, 2, 0] rfl)
  have B2 : ∀ (k2 : Int32 → Mem → Option (Mem)) (C2 : ∀ (x2 : Int32) (M : Mem) (H : Heap) (locs : List Loc) (ls : Array Slot), k2 x2 M = some M' → va_P g.1 vwCl (wl 14 a (eN g a M)) H → va_S (aA 14 a s.heap.size) s.heap H locs → lv_has ls 5 [(0, .ref (a 0)), (1, .ref (a c1)), (2, .int x2)] → W p l e rmX6_tick s m args below meth c H locs 0 0 Qz (F0 m 2 ls [])), ∀ (x2 : Int32) (M : Mem) (H : Heap) (locs : List Loc) (ls : Array Slot), fX6_tick_b2 c1 k2 x2 M = some M' → va_P g.1 vwCl (wl 14 a (eN g a M)) H → va_S (aA 14 a s.heap.size) s.heap H locs → lv_has ls 5 [(0, .ref (a 0)), (1, .ref (a c1)), (2, .int x2)] → W p l e rmX6_tick s m args below meth c H locs 0 0 Qz (F0 m 2 ls []) := by
    intro k2 C2 x2 M H locs ls h hP hS hl
    unfold fX6_tick_b2 at h
    refine lv_iload_n hx hb dX6_tick_2 rfl (lv_at hl 2 rfl) ?_
    refine lv_aload_n hx hb dX6_tick_3 rfl (lv_at hl 1 rfl) ?_
    refine lv_bipush (v := 17) hx hb dX6_tick_4 (by decide) ?_
    obtain ⟨q1, h⟩ := chk_ok h
    refine r_iald (i := 17) (h := M c1) hx hb hK hP c1 (isTk_lt h1) (eN_tk h1 _) q1 dX6_tick_6 ?_
    refine lv_icmp_ge (x := x2) (y := (M c1 (Int32.toNatClampNeg 17))) (tgt := 29) hx hb dX6_tick_7 (by decide) (fun q2 => ?_) (fun q2 => ?_)
    · replace h := if_t q2 h
      exact B29 M _ _ _ h hP hS (lv_sub hl [0, 1] rfl)
    · replace h := if_f q2 h
      refine lv_aload_n hx hb dX6_tick_10 rfl (lv_at hl 0 rfl) ?_
      refine r_get (v := .ref (a 12)) hx hb hts iX6 hown hK hP 0 (by decide) eN_0 rfl 15 (by decide) w44 rfl dX6_tick_11 ?_
      refine lv_iconst (v := 2) hx hb dX6_tick_14 (by decide) ?_
      refine lv_iload_n hx hb dX6_tick_15 rfl (lv_at hl 2 rfl) ?_
      refine lv_iadd (x := 2) (y := x2) hx hb dX6_tick_16 ?_
      refine lv_aload_n hx hb dX6_tick_17 rfl (lv_at hl 1 rfl) ?_
      refine lv_iconst (v := 2) hx hb dX6_tick_18 (by decide) ?_
      refine lv_iload_n hx hb dX6_tick_19 rfl (lv_at hl 2 rfl) ?_
      refine lv_iadd (x := 2) (y := x2) hx hb dX6_tick_20 ?_
      obtain ⟨q3, h⟩ := chk_ok h
      refine r_iald (i := (2 + x2)) (h := M c1) hx hb hK hP c1 (isTk_lt h1) (eN_tk h1 _) q3 dX6_tick_21 ?_
      obtain ⟨q4, h⟩ := chk_ok h
      refine r_iast (i := (2 + x2)) (x := (M c1 (Int32.toNatClampNeg (2 + x2)))) (h := M 12) (f' := eN g a (mp M 12 (Int32.toNatClampNeg (2 + x2)) (M c1 (Int32.toNatClampNeg (2 + x2))))) hx hb hK hI (fun _ h => aA_in h) hP hS 12 (by decide) rfl q4 (eN_ua (fun _ => rfl)) dX6_tick_22 (fun H locs hP hS => ?_)
      refine lv_iinc (v := (x2 + 1)) (lv' := [(2, .int (x2 + 1)), (0, .ref (a 0)), (1, .ref (a c1))]) hx hb dX6_tick_23 hl (k := 2) rfl rfl (by decide) rfl (fun ls hl => ?_)
      refine lv_goto (tgt := 2) hx hb dX6_tick_26 (by decide) ?_
      exact C2 (x2 + 1) (mp M 12 (Int32.toNatClampNeg (2 + x2)) (M c1 (Int32.toNatClampNeg (2 + x2)))) _ _ _ h hP hS (lv_sub hl [1, 2, 0] rfl)
  have L2 : ∀ (n : Nat), ∀ (x2 : Int32) (M : Mem) (H : Heap) (locs : List Loc) (ls : Array Slot), fX6_tick_l2 c1 n x2 M = some M' → va_P g.1 vwCl (wl 14 a (eN g a M)) H → va_S (aA 14 a s.heap.size) s.heap H locs → lv_has ls 5 [(0, .ref (a 0)), (1, .ref (a c1)), (2, .int x2)] → W p l e rmX6_tick s m args below meth c H locs 0 0 Qz (F0 m 2 ls []) := by
    intro n
    induction n with
    | zero => intro x2 M H locs ls h; exact absurd (show (none : Option (Mem)) = some _ from h) (fun z => by cases z)
    | succ n ih => exact fun x2 M H locs ls h hP hS hl => B2 (fX6_tick_l2 c1 n) ih x2 M H locs ls h hP hS hl
  unfold fX6_tick at h
  refine lv_iconst (v := 0) hx hb dX6_tick_0 (by decide) ?_
  refine lv_istore_n (lv' := [(2, .int 0), (0, .ref (a 0)), (1, .ref (a c1))]) hx hb dX6_tick_1 rfl hl (by decide) rfl (fun ls hl => ?_)
  exact L2 FU 0 M _ _ _ h hP hS (lv_sub hl [1, 2, 0] rfl)
def rmX6_offIn : Room := { frames := 1, cells := 0, slots := 0, locals := 60 }
set_option maxHeartbeats 4000000 in
set_option maxRecDepth 100000 in
theorem ok_X6_offIn (l : Launch) (g : gT) (a : Nat → Nat) (hI : ij 1 a) (M : Mem) (r : Int32) (h : fX6_offIn M = some r) : MI l yX6_offIn wsX6_offIn rmX6_offIn g 1 a [.ref (a 0)] (wl 1 a (eC g a M)) (wl 1 a (eC g a M)) r := by
  refine MI_of (cc := cX6_offIn) (maxL := 3) (rt := .int) (by decide) rfl (Nat.le_of_ble_eq_true rfl) ?_
  intro p e s m args below meth c ls hx hb hml hr hlk hts hown hK hP hl
  have hown : s.vm.findClass RX6 = some m.cls := hown
  have hl : lv_has ls 3 [(0, .ref (a 0))] := hl
  have hS : va_S (aA 1 a s.heap.size) s.heap s.heap [] := va_S.rf
  obtain ⟨Qz, hQz⟩ : ∃ Qz : State → Prop, Qz = MQ below (qI g (wl 1 a (eC g a M)) r (aA 1 a s.heap.size)) args s 0 0 (aA 1 a s.heap.size) := ⟨_, rfl⟩
  rw [← hQz]
  have B28 : ∀ (k4 : Int32 → Int32 → Option (Int32)) (C4 : ∀ (x1 : Int32) (x2 : Int32) (H : Heap) (locs : List Loc) (ls : Array Slot), k4 x1 x2 = some r → va_P g.1 vwCl (wl 1 a (eC g a M)) H → va_S (aA 1 a s.heap.size) s.heap H locs → lv_has ls 3 [(0, .ref (a 0)), (1, .int x1), (2, .int x2)] → W p l e rmX6_offIn s m args below meth c H locs 0 0 Qz (F0 m 4 ls [])), ∀ (x2 : Int32) (s0 : Int32) (s1 : Int32) (H : Heap) (locs : List Loc) (ls : Array Slot), fX6_offIn_b28 M k4 x2 s0 s1 = some r → va_P g.1 vwCl (wl 1 a (eC g a M)) H → va_S (aA 1 a s.heap.size) s.heap H locs → lv_has ls 3 [(0, .ref (a 0)), (2, .int x2)] → W p l e rmX6_offIn s m args below meth c H locs 0 0 Qz (F0 m 28 ls [.int s0, .int s1]) := by
    intro k4 C4 x2 s0 s1 H locs ls h hP hS hl
    unfold fX6_offIn_b28 at h
    refine lv_iadd (x := s1) (y := s0) hx hb dX6_offIn_28 ?_
    refine lv_istore_n (lv' := [(1, .int (s1 + s0)), (0, .ref (a 0)), (2, .int x2)]) hx hb dX6_offIn_29 rfl hl (by decide) rfl (fun ls hl => ?_)
    refine lv_iinc (v := (x2 + 1)) (lv' := [(2, .int (x2 + 1)), (1, .int (s1 + s0)), (0, .ref (a 0))]) hx hb dX6_offIn_30 hl (k := 2) rfl rfl (by decide) rfl (fun ls hl => ?_)
    refine lv_goto (tgt := 4) hx hb dX6_offIn_33 (by decide) ?_
    exact C4 (s1 + s0) (x2 + 1) _ _ _ h hP hS (lv_sub hl [2, 1, 0] rfl)
  have B4 : ∀ (k4 : Int32 → Int32 → Option (Int32)) (C4 : ∀ (x1 : Int32) (x2 : Int32) (H : Heap) (locs : List Loc) (ls : Array Slot), k4 x1 x2 = some r → va_P g.1 vwCl (wl 1 a (eC g a M)) H → va_S (aA 1 a s.heap.size) s.heap H locs → lv_has ls 3 [(0, .ref (a 0)), (1, .int x1), (2, .int x2)] → W p l e rmX6_offIn s m args below meth c H locs 0 0 Qz (F0 m 4 ls [])), ∀ (x1 : Int32) (x2 : Int32) (H : Heap) (locs : List Loc) (ls : Array Slot), fX6_offIn_b4 M k4 x1 x2 = some r → va_P g.1 vwCl (wl 1 a (eC g a M)) H → va_S (aA 1 a s.heap.size) s.heap H locs → lv_has ls 3 [(0, .ref (a 0)), (1, .int x1), (2, .int x2)] → W p l e rmX6_offIn s m args below meth c H locs 0 0 Qz (F0 m 4 ls []) := by
    intro k4 C4 x1 x2 H locs ls h hP hS hl
    unfold fX6_offIn_b4 at h
    refine lv_iload_n hx hb dX6_offIn_4 rfl (lv_at hl 2 rfl) ?_
    refine lv_aload_n hx hb dX6_offIn_5 rfl (lv_at hl 0 rfl) ?_
    refine lv_bipush (v := 17) hx hb dX6_offIn_6 (by decide) ?_
    obtain ⟨q1, h⟩ := chk_ok h
    refine r_iald (i := 17) (h := M 0) hx hb hK hP 0 (by decide) rfl q1 dX6_offIn_8 ?_
    refine lv_icmp_ge (x := x2) (y := (M 0 (Int32.toNatClampNeg 17))) (tgt := 36) hx hb dX6_offIn_9 (by decide) (fun q2 => ?_) (fun q2 => ?_)
    · replace h := if_t q2 h
      refine lv_iload_n hx hb dX6_offIn_36 rfl (lv_at hl 1 rfl) ?_
      rw [hQz]
      exact r_iret (v := x1) hx hb hr hlk hS hP (Option.some.inj h) dX6_offIn_37
    · replace h := if_f q2 h
      refine lv_iload_n hx hb dX6_offIn_12 rfl (lv_at hl 1 rfl) ?_
      refine lv_aload_n hx hb dX6_offIn_13 rfl (lv_at hl 0 rfl) ?_
      refine lv_iconst (v := 2) hx hb dX6_offIn_14 (by decide) ?_
      refine lv_iload_n hx hb dX6_offIn_15 rfl (lv_at hl 2 rfl) ?_
      refine lv_iadd (x := 2) (y := x2) hx hb dX6_offIn_16 ?_
      obtain ⟨q3, h⟩ := chk_ok h
      refine r_iald (i := (2 + x2)) (h := M 0) hx hb hK hP 0 (by decide) rfl q3 dX6_offIn_17 ?_
      refine lv_bipush (v := 99) hx hb dX6_offIn_18 (by decide) ?_
      refine lv_icmp_ne (x := (M 0 (Int32.toNatClampNeg (2 + x2)))) (y := 99) (tgt := 27) hx hb dX6_offIn_20 (by decide) (fun q4 => ?_) (fun q4 => ?_)
      · replace h := if_f q4 h
        refine lv_iconst (v := 0) hx hb dX6_offIn_27 (by decide) ?_
        exact B28 k4 C4 x2 0 x1 _ _ _ h hP hS (lv_sub hl [0, 2] rfl)
      · replace h := if_t q4 h
        refine lv_iconst (v := 1) hx hb dX6_offIn_23 (by decide) ?_
        refine lv_goto (tgt := 28) hx hb dX6_offIn_24 (by decide) ?_
        exact B28 k4 C4 x2 1 x1 _ _ _ h hP hS (lv_sub hl [0, 2] rfl)
  have L4 : ∀ (n : Nat), ∀ (x1 : Int32) (x2 : Int32) (H : Heap) (locs : List Loc) (ls : Array Slot), fX6_offIn_l4 M n x1 x2 = some r → va_P g.1 vwCl (wl 1 a (eC g a M)) H → va_S (aA 1 a s.heap.size) s.heap H locs → lv_has ls 3 [(0, .ref (a 0)), (1, .int x1), (2, .int x2)] → W p l e rmX6_offIn s m args below meth c H locs 0 0 Qz (F0 m 4 ls []) := by
    intro n
    induction n with
    | zero => intro x1 x2 H locs ls h; exact absurd (show (none : Option (Int32)) = some _ from h) (fun z => by cases z)
    | succ n ih => exact fun x1 x2 H locs ls h hP hS hl => B4 (fX6_offIn_l4 M n) ih x1 x2 H locs ls h hP hS hl
  unfold fX6_offIn at h
  refine lv_iconst (v := 0) hx hb dX6_offIn_0 (by decide) ?_
  refine lv_istore_n (lv' := [(1, .int 0), (0, .ref (a 0))]) hx hb dX6_offIn_1 rfl hl (by decide) rfl (fun ls hl => ?_)
  refine lv_iconst (v := 0) hx hb dX6_offIn_2 (by decide) ?_
  refine lv_istore_n (lv' := [(2, .int 0), (1, .int 0), (0, .ref (a 0))]) hx hb dX6_offIn_3 rfl hl (by decide) rfl (fun ls hl => ?_)
  exact L4 FU 0 0 _ _ _ h hP hS (lv_sub hl [2, 1, 0] rfl)
def rmX6_ticks : Room := { frames := 5, cells := 0, slots := 0, locals := 157 }
set_option maxHeartbeats 4000000 in
set_option maxRecDepth 100000 in
theorem ok_X6_ticks (l : Launch) (g : gT) (a : Nat → Nat) (hI : ij 14 a) (p1 : Int32) (M : Mem) (M' : Mem) (r : Int32) (h : fX6_ticks p1 M = some (r, M')) : MI l yX6_ticks wsX6_ticks rmX6_ticks g 14 a [.ref (a 0), .int p1] (wl 14 a (eN g a M)) (wl 14 a (eN g a M')) r := by
  refine MI_of (cc := cX6_ticks) (maxL := 3) (rt := .int) (by decide) rfl (Nat.le_of_ble_eq_true rfl) ?_
  intro p e s m args below meth c ls hx hb hml hr hlk hts hown hK hP hl
  have hown : s.vm.findClass RX6 = some m.cls := hown
  have hl : lv_has ls 3 [(0, .ref (a 0)), (1, .int p1)] := hl
  have hS : va_S (aA 14 a s.heap.size) s.heap s.heap [] := va_S.rf
  have iX6 : ∀ w ∈ wsX60, w ∈ wsX6_ticks := fun w h => List.mem_cons_of_mem _ (List.mem_append_right _ h)
  have w25 := hts (.fieldLink RX6 25 "StepRidersModel" "s" "[I") (by decide +kernel)
  have w82 := hts (.constant RX6 82 (-1000003)) (by decide +kernel)
  have w65 := hts (.constant RX6 65 (-1000001)) (by decide +kernel)
  have w136 := hts (.constant RX6 136 (-1000002)) (by decide +kernel)
  obtain ⟨Qz, hQz⟩ : ∃ Qz : State → Prop, Qz = MQ below (qI g (wl 14 a (eN g a M')) r (aA 14 a s.heap.size)) args s 0 0 (aA 14 a s.heap.size) := ⟨_, rfl⟩
  rw [← hQz]
  have B42 : ∀ (k42 : Int32 → Mem → Option (Int32 × Mem)) (C42 : ∀ (x2 : Int32) (M : Mem) (H : Heap) (locs : List Loc) (ls : Array Slot), k42 x2 M = some (r, M') → va_P g.1 vwCl (wl 14 a (eN g a M)) H → va_S (aA 14 a s.heap.size) s.heap H locs → lv_has ls 3 [(0, .ref (a 0)), (1, .int p1), (2, .int x2)] → W p l e rmX6_ticks s m args below meth c H locs 0 0 Qz (F0 m 42 ls [])), ∀ (x2 : Int32) (M : Mem) (H : Heap) (locs : List Loc) (ls : Array Slot), fX6_ticks_b42 p1 k42 x2 M = some (r, M') → va_P g.1 vwCl (wl 14 a (eN g a M)) H → va_S (aA 14 a s.heap.size) s.heap H locs → lv_has ls 3 [(0, .ref (a 0)), (1, .int p1), (2, .int x2)] → W p l e rmX6_ticks s m args below meth c H locs 0 0 Qz (F0 m 42 ls []) := by
    intro k42 C42 x2 M H locs ls h hP hS hl
    unfold fX6_ticks_b42 at h
    refine lv_iload_n hx hb dX6_ticks_42 rfl (lv_at hl 2 rfl) ?_
    refine lv_iload_n hx hb dX6_ticks_43 rfl (lv_at hl 1 rfl) ?_
    refine lv_icmp_ge (x := x2) (y := p1) (tgt := 65) hx hb dX6_ticks_44 (by decide) (fun q1 => ?_) (fun q1 => ?_)
    · replace h := if_t q1 h
      refine lv_aload_n hx hb dX6_ticks_65 rfl (lv_at hl 0 rfl) ?_
      refine r_get (v := .ref (a 6)) hx hb hts iX6 hown hK hP 0 (by decide) eN_0 rfl 8 (by decide) w25 rfl dX6_ticks_66 ?_
      obtain ⟨r2, e3, h⟩ := bdP_ok h
      refine r_callSi (As := [.ref (a 6)]) (rest := []) (ws' := (wl 14 a (eN g a M))) (ok_X6_offIn l g (fun _ => a 6) C_ij (gC M 6) r2 e3) ⟨hx, hb, hml, hown, hts⟩ (cwS 1 hts gX6_ticks_X6_offIn rfl rfl rfl (by decide +kernel) ⟨Nat.le_of_ble_eq_true rfl, Nat.le_of_ble_eq_true rfl⟩) hK hS (C_cut (c := 6) (by decide) hP) (C_A (c := 6) (by decide) hS.1) (C_keep (c := 6) (by decide) hI hP) rfl hl.1 rfl (Nat.le_of_ble_eq_true rfl) dX6_ticks_69 ⟨Nat.zero_le _, Nat.zero_le _⟩ (fun H locs hP hS => ?_)
      rw [hQz]
      exact r_iret (v := r2) hx hb hr hlk hS ((Prod.mk.inj (Option.some.inj h)).2 ▸ hP) (Prod.mk.inj (Option.some.inj h)).1 dX6_ticks_72
    · replace h := if_f q1 h
      refine lv_aload_n hx hb dX6_ticks_47 rfl (lv_at hl 0 rfl) ?_
      obtain ⟨M6, e5, h⟩ := bdV_ok h
      refine r_callVv (As := []) (rest := []) (ws' := (wl 14 a (eN g a M6))) (ok_X6_keeps l g a hI M M6 e5) ⟨hx, hb, hml, hown, hts⟩ (cwV 0 hts gX6_ticks_X6_keeps rfl rfl rfl (by decide +kernel) ⟨Nat.le_of_ble_eq_true rfl, Nat.le_of_ble_eq_true rfl⟩) hK (r_recv hK hP 0 (by decide) eN_0 (show vwCl[6]? = some (RX6, TX6, 20) from rfl)) hS hP (fun _ hq => aA_mono hS.1 hq) (fun _ h _ => h) rfl hl.1 rfl (Nat.le_of_ble_eq_true rfl) dX6_ticks_48 ⟨Nat.zero_le _, Nat.zero_le _⟩ (fun H locs hP hS => ?_)
      refine lv_aload_n hx hb dX6_ticks_51 rfl (lv_at hl 0 rfl) ?_
      refine lv_aload_n hx hb dX6_ticks_52 rfl (lv_at hl 0 rfl) ?_
      refine r_get (v := .ref (a 6)) hx hb hts iX6 hown hK hP 0 (by decide) eN_0 rfl 8 (by decide) w25 rfl dX6_ticks_53 ?_
      obtain ⟨M9, e8, h⟩ := bdV_ok h
      refine r_callVv (As := [.ref (a 6)]) (rest := []) (ws' := (wl 14 a (eN g a M9))) (ok_X6_tick l g a hI 6 M6 M9 (by decide) e8) ⟨hx, hb, hml, hown, hts⟩ (cwV 1 hts gX6_ticks_X6_tick rfl rfl rfl (by decide +kernel) ⟨Nat.le_of_ble_eq_true rfl, Nat.le_of_ble_eq_true rfl⟩) hK (r_recv hK hP 0 (by decide) eN_0 (show vwCl[6]? = some (RX6, TX6, 20) from rfl)) hS hP (fun _ hq => aA_mono hS.1 hq) (fun _ h _ => h) rfl hl.1 rfl (Nat.le_of_ble_eq_true rfl) dX6_ticks_56 ⟨Nat.zero_le _, Nat.zero_le _⟩ (fun H locs hP hS => ?_)
      refine lv_iinc (v := (x2 + 1)) (lv' := [(2, .int (x2 + 1)), (0, .ref (a 0)), (1, .int p1)]) hx hb dX6_ticks_59 hl (k := 2) rfl rfl (by decide) rfl (fun ls hl => ?_)
      refine lv_goto (tgt := 42) hx hb dX6_ticks_62 (by decide) ?_
      exact C42 (x2 + 1) M9 _ _ _ h hP hS (lv_sub hl [1, 2, 0] rfl)
  have L42 : ∀ (n : Nat), ∀ (x2 : Int32) (M : Mem) (H : Heap) (locs : List Loc) (ls : Array Slot), fX6_ticks_l42 p1 n x2 M = some (r, M') → va_P g.1 vwCl (wl 14 a (eN g a M)) H → va_S (aA 14 a s.heap.size) s.heap H locs → lv_has ls 3 [(0, .ref (a 0)), (1, .int p1), (2, .int x2)] → W p l e rmX6_ticks s m args below meth c H locs 0 0 Qz (F0 m 42 ls []) := by
    intro n
    induction n with
    | zero => intro x2 M H locs ls h; exact absurd (show (none : Option (Int32 × Mem)) = some _ from h) (fun z => by cases z)
    | succ n ih => exact fun x2 M H locs ls h hP hS hl => B42 (fX6_ticks_l42 p1 n) ih x2 M H locs ls h hP hS hl
  unfold fX6_ticks at h
  refine lv_aload_n hx hb dX6_ticks_0 rfl (lv_at hl 0 rfl) ?_
  obtain ⟨r1, e2, h⟩ := bdP_ok h
  refine r_callVi (As := []) (rest := []) (ws' := (wl 14 a (eN g a M))) (ok_X6_isStair l g a hI M r1 e2) ⟨hx, hb, hml, hown, hts⟩ (cwV 0 hts gX6_ticks_X6_isStair rfl rfl rfl (by decide +kernel) ⟨Nat.le_of_ble_eq_true rfl, Nat.le_of_ble_eq_true rfl⟩) hK (r_recv hK hP 0 (by decide) eN_0 (show vwCl[6]? = some (RX6, TX6, 20) from rfl)) hS hP (fun _ hq => aA_mono hS.1 hq) (fun _ h _ => h) rfl hl.1 rfl (Nat.le_of_ble_eq_true rfl) dX6_ticks_1 ⟨Nat.zero_le _, Nat.zero_le _⟩ (fun H locs hP hS => ?_)
  refine lv_if_ne (x := r1) (tgt := 10) hx hb dX6_ticks_4 (by decide) (fun q3 => ?_) (fun q3 => ?_)
  · replace h := if_f q3 h
    refine lv_iload_n hx hb dX6_ticks_10 rfl (lv_at hl 1 rfl) ?_
    refine lv_iconst (v := 1) hx hb dX6_ticks_11 (by decide) ?_
    refine lv_bipush (v := 24) hx hb dX6_ticks_12 (by decide) ?_
    obtain ⟨r4, e5, h⟩ := bdP_ok h
    refine r_callSi (As := [.int p1, .int 1, .int 24]) (rest := []) (ws' := (wl 14 a (eN g a M))) (ok_X6_in l g p1 1 24 r4 e5) ⟨hx, hb, hml, hown, hts⟩ (cwS 3 hts gX6_ticks_X6_in rfl rfl rfl (by decide +kernel) ⟨Nat.le_of_ble_eq_true rfl, Nat.le_of_ble_eq_true rfl⟩) hK hS nilP (P_A hS.1) (fun _ _ hk => wl_keep hP hk) rfl hl.1 rfl (Nat.le_of_ble_eq_true rfl) dX6_ticks_14 ⟨Nat.zero_le _, Nat.zero_le _⟩ (fun H locs hP hS => ?_)
    refine lv_if_ne (x := r4) (tgt := 23) hx hb dX6_ticks_17 (by decide) (fun q6 => ?_) (fun q6 => ?_)
    · replace h := if_f q6 h
      refine lv_aload_n hx hb dX6_ticks_23 rfl (lv_at hl 0 rfl) ?_
      refine r_get (v := .ref (a 6)) hx hb hts iX6 hown hK hP 0 (by decide) eN_0 rfl 8 (by decide) w25 rfl dX6_ticks_24 ?_
      refine lv_iconst (v := 0) hx hb dX6_ticks_27 (by decide) ?_
      obtain ⟨q7, h⟩ := chk_ok h
      refine r_iald (i := 0) (h := M 6) hx hb hK hP 6 (by decide) rfl q7 dX6_ticks_28 ?_
      refine lv_iload_n hx hb dX6_ticks_29 rfl (lv_at hl 1 rfl) ?_
      refine lv_iadd (x := (M 6 (Int32.toNatClampNeg 0))) (y := p1) hx hb dX6_ticks_30 ?_
      refine lv_sipush (v := 9999) hx hb dX6_ticks_31 (by decide) ?_
      refine lv_icmp_le (x := ((M 6 (Int32.toNatClampNeg 0)) + p1)) (y := 9999) (tgt := 40) hx hb dX6_ticks_34 (by decide) (fun q8 => ?_) (fun q8 => ?_)
      · replace h := if_t q8 h
        refine lv_iconst (v := 0) hx hb dX6_ticks_40 (by decide) ?_
        refine lv_istore_n (lv' := [(2, .int 0), (0, .ref (a 0)), (1, .int p1)]) hx hb dX6_ticks_41 rfl hl (by decide) rfl (fun ls hl => ?_)
        exact L42 FU 0 M _ _ _ h hP hS (lv_sub hl [1, 2, 0] rfl)
      · replace h := if_f q8 h
        refine lv_ldc (v := (-1000003)) hx hb hown w82 dX6_ticks_37 ?_
        rw [hQz]
        exact r_iret (v := (-1000003)) hx hb hr hlk hS ((Prod.mk.inj (Option.some.inj h)).2 ▸ hP) (Prod.mk.inj (Option.some.inj h)).1 dX6_ticks_39
    · replace h := if_t q6 h
      refine lv_ldc (v := (-1000001)) hx hb hown w65 dX6_ticks_20 ?_
      rw [hQz]
      exact r_iret (v := (-1000001)) hx hb hr hlk hS ((Prod.mk.inj (Option.some.inj h)).2 ▸ hP) (Prod.mk.inj (Option.some.inj h)).1 dX6_ticks_22
  · replace h := if_t q3 h
    refine lv_ldc (v := (-1000002)) hx hb hown w136 dX6_ticks_7 ?_
    rw [hQz]
    exact r_iret (v := (-1000002)) hx hb hr hlk hS ((Prod.mk.inj (Option.some.inj h)).2 ▸ hP) (Prod.mk.inj (Option.some.inj h)).1 dX6_ticks_9
