def rmX6_ahead : Room := { frames := 5, cells := 0, slots := 0, locals := 157 }
set_option maxHeartbeats 4000000 in
set_option maxRecDepth 100000 in
theorem ok_X6_ahead (l : Launch) (g : gT) (a : Nat → Nat) (hI : ij 14 a) (p1 : Int32) (p2 : Int32) (M : Mem) (M' : Mem) (r : Int32) (h : fX6_ahead p1 p2 M = some (r, M')) : MI l yX6_ahead wsX6_ahead rmX6_ahead g 14 a [.ref (a 0), .int p1, .int p2] (wl 14 a (eN g a M)) (wl 14 a (eN g a M')) r := by
  refine MI_of (cc := cX6_ahead) (maxL := 4) (rt := .int) (by decide) rfl (Nat.le_of_ble_eq_true rfl) ?_
  intro p e s m args below meth c ls hx hb hml hr hlk hts hown hK hP hl
  have hown : s.vm.findClass RX6 = some m.cls := hown
  have hl : lv_has ls 4 [(0, .ref (a 0)), (1, .int p1), (2, .int p2)] := hl
  have hS : va_S (aA 14 a s.heap.size) s.heap s.heap [] := va_S.rf
  have iX6 : ∀ w ∈ wsX60, w ∈ wsX6_ahead := fun w h => List.mem_cons_of_mem _ (List.mem_append_right _ h)
  have w41 := hts (.fieldLink RX6 41 "StepRidersModel" "then" "[I") (by decide +kernel)
  have w65 := hts (.constant RX6 65 (-1000001)) (by decide +kernel)
  obtain ⟨Qz, hQz⟩ : ∃ Qz : State → Prop, Qz = MQ below (qI g (wl 14 a (eN g a M')) r (aA 14 a s.heap.size)) args s 0 0 (aA 14 a s.heap.size) := ⟨_, rfl⟩
  rw [← hQz]
  have B27 : ∀ (k27 : Int32 → Mem → Option (Int32 × Mem)) (C27 : ∀ (x3 : Int32) (M : Mem) (H : Heap) (locs : List Loc) (ls : Array Slot), k27 x3 M = some (r, M') → va_P g.1 vwCl (wl 14 a (eN g a M)) H → va_S (aA 14 a s.heap.size) s.heap H locs → lv_has ls 4 [(0, .ref (a 0)), (1, .int p1), (2, .int p2), (3, .int x3)] → W p l e rmX6_ahead s m args below meth c H locs 0 0 Qz (F0 m 27 ls [])), ∀ (x3 : Int32) (M : Mem) (H : Heap) (locs : List Loc) (ls : Array Slot), fX6_ahead_b27 p1 p2 k27 x3 M = some (r, M') → va_P g.1 vwCl (wl 14 a (eN g a M)) H → va_S (aA 14 a s.heap.size) s.heap H locs → lv_has ls 4 [(0, .ref (a 0)), (1, .int p1), (2, .int p2), (3, .int x3)] → W p l e rmX6_ahead s m args below meth c H locs 0 0 Qz (F0 m 27 ls []) := by
    intro k27 C27 x3 M H locs ls h hP hS hl
    unfold fX6_ahead_b27 at h
    refine lv_iload_n hx hb dX6_ahead_27 rfl (lv_at hl 3 rfl) ?_
    refine lv_iload_n hx hb dX6_ahead_28 rfl (lv_at hl 2 rfl) ?_
    refine lv_icmp_ge (x := x3) (y := p2) (tgt := 46) hx hb dX6_ahead_29 (by decide) (fun q1 => ?_) (fun q1 => ?_)
    · replace h := if_t q1 h
      refine lv_aload_n hx hb dX6_ahead_46 rfl (lv_at hl 0 rfl) ?_
      refine r_get (v := .ref (a 11)) hx hb hts iX6 hown hK hP 0 (by decide) eN_0 rfl 14 (by decide) w41 rfl dX6_ahead_47 ?_
      refine lv_iconst (v := 2) hx hb dX6_ahead_50 (by decide) ?_
      refine lv_iload_n hx hb dX6_ahead_51 rfl (lv_at hl 1 rfl) ?_
      refine lv_iadd (x := 2) (y := p1) hx hb dX6_ahead_52 ?_
      obtain ⟨q2, h⟩ := chk_ok h
      refine r_iald (i := (2 + p1)) (h := M 11) hx hb hK hP 11 (by decide) rfl q2 dX6_ahead_53 ?_
      rw [hQz]
      exact r_iret (v := (M 11 (Int32.toNatClampNeg (2 + p1)))) hx hb hr hlk hS ((Prod.mk.inj (Option.some.inj h)).2 ▸ hP) (Prod.mk.inj (Option.some.inj h)).1 dX6_ahead_54
    · replace h := if_f q1 h
      refine lv_aload_n hx hb dX6_ahead_32 rfl (lv_at hl 0 rfl) ?_
      refine lv_aload_n hx hb dX6_ahead_33 rfl (lv_at hl 0 rfl) ?_
      refine r_get (v := .ref (a 11)) hx hb hts iX6 hown hK hP 0 (by decide) eN_0 rfl 14 (by decide) w41 rfl dX6_ahead_34 ?_
      obtain ⟨M5, e4, h⟩ := bdV_ok h
      refine r_callVv (As := [.ref (a 11)]) (rest := []) (ws' := (wl 14 a (eN g a M5))) (ok_X6_tick l g a hI 11 M M5 (by decide) e4) ⟨hx, hb, hml, hown, hts⟩ (cwV 1 hts gX6_ahead_X6_tick rfl rfl rfl (by decide +kernel) ⟨Nat.le_of_ble_eq_true rfl, Nat.le_of_ble_eq_true rfl⟩) hK (r_recv hK hP 0 (by decide) eN_0 (show vwCl[6]? = some (RX6, TX6, 20) from rfl)) hS hP (fun _ hq => aA_mono hS.1 hq) (fun _ h _ => h) rfl hl.1 rfl (Nat.le_of_ble_eq_true rfl) dX6_ahead_37 ⟨Nat.zero_le _, Nat.zero_le _⟩ (fun H locs hP hS => ?_)
      refine lv_iinc (v := (x3 + 1)) (lv' := [(3, .int (x3 + 1)), (0, .ref (a 0)), (1, .int p1), (2, .int p2)]) hx hb dX6_ahead_40 hl (k := 3) rfl rfl (by decide) rfl (fun ls hl => ?_)
      refine lv_goto (tgt := 27) hx hb dX6_ahead_43 (by decide) ?_
      exact C27 (x3 + 1) M5 _ _ _ h hP hS (lv_sub hl [1, 2, 3, 0] rfl)
  have L27 : ∀ (n : Nat), ∀ (x3 : Int32) (M : Mem) (H : Heap) (locs : List Loc) (ls : Array Slot), fX6_ahead_l27 p1 p2 n x3 M = some (r, M') → va_P g.1 vwCl (wl 14 a (eN g a M)) H → va_S (aA 14 a s.heap.size) s.heap H locs → lv_has ls 4 [(0, .ref (a 0)), (1, .int p1), (2, .int p2), (3, .int x3)] → W p l e rmX6_ahead s m args below meth c H locs 0 0 Qz (F0 m 27 ls []) := by
    intro n
    induction n with
    | zero => intro x3 M H locs ls h; exact absurd (show (none : Option (Int32 × Mem)) = some _ from h) (fun z => by cases z)
    | succ n ih => exact fun x3 M H locs ls h hP hS hl => B27 (fX6_ahead_l27 p1 p2 n) ih x3 M H locs ls h hP hS hl
  unfold fX6_ahead at h
  refine lv_aload_n hx hb dX6_ahead_0 rfl (lv_at hl 0 rfl) ?_
  refine lv_iload_n hx hb dX6_ahead_1 rfl (lv_at hl 1 rfl) ?_
  obtain ⟨r1, e2, h⟩ := bdP_ok h
  refine r_callVi (As := [.int p1]) (rest := []) (ws' := (wl 14 a (eN g a M))) (ok_X6_isRider l g a hI p1 M r1 e2) ⟨hx, hb, hml, hown, hts⟩ (cwV 1 hts gX6_ahead_X6_isRider rfl rfl rfl (by decide +kernel) ⟨Nat.le_of_ble_eq_true rfl, Nat.le_of_ble_eq_true rfl⟩) hK (r_recv hK hP 0 (by decide) eN_0 (show vwCl[6]? = some (RX6, TX6, 20) from rfl)) hS hP (fun _ hq => aA_mono hS.1 hq) (fun _ h _ => h) rfl hl.1 rfl (Nat.le_of_ble_eq_true rfl) dX6_ahead_2 ⟨Nat.zero_le _, Nat.zero_le _⟩ (fun H locs hP hS => ?_)
  refine lv_if_eq (x := r1) (tgt := 18) hx hb dX6_ahead_5 (by decide) (fun q3 => ?_) (fun q3 => ?_)
  · replace h := if_t q3 h
    refine lv_ldc (v := (-1000001)) hx hb hown w65 dX6_ahead_18 ?_
    rw [hQz]
    exact r_iret (v := (-1000001)) hx hb hr hlk hS ((Prod.mk.inj (Option.some.inj h)).2 ▸ hP) (Prod.mk.inj (Option.some.inj h)).1 dX6_ahead_20
  · replace h := if_f q3 h
    refine lv_iload_n hx hb dX6_ahead_8 rfl (lv_at hl 2 rfl) ?_
    refine lv_iconst (v := 0) hx hb dX6_ahead_9 (by decide) ?_
    refine lv_bipush (v := 60) hx hb dX6_ahead_10 (by decide) ?_
    obtain ⟨r4, e5, h⟩ := bdP_ok h
    refine r_callSi (As := [.int p2, .int 0, .int 60]) (rest := []) (ws' := (wl 14 a (eN g a M))) (ok_X6_in l g p2 0 60 r4 e5) ⟨hx, hb, hml, hown, hts⟩ (cwS 3 hts gX6_ahead_X6_in rfl rfl rfl (by decide +kernel) ⟨Nat.le_of_ble_eq_true rfl, Nat.le_of_ble_eq_true rfl⟩) hK hS nilP (P_A hS.1) (fun _ _ hk => wl_keep hP hk) rfl hl.1 rfl (Nat.le_of_ble_eq_true rfl) dX6_ahead_12 ⟨Nat.zero_le _, Nat.zero_le _⟩ (fun H locs hP hS => ?_)
    refine lv_if_ne (x := r4) (tgt := 21) hx hb dX6_ahead_15 (by decide) (fun q6 => ?_) (fun q6 => ?_)
    · replace h := if_f q6 h
      refine lv_aload_n hx hb dX6_ahead_21 rfl (lv_at hl 0 rfl) ?_
      obtain ⟨M9, e8, h⟩ := bdV_ok h
      refine r_callVv (As := []) (rest := []) (ws' := (wl 14 a (eN g a M9))) (ok_X6_starts l g a hI M M9 e8) ⟨hx, hb, hml, hown, hts⟩ (cwV 0 hts gX6_ahead_X6_starts rfl rfl rfl (by decide +kernel) ⟨Nat.le_of_ble_eq_true rfl, Nat.le_of_ble_eq_true rfl⟩) hK (r_recv hK hP 0 (by decide) eN_0 (show vwCl[6]? = some (RX6, TX6, 20) from rfl)) hS hP (fun _ hq => aA_mono hS.1 hq) (fun _ h _ => h) rfl hl.1 rfl (Nat.le_of_ble_eq_true rfl) dX6_ahead_22 ⟨Nat.zero_le _, Nat.zero_le _⟩ (fun H locs hP hS => ?_)
      refine lv_iconst (v := 0) hx hb dX6_ahead_25 (by decide) ?_
      refine lv_istore_n (lv' := [(3, .int 0), (0, .ref (a 0)), (1, .int p1), (2, .int p2)]) hx hb dX6_ahead_26 rfl hl (by decide) rfl (fun ls hl => ?_)
      exact L27 FU 0 M9 _ _ _ h hP hS (lv_sub hl [1, 2, 3, 0] rfl)
    · replace h := if_t q6 h
      refine lv_ldc (v := (-1000001)) hx hb hown w65 dX6_ahead_18 ?_
      rw [hQz]
      exact r_iret (v := (-1000001)) hx hb hr hlk hS ((Prod.mk.inj (Option.some.inj h)).2 ▸ hP) (Prod.mk.inj (Option.some.inj h)).1 dX6_ahead_20
def rmX6_later : Room := { frames := 5, cells := 0, slots := 0, locals := 157 }
set_option maxHeartbeats 4000000 in
set_option maxRecDepth 100000 in
theorem ok_X6_later (l : Launch) (g : gT) (a : Nat → Nat) (hI : ij 14 a) (p1 : Int32) (p2 : Int32) (M : Mem) (M' : Mem) (r : Int32) (h : fX6_later p1 p2 M = some (r, M')) : MI l yX6_later wsX6_later rmX6_later g 14 a [.ref (a 0), .int p1, .int p2] (wl 14 a (eN g a M)) (wl 14 a (eN g a M')) r := by
  refine MI_of (cc := cX6_later) (maxL := 5) (rt := .int) (by decide) rfl (Nat.le_of_ble_eq_true rfl) ?_
  intro p e s m args below meth c ls hx hb hml hr hlk hts hown hK hP hl
  have hown : s.vm.findClass RX6 = some m.cls := hown
  have hl : lv_has ls 5 [(0, .ref (a 0)), (1, .int p1), (2, .int p2)] := hl
  have hS : va_S (aA 14 a s.heap.size) s.heap s.heap [] := va_S.rf
  have iX6 : ∀ w ∈ wsX60, w ∈ wsX6_later := fun w h => List.mem_cons_of_mem _ (List.mem_append_right _ h)
  have w41 := hts (.fieldLink RX6 41 "StepRidersModel" "then" "[I") (by decide +kernel)
  have w25 := hts (.fieldLink RX6 25 "StepRidersModel" "s" "[I") (by decide +kernel)
  have w65 := hts (.constant RX6 65 (-1000001)) (by decide +kernel)
  have w136 := hts (.constant RX6 136 (-1000002)) (by decide +kernel)
  obtain ⟨Qz, hQz⟩ : ∃ Qz : State → Prop, Qz = MQ below (qI g (wl 14 a (eN g a M')) r (aA 14 a s.heap.size)) args s 0 0 (aA 14 a s.heap.size) := ⟨_, rfl⟩
  rw [← hQz]
  have B113 : ∀ (x3 : Int32) (M : Mem) (H : Heap) (locs : List Loc) (ls : Array Slot), fX6_later_b113 p1 p2 x3 M = some (r, M') → va_P g.1 vwCl (wl 14 a (eN g a M)) H → va_S (aA 14 a s.heap.size) s.heap H locs → lv_has ls 5 [(0, .ref (a 0)), (1, .int p1), (2, .int p2), (3, .int x3)] → W p l e rmX6_later s m args below meth c H locs 0 0 Qz (F0 m 113 ls []) := by
    intro x3 M H locs ls h hP hS hl
    unfold fX6_later_b113 at h
    refine lv_iload_n hx hb dX6_later_113 rfl (lv_at hl 2 rfl) ?_
    refine lv_if_ne (x := p2) (tgt := 127) hx hb dX6_later_114 (by decide) (fun q1 => ?_) (fun q1 => ?_)
    · replace h := if_f q1 h
      refine lv_iload_n hx hb dX6_later_127 rfl (lv_at hl 3 rfl) ?_
      rw [hQz]
      exact r_iret (v := x3) hx hb hr hlk hS ((Prod.mk.inj (Option.some.inj h)).2 ▸ hP) (Prod.mk.inj (Option.some.inj h)).1 dX6_later_128
    · replace h := if_t q1 h
      refine lv_aload_n hx hb dX6_later_117 rfl (lv_at hl 0 rfl) ?_
      refine r_get (v := .ref (a 11)) hx hb hts iX6 hown hK hP 0 (by decide) eN_0 rfl 14 (by decide) w41 rfl dX6_later_118 ?_
      obtain ⟨r2, e3, h⟩ := bdP_ok h
      refine r_callSi (As := [.ref (a 11)]) (rest := []) (ws' := (wl 14 a (eN g a M))) (ok_X6_offIn l g (fun _ => a 11) C_ij (gC M 11) r2 e3) ⟨hx, hb, hml, hown, hts⟩ (cwS 1 hts gX6_later_X6_offIn rfl rfl rfl (by decide +kernel) ⟨Nat.le_of_ble_eq_true rfl, Nat.le_of_ble_eq_true rfl⟩) hK hS (C_cut (c := 11) (by decide) hP) (C_A (c := 11) (by decide) hS.1) (C_keep (c := 11) (by decide) hI hP) rfl hl.1 rfl (Nat.le_of_ble_eq_true rfl) dX6_later_121 ⟨Nat.zero_le _, Nat.zero_le _⟩ (fun H locs hP hS => ?_)
      refine lv_goto (tgt := 128) hx hb dX6_later_124 (by decide) ?_
      rw [hQz]
      exact r_iret (v := r2) hx hb hr hlk hS ((Prod.mk.inj (Option.some.inj h)).2 ▸ hP) (Prod.mk.inj (Option.some.inj h)).1 dX6_later_128
  have B105 : ∀ (k62 : Int32 → Int32 → Mem → Option (Int32 × Mem)) (C62 : ∀ (x3 : Int32) (x4 : Int32) (M : Mem) (H : Heap) (locs : List Loc) (ls : Array Slot), k62 x3 x4 M = some (r, M') → va_P g.1 vwCl (wl 14 a (eN g a M)) H → va_S (aA 14 a s.heap.size) s.heap H locs → lv_has ls 5 [(0, .ref (a 0)), (1, .int p1), (2, .int p2), (3, .int x3), (4, .int x4)] → W p l e rmX6_later s m args below meth c H locs 0 0 Qz (F0 m 62 ls [])), ∀ (x4 : Int32) (s0 : Int32) (s1 : Int32) (M : Mem) (H : Heap) (locs : List Loc) (ls : Array Slot), fX6_later_b105 p1 p2 k62 x4 s0 s1 M = some (r, M') → va_P g.1 vwCl (wl 14 a (eN g a M)) H → va_S (aA 14 a s.heap.size) s.heap H locs → lv_has ls 5 [(0, .ref (a 0)), (1, .int p1), (2, .int p2), (4, .int x4)] → W p l e rmX6_later s m args below meth c H locs 0 0 Qz (F0 m 105 ls [.int s0, .int s1]) := by
    intro k62 C62 x4 s0 s1 M H locs ls h hP hS hl
    unfold fX6_later_b105 at h
    refine lv_ior (x := s1) (y := s0) hx hb dX6_later_105 ?_
    refine lv_istore_n (lv' := [(3, .int (s1 ||| s0)), (0, .ref (a 0)), (1, .int p1), (2, .int p2), (4, .int x4)]) hx hb dX6_later_106 rfl hl (by decide) rfl (fun ls hl => ?_)
    refine lv_iinc (v := (x4 + 1)) (lv' := [(4, .int (x4 + 1)), (3, .int (s1 ||| s0)), (0, .ref (a 0)), (1, .int p1), (2, .int p2)]) hx hb dX6_later_107 hl (k := 4) rfl rfl (by decide) rfl (fun ls hl => ?_)
    refine lv_goto (tgt := 62) hx hb dX6_later_110 (by decide) ?_
    exact C62 (s1 ||| s0) (x4 + 1) M _ _ _ h hP hS (lv_sub hl [2, 3, 4, 1, 0] rfl)
  have B62 : ∀ (k62 : Int32 → Int32 → Mem → Option (Int32 × Mem)) (C62 : ∀ (x3 : Int32) (x4 : Int32) (M : Mem) (H : Heap) (locs : List Loc) (ls : Array Slot), k62 x3 x4 M = some (r, M') → va_P g.1 vwCl (wl 14 a (eN g a M)) H → va_S (aA 14 a s.heap.size) s.heap H locs → lv_has ls 5 [(0, .ref (a 0)), (1, .int p1), (2, .int p2), (3, .int x3), (4, .int x4)] → W p l e rmX6_later s m args below meth c H locs 0 0 Qz (F0 m 62 ls [])), ∀ (x3 : Int32) (x4 : Int32) (M : Mem) (H : Heap) (locs : List Loc) (ls : Array Slot), fX6_later_b62 p1 p2 k62 x3 x4 M = some (r, M') → va_P g.1 vwCl (wl 14 a (eN g a M)) H → va_S (aA 14 a s.heap.size) s.heap H locs → lv_has ls 5 [(0, .ref (a 0)), (1, .int p1), (2, .int p2), (3, .int x3), (4, .int x4)] → W p l e rmX6_later s m args below meth c H locs 0 0 Qz (F0 m 62 ls []) := by
    intro k62 C62 x3 x4 M H locs ls h hP hS hl
    unfold fX6_later_b62 at h
    refine lv_iload hx hb dX6_later_62 (lv_at hl 4 rfl) ?_
    refine lv_aload_n hx hb dX6_later_64 rfl (lv_at hl 0 rfl) ?_
    refine r_get (v := .ref (a 6)) hx hb hts iX6 hown hK hP 0 (by decide) eN_0 rfl 8 (by decide) w25 rfl dX6_later_65 ?_
    refine lv_bipush (v := 17) hx hb dX6_later_68 (by decide) ?_
    obtain ⟨q1, h⟩ := chk_ok h
    refine r_iald (i := 17) (h := M 6) hx hb hK hP 6 (by decide) rfl q1 dX6_later_70 ?_
    refine lv_icmp_ge (x := x4) (y := (M 6 (Int32.toNatClampNeg 17))) (tgt := 113) hx hb dX6_later_71 (by decide) (fun q2 => ?_) (fun q2 => ?_)
    · replace h := if_t q2 h
      exact B113 x3 M _ _ _ h hP hS (lv_sub hl [0, 1, 2, 3] rfl)
    · replace h := if_f q2 h
      refine lv_iload_n hx hb dX6_later_74 rfl (lv_at hl 3 rfl) ?_
      refine lv_aload_n hx hb dX6_later_75 rfl (lv_at hl 0 rfl) ?_
      refine r_get (v := .ref (a 11)) hx hb hts iX6 hown hK hP 0 (by decide) eN_0 rfl 14 (by decide) w41 rfl dX6_later_76 ?_
      refine lv_iconst (v := 2) hx hb dX6_later_79 (by decide) ?_
      refine lv_iload hx hb dX6_later_80 (lv_at hl 4 rfl) ?_
      refine lv_iadd (x := 2) (y := x4) hx hb dX6_later_82 ?_
      obtain ⟨q3, h⟩ := chk_ok h
      refine r_iald (i := (2 + x4)) (h := M 11) hx hb hK hP 11 (by decide) rfl q3 dX6_later_83 ?_
      obtain ⟨r4, e5, h⟩ := bdP_ok h
      refine r_callSi (As := [.int (M 11 (Int32.toNatClampNeg (2 + x4)))]) (rest := [.int x3]) (ws' := (wl 14 a (eN g a M))) (ok_X6_isOn l g (M 11 (Int32.toNatClampNeg (2 + x4))) r4 e5) ⟨hx, hb, hml, hown, hts⟩ (cwS 1 hts gX6_later_X6_isOn rfl rfl rfl (by decide +kernel) ⟨Nat.le_of_ble_eq_true rfl, Nat.le_of_ble_eq_true rfl⟩) hK hS nilP (P_A hS.1) (fun _ _ hk => wl_keep hP hk) rfl hl.1 rfl (Nat.le_of_ble_eq_true rfl) dX6_later_84 ⟨Nat.zero_le _, Nat.zero_le _⟩ (fun H locs hP hS => ?_)
      refine lv_if_eq (x := r4) (tgt := 104) hx hb dX6_later_87 (by decide) (fun q6 => ?_) (fun q6 => ?_)
      · replace h := if_t q6 h
        refine lv_iconst (v := 0) hx hb dX6_later_104 (by decide) ?_
        exact B105 k62 C62 x4 0 x3 M _ _ _ h hP hS (lv_sub hl [0, 1, 2, 4] rfl)
      · replace h := if_f q6 h
        refine lv_iconst (v := 1) hx hb dX6_later_90 (by decide) ?_
        refine lv_aload_n hx hb dX6_later_91 rfl (lv_at hl 0 rfl) ?_
        refine r_get (v := .ref (a 11)) hx hb hts iX6 hown hK hP 0 (by decide) eN_0 rfl 14 (by decide) w41 rfl dX6_later_92 ?_
        refine lv_iconst (v := 2) hx hb dX6_later_95 (by decide) ?_
        refine lv_iload hx hb dX6_later_96 (lv_at hl 4 rfl) ?_
        refine lv_iadd (x := 2) (y := x4) hx hb dX6_later_98 ?_
        obtain ⟨q7, h⟩ := chk_ok h
        refine r_iald (i := (2 + x4)) (h := M 11) hx hb hK hP 11 (by decide) rfl q7 dX6_later_99 ?_
        refine lv_ishl (x := 1) (y := (M 11 (Int32.toNatClampNeg (2 + x4)))) hx hb dX6_later_100 ?_
        refine lv_goto (tgt := 105) hx hb dX6_later_101 (by decide) ?_
        exact B105 k62 C62 x4 (1 <<< ((M 11 (Int32.toNatClampNeg (2 + x4))) &&& 31)) x3 M _ _ _ h hP hS (lv_sub hl [0, 1, 2, 4] rfl)
  have L62 : ∀ (n : Nat), ∀ (x3 : Int32) (x4 : Int32) (M : Mem) (H : Heap) (locs : List Loc) (ls : Array Slot), fX6_later_l62 p1 p2 n x3 x4 M = some (r, M') → va_P g.1 vwCl (wl 14 a (eN g a M)) H → va_S (aA 14 a s.heap.size) s.heap H locs → lv_has ls 5 [(0, .ref (a 0)), (1, .int p1), (2, .int p2), (3, .int x3), (4, .int x4)] → W p l e rmX6_later s m args below meth c H locs 0 0 Qz (F0 m 62 ls []) := by
    intro n
    induction n with
    | zero => intro x3 x4 M H locs ls h; exact absurd (show (none : Option (Int32 × Mem)) = some _ from h) (fun z => by cases z)
    | succ n ih => exact fun x3 x4 M H locs ls h hP hS hl => B62 (fX6_later_l62 p1 p2 n) ih x3 x4 M H locs ls h hP hS hl
  have B57 : ∀ (M : Mem) (H : Heap) (locs : List Loc) (ls : Array Slot), fX6_later_b57 p1 p2 M = some (r, M') → va_P g.1 vwCl (wl 14 a (eN g a M)) H → va_S (aA 14 a s.heap.size) s.heap H locs → lv_has ls 5 [(0, .ref (a 0)), (1, .int p1), (2, .int p2)] → W p l e rmX6_later s m args below meth c H locs 0 0 Qz (F0 m 57 ls []) := by
    intro M H locs ls h hP hS hl
    unfold fX6_later_b57 at h
    refine lv_iconst (v := 0) hx hb dX6_later_57 (by decide) ?_
    refine lv_istore_n (lv' := [(3, .int 0), (0, .ref (a 0)), (1, .int p1), (2, .int p2)]) hx hb dX6_later_58 rfl hl (by decide) rfl (fun ls hl => ?_)
    refine lv_iconst (v := 0) hx hb dX6_later_59 (by decide) ?_
    refine lv_istore (lv' := [(4, .int 0), (3, .int 0), (0, .ref (a 0)), (1, .int p1), (2, .int p2)]) hx hb dX6_later_60 hl (by decide) rfl (fun ls hl => ?_)
    exact L62 FU 0 0 M _ _ _ h hP hS (lv_sub hl [2, 3, 4, 1, 0] rfl)
  have B38 : ∀ (k38 : Int32 → Mem → Option (Int32 × Mem)) (C38 : ∀ (x3 : Int32) (M : Mem) (H : Heap) (locs : List Loc) (ls : Array Slot), k38 x3 M = some (r, M') → va_P g.1 vwCl (wl 14 a (eN g a M)) H → va_S (aA 14 a s.heap.size) s.heap H locs → lv_has ls 5 [(0, .ref (a 0)), (1, .int p1), (2, .int p2), (3, .int x3)] → W p l e rmX6_later s m args below meth c H locs 0 0 Qz (F0 m 38 ls [])), ∀ (x3 : Int32) (M : Mem) (H : Heap) (locs : List Loc) (ls : Array Slot), fX6_later_b38 p1 p2 k38 x3 M = some (r, M') → va_P g.1 vwCl (wl 14 a (eN g a M)) H → va_S (aA 14 a s.heap.size) s.heap H locs → lv_has ls 5 [(0, .ref (a 0)), (1, .int p1), (2, .int p2), (3, .int x3)] → W p l e rmX6_later s m args below meth c H locs 0 0 Qz (F0 m 38 ls []) := by
    intro k38 C38 x3 M H locs ls h hP hS hl
    unfold fX6_later_b38 at h
    refine lv_iload_n hx hb dX6_later_38 rfl (lv_at hl 3 rfl) ?_
    refine lv_iload_n hx hb dX6_later_39 rfl (lv_at hl 1 rfl) ?_
    refine lv_icmp_ge (x := x3) (y := p1) (tgt := 57) hx hb dX6_later_40 (by decide) (fun q1 => ?_) (fun q1 => ?_)
    · replace h := if_t q1 h
      exact B57 M _ _ _ h hP hS (lv_sub hl [0, 1, 2] rfl)
    · replace h := if_f q1 h
      refine lv_aload_n hx hb dX6_later_43 rfl (lv_at hl 0 rfl) ?_
      refine lv_aload_n hx hb dX6_later_44 rfl (lv_at hl 0 rfl) ?_
      refine r_get (v := .ref (a 11)) hx hb hts iX6 hown hK hP 0 (by decide) eN_0 rfl 14 (by decide) w41 rfl dX6_later_45 ?_
      obtain ⟨M4, e3, h⟩ := bdV_ok h
      refine r_callVv (As := [.ref (a 11)]) (rest := []) (ws' := (wl 14 a (eN g a M4))) (ok_X6_tick l g a hI 11 M M4 (by decide) e3) ⟨hx, hb, hml, hown, hts⟩ (cwV 1 hts gX6_later_X6_tick rfl rfl rfl (by decide +kernel) ⟨Nat.le_of_ble_eq_true rfl, Nat.le_of_ble_eq_true rfl⟩) hK (r_recv hK hP 0 (by decide) eN_0 (show vwCl[6]? = some (RX6, TX6, 20) from rfl)) hS hP (fun _ hq => aA_mono hS.1 hq) (fun _ h _ => h) rfl hl.1 rfl (Nat.le_of_ble_eq_true rfl) dX6_later_48 ⟨Nat.zero_le _, Nat.zero_le _⟩ (fun H locs hP hS => ?_)
      refine lv_iinc (v := (x3 + 1)) (lv' := [(3, .int (x3 + 1)), (0, .ref (a 0)), (1, .int p1), (2, .int p2)]) hx hb dX6_later_51 hl (k := 3) rfl rfl (by decide) rfl (fun ls hl => ?_)
      refine lv_goto (tgt := 38) hx hb dX6_later_54 (by decide) ?_
      exact C38 (x3 + 1) M4 _ _ _ h hP hS (lv_sub hl [1, 2, 3, 0] rfl)
  have L38 : ∀ (n : Nat), ∀ (x3 : Int32) (M : Mem) (H : Heap) (locs : List Loc) (ls : Array Slot), fX6_later_l38 p1 p2 n x3 M = some (r, M') → va_P g.1 vwCl (wl 14 a (eN g a M)) H → va_S (aA 14 a s.heap.size) s.heap H locs → lv_has ls 5 [(0, .ref (a 0)), (1, .int p1), (2, .int p2), (3, .int x3)] → W p l e rmX6_later s m args below meth c H locs 0 0 Qz (F0 m 38 ls []) := by
    intro n
    induction n with
    | zero => intro x3 M H locs ls h; exact absurd (show (none : Option (Int32 × Mem)) = some _ from h) (fun z => by cases z)
    | succ n ih => exact fun x3 M H locs ls h hP hS hl => B38 (fX6_later_l38 p1 p2 n) ih x3 M H locs ls h hP hS hl
  unfold fX6_later at h
  refine lv_aload_n hx hb dX6_later_0 rfl (lv_at hl 0 rfl) ?_
  obtain ⟨r1, e2, h⟩ := bdP_ok h
  refine r_callVi (As := []) (rest := []) (ws' := (wl 14 a (eN g a M))) (ok_X6_isStair l g a hI M r1 e2) ⟨hx, hb, hml, hown, hts⟩ (cwV 0 hts gX6_later_X6_isStair rfl rfl rfl (by decide +kernel) ⟨Nat.le_of_ble_eq_true rfl, Nat.le_of_ble_eq_true rfl⟩) hK (r_recv hK hP 0 (by decide) eN_0 (show vwCl[6]? = some (RX6, TX6, 20) from rfl)) hS hP (fun _ hq => aA_mono hS.1 hq) (fun _ h _ => h) rfl hl.1 rfl (Nat.le_of_ble_eq_true rfl) dX6_later_1 ⟨Nat.zero_le _, Nat.zero_le _⟩ (fun H locs hP hS => ?_)
  refine lv_if_ne (x := r1) (tgt := 10) hx hb dX6_later_4 (by decide) (fun q3 => ?_) (fun q3 => ?_)
  · replace h := if_f q3 h
    refine lv_iload_n hx hb dX6_later_10 rfl (lv_at hl 1 rfl) ?_
    refine lv_iconst (v := 0) hx hb dX6_later_11 (by decide) ?_
    refine lv_bipush (v := 60) hx hb dX6_later_12 (by decide) ?_
    obtain ⟨r4, e5, h⟩ := bdP_ok h
    refine r_callSi (As := [.int p1, .int 0, .int 60]) (rest := []) (ws' := (wl 14 a (eN g a M))) (ok_X6_in l g p1 0 60 r4 e5) ⟨hx, hb, hml, hown, hts⟩ (cwS 3 hts gX6_later_X6_in rfl rfl rfl (by decide +kernel) ⟨Nat.le_of_ble_eq_true rfl, Nat.le_of_ble_eq_true rfl⟩) hK hS nilP (P_A hS.1) (fun _ _ hk => wl_keep hP hk) rfl hl.1 rfl (Nat.le_of_ble_eq_true rfl) dX6_later_14 ⟨Nat.zero_le _, Nat.zero_le _⟩ (fun H locs hP hS => ?_)
    refine lv_if_eq (x := r4) (tgt := 29) hx hb dX6_later_17 (by decide) (fun q6 => ?_) (fun q6 => ?_)
    · replace h := if_t q6 h
      refine lv_ldc (v := (-1000001)) hx hb hown w65 dX6_later_29 ?_
      rw [hQz]
      exact r_iret (v := (-1000001)) hx hb hr hlk hS ((Prod.mk.inj (Option.some.inj h)).2 ▸ hP) (Prod.mk.inj (Option.some.inj h)).1 dX6_later_31
    · replace h := if_f q6 h
      refine lv_iload_n hx hb dX6_later_20 rfl (lv_at hl 2 rfl) ?_
      refine lv_iconst (v := 0) hx hb dX6_later_21 (by decide) ?_
      refine lv_iconst (v := 1) hx hb dX6_later_22 (by decide) ?_
      obtain ⟨r7, e8, h⟩ := bdP_ok h
      refine r_callSi (As := [.int p2, .int 0, .int 1]) (rest := []) (ws' := (wl 14 a (eN g a M))) (ok_X6_in l g p2 0 1 r7 e8) ⟨hx, hb, hml, hown, hts⟩ (cwS 3 hts gX6_later_X6_in rfl rfl rfl (by decide +kernel) ⟨Nat.le_of_ble_eq_true rfl, Nat.le_of_ble_eq_true rfl⟩) hK hS nilP (P_A hS.1) (fun _ _ hk => wl_keep hP hk) rfl hl.1 rfl (Nat.le_of_ble_eq_true rfl) dX6_later_23 ⟨Nat.zero_le _, Nat.zero_le _⟩ (fun H locs hP hS => ?_)
      refine lv_if_ne (x := r7) (tgt := 32) hx hb dX6_later_26 (by decide) (fun q9 => ?_) (fun q9 => ?_)
      · replace h := if_f q9 h
        refine lv_aload_n hx hb dX6_later_32 rfl (lv_at hl 0 rfl) ?_
        obtain ⟨M12, e11, h⟩ := bdV_ok h
        refine r_callVv (As := []) (rest := []) (ws' := (wl 14 a (eN g a M12))) (ok_X6_starts l g a hI M M12 e11) ⟨hx, hb, hml, hown, hts⟩ (cwV 0 hts gX6_later_X6_starts rfl rfl rfl (by decide +kernel) ⟨Nat.le_of_ble_eq_true rfl, Nat.le_of_ble_eq_true rfl⟩) hK (r_recv hK hP 0 (by decide) eN_0 (show vwCl[6]? = some (RX6, TX6, 20) from rfl)) hS hP (fun _ hq => aA_mono hS.1 hq) (fun _ h _ => h) rfl hl.1 rfl (Nat.le_of_ble_eq_true rfl) dX6_later_33 ⟨Nat.zero_le _, Nat.zero_le _⟩ (fun H locs hP hS => ?_)
        refine lv_iconst (v := 0) hx hb dX6_later_36 (by decide) ?_
        refine lv_istore_n (lv' := [(3, .int 0), (0, .ref (a 0)), (1, .int p1), (2, .int p2)]) hx hb dX6_later_37 rfl hl (by decide) rfl (fun ls hl => ?_)
        exact L38 FU 0 M12 _ _ _ h hP hS (lv_sub hl [1, 2, 3, 0] rfl)
      · replace h := if_t q9 h
        refine lv_ldc (v := (-1000001)) hx hb hown w65 dX6_later_29 ?_
        rw [hQz]
        exact r_iret (v := (-1000001)) hx hb hr hlk hS ((Prod.mk.inj (Option.some.inj h)).2 ▸ hP) (Prod.mk.inj (Option.some.inj h)).1 dX6_later_31
  · replace h := if_t q3 h
    refine lv_ldc (v := (-1000002)) hx hb hown w136 dX6_later_7 ?_
    rw [hQz]
    exact r_iret (v := (-1000002)) hx hb hr hlk hS ((Prod.mk.inj (Option.some.inj h)).2 ▸ hP) (Prod.mk.inj (Option.some.inj h)).1 dX6_later_9
def rmX6_off : Room := { frames := 5, cells := 0, slots := 0, locals := 157 }
set_option maxHeartbeats 4000000 in
set_option maxRecDepth 100000 in
theorem ok_X6_off (l : Launch) (g : gT) (a : Nat → Nat) (hI : ij 14 a) (p1 : Int32) (M : Mem) (M' : Mem) (r : Int32) (h : fX6_off p1 M = some (r, M')) : MI l yX6_off wsX6_off rmX6_off g 14 a [.ref (a 0), .int p1] (wl 14 a (eN g a M)) (wl 14 a (eN g a M')) r := by
  refine MI_of (cc := cX6_off) (maxL := 3) (rt := .int) (by decide) rfl (Nat.le_of_ble_eq_true rfl) ?_
  intro p e s m args below meth c ls hx hb hml hr hlk hts hown hK hP hl
  have hown : s.vm.findClass RX6 = some m.cls := hown
  have hl : lv_has ls 3 [(0, .ref (a 0)), (1, .int p1)] := hl
  have hS : va_S (aA 14 a s.heap.size) s.heap s.heap [] := va_S.rf
  have iX6 : ∀ w ∈ wsX60, w ∈ wsX6_off := fun w h => List.mem_cons_of_mem _ (List.mem_append_right _ h)
  have w154 := hts (.constant RX6 154 (-1000000)) (by decide +kernel)
  have w41 := hts (.fieldLink RX6 41 "StepRidersModel" "then" "[I") (by decide +kernel)
  have w65 := hts (.constant RX6 65 (-1000001)) (by decide +kernel)
  obtain ⟨Qz, hQz⟩ : ∃ Qz : State → Prop, Qz = MQ below (qI g (wl 14 a (eN g a M')) r (aA 14 a s.heap.size)) args s 0 0 (aA 14 a s.heap.size) := ⟨_, rfl⟩
  rw [← hQz]
  have B17 : ∀ (k17 : Int32 → Mem → Option (Int32 × Mem)) (C17 : ∀ (x2 : Int32) (M : Mem) (H : Heap) (locs : List Loc) (ls : Array Slot), k17 x2 M = some (r, M') → va_P g.1 vwCl (wl 14 a (eN g a M)) H → va_S (aA 14 a s.heap.size) s.heap H locs → lv_has ls 3 [(0, .ref (a 0)), (1, .int p1), (2, .int x2)] → W p l e rmX6_off s m args below meth c H locs 0 0 Qz (F0 m 17 ls [])), ∀ (x2 : Int32) (M : Mem) (H : Heap) (locs : List Loc) (ls : Array Slot), fX6_off_b17 p1 k17 x2 M = some (r, M') → va_P g.1 vwCl (wl 14 a (eN g a M)) H → va_S (aA 14 a s.heap.size) s.heap H locs → lv_has ls 3 [(0, .ref (a 0)), (1, .int p1), (2, .int x2)] → W p l e rmX6_off s m args below meth c H locs 0 0 Qz (F0 m 17 ls []) := by
    intro k17 C17 x2 M H locs ls h hP hS hl
    unfold fX6_off_b17 at h
    refine lv_iload_n hx hb dX6_off_17 rfl (lv_at hl 2 rfl) ?_
    refine lv_bipush (v := 60) hx hb dX6_off_18 (by decide) ?_
    refine lv_icmp_gt (x := x2) (y := 60) (tgt := 52) hx hb dX6_off_20 (by decide) (fun q1 => ?_) (fun q1 => ?_)
    · replace h := if_t q1 h
      refine lv_ldc (v := (-1000000)) hx hb hown w154 dX6_off_52 ?_
      rw [hQz]
      exact r_iret (v := (-1000000)) hx hb hr hlk hS ((Prod.mk.inj (Option.some.inj h)).2 ▸ hP) (Prod.mk.inj (Option.some.inj h)).1 dX6_off_54
    · replace h := if_f q1 h
      refine lv_aload_n hx hb dX6_off_23 rfl (lv_at hl 0 rfl) ?_
      refine r_get (v := .ref (a 11)) hx hb hts iX6 hown hK hP 0 (by decide) eN_0 rfl 14 (by decide) w41 rfl dX6_off_24 ?_
      refine lv_iconst (v := 2) hx hb dX6_off_27 (by decide) ?_
      refine lv_iload_n hx hb dX6_off_28 rfl (lv_at hl 1 rfl) ?_
      refine lv_iadd (x := 2) (y := p1) hx hb dX6_off_29 ?_
      obtain ⟨q2, h⟩ := chk_ok h
      refine r_iald (i := (2 + p1)) (h := M 11) hx hb hK hP 11 (by decide) rfl q2 dX6_off_30 ?_
      refine lv_bipush (v := 99) hx hb dX6_off_31 (by decide) ?_
      refine lv_icmp_ne (x := (M 11 (Int32.toNatClampNeg (2 + p1)))) (y := 99) (tgt := 38) hx hb dX6_off_33 (by decide) (fun q3 => ?_) (fun q3 => ?_)
      · replace h := if_f q3 h
        refine lv_aload_n hx hb dX6_off_38 rfl (lv_at hl 0 rfl) ?_
        refine lv_aload_n hx hb dX6_off_39 rfl (lv_at hl 0 rfl) ?_
        refine r_get (v := .ref (a 11)) hx hb hts iX6 hown hK hP 0 (by decide) eN_0 rfl 14 (by decide) w41 rfl dX6_off_40 ?_
        obtain ⟨M6, e5, h⟩ := bdV_ok h
        refine r_callVv (As := [.ref (a 11)]) (rest := []) (ws' := (wl 14 a (eN g a M6))) (ok_X6_tick l g a hI 11 M M6 (by decide) e5) ⟨hx, hb, hml, hown, hts⟩ (cwV 1 hts gX6_off_X6_tick rfl rfl rfl (by decide +kernel) ⟨Nat.le_of_ble_eq_true rfl, Nat.le_of_ble_eq_true rfl⟩) hK (r_recv hK hP 0 (by decide) eN_0 (show vwCl[6]? = some (RX6, TX6, 20) from rfl)) hS hP (fun _ hq => aA_mono hS.1 hq) (fun _ h _ => h) rfl hl.1 rfl (Nat.le_of_ble_eq_true rfl) dX6_off_43 ⟨Nat.zero_le _, Nat.zero_le _⟩ (fun H locs hP hS => ?_)
        refine lv_iinc (v := (x2 + 1)) (lv' := [(2, .int (x2 + 1)), (0, .ref (a 0)), (1, .int p1)]) hx hb dX6_off_46 hl (k := 2) rfl rfl (by decide) rfl (fun ls hl => ?_)
        refine lv_goto (tgt := 17) hx hb dX6_off_49 (by decide) ?_
        exact C17 (x2 + 1) M6 _ _ _ h hP hS (lv_sub hl [1, 2, 0] rfl)
      · replace h := if_t q3 h
        refine lv_iload_n hx hb dX6_off_36 rfl (lv_at hl 2 rfl) ?_
        rw [hQz]
        exact r_iret (v := x2) hx hb hr hlk hS ((Prod.mk.inj (Option.some.inj h)).2 ▸ hP) (Prod.mk.inj (Option.some.inj h)).1 dX6_off_37
  have L17 : ∀ (n : Nat), ∀ (x2 : Int32) (M : Mem) (H : Heap) (locs : List Loc) (ls : Array Slot), fX6_off_l17 p1 n x2 M = some (r, M') → va_P g.1 vwCl (wl 14 a (eN g a M)) H → va_S (aA 14 a s.heap.size) s.heap H locs → lv_has ls 3 [(0, .ref (a 0)), (1, .int p1), (2, .int x2)] → W p l e rmX6_off s m args below meth c H locs 0 0 Qz (F0 m 17 ls []) := by
    intro n
    induction n with
    | zero => intro x2 M H locs ls h; exact absurd (show (none : Option (Int32 × Mem)) = some _ from h) (fun z => by cases z)
    | succ n ih => exact fun x2 M H locs ls h hP hS hl => B17 (fX6_off_l17 p1 n) ih x2 M H locs ls h hP hS hl
  unfold fX6_off at h
  refine lv_aload_n hx hb dX6_off_0 rfl (lv_at hl 0 rfl) ?_
  refine lv_iload_n hx hb dX6_off_1 rfl (lv_at hl 1 rfl) ?_
  obtain ⟨r1, e2, h⟩ := bdP_ok h
  refine r_callVi (As := [.int p1]) (rest := []) (ws' := (wl 14 a (eN g a M))) (ok_X6_isRider l g a hI p1 M r1 e2) ⟨hx, hb, hml, hown, hts⟩ (cwV 1 hts gX6_off_X6_isRider rfl rfl rfl (by decide +kernel) ⟨Nat.le_of_ble_eq_true rfl, Nat.le_of_ble_eq_true rfl⟩) hK (r_recv hK hP 0 (by decide) eN_0 (show vwCl[6]? = some (RX6, TX6, 20) from rfl)) hS hP (fun _ hq => aA_mono hS.1 hq) (fun _ h _ => h) rfl hl.1 rfl (Nat.le_of_ble_eq_true rfl) dX6_off_2 ⟨Nat.zero_le _, Nat.zero_le _⟩ (fun H locs hP hS => ?_)
  refine lv_if_ne (x := r1) (tgt := 11) hx hb dX6_off_5 (by decide) (fun q3 => ?_) (fun q3 => ?_)
  · replace h := if_f q3 h
    refine lv_aload_n hx hb dX6_off_11 rfl (lv_at hl 0 rfl) ?_
    obtain ⟨M6, e5, h⟩ := bdV_ok h
    refine r_callVv (As := []) (rest := []) (ws' := (wl 14 a (eN g a M6))) (ok_X6_starts l g a hI M M6 e5) ⟨hx, hb, hml, hown, hts⟩ (cwV 0 hts gX6_off_X6_starts rfl rfl rfl (by decide +kernel) ⟨Nat.le_of_ble_eq_true rfl, Nat.le_of_ble_eq_true rfl⟩) hK (r_recv hK hP 0 (by decide) eN_0 (show vwCl[6]? = some (RX6, TX6, 20) from rfl)) hS hP (fun _ hq => aA_mono hS.1 hq) (fun _ h _ => h) rfl hl.1 rfl (Nat.le_of_ble_eq_true rfl) dX6_off_12 ⟨Nat.zero_le _, Nat.zero_le _⟩ (fun H locs hP hS => ?_)
    refine lv_iconst (v := 0) hx hb dX6_off_15 (by decide) ?_
    refine lv_istore_n (lv' := [(2, .int 0), (0, .ref (a 0)), (1, .int p1)]) hx hb dX6_off_16 rfl hl (by decide) rfl (fun ls hl => ?_)
    exact L17 FU 0 M6 _ _ _ h hP hS (lv_sub hl [1, 2, 0] rfl)
  · replace h := if_t q3 h
    refine lv_ldc (v := (-1000001)) hx hb hown w65 dX6_off_8 ?_
    rw [hQz]
    exact r_iret (v := (-1000001)) hx hb hr hlk hS ((Prod.mk.inj (Option.some.inj h)).2 ▸ hP) (Prod.mk.inj (Option.some.inj h)).1 dX6_off_10
def rmX6_clears : Room := { frames := 5, cells := 0, slots := 0, locals := 157 }
set_option maxHeartbeats 4000000 in
set_option maxRecDepth 100000 in
theorem ok_X6_clears (l : Launch) (g : gT) (a : Nat → Nat) (hI : ij 14 a) (M : Mem) (M' : Mem) (r : Int32) (h : fX6_clears M = some (r, M')) : MI l yX6_clears wsX6_clears rmX6_clears g 14 a [.ref (a 0)] (wl 14 a (eN g a M)) (wl 14 a (eN g a M')) r := by
  refine MI_of (cc := cX6_clears) (maxL := 2) (rt := .int) (by decide) rfl (Nat.le_of_ble_eq_true rfl) ?_
  intro p e s m args below meth c ls hx hb hml hr hlk hts hown hK hP hl
  have hown : s.vm.findClass RX6 = some m.cls := hown
  have hl : lv_has ls 2 [(0, .ref (a 0))] := hl
  have hS : va_S (aA 14 a s.heap.size) s.heap s.heap [] := va_S.rf
  have iX6 : ∀ w ∈ wsX60, w ∈ wsX6_clears := fun w h => List.mem_cons_of_mem _ (List.mem_append_right _ h)
  have w154 := hts (.constant RX6 154 (-1000000)) (by decide +kernel)
  have w41 := hts (.fieldLink RX6 41 "StepRidersModel" "then" "[I") (by decide +kernel)
  obtain ⟨Qz, hQz⟩ : ∃ Qz : State → Prop, Qz = MQ below (qI g (wl 14 a (eN g a M')) r (aA 14 a s.heap.size)) args s 0 0 (aA 14 a s.heap.size) := ⟨_, rfl⟩
  rw [← hQz]
  have B2 : ∀ (k2 : Int32 → Mem → Option (Int32 × Mem)) (C2 : ∀ (x1 : Int32) (M : Mem) (H : Heap) (locs : List Loc) (ls : Array Slot), k2 x1 M = some (r, M') → va_P g.1 vwCl (wl 14 a (eN g a M)) H → va_S (aA 14 a s.heap.size) s.heap H locs → lv_has ls 2 [(0, .ref (a 0)), (1, .int x1)] → W p l e rmX6_clears s m args below meth c H locs 0 0 Qz (F0 m 2 ls [])), ∀ (x1 : Int32) (M : Mem) (H : Heap) (locs : List Loc) (ls : Array Slot), fX6_clears_b2 k2 x1 M = some (r, M') → va_P g.1 vwCl (wl 14 a (eN g a M)) H → va_S (aA 14 a s.heap.size) s.heap H locs → lv_has ls 2 [(0, .ref (a 0)), (1, .int x1)] → W p l e rmX6_clears s m args below meth c H locs 0 0 Qz (F0 m 2 ls []) := by
    intro k2 C2 x1 M H locs ls h hP hS hl
    unfold fX6_clears_b2 at h
    refine lv_iload_n hx hb dX6_clears_2 rfl (lv_at hl 1 rfl) ?_
    refine lv_bipush (v := 60) hx hb dX6_clears_3 (by decide) ?_
    refine lv_icmp_gt (x := x1) (y := 60) (tgt := 41) hx hb dX6_clears_5 (by decide) (fun q1 => ?_) (fun q1 => ?_)
    · replace h := if_t q1 h
      refine lv_ldc (v := (-1000000)) hx hb hown w154 dX6_clears_41 ?_
      rw [hQz]
      exact r_iret (v := (-1000000)) hx hb hr hlk hS ((Prod.mk.inj (Option.some.inj h)).2 ▸ hP) (Prod.mk.inj (Option.some.inj h)).1 dX6_clears_43
    · replace h := if_f q1 h
      refine lv_aload_n hx hb dX6_clears_8 rfl (lv_at hl 0 rfl) ?_
      refine r_get (v := .ref (a 11)) hx hb hts iX6 hown hK hP 0 (by decide) eN_0 rfl 14 (by decide) w41 rfl dX6_clears_9 ?_
      obtain ⟨r2, e3, h⟩ := bdP_ok h
      refine r_callSi (As := [.ref (a 11)]) (rest := []) (ws' := (wl 14 a (eN g a M))) (ok_X6_offIn l g (fun _ => a 11) C_ij (gC M 11) r2 e3) ⟨hx, hb, hml, hown, hts⟩ (cwS 1 hts gX6_clears_X6_offIn rfl rfl rfl (by decide +kernel) ⟨Nat.le_of_ble_eq_true rfl, Nat.le_of_ble_eq_true rfl⟩) hK hS (C_cut (c := 11) (by decide) hP) (C_A (c := 11) (by decide) hS.1) (C_keep (c := 11) (by decide) hI hP) rfl hl.1 rfl (Nat.le_of_ble_eq_true rfl) dX6_clears_12 ⟨Nat.zero_le _, Nat.zero_le _⟩ (fun H locs hP hS => ?_)
      refine lv_aload_n hx hb dX6_clears_15 rfl (lv_at hl 0 rfl) ?_
      refine r_get (v := .ref (a 11)) hx hb hts iX6 hown hK hP 0 (by decide) eN_0 rfl 14 (by decide) w41 rfl dX6_clears_16 ?_
      refine lv_bipush (v := 17) hx hb dX6_clears_19 (by decide) ?_
      obtain ⟨q4, h⟩ := chk_ok h
      refine r_iald (i := 17) (h := M 11) hx hb hK hP 11 (by decide) rfl q4 dX6_clears_21 ?_
      refine lv_icmp_ne (x := r2) (y := (M 11 (Int32.toNatClampNeg 17))) (tgt := 27) hx hb dX6_clears_22 (by decide) (fun q5 => ?_) (fun q5 => ?_)
      · replace h := if_f q5 h
        refine lv_aload_n hx hb dX6_clears_27 rfl (lv_at hl 0 rfl) ?_
        refine lv_aload_n hx hb dX6_clears_28 rfl (lv_at hl 0 rfl) ?_
        refine r_get (v := .ref (a 11)) hx hb hts iX6 hown hK hP 0 (by decide) eN_0 rfl 14 (by decide) w41 rfl dX6_clears_29 ?_
        obtain ⟨M8, e7, h⟩ := bdV_ok h
        refine r_callVv (As := [.ref (a 11)]) (rest := []) (ws' := (wl 14 a (eN g a M8))) (ok_X6_tick l g a hI 11 M M8 (by decide) e7) ⟨hx, hb, hml, hown, hts⟩ (cwV 1 hts gX6_clears_X6_tick rfl rfl rfl (by decide +kernel) ⟨Nat.le_of_ble_eq_true rfl, Nat.le_of_ble_eq_true rfl⟩) hK (r_recv hK hP 0 (by decide) eN_0 (show vwCl[6]? = some (RX6, TX6, 20) from rfl)) hS hP (fun _ hq => aA_mono hS.1 hq) (fun _ h _ => h) rfl hl.1 rfl (Nat.le_of_ble_eq_true rfl) dX6_clears_32 ⟨Nat.zero_le _, Nat.zero_le _⟩ (fun H locs hP hS => ?_)
        refine lv_iinc (v := (x1 + 1)) (lv' := [(1, .int (x1 + 1)), (0, .ref (a 0))]) hx hb dX6_clears_35 hl (k := 1) rfl rfl (by decide) rfl (fun ls hl => ?_)
        refine lv_goto (tgt := 2) hx hb dX6_clears_38 (by decide) ?_
        exact C2 (x1 + 1) M8 _ _ _ h hP hS (lv_sub hl [1, 0] rfl)
      · replace h := if_t q5 h
        refine lv_iload_n hx hb dX6_clears_25 rfl (lv_at hl 1 rfl) ?_
        rw [hQz]
        exact r_iret (v := x1) hx hb hr hlk hS ((Prod.mk.inj (Option.some.inj h)).2 ▸ hP) (Prod.mk.inj (Option.some.inj h)).1 dX6_clears_26
  have L2 : ∀ (n : Nat), ∀ (x1 : Int32) (M : Mem) (H : Heap) (locs : List Loc) (ls : Array Slot), fX6_clears_l2 n x1 M = some (r, M') → va_P g.1 vwCl (wl 14 a (eN g a M)) H → va_S (aA 14 a s.heap.size) s.heap H locs → lv_has ls 2 [(0, .ref (a 0)), (1, .int x1)] → W p l e rmX6_clears s m args below meth c H locs 0 0 Qz (F0 m 2 ls []) := by
    intro n
    induction n with
    | zero => intro x1 M H locs ls h; exact absurd (show (none : Option (Int32 × Mem)) = some _ from h) (fun z => by cases z)
    | succ n ih => exact fun x1 M H locs ls h hP hS hl => B2 (fX6_clears_l2 n) ih x1 M H locs ls h hP hS hl
  unfold fX6_clears at h
  refine lv_iconst (v := 0) hx hb dX6_clears_0 (by decide) ?_
  refine lv_istore_n (lv' := [(1, .int 0), (0, .ref (a 0))]) hx hb dX6_clears_1 rfl hl (by decide) rfl (fun ls hl => ?_)
  exact L2 FU 0 M _ _ _ h hP hS (lv_sub hl [1, 0] rfl)
def rmX6_clear : Room := { frames := 6, cells := 0, slots := 0, locals := 178 }
set_option maxHeartbeats 4000000 in
set_option maxRecDepth 100000 in
theorem ok_X6_clear (l : Launch) (g : gT) (a : Nat → Nat) (hI : ij 14 a) (M : Mem) (M' : Mem) (r : Int32) (h : fX6_clear M = some (r, M')) : MI l yX6_clear wsX6_clear rmX6_clear g 14 a [.ref (a 0)] (wl 14 a (eN g a M)) (wl 14 a (eN g a M')) r := by
  refine MI_of (cc := cX6_clear) (maxL := 1) (rt := .int) (by decide) rfl (Nat.le_of_ble_eq_true rfl) ?_
  intro p e s m args below meth c ls hx hb hml hr hlk hts hown hK hP hl
  have hown : s.vm.findClass RX6 = some m.cls := hown
  have hl : lv_has ls 1 [(0, .ref (a 0))] := hl
  have hS : va_S (aA 14 a s.heap.size) s.heap s.heap [] := va_S.rf
  have w136 := hts (.constant RX6 136 (-1000002)) (by decide +kernel)
  obtain ⟨Qz, hQz⟩ : ∃ Qz : State → Prop, Qz = MQ below (qI g (wl 14 a (eN g a M')) r (aA 14 a s.heap.size)) args s 0 0 (aA 14 a s.heap.size) := ⟨_, rfl⟩
  rw [← hQz]
  unfold fX6_clear at h
  refine lv_aload_n hx hb dX6_clear_0 rfl (lv_at hl 0 rfl) ?_
  obtain ⟨r1, e2, h⟩ := bdP_ok h
  refine r_callVi (As := []) (rest := []) (ws' := (wl 14 a (eN g a M))) (ok_X6_isStair l g a hI M r1 e2) ⟨hx, hb, hml, hown, hts⟩ (cwV 0 hts gX6_clear_X6_isStair rfl rfl rfl (by decide +kernel) ⟨Nat.le_of_ble_eq_true rfl, Nat.le_of_ble_eq_true rfl⟩) hK (r_recv hK hP 0 (by decide) eN_0 (show vwCl[6]? = some (RX6, TX6, 20) from rfl)) hS hP (fun _ hq => aA_mono hS.1 hq) (fun _ h _ => h) rfl hl.1 rfl (Nat.le_of_ble_eq_true rfl) dX6_clear_1 ⟨Nat.zero_le _, Nat.zero_le _⟩ (fun H locs hP hS => ?_)
  refine lv_if_ne (x := r1) (tgt := 10) hx hb dX6_clear_4 (by decide) (fun q3 => ?_) (fun q3 => ?_)
  · replace h := if_f q3 h
    refine lv_aload_n hx hb dX6_clear_10 rfl (lv_at hl 0 rfl) ?_
    obtain ⟨M6, e5, h⟩ := bdV_ok h
    refine r_callVv (As := []) (rest := []) (ws' := (wl 14 a (eN g a M6))) (ok_X6_starts l g a hI M M6 e5) ⟨hx, hb, hml, hown, hts⟩ (cwV 0 hts gX6_clear_X6_starts rfl rfl rfl (by decide +kernel) ⟨Nat.le_of_ble_eq_true rfl, Nat.le_of_ble_eq_true rfl⟩) hK (r_recv hK hP 0 (by decide) eN_0 (show vwCl[6]? = some (RX6, TX6, 20) from rfl)) hS hP (fun _ hq => aA_mono hS.1 hq) (fun _ h _ => h) rfl hl.1 rfl (Nat.le_of_ble_eq_true rfl) dX6_clear_11 ⟨Nat.zero_le _, Nat.zero_le _⟩ (fun H locs hP hS => ?_)
    refine lv_aload_n hx hb dX6_clear_14 rfl (lv_at hl 0 rfl) ?_
    obtain ⟨r7, M9, e8, h⟩ := bdI_ok h
    refine r_callVi (As := []) (rest := []) (ws' := (wl 14 a (eN g a M9))) (ok_X6_clears l g a hI M6 M9 r7 e8) ⟨hx, hb, hml, hown, hts⟩ (cwV 0 hts gX6_clear_X6_clears rfl rfl rfl (by decide +kernel) ⟨Nat.le_of_ble_eq_true rfl, Nat.le_of_ble_eq_true rfl⟩) hK (r_recv hK hP 0 (by decide) eN_0 (show vwCl[6]? = some (RX6, TX6, 20) from rfl)) hS hP (fun _ hq => aA_mono hS.1 hq) (fun _ h _ => h) rfl hl.1 rfl (Nat.le_of_ble_eq_true rfl) dX6_clear_15 ⟨Nat.zero_le _, Nat.zero_le _⟩ (fun H locs hP hS => ?_)
    rw [hQz]
    exact r_iret (v := r7) hx hb hr hlk hS ((Prod.mk.inj (Option.some.inj h)).2 ▸ hP) (Prod.mk.inj (Option.some.inj h)).1 dX6_clear_18
  · replace h := if_t q3 h
    refine lv_ldc (v := (-1000002)) hx hb hown w136 dX6_clear_7 ?_
    rw [hQz]
    exact r_iret (v := (-1000002)) hx hb hr hlk hS ((Prod.mk.inj (Option.some.inj h)).2 ▸ hP) (Prod.mk.inj (Option.some.inj h)).1 dX6_clear_9
def rmX6_queued : Room := { frames := 1, cells := 0, slots := 0, locals := 60 }
set_option maxHeartbeats 4000000 in
set_option maxRecDepth 100000 in
theorem ok_X6_queued (l : Launch) (g : gT) (a : Nat → Nat) (hI : ij 14 a) (M : Mem) (r : Int32) (h : fX6_queued M = some r) : MI l yX6_queued wsX6_queued rmX6_queued g 14 a [.ref (a 0)] (wl 14 a (eN g a M)) (wl 14 a (eN g a M)) r := by
  refine MI_of (cc := cX6_queued) (maxL := 3) (rt := .int) (by decide) rfl (Nat.le_of_ble_eq_true rfl) ?_
  intro p e s m args below meth c ls hx hb hml hr hlk hts hown hK hP hl
  have hown : s.vm.findClass RX6 = some m.cls := hown
  have hl : lv_has ls 3 [(0, .ref (a 0))] := hl
  have hS : va_S (aA 14 a s.heap.size) s.heap s.heap [] := va_S.rf
  have iX6 : ∀ w ∈ wsX60, w ∈ wsX6_queued := fun w h => List.mem_cons_of_mem _ (List.mem_append_right _ h)
  have w25 := hts (.fieldLink RX6 25 "StepRidersModel" "s" "[I") (by decide +kernel)
  obtain ⟨Qz, hQz⟩ : ∃ Qz : State → Prop, Qz = MQ below (qI g (wl 14 a (eN g a M)) r (aA 14 a s.heap.size)) args s 0 0 (aA 14 a s.heap.size) := ⟨_, rfl⟩
  rw [← hQz]
  have B35 : ∀ (k4 : Int32 → Int32 → Option (Int32)) (C4 : ∀ (x1 : Int32) (x2 : Int32) (H : Heap) (locs : List Loc) (ls : Array Slot), k4 x1 x2 = some r → va_P g.1 vwCl (wl 14 a (eN g a M)) H → va_S (aA 14 a s.heap.size) s.heap H locs → lv_has ls 3 [(0, .ref (a 0)), (1, .int x1), (2, .int x2)] → W p l e rmX6_queued s m args below meth c H locs 0 0 Qz (F0 m 4 ls [])), ∀ (x2 : Int32) (s0 : Int32) (s1 : Int32) (H : Heap) (locs : List Loc) (ls : Array Slot), fX6_queued_b35 M k4 x2 s0 s1 = some r → va_P g.1 vwCl (wl 14 a (eN g a M)) H → va_S (aA 14 a s.heap.size) s.heap H locs → lv_has ls 3 [(0, .ref (a 0)), (2, .int x2)] → W p l e rmX6_queued s m args below meth c H locs 0 0 Qz (F0 m 35 ls [.int s0, .int s1]) := by
    intro k4 C4 x2 s0 s1 H locs ls h hP hS hl
    unfold fX6_queued_b35 at h
    refine lv_ior (x := s1) (y := s0) hx hb dX6_queued_35 ?_
    refine lv_istore_n (lv' := [(1, .int (s1 ||| s0)), (0, .ref (a 0)), (2, .int x2)]) hx hb dX6_queued_36 rfl hl (by decide) rfl (fun ls hl => ?_)
    refine lv_iinc (v := (x2 + 1)) (lv' := [(2, .int (x2 + 1)), (1, .int (s1 ||| s0)), (0, .ref (a 0))]) hx hb dX6_queued_37 hl (k := 2) rfl rfl (by decide) rfl (fun ls hl => ?_)
    refine lv_goto (tgt := 4) hx hb dX6_queued_40 (by decide) ?_
    exact C4 (s1 ||| s0) (x2 + 1) _ _ _ h hP hS (lv_sub hl [2, 1, 0] rfl)
  have B4 : ∀ (k4 : Int32 → Int32 → Option (Int32)) (C4 : ∀ (x1 : Int32) (x2 : Int32) (H : Heap) (locs : List Loc) (ls : Array Slot), k4 x1 x2 = some r → va_P g.1 vwCl (wl 14 a (eN g a M)) H → va_S (aA 14 a s.heap.size) s.heap H locs → lv_has ls 3 [(0, .ref (a 0)), (1, .int x1), (2, .int x2)] → W p l e rmX6_queued s m args below meth c H locs 0 0 Qz (F0 m 4 ls [])), ∀ (x1 : Int32) (x2 : Int32) (H : Heap) (locs : List Loc) (ls : Array Slot), fX6_queued_b4 M k4 x1 x2 = some r → va_P g.1 vwCl (wl 14 a (eN g a M)) H → va_S (aA 14 a s.heap.size) s.heap H locs → lv_has ls 3 [(0, .ref (a 0)), (1, .int x1), (2, .int x2)] → W p l e rmX6_queued s m args below meth c H locs 0 0 Qz (F0 m 4 ls []) := by
    intro k4 C4 x1 x2 H locs ls h hP hS hl
    unfold fX6_queued_b4 at h
    refine lv_iload_n hx hb dX6_queued_4 rfl (lv_at hl 2 rfl) ?_
    refine lv_aload_n hx hb dX6_queued_5 rfl (lv_at hl 0 rfl) ?_
    refine r_get (v := .ref (a 6)) hx hb hts iX6 hown hK hP 0 (by decide) eN_0 rfl 8 (by decide) w25 rfl dX6_queued_6 ?_
    refine lv_bipush (v := 17) hx hb dX6_queued_9 (by decide) ?_
    obtain ⟨q1, h⟩ := chk_ok h
    refine r_iald (i := 17) (h := M 6) hx hb hK hP 6 (by decide) rfl q1 dX6_queued_11 ?_
    refine lv_icmp_ge (x := x2) (y := (M 6 (Int32.toNatClampNeg 17))) (tgt := 43) hx hb dX6_queued_12 (by decide) (fun q2 => ?_) (fun q2 => ?_)
    · replace h := if_t q2 h
      refine lv_iload_n hx hb dX6_queued_43 rfl (lv_at hl 1 rfl) ?_
      rw [hQz]
      exact r_iret (v := x1) hx hb hr hlk hS hP (Option.some.inj h) dX6_queued_44
    · replace h := if_f q2 h
      refine lv_iload_n hx hb dX6_queued_15 rfl (lv_at hl 1 rfl) ?_
      refine lv_aload_n hx hb dX6_queued_16 rfl (lv_at hl 0 rfl) ?_
      refine r_get (v := .ref (a 6)) hx hb hts iX6 hown hK hP 0 (by decide) eN_0 rfl 8 (by decide) w25 rfl dX6_queued_17 ?_
      refine lv_iconst (v := 2) hx hb dX6_queued_20 (by decide) ?_
      refine lv_iload_n hx hb dX6_queued_21 rfl (lv_at hl 2 rfl) ?_
      refine lv_iadd (x := 2) (y := x2) hx hb dX6_queued_22 ?_
      obtain ⟨q3, h⟩ := chk_ok h
      refine r_iald (i := (2 + x2)) (h := M 6) hx hb hK hP 6 (by decide) rfl q3 dX6_queued_23 ?_
      refine lv_iconst (v := (-1)) hx hb dX6_queued_24 (by decide) ?_
      refine lv_icmp_ne (x := (M 6 (Int32.toNatClampNeg (2 + x2)))) (y := (-1)) (tgt := 34) hx hb dX6_queued_25 (by decide) (fun q4 => ?_) (fun q4 => ?_)
      · replace h := if_f q4 h
        refine lv_iconst (v := 0) hx hb dX6_queued_34 (by decide) ?_
        exact B35 k4 C4 x2 0 x1 _ _ _ h hP hS (lv_sub hl [0, 2] rfl)
      · replace h := if_t q4 h
        refine lv_iconst (v := 1) hx hb dX6_queued_28 (by decide) ?_
        refine lv_iload_n hx hb dX6_queued_29 rfl (lv_at hl 2 rfl) ?_
        refine lv_ishl (x := 1) (y := x2) hx hb dX6_queued_30 ?_
        refine lv_goto (tgt := 35) hx hb dX6_queued_31 (by decide) ?_
        exact B35 k4 C4 x2 (1 <<< (x2 &&& 31)) x1 _ _ _ h hP hS (lv_sub hl [0, 2] rfl)
  have L4 : ∀ (n : Nat), ∀ (x1 : Int32) (x2 : Int32) (H : Heap) (locs : List Loc) (ls : Array Slot), fX6_queued_l4 M n x1 x2 = some r → va_P g.1 vwCl (wl 14 a (eN g a M)) H → va_S (aA 14 a s.heap.size) s.heap H locs → lv_has ls 3 [(0, .ref (a 0)), (1, .int x1), (2, .int x2)] → W p l e rmX6_queued s m args below meth c H locs 0 0 Qz (F0 m 4 ls []) := by
    intro n
    induction n with
    | zero => intro x1 x2 H locs ls h; exact absurd (show (none : Option (Int32)) = some _ from h) (fun z => by cases z)
    | succ n ih => exact fun x1 x2 H locs ls h hP hS hl => B4 (fX6_queued_l4 M n) ih x1 x2 H locs ls h hP hS hl
  unfold fX6_queued at h
  refine lv_iconst (v := 0) hx hb dX6_queued_0 (by decide) ?_
  refine lv_istore_n (lv' := [(1, .int 0), (0, .ref (a 0))]) hx hb dX6_queued_1 rfl hl (by decide) rfl (fun ls hl => ?_)
  refine lv_iconst (v := 0) hx hb dX6_queued_2 (by decide) ?_
  refine lv_istore_n (lv' := [(2, .int 0), (1, .int 0), (0, .ref (a 0))]) hx hb dX6_queued_3 rfl hl (by decide) rfl (fun ls hl => ?_)
  exact L4 FU 0 0 _ _ _ h hP hS (lv_sub hl [2, 1, 0] rfl)
def rmX6_has : Room := { frames := 1, cells := 0, slots := 0, locals := 60 }
set_option maxHeartbeats 4000000 in
set_option maxRecDepth 100000 in
theorem ok_X6_has (l : Launch) (g : gT) (p0 : Int32) (p1 : Int32) (r : Int32) (h : fX6_has p0 p1 = some r) : MI l yX6_has wsX6_has rmX6_has g 0 (fun _ => 0) [.int p0, .int p1] ([] : va_W) ([] : va_W) r := by
  refine MI_of (cc := cX6_has) (maxL := 2) (rt := .boolean) (by decide) rfl (Nat.le_of_ble_eq_true rfl) ?_
  intro p e s m args below meth c ls hx hb hml hr hlk hts hown hK hP hl
  have hown : s.vm.findClass RX6 = some m.cls := hown
  have hl : lv_has ls 2 [(0, .int p0), (1, .int p1)] := hl
  have hS : va_S (aA 0 (fun _ => 0) s.heap.size) s.heap s.heap [] := va_S.rf
  obtain ⟨Qz, hQz⟩ : ∃ Qz : State → Prop, Qz = MQ below (qI g ([] : va_W) r (aA 0 (fun _ => 0) s.heap.size)) args s 0 0 (aA 0 (fun _ => 0) s.heap.size) := ⟨_, rfl⟩
  rw [← hQz]
  unfold fX6_has at h
  refine lv_iload_n hx hb dX6_has_0 rfl (lv_at hl 0 rfl) ?_
  refine lv_iload_n hx hb dX6_has_1 rfl (lv_at hl 1 rfl) ?_
  refine lv_ishr (x := p0) (y := p1) hx hb dX6_has_2 ?_
  refine lv_iconst (v := 1) hx hb dX6_has_3 (by decide) ?_
  refine lv_iand (x := (p0 >>> (p1 &&& 31))) (y := 1) hx hb dX6_has_4 ?_
  refine lv_iconst (v := 1) hx hb dX6_has_5 (by decide) ?_
  refine lv_icmp_ne (x := ((p0 >>> (p1 &&& 31)) &&& 1)) (y := 1) (tgt := 13) hx hb dX6_has_6 (by decide) (fun q1 => ?_) (fun q1 => ?_)
  · replace h := if_f q1 h
    refine lv_iconst (v := 0) hx hb dX6_has_13 (by decide) ?_
    rw [hQz]
    exact r_zret (v := 0) hx hb hr hlk hS hP (Option.some.inj h) (by decide) dX6_has_14
  · replace h := if_t q1 h
    refine lv_iconst (v := 1) hx hb dX6_has_9 (by decide) ?_
    refine lv_goto (tgt := 14) hx hb dX6_has_10 (by decide) ?_
    rw [hQz]
    exact r_zret (v := 1) hx hb hr hlk hS hP (Option.some.inj h) (by decide) dX6_has_14
