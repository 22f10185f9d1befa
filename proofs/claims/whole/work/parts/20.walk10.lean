def rmX6_copy : Room := { frames := 3, cells := 0, slots := 0, locals := 103 }
set_option maxHeartbeats 4000000 in
set_option maxRecDepth 100000 in
theorem ok_X6_copy (l : Launch) (g : gT) (a : Nat → Nat) (hI : ij 14 a) (p1 : Int32) (p2 : Int32) (p3 : Int32) (p4 : Int32) (p5 : Int32) (M : Mem) (M' : Mem) (r : Int32) (h : fX6_copy p1 p2 p3 p4 p5 M = some (r, M')) : MI l yX6_copy wsX6_copy rmX6_copy g 14 a [.ref (a 0), .int p1, .int p2, .int p3, .int p4, .int p5] (wl 14 a (eN g a M)) (wl 14 a (eN g a M')) r := by
  refine MI_of (cc := cX6_copy) (maxL := 7) (rt := .int) (by decide) rfl (Nat.le_of_ble_eq_true rfl) ?_
  intro p e s m args below meth c ls hx hb hml hr hlk hts hown hK hP hl
  have hown : s.vm.findClass RX6 = some m.cls := hown
  have hl : lv_has ls 7 [(0, .ref (a 0)), (1, .int p1), (2, .int p2), (3, .int p3), (4, .int p4), (5, .int p5)] := hl
  have hS : va_S (aA 14 a s.heap.size) s.heap s.heap [] := va_S.rf
  have iX6 : ∀ w ∈ wsX60, w ∈ wsX6_copy := fun w h => List.mem_cons_of_mem _ (List.mem_append_right _ h)
  have w16 := hts (.fieldLink RX6 16 "StepRidersModel" "items" "[I") (by decide +kernel)
  have w19 := hts (.fieldLink RX6 19 "StepRidersModel" "moved" "[I") (by decide +kernel)
  have w65 := hts (.constant RX6 65 (-1000001)) (by decide +kernel)
  have w7 := hts (.fieldLink RX6 7 "StepRidersModel" "sizes" "[I") (by decide +kernel)
  have w55 := hts (.constant RX6 55 (-1000011)) (by decide +kernel)
  have w13 := hts (.fieldLink RX6 13 "StepRidersModel" "widths" "[I") (by decide +kernel)
  have w74 := hts (.constant RX6 74 (-1000012)) (by decide +kernel)
  have w54 := hts (.constant RX6 54 (-1000015)) (by decide +kernel)
  obtain ⟨Qz, hQz⟩ : ∃ Qz : State → Prop, Qz = MQ below (qI g (wl 14 a (eN g a M')) r (aA 14 a s.heap.size)) args s 0 0 (aA 14 a s.heap.size) := ⟨_, rfl⟩
  rw [← hQz]
  have B134 : ∀ (k134 : Int32 → Mem → Option (Int32 × Mem)) (C134 : ∀ (x6 : Int32) (M : Mem) (H : Heap) (locs : List Loc) (ls : Array Slot), k134 x6 M = some (r, M') → va_P g.1 vwCl (wl 14 a (eN g a M)) H → va_S (aA 14 a s.heap.size) s.heap H locs → lv_has ls 7 [(0, .ref (a 0)), (1, .int p1), (2, .int p2), (3, .int p3), (4, .int p4), (5, .int p5), (6, .int x6)] → W p l e rmX6_copy s m args below meth c H locs 0 0 Qz (F0 m 134 ls [])), ∀ (x6 : Int32) (M : Mem) (H : Heap) (locs : List Loc) (ls : Array Slot), fX6_copy_b134 p1 p2 p3 p4 p5 k134 x6 M = some (r, M') → va_P g.1 vwCl (wl 14 a (eN g a M)) H → va_S (aA 14 a s.heap.size) s.heap H locs → lv_has ls 7 [(0, .ref (a 0)), (1, .int p1), (2, .int p2), (3, .int p3), (4, .int p4), (5, .int p5), (6, .int x6)] → W p l e rmX6_copy s m args below meth c H locs 0 0 Qz (F0 m 134 ls []) := by
    intro k134 C134 x6 M H locs ls h hP hS hl
    unfold fX6_copy_b134 at h
    refine lv_iload hx hb dX6_copy_134 (lv_at hl 6 rfl) ?_
    refine lv_iload hx hb dX6_copy_136 (lv_at hl 5 rfl) ?_
    refine lv_icmp_ge (x := x6) (y := p5) (tgt := 169) hx hb dX6_copy_138 (by decide) (fun q1 => ?_) (fun q1 => ?_)
    · replace h := if_t q1 h
      refine lv_aload_n hx hb dX6_copy_169 rfl (lv_at hl 0 rfl) ?_
      refine lv_iload hx hb dX6_copy_170 (lv_at hl 5 rfl) ?_
      obtain ⟨r2, M4, e3, h⟩ := bdI_ok h
      refine r_callVi (As := [.int p5]) (rest := []) (ws' := (wl 14 a (eN g a M4))) (ok_X6_ends l g a hI p5 M M4 r2 e3) ⟨hx, hb, hml, hown, hts⟩ (cwV 1 hts gX6_copy_X6_ends rfl rfl rfl (by decide +kernel) ⟨Nat.le_of_ble_eq_true rfl, Nat.le_of_ble_eq_true rfl⟩) hK (r_recv hK hP 0 (by decide) eN_0 (show vwCl[6]? = some (RX6, TX6, 20) from rfl)) hS hP (fun _ hq => aA_mono hS.1 hq) (fun _ h _ => h) rfl hl.1 rfl (Nat.le_of_ble_eq_true rfl) dX6_copy_172 ⟨Nat.zero_le _, Nat.zero_le _⟩ (fun H locs hP hS => ?_)
      rw [hQz]
      exact r_iret (v := r2) hx hb hr hlk hS ((Prod.mk.inj (Option.some.inj h)).2 ▸ hP) (Prod.mk.inj (Option.some.inj h)).1 dX6_copy_175
    · replace h := if_f q1 h
      refine lv_aload_n hx hb dX6_copy_141 rfl (lv_at hl 0 rfl) ?_
      refine r_get (v := .ref (a 3)) hx hb hts iX6 hown hK hP 0 (by decide) eN_0 rfl 2 (by decide) w16 rfl dX6_copy_142 ?_
      refine lv_bipush (v := 40) hx hb dX6_copy_145 (by decide) ?_
      refine lv_iload_n hx hb dX6_copy_147 rfl (lv_at hl 3 rfl) ?_
      refine lv_imul (x := 40) (y := p3) hx hb dX6_copy_148 ?_
      refine lv_iload hx hb dX6_copy_149 (lv_at hl 4 rfl) ?_
      refine lv_iadd (x := (40 * p3)) (y := p4) hx hb dX6_copy_151 ?_
      refine lv_iload hx hb dX6_copy_152 (lv_at hl 6 rfl) ?_
      refine lv_iadd (x := ((40 * p3) + p4)) (y := x6) hx hb dX6_copy_154 ?_
      refine lv_aload_n hx hb dX6_copy_155 rfl (lv_at hl 0 rfl) ?_
      refine r_get (v := .ref (a 4)) hx hb hts iX6 hown hK hP 0 (by decide) eN_0 rfl 3 (by decide) w19 rfl dX6_copy_156 ?_
      refine lv_iload hx hb dX6_copy_159 (lv_at hl 6 rfl) ?_
      obtain ⟨q5, h⟩ := chk_ok h
      refine r_iald (i := x6) (h := M 4) hx hb hK hP 4 (by decide) rfl q5 dX6_copy_161 ?_
      obtain ⟨q6, h⟩ := chk_ok h
      refine r_iast (i := (((40 * p3) + p4) + x6)) (x := (M 4 (Int32.toNatClampNeg x6))) (h := M 3) (f' := eN g a (mp M 3 (Int32.toNatClampNeg (((40 * p3) + p4) + x6)) (M 4 (Int32.toNatClampNeg x6)))) hx hb hK hI (fun _ h => aA_in h) hP hS 3 (by decide) rfl q6 (eN_ua (fun _ => rfl)) dX6_copy_162 (fun H locs hP hS => ?_)
      refine lv_iinc (v := (x6 + 1)) (lv' := [(6, .int (x6 + 1)), (0, .ref (a 0)), (1, .int p1), (2, .int p2), (3, .int p3), (4, .int p4), (5, .int p5)]) hx hb dX6_copy_163 hl (k := 6) rfl rfl (by decide) rfl (fun ls hl => ?_)
      refine lv_goto (tgt := 134) hx hb dX6_copy_166 (by decide) ?_
      exact C134 (x6 + 1) (mp M 3 (Int32.toNatClampNeg (((40 * p3) + p4) + x6)) (M 4 (Int32.toNatClampNeg x6))) _ _ _ h hP hS (lv_sub hl [1, 2, 3, 4, 5, 6, 0] rfl)
  have L134 : ∀ (n : Nat), ∀ (x6 : Int32) (M : Mem) (H : Heap) (locs : List Loc) (ls : Array Slot), fX6_copy_l134 p1 p2 p3 p4 p5 n x6 M = some (r, M') → va_P g.1 vwCl (wl 14 a (eN g a M)) H → va_S (aA 14 a s.heap.size) s.heap H locs → lv_has ls 7 [(0, .ref (a 0)), (1, .int p1), (2, .int p2), (3, .int p3), (4, .int p4), (5, .int p5), (6, .int x6)] → W p l e rmX6_copy s m args below meth c H locs 0 0 Qz (F0 m 134 ls []) := by
    intro n
    induction n with
    | zero => intro x6 M H locs ls h; exact absurd (show (none : Option (Int32 × Mem)) = some _ from h) (fun z => by cases z)
    | succ n ih => exact fun x6 M H locs ls h hP hS hl => B134 (fX6_copy_l134 p1 p2 p3 p4 p5 n) ih x6 M H locs ls h hP hS hl
  have B131 : ∀ (M : Mem) (H : Heap) (locs : List Loc) (ls : Array Slot), fX6_copy_b131 p1 p2 p3 p4 p5 M = some (r, M') → va_P g.1 vwCl (wl 14 a (eN g a M)) H → va_S (aA 14 a s.heap.size) s.heap H locs → lv_has ls 7 [(0, .ref (a 0)), (1, .int p1), (2, .int p2), (3, .int p3), (4, .int p4), (5, .int p5)] → W p l e rmX6_copy s m args below meth c H locs 0 0 Qz (F0 m 131 ls []) := by
    intro M H locs ls h hP hS hl
    unfold fX6_copy_b131 at h
    refine lv_iconst (v := 0) hx hb dX6_copy_131 (by decide) ?_
    refine lv_istore (lv' := [(6, .int 0), (0, .ref (a 0)), (1, .int p1), (2, .int p2), (3, .int p3), (4, .int p4), (5, .int p5)]) hx hb dX6_copy_132 hl (by decide) rfl (fun ls hl => ?_)
    exact L134 FU 0 M _ _ _ h hP hS (lv_sub hl [1, 2, 3, 4, 5, 6, 0] rfl)
  have B97 : ∀ (k97 : Int32 → Mem → Option (Int32 × Mem)) (C97 : ∀ (x6 : Int32) (M : Mem) (H : Heap) (locs : List Loc) (ls : Array Slot), k97 x6 M = some (r, M') → va_P g.1 vwCl (wl 14 a (eN g a M)) H → va_S (aA 14 a s.heap.size) s.heap H locs → lv_has ls 7 [(0, .ref (a 0)), (1, .int p1), (2, .int p2), (3, .int p3), (4, .int p4), (5, .int p5), (6, .int x6)] → W p l e rmX6_copy s m args below meth c H locs 0 0 Qz (F0 m 97 ls [])), ∀ (x6 : Int32) (M : Mem) (H : Heap) (locs : List Loc) (ls : Array Slot), fX6_copy_b97 p1 p2 p3 p4 p5 k97 x6 M = some (r, M') → va_P g.1 vwCl (wl 14 a (eN g a M)) H → va_S (aA 14 a s.heap.size) s.heap H locs → lv_has ls 7 [(0, .ref (a 0)), (1, .int p1), (2, .int p2), (3, .int p3), (4, .int p4), (5, .int p5), (6, .int x6)] → W p l e rmX6_copy s m args below meth c H locs 0 0 Qz (F0 m 97 ls []) := by
    intro k97 C97 x6 M H locs ls h hP hS hl
    unfold fX6_copy_b97 at h
    refine lv_iload hx hb dX6_copy_97 (lv_at hl 6 rfl) ?_
    refine lv_iload hx hb dX6_copy_99 (lv_at hl 5 rfl) ?_
    refine lv_icmp_ge (x := x6) (y := p5) (tgt := 131) hx hb dX6_copy_101 (by decide) (fun q1 => ?_) (fun q1 => ?_)
    · replace h := if_t q1 h
      exact B131 M _ _ _ h hP hS (lv_sub hl [0, 1, 2, 3, 4, 5] rfl)
    · replace h := if_f q1 h
      refine lv_aload_n hx hb dX6_copy_104 rfl (lv_at hl 0 rfl) ?_
      refine r_get (v := .ref (a 4)) hx hb hts iX6 hown hK hP 0 (by decide) eN_0 rfl 3 (by decide) w19 rfl dX6_copy_105 ?_
      refine lv_iload hx hb dX6_copy_108 (lv_at hl 6 rfl) ?_
      refine lv_aload_n hx hb dX6_copy_110 rfl (lv_at hl 0 rfl) ?_
      refine r_get (v := .ref (a 3)) hx hb hts iX6 hown hK hP 0 (by decide) eN_0 rfl 2 (by decide) w16 rfl dX6_copy_111 ?_
      refine lv_bipush (v := 40) hx hb dX6_copy_114 (by decide) ?_
      refine lv_iload_n hx hb dX6_copy_116 rfl (lv_at hl 1 rfl) ?_
      refine lv_imul (x := 40) (y := p1) hx hb dX6_copy_117 ?_
      refine lv_iload_n hx hb dX6_copy_118 rfl (lv_at hl 2 rfl) ?_
      refine lv_iadd (x := (40 * p1)) (y := p2) hx hb dX6_copy_119 ?_
      refine lv_iload hx hb dX6_copy_120 (lv_at hl 6 rfl) ?_
      refine lv_iadd (x := ((40 * p1) + p2)) (y := x6) hx hb dX6_copy_122 ?_
      obtain ⟨q2, h⟩ := chk_ok h
      refine r_iald (i := (((40 * p1) + p2) + x6)) (h := M 3) hx hb hK hP 3 (by decide) rfl q2 dX6_copy_123 ?_
      obtain ⟨q3, h⟩ := chk_ok h
      refine r_iast (i := x6) (x := (M 3 (Int32.toNatClampNeg (((40 * p1) + p2) + x6)))) (h := M 4) (f' := eN g a (mp M 4 (Int32.toNatClampNeg x6) (M 3 (Int32.toNatClampNeg (((40 * p1) + p2) + x6))))) hx hb hK hI (fun _ h => aA_in h) hP hS 4 (by decide) rfl q3 (eN_ua (fun _ => rfl)) dX6_copy_124 (fun H locs hP hS => ?_)
      refine lv_iinc (v := (x6 + 1)) (lv' := [(6, .int (x6 + 1)), (0, .ref (a 0)), (1, .int p1), (2, .int p2), (3, .int p3), (4, .int p4), (5, .int p5)]) hx hb dX6_copy_125 hl (k := 6) rfl rfl (by decide) rfl (fun ls hl => ?_)
      refine lv_goto (tgt := 97) hx hb dX6_copy_128 (by decide) ?_
      exact C97 (x6 + 1) (mp M 4 (Int32.toNatClampNeg x6) (M 3 (Int32.toNatClampNeg (((40 * p1) + p2) + x6)))) _ _ _ h hP hS (lv_sub hl [1, 2, 3, 4, 5, 6, 0] rfl)
  have L97 : ∀ (n : Nat), ∀ (x6 : Int32) (M : Mem) (H : Heap) (locs : List Loc) (ls : Array Slot), fX6_copy_l97 p1 p2 p3 p4 p5 n x6 M = some (r, M') → va_P g.1 vwCl (wl 14 a (eN g a M)) H → va_S (aA 14 a s.heap.size) s.heap H locs → lv_has ls 7 [(0, .ref (a 0)), (1, .int p1), (2, .int p2), (3, .int p3), (4, .int p4), (5, .int p5), (6, .int x6)] → W p l e rmX6_copy s m args below meth c H locs 0 0 Qz (F0 m 97 ls []) := by
    intro n
    induction n with
    | zero => intro x6 M H locs ls h; exact absurd (show (none : Option (Int32 × Mem)) = some _ from h) (fun z => by cases z)
    | succ n ih => exact fun x6 M H locs ls h hP hS hl => B97 (fX6_copy_l97 p1 p2 p3 p4 p5 n) ih x6 M H locs ls h hP hS hl
  unfold fX6_copy at h
  refine lv_iload_n hx hb dX6_copy_0 rfl (lv_at hl 1 rfl) ?_
  obtain ⟨r1, e2, h⟩ := bdP_ok h
  refine r_callSi (As := [.int p1]) (rest := []) (ws' := (wl 14 a (eN g a M))) (ok_X6_isRow l g p1 r1 e2) ⟨hx, hb, hml, hown, hts⟩ (cwS 1 hts gX6_copy_X6_isRow rfl rfl rfl (by decide +kernel) ⟨Nat.le_of_ble_eq_true rfl, Nat.le_of_ble_eq_true rfl⟩) hK hS nilP (P_A hS.1) (fun _ _ hk => wl_keep hP hk) rfl hl.1 rfl (Nat.le_of_ble_eq_true rfl) dX6_copy_1 ⟨Nat.zero_le _, Nat.zero_le _⟩ (fun H locs hP hS => ?_)
  refine lv_if_eq (x := r1) (tgt := 14) hx hb dX6_copy_4 (by decide) (fun q3 => ?_) (fun q3 => ?_)
  · replace h := if_t q3 h
    refine lv_ldc (v := (-1000001)) hx hb hown w65 dX6_copy_14 ?_
    rw [hQz]
    exact r_iret (v := (-1000001)) hx hb hr hlk hS ((Prod.mk.inj (Option.some.inj h)).2 ▸ hP) (Prod.mk.inj (Option.some.inj h)).1 dX6_copy_16
  · replace h := if_f q3 h
    refine lv_iload_n hx hb dX6_copy_7 rfl (lv_at hl 3 rfl) ?_
    obtain ⟨r4, e5, h⟩ := bdP_ok h
    refine r_callSi (As := [.int p3]) (rest := []) (ws' := (wl 14 a (eN g a M))) (ok_X6_isRow l g p3 r4 e5) ⟨hx, hb, hml, hown, hts⟩ (cwS 1 hts gX6_copy_X6_isRow rfl rfl rfl (by decide +kernel) ⟨Nat.le_of_ble_eq_true rfl, Nat.le_of_ble_eq_true rfl⟩) hK hS nilP (P_A hS.1) (fun _ _ hk => wl_keep hP hk) rfl hl.1 rfl (Nat.le_of_ble_eq_true rfl) dX6_copy_8 ⟨Nat.zero_le _, Nat.zero_le _⟩ (fun H locs hP hS => ?_)
    refine lv_if_ne (x := r4) (tgt := 17) hx hb dX6_copy_11 (by decide) (fun q6 => ?_) (fun q6 => ?_)
    · replace h := if_f q6 h
      refine lv_aload_n hx hb dX6_copy_17 rfl (lv_at hl 0 rfl) ?_
      refine r_get (v := .ref (a 1)) hx hb hts iX6 hown hK hP 0 (by decide) eN_0 rfl 0 (by decide) w7 rfl dX6_copy_18 ?_
      refine lv_iload_n hx hb dX6_copy_21 rfl (lv_at hl 1 rfl) ?_
      obtain ⟨q7, h⟩ := chk_ok h
      refine r_iald (i := p1) (h := M 1) hx hb hK hP 1 (by decide) rfl q7 dX6_copy_22 ?_
      refine lv_if_lt (x := (M 1 (Int32.toNatClampNeg p1))) (tgt := 35) hx hb dX6_copy_23 (by decide) (fun q8 => ?_) (fun q8 => ?_)
      · replace h := if_t q8 h
        refine lv_aload_n hx hb dX6_copy_35 rfl (lv_at hl 0 rfl) ?_
        refine lv_ldc (v := (-1000011)) hx hb hown w55 dX6_copy_36 ?_
        obtain ⟨r9, M11, e10, h⟩ := bdI_ok h
        refine r_callVi (As := [.int (-1000011)]) (rest := []) (ws' := (wl 14 a (eN g a M11))) (ok_X6_ends l g a hI (-1000011) M M11 r9 e10) ⟨hx, hb, hml, hown, hts⟩ (cwV 1 hts gX6_copy_X6_ends rfl rfl rfl (by decide +kernel) ⟨Nat.le_of_ble_eq_true rfl, Nat.le_of_ble_eq_true rfl⟩) hK (r_recv hK hP 0 (by decide) eN_0 (show vwCl[6]? = some (RX6, TX6, 20) from rfl)) hS hP (fun _ hq => aA_mono hS.1 hq) (fun _ h _ => h) rfl hl.1 rfl (Nat.le_of_ble_eq_true rfl) dX6_copy_38 ⟨Nat.zero_le _, Nat.zero_le _⟩ (fun H locs hP hS => ?_)
        rw [hQz]
        exact r_iret (v := r9) hx hb hr hlk hS ((Prod.mk.inj (Option.some.inj h)).2 ▸ hP) (Prod.mk.inj (Option.some.inj h)).1 dX6_copy_41
      · replace h := if_f q8 h
        refine lv_aload_n hx hb dX6_copy_26 rfl (lv_at hl 0 rfl) ?_
        refine r_get (v := .ref (a 1)) hx hb hts iX6 hown hK hP 0 (by decide) eN_0 rfl 0 (by decide) w7 rfl dX6_copy_27 ?_
        refine lv_iload_n hx hb dX6_copy_30 rfl (lv_at hl 3 rfl) ?_
        obtain ⟨q12, h⟩ := chk_ok h
        refine r_iald (i := p3) (h := M 1) hx hb hK hP 1 (by decide) rfl q12 dX6_copy_31 ?_
        refine lv_if_ge (x := (M 1 (Int32.toNatClampNeg p3))) (tgt := 42) hx hb dX6_copy_32 (by decide) (fun q13 => ?_) (fun q13 => ?_)
        · replace h := if_t q13 h
          refine lv_aload_n hx hb dX6_copy_42 rfl (lv_at hl 0 rfl) ?_
          refine r_get (v := .ref (a 2)) hx hb hts iX6 hown hK hP 0 (by decide) eN_0 rfl 1 (by decide) w13 rfl dX6_copy_43 ?_
          refine lv_iload_n hx hb dX6_copy_46 rfl (lv_at hl 1 rfl) ?_
          obtain ⟨q14, h⟩ := chk_ok h
          refine r_iald (i := p1) (h := M 2) hx hb hK hP 2 (by decide) rfl q14 dX6_copy_47 ?_
          refine lv_aload_n hx hb dX6_copy_48 rfl (lv_at hl 0 rfl) ?_
          refine r_get (v := .ref (a 2)) hx hb hts iX6 hown hK hP 0 (by decide) eN_0 rfl 1 (by decide) w13 rfl dX6_copy_49 ?_
          refine lv_iload_n hx hb dX6_copy_52 rfl (lv_at hl 3 rfl) ?_
          obtain ⟨q15, h⟩ := chk_ok h
          refine r_iald (i := p3) (h := M 2) hx hb hK hP 2 (by decide) rfl q15 dX6_copy_53 ?_
          refine lv_icmp_eq (x := (M 2 (Int32.toNatClampNeg p1))) (y := (M 2 (Int32.toNatClampNeg p3))) (tgt := 64) hx hb dX6_copy_54 (by decide) (fun q16 => ?_) (fun q16 => ?_)
          · replace h := if_t q16 h
            refine lv_aload_n hx hb dX6_copy_64 rfl (lv_at hl 0 rfl) ?_
            refine lv_iload_n hx hb dX6_copy_65 rfl (lv_at hl 1 rfl) ?_
            refine lv_iload_n hx hb dX6_copy_66 rfl (lv_at hl 2 rfl) ?_
            refine lv_iload hx hb dX6_copy_67 (lv_at hl 5 rfl) ?_
            obtain ⟨r17, e18, h⟩ := bdP_ok h
            refine r_callVi (As := [.int p1, .int p2, .int p5]) (rest := []) (ws' := (wl 14 a (eN g a M))) (ok_X6_lies l g a hI p1 p2 p5 M r17 e18) ⟨hx, hb, hml, hown, hts⟩ (cwV 3 hts gX6_copy_X6_lies rfl rfl rfl (by decide +kernel) ⟨Nat.le_of_ble_eq_true rfl, Nat.le_of_ble_eq_true rfl⟩) hK (r_recv hK hP 0 (by decide) eN_0 (show vwCl[6]? = some (RX6, TX6, 20) from rfl)) hS hP (fun _ hq => aA_mono hS.1 hq) (fun _ h _ => h) rfl hl.1 rfl (Nat.le_of_ble_eq_true rfl) dX6_copy_69 ⟨Nat.zero_le _, Nat.zero_le _⟩ (fun H locs hP hS => ?_)
            refine lv_if_eq (x := r17) (tgt := 87) hx hb dX6_copy_72 (by decide) (fun q19 => ?_) (fun q19 => ?_)
            · replace h := if_t q19 h
              refine lv_aload_n hx hb dX6_copy_87 rfl (lv_at hl 0 rfl) ?_
              refine lv_ldc (v := (-1000012)) hx hb hown w74 dX6_copy_88 ?_
              obtain ⟨r20, M22, e21, h⟩ := bdI_ok h
              refine r_callVi (As := [.int (-1000012)]) (rest := []) (ws' := (wl 14 a (eN g a M22))) (ok_X6_ends l g a hI (-1000012) M M22 r20 e21) ⟨hx, hb, hml, hown, hts⟩ (cwV 1 hts gX6_copy_X6_ends rfl rfl rfl (by decide +kernel) ⟨Nat.le_of_ble_eq_true rfl, Nat.le_of_ble_eq_true rfl⟩) hK (r_recv hK hP 0 (by decide) eN_0 (show vwCl[6]? = some (RX6, TX6, 20) from rfl)) hS hP (fun _ hq => aA_mono hS.1 hq) (fun _ h _ => h) rfl hl.1 rfl (Nat.le_of_ble_eq_true rfl) dX6_copy_90 ⟨Nat.zero_le _, Nat.zero_le _⟩ (fun H locs hP hS => ?_)
              rw [hQz]
              exact r_iret (v := r20) hx hb hr hlk hS ((Prod.mk.inj (Option.some.inj h)).2 ▸ hP) (Prod.mk.inj (Option.some.inj h)).1 dX6_copy_93
            · replace h := if_f q19 h
              refine lv_aload_n hx hb dX6_copy_75 rfl (lv_at hl 0 rfl) ?_
              refine lv_iload_n hx hb dX6_copy_76 rfl (lv_at hl 3 rfl) ?_
              refine lv_iload hx hb dX6_copy_77 (lv_at hl 4 rfl) ?_
              refine lv_iload hx hb dX6_copy_79 (lv_at hl 5 rfl) ?_
              obtain ⟨r23, e24, h⟩ := bdP_ok h
              refine r_callVi (As := [.int p3, .int p4, .int p5]) (rest := []) (ws' := (wl 14 a (eN g a M))) (ok_X6_lies l g a hI p3 p4 p5 M r23 e24) ⟨hx, hb, hml, hown, hts⟩ (cwV 3 hts gX6_copy_X6_lies rfl rfl rfl (by decide +kernel) ⟨Nat.le_of_ble_eq_true rfl, Nat.le_of_ble_eq_true rfl⟩) hK (r_recv hK hP 0 (by decide) eN_0 (show vwCl[6]? = some (RX6, TX6, 20) from rfl)) hS hP (fun _ hq => aA_mono hS.1 hq) (fun _ h _ => h) rfl hl.1 rfl (Nat.le_of_ble_eq_true rfl) dX6_copy_81 ⟨Nat.zero_le _, Nat.zero_le _⟩ (fun H locs hP hS => ?_)
              refine lv_if_ne (x := r23) (tgt := 94) hx hb dX6_copy_84 (by decide) (fun q25 => ?_) (fun q25 => ?_)
              · replace h := if_f q25 h
                refine lv_iconst (v := 0) hx hb dX6_copy_94 (by decide) ?_
                refine lv_istore (lv' := [(6, .int 0), (0, .ref (a 0)), (1, .int p1), (2, .int p2), (3, .int p3), (4, .int p4), (5, .int p5)]) hx hb dX6_copy_95 hl (by decide) rfl (fun ls hl => ?_)
                exact L97 FU 0 M _ _ _ h hP hS (lv_sub hl [1, 2, 3, 4, 5, 6, 0] rfl)
              · replace h := if_t q25 h
                refine lv_aload_n hx hb dX6_copy_87 rfl (lv_at hl 0 rfl) ?_
                refine lv_ldc (v := (-1000012)) hx hb hown w74 dX6_copy_88 ?_
                obtain ⟨r26, M28, e27, h⟩ := bdI_ok h
                refine r_callVi (As := [.int (-1000012)]) (rest := []) (ws' := (wl 14 a (eN g a M28))) (ok_X6_ends l g a hI (-1000012) M M28 r26 e27) ⟨hx, hb, hml, hown, hts⟩ (cwV 1 hts gX6_copy_X6_ends rfl rfl rfl (by decide +kernel) ⟨Nat.le_of_ble_eq_true rfl, Nat.le_of_ble_eq_true rfl⟩) hK (r_recv hK hP 0 (by decide) eN_0 (show vwCl[6]? = some (RX6, TX6, 20) from rfl)) hS hP (fun _ hq => aA_mono hS.1 hq) (fun _ h _ => h) rfl hl.1 rfl (Nat.le_of_ble_eq_true rfl) dX6_copy_90 ⟨Nat.zero_le _, Nat.zero_le _⟩ (fun H locs hP hS => ?_)
                rw [hQz]
                exact r_iret (v := r26) hx hb hr hlk hS ((Prod.mk.inj (Option.some.inj h)).2 ▸ hP) (Prod.mk.inj (Option.some.inj h)).1 dX6_copy_93
          · replace h := if_f q16 h
            refine lv_aload_n hx hb dX6_copy_57 rfl (lv_at hl 0 rfl) ?_
            refine lv_ldc (v := (-1000015)) hx hb hown w54 dX6_copy_58 ?_
            obtain ⟨r29, M31, e30, h⟩ := bdI_ok h
            refine r_callVi (As := [.int (-1000015)]) (rest := []) (ws' := (wl 14 a (eN g a M31))) (ok_X6_ends l g a hI (-1000015) M M31 r29 e30) ⟨hx, hb, hml, hown, hts⟩ (cwV 1 hts gX6_copy_X6_ends rfl rfl rfl (by decide +kernel) ⟨Nat.le_of_ble_eq_true rfl, Nat.le_of_ble_eq_true rfl⟩) hK (r_recv hK hP 0 (by decide) eN_0 (show vwCl[6]? = some (RX6, TX6, 20) from rfl)) hS hP (fun _ hq => aA_mono hS.1 hq) (fun _ h _ => h) rfl hl.1 rfl (Nat.le_of_ble_eq_true rfl) dX6_copy_60 ⟨Nat.zero_le _, Nat.zero_le _⟩ (fun H locs hP hS => ?_)
            rw [hQz]
            exact r_iret (v := r29) hx hb hr hlk hS ((Prod.mk.inj (Option.some.inj h)).2 ▸ hP) (Prod.mk.inj (Option.some.inj h)).1 dX6_copy_63
        · replace h := if_f q13 h
          refine lv_aload_n hx hb dX6_copy_35 rfl (lv_at hl 0 rfl) ?_
          refine lv_ldc (v := (-1000011)) hx hb hown w55 dX6_copy_36 ?_
          obtain ⟨r32, M34, e33, h⟩ := bdI_ok h
          refine r_callVi (As := [.int (-1000011)]) (rest := []) (ws' := (wl 14 a (eN g a M34))) (ok_X6_ends l g a hI (-1000011) M M34 r32 e33) ⟨hx, hb, hml, hown, hts⟩ (cwV 1 hts gX6_copy_X6_ends rfl rfl rfl (by decide +kernel) ⟨Nat.le_of_ble_eq_true rfl, Nat.le_of_ble_eq_true rfl⟩) hK (r_recv hK hP 0 (by decide) eN_0 (show vwCl[6]? = some (RX6, TX6, 20) from rfl)) hS hP (fun _ hq => aA_mono hS.1 hq) (fun _ h _ => h) rfl hl.1 rfl (Nat.le_of_ble_eq_true rfl) dX6_copy_38 ⟨Nat.zero_le _, Nat.zero_le _⟩ (fun H locs hP hS => ?_)
          rw [hQz]
          exact r_iret (v := r32) hx hb hr hlk hS ((Prod.mk.inj (Option.some.inj h)).2 ▸ hP) (Prod.mk.inj (Option.some.inj h)).1 dX6_copy_41
    · replace h := if_t q6 h
      refine lv_ldc (v := (-1000001)) hx hb hown w65 dX6_copy_14 ?_
      rw [hQz]
      exact r_iret (v := (-1000001)) hx hb hr hlk hS ((Prod.mk.inj (Option.some.inj h)).2 ▸ hP) (Prod.mk.inj (Option.some.inj h)).1 dX6_copy_16
def rmX6_drop : Room := { frames := 3, cells := 0, slots := 0, locals := 103 }
set_option maxHeartbeats 4000000 in
set_option maxRecDepth 100000 in
theorem ok_X6_drop (l : Launch) (g : gT) (a : Nat → Nat) (hI : ij 14 a) (p1 : Int32) (M : Mem) (M' : Mem) (r : Int32) (h : fX6_drop p1 M = some (r, M')) : MI l yX6_drop wsX6_drop rmX6_drop g 14 a [.ref (a 0), .int p1] (wl 14 a (eN g a M)) (wl 14 a (eN g a M')) r := by
  refine MI_of (cc := cX6_drop) (maxL := 3) (rt := .int) (by decide) rfl (Nat.le_of_ble_eq_true rfl) ?_
  intro p e s m args below meth c ls hx hb hml hr hlk hts hown hK hP hl
  have hown : s.vm.findClass RX6 = some m.cls := hown
  have hl : lv_has ls 3 [(0, .ref (a 0)), (1, .int p1)] := hl
  have hS : va_S (aA 14 a s.heap.size) s.heap s.heap [] := va_S.rf
  have iX6 : ∀ w ∈ wsX60, w ∈ wsX6_drop := fun w h => List.mem_cons_of_mem _ (List.mem_append_right _ h)
  have w7 := hts (.fieldLink RX6 7 "StepRidersModel" "sizes" "[I") (by decide +kernel)
  have w55 := hts (.constant RX6 55 (-1000011)) (by decide +kernel)
  have w65 := hts (.constant RX6 65 (-1000001)) (by decide +kernel)
  obtain ⟨Qz, hQz⟩ : ∃ Qz : State → Prop, Qz = MQ below (qI g (wl 14 a (eN g a M')) r (aA 14 a s.heap.size)) args s 0 0 (aA 14 a s.heap.size) := ⟨_, rfl⟩
  rw [← hQz]
  unfold fX6_drop at h
  refine lv_iload_n hx hb dX6_drop_0 rfl (lv_at hl 1 rfl) ?_
  obtain ⟨r1, e2, h⟩ := bdP_ok h
  refine r_callSi (As := [.int p1]) (rest := []) (ws' := (wl 14 a (eN g a M))) (ok_X6_isRow l g p1 r1 e2) ⟨hx, hb, hml, hown, hts⟩ (cwS 1 hts gX6_drop_X6_isRow rfl rfl rfl (by decide +kernel) ⟨Nat.le_of_ble_eq_true rfl, Nat.le_of_ble_eq_true rfl⟩) hK hS nilP (P_A hS.1) (fun _ _ hk => wl_keep hP hk) rfl hl.1 rfl (Nat.le_of_ble_eq_true rfl) dX6_drop_1 ⟨Nat.zero_le _, Nat.zero_le _⟩ (fun H locs hP hS => ?_)
  refine lv_if_ne (x := r1) (tgt := 10) hx hb dX6_drop_4 (by decide) (fun q3 => ?_) (fun q3 => ?_)
  · replace h := if_f q3 h
    refine lv_aload_n hx hb dX6_drop_10 rfl (lv_at hl 0 rfl) ?_
    refine r_get (v := .ref (a 1)) hx hb hts iX6 hown hK hP 0 (by decide) eN_0 rfl 0 (by decide) w7 rfl dX6_drop_11 ?_
    refine lv_iload_n hx hb dX6_drop_14 rfl (lv_at hl 1 rfl) ?_
    obtain ⟨q4, h⟩ := chk_ok h
    refine r_iald (i := p1) (h := M 1) hx hb hK hP 1 (by decide) rfl q4 dX6_drop_15 ?_
    refine lv_if_ge (x := (M 1 (Int32.toNatClampNeg p1))) (tgt := 26) hx hb dX6_drop_16 (by decide) (fun q5 => ?_) (fun q5 => ?_)
    · replace h := if_t q5 h
      refine lv_aload_n hx hb dX6_drop_26 rfl (lv_at hl 0 rfl) ?_
      refine r_get (v := .ref (a 1)) hx hb hts iX6 hown hK hP 0 (by decide) eN_0 rfl 0 (by decide) w7 rfl dX6_drop_27 ?_
      refine lv_iload_n hx hb dX6_drop_30 rfl (lv_at hl 1 rfl) ?_
      obtain ⟨q6, h⟩ := chk_ok h
      refine r_iald (i := p1) (h := M 1) hx hb hK hP 1 (by decide) rfl q6 dX6_drop_31 ?_
      refine lv_istore_n (lv' := [(2, .int (M 1 (Int32.toNatClampNeg p1))), (0, .ref (a 0)), (1, .int p1)]) hx hb dX6_drop_32 rfl hl (by decide) rfl (fun ls hl => ?_)
      refine lv_aload_n hx hb dX6_drop_33 rfl (lv_at hl 1 rfl) ?_
      refine r_get (v := .ref (a 1)) hx hb hts iX6 hown hK hP 0 (by decide) eN_0 rfl 0 (by decide) w7 rfl dX6_drop_34 ?_
      refine lv_iload_n hx hb dX6_drop_37 rfl (lv_at hl 2 rfl) ?_
      refine lv_iconst (v := (-1)) hx hb dX6_drop_38 (by decide) ?_
      obtain ⟨q7, h⟩ := chk_ok h
      refine r_iast (i := p1) (x := (-1)) (h := M 1) (f' := eN g a (mp M 1 (Int32.toNatClampNeg p1) (-1))) hx hb hK hI (fun _ h => aA_in h) hP hS 1 (by decide) rfl q7 (eN_ua (fun _ => rfl)) dX6_drop_39 (fun H locs hP hS => ?_)
      refine lv_aload_n hx hb dX6_drop_40 rfl (lv_at hl 1 rfl) ?_
      refine lv_iload_n hx hb dX6_drop_41 rfl (lv_at hl 0 rfl) ?_
      obtain ⟨r8, M10, e9, h⟩ := bdI_ok h
      refine r_callVi (As := [.int (M 1 (Int32.toNatClampNeg p1))]) (rest := []) (ws' := (wl 14 a (eN g a M10))) (ok_X6_ends l g a hI (M 1 (Int32.toNatClampNeg p1)) (mp M 1 (Int32.toNatClampNeg p1) (-1)) M10 r8 e9) ⟨hx, hb, hml, hown, hts⟩ (cwV 1 hts gX6_drop_X6_ends rfl rfl rfl (by decide +kernel) ⟨Nat.le_of_ble_eq_true rfl, Nat.le_of_ble_eq_true rfl⟩) hK (r_recv hK hP 0 (by decide) eN_0 (show vwCl[6]? = some (RX6, TX6, 20) from rfl)) hS hP (fun _ hq => aA_mono hS.1 hq) (fun _ h _ => h) rfl hl.1 rfl (Nat.le_of_ble_eq_true rfl) dX6_drop_42 ⟨Nat.zero_le _, Nat.zero_le _⟩ (fun H locs hP hS => ?_)
      rw [hQz]
      exact r_iret (v := r8) hx hb hr hlk hS ((Prod.mk.inj (Option.some.inj h)).2 ▸ hP) (Prod.mk.inj (Option.some.inj h)).1 dX6_drop_45
    · replace h := if_f q5 h
      refine lv_aload_n hx hb dX6_drop_19 rfl (lv_at hl 0 rfl) ?_
      refine lv_ldc (v := (-1000011)) hx hb hown w55 dX6_drop_20 ?_
      obtain ⟨r11, M13, e12, h⟩ := bdI_ok h
      refine r_callVi (As := [.int (-1000011)]) (rest := []) (ws' := (wl 14 a (eN g a M13))) (ok_X6_ends l g a hI (-1000011) M M13 r11 e12) ⟨hx, hb, hml, hown, hts⟩ (cwV 1 hts gX6_drop_X6_ends rfl rfl rfl (by decide +kernel) ⟨Nat.le_of_ble_eq_true rfl, Nat.le_of_ble_eq_true rfl⟩) hK (r_recv hK hP 0 (by decide) eN_0 (show vwCl[6]? = some (RX6, TX6, 20) from rfl)) hS hP (fun _ hq => aA_mono hS.1 hq) (fun _ h _ => h) rfl hl.1 rfl (Nat.le_of_ble_eq_true rfl) dX6_drop_22 ⟨Nat.zero_le _, Nat.zero_le _⟩ (fun H locs hP hS => ?_)
      rw [hQz]
      exact r_iret (v := r11) hx hb hr hlk hS ((Prod.mk.inj (Option.some.inj h)).2 ▸ hP) (Prod.mk.inj (Option.some.inj h)).1 dX6_drop_25
  · replace h := if_t q3 h
    refine lv_ldc (v := (-1000001)) hx hb hown w65 dX6_drop_7 ?_
    rw [hQz]
    exact r_iret (v := (-1000001)) hx hb hr hlk hS ((Prod.mk.inj (Option.some.inj h)).2 ▸ hP) (Prod.mk.inj (Option.some.inj h)).1 dX6_drop_9
def rmX6_feed : Room := { frames := 2, cells := 0, slots := 0, locals := 82 }
set_option maxHeartbeats 4000000 in
set_option maxRecDepth 100000 in
theorem ok_X6_feed (l : Launch) (g : gT) (a : Nat → Nat) (hI : ij 14 a) (p1 : Int32) (M : Mem) (M' : Mem) (r : Int32) (h : fX6_feed p1 M = some (r, M')) : MI l yX6_feed wsX6_feed rmX6_feed g 14 a [.ref (a 0), .int p1] (wl 14 a (eN g a M)) (wl 14 a (eN g a M')) r := by
  refine MI_of (cc := cX6_feed) (maxL := 2) (rt := .int) (by decide) rfl (Nat.le_of_ble_eq_true rfl) ?_
  intro p e s m args below meth c ls hx hb hml hr hlk hts hown hK hP hl
  have hown : s.vm.findClass RX6 = some m.cls := hown
  have hl : lv_has ls 2 [(0, .ref (a 0)), (1, .int p1)] := hl
  have hS : va_S (aA 14 a s.heap.size) s.heap s.heap [] := va_S.rf
  have iX6 : ∀ w ∈ wsX60, w ∈ wsX6_feed := fun w h => List.mem_cons_of_mem _ (List.mem_append_right _ h)
  have w79 := hts (.fieldLink RX6 79 "StepRidersModel" "typed" "I") (by decide +kernel)
  have w22 := hts (.fieldLink RX6 22 "StepRidersModel" "tape" "[I") (by decide +kernel)
  have w82 := hts (.constant RX6 82 (-1000003)) (by decide +kernel)
  have w65 := hts (.constant RX6 65 (-1000001)) (by decide +kernel)
  obtain ⟨Qz, hQz⟩ : ∃ Qz : State → Prop, Qz = MQ below (qI g (wl 14 a (eN g a M')) r (aA 14 a s.heap.size)) args s 0 0 (aA 14 a s.heap.size) := ⟨_, rfl⟩
  rw [← hQz]
  unfold fX6_feed at h
  refine lv_iload_n hx hb dX6_feed_0 rfl (lv_at hl 1 rfl) ?_
  refine lv_iconst (v := 0) hx hb dX6_feed_1 (by decide) ?_
  refine lv_sipush (v := 255) hx hb dX6_feed_2 (by decide) ?_
  obtain ⟨r1, e2, h⟩ := bdP_ok h
  refine r_callSi (As := [.int p1, .int 0, .int 255]) (rest := []) (ws' := (wl 14 a (eN g a M))) (ok_X6_in l g p1 0 255 r1 e2) ⟨hx, hb, hml, hown, hts⟩ (cwS 3 hts gX6_feed_X6_in rfl rfl rfl (by decide +kernel) ⟨Nat.le_of_ble_eq_true rfl, Nat.le_of_ble_eq_true rfl⟩) hK hS nilP (P_A hS.1) (fun _ _ hk => wl_keep hP hk) rfl hl.1 rfl (Nat.le_of_ble_eq_true rfl) dX6_feed_5 ⟨Nat.zero_le _, Nat.zero_le _⟩ (fun H locs hP hS => ?_)
  refine lv_if_ne (x := r1) (tgt := 14) hx hb dX6_feed_8 (by decide) (fun q3 => ?_) (fun q3 => ?_)
  · replace h := if_f q3 h
    refine lv_aload_n hx hb dX6_feed_14 rfl (lv_at hl 0 rfl) ?_
    refine r_get (v := .int (M 0 6)) hx hb hts iX6 hown hK hP 0 (by decide) eN_0 rfl 6 (by decide) w79 rfl dX6_feed_15 ?_
    refine lv_bipush (v := 90) hx hb dX6_feed_18 (by decide) ?_
    refine lv_icmp_ne (x := (M 0 6)) (y := 90) (tgt := 26) hx hb dX6_feed_20 (by decide) (fun q4 => ?_) (fun q4 => ?_)
    · replace h := if_f q4 h
      refine lv_aload_n hx hb dX6_feed_26 rfl (lv_at hl 0 rfl) ?_
      refine r_get (v := .ref (a 5)) hx hb hts iX6 hown hK hP 0 (by decide) eN_0 rfl 5 (by decide) w22 rfl dX6_feed_27 ?_
      refine lv_aload_n hx hb dX6_feed_30 rfl (lv_at hl 0 rfl) ?_
      refine r_get (v := .int (M 0 6)) hx hb hts iX6 hown hK hP 0 (by decide) eN_0 rfl 6 (by decide) w79 rfl dX6_feed_31 ?_
      refine lv_iload_n hx hb dX6_feed_34 rfl (lv_at hl 1 rfl) ?_
      obtain ⟨q5, h⟩ := chk_ok h
      refine r_iast (i := (M 0 6)) (x := p1) (h := M 5) (f' := eN g a (mp M 5 (Int32.toNatClampNeg (M 0 6)) p1)) hx hb hK hI (fun _ h => aA_in h) hP hS 5 (by decide) rfl q5 (eN_ua (fun _ => rfl)) dX6_feed_35 (fun H locs hP hS => ?_)
      refine lv_aload_n hx hb dX6_feed_36 rfl (lv_at hl 0 rfl) ?_
      refine lv_dup hx hb dX6_feed_37 rfl ?_
      refine r_get (v := .int ((mp M 5 (Int32.toNatClampNeg (M 0 6)) p1) 0 6)) hx hb hts iX6 hown hK hP 0 (by decide) eN_0 rfl 6 (by decide) w79 rfl dX6_feed_38 ?_
      refine lv_iconst (v := 1) hx hb dX6_feed_41 (by decide) ?_
      refine lv_iadd (x := ((mp M 5 (Int32.toNatClampNeg (M 0 6)) p1) 0 6)) (y := 1) hx hb dX6_feed_42 ?_
      refine r_put (v := .int (((mp M 5 (Int32.toNatClampNeg (M 0 6)) p1) 0 6) + 1)) (ty := .int) (f' := eN g a (mp (mp M 5 (Int32.toNatClampNeg (M 0 6)) p1) 0 6 (((mp M 5 (Int32.toNatClampNeg (M 0 6)) p1) 0 6) + 1))) hx hb hts iX6 tyX6 tyX6_ok nmX6 hown hK hI (fun _ h => aA_in h) hP hS 0 (by decide) eN_0 rfl 6 (by decide) w79 rfl (by decide +kernel) rfl rfl (Nat.le_of_ble_eq_true rfl) eN_p6 dX6_feed_43 (fun H locs hP hS => ?_)
      refine lv_aload_n hx hb dX6_feed_46 rfl (lv_at hl 0 rfl) ?_
      refine r_get (v := .int ((mp (mp M 5 (Int32.toNatClampNeg (M 0 6)) p1) 0 6 (((mp M 5 (Int32.toNatClampNeg (M 0 6)) p1) 0 6) + 1)) 0 6)) hx hb hts iX6 hown hK hP 0 (by decide) eN_0 rfl 6 (by decide) w79 rfl dX6_feed_47 ?_
      rw [hQz]
      exact r_iret (v := ((mp (mp M 5 (Int32.toNatClampNeg (M 0 6)) p1) 0 6 (((mp M 5 (Int32.toNatClampNeg (M 0 6)) p1) 0 6) + 1)) 0 6)) hx hb hr hlk hS ((Prod.mk.inj (Option.some.inj h)).2 ▸ hP) (Prod.mk.inj (Option.some.inj h)).1 dX6_feed_50
    · replace h := if_t q4 h
      refine lv_ldc (v := (-1000003)) hx hb hown w82 dX6_feed_23 ?_
      rw [hQz]
      exact r_iret (v := (-1000003)) hx hb hr hlk hS ((Prod.mk.inj (Option.some.inj h)).2 ▸ hP) (Prod.mk.inj (Option.some.inj h)).1 dX6_feed_25
  · replace h := if_t q3 h
    refine lv_ldc (v := (-1000001)) hx hb hown w65 dX6_feed_11 ?_
    rw [hQz]
    exact r_iret (v := (-1000001)) hx hb hr hlk hS ((Prod.mk.inj (Option.some.inj h)).2 ▸ hP) (Prod.mk.inj (Option.some.inj h)).1 dX6_feed_13
def rmX6_letterAt : Room := { frames := 1, cells := 0, slots := 0, locals := 60 }
set_option maxHeartbeats 4000000 in
set_option maxRecDepth 100000 in
theorem ok_X6_letterAt (l : Launch) (g : gT) (a : Nat → Nat) (hI : ij 14 a) (p1 : Int32) (M : Mem) (r : Int32) (h : fX6_letterAt p1 M = some r) : MI l yX6_letterAt wsX6_letterAt rmX6_letterAt g 14 a [.ref (a 0), .int p1] (wl 14 a (eN g a M)) (wl 14 a (eN g a M)) r := by
  refine MI_of (cc := cX6_letterAt) (maxL := 2) (rt := .int) (by decide) rfl (Nat.le_of_ble_eq_true rfl) ?_
  intro p e s m args below meth c ls hx hb hml hr hlk hts hown hK hP hl
  have hown : s.vm.findClass RX6 = some m.cls := hown
  have hl : lv_has ls 2 [(0, .ref (a 0)), (1, .int p1)] := hl
  have hS : va_S (aA 14 a s.heap.size) s.heap s.heap [] := va_S.rf
  have iX6 : ∀ w ∈ wsX60, w ∈ wsX6_letterAt := fun w h => List.mem_cons_of_mem _ (List.mem_append_right _ h)
  have w79 := hts (.fieldLink RX6 79 "StepRidersModel" "typed" "I") (by decide +kernel)
  have w22 := hts (.fieldLink RX6 22 "StepRidersModel" "tape" "[I") (by decide +kernel)
  obtain ⟨Qz, hQz⟩ : ∃ Qz : State → Prop, Qz = MQ below (qI g (wl 14 a (eN g a M)) r (aA 14 a s.heap.size)) args s 0 0 (aA 14 a s.heap.size) := ⟨_, rfl⟩
  rw [← hQz]
  unfold fX6_letterAt at h
  refine lv_iload_n hx hb dX6_letterAt_0 rfl (lv_at hl 1 rfl) ?_
  refine lv_aload_n hx hb dX6_letterAt_1 rfl (lv_at hl 0 rfl) ?_
  refine r_get (v := .int (M 0 6)) hx hb hts iX6 hown hK hP 0 (by decide) eN_0 rfl 6 (by decide) w79 rfl dX6_letterAt_2 ?_
  refine lv_icmp_ge (x := p1) (y := (M 0 6)) (tgt := 17) hx hb dX6_letterAt_5 (by decide) (fun q1 => ?_) (fun q1 => ?_)
  · replace h := if_t q1 h
    refine lv_iconst (v := (-1)) hx hb dX6_letterAt_17 (by decide) ?_
    rw [hQz]
    exact r_iret (v := (-1)) hx hb hr hlk hS hP (Option.some.inj h) dX6_letterAt_18
  · replace h := if_f q1 h
    refine lv_aload_n hx hb dX6_letterAt_8 rfl (lv_at hl 0 rfl) ?_
    refine r_get (v := .ref (a 5)) hx hb hts iX6 hown hK hP 0 (by decide) eN_0 rfl 5 (by decide) w22 rfl dX6_letterAt_9 ?_
    refine lv_iload_n hx hb dX6_letterAt_12 rfl (lv_at hl 1 rfl) ?_
    obtain ⟨q2, h⟩ := chk_ok h
    refine r_iald (i := p1) (h := M 5) hx hb hK hP 5 (by decide) rfl q2 dX6_letterAt_13 ?_
    refine lv_goto (tgt := 18) hx hb dX6_letterAt_14 (by decide) ?_
    rw [hQz]
    exact r_iret (v := (M 5 (Int32.toNatClampNeg p1))) hx hb hr hlk hS hP (Option.some.inj h) dX6_letterAt_18
def rmX6_isDigit : Room := { frames := 2, cells := 0, slots := 0, locals := 82 }
set_option maxHeartbeats 4000000 in
set_option maxRecDepth 100000 in
theorem ok_X6_isDigit (l : Launch) (g : gT) (p0 : Int32) (r : Int32) (h : fX6_isDigit p0 = some r) : MI l yX6_isDigit wsX6_isDigit rmX6_isDigit g 0 (fun _ => 0) [.int p0] ([] : va_W) ([] : va_W) r := by
  refine MI_of (cc := cX6_isDigit) (maxL := 1) (rt := .boolean) (by decide) rfl (Nat.le_of_ble_eq_true rfl) ?_
  intro p e s m args below meth c ls hx hb hml hr hlk hts hown hK hP hl
  have hown : s.vm.findClass RX6 = some m.cls := hown
  have hl : lv_has ls 1 [(0, .int p0)] := hl
  have hS : va_S (aA 0 (fun _ => 0) s.heap.size) s.heap s.heap [] := va_S.rf
  obtain ⟨Qz, hQz⟩ : ∃ Qz : State → Prop, Qz = MQ below (qI g ([] : va_W) r (aA 0 (fun _ => 0) s.heap.size)) args s 0 0 (aA 0 (fun _ => 0) s.heap.size) := ⟨_, rfl⟩
  rw [← hQz]
  unfold fX6_isDigit at h
  refine lv_iload_n hx hb dX6_isDigit_0 rfl (lv_at hl 0 rfl) ?_
  refine lv_bipush (v := 48) hx hb dX6_isDigit_1 (by decide) ?_
  refine lv_bipush (v := 57) hx hb dX6_isDigit_3 (by decide) ?_
  obtain ⟨r1, e2, h⟩ := bdP_ok h
  refine r_callSi (As := [.int p0, .int 48, .int 57]) (rest := []) (ws' := ([] : va_W)) (ok_X6_in l g p0 48 57 r1 e2) ⟨hx, hb, hml, hown, hts⟩ (cwS 3 hts gX6_isDigit_X6_in rfl rfl rfl (by decide +kernel) ⟨Nat.le_of_ble_eq_true rfl, Nat.le_of_ble_eq_true rfl⟩) hK hS nilP (P_A hS.1) (fun _ _ hk => wl_keep hP hk) rfl hl.1 rfl (Nat.le_of_ble_eq_true rfl) dX6_isDigit_5 ⟨Nat.zero_le _, Nat.zero_le _⟩ (fun H locs hP hS => ?_)
  obtain ⟨q3, h⟩ := chk_ok h
  rw [hQz]
  exact r_zret (v := r1) hx hb hr hlk hS hP (Option.some.inj h) q3 dX6_isDigit_8
def rmX6_fails : Room := { frames := 1, cells := 0, slots := 0, locals := 60 }
set_option maxHeartbeats 4000000 in
set_option maxRecDepth 100000 in
theorem ok_X6_fails (l : Launch) (g : gT) (a : Nat → Nat) (hI : ij 14 a) (p1 : Int32) (M : Mem) (M' : Mem) (r : Int32) (h : fX6_fails p1 M = some (r, M')) : MI l yX6_fails wsX6_fails rmX6_fails g 14 a [.ref (a 0), .int p1] (wl 14 a (eN g a M)) (wl 14 a (eN g a M')) r := by
  refine MI_of (cc := cX6_fails) (maxL := 2) (rt := .boolean) (by decide) rfl (Nat.le_of_ble_eq_true rfl) ?_
  intro p e s m args below meth c ls hx hb hml hr hlk hts hown hK hP hl
  have hown : s.vm.findClass RX6 = some m.cls := hown
  have hl : lv_has ls 2 [(0, .ref (a 0)), (1, .int p1)] := hl
  have hS : va_S (aA 14 a s.heap.size) s.heap s.heap [] := va_S.rf
  have iX6 : ∀ w ∈ wsX60, w ∈ wsX6_fails := fun w h => List.mem_cons_of_mem _ (List.mem_append_right _ h)
  have w83 := hts (.fieldLink RX6 83 "StepRidersModel" "wrong" "I") (by decide +kernel)
  obtain ⟨Qz, hQz⟩ : ∃ Qz : State → Prop, Qz = MQ below (qI g (wl 14 a (eN g a M')) r (aA 14 a s.heap.size)) args s 0 0 (aA 14 a s.heap.size) := ⟨_, rfl⟩
  rw [← hQz]
  unfold fX6_fails at h
  refine lv_aload_n hx hb dX6_fails_0 rfl (lv_at hl 0 rfl) ?_
  refine lv_iload_n hx hb dX6_fails_1 rfl (lv_at hl 1 rfl) ?_
  refine r_put (v := .int p1) (ty := .int) (f' := eN g a (mp M 0 19 p1)) hx hb hts iX6 tyX6 tyX6_ok nmX6 hown hK hI (fun _ h => aA_in h) hP hS 0 (by decide) eN_0 rfl 19 (by decide) w83 rfl (by decide +kernel) rfl rfl (Nat.le_of_ble_eq_true rfl) eN_p19 dX6_fails_2 (fun H locs hP hS => ?_)
  refine lv_iconst (v := 0) hx hb dX6_fails_5 (by decide) ?_
  rw [hQz]
  exact r_zret (v := 0) hx hb hr hlk hS ((Prod.mk.inj (Option.some.inj h)).2 ▸ hP) (Prod.mk.inj (Option.some.inj h)).1 (by decide) dX6_fails_6
def rmX6_sign : Room := { frames := 2, cells := 0, slots := 0, locals := 81 }
set_option maxHeartbeats 4000000 in
set_option maxRecDepth 100000 in
theorem ok_X6_sign (l : Launch) (g : gT) (a : Nat → Nat) (hI : ij 14 a) (p1 : Int32) (M : Mem) (M' : Mem) (r : Int32) (h : fX6_sign p1 M = some (r, M')) : MI l yX6_sign wsX6_sign rmX6_sign g 14 a [.ref (a 0), .int p1] (wl 14 a (eN g a M)) (wl 14 a (eN g a M')) r := by
  refine MI_of (cc := cX6_sign) (maxL := 2) (rt := .boolean) (by decide) rfl (Nat.le_of_ble_eq_true rfl) ?_
  intro p e s m args below meth c ls hx hb hml hr hlk hts hown hK hP hl
  have hown : s.vm.findClass RX6 = some m.cls := hown
  have hl : lv_has ls 2 [(0, .ref (a 0)), (1, .int p1)] := hl
  have hS : va_S (aA 14 a s.heap.size) s.heap s.heap [] := va_S.rf
  have iX6 : ∀ w ∈ wsX60, w ∈ wsX6_sign := fun w h => List.mem_cons_of_mem _ (List.mem_append_right _ h)
  have w86 := hts (.fieldLink RX6 86 "StepRidersModel" "at" "I") (by decide +kernel)
  obtain ⟨Qz, hQz⟩ : ∃ Qz : State → Prop, Qz = MQ below (qI g (wl 14 a (eN g a M')) r (aA 14 a s.heap.size)) args s 0 0 (aA 14 a s.heap.size) := ⟨_, rfl⟩
  rw [← hQz]
  unfold fX6_sign at h
  refine lv_aload_n hx hb dX6_sign_0 rfl (lv_at hl 0 rfl) ?_
  refine lv_aload_n hx hb dX6_sign_1 rfl (lv_at hl 0 rfl) ?_
  refine r_get (v := .int (M 0 18)) hx hb hts iX6 hown hK hP 0 (by decide) eN_0 rfl 18 (by decide) w86 rfl dX6_sign_2 ?_
  obtain ⟨r1, e2, h⟩ := bdP_ok h
  refine r_callVi (As := [.int (M 0 18)]) (rest := []) (ws' := (wl 14 a (eN g a M))) (ok_X6_letterAt l g a hI (M 0 18) M r1 e2) ⟨hx, hb, hml, hown, hts⟩ (cwV 1 hts gX6_sign_X6_letterAt rfl rfl rfl (by decide +kernel) ⟨Nat.le_of_ble_eq_true rfl, Nat.le_of_ble_eq_true rfl⟩) hK (r_recv hK hP 0 (by decide) eN_0 (show vwCl[6]? = some (RX6, TX6, 20) from rfl)) hS hP (fun _ hq => aA_mono hS.1 hq) (fun _ h _ => h) rfl hl.1 rfl (Nat.le_of_ble_eq_true rfl) dX6_sign_5 ⟨Nat.zero_le _, Nat.zero_le _⟩ (fun H locs hP hS => ?_)
  refine lv_iload_n hx hb dX6_sign_8 rfl (lv_at hl 1 rfl) ?_
  refine lv_icmp_eq (x := r1) (y := p1) (tgt := 18) hx hb dX6_sign_9 (by decide) (fun q3 => ?_) (fun q3 => ?_)
  · replace h := if_t q3 h
    refine lv_aload_n hx hb dX6_sign_18 rfl (lv_at hl 0 rfl) ?_
    refine lv_dup hx hb dX6_sign_19 rfl ?_
    refine r_get (v := .int (M 0 18)) hx hb hts iX6 hown hK hP 0 (by decide) eN_0 rfl 18 (by decide) w86 rfl dX6_sign_20 ?_
    refine lv_iconst (v := 1) hx hb dX6_sign_23 (by decide) ?_
    refine lv_iadd (x := (M 0 18)) (y := 1) hx hb dX6_sign_24 ?_
    refine r_put (v := .int ((M 0 18) + 1)) (ty := .int) (f' := eN g a (mp M 0 18 ((M 0 18) + 1))) hx hb hts iX6 tyX6 tyX6_ok nmX6 hown hK hI (fun _ h => aA_in h) hP hS 0 (by decide) eN_0 rfl 18 (by decide) w86 rfl (by decide +kernel) rfl rfl (Nat.le_of_ble_eq_true rfl) eN_p18 dX6_sign_25 (fun H locs hP hS => ?_)
    refine lv_iconst (v := 1) hx hb dX6_sign_28 (by decide) ?_
    rw [hQz]
    exact r_zret (v := 1) hx hb hr hlk hS ((Prod.mk.inj (Option.some.inj h)).2 ▸ hP) (Prod.mk.inj (Option.some.inj h)).1 (by decide) dX6_sign_29
  · replace h := if_f q3 h
    refine lv_aload_n hx hb dX6_sign_12 rfl (lv_at hl 0 rfl) ?_
    refine lv_iconst (v := 1) hx hb dX6_sign_13 (by decide) ?_
    obtain ⟨r4, M6, e5, h⟩ := bdI_ok h
    refine r_callVi (As := [.int 1]) (rest := []) (ws' := (wl 14 a (eN g a M6))) (ok_X6_fails l g a hI 1 M M6 r4 e5) ⟨hx, hb, hml, hown, hts⟩ (cwV 1 hts gX6_sign_X6_fails rfl rfl rfl (by decide +kernel) ⟨Nat.le_of_ble_eq_true rfl, Nat.le_of_ble_eq_true rfl⟩) hK (r_recv hK hP 0 (by decide) eN_0 (show vwCl[6]? = some (RX6, TX6, 20) from rfl)) hS hP (fun _ hq => aA_mono hS.1 hq) (fun _ h _ => h) rfl hl.1 rfl (Nat.le_of_ble_eq_true rfl) dX6_sign_14 ⟨Nat.zero_le _, Nat.zero_le _⟩ (fun H locs hP hS => ?_)
    obtain ⟨q7, h⟩ := chk_ok h
    rw [hQz]
    exact r_zret (v := r4) hx hb hr hlk hS ((Prod.mk.inj (Option.some.inj h)).2 ▸ hP) (Prod.mk.inj (Option.some.inj h)).1 q7 dX6_sign_17
def rmX6_number : Room := { frames := 3, cells := 0, slots := 0, locals := 102 }
set_option maxHeartbeats 4000000 in
set_option maxRecDepth 100000 in
theorem ok_X6_number (l : Launch) (g : gT) (a : Nat → Nat) (hI : ij 14 a) (p1 : Int32) (p2 : Int32) (p3 : Int32) (M : Mem) (M' : Mem) (r : Int32) (h : fX6_number p1 p2 p3 M = some (r, M')) : MI l yX6_number wsX6_number rmX6_number g 14 a [.ref (a 0), .int p1, .int p2, .int p3] (wl 14 a (eN g a M)) (wl 14 a (eN g a M')) r := by
  refine MI_of (cc := cX6_number) (maxL := 6) (rt := .boolean) (by decide) rfl (Nat.le_of_ble_eq_true rfl) ?_
  intro p e s m args below meth c ls hx hb hml hr hlk hts hown hK hP hl
  have hown : s.vm.findClass RX6 = some m.cls := hown
  have hl : lv_has ls 6 [(0, .ref (a 0)), (1, .int p1), (2, .int p2), (3, .int p3)] := hl
  have hS : va_S (aA 14 a s.heap.size) s.heap s.heap [] := va_S.rf
  have iX6 : ∀ w ∈ wsX60, w ∈ wsX6_number := fun w h => List.mem_cons_of_mem _ (List.mem_append_right _ h)
  have w86 := hts (.fieldLink RX6 86 "StepRidersModel" "at" "I") (by decide +kernel)
  have w28 := hts (.fieldLink RX6 28 "StepRidersModel" "draft" "[I") (by decide +kernel)
  have w22 := hts (.fieldLink RX6 22 "StepRidersModel" "tape" "[I") (by decide +kernel)
  obtain ⟨Qz, hQz⟩ : ∃ Qz : State → Prop, Qz = MQ below (qI g (wl 14 a (eN g a M')) r (aA 14 a s.heap.size)) args s 0 0 (aA 14 a s.heap.size) := ⟨_, rfl⟩
  rw [← hQz]
  have B58 : ∀ (x4 : Int32) (x5 : Int32) (M : Mem) (H : Heap) (locs : List Loc) (ls : Array Slot), fX6_number_b58 p1 p2 p3 x4 x5 M = some (r, M') → va_P g.1 vwCl (wl 14 a (eN g a M)) H → va_S (aA 14 a s.heap.size) s.heap H locs → lv_has ls 6 [(0, .ref (a 0)), (1, .int p1), (2, .int p2), (3, .int p3), (4, .int x4), (5, .int x5)] → W p l e rmX6_number s m args below meth c H locs 0 0 Qz (F0 m 58 ls []) := by
    intro x4 x5 M H locs ls h hP hS hl
    unfold fX6_number_b58 at h
    refine lv_iload hx hb dX6_number_58 (lv_at hl 4 rfl) ?_
    refine lv_if_eq (x := x4) (tgt := 69) hx hb dX6_number_60 (by decide) (fun q1 => ?_) (fun q1 => ?_)
    · replace h := if_t q1 h
      refine lv_aload_n hx hb dX6_number_69 rfl (lv_at hl 0 rfl) ?_
      refine lv_iconst (v := 1) hx hb dX6_number_70 (by decide) ?_
      obtain ⟨r2, M4, e3, h⟩ := bdI_ok h
      refine r_callVi (As := [.int 1]) (rest := []) (ws' := (wl 14 a (eN g a M4))) (ok_X6_fails l g a hI 1 M M4 r2 e3) ⟨hx, hb, hml, hown, hts⟩ (cwV 1 hts gX6_number_X6_fails rfl rfl rfl (by decide +kernel) ⟨Nat.le_of_ble_eq_true rfl, Nat.le_of_ble_eq_true rfl⟩) hK (r_recv hK hP 0 (by decide) eN_0 (show vwCl[6]? = some (RX6, TX6, 20) from rfl)) hS hP (fun _ hq => aA_mono hS.1 hq) (fun _ h _ => h) rfl hl.1 rfl (Nat.le_of_ble_eq_true rfl) dX6_number_71 ⟨Nat.zero_le _, Nat.zero_le _⟩ (fun H locs hP hS => ?_)
      obtain ⟨q5, h⟩ := chk_ok h
      rw [hQz]
      exact r_zret (v := r2) hx hb hr hlk hS ((Prod.mk.inj (Option.some.inj h)).2 ▸ hP) (Prod.mk.inj (Option.some.inj h)).1 q5 dX6_number_74
    · replace h := if_f q1 h
      refine lv_iload hx hb dX6_number_63 (lv_at hl 4 rfl) ?_
      refine lv_iconst (v := 3) hx hb dX6_number_65 (by decide) ?_
      refine lv_icmp_ne (x := x4) (y := 3) (tgt := 75) hx hb dX6_number_66 (by decide) (fun q6 => ?_) (fun q6 => ?_)
      · replace h := if_f q6 h
        refine lv_iload hx hb dX6_number_75 (lv_at hl 5 rfl) ?_
        refine lv_iload_n hx hb dX6_number_77 rfl (lv_at hl 2 rfl) ?_
        refine lv_iload_n hx hb dX6_number_78 rfl (lv_at hl 3 rfl) ?_
        obtain ⟨r7, e8, h⟩ := bdP_ok h
        refine r_callSi (As := [.int x5, .int p2, .int p3]) (rest := []) (ws' := (wl 14 a (eN g a M))) (ok_X6_in l g x5 p2 p3 r7 e8) ⟨hx, hb, hml, hown, hts⟩ (cwS 3 hts gX6_number_X6_in rfl rfl rfl (by decide +kernel) ⟨Nat.le_of_ble_eq_true rfl, Nat.le_of_ble_eq_true rfl⟩) hK hS nilP (P_A hS.1) (fun _ _ hk => wl_keep hP hk) rfl hl.1 rfl (Nat.le_of_ble_eq_true rfl) dX6_number_79 ⟨Nat.zero_le _, Nat.zero_le _⟩ (fun H locs hP hS => ?_)
        refine lv_if_ne (x := r7) (tgt := 91) hx hb dX6_number_82 (by decide) (fun q9 => ?_) (fun q9 => ?_)
        · replace h := if_f q9 h
          refine lv_aload_n hx hb dX6_number_91 rfl (lv_at hl 0 rfl) ?_
          refine lv_dup hx hb dX6_number_92 rfl ?_
          refine r_get (v := .int (M 0 18)) hx hb hts iX6 hown hK hP 0 (by decide) eN_0 rfl 18 (by decide) w86 rfl dX6_number_93 ?_
          refine lv_iload hx hb dX6_number_96 (lv_at hl 4 rfl) ?_
          refine lv_iadd (x := (M 0 18)) (y := x4) hx hb dX6_number_98 ?_
          refine r_put (v := .int ((M 0 18) + x4)) (ty := .int) (f' := eN g a (mp M 0 18 ((M 0 18) + x4))) hx hb hts iX6 tyX6 tyX6_ok nmX6 hown hK hI (fun _ h => aA_in h) hP hS 0 (by decide) eN_0 rfl 18 (by decide) w86 rfl (by decide +kernel) rfl rfl (Nat.le_of_ble_eq_true rfl) eN_p18 dX6_number_99 (fun H locs hP hS => ?_)
          refine lv_aload_n hx hb dX6_number_102 rfl (lv_at hl 0 rfl) ?_
          refine r_get (v := .ref (a 7)) hx hb hts iX6 hown hK hP 0 (by decide) eN_0 rfl 9 (by decide) w28 rfl dX6_number_103 ?_
          refine lv_iload_n hx hb dX6_number_106 rfl (lv_at hl 1 rfl) ?_
          refine lv_iload hx hb dX6_number_107 (lv_at hl 5 rfl) ?_
          obtain ⟨q10, h⟩ := chk_ok h
          refine r_iast (i := p1) (x := x5) (h := (mp M 0 18 ((M 0 18) + x4)) 7) (f' := eN g a (mp (mp M 0 18 ((M 0 18) + x4)) 7 (Int32.toNatClampNeg p1) x5)) hx hb hK hI (fun _ h => aA_in h) hP hS 7 (by decide) rfl q10 (eN_ua (fun _ => rfl)) dX6_number_109 (fun H locs hP hS => ?_)
          refine lv_iconst (v := 1) hx hb dX6_number_110 (by decide) ?_
          rw [hQz]
          exact r_zret (v := 1) hx hb hr hlk hS ((Prod.mk.inj (Option.some.inj h)).2 ▸ hP) (Prod.mk.inj (Option.some.inj h)).1 (by decide) dX6_number_111
        · replace h := if_t q9 h
          refine lv_aload_n hx hb dX6_number_85 rfl (lv_at hl 0 rfl) ?_
          refine lv_iconst (v := 2) hx hb dX6_number_86 (by decide) ?_
          obtain ⟨r11, M13, e12, h⟩ := bdI_ok h
          refine r_callVi (As := [.int 2]) (rest := []) (ws' := (wl 14 a (eN g a M13))) (ok_X6_fails l g a hI 2 M M13 r11 e12) ⟨hx, hb, hml, hown, hts⟩ (cwV 1 hts gX6_number_X6_fails rfl rfl rfl (by decide +kernel) ⟨Nat.le_of_ble_eq_true rfl, Nat.le_of_ble_eq_true rfl⟩) hK (r_recv hK hP 0 (by decide) eN_0 (show vwCl[6]? = some (RX6, TX6, 20) from rfl)) hS hP (fun _ hq => aA_mono hS.1 hq) (fun _ h _ => h) rfl hl.1 rfl (Nat.le_of_ble_eq_true rfl) dX6_number_87 ⟨Nat.zero_le _, Nat.zero_le _⟩ (fun H locs hP hS => ?_)
          obtain ⟨q14, h⟩ := chk_ok h
          rw [hQz]
          exact r_zret (v := r11) hx hb hr hlk hS ((Prod.mk.inj (Option.some.inj h)).2 ▸ hP) (Prod.mk.inj (Option.some.inj h)).1 q14 dX6_number_90
      · replace h := if_t q6 h
        refine lv_aload_n hx hb dX6_number_69 rfl (lv_at hl 0 rfl) ?_
        refine lv_iconst (v := 1) hx hb dX6_number_70 (by decide) ?_
        obtain ⟨r15, M17, e16, h⟩ := bdI_ok h
        refine r_callVi (As := [.int 1]) (rest := []) (ws' := (wl 14 a (eN g a M17))) (ok_X6_fails l g a hI 1 M M17 r15 e16) ⟨hx, hb, hml, hown, hts⟩ (cwV 1 hts gX6_number_X6_fails rfl rfl rfl (by decide +kernel) ⟨Nat.le_of_ble_eq_true rfl, Nat.le_of_ble_eq_true rfl⟩) hK (r_recv hK hP 0 (by decide) eN_0 (show vwCl[6]? = some (RX6, TX6, 20) from rfl)) hS hP (fun _ hq => aA_mono hS.1 hq) (fun _ h _ => h) rfl hl.1 rfl (Nat.le_of_ble_eq_true rfl) dX6_number_71 ⟨Nat.zero_le _, Nat.zero_le _⟩ (fun H locs hP hS => ?_)
        obtain ⟨q18, h⟩ := chk_ok h
        rw [hQz]
        exact r_zret (v := r15) hx hb hr hlk hS ((Prod.mk.inj (Option.some.inj h)).2 ▸ hP) (Prod.mk.inj (Option.some.inj h)).1 q18 dX6_number_74
  have B6 : ∀ (k6 : Int32 → Int32 → Mem → Option (Int32 × Mem)) (C6 : ∀ (x4 : Int32) (x5 : Int32) (M : Mem) (H : Heap) (locs : List Loc) (ls : Array Slot), k6 x4 x5 M = some (r, M') → va_P g.1 vwCl (wl 14 a (eN g a M)) H → va_S (aA 14 a s.heap.size) s.heap H locs → lv_has ls 6 [(0, .ref (a 0)), (1, .int p1), (2, .int p2), (3, .int p3), (4, .int x4), (5, .int x5)] → W p l e rmX6_number s m args below meth c H locs 0 0 Qz (F0 m 6 ls [])), ∀ (x4 : Int32) (x5 : Int32) (M : Mem) (H : Heap) (locs : List Loc) (ls : Array Slot), fX6_number_b6 p1 p2 p3 k6 x4 x5 M = some (r, M') → va_P g.1 vwCl (wl 14 a (eN g a M)) H → va_S (aA 14 a s.heap.size) s.heap H locs → lv_has ls 6 [(0, .ref (a 0)), (1, .int p1), (2, .int p2), (3, .int p3), (4, .int x4), (5, .int x5)] → W p l e rmX6_number s m args below meth c H locs 0 0 Qz (F0 m 6 ls []) := by
    intro k6 C6 x4 x5 M H locs ls h hP hS hl
    unfold fX6_number_b6 at h
    refine lv_aload_n hx hb dX6_number_6 rfl (lv_at hl 0 rfl) ?_
    refine lv_aload_n hx hb dX6_number_7 rfl (lv_at hl 0 rfl) ?_
    refine r_get (v := .int (M 0 18)) hx hb hts iX6 hown hK hP 0 (by decide) eN_0 rfl 18 (by decide) w86 rfl dX6_number_8 ?_
    refine lv_iload hx hb dX6_number_11 (lv_at hl 4 rfl) ?_
    refine lv_iadd (x := (M 0 18)) (y := x4) hx hb dX6_number_13 ?_
    obtain ⟨r1, e2, h⟩ := bdP_ok h
    refine r_callVi (As := [.int ((M 0 18) + x4)]) (rest := []) (ws' := (wl 14 a (eN g a M))) (ok_X6_letterAt l g a hI ((M 0 18) + x4) M r1 e2) ⟨hx, hb, hml, hown, hts⟩ (cwV 1 hts gX6_number_X6_letterAt rfl rfl rfl (by decide +kernel) ⟨Nat.le_of_ble_eq_true rfl, Nat.le_of_ble_eq_true rfl⟩) hK (r_recv hK hP 0 (by decide) eN_0 (show vwCl[6]? = some (RX6, TX6, 20) from rfl)) hS hP (fun _ hq => aA_mono hS.1 hq) (fun _ h _ => h) rfl hl.1 rfl (Nat.le_of_ble_eq_true rfl) dX6_number_14 ⟨Nat.zero_le _, Nat.zero_le _⟩ (fun H locs hP hS => ?_)
    obtain ⟨r3, e4, h⟩ := bdP_ok h
    refine r_callSi (As := [.int r1]) (rest := []) (ws' := (wl 14 a (eN g a M))) (ok_X6_isDigit l g r1 r3 e4) ⟨hx, hb, hml, hown, hts⟩ (cwS 1 hts gX6_number_X6_isDigit rfl rfl rfl (by decide +kernel) ⟨Nat.le_of_ble_eq_true rfl, Nat.le_of_ble_eq_true rfl⟩) hK hS nilP (P_A hS.1) (fun _ _ hk => wl_keep hP hk) rfl hl.1 rfl (Nat.le_of_ble_eq_true rfl) dX6_number_17 ⟨Nat.zero_le _, Nat.zero_le _⟩ (fun H locs hP hS => ?_)
    refine lv_if_eq (x := r3) (tgt := 58) hx hb dX6_number_20 (by decide) (fun q5 => ?_) (fun q5 => ?_)
    · replace h := if_t q5 h
      exact B58 x4 x5 M _ _ _ h hP hS (lv_sub hl [0, 1, 2, 3, 4, 5] rfl)
    · replace h := if_f q5 h
      refine lv_iload hx hb dX6_number_23 (lv_at hl 4 rfl) ?_
      refine lv_iconst (v := 3) hx hb dX6_number_25 (by decide) ?_
      refine lv_icmp_ge (x := x4) (y := 3) (tgt := 58) hx hb dX6_number_26 (by decide) (fun q6 => ?_) (fun q6 => ?_)
      · replace h := if_t q6 h
        exact B58 x4 x5 M _ _ _ h hP hS (lv_sub hl [0, 1, 2, 3, 4, 5] rfl)
      · replace h := if_f q6 h
        refine lv_bipush (v := 10) hx hb dX6_number_29 (by decide) ?_
        refine lv_iload hx hb dX6_number_31 (lv_at hl 5 rfl) ?_
        refine lv_imul (x := 10) (y := x5) hx hb dX6_number_33 ?_
        refine lv_aload_n hx hb dX6_number_34 rfl (lv_at hl 0 rfl) ?_
        refine r_get (v := .ref (a 5)) hx hb hts iX6 hown hK hP 0 (by decide) eN_0 rfl 5 (by decide) w22 rfl dX6_number_35 ?_
        refine lv_aload_n hx hb dX6_number_38 rfl (lv_at hl 0 rfl) ?_
        refine r_get (v := .int (M 0 18)) hx hb hts iX6 hown hK hP 0 (by decide) eN_0 rfl 18 (by decide) w86 rfl dX6_number_39 ?_
        refine lv_iload hx hb dX6_number_42 (lv_at hl 4 rfl) ?_
        refine lv_iadd (x := (M 0 18)) (y := x4) hx hb dX6_number_44 ?_
        obtain ⟨q7, h⟩ := chk_ok h
        refine r_iald (i := ((M 0 18) + x4)) (h := M 5) hx hb hK hP 5 (by decide) rfl q7 dX6_number_45 ?_
        refine lv_iadd (x := (10 * x5)) (y := (M 5 (Int32.toNatClampNeg ((M 0 18) + x4)))) hx hb dX6_number_46 ?_
        refine lv_bipush (v := 48) hx hb dX6_number_47 (by decide) ?_
        refine lv_isub (x := ((10 * x5) + (M 5 (Int32.toNatClampNeg ((M 0 18) + x4))))) (y := 48) hx hb dX6_number_49 ?_
        refine lv_istore (lv' := [(5, .int (((10 * x5) + (M 5 (Int32.toNatClampNeg ((M 0 18) + x4)))) - 48)), (0, .ref (a 0)), (1, .int p1), (2, .int p2), (3, .int p3), (4, .int x4)]) hx hb dX6_number_50 hl (by decide) rfl (fun ls hl => ?_)
        refine lv_iinc (v := (x4 + 1)) (lv' := [(4, .int (x4 + 1)), (5, .int (((10 * x5) + (M 5 (Int32.toNatClampNeg ((M 0 18) + x4)))) - 48)), (0, .ref (a 0)), (1, .int p1), (2, .int p2), (3, .int p3)]) hx hb dX6_number_52 hl (k := 5) rfl rfl (by decide) rfl (fun ls hl => ?_)
        refine lv_goto (tgt := 6) hx hb dX6_number_55 (by decide) ?_
        exact C6 (x4 + 1) (((10 * x5) + (M 5 (Int32.toNatClampNeg ((M 0 18) + x4)))) - 48) M _ _ _ h hP hS (lv_sub hl [2, 3, 4, 5, 0, 1] rfl)
  have L6 : ∀ (n : Nat), ∀ (x4 : Int32) (x5 : Int32) (M : Mem) (H : Heap) (locs : List Loc) (ls : Array Slot), fX6_number_l6 p1 p2 p3 n x4 x5 M = some (r, M') → va_P g.1 vwCl (wl 14 a (eN g a M)) H → va_S (aA 14 a s.heap.size) s.heap H locs → lv_has ls 6 [(0, .ref (a 0)), (1, .int p1), (2, .int p2), (3, .int p3), (4, .int x4), (5, .int x5)] → W p l e rmX6_number s m args below meth c H locs 0 0 Qz (F0 m 6 ls []) := by
    intro n
    induction n with
    | zero => intro x4 x5 M H locs ls h; exact absurd (show (none : Option (Int32 × Mem)) = some _ from h) (fun z => by cases z)
    | succ n ih => exact fun x4 x5 M H locs ls h hP hS hl => B6 (fX6_number_l6 p1 p2 p3 n) ih x4 x5 M H locs ls h hP hS hl
  unfold fX6_number at h
  refine lv_iconst (v := 0) hx hb dX6_number_0 (by decide) ?_
  refine lv_istore (lv' := [(4, .int 0), (0, .ref (a 0)), (1, .int p1), (2, .int p2), (3, .int p3)]) hx hb dX6_number_1 hl (by decide) rfl (fun ls hl => ?_)
  refine lv_iconst (v := 0) hx hb dX6_number_3 (by decide) ?_
  refine lv_istore (lv' := [(5, .int 0), (4, .int 0), (0, .ref (a 0)), (1, .int p1), (2, .int p2), (3, .int p3)]) hx hb dX6_number_4 hl (by decide) rfl (fun ls hl => ?_)
  exact L6 FU 0 0 M _ _ _ h hP hS (lv_sub hl [2, 3, 4, 5, 1, 0] rfl)
def rmX6_kindBy : Room := { frames := 1, cells := 0, slots := 0, locals := 60 }
set_option maxHeartbeats 4000000 in
set_option maxRecDepth 100000 in
theorem ok_X6_kindBy (l : Launch) (g : gT) (p0 : Int32) (r : Int32) (h : fX6_kindBy p0 = some r) : MI l yX6_kindBy wsX6_kindBy rmX6_kindBy g 0 (fun _ => 0) [.int p0] ([] : va_W) ([] : va_W) r := by
  refine MI_of (cc := cX6_kindBy) (maxL := 1) (rt := .int) (by decide) rfl (Nat.le_of_ble_eq_true rfl) ?_
  intro p e s m args below meth c ls hx hb hml hr hlk hts hown hK hP hl
  have hown : s.vm.findClass RX6 = some m.cls := hown
  have hl : lv_has ls 1 [(0, .int p0)] := hl
  have hS : va_S (aA 0 (fun _ => 0) s.heap.size) s.heap s.heap [] := va_S.rf
  obtain ⟨Qz, hQz⟩ : ∃ Qz : State → Prop, Qz = MQ below (qI g ([] : va_W) r (aA 0 (fun _ => 0) s.heap.size)) args s 0 0 (aA 0 (fun _ => 0) s.heap.size) := ⟨_, rfl⟩
  rw [← hQz]
  unfold fX6_kindBy at h
  refine lv_iload_n hx hb dX6_kindBy_0 rfl (lv_at hl 0 rfl) ?_
  refine lv_bipush (v := 115) hx hb dX6_kindBy_1 (by decide) ?_
  refine lv_icmp_ne (x := p0) (y := 115) (tgt := 10) hx hb dX6_kindBy_3 (by decide) (fun q1 => ?_) (fun q1 => ?_)
  · replace h := if_f q1 h
    refine lv_iload_n hx hb dX6_kindBy_10 rfl (lv_at hl 0 rfl) ?_
    refine lv_bipush (v := 119) hx hb dX6_kindBy_11 (by decide) ?_
    refine lv_icmp_ne (x := p0) (y := 119) (tgt := 20) hx hb dX6_kindBy_13 (by decide) (fun q2 => ?_) (fun q2 => ?_)
    · replace h := if_f q2 h
      refine lv_iload_n hx hb dX6_kindBy_20 rfl (lv_at hl 0 rfl) ?_
      refine lv_bipush (v := 114) hx hb dX6_kindBy_21 (by decide) ?_
      refine lv_icmp_ne (x := p0) (y := 114) (tgt := 30) hx hb dX6_kindBy_23 (by decide) (fun q3 => ?_) (fun q3 => ?_)
      · replace h := if_f q3 h
        refine lv_iload_n hx hb dX6_kindBy_30 rfl (lv_at hl 0 rfl) ?_
        refine lv_bipush (v := 116) hx hb dX6_kindBy_31 (by decide) ?_
        refine lv_icmp_ne (x := p0) (y := 116) (tgt := 40) hx hb dX6_kindBy_33 (by decide) (fun q4 => ?_) (fun q4 => ?_)
        · replace h := if_f q4 h
          refine lv_iload_n hx hb dX6_kindBy_40 rfl (lv_at hl 0 rfl) ?_
          refine lv_bipush (v := 99) hx hb dX6_kindBy_41 (by decide) ?_
          refine lv_icmp_ne (x := p0) (y := 99) (tgt := 50) hx hb dX6_kindBy_43 (by decide) (fun q5 => ?_) (fun q5 => ?_)
          · replace h := if_f q5 h
            refine lv_iconst (v := 0) hx hb dX6_kindBy_50 (by decide) ?_
            rw [hQz]
            exact r_iret (v := 0) hx hb hr hlk hS hP (Option.some.inj h) dX6_kindBy_51
          · replace h := if_t q5 h
            refine lv_iconst (v := 5) hx hb dX6_kindBy_46 (by decide) ?_
            refine lv_goto (tgt := 51) hx hb dX6_kindBy_47 (by decide) ?_
            rw [hQz]
            exact r_iret (v := 5) hx hb hr hlk hS hP (Option.some.inj h) dX6_kindBy_51
        · replace h := if_t q4 h
          refine lv_iconst (v := 4) hx hb dX6_kindBy_36 (by decide) ?_
          refine lv_goto (tgt := 51) hx hb dX6_kindBy_37 (by decide) ?_
          rw [hQz]
          exact r_iret (v := 4) hx hb hr hlk hS hP (Option.some.inj h) dX6_kindBy_51
      · replace h := if_t q3 h
        refine lv_iconst (v := 3) hx hb dX6_kindBy_26 (by decide) ?_
        refine lv_goto (tgt := 51) hx hb dX6_kindBy_27 (by decide) ?_
        rw [hQz]
        exact r_iret (v := 3) hx hb hr hlk hS hP (Option.some.inj h) dX6_kindBy_51
    · replace h := if_t q2 h
      refine lv_iconst (v := 2) hx hb dX6_kindBy_16 (by decide) ?_
      refine lv_goto (tgt := 51) hx hb dX6_kindBy_17 (by decide) ?_
      rw [hQz]
      exact r_iret (v := 2) hx hb hr hlk hS hP (Option.some.inj h) dX6_kindBy_51
  · replace h := if_t q1 h
    refine lv_iconst (v := 1) hx hb dX6_kindBy_6 (by decide) ?_
    refine lv_goto (tgt := 51) hx hb dX6_kindBy_7 (by decide) ?_
    rw [hQz]
    exact r_iret (v := 1) hx hb hr hlk hS hP (Option.some.inj h) dX6_kindBy_51
