def rmX6_reads : Room := { frames := 4, cells := 0, slots := 0, locals := 127 }
set_option maxHeartbeats 4000000 in
set_option maxRecDepth 100000 in
theorem ok_X6_reads (l : Launch) (g : gT) (a : Nat → Nat) (hI : ij 14 a) (M : Mem) (M' : Mem) (r : Int32) (h : fX6_reads M = some (r, M')) : MI l yX6_reads wsX6_reads rmX6_reads g 14 a [.ref (a 0)] (wl 14 a (eN g a M)) (wl 14 a (eN g a M')) r := by
  refine MI_of (cc := cX6_reads) (maxL := 3) (rt := .boolean) (by decide) rfl (Nat.le_of_ble_eq_true rfl) ?_
  intro p e s m args below meth c ls hx hb hml hr hlk hts hown hK hP hl
  have hown : s.vm.findClass RX6 = some m.cls := hown
  have hl : lv_has ls 3 [(0, .ref (a 0))] := hl
  have hS : va_S (aA 14 a s.heap.size) s.heap s.heap [] := va_S.rf
  have iX6 : ∀ w ∈ wsX60, w ∈ wsX6_reads := fun w h => List.mem_cons_of_mem _ (List.mem_append_right _ h)
  have w86 := hts (.fieldLink RX6 86 "StepRidersModel" "at" "I") (by decide +kernel)
  have w28 := hts (.fieldLink RX6 28 "StepRidersModel" "draft" "[I") (by decide +kernel)
  have w79 := hts (.fieldLink RX6 79 "StepRidersModel" "typed" "I") (by decide +kernel)
  obtain ⟨Qz, hQz⟩ : ∃ Qz : State → Prop, Qz = MQ below (qI g (wl 14 a (eN g a M')) r (aA 14 a s.heap.size)) args s 0 0 (aA 14 a s.heap.size) := ⟨_, rfl⟩
  rw [← hQz]
  have B77 : ∀ (k56 : Mem → Option (Int32 × Mem)) (C56 : ∀ (M : Mem) (H : Heap) (locs : List Loc) (ls : Array Slot), k56 M = some (r, M') → va_P g.1 vwCl (wl 14 a (eN g a M)) H → va_S (aA 14 a s.heap.size) s.heap H locs → lv_has ls 3 [(0, .ref (a 0))] → W p l e rmX6_reads s m args below meth c H locs 0 0 Qz (F0 m 56 ls [])), ∀ (M : Mem) (H : Heap) (locs : List Loc) (ls : Array Slot), fX6_reads_b77 k56 M = some (r, M') → va_P g.1 vwCl (wl 14 a (eN g a M)) H → va_S (aA 14 a s.heap.size) s.heap H locs → lv_has ls 3 [(0, .ref (a 0))] → W p l e rmX6_reads s m args below meth c H locs 0 0 Qz (F0 m 77 ls []) := by
    intro k56 C56 M H locs ls h hP hS hl
    unfold fX6_reads_b77 at h
    refine lv_aload_n hx hb dX6_reads_77 rfl (lv_at hl 0 rfl) ?_
    refine lv_aload_n hx hb dX6_reads_78 rfl (lv_at hl 0 rfl) ?_
    refine r_get (v := .int (M 0 18)) hx hb hts iX6 hown hK hP 0 (by decide) eN_0 rfl 18 (by decide) w86 rfl dX6_reads_79 ?_
    obtain ⟨r1, e2, h⟩ := bdP_ok h
    refine r_callVi (As := [.int (M 0 18)]) (rest := []) (ws' := (wl 14 a (eN g a M))) (ok_X6_letterAt l g a hI (M 0 18) M r1 e2) ⟨hx, hb, hml, hown, hts⟩ (cwV 1 hts gX6_reads_X6_letterAt rfl rfl rfl (by decide +kernel) ⟨Nat.le_of_ble_eq_true rfl, Nat.le_of_ble_eq_true rfl⟩) hK (r_recv hK hP 0 (by decide) eN_0 (show vwCl[6]? = some (RX6, TX6, 20) from rfl)) hS hP (fun _ hq => aA_mono hS.1 hq) (fun _ h _ => h) rfl hl.1 rfl (Nat.le_of_ble_eq_true rfl) dX6_reads_82 ⟨Nat.zero_le _, Nat.zero_le _⟩ (fun H locs hP hS => ?_)
    obtain ⟨r3, e4, h⟩ := bdP_ok h
    refine r_callSi (As := [.int r1]) (rest := []) (ws' := (wl 14 a (eN g a M))) (ok_X6_kindBy l g r1 r3 e4) ⟨hx, hb, hml, hown, hts⟩ (cwS 1 hts gX6_reads_X6_kindBy rfl rfl rfl (by decide +kernel) ⟨Nat.le_of_ble_eq_true rfl, Nat.le_of_ble_eq_true rfl⟩) hK hS nilP (P_A hS.1) (fun _ _ hk => wl_keep hP hk) rfl hl.1 rfl (Nat.le_of_ble_eq_true rfl) dX6_reads_85 ⟨Nat.zero_le _, Nat.zero_le _⟩ (fun H locs hP hS => ?_)
    refine lv_istore_n (lv' := [(1, .int r3), (0, .ref (a 0))]) hx hb dX6_reads_88 rfl hl (by decide) rfl (fun ls hl => ?_)
    refine lv_iload_n hx hb dX6_reads_89 rfl (lv_at hl 0 rfl) ?_
    refine lv_if_ne (x := r3) (tgt := 99) hx hb dX6_reads_90 (by decide) (fun q5 => ?_) (fun q5 => ?_)
    · replace h := if_f q5 h
      refine lv_aload_n hx hb dX6_reads_99 rfl (lv_at hl 1 rfl) ?_
      refine r_get (v := .ref (a 7)) hx hb hts iX6 hown hK hP 0 (by decide) eN_0 rfl 9 (by decide) w28 rfl dX6_reads_100 ?_
      refine lv_bipush (v := 17) hx hb dX6_reads_103 (by decide) ?_
      obtain ⟨q6, h⟩ := chk_ok h
      refine r_iald (i := 17) (h := M 7) hx hb hK hP 7 (by decide) rfl q6 dX6_reads_105 ?_
      refine lv_istore_n (lv' := [(2, .int (M 7 (Int32.toNatClampNeg 17))), (1, .int r3), (0, .ref (a 0))]) hx hb dX6_reads_106 rfl hl (by decide) rfl (fun ls hl => ?_)
      refine lv_iload_n hx hb dX6_reads_107 rfl (lv_at hl 0 rfl) ?_
      refine lv_bipush (v := 7) hx hb dX6_reads_108 (by decide) ?_
      refine lv_icmp_ne (x := (M 7 (Int32.toNatClampNeg 17))) (y := 7) (tgt := 119) hx hb dX6_reads_110 (by decide) (fun q7 => ?_) (fun q7 => ?_)
      · replace h := if_f q7 h
        refine lv_aload_n hx hb dX6_reads_119 rfl (lv_at hl 2 rfl) ?_
        refine lv_dup hx hb dX6_reads_120 rfl ?_
        refine r_get (v := .int (M 0 18)) hx hb hts iX6 hown hK hP 0 (by decide) eN_0 rfl 18 (by decide) w86 rfl dX6_reads_121 ?_
        refine lv_iconst (v := 1) hx hb dX6_reads_124 (by decide) ?_
        refine lv_iadd (x := (M 0 18)) (y := 1) hx hb dX6_reads_125 ?_
        refine r_put (v := .int ((M 0 18) + 1)) (ty := .int) (f' := eN g a (mp M 0 18 ((M 0 18) + 1))) hx hb hts iX6 tyX6 tyX6_ok nmX6 hown hK hI (fun _ h => aA_in h) hP hS 0 (by decide) eN_0 rfl 18 (by decide) w86 rfl (by decide +kernel) rfl rfl (Nat.le_of_ble_eq_true rfl) eN_p18 dX6_reads_126 (fun H locs hP hS => ?_)
        refine lv_aload_n hx hb dX6_reads_129 rfl (lv_at hl 2 rfl) ?_
        refine r_get (v := .ref (a 7)) hx hb hts iX6 hown hK hP 0 (by decide) eN_0 rfl 9 (by decide) w28 rfl dX6_reads_130 ?_
        refine lv_bipush (v := 18) hx hb dX6_reads_133 (by decide) ?_
        refine lv_iload_n hx hb dX6_reads_135 rfl (lv_at hl 0 rfl) ?_
        refine lv_iadd (x := 18) (y := (M 7 (Int32.toNatClampNeg 17))) hx hb dX6_reads_136 ?_
        refine lv_iload_n hx hb dX6_reads_137 rfl (lv_at hl 1 rfl) ?_
        obtain ⟨q8, h⟩ := chk_ok h
        refine r_iast (i := (18 + (M 7 (Int32.toNatClampNeg 17)))) (x := r3) (h := (mp M 0 18 ((M 0 18) + 1)) 7) (f' := eN g a (mp (mp M 0 18 ((M 0 18) + 1)) 7 (Int32.toNatClampNeg (18 + (M 7 (Int32.toNatClampNeg 17)))) r3)) hx hb hK hI (fun _ h => aA_in h) hP hS 7 (by decide) rfl q8 (eN_ua (fun _ => rfl)) dX6_reads_138 (fun H locs hP hS => ?_)
        refine lv_aload_n hx hb dX6_reads_139 rfl (lv_at hl 2 rfl) ?_
        refine r_get (v := .ref (a 7)) hx hb hts iX6 hown hK hP 0 (by decide) eN_0 rfl 9 (by decide) w28 rfl dX6_reads_140 ?_
        refine lv_iconst (v := 2) hx hb dX6_reads_143 (by decide) ?_
        refine lv_iload_n hx hb dX6_reads_144 rfl (lv_at hl 0 rfl) ?_
        refine lv_iadd (x := 2) (y := (M 7 (Int32.toNatClampNeg 17))) hx hb dX6_reads_145 ?_
        refine lv_iconst (v := (-1)) hx hb dX6_reads_146 (by decide) ?_
        obtain ⟨q9, h⟩ := chk_ok h
        refine r_iast (i := (2 + (M 7 (Int32.toNatClampNeg 17)))) (x := (-1)) (h := (mp (mp M 0 18 ((M 0 18) + 1)) 7 (Int32.toNatClampNeg (18 + (M 7 (Int32.toNatClampNeg 17)))) r3) 7) (f' := eN g a (mp (mp (mp M 0 18 ((M 0 18) + 1)) 7 (Int32.toNatClampNeg (18 + (M 7 (Int32.toNatClampNeg 17)))) r3) 7 (Int32.toNatClampNeg (2 + (M 7 (Int32.toNatClampNeg 17)))) (-1))) hx hb hK hI (fun _ h => aA_in h) hP hS 7 (by decide) rfl q9 (eN_ua (fun _ => rfl)) dX6_reads_147 (fun H locs hP hS => ?_)
        refine lv_aload_n hx hb dX6_reads_148 rfl (lv_at hl 2 rfl) ?_
        refine lv_bipush (v := 9) hx hb dX6_reads_149 (by decide) ?_
        refine lv_iload_n hx hb dX6_reads_151 rfl (lv_at hl 0 rfl) ?_
        refine lv_iadd (x := 9) (y := (M 7 (Int32.toNatClampNeg 17))) hx hb dX6_reads_152 ?_
        refine lv_iconst (v := 0) hx hb dX6_reads_153 (by decide) ?_
        refine lv_iconst (v := 1) hx hb dX6_reads_154 (by decide) ?_
        obtain ⟨r10, M12, e11, h⟩ := bdI_ok h
        refine r_callVi (As := [.int (9 + (M 7 (Int32.toNatClampNeg 17))), .int 0, .int 1]) (rest := []) (ws' := (wl 14 a (eN g a M12))) (ok_X6_number l g a hI (9 + (M 7 (Int32.toNatClampNeg 17))) 0 1 (mp (mp (mp M 0 18 ((M 0 18) + 1)) 7 (Int32.toNatClampNeg (18 + (M 7 (Int32.toNatClampNeg 17)))) r3) 7 (Int32.toNatClampNeg (2 + (M 7 (Int32.toNatClampNeg 17)))) (-1)) M12 r10 e11) ⟨hx, hb, hml, hown, hts⟩ (cwV 3 hts gX6_reads_X6_number rfl rfl rfl (by decide +kernel) ⟨Nat.le_of_ble_eq_true rfl, Nat.le_of_ble_eq_true rfl⟩) hK (r_recv hK hP 0 (by decide) eN_0 (show vwCl[6]? = some (RX6, TX6, 20) from rfl)) hS hP (fun _ hq => aA_mono hS.1 hq) (fun _ h _ => h) rfl hl.1 rfl (Nat.le_of_ble_eq_true rfl) dX6_reads_155 ⟨Nat.zero_le _, Nat.zero_le _⟩ (fun H locs hP hS => ?_)
        refine lv_if_eq (x := r10) (tgt := 170) hx hb dX6_reads_158 (by decide) (fun q13 => ?_) (fun q13 => ?_)
        · replace h := if_t q13 h
          refine lv_iconst (v := 0) hx hb dX6_reads_170 (by decide) ?_
          rw [hQz]
          exact r_zret (v := 0) hx hb hr hlk hS ((Prod.mk.inj (Option.some.inj h)).2 ▸ hP) (Prod.mk.inj (Option.some.inj h)).1 (by decide) dX6_reads_171
        · replace h := if_f q13 h
          refine lv_aload_n hx hb dX6_reads_161 rfl (lv_at hl 2 rfl) ?_
          refine lv_bipush (v := 59) hx hb dX6_reads_162 (by decide) ?_
          obtain ⟨r14, M16, e15, h⟩ := bdI_ok h
          refine r_callVi (As := [.int 59]) (rest := []) (ws' := (wl 14 a (eN g a M16))) (ok_X6_sign l g a hI 59 M12 M16 r14 e15) ⟨hx, hb, hml, hown, hts⟩ (cwV 1 hts gX6_reads_X6_sign rfl rfl rfl (by decide +kernel) ⟨Nat.le_of_ble_eq_true rfl, Nat.le_of_ble_eq_true rfl⟩) hK (r_recv hK hP 0 (by decide) eN_0 (show vwCl[6]? = some (RX6, TX6, 20) from rfl)) hS hP (fun _ hq => aA_mono hS.1 hq) (fun _ h _ => h) rfl hl.1 rfl (Nat.le_of_ble_eq_true rfl) dX6_reads_164 ⟨Nat.zero_le _, Nat.zero_le _⟩ (fun H locs hP hS => ?_)
          refine lv_if_ne (x := r14) (tgt := 172) hx hb dX6_reads_167 (by decide) (fun q17 => ?_) (fun q17 => ?_)
          · replace h := if_f q17 h
            refine lv_aload_n hx hb dX6_reads_172 rfl (lv_at hl 2 rfl) ?_
            refine r_get (v := .ref (a 7)) hx hb hts iX6 hown hK hP 0 (by decide) eN_0 rfl 9 (by decide) w28 rfl dX6_reads_173 ?_
            refine lv_bipush (v := 17) hx hb dX6_reads_176 (by decide) ?_
            refine lv_dup2_11 hx hb dX6_reads_178 rfl rfl ?_
            obtain ⟨q18, h⟩ := chk_ok h
            refine r_iald (i := 17) (h := M16 7) hx hb hK hP 7 (by decide) rfl q18 dX6_reads_179 ?_
            refine lv_iconst (v := 1) hx hb dX6_reads_180 (by decide) ?_
            refine lv_iadd (x := (M16 7 (Int32.toNatClampNeg 17))) (y := 1) hx hb dX6_reads_181 ?_
            obtain ⟨q19, h⟩ := chk_ok h
            refine r_iast (i := 17) (x := ((M16 7 (Int32.toNatClampNeg 17)) + 1)) (h := M16 7) (f' := eN g a (mp M16 7 (Int32.toNatClampNeg 17) ((M16 7 (Int32.toNatClampNeg 17)) + 1))) hx hb hK hI (fun _ h => aA_in h) hP hS 7 (by decide) rfl q19 (eN_ua (fun _ => rfl)) dX6_reads_182 (fun H locs hP hS => ?_)
            refine lv_goto (tgt := 56) hx hb dX6_reads_183 (by decide) ?_
            exact C56 (mp M16 7 (Int32.toNatClampNeg 17) ((M16 7 (Int32.toNatClampNeg 17)) + 1)) _ _ _ h hP hS (lv_sub hl [2] rfl)
          · replace h := if_t q17 h
            refine lv_iconst (v := 0) hx hb dX6_reads_170 (by decide) ?_
            rw [hQz]
            exact r_zret (v := 0) hx hb hr hlk hS ((Prod.mk.inj (Option.some.inj h)).2 ▸ hP) (Prod.mk.inj (Option.some.inj h)).1 (by decide) dX6_reads_171
      · replace h := if_t q7 h
        refine lv_aload_n hx hb dX6_reads_113 rfl (lv_at hl 2 rfl) ?_
        refine lv_iconst (v := 3) hx hb dX6_reads_114 (by decide) ?_
        obtain ⟨r20, M22, e21, h⟩ := bdI_ok h
        refine r_callVi (As := [.int 3]) (rest := []) (ws' := (wl 14 a (eN g a M22))) (ok_X6_fails l g a hI 3 M M22 r20 e21) ⟨hx, hb, hml, hown, hts⟩ (cwV 1 hts gX6_reads_X6_fails rfl rfl rfl (by decide +kernel) ⟨Nat.le_of_ble_eq_true rfl, Nat.le_of_ble_eq_true rfl⟩) hK (r_recv hK hP 0 (by decide) eN_0 (show vwCl[6]? = some (RX6, TX6, 20) from rfl)) hS hP (fun _ hq => aA_mono hS.1 hq) (fun _ h _ => h) rfl hl.1 rfl (Nat.le_of_ble_eq_true rfl) dX6_reads_115 ⟨Nat.zero_le _, Nat.zero_le _⟩ (fun H locs hP hS => ?_)
        obtain ⟨q23, h⟩ := chk_ok h
        rw [hQz]
        exact r_zret (v := r20) hx hb hr hlk hS ((Prod.mk.inj (Option.some.inj h)).2 ▸ hP) (Prod.mk.inj (Option.some.inj h)).1 q23 dX6_reads_118
    · replace h := if_t q5 h
      refine lv_aload_n hx hb dX6_reads_93 rfl (lv_at hl 1 rfl) ?_
      refine lv_iconst (v := 1) hx hb dX6_reads_94 (by decide) ?_
      obtain ⟨r24, M26, e25, h⟩ := bdI_ok h
      refine r_callVi (As := [.int 1]) (rest := []) (ws' := (wl 14 a (eN g a M26))) (ok_X6_fails l g a hI 1 M M26 r24 e25) ⟨hx, hb, hml, hown, hts⟩ (cwV 1 hts gX6_reads_X6_fails rfl rfl rfl (by decide +kernel) ⟨Nat.le_of_ble_eq_true rfl, Nat.le_of_ble_eq_true rfl⟩) hK (r_recv hK hP 0 (by decide) eN_0 (show vwCl[6]? = some (RX6, TX6, 20) from rfl)) hS hP (fun _ hq => aA_mono hS.1 hq) (fun _ h _ => h) rfl hl.1 rfl (Nat.le_of_ble_eq_true rfl) dX6_reads_95 ⟨Nat.zero_le _, Nat.zero_le _⟩ (fun H locs hP hS => ?_)
      obtain ⟨q27, h⟩ := chk_ok h
      rw [hQz]
      exact r_zret (v := r24) hx hb hr hlk hS ((Prod.mk.inj (Option.some.inj h)).2 ▸ hP) (Prod.mk.inj (Option.some.inj h)).1 q27 dX6_reads_98
  have B56 : ∀ (k56 : Mem → Option (Int32 × Mem)) (C56 : ∀ (M : Mem) (H : Heap) (locs : List Loc) (ls : Array Slot), k56 M = some (r, M') → va_P g.1 vwCl (wl 14 a (eN g a M)) H → va_S (aA 14 a s.heap.size) s.heap H locs → lv_has ls 3 [(0, .ref (a 0))] → W p l e rmX6_reads s m args below meth c H locs 0 0 Qz (F0 m 56 ls [])), ∀ (M : Mem) (H : Heap) (locs : List Loc) (ls : Array Slot), fX6_reads_b56 k56 M = some (r, M') → va_P g.1 vwCl (wl 14 a (eN g a M)) H → va_S (aA 14 a s.heap.size) s.heap H locs → lv_has ls 3 [(0, .ref (a 0))] → W p l e rmX6_reads s m args below meth c H locs 0 0 Qz (F0 m 56 ls []) := by
    intro k56 C56 M H locs ls h hP hS hl
    unfold fX6_reads_b56 at h
    refine lv_aload_n hx hb dX6_reads_56 rfl (lv_at hl 0 rfl) ?_
    refine r_get (v := .int (M 0 18)) hx hb hts iX6 hown hK hP 0 (by decide) eN_0 rfl 18 (by decide) w86 rfl dX6_reads_57 ?_
    refine lv_aload_n hx hb dX6_reads_60 rfl (lv_at hl 0 rfl) ?_
    refine r_get (v := .int (M 0 6)) hx hb hts iX6 hown hK hP 0 (by decide) eN_0 rfl 6 (by decide) w79 rfl dX6_reads_61 ?_
    refine lv_icmp_lt (x := (M 0 18)) (y := (M 0 6)) (tgt := 77) hx hb dX6_reads_64 (by decide) (fun q1 => ?_) (fun q1 => ?_)
    · replace h := if_t q1 h
      exact B77 k56 C56 M _ _ _ h hP hS (lv_sub hl [0] rfl)
    · replace h := if_f q1 h
      refine lv_aload_n hx hb dX6_reads_67 rfl (lv_at hl 0 rfl) ?_
      refine r_get (v := .ref (a 7)) hx hb hts iX6 hown hK hP 0 (by decide) eN_0 rfl 9 (by decide) w28 rfl dX6_reads_68 ?_
      refine lv_bipush (v := 17) hx hb dX6_reads_71 (by decide) ?_
      obtain ⟨q2, h⟩ := chk_ok h
      refine r_iald (i := 17) (h := M 7) hx hb hK hP 7 (by decide) rfl q2 dX6_reads_73 ?_
      refine lv_if_ne (x := (M 7 (Int32.toNatClampNeg 17))) (tgt := 186) hx hb dX6_reads_74 (by decide) (fun q3 => ?_) (fun q3 => ?_)
      · replace h := if_f q3 h
        refine lv_iconst (v := 1) hx hb dX6_reads_186 (by decide) ?_
        rw [hQz]
        exact r_zret (v := 1) hx hb hr hlk hS ((Prod.mk.inj (Option.some.inj h)).2 ▸ hP) (Prod.mk.inj (Option.some.inj h)).1 (by decide) dX6_reads_187
      · replace h := if_t q3 h
        exact B77 k56 C56 M _ _ _ h hP hS (lv_sub hl [0] rfl)
  have L56 : ∀ (n : Nat), ∀ (M : Mem) (H : Heap) (locs : List Loc) (ls : Array Slot), fX6_reads_l56 n M = some (r, M') → va_P g.1 vwCl (wl 14 a (eN g a M)) H → va_S (aA 14 a s.heap.size) s.heap H locs → lv_has ls 3 [(0, .ref (a 0))] → W p l e rmX6_reads s m args below meth c H locs 0 0 Qz (F0 m 56 ls []) := by
    intro n
    induction n with
    | zero => intro M H locs ls h; exact absurd (show (none : Option (Int32 × Mem)) = some _ from h) (fun z => by cases z)
    | succ n ih => exact fun M H locs ls h hP hS hl => B56 (fX6_reads_l56 n) ih M H locs ls h hP hS hl
  unfold fX6_reads at h
  refine lv_aload_n hx hb dX6_reads_0 rfl (lv_at hl 0 rfl) ?_
  refine lv_iconst (v := 0) hx hb dX6_reads_1 (by decide) ?_
  refine r_put (v := .int 0) (ty := .int) (f' := eN g a (mp M 0 18 0)) hx hb hts iX6 tyX6 tyX6_ok nmX6 hown hK hI (fun _ h => aA_in h) hP hS 0 (by decide) eN_0 rfl 18 (by decide) w86 rfl (by decide +kernel) rfl rfl (Nat.le_of_ble_eq_true rfl) eN_p18 dX6_reads_2 (fun H locs hP hS => ?_)
  refine lv_aload_n hx hb dX6_reads_5 rfl (lv_at hl 0 rfl) ?_
  refine lv_bipush (v := 109) hx hb dX6_reads_6 (by decide) ?_
  obtain ⟨r1, M3, e2, h⟩ := bdI_ok h
  refine r_callVi (As := [.int 109]) (rest := []) (ws' := (wl 14 a (eN g a M3))) (ok_X6_sign l g a hI 109 (mp M 0 18 0) M3 r1 e2) ⟨hx, hb, hml, hown, hts⟩ (cwV 1 hts gX6_reads_X6_sign rfl rfl rfl (by decide +kernel) ⟨Nat.le_of_ble_eq_true rfl, Nat.le_of_ble_eq_true rfl⟩) hK (r_recv hK hP 0 (by decide) eN_0 (show vwCl[6]? = some (RX6, TX6, 20) from rfl)) hS hP (fun _ hq => aA_mono hS.1 hq) (fun _ h _ => h) rfl hl.1 rfl (Nat.le_of_ble_eq_true rfl) dX6_reads_8 ⟨Nat.zero_le _, Nat.zero_le _⟩ (fun H locs hP hS => ?_)
  refine lv_if_eq (x := r1) (tgt := 54) hx hb dX6_reads_11 (by decide) (fun q4 => ?_) (fun q4 => ?_)
  · replace h := if_t q4 h
    refine lv_iconst (v := 0) hx hb dX6_reads_54 (by decide) ?_
    rw [hQz]
    exact r_zret (v := 0) hx hb hr hlk hS ((Prod.mk.inj (Option.some.inj h)).2 ▸ hP) (Prod.mk.inj (Option.some.inj h)).1 (by decide) dX6_reads_55
  · replace h := if_f q4 h
    refine lv_aload_n hx hb dX6_reads_14 rfl (lv_at hl 0 rfl) ?_
    refine lv_bipush (v := 16) hx hb dX6_reads_15 (by decide) ?_
    refine lv_iconst (v := 4) hx hb dX6_reads_17 (by decide) ?_
    refine lv_bipush (v := 12) hx hb dX6_reads_18 (by decide) ?_
    obtain ⟨r5, M7, e6, h⟩ := bdI_ok h
    refine r_callVi (As := [.int 16, .int 4, .int 12]) (rest := []) (ws' := (wl 14 a (eN g a M7))) (ok_X6_number l g a hI 16 4 12 M3 M7 r5 e6) ⟨hx, hb, hml, hown, hts⟩ (cwV 3 hts gX6_reads_X6_number rfl rfl rfl (by decide +kernel) ⟨Nat.le_of_ble_eq_true rfl, Nat.le_of_ble_eq_true rfl⟩) hK (r_recv hK hP 0 (by decide) eN_0 (show vwCl[6]? = some (RX6, TX6, 20) from rfl)) hS hP (fun _ hq => aA_mono hS.1 hq) (fun _ h _ => h) rfl hl.1 rfl (Nat.le_of_ble_eq_true rfl) dX6_reads_20 ⟨Nat.zero_le _, Nat.zero_le _⟩ (fun H locs hP hS => ?_)
    refine lv_if_eq (x := r5) (tgt := 54) hx hb dX6_reads_23 (by decide) (fun q8 => ?_) (fun q8 => ?_)
    · replace h := if_t q8 h
      refine lv_iconst (v := 0) hx hb dX6_reads_54 (by decide) ?_
      rw [hQz]
      exact r_zret (v := 0) hx hb hr hlk hS ((Prod.mk.inj (Option.some.inj h)).2 ▸ hP) (Prod.mk.inj (Option.some.inj h)).1 (by decide) dX6_reads_55
    · replace h := if_f q8 h
      refine lv_aload_n hx hb dX6_reads_26 rfl (lv_at hl 0 rfl) ?_
      refine lv_bipush (v := 44) hx hb dX6_reads_27 (by decide) ?_
      obtain ⟨r9, M11, e10, h⟩ := bdI_ok h
      refine r_callVi (As := [.int 44]) (rest := []) (ws' := (wl 14 a (eN g a M11))) (ok_X6_sign l g a hI 44 M7 M11 r9 e10) ⟨hx, hb, hml, hown, hts⟩ (cwV 1 hts gX6_reads_X6_sign rfl rfl rfl (by decide +kernel) ⟨Nat.le_of_ble_eq_true rfl, Nat.le_of_ble_eq_true rfl⟩) hK (r_recv hK hP 0 (by decide) eN_0 (show vwCl[6]? = some (RX6, TX6, 20) from rfl)) hS hP (fun _ hq => aA_mono hS.1 hq) (fun _ h _ => h) rfl hl.1 rfl (Nat.le_of_ble_eq_true rfl) dX6_reads_29 ⟨Nat.zero_le _, Nat.zero_le _⟩ (fun H locs hP hS => ?_)
      refine lv_if_eq (x := r9) (tgt := 54) hx hb dX6_reads_32 (by decide) (fun q12 => ?_) (fun q12 => ?_)
      · replace h := if_t q12 h
        refine lv_iconst (v := 0) hx hb dX6_reads_54 (by decide) ?_
        rw [hQz]
        exact r_zret (v := 0) hx hb hr hlk hS ((Prod.mk.inj (Option.some.inj h)).2 ▸ hP) (Prod.mk.inj (Option.some.inj h)).1 (by decide) dX6_reads_55
      · replace h := if_f q12 h
        refine lv_aload_n hx hb dX6_reads_35 rfl (lv_at hl 0 rfl) ?_
        refine lv_iconst (v := 1) hx hb dX6_reads_36 (by decide) ?_
        refine lv_iconst (v := 0) hx hb dX6_reads_37 (by decide) ?_
        refine lv_iconst (v := 2) hx hb dX6_reads_38 (by decide) ?_
        obtain ⟨r13, M15, e14, h⟩ := bdI_ok h
        refine r_callVi (As := [.int 1, .int 0, .int 2]) (rest := []) (ws' := (wl 14 a (eN g a M15))) (ok_X6_number l g a hI 1 0 2 M11 M15 r13 e14) ⟨hx, hb, hml, hown, hts⟩ (cwV 3 hts gX6_reads_X6_number rfl rfl rfl (by decide +kernel) ⟨Nat.le_of_ble_eq_true rfl, Nat.le_of_ble_eq_true rfl⟩) hK (r_recv hK hP 0 (by decide) eN_0 (show vwCl[6]? = some (RX6, TX6, 20) from rfl)) hS hP (fun _ hq => aA_mono hS.1 hq) (fun _ h _ => h) rfl hl.1 rfl (Nat.le_of_ble_eq_true rfl) dX6_reads_39 ⟨Nat.zero_le _, Nat.zero_le _⟩ (fun H locs hP hS => ?_)
        refine lv_if_eq (x := r13) (tgt := 54) hx hb dX6_reads_42 (by decide) (fun q16 => ?_) (fun q16 => ?_)
        · replace h := if_t q16 h
          refine lv_iconst (v := 0) hx hb dX6_reads_54 (by decide) ?_
          rw [hQz]
          exact r_zret (v := 0) hx hb hr hlk hS ((Prod.mk.inj (Option.some.inj h)).2 ▸ hP) (Prod.mk.inj (Option.some.inj h)).1 (by decide) dX6_reads_55
        · replace h := if_f q16 h
          refine lv_aload_n hx hb dX6_reads_45 rfl (lv_at hl 0 rfl) ?_
          refine lv_bipush (v := 59) hx hb dX6_reads_46 (by decide) ?_
          obtain ⟨r17, M19, e18, h⟩ := bdI_ok h
          refine r_callVi (As := [.int 59]) (rest := []) (ws' := (wl 14 a (eN g a M19))) (ok_X6_sign l g a hI 59 M15 M19 r17 e18) ⟨hx, hb, hml, hown, hts⟩ (cwV 1 hts gX6_reads_X6_sign rfl rfl rfl (by decide +kernel) ⟨Nat.le_of_ble_eq_true rfl, Nat.le_of_ble_eq_true rfl⟩) hK (r_recv hK hP 0 (by decide) eN_0 (show vwCl[6]? = some (RX6, TX6, 20) from rfl)) hS hP (fun _ hq => aA_mono hS.1 hq) (fun _ h _ => h) rfl hl.1 rfl (Nat.le_of_ble_eq_true rfl) dX6_reads_48 ⟨Nat.zero_le _, Nat.zero_le _⟩ (fun H locs hP hS => ?_)
          refine lv_if_ne (x := r17) (tgt := 56) hx hb dX6_reads_51 (by decide) (fun q20 => ?_) (fun q20 => ?_)
          · replace h := if_f q20 h
            exact L56 FU M19 _ _ _ h hP hS (lv_sub hl [0] rfl)
          · replace h := if_t q20 h
            refine lv_iconst (v := 0) hx hb dX6_reads_54 (by decide) ?_
            rw [hQz]
            exact r_zret (v := 0) hx hb hr hlk hS ((Prod.mk.inj (Option.some.inj h)).2 ▸ hP) (Prod.mk.inj (Option.some.inj h)).1 (by decide) dX6_reads_55
def rmX6_stair : Room := { frames := 5, cells := 0, slots := 0, locals := 149 }
set_option maxHeartbeats 4000000 in
set_option maxRecDepth 100000 in
theorem ok_X6_stair (l : Launch) (g : gT) (a : Nat → Nat) (hI : ij 14 a) (M : Mem) (M' : Mem) (r : Int32) (h : fX6_stair M = some (r, M')) : MI l yX6_stair wsX6_stair rmX6_stair g 14 a [.ref (a 0)] (wl 14 a (eN g a M)) (wl 14 a (eN g a M')) r := by
  refine MI_of (cc := cX6_stair) (maxL := 3) (rt := .int) (by decide) rfl (Nat.le_of_ble_eq_true rfl) ?_
  intro p e s m args below meth c ls hx hb hml hr hlk hts hown hK hP hl
  have hown : s.vm.findClass RX6 = some m.cls := hown
  have hl : lv_has ls 3 [(0, .ref (a 0))] := hl
  have hS : va_S (aA 14 a s.heap.size) s.heap s.heap [] := va_S.rf
  have iX6 : ∀ w ∈ wsX60, w ∈ wsX6_stair := fun w h => List.mem_cons_of_mem _ (List.mem_append_right _ h)
  have w115 := hts (.fieldLink RX6 115 "StepRidersModel" "known" "I") (by decide +kernel)
  have w25 := hts (.fieldLink RX6 25 "StepRidersModel" "s" "[I") (by decide +kernel)
  have w28 := hts (.fieldLink RX6 28 "StepRidersModel" "draft" "[I") (by decide +kernel)
  have w79 := hts (.fieldLink RX6 79 "StepRidersModel" "typed" "I") (by decide +kernel)
  have w83 := hts (.fieldLink RX6 83 "StepRidersModel" "wrong" "I") (by decide +kernel)
  have w111 := hts (.fieldLink RX6 111 "StepRidersModel" "fault" "I") (by decide +kernel)
  have w114 := hts (.constant RX6 114 (-1000100)) (by decide +kernel)
  have w86 := hts (.fieldLink RX6 86 "StepRidersModel" "at" "I") (by decide +kernel)
  obtain ⟨Qz, hQz⟩ : ∃ Qz : State → Prop, Qz = MQ below (qI g (wl 14 a (eN g a M')) r (aA 14 a s.heap.size)) args s 0 0 (aA 14 a s.heap.size) := ⟨_, rfl⟩
  rw [← hQz]
  have B77 : ∀ (M : Mem) (H : Heap) (locs : List Loc) (ls : Array Slot), fX6_stair_b77 M = some (r, M') → va_P g.1 vwCl (wl 14 a (eN g a M)) H → va_S (aA 14 a s.heap.size) s.heap H locs → lv_has ls 3 [(0, .ref (a 0))] → W p l e rmX6_stair s m args below meth c H locs 0 0 Qz (F0 m 77 ls []) := by
    intro M H locs ls h hP hS hl
    unfold fX6_stair_b77 at h
    refine lv_aload_n hx hb dX6_stair_77 rfl (lv_at hl 0 rfl) ?_
    refine lv_iconst (v := 0) hx hb dX6_stair_78 (by decide) ?_
    refine r_put (v := .int 0) (ty := .int) (f' := eN g a (mp M 0 13 0)) hx hb hts iX6 tyX6 tyX6_ok nmX6 hown hK hI (fun _ h => aA_in h) hP hS 0 (by decide) eN_0 rfl 13 (by decide) w115 rfl (by decide +kernel) rfl rfl (Nat.le_of_ble_eq_true rfl) eN_p13 dX6_stair_79 (fun H locs hP hS => ?_)
    refine lv_aload_n hx hb dX6_stair_82 rfl (lv_at hl 0 rfl) ?_
    refine r_get (v := .ref (a 6)) hx hb hts iX6 hown hK hP 0 (by decide) eN_0 rfl 8 (by decide) w25 rfl dX6_stair_83 ?_
    refine lv_bipush (v := 17) hx hb dX6_stair_86 (by decide) ?_
    obtain ⟨q1, h⟩ := chk_ok h
    refine r_iald (i := 17) (h := (mp M 0 13 0) 6) hx hb hK hP 6 (by decide) rfl q1 dX6_stair_88 ?_
    rw [hQz]
    exact r_iret (v := ((mp M 0 13 0) 6 (Int32.toNatClampNeg 17))) hx hb hr hlk hS ((Prod.mk.inj (Option.some.inj h)).2 ▸ hP) (Prod.mk.inj (Option.some.inj h)).1 dX6_stair_89
  have B53 : ∀ (k53 : Int32 → Mem → Option (Int32 × Mem)) (C53 : ∀ (x2 : Int32) (M : Mem) (H : Heap) (locs : List Loc) (ls : Array Slot), k53 x2 M = some (r, M') → va_P g.1 vwCl (wl 14 a (eN g a M)) H → va_S (aA 14 a s.heap.size) s.heap H locs → lv_has ls 3 [(0, .ref (a 0)), (2, .int x2)] → W p l e rmX6_stair s m args below meth c H locs 0 0 Qz (F0 m 53 ls [])), ∀ (x2 : Int32) (M : Mem) (H : Heap) (locs : List Loc) (ls : Array Slot), fX6_stair_b53 k53 x2 M = some (r, M') → va_P g.1 vwCl (wl 14 a (eN g a M)) H → va_S (aA 14 a s.heap.size) s.heap H locs → lv_has ls 3 [(0, .ref (a 0)), (2, .int x2)] → W p l e rmX6_stair s m args below meth c H locs 0 0 Qz (F0 m 53 ls []) := by
    intro k53 C53 x2 M H locs ls h hP hS hl
    unfold fX6_stair_b53 at h
    refine lv_iload_n hx hb dX6_stair_53 rfl (lv_at hl 1 rfl) ?_
    refine lv_bipush (v := 25) hx hb dX6_stair_54 (by decide) ?_
    refine lv_icmp_ge (x := x2) (y := 25) (tgt := 77) hx hb dX6_stair_56 (by decide) (fun q1 => ?_) (fun q1 => ?_)
    · replace h := if_t q1 h
      exact B77 M _ _ _ h hP hS (lv_sub hl [0] rfl)
    · replace h := if_f q1 h
      refine lv_aload_n hx hb dX6_stair_59 rfl (lv_at hl 0 rfl) ?_
      refine r_get (v := .ref (a 6)) hx hb hts iX6 hown hK hP 0 (by decide) eN_0 rfl 8 (by decide) w25 rfl dX6_stair_60 ?_
      refine lv_iload_n hx hb dX6_stair_63 rfl (lv_at hl 1 rfl) ?_
      refine lv_aload_n hx hb dX6_stair_64 rfl (lv_at hl 0 rfl) ?_
      refine r_get (v := .ref (a 7)) hx hb hts iX6 hown hK hP 0 (by decide) eN_0 rfl 9 (by decide) w28 rfl dX6_stair_65 ?_
      refine lv_iload_n hx hb dX6_stair_68 rfl (lv_at hl 1 rfl) ?_
      obtain ⟨q2, h⟩ := chk_ok h
      refine r_iald (i := x2) (h := M 7) hx hb hK hP 7 (by decide) rfl q2 dX6_stair_69 ?_
      obtain ⟨q3, h⟩ := chk_ok h
      refine r_iast (i := x2) (x := (M 7 (Int32.toNatClampNeg x2))) (h := M 6) (f' := eN g a (mp M 6 (Int32.toNatClampNeg x2) (M 7 (Int32.toNatClampNeg x2)))) hx hb hK hI (fun _ h => aA_in h) hP hS 6 (by decide) rfl q3 (eN_ua (fun _ => rfl)) dX6_stair_70 (fun H locs hP hS => ?_)
      refine lv_iinc (v := (x2 + 1)) (lv' := [(2, .int (x2 + 1)), (0, .ref (a 0))]) hx hb dX6_stair_71 hl (k := 1) rfl rfl (by decide) rfl (fun ls hl => ?_)
      refine lv_goto (tgt := 53) hx hb dX6_stair_74 (by decide) ?_
      exact C53 (x2 + 1) (mp M 6 (Int32.toNatClampNeg x2) (M 7 (Int32.toNatClampNeg x2))) _ _ _ h hP hS (lv_sub hl [1, 0] rfl)
  have L53 : ∀ (n : Nat), ∀ (x2 : Int32) (M : Mem) (H : Heap) (locs : List Loc) (ls : Array Slot), fX6_stair_l53 n x2 M = some (r, M') → va_P g.1 vwCl (wl 14 a (eN g a M)) H → va_S (aA 14 a s.heap.size) s.heap H locs → lv_has ls 3 [(0, .ref (a 0)), (2, .int x2)] → W p l e rmX6_stair s m args below meth c H locs 0 0 Qz (F0 m 53 ls []) := by
    intro n
    induction n with
    | zero => intro x2 M H locs ls h; exact absurd (show (none : Option (Int32 × Mem)) = some _ from h) (fun z => by cases z)
    | succ n ih => exact fun x2 M H locs ls h hP hS hl => B53 (fX6_stair_l53 n) ih x2 M H locs ls h hP hS hl
  have B21 : ∀ (M : Mem) (H : Heap) (locs : List Loc) (ls : Array Slot), fX6_stair_b21 M = some (r, M') → va_P g.1 vwCl (wl 14 a (eN g a M)) H → va_S (aA 14 a s.heap.size) s.heap H locs → lv_has ls 3 [(0, .ref (a 0))] → W p l e rmX6_stair s m args below meth c H locs 0 0 Qz (F0 m 21 ls []) := by
    intro M H locs ls h hP hS hl
    unfold fX6_stair_b21 at h
    refine lv_aload_n hx hb dX6_stair_21 rfl (lv_at hl 0 rfl) ?_
    obtain ⟨r1, M3, e2, h⟩ := bdI_ok h
    refine r_callVi (As := []) (rest := []) (ws' := (wl 14 a (eN g a M3))) (ok_X6_reads l g a hI M M3 r1 e2) ⟨hx, hb, hml, hown, hts⟩ (cwV 0 hts gX6_stair_X6_reads rfl rfl rfl (by decide +kernel) ⟨Nat.le_of_ble_eq_true rfl, Nat.le_of_ble_eq_true rfl⟩) hK (r_recv hK hP 0 (by decide) eN_0 (show vwCl[6]? = some (RX6, TX6, 20) from rfl)) hS hP (fun _ hq => aA_mono hS.1 hq) (fun _ h _ => h) rfl hl.1 rfl (Nat.le_of_ble_eq_true rfl) dX6_stair_22 ⟨Nat.zero_le _, Nat.zero_le _⟩ (fun H locs hP hS => ?_)
    refine lv_istore_n (lv' := [(1, .int r1), (0, .ref (a 0))]) hx hb dX6_stair_25 rfl hl (by decide) rfl (fun ls hl => ?_)
    refine lv_aload_n hx hb dX6_stair_26 rfl (lv_at hl 1 rfl) ?_
    refine lv_iconst (v := 0) hx hb dX6_stair_27 (by decide) ?_
    refine r_put (v := .int 0) (ty := .int) (f' := eN g a (mp M3 0 6 0)) hx hb hts iX6 tyX6 tyX6_ok nmX6 hown hK hI (fun _ h => aA_in h) hP hS 0 (by decide) eN_0 rfl 6 (by decide) w79 rfl (by decide +kernel) rfl rfl (Nat.le_of_ble_eq_true rfl) eN_p6 dX6_stair_28 (fun H locs hP hS => ?_)
    refine lv_iload_n hx hb dX6_stair_31 rfl (lv_at hl 0 rfl) ?_
    refine lv_if_ne (x := r1) (tgt := 51) hx hb dX6_stair_32 (by decide) (fun q4 => ?_) (fun q4 => ?_)
    · replace h := if_f q4 h
      refine lv_iconst (v := 0) hx hb dX6_stair_51 (by decide) ?_
      refine lv_istore_n (lv' := [(2, .int 0), (1, .int r1), (0, .ref (a 0))]) hx hb dX6_stair_52 rfl hl (by decide) rfl (fun ls hl => ?_)
      exact L53 FU 0 (mp M3 0 6 0) _ _ _ h hP hS (lv_sub hl [2, 0] rfl)
    · replace h := if_t q4 h
      refine lv_aload_n hx hb dX6_stair_35 rfl (lv_at hl 1 rfl) ?_
      refine lv_aload_n hx hb dX6_stair_36 rfl (lv_at hl 1 rfl) ?_
      refine r_get (v := .int ((mp M3 0 6 0) 0 19)) hx hb hts iX6 hown hK hP 0 (by decide) eN_0 rfl 19 (by decide) w83 rfl dX6_stair_37 ?_
      refine r_put (v := .int ((mp M3 0 6 0) 0 19)) (ty := .int) (f' := eN g a (mp (mp M3 0 6 0) 0 7 ((mp M3 0 6 0) 0 19))) hx hb hts iX6 tyX6 tyX6_ok nmX6 hown hK hI (fun _ h => aA_in h) hP hS 0 (by decide) eN_0 rfl 7 (by decide) w111 rfl (by decide +kernel) rfl rfl (Nat.le_of_ble_eq_true rfl) eN_p7 dX6_stair_40 (fun H locs hP hS => ?_)
      refine lv_ldc (v := (-1000100)) hx hb hown w114 dX6_stair_43 ?_
      refine lv_aload_n hx hb dX6_stair_45 rfl (lv_at hl 1 rfl) ?_
      refine r_get (v := .int ((mp (mp M3 0 6 0) 0 7 ((mp M3 0 6 0) 0 19)) 0 18)) hx hb hts iX6 hown hK hP 0 (by decide) eN_0 rfl 18 (by decide) w86 rfl dX6_stair_46 ?_
      refine lv_isub (x := (-1000100)) (y := ((mp (mp M3 0 6 0) 0 7 ((mp M3 0 6 0) 0 19)) 0 18)) hx hb dX6_stair_49 ?_
      rw [hQz]
      exact r_iret (v := ((-1000100) - ((mp (mp M3 0 6 0) 0 7 ((mp M3 0 6 0) 0 19)) 0 18))) hx hb hr hlk hS ((Prod.mk.inj (Option.some.inj h)).2 ▸ hP) (Prod.mk.inj (Option.some.inj h)).1 dX6_stair_50
  have B2 : ∀ (k2 : Int32 → Mem → Option (Int32 × Mem)) (C2 : ∀ (x1 : Int32) (M : Mem) (H : Heap) (locs : List Loc) (ls : Array Slot), k2 x1 M = some (r, M') → va_P g.1 vwCl (wl 14 a (eN g a M)) H → va_S (aA 14 a s.heap.size) s.heap H locs → lv_has ls 3 [(0, .ref (a 0)), (1, .int x1)] → W p l e rmX6_stair s m args below meth c H locs 0 0 Qz (F0 m 2 ls [])), ∀ (x1 : Int32) (M : Mem) (H : Heap) (locs : List Loc) (ls : Array Slot), fX6_stair_b2 k2 x1 M = some (r, M') → va_P g.1 vwCl (wl 14 a (eN g a M)) H → va_S (aA 14 a s.heap.size) s.heap H locs → lv_has ls 3 [(0, .ref (a 0)), (1, .int x1)] → W p l e rmX6_stair s m args below meth c H locs 0 0 Qz (F0 m 2 ls []) := by
    intro k2 C2 x1 M H locs ls h hP hS hl
    unfold fX6_stair_b2 at h
    refine lv_iload_n hx hb dX6_stair_2 rfl (lv_at hl 1 rfl) ?_
    refine lv_bipush (v := 25) hx hb dX6_stair_3 (by decide) ?_
    refine lv_icmp_ge (x := x1) (y := 25) (tgt := 21) hx hb dX6_stair_5 (by decide) (fun q1 => ?_) (fun q1 => ?_)
    · replace h := if_t q1 h
      exact B21 M _ _ _ h hP hS (lv_sub hl [0] rfl)
    · replace h := if_f q1 h
      refine lv_aload_n hx hb dX6_stair_8 rfl (lv_at hl 0 rfl) ?_
      refine r_get (v := .ref (a 7)) hx hb hts iX6 hown hK hP 0 (by decide) eN_0 rfl 9 (by decide) w28 rfl dX6_stair_9 ?_
      refine lv_iload_n hx hb dX6_stair_12 rfl (lv_at hl 1 rfl) ?_
      refine lv_iconst (v := 0) hx hb dX6_stair_13 (by decide) ?_
      obtain ⟨q2, h⟩ := chk_ok h
      refine r_iast (i := x1) (x := 0) (h := M 7) (f' := eN g a (mp M 7 (Int32.toNatClampNeg x1) 0)) hx hb hK hI (fun _ h => aA_in h) hP hS 7 (by decide) rfl q2 (eN_ua (fun _ => rfl)) dX6_stair_14 (fun H locs hP hS => ?_)
      refine lv_iinc (v := (x1 + 1)) (lv' := [(1, .int (x1 + 1)), (0, .ref (a 0))]) hx hb dX6_stair_15 hl (k := 1) rfl rfl (by decide) rfl (fun ls hl => ?_)
      refine lv_goto (tgt := 2) hx hb dX6_stair_18 (by decide) ?_
      exact C2 (x1 + 1) (mp M 7 (Int32.toNatClampNeg x1) 0) _ _ _ h hP hS (lv_sub hl [1, 0] rfl)
  have L2 : ∀ (n : Nat), ∀ (x1 : Int32) (M : Mem) (H : Heap) (locs : List Loc) (ls : Array Slot), fX6_stair_l2 n x1 M = some (r, M') → va_P g.1 vwCl (wl 14 a (eN g a M)) H → va_S (aA 14 a s.heap.size) s.heap H locs → lv_has ls 3 [(0, .ref (a 0)), (1, .int x1)] → W p l e rmX6_stair s m args below meth c H locs 0 0 Qz (F0 m 2 ls []) := by
    intro n
    induction n with
    | zero => intro x1 M H locs ls h; exact absurd (show (none : Option (Int32 × Mem)) = some _ from h) (fun z => by cases z)
    | succ n ih => exact fun x1 M H locs ls h hP hS hl => B2 (fX6_stair_l2 n) ih x1 M H locs ls h hP hS hl
  unfold fX6_stair at h
  refine lv_iconst (v := 0) hx hb dX6_stair_0 (by decide) ?_
  refine lv_istore_n (lv' := [(1, .int 0), (0, .ref (a 0))]) hx hb dX6_stair_1 rfl hl (by decide) rfl (fun ls hl => ?_)
  exact L2 FU 0 M _ _ _ h hP hS (lv_sub hl [1, 0] rfl)
def rmX6_fault : Room := { frames := 1, cells := 0, slots := 0, locals := 60 }
set_option maxHeartbeats 4000000 in
set_option maxRecDepth 100000 in
theorem ok_X6_fault (l : Launch) (g : gT) (a : Nat → Nat) (hI : ij 14 a) (M : Mem) (r : Int32) (h : fX6_fault M = some r) : MI l yX6_fault wsX6_fault rmX6_fault g 14 a [.ref (a 0)] (wl 14 a (eN g a M)) (wl 14 a (eN g a M)) r := by
  refine MI_of (cc := cX6_fault) (maxL := 1) (rt := .int) (by decide) rfl (Nat.le_of_ble_eq_true rfl) ?_
  intro p e s m args below meth c ls hx hb hml hr hlk hts hown hK hP hl
  have hown : s.vm.findClass RX6 = some m.cls := hown
  have hl : lv_has ls 1 [(0, .ref (a 0))] := hl
  have hS : va_S (aA 14 a s.heap.size) s.heap s.heap [] := va_S.rf
  have iX6 : ∀ w ∈ wsX60, w ∈ wsX6_fault := fun w h => List.mem_cons_of_mem _ (List.mem_append_right _ h)
  have w111 := hts (.fieldLink RX6 111 "StepRidersModel" "fault" "I") (by decide +kernel)
  obtain ⟨Qz, hQz⟩ : ∃ Qz : State → Prop, Qz = MQ below (qI g (wl 14 a (eN g a M)) r (aA 14 a s.heap.size)) args s 0 0 (aA 14 a s.heap.size) := ⟨_, rfl⟩
  rw [← hQz]
  unfold fX6_fault at h
  refine lv_aload_n hx hb dX6_fault_0 rfl (lv_at hl 0 rfl) ?_
  refine r_get (v := .int (M 0 7)) hx hb hts iX6 hown hK hP 0 (by decide) eN_0 rfl 7 (by decide) w111 rfl dX6_fault_1 ?_
  rw [hQz]
  exact r_iret (v := (M 0 7)) hx hb hr hlk hS hP (Option.some.inj h) dX6_fault_4
def rmX6_isStair : Room := { frames := 1, cells := 0, slots := 0, locals := 60 }
set_option maxHeartbeats 4000000 in
set_option maxRecDepth 100000 in
theorem ok_X6_isStair (l : Launch) (g : gT) (a : Nat → Nat) (hI : ij 14 a) (M : Mem) (r : Int32) (h : fX6_isStair M = some r) : MI l yX6_isStair wsX6_isStair rmX6_isStair g 14 a [.ref (a 0)] (wl 14 a (eN g a M)) (wl 14 a (eN g a M)) r := by
  refine MI_of (cc := cX6_isStair) (maxL := 1) (rt := .boolean) (by decide) rfl (Nat.le_of_ble_eq_true rfl) ?_
  intro p e s m args below meth c ls hx hb hml hr hlk hts hown hK hP hl
  have hown : s.vm.findClass RX6 = some m.cls := hown
  have hl : lv_has ls 1 [(0, .ref (a 0))] := hl
  have hS : va_S (aA 14 a s.heap.size) s.heap s.heap [] := va_S.rf
  have iX6 : ∀ w ∈ wsX60, w ∈ wsX6_isStair := fun w h => List.mem_cons_of_mem _ (List.mem_append_right _ h)
  have w25 := hts (.fieldLink RX6 25 "StepRidersModel" "s" "[I") (by decide +kernel)
  obtain ⟨Qz, hQz⟩ : ∃ Qz : State → Prop, Qz = MQ below (qI g (wl 14 a (eN g a M)) r (aA 14 a s.heap.size)) args s 0 0 (aA 14 a s.heap.size) := ⟨_, rfl⟩
  rw [← hQz]
  unfold fX6_isStair at h
  refine lv_aload_n hx hb dX6_isStair_0 rfl (lv_at hl 0 rfl) ?_
  refine r_get (v := .ref (a 6)) hx hb hts iX6 hown hK hP 0 (by decide) eN_0 rfl 8 (by decide) w25 rfl dX6_isStair_1 ?_
  refine lv_bipush (v := 17) hx hb dX6_isStair_4 (by decide) ?_
  obtain ⟨q1, h⟩ := chk_ok h
  refine r_iald (i := 17) (h := M 6) hx hb hK hP 6 (by decide) rfl q1 dX6_isStair_6 ?_
  refine lv_if_le (x := (M 6 (Int32.toNatClampNeg 17))) (tgt := 14) hx hb dX6_isStair_7 (by decide) (fun q2 => ?_) (fun q2 => ?_)
  · replace h := if_t q2 h
    refine lv_iconst (v := 0) hx hb dX6_isStair_14 (by decide) ?_
    rw [hQz]
    exact r_zret (v := 0) hx hb hr hlk hS hP (Option.some.inj h) (by decide) dX6_isStair_15
  · replace h := if_f q2 h
    refine lv_iconst (v := 1) hx hb dX6_isStair_10 (by decide) ?_
    refine lv_goto (tgt := 15) hx hb dX6_isStair_11 (by decide) ?_
    rw [hQz]
    exact r_zret (v := 1) hx hb hr hlk hS hP (Option.some.inj h) (by decide) dX6_isStair_15
def rmX6_isRider : Room := { frames := 2, cells := 0, slots := 0, locals := 82 }
set_option maxHeartbeats 4000000 in
set_option maxRecDepth 100000 in
theorem ok_X6_isRider (l : Launch) (g : gT) (a : Nat → Nat) (hI : ij 14 a) (p1 : Int32) (M : Mem) (r : Int32) (h : fX6_isRider p1 M = some r) : MI l yX6_isRider wsX6_isRider rmX6_isRider g 14 a [.ref (a 0), .int p1] (wl 14 a (eN g a M)) (wl 14 a (eN g a M)) r := by
  refine MI_of (cc := cX6_isRider) (maxL := 2) (rt := .boolean) (by decide) rfl (Nat.le_of_ble_eq_true rfl) ?_
  intro p e s m args below meth c ls hx hb hml hr hlk hts hown hK hP hl
  have hown : s.vm.findClass RX6 = some m.cls := hown
  have hl : lv_has ls 2 [(0, .ref (a 0)), (1, .int p1)] := hl
  have hS : va_S (aA 14 a s.heap.size) s.heap s.heap [] := va_S.rf
  have iX6 : ∀ w ∈ wsX60, w ∈ wsX6_isRider := fun w h => List.mem_cons_of_mem _ (List.mem_append_right _ h)
  have w25 := hts (.fieldLink RX6 25 "StepRidersModel" "s" "[I") (by decide +kernel)
  obtain ⟨Qz, hQz⟩ : ∃ Qz : State → Prop, Qz = MQ below (qI g (wl 14 a (eN g a M)) r (aA 14 a s.heap.size)) args s 0 0 (aA 14 a s.heap.size) := ⟨_, rfl⟩
  rw [← hQz]
  unfold fX6_isRider at h
  refine lv_iload_n hx hb dX6_isRider_0 rfl (lv_at hl 1 rfl) ?_
  refine lv_iconst (v := 0) hx hb dX6_isRider_1 (by decide) ?_
  refine lv_aload_n hx hb dX6_isRider_2 rfl (lv_at hl 0 rfl) ?_
  refine r_get (v := .ref (a 6)) hx hb hts iX6 hown hK hP 0 (by decide) eN_0 rfl 8 (by decide) w25 rfl dX6_isRider_3 ?_
  refine lv_bipush (v := 17) hx hb dX6_isRider_6 (by decide) ?_
  obtain ⟨q1, h⟩ := chk_ok h
  refine r_iald (i := 17) (h := M 6) hx hb hK hP 6 (by decide) rfl q1 dX6_isRider_8 ?_
  refine lv_iconst (v := 1) hx hb dX6_isRider_9 (by decide) ?_
  refine lv_isub (x := (M 6 (Int32.toNatClampNeg 17))) (y := 1) hx hb dX6_isRider_10 ?_
  obtain ⟨r2, e3, h⟩ := bdP_ok h
  refine r_callSi (As := [.int p1, .int 0, .int ((M 6 (Int32.toNatClampNeg 17)) - 1)]) (rest := []) (ws' := (wl 14 a (eN g a M))) (ok_X6_in l g p1 0 ((M 6 (Int32.toNatClampNeg 17)) - 1) r2 e3) ⟨hx, hb, hml, hown, hts⟩ (cwS 3 hts gX6_isRider_X6_in rfl rfl rfl (by decide +kernel) ⟨Nat.le_of_ble_eq_true rfl, Nat.le_of_ble_eq_true rfl⟩) hK hS nilP (P_A hS.1) (fun _ _ hk => wl_keep hP hk) rfl hl.1 rfl (Nat.le_of_ble_eq_true rfl) dX6_isRider_11 ⟨Nat.zero_le _, Nat.zero_le _⟩ (fun H locs hP hS => ?_)
  obtain ⟨q4, h⟩ := chk_ok h
  rw [hQz]
  exact r_zret (v := r2) hx hb hr hlk hS hP (Option.some.inj h) q4 dX6_isRider_14
def rmX6_keeps : Room := { frames := 1, cells := 0, slots := 0, locals := 60 }
set_option maxHeartbeats 4000000 in
set_option maxRecDepth 100000 in
theorem ok_X6_keeps (l : Launch) (g : gT) (a : Nat → Nat) (hI : ij 14 a) (M : Mem) (M' : Mem) (h : fX6_keeps M = some M') : MV l yX6_keeps wsX6_keeps rmX6_keeps g 14 a [.ref (a 0)] (wl 14 a (eN g a M)) (wl 14 a (eN g a M')) := by
  refine MV_of (cc := cX6_keeps) (maxL := 2) (by decide) rfl (Nat.le_of_ble_eq_true rfl) ?_
  intro p e s m args below meth c ls hx hb hml hr hlk hts hown hK hP hl
  have hown : s.vm.findClass RX6 = some m.cls := hown
  have hl : lv_has ls 2 [(0, .ref (a 0))] := hl
  have hS : va_S (aA 14 a s.heap.size) s.heap s.heap [] := va_S.rf
  have iX6 : ∀ w ∈ wsX60, w ∈ wsX6_keeps := fun w h => List.mem_cons_of_mem _ (List.mem_append_right _ h)
  have w115 := hts (.fieldLink RX6 115 "StepRidersModel" "known" "I") (by decide +kernel)
  have w38 := hts (.fieldLink RX6 38 "StepRidersModel" "past" "[I") (by decide +kernel)
  have w25 := hts (.fieldLink RX6 25 "StepRidersModel" "s" "[I") (by decide +kernel)
  obtain ⟨Qz, hQz⟩ : ∃ Qz : State → Prop, Qz = MQ below (qV g (wl 14 a (eN g a M')) (aA 14 a s.heap.size)) args s 0 0 (aA 14 a s.heap.size) := ⟨_, rfl⟩
  rw [← hQz]
  have B51 : ∀ (k51 : Int32 → Mem → Option (Mem)) (C51 : ∀ (x1 : Int32) (M : Mem) (H : Heap) (locs : List Loc) (ls : Array Slot), k51 x1 M = some M' → va_P g.1 vwCl (wl 14 a (eN g a M)) H → va_S (aA 14 a s.heap.size) s.heap H locs → lv_has ls 2 [(0, .ref (a 0)), (1, .int x1)] → W p l e rmX6_keeps s m args below meth c H locs 0 0 Qz (F0 m 51 ls [])), ∀ (x1 : Int32) (M : Mem) (H : Heap) (locs : List Loc) (ls : Array Slot), fX6_keeps_b51 k51 x1 M = some M' → va_P g.1 vwCl (wl 14 a (eN g a M)) H → va_S (aA 14 a s.heap.size) s.heap H locs → lv_has ls 2 [(0, .ref (a 0)), (1, .int x1)] → W p l e rmX6_keeps s m args below meth c H locs 0 0 Qz (F0 m 51 ls []) := by
    intro k51 C51 x1 M H locs ls h hP hS hl
    unfold fX6_keeps_b51 at h
    refine lv_iload_n hx hb dX6_keeps_51 rfl (lv_at hl 1 rfl) ?_
    refine lv_bipush (v := 16) hx hb dX6_keeps_52 (by decide) ?_
    refine lv_icmp_ge (x := x1) (y := 16) (tgt := 83) hx hb dX6_keeps_54 (by decide) (fun q1 => ?_) (fun q1 => ?_)
    · replace h := if_t q1 h
      refine lv_aload_n hx hb dX6_keeps_83 rfl (lv_at hl 0 rfl) ?_
      refine lv_dup hx hb dX6_keeps_84 rfl ?_
      refine r_get (v := .int (M 0 13)) hx hb hts iX6 hown hK hP 0 (by decide) eN_0 rfl 13 (by decide) w115 rfl dX6_keeps_85 ?_
      refine lv_iconst (v := 1) hx hb dX6_keeps_88 (by decide) ?_
      refine lv_iadd (x := (M 0 13)) (y := 1) hx hb dX6_keeps_89 ?_
      refine r_put (v := .int ((M 0 13) + 1)) (ty := .int) (f' := eN g a (mp M 0 13 ((M 0 13) + 1))) hx hb hts iX6 tyX6 tyX6_ok nmX6 hown hK hI (fun _ h => aA_in h) hP hS 0 (by decide) eN_0 rfl 13 (by decide) w115 rfl (by decide +kernel) rfl rfl (Nat.le_of_ble_eq_true rfl) eN_p13 dX6_keeps_90 (fun H locs hP hS => ?_)
      rw [hQz]
      exact r_vret hx hb hr hlk hS (Option.some.inj h ▸ hP) dX6_keeps_93
    · replace h := if_f q1 h
      refine lv_aload_n hx hb dX6_keeps_57 rfl (lv_at hl 0 rfl) ?_
      refine r_get (v := .ref (a 10)) hx hb hts iX6 hown hK hP 0 (by decide) eN_0 rfl 12 (by decide) w38 rfl dX6_keeps_58 ?_
      refine lv_bipush (v := 16) hx hb dX6_keeps_61 (by decide) ?_
      refine lv_aload_n hx hb dX6_keeps_63 rfl (lv_at hl 0 rfl) ?_
      refine r_get (v := .int (M 0 13)) hx hb hts iX6 hown hK hP 0 (by decide) eN_0 rfl 13 (by decide) w115 rfl dX6_keeps_64 ?_
      refine lv_imul (x := 16) (y := (M 0 13)) hx hb dX6_keeps_67 ?_
      refine lv_iload_n hx hb dX6_keeps_68 rfl (lv_at hl 1 rfl) ?_
      refine lv_iadd (x := (16 * (M 0 13))) (y := x1) hx hb dX6_keeps_69 ?_
      refine lv_aload_n hx hb dX6_keeps_70 rfl (lv_at hl 0 rfl) ?_
      refine r_get (v := .ref (a 6)) hx hb hts iX6 hown hK hP 0 (by decide) eN_0 rfl 8 (by decide) w25 rfl dX6_keeps_71 ?_
      refine lv_iload_n hx hb dX6_keeps_74 rfl (lv_at hl 1 rfl) ?_
      obtain ⟨q2, h⟩ := chk_ok h
      refine r_iald (i := x1) (h := M 6) hx hb hK hP 6 (by decide) rfl q2 dX6_keeps_75 ?_
      obtain ⟨q3, h⟩ := chk_ok h
      refine r_iast (i := ((16 * (M 0 13)) + x1)) (x := (M 6 (Int32.toNatClampNeg x1))) (h := M 10) (f' := eN g a (mp M 10 (Int32.toNatClampNeg ((16 * (M 0 13)) + x1)) (M 6 (Int32.toNatClampNeg x1)))) hx hb hK hI (fun _ h => aA_in h) hP hS 10 (by decide) rfl q3 (eN_ua (fun _ => rfl)) dX6_keeps_76 (fun H locs hP hS => ?_)
      refine lv_iinc (v := (x1 + 1)) (lv' := [(1, .int (x1 + 1)), (0, .ref (a 0))]) hx hb dX6_keeps_77 hl (k := 1) rfl rfl (by decide) rfl (fun ls hl => ?_)
      refine lv_goto (tgt := 51) hx hb dX6_keeps_80 (by decide) ?_
      exact C51 (x1 + 1) (mp M 10 (Int32.toNatClampNeg ((16 * (M 0 13)) + x1)) (M 6 (Int32.toNatClampNeg x1))) _ _ _ h hP hS (lv_sub hl [1, 0] rfl)
  have L51 : ∀ (n : Nat), ∀ (x1 : Int32) (M : Mem) (H : Heap) (locs : List Loc) (ls : Array Slot), fX6_keeps_l51 n x1 M = some M' → va_P g.1 vwCl (wl 14 a (eN g a M)) H → va_S (aA 14 a s.heap.size) s.heap H locs → lv_has ls 2 [(0, .ref (a 0)), (1, .int x1)] → W p l e rmX6_keeps s m args below meth c H locs 0 0 Qz (F0 m 51 ls []) := by
    intro n
    induction n with
    | zero => intro x1 M H locs ls h; exact absurd (show (none : Option (Mem)) = some _ from h) (fun z => by cases z)
    | succ n ih => exact fun x1 M H locs ls h hP hS hl => B51 (fX6_keeps_l51 n) ih x1 M H locs ls h hP hS hl
  have B49 : ∀ (M : Mem) (H : Heap) (locs : List Loc) (ls : Array Slot), fX6_keeps_b49 M = some M' → va_P g.1 vwCl (wl 14 a (eN g a M)) H → va_S (aA 14 a s.heap.size) s.heap H locs → lv_has ls 2 [(0, .ref (a 0))] → W p l e rmX6_keeps s m args below meth c H locs 0 0 Qz (F0 m 49 ls []) := by
    intro M H locs ls h hP hS hl
    unfold fX6_keeps_b49 at h
    refine lv_iconst (v := 0) hx hb dX6_keeps_49 (by decide) ?_
    refine lv_istore_n (lv' := [(1, .int 0), (0, .ref (a 0))]) hx hb dX6_keeps_50 rfl hl (by decide) rfl (fun ls hl => ?_)
    exact L51 FU 0 M _ _ _ h hP hS (lv_sub hl [1, 0] rfl)
  have B39 : ∀ (M : Mem) (H : Heap) (locs : List Loc) (ls : Array Slot), fX6_keeps_b39 M = some M' → va_P g.1 vwCl (wl 14 a (eN g a M)) H → va_S (aA 14 a s.heap.size) s.heap H locs → lv_has ls 2 [(0, .ref (a 0))] → W p l e rmX6_keeps s m args below meth c H locs 0 0 Qz (F0 m 39 ls []) := by
    intro M H locs ls h hP hS hl
    unfold fX6_keeps_b39 at h
    refine lv_aload_n hx hb dX6_keeps_39 rfl (lv_at hl 0 rfl) ?_
    refine lv_dup hx hb dX6_keeps_40 rfl ?_
    refine r_get (v := .int (M 0 13)) hx hb hts iX6 hown hK hP 0 (by decide) eN_0 rfl 13 (by decide) w115 rfl dX6_keeps_41 ?_
    refine lv_iconst (v := 1) hx hb dX6_keeps_44 (by decide) ?_
    refine lv_isub (x := (M 0 13)) (y := 1) hx hb dX6_keeps_45 ?_
    refine r_put (v := .int ((M 0 13) - 1)) (ty := .int) (f' := eN g a (mp M 0 13 ((M 0 13) - 1))) hx hb hts iX6 tyX6 tyX6_ok nmX6 hown hK hI (fun _ h => aA_in h) hP hS 0 (by decide) eN_0 rfl 13 (by decide) w115 rfl (by decide +kernel) rfl rfl (Nat.le_of_ble_eq_true rfl) eN_p13 dX6_keeps_46 (fun H locs hP hS => ?_)
    exact B49 (mp M 0 13 ((M 0 13) - 1)) _ _ _ h hP hS (lv_sub hl [0] rfl)
  have B11 : ∀ (k11 : Int32 → Mem → Option (Mem)) (C11 : ∀ (x1 : Int32) (M : Mem) (H : Heap) (locs : List Loc) (ls : Array Slot), k11 x1 M = some M' → va_P g.1 vwCl (wl 14 a (eN g a M)) H → va_S (aA 14 a s.heap.size) s.heap H locs → lv_has ls 2 [(0, .ref (a 0)), (1, .int x1)] → W p l e rmX6_keeps s m args below meth c H locs 0 0 Qz (F0 m 11 ls [])), ∀ (x1 : Int32) (M : Mem) (H : Heap) (locs : List Loc) (ls : Array Slot), fX6_keeps_b11 k11 x1 M = some M' → va_P g.1 vwCl (wl 14 a (eN g a M)) H → va_S (aA 14 a s.heap.size) s.heap H locs → lv_has ls 2 [(0, .ref (a 0)), (1, .int x1)] → W p l e rmX6_keeps s m args below meth c H locs 0 0 Qz (F0 m 11 ls []) := by
    intro k11 C11 x1 M H locs ls h hP hS hl
    unfold fX6_keeps_b11 at h
    refine lv_iload_n hx hb dX6_keeps_11 rfl (lv_at hl 1 rfl) ?_
    refine lv_sipush (v := 368) hx hb dX6_keeps_12 (by decide) ?_
    refine lv_icmp_ge (x := x1) (y := 368) (tgt := 39) hx hb dX6_keeps_15 (by decide) (fun q1 => ?_) (fun q1 => ?_)
    · replace h := if_t q1 h
      exact B39 M _ _ _ h hP hS (lv_sub hl [0] rfl)
    · replace h := if_f q1 h
      refine lv_aload_n hx hb dX6_keeps_18 rfl (lv_at hl 0 rfl) ?_
      refine r_get (v := .ref (a 10)) hx hb hts iX6 hown hK hP 0 (by decide) eN_0 rfl 12 (by decide) w38 rfl dX6_keeps_19 ?_
      refine lv_iload_n hx hb dX6_keeps_22 rfl (lv_at hl 1 rfl) ?_
      refine lv_aload_n hx hb dX6_keeps_23 rfl (lv_at hl 0 rfl) ?_
      refine r_get (v := .ref (a 10)) hx hb hts iX6 hown hK hP 0 (by decide) eN_0 rfl 12 (by decide) w38 rfl dX6_keeps_24 ?_
      refine lv_iload_n hx hb dX6_keeps_27 rfl (lv_at hl 1 rfl) ?_
      refine lv_bipush (v := 16) hx hb dX6_keeps_28 (by decide) ?_
      refine lv_iadd (x := x1) (y := 16) hx hb dX6_keeps_30 ?_
      obtain ⟨q2, h⟩ := chk_ok h
      refine r_iald (i := (x1 + 16)) (h := M 10) hx hb hK hP 10 (by decide) rfl q2 dX6_keeps_31 ?_
      obtain ⟨q3, h⟩ := chk_ok h
      refine r_iast (i := x1) (x := (M 10 (Int32.toNatClampNeg (x1 + 16)))) (h := M 10) (f' := eN g a (mp M 10 (Int32.toNatClampNeg x1) (M 10 (Int32.toNatClampNeg (x1 + 16))))) hx hb hK hI (fun _ h => aA_in h) hP hS 10 (by decide) rfl q3 (eN_ua (fun _ => rfl)) dX6_keeps_32 (fun H locs hP hS => ?_)
      refine lv_iinc (v := (x1 + 1)) (lv' := [(1, .int (x1 + 1)), (0, .ref (a 0))]) hx hb dX6_keeps_33 hl (k := 1) rfl rfl (by decide) rfl (fun ls hl => ?_)
      refine lv_goto (tgt := 11) hx hb dX6_keeps_36 (by decide) ?_
      exact C11 (x1 + 1) (mp M 10 (Int32.toNatClampNeg x1) (M 10 (Int32.toNatClampNeg (x1 + 16)))) _ _ _ h hP hS (lv_sub hl [1, 0] rfl)
  have L11 : ∀ (n : Nat), ∀ (x1 : Int32) (M : Mem) (H : Heap) (locs : List Loc) (ls : Array Slot), fX6_keeps_l11 n x1 M = some M' → va_P g.1 vwCl (wl 14 a (eN g a M)) H → va_S (aA 14 a s.heap.size) s.heap H locs → lv_has ls 2 [(0, .ref (a 0)), (1, .int x1)] → W p l e rmX6_keeps s m args below meth c H locs 0 0 Qz (F0 m 11 ls []) := by
    intro n
    induction n with
    | zero => intro x1 M H locs ls h; exact absurd (show (none : Option (Mem)) = some _ from h) (fun z => by cases z)
    | succ n ih => exact fun x1 M H locs ls h hP hS hl => B11 (fX6_keeps_l11 n) ih x1 M H locs ls h hP hS hl
  unfold fX6_keeps at h
  refine lv_aload_n hx hb dX6_keeps_0 rfl (lv_at hl 0 rfl) ?_
  refine r_get (v := .int (M 0 13)) hx hb hts iX6 hown hK hP 0 (by decide) eN_0 rfl 13 (by decide) w115 rfl dX6_keeps_1 ?_
  refine lv_bipush (v := 24) hx hb dX6_keeps_4 (by decide) ?_
  refine lv_icmp_ne (x := (M 0 13)) (y := 24) (tgt := 49) hx hb dX6_keeps_6 (by decide) (fun q1 => ?_) (fun q1 => ?_)
  · replace h := if_f q1 h
    exact B49 M _ _ _ h hP hS (lv_sub hl [0] rfl)
  · replace h := if_t q1 h
    refine lv_iconst (v := 0) hx hb dX6_keeps_9 (by decide) ?_
    refine lv_istore_n (lv' := [(1, .int 0), (0, .ref (a 0))]) hx hb dX6_keeps_10 rfl hl (by decide) rfl (fun ls hl => ?_)
    exact L11 FU 0 M _ _ _ h hP hS (lv_sub hl [1, 0] rfl)
def rmX6_isOn : Room := { frames := 1, cells := 0, slots := 0, locals := 60 }
set_option maxHeartbeats 4000000 in
set_option maxRecDepth 100000 in
theorem ok_X6_isOn (l : Launch) (g : gT) (p0 : Int32) (r : Int32) (h : fX6_isOn p0 = some r) : MI l yX6_isOn wsX6_isOn rmX6_isOn g 0 (fun _ => 0) [.int p0] ([] : va_W) ([] : va_W) r := by
  refine MI_of (cc := cX6_isOn) (maxL := 1) (rt := .boolean) (by decide) rfl (Nat.le_of_ble_eq_true rfl) ?_
  intro p e s m args below meth c ls hx hb hml hr hlk hts hown hK hP hl
  have hown : s.vm.findClass RX6 = some m.cls := hown
  have hl : lv_has ls 1 [(0, .int p0)] := hl
  have hS : va_S (aA 0 (fun _ => 0) s.heap.size) s.heap s.heap [] := va_S.rf
  obtain ⟨Qz, hQz⟩ : ∃ Qz : State → Prop, Qz = MQ below (qI g ([] : va_W) r (aA 0 (fun _ => 0) s.heap.size)) args s 0 0 (aA 0 (fun _ => 0) s.heap.size) := ⟨_, rfl⟩
  rw [← hQz]
  unfold fX6_isOn at h
  refine lv_iload_n hx hb dX6_isOn_0 rfl (lv_at hl 0 rfl) ?_
  refine lv_iconst (v := (-1)) hx hb dX6_isOn_1 (by decide) ?_
  refine lv_icmp_eq (x := p0) (y := (-1)) (tgt := 15) hx hb dX6_isOn_2 (by decide) (fun q1 => ?_) (fun q1 => ?_)
  · replace h := if_t q1 h
    refine lv_iconst (v := 0) hx hb dX6_isOn_15 (by decide) ?_
    rw [hQz]
    exact r_zret (v := 0) hx hb hr hlk hS hP (Option.some.inj h) (by decide) dX6_isOn_16
  · replace h := if_f q1 h
    refine lv_iload_n hx hb dX6_isOn_5 rfl (lv_at hl 0 rfl) ?_
    refine lv_bipush (v := 99) hx hb dX6_isOn_6 (by decide) ?_
    refine lv_icmp_eq (x := p0) (y := 99) (tgt := 15) hx hb dX6_isOn_8 (by decide) (fun q2 => ?_) (fun q2 => ?_)
    · replace h := if_t q2 h
      refine lv_iconst (v := 0) hx hb dX6_isOn_15 (by decide) ?_
      rw [hQz]
      exact r_zret (v := 0) hx hb hr hlk hS hP (Option.some.inj h) (by decide) dX6_isOn_16
    · replace h := if_f q2 h
      refine lv_iconst (v := 1) hx hb dX6_isOn_11 (by decide) ?_
      refine lv_goto (tgt := 16) hx hb dX6_isOn_12 (by decide) ?_
      rw [hQz]
      exact r_zret (v := 1) hx hb hr hlk hS hP (Option.some.inj h) (by decide) dX6_isOn_16
def rmX6_isFree : Room := { frames := 1, cells := 0, slots := 0, locals := 60 }
set_option maxHeartbeats 4000000 in
set_option maxRecDepth 100000 in
theorem ok_X6_isFree (l : Launch) (g : gT) (a : Nat → Nat) (hI : ij 1 a) (p1 : Int32) (p2 : Int32) (p3 : Int32) (M : Mem) (r : Int32) (h : fX6_isFree p1 p2 p3 M = some r) : MI l yX6_isFree wsX6_isFree rmX6_isFree g 1 a [.ref (a 0), .int p1, .int p2, .int p3] (wl 1 a (eC g a M)) (wl 1 a (eC g a M)) r := by
  refine MI_of (cc := cX6_isFree) (maxL := 7) (rt := .boolean) (by decide) rfl (Nat.le_of_ble_eq_true rfl) ?_
  intro p e s m args below meth c ls hx hb hml hr hlk hts hown hK hP hl
  have hown : s.vm.findClass RX6 = some m.cls := hown
  have hl : lv_has ls 7 [(0, .ref (a 0)), (1, .int p1), (2, .int p2), (3, .int p3)] := hl
  have hS : va_S (aA 1 a s.heap.size) s.heap s.heap [] := va_S.rf
  obtain ⟨Qz, hQz⟩ : ∃ Qz : State → Prop, Qz = MQ below (qI g (wl 1 a (eC g a M)) r (aA 1 a s.heap.size)) args s 0 0 (aA 1 a s.heap.size) := ⟨_, rfl⟩
  rw [← hQz]
  have B85 : ∀ (k6 : Int32 → Int32 → Option (Int32)) (C6 : ∀ (x4 : Int32) (x5 : Int32) (H : Heap) (locs : List Loc) (ls : Array Slot), k6 x4 x5 = some r → va_P g.1 vwCl (wl 1 a (eC g a M)) H → va_S (aA 1 a s.heap.size) s.heap H locs → lv_has ls 7 [(0, .ref (a 0)), (1, .int p1), (2, .int p2), (3, .int p3), (4, .int x4), (5, .int x5)] → W p l e rmX6_isFree s m args below meth c H locs 0 0 Qz (F0 m 6 ls [])), ∀ (x5 : Int32) (s0 : Int32) (H : Heap) (locs : List Loc) (ls : Array Slot), fX6_isFree_b85 p1 p2 p3 M k6 x5 s0 = some r → va_P g.1 vwCl (wl 1 a (eC g a M)) H → va_S (aA 1 a s.heap.size) s.heap H locs → lv_has ls 7 [(0, .ref (a 0)), (1, .int p1), (2, .int p2), (3, .int p3), (5, .int x5)] → W p l e rmX6_isFree s m args below meth c H locs 0 0 Qz (F0 m 85 ls [.int s0]) := by
    intro k6 C6 x5 s0 H locs ls h hP hS hl
    unfold fX6_isFree_b85 at h
    refine lv_istore (lv' := [(4, .int s0), (0, .ref (a 0)), (1, .int p1), (2, .int p2), (3, .int p3), (5, .int x5)]) hx hb dX6_isFree_85 hl (by decide) rfl (fun ls hl => ?_)
    refine lv_iinc (v := (x5 + 1)) (lv' := [(5, .int (x5 + 1)), (4, .int s0), (0, .ref (a 0)), (1, .int p1), (2, .int p2), (3, .int p3)]) hx hb dX6_isFree_87 hl (k := 5) rfl rfl (by decide) rfl (fun ls hl => ?_)
    refine lv_goto (tgt := 6) hx hb dX6_isFree_90 (by decide) ?_
    exact C6 s0 (x5 + 1) _ _ _ h hP hS (lv_sub hl [2, 3, 4, 5, 1, 0] rfl)
  have B84 : ∀ (k6 : Int32 → Int32 → Option (Int32)) (C6 : ∀ (x4 : Int32) (x5 : Int32) (H : Heap) (locs : List Loc) (ls : Array Slot), k6 x4 x5 = some r → va_P g.1 vwCl (wl 1 a (eC g a M)) H → va_S (aA 1 a s.heap.size) s.heap H locs → lv_has ls 7 [(0, .ref (a 0)), (1, .int p1), (2, .int p2), (3, .int p3), (4, .int x4), (5, .int x5)] → W p l e rmX6_isFree s m args below meth c H locs 0 0 Qz (F0 m 6 ls [])), ∀ (x5 : Int32) (H : Heap) (locs : List Loc) (ls : Array Slot), fX6_isFree_b84 p1 p2 p3 M k6 x5 = some r → va_P g.1 vwCl (wl 1 a (eC g a M)) H → va_S (aA 1 a s.heap.size) s.heap H locs → lv_has ls 7 [(0, .ref (a 0)), (1, .int p1), (2, .int p2), (3, .int p3), (5, .int x5)] → W p l e rmX6_isFree s m args below meth c H locs 0 0 Qz (F0 m 84 ls []) := by
    intro k6 C6 x5 H locs ls h hP hS hl
    unfold fX6_isFree_b84 at h
    refine lv_iconst (v := 0) hx hb dX6_isFree_84 (by decide) ?_
    exact B85 k6 C6 x5 0 _ _ _ h hP hS (lv_sub hl [0, 1, 2, 3, 4] rfl)
  have B80 : ∀ (k6 : Int32 → Int32 → Option (Int32)) (C6 : ∀ (x4 : Int32) (x5 : Int32) (H : Heap) (locs : List Loc) (ls : Array Slot), k6 x4 x5 = some r → va_P g.1 vwCl (wl 1 a (eC g a M)) H → va_S (aA 1 a s.heap.size) s.heap H locs → lv_has ls 7 [(0, .ref (a 0)), (1, .int p1), (2, .int p2), (3, .int p3), (4, .int x4), (5, .int x5)] → W p l e rmX6_isFree s m args below meth c H locs 0 0 Qz (F0 m 6 ls [])), ∀ (x5 : Int32) (H : Heap) (locs : List Loc) (ls : Array Slot), fX6_isFree_b80 p1 p2 p3 M k6 x5 = some r → va_P g.1 vwCl (wl 1 a (eC g a M)) H → va_S (aA 1 a s.heap.size) s.heap H locs → lv_has ls 7 [(0, .ref (a 0)), (1, .int p1), (2, .int p2), (3, .int p3), (5, .int x5)] → W p l e rmX6_isFree s m args below meth c H locs 0 0 Qz (F0 m 80 ls []) := by
    intro k6 C6 x5 H locs ls h hP hS hl
    unfold fX6_isFree_b80 at h
    refine lv_iconst (v := 1) hx hb dX6_isFree_80 (by decide) ?_
    refine lv_goto (tgt := 85) hx hb dX6_isFree_81 (by decide) ?_
    exact B85 k6 C6 x5 1 _ _ _ h hP hS (lv_sub hl [0, 1, 2, 3, 4] rfl)
  have B52 : ∀ (k6 : Int32 → Int32 → Option (Int32)) (C6 : ∀ (x4 : Int32) (x5 : Int32) (H : Heap) (locs : List Loc) (ls : Array Slot), k6 x4 x5 = some r → va_P g.1 vwCl (wl 1 a (eC g a M)) H → va_S (aA 1 a s.heap.size) s.heap H locs → lv_has ls 7 [(0, .ref (a 0)), (1, .int p1), (2, .int p2), (3, .int p3), (4, .int x4), (5, .int x5)] → W p l e rmX6_isFree s m args below meth c H locs 0 0 Qz (F0 m 6 ls [])), ∀ (x4 : Int32) (x5 : Int32) (s0 : Int32) (H : Heap) (locs : List Loc) (ls : Array Slot), fX6_isFree_b52 p1 p2 p3 M k6 x4 x5 s0 = some r → va_P g.1 vwCl (wl 1 a (eC g a M)) H → va_S (aA 1 a s.heap.size) s.heap H locs → lv_has ls 7 [(0, .ref (a 0)), (1, .int p1), (2, .int p2), (3, .int p3), (4, .int x4), (5, .int x5)] → W p l e rmX6_isFree s m args below meth c H locs 0 0 Qz (F0 m 52 ls [.int s0]) := by
    intro k6 C6 x4 x5 s0 H locs ls h hP hS hl
    unfold fX6_isFree_b52 at h
    refine lv_istore (lv' := [(6, .int s0), (0, .ref (a 0)), (1, .int p1), (2, .int p2), (3, .int p3), (4, .int x4), (5, .int x5)]) hx hb dX6_isFree_52 hl (by decide) rfl (fun ls hl => ?_)
    refine lv_iload hx hb dX6_isFree_54 (lv_at hl 5 rfl) ?_
    refine lv_if_eq (x := x4) (tgt := 84) hx hb dX6_isFree_56 (by decide) (fun q1 => ?_) (fun q1 => ?_)
    · replace h := if_t q1 h
      exact B84 k6 C6 x5 _ _ _ h hP hS (lv_sub hl [1, 2, 3, 4, 6] rfl)
    · replace h := if_f q1 h
      refine lv_iload hx hb dX6_isFree_59 (lv_at hl 6 rfl) ?_
      refine lv_iload_n hx hb dX6_isFree_61 rfl (lv_at hl 2 rfl) ?_
      refine lv_icmp_eq (x := x5) (y := p1) (tgt := 80) hx hb dX6_isFree_62 (by decide) (fun q2 => ?_) (fun q2 => ?_)
      · replace h := if_t q2 h
        exact B80 k6 C6 x5 _ _ _ h hP hS (lv_sub hl [1, 2, 3, 4, 6] rfl)
      · replace h := if_f q2 h
        refine lv_aload_n hx hb dX6_isFree_65 rfl (lv_at hl 1 rfl) ?_
        refine lv_iconst (v := 2) hx hb dX6_isFree_66 (by decide) ?_
        refine lv_iload hx hb dX6_isFree_67 (lv_at hl 6 rfl) ?_
        refine lv_iadd (x := 2) (y := x5) hx hb dX6_isFree_69 ?_
        obtain ⟨q3, h⟩ := chk_ok h
        refine r_iald (i := (2 + x5)) (h := M 0) hx hb hK hP 0 (by decide) rfl q3 dX6_isFree_70 ?_
        refine lv_iload_n hx hb dX6_isFree_71 rfl (lv_at hl 3 rfl) ?_
        refine lv_icmp_ne (x := (M 0 (Int32.toNatClampNeg (2 + x5)))) (y := p2) (tgt := 80) hx hb dX6_isFree_72 (by decide) (fun q4 => ?_) (fun q4 => ?_)
        · replace h := if_f q4 h
          exact B80 k6 C6 x5 _ _ _ h hP hS (lv_sub hl [1, 2, 3, 4, 6] rfl)
        · replace h := if_t q4 h
          refine lv_iload hx hb dX6_isFree_75 (lv_at hl 0 rfl) ?_
          refine lv_if_ne (x := s0) (tgt := 84) hx hb dX6_isFree_77 (by decide) (fun q5 => ?_) (fun q5 => ?_)
          · replace h := if_f q5 h
            exact B84 k6 C6 x5 _ _ _ h hP hS (lv_sub hl [1, 2, 3, 4, 6] rfl)
          · replace h := if_t q5 h
            exact B80 k6 C6 x5 _ _ _ h hP hS (lv_sub hl [1, 2, 3, 4, 6] rfl)
  have B47 : ∀ (k6 : Int32 → Int32 → Option (Int32)) (C6 : ∀ (x4 : Int32) (x5 : Int32) (H : Heap) (locs : List Loc) (ls : Array Slot), k6 x4 x5 = some r → va_P g.1 vwCl (wl 1 a (eC g a M)) H → va_S (aA 1 a s.heap.size) s.heap H locs → lv_has ls 7 [(0, .ref (a 0)), (1, .int p1), (2, .int p2), (3, .int p3), (4, .int x4), (5, .int x5)] → W p l e rmX6_isFree s m args below meth c H locs 0 0 Qz (F0 m 6 ls [])), ∀ (x4 : Int32) (x5 : Int32) (H : Heap) (locs : List Loc) (ls : Array Slot), fX6_isFree_b47 p1 p2 p3 M k6 x4 x5 = some r → va_P g.1 vwCl (wl 1 a (eC g a M)) H → va_S (aA 1 a s.heap.size) s.heap H locs → lv_has ls 7 [(0, .ref (a 0)), (1, .int p1), (2, .int p2), (3, .int p3), (4, .int x4), (5, .int x5)] → W p l e rmX6_isFree s m args below meth c H locs 0 0 Qz (F0 m 47 ls []) := by
    intro k6 C6 x4 x5 H locs ls h hP hS hl
    unfold fX6_isFree_b47 at h
    refine lv_iconst (v := 1) hx hb dX6_isFree_47 (by decide) ?_
    refine lv_goto (tgt := 52) hx hb dX6_isFree_48 (by decide) ?_
    exact B52 k6 C6 x4 x5 1 _ _ _ h hP hS (lv_sub hl [0, 1, 2, 3, 4, 5] rfl)
  have B6 : ∀ (k6 : Int32 → Int32 → Option (Int32)) (C6 : ∀ (x4 : Int32) (x5 : Int32) (H : Heap) (locs : List Loc) (ls : Array Slot), k6 x4 x5 = some r → va_P g.1 vwCl (wl 1 a (eC g a M)) H → va_S (aA 1 a s.heap.size) s.heap H locs → lv_has ls 7 [(0, .ref (a 0)), (1, .int p1), (2, .int p2), (3, .int p3), (4, .int x4), (5, .int x5)] → W p l e rmX6_isFree s m args below meth c H locs 0 0 Qz (F0 m 6 ls [])), ∀ (x4 : Int32) (x5 : Int32) (H : Heap) (locs : List Loc) (ls : Array Slot), fX6_isFree_b6 p1 p2 p3 M k6 x4 x5 = some r → va_P g.1 vwCl (wl 1 a (eC g a M)) H → va_S (aA 1 a s.heap.size) s.heap H locs → lv_has ls 7 [(0, .ref (a 0)), (1, .int p1), (2, .int p2), (3, .int p3), (4, .int x4), (5, .int x5)] → W p l e rmX6_isFree s m args below meth c H locs 0 0 Qz (F0 m 6 ls []) := by
    intro k6 C6 x4 x5 H locs ls h hP hS hl
    unfold fX6_isFree_b6 at h
    refine lv_iload hx hb dX6_isFree_6 (lv_at hl 5 rfl) ?_
    refine lv_aload_n hx hb dX6_isFree_8 rfl (lv_at hl 0 rfl) ?_
    refine lv_bipush (v := 17) hx hb dX6_isFree_9 (by decide) ?_
    obtain ⟨q1, h⟩ := chk_ok h
    refine r_iald (i := 17) (h := M 0) hx hb hK hP 0 (by decide) rfl q1 dX6_isFree_11 ?_
    refine lv_icmp_ge (x := x5) (y := (M 0 (Int32.toNatClampNeg 17))) (tgt := 93) hx hb dX6_isFree_12 (by decide) (fun q2 => ?_) (fun q2 => ?_)
    · replace h := if_t q2 h
      refine lv_iload hx hb dX6_isFree_93 (lv_at hl 4 rfl) ?_
      obtain ⟨q3, h⟩ := chk_ok h
      rw [hQz]
      exact r_zret (v := x4) hx hb hr hlk hS hP (Option.some.inj h) q3 dX6_isFree_95
    · replace h := if_f q2 h
      refine lv_aload_n hx hb dX6_isFree_15 rfl (lv_at hl 0 rfl) ?_
      refine lv_bipush (v := 18) hx hb dX6_isFree_16 (by decide) ?_
      refine lv_iload_n hx hb dX6_isFree_18 rfl (lv_at hl 1 rfl) ?_
      refine lv_iadd (x := 18) (y := p1) hx hb dX6_isFree_19 ?_
      obtain ⟨q4, h⟩ := chk_ok h
      refine r_iald (i := (18 + p1)) (h := M 0) hx hb hK hP 0 (by decide) rfl q4 dX6_isFree_20 ?_
      refine lv_iconst (v := 4) hx hb dX6_isFree_21 (by decide) ?_
      refine lv_icmp_ge (x := (M 0 (Int32.toNatClampNeg (18 + p1)))) (y := 4) (tgt := 47) hx hb dX6_isFree_22 (by decide) (fun q5 => ?_) (fun q5 => ?_)
      · replace h := if_t q5 h
        exact B47 k6 C6 x4 x5 _ _ _ h hP hS (lv_sub hl [0, 1, 2, 3, 4, 5] rfl)
      · replace h := if_f q5 h
        refine lv_aload_n hx hb dX6_isFree_25 rfl (lv_at hl 0 rfl) ?_
        refine lv_bipush (v := 18) hx hb dX6_isFree_26 (by decide) ?_
        refine lv_iload hx hb dX6_isFree_28 (lv_at hl 5 rfl) ?_
        refine lv_iadd (x := 18) (y := x5) hx hb dX6_isFree_30 ?_
        obtain ⟨q6, h⟩ := chk_ok h
        refine r_iald (i := (18 + x5)) (h := M 0) hx hb hK hP 0 (by decide) rfl q6 dX6_isFree_31 ?_
        refine lv_iconst (v := 4) hx hb dX6_isFree_32 (by decide) ?_
        refine lv_icmp_ge (x := (M 0 (Int32.toNatClampNeg (18 + x5)))) (y := 4) (tgt := 47) hx hb dX6_isFree_33 (by decide) (fun q7 => ?_) (fun q7 => ?_)
        · replace h := if_t q7 h
          exact B47 k6 C6 x4 x5 _ _ _ h hP hS (lv_sub hl [0, 1, 2, 3, 4, 5] rfl)
        · replace h := if_f q7 h
          refine lv_aload_n hx hb dX6_isFree_36 rfl (lv_at hl 0 rfl) ?_
          refine lv_bipush (v := 9) hx hb dX6_isFree_37 (by decide) ?_
          refine lv_iload hx hb dX6_isFree_39 (lv_at hl 5 rfl) ?_
          refine lv_iadd (x := 9) (y := x5) hx hb dX6_isFree_41 ?_
          obtain ⟨q8, h⟩ := chk_ok h
          refine r_iald (i := (9 + x5)) (h := M 0) hx hb hK hP 0 (by decide) rfl q8 dX6_isFree_42 ?_
          refine lv_iload_n hx hb dX6_isFree_43 rfl (lv_at hl 3 rfl) ?_
          refine lv_icmp_ne (x := (M 0 (Int32.toNatClampNeg (9 + x5)))) (y := p3) (tgt := 51) hx hb dX6_isFree_44 (by decide) (fun q9 => ?_) (fun q9 => ?_)
          · replace h := if_f q9 h
            refine lv_iconst (v := 0) hx hb dX6_isFree_51 (by decide) ?_
            exact B52 k6 C6 x4 x5 0 _ _ _ h hP hS (lv_sub hl [0, 1, 2, 3, 4, 5] rfl)
          · replace h := if_t q9 h
            exact B47 k6 C6 x4 x5 _ _ _ h hP hS (lv_sub hl [0, 1, 2, 3, 4, 5] rfl)
  have L6 : ∀ (n : Nat), ∀ (x4 : Int32) (x5 : Int32) (H : Heap) (locs : List Loc) (ls : Array Slot), fX6_isFree_l6 p1 p2 p3 M n x4 x5 = some r → va_P g.1 vwCl (wl 1 a (eC g a M)) H → va_S (aA 1 a s.heap.size) s.heap H locs → lv_has ls 7 [(0, .ref (a 0)), (1, .int p1), (2, .int p2), (3, .int p3), (4, .int x4), (5, .int x5)] → W p l e rmX6_isFree s m args below meth c H locs 0 0 Qz (F0 m 6 ls []) := by
    intro n
    induction n with
    | zero => intro x4 x5 H locs ls h; exact absurd (show (none : Option (Int32)) = some _ from h) (fun z => by cases z)
    | succ n ih => exact fun x4 x5 H locs ls h hP hS hl => B6 (fX6_isFree_l6 p1 p2 p3 M n) ih x4 x5 H locs ls h hP hS hl
  unfold fX6_isFree at h
  refine lv_iconst (v := 1) hx hb dX6_isFree_0 (by decide) ?_
  refine lv_istore (lv' := [(4, .int 1), (0, .ref (a 0)), (1, .int p1), (2, .int p2), (3, .int p3)]) hx hb dX6_isFree_1 hl (by decide) rfl (fun ls hl => ?_)
  refine lv_iconst (v := 0) hx hb dX6_isFree_3 (by decide) ?_
  refine lv_istore (lv' := [(5, .int 0), (4, .int 1), (0, .ref (a 0)), (1, .int p1), (2, .int p2), (3, .int p3)]) hx hb dX6_isFree_4 hl (by decide) rfl (fun ls hl => ?_)
  exact L6 FU 1 0 _ _ _ h hP hS (lv_sub hl [2, 3, 4, 5, 1, 0] rfl)
