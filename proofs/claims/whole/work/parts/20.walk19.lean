def rmX6_count : Room := { frames := 2, cells := 0, slots := 0, locals := 82 }
set_option maxHeartbeats 4000000 in
set_option maxRecDepth 100000 in
theorem ok_X6_count (l : Launch) (g : gT) (a : Nat → Nat) (hI : ij 14 a) (p1 : Int32) (M : Mem) (r : Int32) (h : fX6_count p1 M = some r) : MI l yX6_count wsX6_count rmX6_count g 14 a [.ref (a 0), .int p1] (wl 14 a (eN g a M)) (wl 14 a (eN g a M)) r := by
  refine MI_of (cc := cX6_count) (maxL := 4) (rt := .int) (by decide) rfl (Nat.le_of_ble_eq_true rfl) ?_
  intro p e s m args below meth c ls hx hb hml hr hlk hts hown hK hP hl
  have hown : s.vm.findClass RX6 = some m.cls := hown
  have hl : lv_has ls 4 [(0, .ref (a 0)), (1, .int p1)] := hl
  have hS : va_S (aA 14 a s.heap.size) s.heap s.heap [] := va_S.rf
  have iX6 : ∀ w ∈ wsX60, w ∈ wsX6_count := fun w h => List.mem_cons_of_mem _ (List.mem_append_right _ h)
  have w25 := hts (.fieldLink RX6 25 "StepRidersModel" "s" "[I") (by decide +kernel)
  have w7 := hts (.fieldLink RX6 7 "StepRidersModel" "sizes" "[I") (by decide +kernel)
  have w115 := hts (.fieldLink RX6 115 "StepRidersModel" "known" "I") (by decide +kernel)
  have w79 := hts (.fieldLink RX6 79 "StepRidersModel" "typed" "I") (by decide +kernel)
  have w65 := hts (.constant RX6 65 (-1000001)) (by decide +kernel)
  obtain ⟨Qz, hQz⟩ : ∃ Qz : State → Prop, Qz = MQ below (qI g (wl 14 a (eN g a M)) r (aA 14 a s.heap.size)) args s 0 0 (aA 14 a s.heap.size) := ⟨_, rfl⟩
  rw [← hQz]
  have B193 : ∀ (k162 : Int32 → Int32 → Option (Int32)) (C162 : ∀ (x2 : Int32) (x3 : Int32) (H : Heap) (locs : List Loc) (ls : Array Slot), k162 x2 x3 = some r → va_P g.1 vwCl (wl 14 a (eN g a M)) H → va_S (aA 14 a s.heap.size) s.heap H locs → lv_has ls 4 [(0, .ref (a 0)), (1, .int p1), (2, .int x2), (3, .int x3)] → W p l e rmX6_count s m args below meth c H locs 0 0 Qz (F0 m 162 ls [])), ∀ (x3 : Int32) (s0 : Int32) (s1 : Int32) (H : Heap) (locs : List Loc) (ls : Array Slot), fX6_count_b193 p1 M k162 x3 s0 s1 = some r → va_P g.1 vwCl (wl 14 a (eN g a M)) H → va_S (aA 14 a s.heap.size) s.heap H locs → lv_has ls 4 [(0, .ref (a 0)), (1, .int p1), (3, .int x3)] → W p l e rmX6_count s m args below meth c H locs 0 0 Qz (F0 m 193 ls [.int s0, .int s1]) := by
    intro k162 C162 x3 s0 s1 H locs ls h hP hS hl
    unfold fX6_count_b193 at h
    refine lv_iadd (x := s1) (y := s0) hx hb dX6_count_193 ?_
    refine lv_istore_n (lv' := [(2, .int (s1 + s0)), (0, .ref (a 0)), (1, .int p1), (3, .int x3)]) hx hb dX6_count_194 rfl hl (by decide) rfl (fun ls hl => ?_)
    refine lv_iinc (v := (x3 + 1)) (lv' := [(3, .int (x3 + 1)), (2, .int (s1 + s0)), (0, .ref (a 0)), (1, .int p1)]) hx hb dX6_count_195 hl (k := 3) rfl rfl (by decide) rfl (fun ls hl => ?_)
    refine lv_goto (tgt := 162) hx hb dX6_count_198 (by decide) ?_
    exact C162 (s1 + s0) (x3 + 1) _ _ _ h hP hS (lv_sub hl [2, 3, 1, 0] rfl)
  have B162 : ∀ (k162 : Int32 → Int32 → Option (Int32)) (C162 : ∀ (x2 : Int32) (x3 : Int32) (H : Heap) (locs : List Loc) (ls : Array Slot), k162 x2 x3 = some r → va_P g.1 vwCl (wl 14 a (eN g a M)) H → va_S (aA 14 a s.heap.size) s.heap H locs → lv_has ls 4 [(0, .ref (a 0)), (1, .int p1), (2, .int x2), (3, .int x3)] → W p l e rmX6_count s m args below meth c H locs 0 0 Qz (F0 m 162 ls [])), ∀ (x2 : Int32) (x3 : Int32) (H : Heap) (locs : List Loc) (ls : Array Slot), fX6_count_b162 p1 M k162 x2 x3 = some r → va_P g.1 vwCl (wl 14 a (eN g a M)) H → va_S (aA 14 a s.heap.size) s.heap H locs → lv_has ls 4 [(0, .ref (a 0)), (1, .int p1), (2, .int x2), (3, .int x3)] → W p l e rmX6_count s m args below meth c H locs 0 0 Qz (F0 m 162 ls []) := by
    intro k162 C162 x2 x3 H locs ls h hP hS hl
    unfold fX6_count_b162 at h
    refine lv_iload_n hx hb dX6_count_162 rfl (lv_at hl 3 rfl) ?_
    refine lv_aload_n hx hb dX6_count_163 rfl (lv_at hl 0 rfl) ?_
    refine r_get (v := .ref (a 6)) hx hb hts iX6 hown hK hP 0 (by decide) eN_0 rfl 8 (by decide) w25 rfl dX6_count_164 ?_
    refine lv_bipush (v := 17) hx hb dX6_count_167 (by decide) ?_
    obtain ⟨q1, h⟩ := chk_ok h
    refine r_iald (i := 17) (h := M 6) hx hb hK hP 6 (by decide) rfl q1 dX6_count_169 ?_
    refine lv_icmp_ge (x := x3) (y := (M 6 (Int32.toNatClampNeg 17))) (tgt := 201) hx hb dX6_count_170 (by decide) (fun q2 => ?_) (fun q2 => ?_)
    · replace h := if_t q2 h
      refine lv_iload_n hx hb dX6_count_201 rfl (lv_at hl 2 rfl) ?_
      rw [hQz]
      exact r_iret (v := x2) hx hb hr hlk hS hP (Option.some.inj h) dX6_count_202
    · replace h := if_f q2 h
      refine lv_iload_n hx hb dX6_count_173 rfl (lv_at hl 2 rfl) ?_
      refine lv_aload_n hx hb dX6_count_174 rfl (lv_at hl 0 rfl) ?_
      refine r_get (v := .ref (a 6)) hx hb hts iX6 hown hK hP 0 (by decide) eN_0 rfl 8 (by decide) w25 rfl dX6_count_175 ?_
      refine lv_iconst (v := 2) hx hb dX6_count_178 (by decide) ?_
      refine lv_iload_n hx hb dX6_count_179 rfl (lv_at hl 3 rfl) ?_
      refine lv_iadd (x := 2) (y := x3) hx hb dX6_count_180 ?_
      obtain ⟨q3, h⟩ := chk_ok h
      refine r_iald (i := (2 + x3)) (h := M 6) hx hb hK hP 6 (by decide) rfl q3 dX6_count_181 ?_
      obtain ⟨r4, e5, h⟩ := bdP_ok h
      refine r_callSi (As := [.int (M 6 (Int32.toNatClampNeg (2 + x3)))]) (rest := [.int x2]) (ws' := (wl 14 a (eN g a M))) (ok_X6_isOn l g (M 6 (Int32.toNatClampNeg (2 + x3))) r4 e5) ⟨hx, hb, hml, hown, hts⟩ (cwS 1 hts gX6_count_X6_isOn rfl rfl rfl (by decide +kernel) ⟨Nat.le_of_ble_eq_true rfl, Nat.le_of_ble_eq_true rfl⟩) hK hS nilP (P_A hS.1) (fun _ _ hk => wl_keep hP hk) rfl hl.1 rfl (Nat.le_of_ble_eq_true rfl) dX6_count_182 ⟨Nat.zero_le _, Nat.zero_le _⟩ (fun H locs hP hS => ?_)
      refine lv_if_eq (x := r4) (tgt := 192) hx hb dX6_count_185 (by decide) (fun q6 => ?_) (fun q6 => ?_)
      · replace h := if_t q6 h
        refine lv_iconst (v := 0) hx hb dX6_count_192 (by decide) ?_
        exact B193 k162 C162 x3 0 x2 _ _ _ h hP hS (lv_sub hl [0, 1, 3] rfl)
      · replace h := if_f q6 h
        refine lv_iconst (v := 1) hx hb dX6_count_188 (by decide) ?_
        refine lv_goto (tgt := 193) hx hb dX6_count_189 (by decide) ?_
        exact B193 k162 C162 x3 1 x2 _ _ _ h hP hS (lv_sub hl [0, 1, 3] rfl)
  have L162 : ∀ (n : Nat), ∀ (x2 : Int32) (x3 : Int32) (H : Heap) (locs : List Loc) (ls : Array Slot), fX6_count_l162 p1 M n x2 x3 = some r → va_P g.1 vwCl (wl 14 a (eN g a M)) H → va_S (aA 14 a s.heap.size) s.heap H locs → lv_has ls 4 [(0, .ref (a 0)), (1, .int p1), (2, .int x2), (3, .int x3)] → W p l e rmX6_count s m args below meth c H locs 0 0 Qz (F0 m 162 ls []) := by
    intro n
    induction n with
    | zero => intro x2 x3 H locs ls h; exact absurd (show (none : Option (Int32)) = some _ from h) (fun z => by cases z)
    | succ n ih => exact fun x2 x3 H locs ls h hP hS hl => B162 (fX6_count_l162 p1 M n) ih x2 x3 H locs ls h hP hS hl
  have B150 : ∀ (k121 : Int32 → Int32 → Option (Int32)) (C121 : ∀ (x2 : Int32) (x3 : Int32) (H : Heap) (locs : List Loc) (ls : Array Slot), k121 x2 x3 = some r → va_P g.1 vwCl (wl 14 a (eN g a M)) H → va_S (aA 14 a s.heap.size) s.heap H locs → lv_has ls 4 [(0, .ref (a 0)), (1, .int p1), (2, .int x2), (3, .int x3)] → W p l e rmX6_count s m args below meth c H locs 0 0 Qz (F0 m 121 ls [])), ∀ (x3 : Int32) (s0 : Int32) (s1 : Int32) (H : Heap) (locs : List Loc) (ls : Array Slot), fX6_count_b150 p1 M k121 x3 s0 s1 = some r → va_P g.1 vwCl (wl 14 a (eN g a M)) H → va_S (aA 14 a s.heap.size) s.heap H locs → lv_has ls 4 [(0, .ref (a 0)), (1, .int p1), (3, .int x3)] → W p l e rmX6_count s m args below meth c H locs 0 0 Qz (F0 m 150 ls [.int s0, .int s1]) := by
    intro k121 C121 x3 s0 s1 H locs ls h hP hS hl
    unfold fX6_count_b150 at h
    refine lv_iadd (x := s1) (y := s0) hx hb dX6_count_150 ?_
    refine lv_istore_n (lv' := [(2, .int (s1 + s0)), (0, .ref (a 0)), (1, .int p1), (3, .int x3)]) hx hb dX6_count_151 rfl hl (by decide) rfl (fun ls hl => ?_)
    refine lv_iinc (v := (x3 + 1)) (lv' := [(3, .int (x3 + 1)), (2, .int (s1 + s0)), (0, .ref (a 0)), (1, .int p1)]) hx hb dX6_count_152 hl (k := 3) rfl rfl (by decide) rfl (fun ls hl => ?_)
    refine lv_goto (tgt := 121) hx hb dX6_count_155 (by decide) ?_
    exact C121 (s1 + s0) (x3 + 1) _ _ _ h hP hS (lv_sub hl [2, 3, 1, 0] rfl)
  have B121 : ∀ (k121 : Int32 → Int32 → Option (Int32)) (C121 : ∀ (x2 : Int32) (x3 : Int32) (H : Heap) (locs : List Loc) (ls : Array Slot), k121 x2 x3 = some r → va_P g.1 vwCl (wl 14 a (eN g a M)) H → va_S (aA 14 a s.heap.size) s.heap H locs → lv_has ls 4 [(0, .ref (a 0)), (1, .int p1), (2, .int x2), (3, .int x3)] → W p l e rmX6_count s m args below meth c H locs 0 0 Qz (F0 m 121 ls [])), ∀ (x2 : Int32) (x3 : Int32) (H : Heap) (locs : List Loc) (ls : Array Slot), fX6_count_b121 p1 M k121 x2 x3 = some r → va_P g.1 vwCl (wl 14 a (eN g a M)) H → va_S (aA 14 a s.heap.size) s.heap H locs → lv_has ls 4 [(0, .ref (a 0)), (1, .int p1), (2, .int x2), (3, .int x3)] → W p l e rmX6_count s m args below meth c H locs 0 0 Qz (F0 m 121 ls []) := by
    intro k121 C121 x2 x3 H locs ls h hP hS hl
    unfold fX6_count_b121 at h
    refine lv_iload_n hx hb dX6_count_121 rfl (lv_at hl 3 rfl) ?_
    refine lv_aload_n hx hb dX6_count_122 rfl (lv_at hl 0 rfl) ?_
    refine r_get (v := .ref (a 6)) hx hb hts iX6 hown hK hP 0 (by decide) eN_0 rfl 8 (by decide) w25 rfl dX6_count_123 ?_
    refine lv_bipush (v := 17) hx hb dX6_count_126 (by decide) ?_
    obtain ⟨q1, h⟩ := chk_ok h
    refine r_iald (i := 17) (h := M 6) hx hb hK hP 6 (by decide) rfl q1 dX6_count_128 ?_
    refine lv_icmp_ge (x := x3) (y := (M 6 (Int32.toNatClampNeg 17))) (tgt := 158) hx hb dX6_count_129 (by decide) (fun q2 => ?_) (fun q2 => ?_)
    · replace h := if_t q2 h
      refine lv_iload_n hx hb dX6_count_158 rfl (lv_at hl 2 rfl) ?_
      rw [hQz]
      exact r_iret (v := x2) hx hb hr hlk hS hP (Option.some.inj h) dX6_count_159
    · replace h := if_f q2 h
      refine lv_iload_n hx hb dX6_count_132 rfl (lv_at hl 2 rfl) ?_
      refine lv_aload_n hx hb dX6_count_133 rfl (lv_at hl 0 rfl) ?_
      refine r_get (v := .ref (a 6)) hx hb hts iX6 hown hK hP 0 (by decide) eN_0 rfl 8 (by decide) w25 rfl dX6_count_134 ?_
      refine lv_iconst (v := 2) hx hb dX6_count_137 (by decide) ?_
      refine lv_iload_n hx hb dX6_count_138 rfl (lv_at hl 3 rfl) ?_
      refine lv_iadd (x := 2) (y := x3) hx hb dX6_count_139 ?_
      obtain ⟨q3, h⟩ := chk_ok h
      refine r_iald (i := (2 + x3)) (h := M 6) hx hb hK hP 6 (by decide) rfl q3 dX6_count_140 ?_
      refine lv_iconst (v := (-1)) hx hb dX6_count_141 (by decide) ?_
      refine lv_icmp_ne (x := (M 6 (Int32.toNatClampNeg (2 + x3)))) (y := (-1)) (tgt := 149) hx hb dX6_count_142 (by decide) (fun q4 => ?_) (fun q4 => ?_)
      · replace h := if_f q4 h
        refine lv_iconst (v := 0) hx hb dX6_count_149 (by decide) ?_
        exact B150 k121 C121 x3 0 x2 _ _ _ h hP hS (lv_sub hl [0, 1, 3] rfl)
      · replace h := if_t q4 h
        refine lv_iconst (v := 1) hx hb dX6_count_145 (by decide) ?_
        refine lv_goto (tgt := 150) hx hb dX6_count_146 (by decide) ?_
        exact B150 k121 C121 x3 1 x2 _ _ _ h hP hS (lv_sub hl [0, 1, 3] rfl)
  have L121 : ∀ (n : Nat), ∀ (x2 : Int32) (x3 : Int32) (H : Heap) (locs : List Loc) (ls : Array Slot), fX6_count_l121 p1 M n x2 x3 = some r → va_P g.1 vwCl (wl 14 a (eN g a M)) H → va_S (aA 14 a s.heap.size) s.heap H locs → lv_has ls 4 [(0, .ref (a 0)), (1, .int p1), (2, .int x2), (3, .int x3)] → W p l e rmX6_count s m args below meth c H locs 0 0 Qz (F0 m 121 ls []) := by
    intro n
    induction n with
    | zero => intro x2 x3 H locs ls h; exact absurd (show (none : Option (Int32)) = some _ from h) (fun z => by cases z)
    | succ n ih => exact fun x2 x3 H locs ls h hP hS hl => B121 (fX6_count_l121 p1 M n) ih x2 x3 H locs ls h hP hS hl
  have B79 : ∀ (k58 : Int32 → Int32 → Option (Int32)) (C58 : ∀ (x2 : Int32) (x3 : Int32) (H : Heap) (locs : List Loc) (ls : Array Slot), k58 x2 x3 = some r → va_P g.1 vwCl (wl 14 a (eN g a M)) H → va_S (aA 14 a s.heap.size) s.heap H locs → lv_has ls 4 [(0, .ref (a 0)), (1, .int p1), (2, .int x2), (3, .int x3)] → W p l e rmX6_count s m args below meth c H locs 0 0 Qz (F0 m 58 ls [])), ∀ (x3 : Int32) (s0 : Int32) (s1 : Int32) (H : Heap) (locs : List Loc) (ls : Array Slot), fX6_count_b79 p1 M k58 x3 s0 s1 = some r → va_P g.1 vwCl (wl 14 a (eN g a M)) H → va_S (aA 14 a s.heap.size) s.heap H locs → lv_has ls 4 [(0, .ref (a 0)), (1, .int p1), (3, .int x3)] → W p l e rmX6_count s m args below meth c H locs 0 0 Qz (F0 m 79 ls [.int s0, .int s1]) := by
    intro k58 C58 x3 s0 s1 H locs ls h hP hS hl
    unfold fX6_count_b79 at h
    refine lv_iadd (x := s1) (y := s0) hx hb dX6_count_79 ?_
    refine lv_istore_n (lv' := [(2, .int (s1 + s0)), (0, .ref (a 0)), (1, .int p1), (3, .int x3)]) hx hb dX6_count_80 rfl hl (by decide) rfl (fun ls hl => ?_)
    refine lv_iinc (v := (x3 + 1)) (lv' := [(3, .int (x3 + 1)), (2, .int (s1 + s0)), (0, .ref (a 0)), (1, .int p1)]) hx hb dX6_count_81 hl (k := 3) rfl rfl (by decide) rfl (fun ls hl => ?_)
    refine lv_goto (tgt := 58) hx hb dX6_count_84 (by decide) ?_
    exact C58 (s1 + s0) (x3 + 1) _ _ _ h hP hS (lv_sub hl [2, 3, 1, 0] rfl)
  have B58 : ∀ (k58 : Int32 → Int32 → Option (Int32)) (C58 : ∀ (x2 : Int32) (x3 : Int32) (H : Heap) (locs : List Loc) (ls : Array Slot), k58 x2 x3 = some r → va_P g.1 vwCl (wl 14 a (eN g a M)) H → va_S (aA 14 a s.heap.size) s.heap H locs → lv_has ls 4 [(0, .ref (a 0)), (1, .int p1), (2, .int x2), (3, .int x3)] → W p l e rmX6_count s m args below meth c H locs 0 0 Qz (F0 m 58 ls [])), ∀ (x2 : Int32) (x3 : Int32) (H : Heap) (locs : List Loc) (ls : Array Slot), fX6_count_b58 p1 M k58 x2 x3 = some r → va_P g.1 vwCl (wl 14 a (eN g a M)) H → va_S (aA 14 a s.heap.size) s.heap H locs → lv_has ls 4 [(0, .ref (a 0)), (1, .int p1), (2, .int x2), (3, .int x3)] → W p l e rmX6_count s m args below meth c H locs 0 0 Qz (F0 m 58 ls []) := by
    intro k58 C58 x2 x3 H locs ls h hP hS hl
    unfold fX6_count_b58 at h
    refine lv_iload_n hx hb dX6_count_58 rfl (lv_at hl 3 rfl) ?_
    refine lv_bipush (v := 8) hx hb dX6_count_59 (by decide) ?_
    refine lv_icmp_ge (x := x3) (y := 8) (tgt := 87) hx hb dX6_count_61 (by decide) (fun q1 => ?_) (fun q1 => ?_)
    · replace h := if_t q1 h
      refine lv_iload_n hx hb dX6_count_87 rfl (lv_at hl 2 rfl) ?_
      rw [hQz]
      exact r_iret (v := x2) hx hb hr hlk hS hP (Option.some.inj h) dX6_count_88
    · replace h := if_f q1 h
      refine lv_iload_n hx hb dX6_count_64 rfl (lv_at hl 2 rfl) ?_
      refine lv_aload_n hx hb dX6_count_65 rfl (lv_at hl 0 rfl) ?_
      refine r_get (v := .ref (a 1)) hx hb hts iX6 hown hK hP 0 (by decide) eN_0 rfl 0 (by decide) w7 rfl dX6_count_66 ?_
      refine lv_iload_n hx hb dX6_count_69 rfl (lv_at hl 3 rfl) ?_
      obtain ⟨q2, h⟩ := chk_ok h
      refine r_iald (i := x3) (h := M 1) hx hb hK hP 1 (by decide) rfl q2 dX6_count_70 ?_
      refine lv_if_ge (x := (M 1 (Int32.toNatClampNeg x3))) (tgt := 78) hx hb dX6_count_71 (by decide) (fun q3 => ?_) (fun q3 => ?_)
      · replace h := if_t q3 h
        refine lv_iconst (v := 1) hx hb dX6_count_78 (by decide) ?_
        exact B79 k58 C58 x3 1 x2 _ _ _ h hP hS (lv_sub hl [0, 1, 3] rfl)
      · replace h := if_f q3 h
        refine lv_iconst (v := 0) hx hb dX6_count_74 (by decide) ?_
        refine lv_goto (tgt := 79) hx hb dX6_count_75 (by decide) ?_
        exact B79 k58 C58 x3 0 x2 _ _ _ h hP hS (lv_sub hl [0, 1, 3] rfl)
  have L58 : ∀ (n : Nat), ∀ (x2 : Int32) (x3 : Int32) (H : Heap) (locs : List Loc) (ls : Array Slot), fX6_count_l58 p1 M n x2 x3 = some r → va_P g.1 vwCl (wl 14 a (eN g a M)) H → va_S (aA 14 a s.heap.size) s.heap H locs → lv_has ls 4 [(0, .ref (a 0)), (1, .int p1), (2, .int x2), (3, .int x3)] → W p l e rmX6_count s m args below meth c H locs 0 0 Qz (F0 m 58 ls []) := by
    intro n
    induction n with
    | zero => intro x2 x3 H locs ls h; exact absurd (show (none : Option (Int32)) = some _ from h) (fun z => by cases z)
    | succ n ih => exact fun x2 x3 H locs ls h hP hS hl => B58 (fX6_count_l58 p1 M n) ih x2 x3 H locs ls h hP hS hl
  unfold fX6_count at h
  refine lv_iconst (v := 0) hx hb dX6_count_0 (by decide) ?_
  refine lv_istore_n (lv' := [(2, .int 0), (0, .ref (a 0)), (1, .int p1)]) hx hb dX6_count_1 rfl hl (by decide) rfl (fun ls hl => ?_)
  refine lv_iload_n hx hb dX6_count_2 rfl (lv_at hl 2 rfl) ?_
  by_cases q1 : p1 = 0
  · replace h := if_t q1 h
    refine lv_tableIn (x := p1) (tgt := 56) (off := 53) hx hb dX6_count_3 (by rw [q1]; decide) (by rw [q1]; decide) (by rw [q1]; decide) (by decide) ?_
    refine lv_iconst (v := 0) hx hb dX6_count_56 (by decide) ?_
    refine lv_istore_n (lv' := [(3, .int 0), (2, .int 0), (0, .ref (a 0)), (1, .int p1)]) hx hb dX6_count_57 rfl hl (by decide) rfl (fun ls hl => ?_)
    exact L58 FU 0 0 _ _ _ h hP hS (lv_sub hl [2, 3, 1, 0] rfl)
  replace h := if_f q1 h
  by_cases q2 : p1 = 1
  · replace h := if_t q2 h
    refine lv_tableIn (x := p1) (tgt := 89) (off := 86) hx hb dX6_count_3 (by rw [q2]; decide) (by rw [q2]; decide) (by rw [q2]; decide) (by decide) ?_
    refine lv_aload_n hx hb dX6_count_89 rfl (lv_at hl 1 rfl) ?_
    refine r_get (v := .ref (a 6)) hx hb hts iX6 hown hK hP 0 (by decide) eN_0 rfl 8 (by decide) w25 rfl dX6_count_90 ?_
    refine lv_bipush (v := 17) hx hb dX6_count_93 (by decide) ?_
    obtain ⟨q3, h⟩ := chk_ok h
    refine r_iald (i := 17) (h := M 6) hx hb hK hP 6 (by decide) rfl q3 dX6_count_95 ?_
    rw [hQz]
    exact r_iret (v := (M 6 (Int32.toNatClampNeg 17))) hx hb hr hlk hS hP (Option.some.inj h) dX6_count_96
  replace h := if_f q2 h
  by_cases q4 : p1 = 2
  · replace h := if_t q4 h
    refine lv_tableIn (x := p1) (tgt := 97) (off := 94) hx hb dX6_count_3 (by rw [q4]; decide) (by rw [q4]; decide) (by rw [q4]; decide) (by decide) ?_
    refine lv_aload_n hx hb dX6_count_97 rfl (lv_at hl 1 rfl) ?_
    refine r_get (v := .ref (a 6)) hx hb hts iX6 hown hK hP 0 (by decide) eN_0 rfl 8 (by decide) w25 rfl dX6_count_98 ?_
    refine lv_bipush (v := 16) hx hb dX6_count_101 (by decide) ?_
    obtain ⟨q5, h⟩ := chk_ok h
    refine r_iald (i := 16) (h := M 6) hx hb hK hP 6 (by decide) rfl q5 dX6_count_103 ?_
    rw [hQz]
    exact r_iret (v := (M 6 (Int32.toNatClampNeg 16))) hx hb hr hlk hS hP (Option.some.inj h) dX6_count_104
  replace h := if_f q4 h
  by_cases q6 : p1 = 3
  · replace h := if_t q6 h
    refine lv_tableIn (x := p1) (tgt := 105) (off := 102) hx hb dX6_count_3 (by rw [q6]; decide) (by rw [q6]; decide) (by rw [q6]; decide) (by decide) ?_
    refine lv_aload_n hx hb dX6_count_105 rfl (lv_at hl 1 rfl) ?_
    refine r_get (v := .ref (a 6)) hx hb hts iX6 hown hK hP 0 (by decide) eN_0 rfl 8 (by decide) w25 rfl dX6_count_106 ?_
    refine lv_iconst (v := 0) hx hb dX6_count_109 (by decide) ?_
    obtain ⟨q7, h⟩ := chk_ok h
    refine r_iald (i := 0) (h := M 6) hx hb hK hP 6 (by decide) rfl q7 dX6_count_110 ?_
    rw [hQz]
    exact r_iret (v := (M 6 (Int32.toNatClampNeg 0))) hx hb hr hlk hS hP (Option.some.inj h) dX6_count_111
  replace h := if_f q6 h
  by_cases q8 : p1 = 4
  · replace h := if_t q8 h
    refine lv_tableIn (x := p1) (tgt := 112) (off := 109) hx hb dX6_count_3 (by rw [q8]; decide) (by rw [q8]; decide) (by rw [q8]; decide) (by decide) ?_
    refine lv_aload_n hx hb dX6_count_112 rfl (lv_at hl 1 rfl) ?_
    refine r_get (v := .ref (a 6)) hx hb hts iX6 hown hK hP 0 (by decide) eN_0 rfl 8 (by decide) w25 rfl dX6_count_113 ?_
    refine lv_iconst (v := 1) hx hb dX6_count_116 (by decide) ?_
    obtain ⟨q9, h⟩ := chk_ok h
    refine r_iald (i := 1) (h := M 6) hx hb hK hP 6 (by decide) rfl q9 dX6_count_117 ?_
    rw [hQz]
    exact r_iret (v := (M 6 (Int32.toNatClampNeg 1))) hx hb hr hlk hS hP (Option.some.inj h) dX6_count_118
  replace h := if_f q8 h
  by_cases q10 : p1 = 5
  · replace h := if_t q10 h
    refine lv_tableIn (x := p1) (tgt := 119) (off := 116) hx hb dX6_count_3 (by rw [q10]; decide) (by rw [q10]; decide) (by rw [q10]; decide) (by decide) ?_
    refine lv_iconst (v := 0) hx hb dX6_count_119 (by decide) ?_
    refine lv_istore_n (lv' := [(3, .int 0), (2, .int 0), (0, .ref (a 0)), (1, .int p1)]) hx hb dX6_count_120 rfl hl (by decide) rfl (fun ls hl => ?_)
    exact L121 FU 0 0 _ _ _ h hP hS (lv_sub hl [2, 3, 1, 0] rfl)
  replace h := if_f q10 h
  by_cases q11 : p1 = 6
  · replace h := if_t q11 h
    refine lv_tableIn (x := p1) (tgt := 160) (off := 157) hx hb dX6_count_3 (by rw [q11]; decide) (by rw [q11]; decide) (by rw [q11]; decide) (by decide) ?_
    refine lv_iconst (v := 0) hx hb dX6_count_160 (by decide) ?_
    refine lv_istore_n (lv' := [(3, .int 0), (2, .int 0), (0, .ref (a 0)), (1, .int p1)]) hx hb dX6_count_161 rfl hl (by decide) rfl (fun ls hl => ?_)
    exact L162 FU 0 0 _ _ _ h hP hS (lv_sub hl [2, 3, 1, 0] rfl)
  replace h := if_f q11 h
  by_cases q12 : p1 = 7
  · replace h := if_t q12 h
    refine lv_tableIn (x := p1) (tgt := 203) (off := 200) hx hb dX6_count_3 (by rw [q12]; decide) (by rw [q12]; decide) (by rw [q12]; decide) (by decide) ?_
    refine lv_aload_n hx hb dX6_count_203 rfl (lv_at hl 1 rfl) ?_
    refine r_get (v := .ref (a 6)) hx hb hts iX6 hown hK hP 0 (by decide) eN_0 rfl 8 (by decide) w25 rfl dX6_count_204 ?_
    obtain ⟨r13, e14, h⟩ := bdP_ok h
    refine r_callSi (As := [.ref (a 6)]) (rest := []) (ws' := (wl 14 a (eN g a M))) (ok_X6_offIn l g (fun _ => a 6) C_ij (gC M 6) r13 e14) ⟨hx, hb, hml, hown, hts⟩ (cwS 1 hts gX6_count_X6_offIn rfl rfl rfl (by decide +kernel) ⟨Nat.le_of_ble_eq_true rfl, Nat.le_of_ble_eq_true rfl⟩) hK hS (C_cut (c := 6) (by decide) hP) (C_A (c := 6) (by decide) hS.1) (C_keep (c := 6) (by decide) hI hP) rfl hl.1 rfl (Nat.le_of_ble_eq_true rfl) dX6_count_207 ⟨Nat.zero_le _, Nat.zero_le _⟩ (fun H locs hP hS => ?_)
    rw [hQz]
    exact r_iret (v := r13) hx hb hr hlk hS hP (Option.some.inj h) dX6_count_210
  replace h := if_f q12 h
  by_cases q15 : p1 = 8
  · replace h := if_t q15 h
    refine lv_tableIn (x := p1) (tgt := 211) (off := 208) hx hb dX6_count_3 (by rw [q15]; decide) (by rw [q15]; decide) (by rw [q15]; decide) (by decide) ?_
    refine lv_aload_n hx hb dX6_count_211 rfl (lv_at hl 1 rfl) ?_
    refine r_get (v := .int (M 0 13)) hx hb hts iX6 hown hK hP 0 (by decide) eN_0 rfl 13 (by decide) w115 rfl dX6_count_212 ?_
    rw [hQz]
    exact r_iret (v := (M 0 13)) hx hb hr hlk hS hP (Option.some.inj h) dX6_count_215
  replace h := if_f q15 h
  by_cases q16 : p1 = 9
  · replace h := if_t q16 h
    refine lv_tableIn (x := p1) (tgt := 216) (off := 213) hx hb dX6_count_3 (by rw [q16]; decide) (by rw [q16]; decide) (by rw [q16]; decide) (by decide) ?_
    refine lv_aload_n hx hb dX6_count_216 rfl (lv_at hl 1 rfl) ?_
    refine r_get (v := .int (M 0 6)) hx hb hts iX6 hown hK hP 0 (by decide) eN_0 rfl 6 (by decide) w79 rfl dX6_count_217 ?_
    rw [hQz]
    exact r_iret (v := (M 0 6)) hx hb hr hlk hS hP (Option.some.inj h) dX6_count_220
  replace h := if_f q16 h
  have tq1 := lv_neT q1 (show (0 : Int32).toInt = 0 from rfl)
  have tq2 := lv_neT q2 (show (1 : Int32).toInt = 1 from rfl)
  have tq4 := lv_neT q4 (show (2 : Int32).toInt = 2 from rfl)
  have tq6 := lv_neT q6 (show (3 : Int32).toInt = 3 from rfl)
  have tq8 := lv_neT q8 (show (4 : Int32).toInt = 4 from rfl)
  have tq10 := lv_neT q10 (show (5 : Int32).toInt = 5 from rfl)
  have tq11 := lv_neT q11 (show (6 : Int32).toInt = 6 from rfl)
  have tq12 := lv_neT q12 (show (7 : Int32).toInt = 7 from rfl)
  have tq15 := lv_neT q15 (show (8 : Int32).toInt = 8 from rfl)
  have tq16 := lv_neT q16 (show (9 : Int32).toInt = 9 from rfl)
  refine lv_tableOut (x := p1) (tgt := 221) hx hb dX6_count_3 (by omega) (by decide) ?_
  refine lv_ldc (v := (-1000001)) hx hb hown w65 dX6_count_221 ?_
  rw [hQz]
  exact r_iret (v := (-1000001)) hx hb hr hlk hS hP (Option.some.inj h) dX6_count_223
def rmX6_status : Room := { frames := 1, cells := 0, slots := 0, locals := 60 }
set_option maxHeartbeats 4000000 in
set_option maxRecDepth 100000 in
theorem ok_X6_status (l : Launch) (g : gT) (a : Nat → Nat) (hI : ij 14 a) (M : Mem) (r : Int32) (h : fX6_status M = some r) : MI l yX6_status wsX6_status rmX6_status g 14 a [.ref (a 0)] (wl 14 a (eN g a M)) (wl 14 a (eN g a M)) r := by
  refine MI_of (cc := cX6_status) (maxL := 1) (rt := .int) (by decide) rfl (Nat.le_of_ble_eq_true rfl) ?_
  intro p e s m args below meth c ls hx hb hml hr hlk hts hown hK hP hl
  have hown : s.vm.findClass RX6 = some m.cls := hown
  have hl : lv_has ls 1 [(0, .ref (a 0))] := hl
  have hS : va_S (aA 14 a s.heap.size) s.heap s.heap [] := va_S.rf
  have iX6 : ∀ w ∈ wsX60, w ∈ wsX6_status := fun w h => List.mem_cons_of_mem _ (List.mem_append_right _ h)
  have w57 := hts (.fieldLink RX6 57 "StepRidersModel" "status" "I") (by decide +kernel)
  obtain ⟨Qz, hQz⟩ : ∃ Qz : State → Prop, Qz = MQ below (qI g (wl 14 a (eN g a M)) r (aA 14 a s.heap.size)) args s 0 0 (aA 14 a s.heap.size) := ⟨_, rfl⟩
  rw [← hQz]
  unfold fX6_status at h
  refine lv_aload_n hx hb dX6_status_0 rfl (lv_at hl 0 rfl) ?_
  refine r_get (v := .int (M 0 4)) hx hb hts iX6 hown hK hP 0 (by decide) eN_0 rfl 4 (by decide) w57 rfl dX6_status_1 ?_
  rw [hQz]
  exact r_iret (v := (M 0 4)) hx hb hr hlk hS hP (Option.some.inj h) dX6_status_4
