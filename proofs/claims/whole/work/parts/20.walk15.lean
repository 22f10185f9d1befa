def rmX6_sorting : Room := { frames := 6, cells := 0, slots := 0, locals := 178 }
set_option maxHeartbeats 4000000 in
set_option maxRecDepth 100000 in
theorem ok_X6_sorting (l : Launch) (g : gT) (a : Nat → Nat) (hI : ij 14 a) (p1 : Int32) (M : Mem) (M' : Mem) (r : Int32) (h : fX6_sorting p1 M = some (r, M')) : MI l yX6_sorting wsX6_sorting rmX6_sorting g 14 a [.ref (a 0), .int p1] (wl 14 a (eN g a M)) (wl 14 a (eN g a M')) r := by
  refine MI_of (cc := cX6_sorting) (maxL := 8) (rt := .int) (by decide) rfl (Nat.le_of_ble_eq_true rfl) ?_
  intro p e s m args below meth c ls hx hb hml hr hlk hts hown hK hP hl
  have hown : s.vm.findClass RX6 = some m.cls := hown
  have hl : lv_has ls 8 [(0, .ref (a 0)), (1, .int p1)] := hl
  have hS : va_S (aA 14 a s.heap.size) s.heap s.heap [] := va_S.rf
  have iX6 : ∀ w ∈ wsX60, w ∈ wsX6_sorting := fun w h => List.mem_cons_of_mem _ (List.mem_append_right _ h)
  have w154 := hts (.constant RX6 154 (-1000000)) (by decide +kernel)
  have w25 := hts (.fieldLink RX6 25 "StepRidersModel" "s" "[I") (by decide +kernel)
  have w41 := hts (.fieldLink RX6 41 "StepRidersModel" "then" "[I") (by decide +kernel)
  have w65 := hts (.constant RX6 65 (-1000001)) (by decide +kernel)
  have w136 := hts (.constant RX6 136 (-1000002)) (by decide +kernel)
  obtain ⟨Qz, hQz⟩ : ∃ Qz : State → Prop, Qz = MQ below (qI g (wl 14 a (eN g a M')) r (aA 14 a s.heap.size)) args s 0 0 (aA 14 a s.heap.size) := ⟨_, rfl⟩
  rw [← hQz]
  have B190 : ∀ (x3 : Int32) (x4 : Int32) (M : Mem) (H : Heap) (locs : List Loc) (ls : Array Slot), fX6_sorting_b190 p1 x3 x4 M = some (r, M') → va_P g.1 vwCl (wl 14 a (eN g a M)) H → va_S (aA 14 a s.heap.size) s.heap H locs → lv_has ls 8 [(0, .ref (a 0)), (1, .int p1), (3, .int x3), (4, .int x4)] → W p l e rmX6_sorting s m args below meth c H locs 0 0 Qz (F0 m 190 ls []) := by
    intro x3 x4 M H locs ls h hP hS hl
    unfold fX6_sorting_b190 at h
    refine lv_iload_n hx hb dX6_sorting_190 rfl (lv_at hl 1 rfl) ?_
    refine lv_if_ne (x := p1) (tgt := 199) hx hb dX6_sorting_191 (by decide) (fun q1 => ?_) (fun q1 => ?_)
    · replace h := if_f q1 h
      refine lv_iload_n hx hb dX6_sorting_199 rfl (lv_at hl 2 rfl) ?_
      rw [hQz]
      exact r_iret (v := x3) hx hb hr hlk hS ((Prod.mk.inj (Option.some.inj h)).2 ▸ hP) (Prod.mk.inj (Option.some.inj h)).1 dX6_sorting_200
    · replace h := if_t q1 h
      refine lv_iload hx hb dX6_sorting_194 (lv_at hl 3 rfl) ?_
      refine lv_goto (tgt := 200) hx hb dX6_sorting_196 (by decide) ?_
      rw [hQz]
      exact r_iret (v := x4) hx hb hr hlk hS ((Prod.mk.inj (Option.some.inj h)).2 ▸ hP) (Prod.mk.inj (Option.some.inj h)).1 dX6_sorting_200
  have B184 : ∀ (k37 : Int32 → Int32 → Int32 → Int32 → Mem → Option (Int32 × Mem)) (C37 : ∀ (x2 : Int32) (x3 : Int32) (x4 : Int32) (x5 : Int32) (M : Mem) (H : Heap) (locs : List Loc) (ls : Array Slot), k37 x2 x3 x4 x5 M = some (r, M') → va_P g.1 vwCl (wl 14 a (eN g a M)) H → va_S (aA 14 a s.heap.size) s.heap H locs → lv_has ls 8 [(0, .ref (a 0)), (1, .int p1), (2, .int x2), (3, .int x3), (4, .int x4), (5, .int x5)] → W p l e rmX6_sorting s m args below meth c H locs 0 0 Qz (F0 m 37 ls [])), ∀ (x2 : Int32) (x3 : Int32) (x4 : Int32) (x5 : Int32) (M : Mem) (H : Heap) (locs : List Loc) (ls : Array Slot), fX6_sorting_b184 p1 k37 x2 x3 x4 x5 M = some (r, M') → va_P g.1 vwCl (wl 14 a (eN g a M)) H → va_S (aA 14 a s.heap.size) s.heap H locs → lv_has ls 8 [(0, .ref (a 0)), (1, .int p1), (2, .int x2), (3, .int x3), (4, .int x4), (5, .int x5)] → W p l e rmX6_sorting s m args below meth c H locs 0 0 Qz (F0 m 184 ls []) := by
    intro k37 C37 x2 x3 x4 x5 M H locs ls h hP hS hl
    unfold fX6_sorting_b184 at h
    refine lv_iinc (v := (x5 + 1)) (lv' := [(5, .int (x5 + 1)), (0, .ref (a 0)), (1, .int p1), (2, .int x2), (3, .int x3), (4, .int x4)]) hx hb dX6_sorting_184 hl (k := 5) rfl rfl (by decide) rfl (fun ls hl => ?_)
    refine lv_goto (tgt := 37) hx hb dX6_sorting_187 (by decide) ?_
    exact C37 x2 x3 x4 (x5 + 1) M _ _ _ h hP hS (lv_sub hl [1, 2, 3, 4, 5, 0] rfl)
  have B182 : ∀ (k37 : Int32 → Int32 → Int32 → Int32 → Mem → Option (Int32 × Mem)) (C37 : ∀ (x2 : Int32) (x3 : Int32) (x4 : Int32) (x5 : Int32) (M : Mem) (H : Heap) (locs : List Loc) (ls : Array Slot), k37 x2 x3 x4 x5 M = some (r, M') → va_P g.1 vwCl (wl 14 a (eN g a M)) H → va_S (aA 14 a s.heap.size) s.heap H locs → lv_has ls 8 [(0, .ref (a 0)), (1, .int p1), (2, .int x2), (3, .int x3), (4, .int x4), (5, .int x5)] → W p l e rmX6_sorting s m args below meth c H locs 0 0 Qz (F0 m 37 ls [])), ∀ (x2 : Int32) (x3 : Int32) (x5 : Int32) (s0 : Int32) (M : Mem) (H : Heap) (locs : List Loc) (ls : Array Slot), fX6_sorting_b182 p1 k37 x2 x3 x5 s0 M = some (r, M') → va_P g.1 vwCl (wl 14 a (eN g a M)) H → va_S (aA 14 a s.heap.size) s.heap H locs → lv_has ls 8 [(0, .ref (a 0)), (1, .int p1), (2, .int x2), (3, .int x3), (5, .int x5)] → W p l e rmX6_sorting s m args below meth c H locs 0 0 Qz (F0 m 182 ls [.int s0]) := by
    intro k37 C37 x2 x3 x5 s0 M H locs ls h hP hS hl
    unfold fX6_sorting_b182 at h
    refine lv_istore (lv' := [(4, .int s0), (0, .ref (a 0)), (1, .int p1), (2, .int x2), (3, .int x3), (5, .int x5)]) hx hb dX6_sorting_182 hl (by decide) rfl (fun ls hl => ?_)
    exact B184 k37 C37 x2 x3 s0 x5 M _ _ _ h hP hS (lv_sub hl [1, 2, 3, 4, 0, 5] rfl)
  have B169 : ∀ (k37 : Int32 → Int32 → Int32 → Int32 → Mem → Option (Int32 × Mem)) (C37 : ∀ (x2 : Int32) (x3 : Int32) (x4 : Int32) (x5 : Int32) (M : Mem) (H : Heap) (locs : List Loc) (ls : Array Slot), k37 x2 x3 x4 x5 M = some (r, M') → va_P g.1 vwCl (wl 14 a (eN g a M)) H → va_S (aA 14 a s.heap.size) s.heap H locs → lv_has ls 8 [(0, .ref (a 0)), (1, .int p1), (2, .int x2), (3, .int x3), (4, .int x4), (5, .int x5)] → W p l e rmX6_sorting s m args below meth c H locs 0 0 Qz (F0 m 37 ls [])), ∀ (x2 : Int32) (x4 : Int32) (x5 : Int32) (x6 : Int32) (x7 : Int32) (s0 : Int32) (M : Mem) (H : Heap) (locs : List Loc) (ls : Array Slot), fX6_sorting_b169 p1 k37 x2 x4 x5 x6 x7 s0 M = some (r, M') → va_P g.1 vwCl (wl 14 a (eN g a M)) H → va_S (aA 14 a s.heap.size) s.heap H locs → lv_has ls 8 [(0, .ref (a 0)), (1, .int p1), (2, .int x2), (4, .int x4), (5, .int x5), (6, .int x6), (7, .int x7)] → W p l e rmX6_sorting s m args below meth c H locs 0 0 Qz (F0 m 169 ls [.int s0]) := by
    intro k37 C37 x2 x4 x5 x6 x7 s0 M H locs ls h hP hS hl
    unfold fX6_sorting_b169 at h
    refine lv_istore_n (lv' := [(3, .int s0), (0, .ref (a 0)), (1, .int p1), (2, .int x2), (4, .int x4), (5, .int x5), (6, .int x6), (7, .int x7)]) hx hb dX6_sorting_169 rfl hl (by decide) rfl (fun ls hl => ?_)
    refine lv_iload hx hb dX6_sorting_170 (lv_at hl 7 rfl) ?_
    refine lv_if_eq (x := x7) (tgt := 180) hx hb dX6_sorting_172 (by decide) (fun q1 => ?_) (fun q1 => ?_)
    · replace h := if_t q1 h
      refine lv_iload hx hb dX6_sorting_180 (lv_at hl 4 rfl) ?_
      exact B182 k37 C37 x2 s0 x5 x4 M _ _ _ h hP hS (lv_sub hl [1, 2, 3, 0, 5] rfl)
    · replace h := if_f q1 h
      refine lv_iload hx hb dX6_sorting_175 (lv_at hl 6 rfl) ?_
      refine lv_goto (tgt := 182) hx hb dX6_sorting_177 (by decide) ?_
      exact B182 k37 C37 x2 s0 x5 x6 M _ _ _ h hP hS (lv_sub hl [1, 2, 3, 0, 5] rfl)
  have B156 : ∀ (k37 : Int32 → Int32 → Int32 → Int32 → Mem → Option (Int32 × Mem)) (C37 : ∀ (x2 : Int32) (x3 : Int32) (x4 : Int32) (x5 : Int32) (M : Mem) (H : Heap) (locs : List Loc) (ls : Array Slot), k37 x2 x3 x4 x5 M = some (r, M') → va_P g.1 vwCl (wl 14 a (eN g a M)) H → va_S (aA 14 a s.heap.size) s.heap H locs → lv_has ls 8 [(0, .ref (a 0)), (1, .int p1), (2, .int x2), (3, .int x3), (4, .int x4), (5, .int x5)] → W p l e rmX6_sorting s m args below meth c H locs 0 0 Qz (F0 m 37 ls [])), ∀ (x2 : Int32) (x3 : Int32) (x4 : Int32) (x5 : Int32) (x6 : Int32) (s0 : Int32) (M : Mem) (H : Heap) (locs : List Loc) (ls : Array Slot), fX6_sorting_b156 p1 k37 x2 x3 x4 x5 x6 s0 M = some (r, M') → va_P g.1 vwCl (wl 14 a (eN g a M)) H → va_S (aA 14 a s.heap.size) s.heap H locs → lv_has ls 8 [(0, .ref (a 0)), (1, .int p1), (2, .int x2), (3, .int x3), (4, .int x4), (5, .int x5), (6, .int x6)] → W p l e rmX6_sorting s m args below meth c H locs 0 0 Qz (F0 m 156 ls [.int s0]) := by
    intro k37 C37 x2 x3 x4 x5 x6 s0 M H locs ls h hP hS hl
    unfold fX6_sorting_b156 at h
    refine lv_istore (lv' := [(7, .int s0), (0, .ref (a 0)), (1, .int p1), (2, .int x2), (3, .int x3), (4, .int x4), (5, .int x5), (6, .int x6)]) hx hb dX6_sorting_156 hl (by decide) rfl (fun ls hl => ?_)
    refine lv_iload hx hb dX6_sorting_158 (lv_at hl 0 rfl) ?_
    refine lv_if_eq (x := s0) (tgt := 168) hx hb dX6_sorting_160 (by decide) (fun q1 => ?_) (fun q1 => ?_)
    · replace h := if_t q1 h
      refine lv_iload_n hx hb dX6_sorting_168 rfl (lv_at hl 4 rfl) ?_
      exact B169 k37 C37 x2 x4 x5 x6 s0 x3 M _ _ _ h hP hS (lv_sub hl [1, 2, 3, 5, 6, 7, 0] rfl)
    · replace h := if_f q1 h
      refine lv_iload hx hb dX6_sorting_163 (lv_at hl 6 rfl) ?_
      refine lv_goto (tgt := 169) hx hb dX6_sorting_165 (by decide) ?_
      exact B169 k37 C37 x2 x4 x5 x6 s0 x5 M _ _ _ h hP hS (lv_sub hl [1, 2, 3, 5, 6, 7, 0] rfl)
  have B155 : ∀ (k37 : Int32 → Int32 → Int32 → Int32 → Mem → Option (Int32 × Mem)) (C37 : ∀ (x2 : Int32) (x3 : Int32) (x4 : Int32) (x5 : Int32) (M : Mem) (H : Heap) (locs : List Loc) (ls : Array Slot), k37 x2 x3 x4 x5 M = some (r, M') → va_P g.1 vwCl (wl 14 a (eN g a M)) H → va_S (aA 14 a s.heap.size) s.heap H locs → lv_has ls 8 [(0, .ref (a 0)), (1, .int p1), (2, .int x2), (3, .int x3), (4, .int x4), (5, .int x5)] → W p l e rmX6_sorting s m args below meth c H locs 0 0 Qz (F0 m 37 ls [])), ∀ (x2 : Int32) (x3 : Int32) (x4 : Int32) (x5 : Int32) (x6 : Int32) (M : Mem) (H : Heap) (locs : List Loc) (ls : Array Slot), fX6_sorting_b155 p1 k37 x2 x3 x4 x5 x6 M = some (r, M') → va_P g.1 vwCl (wl 14 a (eN g a M)) H → va_S (aA 14 a s.heap.size) s.heap H locs → lv_has ls 8 [(0, .ref (a 0)), (1, .int p1), (2, .int x2), (3, .int x3), (4, .int x4), (5, .int x5), (6, .int x6)] → W p l e rmX6_sorting s m args below meth c H locs 0 0 Qz (F0 m 155 ls []) := by
    intro k37 C37 x2 x3 x4 x5 x6 M H locs ls h hP hS hl
    unfold fX6_sorting_b155 at h
    refine lv_iconst (v := 0) hx hb dX6_sorting_155 (by decide) ?_
    exact B156 k37 C37 x2 x3 x4 x5 x6 0 M _ _ _ h hP hS (lv_sub hl [0, 1, 2, 3, 4, 5, 6] rfl)
  have B151 : ∀ (k37 : Int32 → Int32 → Int32 → Int32 → Mem → Option (Int32 × Mem)) (C37 : ∀ (x2 : Int32) (x3 : Int32) (x4 : Int32) (x5 : Int32) (M : Mem) (H : Heap) (locs : List Loc) (ls : Array Slot), k37 x2 x3 x4 x5 M = some (r, M') → va_P g.1 vwCl (wl 14 a (eN g a M)) H → va_S (aA 14 a s.heap.size) s.heap H locs → lv_has ls 8 [(0, .ref (a 0)), (1, .int p1), (2, .int x2), (3, .int x3), (4, .int x4), (5, .int x5)] → W p l e rmX6_sorting s m args below meth c H locs 0 0 Qz (F0 m 37 ls [])), ∀ (x2 : Int32) (x3 : Int32) (x4 : Int32) (x5 : Int32) (x6 : Int32) (M : Mem) (H : Heap) (locs : List Loc) (ls : Array Slot), fX6_sorting_b151 p1 k37 x2 x3 x4 x5 x6 M = some (r, M') → va_P g.1 vwCl (wl 14 a (eN g a M)) H → va_S (aA 14 a s.heap.size) s.heap H locs → lv_has ls 8 [(0, .ref (a 0)), (1, .int p1), (2, .int x2), (3, .int x3), (4, .int x4), (5, .int x5), (6, .int x6)] → W p l e rmX6_sorting s m args below meth c H locs 0 0 Qz (F0 m 151 ls []) := by
    intro k37 C37 x2 x3 x4 x5 x6 M H locs ls h hP hS hl
    unfold fX6_sorting_b151 at h
    refine lv_iconst (v := 1) hx hb dX6_sorting_151 (by decide) ?_
    refine lv_goto (tgt := 156) hx hb dX6_sorting_152 (by decide) ?_
    exact B156 k37 C37 x2 x3 x4 x5 x6 1 M _ _ _ h hP hS (lv_sub hl [0, 1, 2, 3, 4, 5, 6] rfl)
  have B124 : ∀ (k37 : Int32 → Int32 → Int32 → Int32 → Mem → Option (Int32 × Mem)) (C37 : ∀ (x2 : Int32) (x3 : Int32) (x4 : Int32) (x5 : Int32) (M : Mem) (H : Heap) (locs : List Loc) (ls : Array Slot), k37 x2 x3 x4 x5 M = some (r, M') → va_P g.1 vwCl (wl 14 a (eN g a M)) H → va_S (aA 14 a s.heap.size) s.heap H locs → lv_has ls 8 [(0, .ref (a 0)), (1, .int p1), (2, .int x2), (3, .int x3), (4, .int x4), (5, .int x5)] → W p l e rmX6_sorting s m args below meth c H locs 0 0 Qz (F0 m 37 ls [])), ∀ (x2 : Int32) (x3 : Int32) (x4 : Int32) (x5 : Int32) (M : Mem) (H : Heap) (locs : List Loc) (ls : Array Slot), fX6_sorting_b124 p1 k37 x2 x3 x4 x5 M = some (r, M') → va_P g.1 vwCl (wl 14 a (eN g a M)) H → va_S (aA 14 a s.heap.size) s.heap H locs → lv_has ls 8 [(0, .ref (a 0)), (1, .int p1), (2, .int x2), (3, .int x3), (4, .int x4), (5, .int x5)] → W p l e rmX6_sorting s m args below meth c H locs 0 0 Qz (F0 m 124 ls []) := by
    intro k37 C37 x2 x3 x4 x5 M H locs ls h hP hS hl
    unfold fX6_sorting_b124 at h
    refine lv_aload_n hx hb dX6_sorting_124 rfl (lv_at hl 0 rfl) ?_
    obtain ⟨r1, M3, e2, h⟩ := bdI_ok h
    refine r_callVi (As := []) (rest := []) (ws' := (wl 14 a (eN g a M3))) (ok_X6_clears l g a hI M M3 r1 e2) ⟨hx, hb, hml, hown, hts⟩ (cwV 0 hts gX6_sorting_X6_clears rfl rfl rfl (by decide +kernel) ⟨Nat.le_of_ble_eq_true rfl, Nat.le_of_ble_eq_true rfl⟩) hK (r_recv hK hP 0 (by decide) eN_0 (show vwCl[6]? = some (RX6, TX6, 20) from rfl)) hS hP (fun _ hq => aA_mono hS.1 hq) (fun _ h _ => h) rfl hl.1 rfl (Nat.le_of_ble_eq_true rfl) dX6_sorting_125 ⟨Nat.zero_le _, Nat.zero_le _⟩ (fun H locs hP hS => ?_)
    refine lv_istore (lv' := [(6, .int r1), (0, .ref (a 0)), (1, .int p1), (2, .int x2), (3, .int x3), (4, .int x4), (5, .int x5)]) hx hb dX6_sorting_128 hl (by decide) rfl (fun ls hl => ?_)
    refine lv_iload hx hb dX6_sorting_130 (lv_at hl 0 rfl) ?_
    refine lv_ldc (v := (-1000000)) hx hb hown w154 dX6_sorting_132 ?_
    refine lv_icmp_eq (x := r1) (y := (-1000000)) (tgt := 155) hx hb dX6_sorting_134 (by decide) (fun q4 => ?_) (fun q4 => ?_)
    · replace h := if_t q4 h
      exact B155 k37 C37 x2 x3 x4 x5 r1 M3 _ _ _ h hP hS (lv_sub hl [1, 2, 3, 4, 5, 6, 0] rfl)
    · replace h := if_f q4 h
      refine lv_iload hx hb dX6_sorting_137 (lv_at hl 5 rfl) ?_
      refine lv_ldc (v := (-1000000)) hx hb hown w154 dX6_sorting_139 ?_
      refine lv_icmp_eq (x := x4) (y := (-1000000)) (tgt := 151) hx hb dX6_sorting_141 (by decide) (fun q5 => ?_) (fun q5 => ?_)
      · replace h := if_t q5 h
        exact B151 k37 C37 x2 x3 x4 x5 r1 M3 _ _ _ h hP hS (lv_sub hl [1, 2, 3, 4, 5, 6, 0] rfl)
      · replace h := if_f q5 h
        refine lv_iload hx hb dX6_sorting_144 (lv_at hl 0 rfl) ?_
        refine lv_iload hx hb dX6_sorting_146 (lv_at hl 5 rfl) ?_
        refine lv_icmp_ge (x := r1) (y := x4) (tgt := 155) hx hb dX6_sorting_148 (by decide) (fun q6 => ?_) (fun q6 => ?_)
        · replace h := if_t q6 h
          exact B155 k37 C37 x2 x3 x4 x5 r1 M3 _ _ _ h hP hS (lv_sub hl [1, 2, 3, 4, 5, 6, 0] rfl)
        · replace h := if_f q6 h
          exact B151 k37 C37 x2 x3 x4 x5 r1 M3 _ _ _ h hP hS (lv_sub hl [1, 2, 3, 4, 5, 6, 0] rfl)
  have B117 : ∀ (k37 : Int32 → Int32 → Int32 → Int32 → Mem → Option (Int32 × Mem)) (C37 : ∀ (x2 : Int32) (x3 : Int32) (x4 : Int32) (x5 : Int32) (M : Mem) (H : Heap) (locs : List Loc) (ls : Array Slot), k37 x2 x3 x4 x5 M = some (r, M') → va_P g.1 vwCl (wl 14 a (eN g a M)) H → va_S (aA 14 a s.heap.size) s.heap H locs → lv_has ls 8 [(0, .ref (a 0)), (1, .int p1), (2, .int x2), (3, .int x3), (4, .int x4), (5, .int x5)] → W p l e rmX6_sorting s m args below meth c H locs 0 0 Qz (F0 m 37 ls [])) (k67 : Int32 → Int32 → Int32 → Int32 → Int32 → Mem → Option (Int32 × Mem)) (C67 : ∀ (x2 : Int32) (x3 : Int32) (x4 : Int32) (x5 : Int32) (x6 : Int32) (M : Mem) (H : Heap) (locs : List Loc) (ls : Array Slot), k67 x2 x3 x4 x5 x6 M = some (r, M') → va_P g.1 vwCl (wl 14 a (eN g a M)) H → va_S (aA 14 a s.heap.size) s.heap H locs → lv_has ls 8 [(0, .ref (a 0)), (1, .int p1), (2, .int x2), (3, .int x3), (4, .int x4), (5, .int x5), (6, .int x6)] → W p l e rmX6_sorting s m args below meth c H locs 0 0 Qz (F0 m 67 ls [])), ∀ (x2 : Int32) (x3 : Int32) (x4 : Int32) (x5 : Int32) (x6 : Int32) (s0 : Int32) (s1 : Int32) (M : Mem) (H : Heap) (locs : List Loc) (ls : Array Slot), fX6_sorting_b117 p1 k37 k67 x2 x3 x4 x5 x6 s0 s1 M = some (r, M') → va_P g.1 vwCl (wl 14 a (eN g a M)) H → va_S (aA 14 a s.heap.size) s.heap H locs → lv_has ls 8 [(0, .ref (a 0)), (1, .int p1), (2, .int x2), (3, .int x3), (4, .int x4), (5, .int x5), (6, .int x6)] → W p l e rmX6_sorting s m args below meth c H locs 0 0 Qz (F0 m 117 ls [.int s0, .int s1, .ref (a 11)]) := by
    intro k37 C37 k67 C67 x2 x3 x4 x5 x6 s0 s1 M H locs ls h hP hS hl
    unfold fX6_sorting_b117 at h
    obtain ⟨q1, h⟩ := chk_ok h
    refine r_iast (i := s1) (x := s0) (h := M 11) (f' := eN g a (mp M 11 (Int32.toNatClampNeg s1) s0)) hx hb hK hI (fun _ h => aA_in h) hP hS 11 (by decide) rfl q1 (eN_ua (fun _ => rfl)) dX6_sorting_117 (fun H locs hP hS => ?_)
    refine lv_iinc (v := (x6 + 1)) (lv' := [(6, .int (x6 + 1)), (0, .ref (a 0)), (1, .int p1), (2, .int x2), (3, .int x3), (4, .int x4), (5, .int x5)]) hx hb dX6_sorting_118 hl (k := 6) rfl rfl (by decide) rfl (fun ls hl => ?_)
    refine lv_goto (tgt := 67) hx hb dX6_sorting_121 (by decide) ?_
    exact C67 x2 x3 x4 x5 (x6 + 1) (mp M 11 (Int32.toNatClampNeg s1) s0) _ _ _ h hP hS (lv_sub hl [1, 2, 3, 4, 5, 6, 0] rfl)
  have B67 : ∀ (k37 : Int32 → Int32 → Int32 → Int32 → Mem → Option (Int32 × Mem)) (C37 : ∀ (x2 : Int32) (x3 : Int32) (x4 : Int32) (x5 : Int32) (M : Mem) (H : Heap) (locs : List Loc) (ls : Array Slot), k37 x2 x3 x4 x5 M = some (r, M') → va_P g.1 vwCl (wl 14 a (eN g a M)) H → va_S (aA 14 a s.heap.size) s.heap H locs → lv_has ls 8 [(0, .ref (a 0)), (1, .int p1), (2, .int x2), (3, .int x3), (4, .int x4), (5, .int x5)] → W p l e rmX6_sorting s m args below meth c H locs 0 0 Qz (F0 m 37 ls [])) (k67 : Int32 → Int32 → Int32 → Int32 → Int32 → Mem → Option (Int32 × Mem)) (C67 : ∀ (x2 : Int32) (x3 : Int32) (x4 : Int32) (x5 : Int32) (x6 : Int32) (M : Mem) (H : Heap) (locs : List Loc) (ls : Array Slot), k67 x2 x3 x4 x5 x6 M = some (r, M') → va_P g.1 vwCl (wl 14 a (eN g a M)) H → va_S (aA 14 a s.heap.size) s.heap H locs → lv_has ls 8 [(0, .ref (a 0)), (1, .int p1), (2, .int x2), (3, .int x3), (4, .int x4), (5, .int x5), (6, .int x6)] → W p l e rmX6_sorting s m args below meth c H locs 0 0 Qz (F0 m 67 ls [])), ∀ (x2 : Int32) (x3 : Int32) (x4 : Int32) (x5 : Int32) (x6 : Int32) (M : Mem) (H : Heap) (locs : List Loc) (ls : Array Slot), fX6_sorting_b67 p1 k37 k67 x2 x3 x4 x5 x6 M = some (r, M') → va_P g.1 vwCl (wl 14 a (eN g a M)) H → va_S (aA 14 a s.heap.size) s.heap H locs → lv_has ls 8 [(0, .ref (a 0)), (1, .int p1), (2, .int x2), (3, .int x3), (4, .int x4), (5, .int x5), (6, .int x6)] → W p l e rmX6_sorting s m args below meth c H locs 0 0 Qz (F0 m 67 ls []) := by
    intro k37 C37 k67 C67 x2 x3 x4 x5 x6 M H locs ls h hP hS hl
    unfold fX6_sorting_b67 at h
    refine lv_iload hx hb dX6_sorting_67 (lv_at hl 6 rfl) ?_
    refine lv_aload_n hx hb dX6_sorting_69 rfl (lv_at hl 0 rfl) ?_
    refine r_get (v := .ref (a 6)) hx hb hts iX6 hown hK hP 0 (by decide) eN_0 rfl 8 (by decide) w25 rfl dX6_sorting_70 ?_
    refine lv_bipush (v := 17) hx hb dX6_sorting_73 (by decide) ?_
    obtain ⟨q1, h⟩ := chk_ok h
    refine r_iald (i := 17) (h := M 6) hx hb hK hP 6 (by decide) rfl q1 dX6_sorting_75 ?_
    refine lv_icmp_ge (x := x6) (y := (M 6 (Int32.toNatClampNeg 17))) (tgt := 124) hx hb dX6_sorting_76 (by decide) (fun q2 => ?_) (fun q2 => ?_)
    · replace h := if_t q2 h
      exact B124 k37 C37 x2 x3 x4 x5 M _ _ _ h hP hS (lv_sub hl [0, 1, 2, 3, 4, 5] rfl)
    · replace h := if_f q2 h
      refine lv_aload_n hx hb dX6_sorting_79 rfl (lv_at hl 0 rfl) ?_
      refine r_get (v := .ref (a 11)) hx hb hts iX6 hown hK hP 0 (by decide) eN_0 rfl 14 (by decide) w41 rfl dX6_sorting_80 ?_
      refine lv_bipush (v := 9) hx hb dX6_sorting_83 (by decide) ?_
      refine lv_iload hx hb dX6_sorting_85 (lv_at hl 6 rfl) ?_
      refine lv_iadd (x := 9) (y := x6) hx hb dX6_sorting_87 ?_
      refine lv_iload_n hx hb dX6_sorting_88 rfl (lv_at hl 2 rfl) ?_
      refine lv_iload hx hb dX6_sorting_89 (lv_at hl 6 rfl) ?_
      obtain ⟨r3, e4, h⟩ := bdP_ok h
      refine r_callSi (As := [.int x2, .int x6]) (rest := [.int (9 + x6), .ref (a 11)]) (ws' := (wl 14 a (eN g a M))) (ok_X6_has l g x2 x6 r3 e4) ⟨hx, hb, hml, hown, hts⟩ (cwS 2 hts gX6_sorting_X6_has rfl rfl rfl (by decide +kernel) ⟨Nat.le_of_ble_eq_true rfl, Nat.le_of_ble_eq_true rfl⟩) hK hS nilP (P_A hS.1) (fun _ _ hk => wl_keep hP hk) rfl hl.1 rfl (Nat.le_of_ble_eq_true rfl) dX6_sorting_91 ⟨Nat.zero_le _, Nat.zero_le _⟩ (fun H locs hP hS => ?_)
      refine lv_if_eq (x := r3) (tgt := 107) hx hb dX6_sorting_94 (by decide) (fun q5 => ?_) (fun q5 => ?_)
      · replace h := if_t q5 h
        refine lv_aload_n hx hb dX6_sorting_107 rfl (lv_at hl 0 rfl) ?_
        refine r_get (v := .ref (a 11)) hx hb hts iX6 hown hK hP 0 (by decide) eN_0 rfl 14 (by decide) w41 rfl dX6_sorting_108 ?_
        refine lv_bipush (v := 9) hx hb dX6_sorting_111 (by decide) ?_
        refine lv_iload hx hb dX6_sorting_113 (lv_at hl 6 rfl) ?_
        refine lv_iadd (x := 9) (y := x6) hx hb dX6_sorting_115 ?_
        obtain ⟨q6, h⟩ := chk_ok h
        refine r_iald (i := (9 + x6)) (h := M 11) hx hb hK hP 11 (by decide) rfl q6 dX6_sorting_116 ?_
        exact B117 k37 C37 k67 C67 x2 x3 x4 x5 x6 (M 11 (Int32.toNatClampNeg (9 + x6))) (9 + x6) M _ _ _ h hP hS (lv_sub hl [0, 1, 2, 3, 4, 5, 6] rfl)
      · replace h := if_f q5 h
        refine lv_iload hx hb dX6_sorting_97 (lv_at hl 5 rfl) ?_
        refine lv_iload hx hb dX6_sorting_99 (lv_at hl 6 rfl) ?_
        refine lv_ishr (x := x5) (y := x6) hx hb dX6_sorting_101 ?_
        refine lv_iconst (v := 1) hx hb dX6_sorting_102 (by decide) ?_
        refine lv_iand (x := (x5 >>> (x6 &&& 31))) (y := 1) hx hb dX6_sorting_103 ?_
        refine lv_goto (tgt := 117) hx hb dX6_sorting_104 (by decide) ?_
        exact B117 k37 C37 k67 C67 x2 x3 x4 x5 x6 ((x5 >>> (x6 &&& 31)) &&& 1) (9 + x6) M _ _ _ h hP hS (lv_sub hl [0, 1, 2, 3, 4, 5, 6] rfl)
  have L67 : ∀ (k37 : Int32 → Int32 → Int32 → Int32 → Mem → Option (Int32 × Mem)) (C37 : ∀ (x2 : Int32) (x3 : Int32) (x4 : Int32) (x5 : Int32) (M : Mem) (H : Heap) (locs : List Loc) (ls : Array Slot), k37 x2 x3 x4 x5 M = some (r, M') → va_P g.1 vwCl (wl 14 a (eN g a M)) H → va_S (aA 14 a s.heap.size) s.heap H locs → lv_has ls 8 [(0, .ref (a 0)), (1, .int p1), (2, .int x2), (3, .int x3), (4, .int x4), (5, .int x5)] → W p l e rmX6_sorting s m args below meth c H locs 0 0 Qz (F0 m 37 ls [])) (n : Nat), ∀ (x2 : Int32) (x3 : Int32) (x4 : Int32) (x5 : Int32) (x6 : Int32) (M : Mem) (H : Heap) (locs : List Loc) (ls : Array Slot), fX6_sorting_l67 p1 k37 n x2 x3 x4 x5 x6 M = some (r, M') → va_P g.1 vwCl (wl 14 a (eN g a M)) H → va_S (aA 14 a s.heap.size) s.heap H locs → lv_has ls 8 [(0, .ref (a 0)), (1, .int p1), (2, .int x2), (3, .int x3), (4, .int x4), (5, .int x5), (6, .int x6)] → W p l e rmX6_sorting s m args below meth c H locs 0 0 Qz (F0 m 67 ls []) := by
    intro k37 C37 n
    induction n with
    | zero => intro x2 x3 x4 x5 x6 M H locs ls h; exact absurd (show (none : Option (Int32 × Mem)) = some _ from h) (fun z => by cases z)
    | succ n ih => exact fun x2 x3 x4 x5 x6 M H locs ls h hP hS hl => B67 k37 C37 (fX6_sorting_l67 p1 k37 n) ih x2 x3 x4 x5 x6 M H locs ls h hP hS hl
  have B37 : ∀ (k37 : Int32 → Int32 → Int32 → Int32 → Mem → Option (Int32 × Mem)) (C37 : ∀ (x2 : Int32) (x3 : Int32) (x4 : Int32) (x5 : Int32) (M : Mem) (H : Heap) (locs : List Loc) (ls : Array Slot), k37 x2 x3 x4 x5 M = some (r, M') → va_P g.1 vwCl (wl 14 a (eN g a M)) H → va_S (aA 14 a s.heap.size) s.heap H locs → lv_has ls 8 [(0, .ref (a 0)), (1, .int p1), (2, .int x2), (3, .int x3), (4, .int x4), (5, .int x5)] → W p l e rmX6_sorting s m args below meth c H locs 0 0 Qz (F0 m 37 ls [])), ∀ (x2 : Int32) (x3 : Int32) (x4 : Int32) (x5 : Int32) (M : Mem) (H : Heap) (locs : List Loc) (ls : Array Slot), fX6_sorting_b37 p1 k37 x2 x3 x4 x5 M = some (r, M') → va_P g.1 vwCl (wl 14 a (eN g a M)) H → va_S (aA 14 a s.heap.size) s.heap H locs → lv_has ls 8 [(0, .ref (a 0)), (1, .int p1), (2, .int x2), (3, .int x3), (4, .int x4), (5, .int x5)] → W p l e rmX6_sorting s m args below meth c H locs 0 0 Qz (F0 m 37 ls []) := by
    intro k37 C37 x2 x3 x4 x5 M H locs ls h hP hS hl
    unfold fX6_sorting_b37 at h
    refine lv_iload hx hb dX6_sorting_37 (lv_at hl 5 rfl) ?_
    refine lv_iconst (v := 1) hx hb dX6_sorting_39 (by decide) ?_
    refine lv_aload_n hx hb dX6_sorting_40 rfl (lv_at hl 0 rfl) ?_
    refine r_get (v := .ref (a 6)) hx hb hts iX6 hown hK hP 0 (by decide) eN_0 rfl 8 (by decide) w25 rfl dX6_sorting_41 ?_
    refine lv_bipush (v := 17) hx hb dX6_sorting_44 (by decide) ?_
    obtain ⟨q1, h⟩ := chk_ok h
    refine r_iald (i := 17) (h := M 6) hx hb hK hP 6 (by decide) rfl q1 dX6_sorting_46 ?_
    refine lv_ishl (x := 1) (y := (M 6 (Int32.toNatClampNeg 17))) hx hb dX6_sorting_47 ?_
    refine lv_icmp_ge (x := x5) (y := (1 <<< ((M 6 (Int32.toNatClampNeg 17)) &&& 31))) (tgt := 190) hx hb dX6_sorting_48 (by decide) (fun q2 => ?_) (fun q2 => ?_)
    · replace h := if_t q2 h
      exact B190 x3 x4 M _ _ _ h hP hS (lv_sub hl [0, 1, 3, 4] rfl)
    · replace h := if_f q2 h
      refine lv_iload hx hb dX6_sorting_51 (lv_at hl 5 rfl) ?_
      refine lv_iload_n hx hb dX6_sorting_53 rfl (lv_at hl 2 rfl) ?_
      refine lv_iconst (v := (-1)) hx hb dX6_sorting_54 (by decide) ?_
      refine lv_ixor (x := x2) (y := (-1)) hx hb dX6_sorting_55 ?_
      refine lv_iand (x := x5) (y := (x2 ^^^ (-1))) hx hb dX6_sorting_56 ?_
      refine lv_if_ne (x := (x5 &&& (x2 ^^^ (-1)))) (tgt := 184) hx hb dX6_sorting_57 (by decide) (fun q3 => ?_) (fun q3 => ?_)
      · replace h := if_f q3 h
        exact B184 k37 C37 x2 x3 x4 x5 M _ _ _ h hP hS (lv_sub hl [0, 1, 2, 3, 4, 5] rfl)
      · replace h := if_t q3 h
        refine lv_aload_n hx hb dX6_sorting_60 rfl (lv_at hl 0 rfl) ?_
        obtain ⟨M6, e5, h⟩ := bdV_ok h
        refine r_callVv (As := []) (rest := []) (ws' := (wl 14 a (eN g a M6))) (ok_X6_starts l g a hI M M6 e5) ⟨hx, hb, hml, hown, hts⟩ (cwV 0 hts gX6_sorting_X6_starts rfl rfl rfl (by decide +kernel) ⟨Nat.le_of_ble_eq_true rfl, Nat.le_of_ble_eq_true rfl⟩) hK (r_recv hK hP 0 (by decide) eN_0 (show vwCl[6]? = some (RX6, TX6, 20) from rfl)) hS hP (fun _ hq => aA_mono hS.1 hq) (fun _ h _ => h) rfl hl.1 rfl (Nat.le_of_ble_eq_true rfl) dX6_sorting_61 ⟨Nat.zero_le _, Nat.zero_le _⟩ (fun H locs hP hS => ?_)
        refine lv_iconst (v := 0) hx hb dX6_sorting_64 (by decide) ?_
        refine lv_istore (lv' := [(6, .int 0), (0, .ref (a 0)), (1, .int p1), (2, .int x2), (3, .int x3), (4, .int x4), (5, .int x5)]) hx hb dX6_sorting_65 hl (by decide) rfl (fun ls hl => ?_)
        exact L67 k37 C37 FU x2 x3 x4 x5 0 M6 _ _ _ h hP hS (lv_sub hl [1, 2, 3, 4, 5, 6, 0] rfl)
  have L37 : ∀ (n : Nat), ∀ (x2 : Int32) (x3 : Int32) (x4 : Int32) (x5 : Int32) (M : Mem) (H : Heap) (locs : List Loc) (ls : Array Slot), fX6_sorting_l37 p1 n x2 x3 x4 x5 M = some (r, M') → va_P g.1 vwCl (wl 14 a (eN g a M)) H → va_S (aA 14 a s.heap.size) s.heap H locs → lv_has ls 8 [(0, .ref (a 0)), (1, .int p1), (2, .int x2), (3, .int x3), (4, .int x4), (5, .int x5)] → W p l e rmX6_sorting s m args below meth c H locs 0 0 Qz (F0 m 37 ls []) := by
    intro n
    induction n with
    | zero => intro x2 x3 x4 x5 M H locs ls h; exact absurd (show (none : Option (Int32 × Mem)) = some _ from h) (fun z => by cases z)
    | succ n ih => exact fun x2 x3 x4 x5 M H locs ls h hP hS hl => B37 (fX6_sorting_l37 p1 n) ih x2 x3 x4 x5 M H locs ls h hP hS hl
  unfold fX6_sorting at h
  refine lv_aload_n hx hb dX6_sorting_0 rfl (lv_at hl 0 rfl) ?_
  obtain ⟨r1, e2, h⟩ := bdP_ok h
  refine r_callVi (As := []) (rest := []) (ws' := (wl 14 a (eN g a M))) (ok_X6_isStair l g a hI M r1 e2) ⟨hx, hb, hml, hown, hts⟩ (cwV 0 hts gX6_sorting_X6_isStair rfl rfl rfl (by decide +kernel) ⟨Nat.le_of_ble_eq_true rfl, Nat.le_of_ble_eq_true rfl⟩) hK (r_recv hK hP 0 (by decide) eN_0 (show vwCl[6]? = some (RX6, TX6, 20) from rfl)) hS hP (fun _ hq => aA_mono hS.1 hq) (fun _ h _ => h) rfl hl.1 rfl (Nat.le_of_ble_eq_true rfl) dX6_sorting_1 ⟨Nat.zero_le _, Nat.zero_le _⟩ (fun H locs hP hS => ?_)
  refine lv_if_ne (x := r1) (tgt := 10) hx hb dX6_sorting_4 (by decide) (fun q3 => ?_) (fun q3 => ?_)
  · replace h := if_f q3 h
    refine lv_iload_n hx hb dX6_sorting_10 rfl (lv_at hl 1 rfl) ?_
    refine lv_iconst (v := 0) hx hb dX6_sorting_11 (by decide) ?_
    refine lv_iconst (v := 1) hx hb dX6_sorting_12 (by decide) ?_
    obtain ⟨r4, e5, h⟩ := bdP_ok h
    refine r_callSi (As := [.int p1, .int 0, .int 1]) (rest := []) (ws' := (wl 14 a (eN g a M))) (ok_X6_in l g p1 0 1 r4 e5) ⟨hx, hb, hml, hown, hts⟩ (cwS 3 hts gX6_sorting_X6_in rfl rfl rfl (by decide +kernel) ⟨Nat.le_of_ble_eq_true rfl, Nat.le_of_ble_eq_true rfl⟩) hK hS nilP (P_A hS.1) (fun _ _ hk => wl_keep hP hk) rfl hl.1 rfl (Nat.le_of_ble_eq_true rfl) dX6_sorting_13 ⟨Nat.zero_le _, Nat.zero_le _⟩ (fun H locs hP hS => ?_)
    refine lv_if_ne (x := r4) (tgt := 22) hx hb dX6_sorting_16 (by decide) (fun q6 => ?_) (fun q6 => ?_)
    · replace h := if_f q6 h
      refine lv_aload_n hx hb dX6_sorting_22 rfl (lv_at hl 0 rfl) ?_
      obtain ⟨r7, e8, h⟩ := bdP_ok h
      refine r_callVi (As := []) (rest := []) (ws' := (wl 14 a (eN g a M))) (ok_X6_queued l g a hI M r7 e8) ⟨hx, hb, hml, hown, hts⟩ (cwV 0 hts gX6_sorting_X6_queued rfl rfl rfl (by decide +kernel) ⟨Nat.le_of_ble_eq_true rfl, Nat.le_of_ble_eq_true rfl⟩) hK (r_recv hK hP 0 (by decide) eN_0 (show vwCl[6]? = some (RX6, TX6, 20) from rfl)) hS hP (fun _ hq => aA_mono hS.1 hq) (fun _ h _ => h) rfl hl.1 rfl (Nat.le_of_ble_eq_true rfl) dX6_sorting_23 ⟨Nat.zero_le _, Nat.zero_le _⟩ (fun H locs hP hS => ?_)
      refine lv_istore_n (lv' := [(2, .int r7), (0, .ref (a 0)), (1, .int p1)]) hx hb dX6_sorting_26 rfl hl (by decide) rfl (fun ls hl => ?_)
      refine lv_ldc (v := (-1000000)) hx hb hown w154 dX6_sorting_27 ?_
      refine lv_istore_n (lv' := [(3, .int (-1000000)), (2, .int r7), (0, .ref (a 0)), (1, .int p1)]) hx hb dX6_sorting_29 rfl hl (by decide) rfl (fun ls hl => ?_)
      refine lv_ldc (v := (-1000000)) hx hb hown w154 dX6_sorting_30 ?_
      refine lv_istore (lv' := [(4, .int (-1000000)), (3, .int (-1000000)), (2, .int r7), (0, .ref (a 0)), (1, .int p1)]) hx hb dX6_sorting_32 hl (by decide) rfl (fun ls hl => ?_)
      refine lv_iconst (v := 0) hx hb dX6_sorting_34 (by decide) ?_
      refine lv_istore (lv' := [(5, .int 0), (4, .int (-1000000)), (3, .int (-1000000)), (2, .int r7), (0, .ref (a 0)), (1, .int p1)]) hx hb dX6_sorting_35 hl (by decide) rfl (fun ls hl => ?_)
      exact L37 FU r7 (-1000000) (-1000000) 0 M _ _ _ h hP hS (lv_sub hl [4, 5, 3, 2, 1, 0] rfl)
    · replace h := if_t q6 h
      refine lv_ldc (v := (-1000001)) hx hb hown w65 dX6_sorting_19 ?_
      rw [hQz]
      exact r_iret (v := (-1000001)) hx hb hr hlk hS ((Prod.mk.inj (Option.some.inj h)).2 ▸ hP) (Prod.mk.inj (Option.some.inj h)).1 dX6_sorting_21
  · replace h := if_t q3 h
    refine lv_ldc (v := (-1000002)) hx hb hown w136 dX6_sorting_7 ?_
    rw [hQz]
    exact r_iret (v := (-1000002)) hx hb hr hlk hS ((Prod.mk.inj (Option.some.inj h)).2 ▸ hP) (Prod.mk.inj (Option.some.inj h)).1 dX6_sorting_9
def rmX6_taken : Room := { frames := 6, cells := 0, slots := 0, locals := 178 }
set_option maxHeartbeats 4000000 in
set_option maxRecDepth 100000 in
theorem ok_X6_taken (l : Launch) (g : gT) (a : Nat → Nat) (hI : ij 14 a) (p1 : Int32) (M : Mem) (M' : Mem) (r : Int32) (h : fX6_taken p1 M = some (r, M')) : MI l yX6_taken wsX6_taken rmX6_taken g 14 a [.ref (a 0), .int p1] (wl 14 a (eN g a M)) (wl 14 a (eN g a M')) r := by
  refine MI_of (cc := cX6_taken) (maxL := 6) (rt := .int) (by decide) rfl (Nat.le_of_ble_eq_true rfl) ?_
  intro p e s m args below meth c ls hx hb hml hr hlk hts hown hK hP hl
  have hown : s.vm.findClass RX6 = some m.cls := hown
  have hl : lv_has ls 6 [(0, .ref (a 0)), (1, .int p1)] := hl
  have hS : va_S (aA 14 a s.heap.size) s.heap s.heap [] := va_S.rf
  have iX6 : ∀ w ∈ wsX60, w ∈ wsX6_taken := fun w h => List.mem_cons_of_mem _ (List.mem_append_right _ h)
  have w154 := hts (.constant RX6 154 (-1000000)) (by decide +kernel)
  have w25 := hts (.fieldLink RX6 25 "StepRidersModel" "s" "[I") (by decide +kernel)
  have w41 := hts (.fieldLink RX6 41 "StepRidersModel" "then" "[I") (by decide +kernel)
  have w65 := hts (.constant RX6 65 (-1000001)) (by decide +kernel)
  have w136 := hts (.constant RX6 136 (-1000002)) (by decide +kernel)
  obtain ⟨Qz, hQz⟩ : ∃ Qz : State → Prop, Qz = MQ below (qI g (wl 14 a (eN g a M')) r (aA 14 a s.heap.size)) args s 0 0 (aA 14 a s.heap.size) := ⟨_, rfl⟩
  rw [← hQz]
  have B101 : ∀ (x2 : Int32) (x3 : Int32) (M : Mem) (H : Heap) (locs : List Loc) (ls : Array Slot), fX6_taken_b101 p1 x2 x3 M = some (r, M') → va_P g.1 vwCl (wl 14 a (eN g a M)) H → va_S (aA 14 a s.heap.size) s.heap H locs → lv_has ls 6 [(0, .ref (a 0)), (1, .int p1), (2, .int x2), (3, .int x3)] → W p l e rmX6_taken s m args below meth c H locs 0 0 Qz (F0 m 101 ls []) := by
    intro x2 x3 M H locs ls h hP hS hl
    unfold fX6_taken_b101 at h
    refine lv_iload_n hx hb dX6_taken_101 rfl (lv_at hl 3 rfl) ?_
    refine lv_ldc (v := (-1000000)) hx hb hown w154 dX6_taken_102 ?_
    refine lv_icmp_eq (x := x3) (y := (-1000000)) (tgt := 111) hx hb dX6_taken_104 (by decide) (fun q1 => ?_) (fun q1 => ?_)
    · replace h := if_t q1 h
      refine lv_iload_n hx hb dX6_taken_111 rfl (lv_at hl 3 rfl) ?_
      refine lv_goto (tgt := 116) hx hb dX6_taken_112 (by decide) ?_
      rw [hQz]
      exact r_iret (v := x3) hx hb hr hlk hS ((Prod.mk.inj (Option.some.inj h)).2 ▸ hP) (Prod.mk.inj (Option.some.inj h)).1 dX6_taken_116
    · replace h := if_f q1 h
      refine lv_iload_n hx hb dX6_taken_107 rfl (lv_at hl 1 rfl) ?_
      refine lv_if_ne (x := p1) (tgt := 115) hx hb dX6_taken_108 (by decide) (fun q2 => ?_) (fun q2 => ?_)
      · replace h := if_f q2 h
        refine lv_iload_n hx hb dX6_taken_115 rfl (lv_at hl 2 rfl) ?_
        rw [hQz]
        exact r_iret (v := x2) hx hb hr hlk hS ((Prod.mk.inj (Option.some.inj h)).2 ▸ hP) (Prod.mk.inj (Option.some.inj h)).1 dX6_taken_116
      · replace h := if_t q2 h
        refine lv_iload_n hx hb dX6_taken_111 rfl (lv_at hl 3 rfl) ?_
        refine lv_goto (tgt := 116) hx hb dX6_taken_112 (by decide) ?_
        rw [hQz]
        exact r_iret (v := x3) hx hb hr hlk hS ((Prod.mk.inj (Option.some.inj h)).2 ▸ hP) (Prod.mk.inj (Option.some.inj h)).1 dX6_taken_116
  have B95 : ∀ (k37 : Int32 → Int32 → Int32 → Mem → Option (Int32 × Mem)) (C37 : ∀ (x2 : Int32) (x3 : Int32) (x4 : Int32) (M : Mem) (H : Heap) (locs : List Loc) (ls : Array Slot), k37 x2 x3 x4 M = some (r, M') → va_P g.1 vwCl (wl 14 a (eN g a M)) H → va_S (aA 14 a s.heap.size) s.heap H locs → lv_has ls 6 [(0, .ref (a 0)), (1, .int p1), (2, .int x2), (3, .int x3), (4, .int x4)] → W p l e rmX6_taken s m args below meth c H locs 0 0 Qz (F0 m 37 ls [])), ∀ (x2 : Int32) (x3 : Int32) (x4 : Int32) (M : Mem) (H : Heap) (locs : List Loc) (ls : Array Slot), fX6_taken_b95 p1 k37 x2 x3 x4 M = some (r, M') → va_P g.1 vwCl (wl 14 a (eN g a M)) H → va_S (aA 14 a s.heap.size) s.heap H locs → lv_has ls 6 [(0, .ref (a 0)), (1, .int p1), (2, .int x2), (3, .int x3), (4, .int x4)] → W p l e rmX6_taken s m args below meth c H locs 0 0 Qz (F0 m 95 ls []) := by
    intro k37 C37 x2 x3 x4 M H locs ls h hP hS hl
    unfold fX6_taken_b95 at h
    refine lv_iinc (v := (x4 + 1)) (lv' := [(4, .int (x4 + 1)), (0, .ref (a 0)), (1, .int p1), (2, .int x2), (3, .int x3)]) hx hb dX6_taken_95 hl (k := 4) rfl rfl (by decide) rfl (fun ls hl => ?_)
    refine lv_goto (tgt := 37) hx hb dX6_taken_98 (by decide) ?_
    exact C37 x2 x3 (x4 + 1) M _ _ _ h hP hS (lv_sub hl [1, 2, 3, 4, 0] rfl)
  have B89 : ∀ (k37 : Int32 → Int32 → Int32 → Mem → Option (Int32 × Mem)) (C37 : ∀ (x2 : Int32) (x3 : Int32) (x4 : Int32) (M : Mem) (H : Heap) (locs : List Loc) (ls : Array Slot), k37 x2 x3 x4 M = some (r, M') → va_P g.1 vwCl (wl 14 a (eN g a M)) H → va_S (aA 14 a s.heap.size) s.heap H locs → lv_has ls 6 [(0, .ref (a 0)), (1, .int p1), (2, .int x2), (3, .int x3), (4, .int x4)] → W p l e rmX6_taken s m args below meth c H locs 0 0 Qz (F0 m 37 ls [])), ∀ (x4 : Int32) (x5 : Int32) (M : Mem) (H : Heap) (locs : List Loc) (ls : Array Slot), fX6_taken_b89 p1 k37 x4 x5 M = some (r, M') → va_P g.1 vwCl (wl 14 a (eN g a M)) H → va_S (aA 14 a s.heap.size) s.heap H locs → lv_has ls 6 [(0, .ref (a 0)), (1, .int p1), (4, .int x4), (5, .int x5)] → W p l e rmX6_taken s m args below meth c H locs 0 0 Qz (F0 m 89 ls []) := by
    intro k37 C37 x4 x5 M H locs ls h hP hS hl
    unfold fX6_taken_b89 at h
    refine lv_iload hx hb dX6_taken_89 (lv_at hl 2 rfl) ?_
    refine lv_istore_n (lv' := [(3, .int x4), (0, .ref (a 0)), (1, .int p1), (4, .int x4), (5, .int x5)]) hx hb dX6_taken_91 rfl hl (by decide) rfl (fun ls hl => ?_)
    refine lv_iload hx hb dX6_taken_92 (lv_at hl 4 rfl) ?_
    refine lv_istore_n (lv' := [(2, .int x5), (3, .int x4), (0, .ref (a 0)), (1, .int p1), (4, .int x4), (5, .int x5)]) hx hb dX6_taken_94 rfl hl (by decide) rfl (fun ls hl => ?_)
    exact B95 k37 C37 x5 x4 x4 M _ _ _ h hP hS (lv_sub hl [2, 3, 0, 1, 4] rfl)
  have B37 : ∀ (k37 : Int32 → Int32 → Int32 → Mem → Option (Int32 × Mem)) (C37 : ∀ (x2 : Int32) (x3 : Int32) (x4 : Int32) (M : Mem) (H : Heap) (locs : List Loc) (ls : Array Slot), k37 x2 x3 x4 M = some (r, M') → va_P g.1 vwCl (wl 14 a (eN g a M)) H → va_S (aA 14 a s.heap.size) s.heap H locs → lv_has ls 6 [(0, .ref (a 0)), (1, .int p1), (2, .int x2), (3, .int x3), (4, .int x4)] → W p l e rmX6_taken s m args below meth c H locs 0 0 Qz (F0 m 37 ls [])), ∀ (x2 : Int32) (x3 : Int32) (x4 : Int32) (M : Mem) (H : Heap) (locs : List Loc) (ls : Array Slot), fX6_taken_b37 p1 k37 x2 x3 x4 M = some (r, M') → va_P g.1 vwCl (wl 14 a (eN g a M)) H → va_S (aA 14 a s.heap.size) s.heap H locs → lv_has ls 6 [(0, .ref (a 0)), (1, .int p1), (2, .int x2), (3, .int x3), (4, .int x4)] → W p l e rmX6_taken s m args below meth c H locs 0 0 Qz (F0 m 37 ls []) := by
    intro k37 C37 x2 x3 x4 M H locs ls h hP hS hl
    unfold fX6_taken_b37 at h
    refine lv_iload hx hb dX6_taken_37 (lv_at hl 4 rfl) ?_
    refine lv_aload_n hx hb dX6_taken_39 rfl (lv_at hl 0 rfl) ?_
    refine r_get (v := .ref (a 6)) hx hb hts iX6 hown hK hP 0 (by decide) eN_0 rfl 8 (by decide) w25 rfl dX6_taken_40 ?_
    refine lv_bipush (v := 17) hx hb dX6_taken_43 (by decide) ?_
    obtain ⟨q1, h⟩ := chk_ok h
    refine r_iald (i := 17) (h := M 6) hx hb hK hP 6 (by decide) rfl q1 dX6_taken_45 ?_
    refine lv_icmp_ge (x := x4) (y := (M 6 (Int32.toNatClampNeg 17))) (tgt := 101) hx hb dX6_taken_46 (by decide) (fun q2 => ?_) (fun q2 => ?_)
    · replace h := if_t q2 h
      exact B101 x2 x3 M _ _ _ h hP hS (lv_sub hl [0, 1, 2, 3] rfl)
    · replace h := if_f q2 h
      refine lv_aload_n hx hb dX6_taken_49 rfl (lv_at hl 0 rfl) ?_
      obtain ⟨M5, e4, h⟩ := bdV_ok h
      refine r_callVv (As := []) (rest := []) (ws' := (wl 14 a (eN g a M5))) (ok_X6_starts l g a hI M M5 e4) ⟨hx, hb, hml, hown, hts⟩ (cwV 0 hts gX6_taken_X6_starts rfl rfl rfl (by decide +kernel) ⟨Nat.le_of_ble_eq_true rfl, Nat.le_of_ble_eq_true rfl⟩) hK (r_recv hK hP 0 (by decide) eN_0 (show vwCl[6]? = some (RX6, TX6, 20) from rfl)) hS hP (fun _ hq => aA_mono hS.1 hq) (fun _ h _ => h) rfl hl.1 rfl (Nat.le_of_ble_eq_true rfl) dX6_taken_50 ⟨Nat.zero_le _, Nat.zero_le _⟩ (fun H locs hP hS => ?_)
      refine lv_aload_n hx hb dX6_taken_53 rfl (lv_at hl 0 rfl) ?_
      refine r_get (v := .ref (a 11)) hx hb hts iX6 hown hK hP 0 (by decide) eN_0 rfl 14 (by decide) w41 rfl dX6_taken_54 ?_
      refine lv_iconst (v := 2) hx hb dX6_taken_57 (by decide) ?_
      refine lv_iload hx hb dX6_taken_58 (lv_at hl 4 rfl) ?_
      refine lv_iadd (x := 2) (y := x4) hx hb dX6_taken_60 ?_
      refine lv_bipush (v := 99) hx hb dX6_taken_61 (by decide) ?_
      obtain ⟨q6, h⟩ := chk_ok h
      refine r_iast (i := (2 + x4)) (x := 99) (h := M5 11) (f' := eN g a (mp M5 11 (Int32.toNatClampNeg (2 + x4)) 99)) hx hb hK hI (fun _ h => aA_in h) hP hS 11 (by decide) rfl q6 (eN_ua (fun _ => rfl)) dX6_taken_63 (fun H locs hP hS => ?_)
      refine lv_aload_n hx hb dX6_taken_64 rfl (lv_at hl 0 rfl) ?_
      obtain ⟨r7, M9, e8, h⟩ := bdI_ok h
      refine r_callVi (As := []) (rest := []) (ws' := (wl 14 a (eN g a M9))) (ok_X6_clears l g a hI (mp M5 11 (Int32.toNatClampNeg (2 + x4)) 99) M9 r7 e8) ⟨hx, hb, hml, hown, hts⟩ (cwV 0 hts gX6_taken_X6_clears rfl rfl rfl (by decide +kernel) ⟨Nat.le_of_ble_eq_true rfl, Nat.le_of_ble_eq_true rfl⟩) hK (r_recv hK hP 0 (by decide) eN_0 (show vwCl[6]? = some (RX6, TX6, 20) from rfl)) hS hP (fun _ hq => aA_mono hS.1 hq) (fun _ h _ => h) rfl hl.1 rfl (Nat.le_of_ble_eq_true rfl) dX6_taken_65 ⟨Nat.zero_le _, Nat.zero_le _⟩ (fun H locs hP hS => ?_)
      refine lv_istore (lv' := [(5, .int r7), (0, .ref (a 0)), (1, .int p1), (2, .int x2), (3, .int x3), (4, .int x4)]) hx hb dX6_taken_68 hl (by decide) rfl (fun ls hl => ?_)
      refine lv_iload hx hb dX6_taken_70 (lv_at hl 0 rfl) ?_
      refine lv_ldc (v := (-1000000)) hx hb hown w154 dX6_taken_72 ?_
      refine lv_icmp_eq (x := r7) (y := (-1000000)) (tgt := 95) hx hb dX6_taken_74 (by decide) (fun q10 => ?_) (fun q10 => ?_)
      · replace h := if_t q10 h
        exact B95 k37 C37 x2 x3 x4 M9 _ _ _ h hP hS (lv_sub hl [1, 2, 3, 4, 5] rfl)
      · replace h := if_f q10 h
        refine lv_iload_n hx hb dX6_taken_77 rfl (lv_at hl 3 rfl) ?_
        refine lv_ldc (v := (-1000000)) hx hb hown w154 dX6_taken_78 ?_
        refine lv_icmp_eq (x := x2) (y := (-1000000)) (tgt := 89) hx hb dX6_taken_80 (by decide) (fun q11 => ?_) (fun q11 => ?_)
        · replace h := if_t q11 h
          exact B89 k37 C37 x4 r7 M9 _ _ _ h hP hS (lv_sub hl [1, 2, 5, 0] rfl)
        · replace h := if_f q11 h
          refine lv_iload hx hb dX6_taken_83 (lv_at hl 0 rfl) ?_
          refine lv_iload_n hx hb dX6_taken_85 rfl (lv_at hl 3 rfl) ?_
          refine lv_icmp_ge (x := r7) (y := x2) (tgt := 95) hx hb dX6_taken_86 (by decide) (fun q12 => ?_) (fun q12 => ?_)
          · replace h := if_t q12 h
            exact B95 k37 C37 x2 x3 x4 M9 _ _ _ h hP hS (lv_sub hl [1, 2, 3, 4, 5] rfl)
          · replace h := if_f q12 h
            exact B89 k37 C37 x4 r7 M9 _ _ _ h hP hS (lv_sub hl [1, 2, 5, 0] rfl)
  have L37 : ∀ (n : Nat), ∀ (x2 : Int32) (x3 : Int32) (x4 : Int32) (M : Mem) (H : Heap) (locs : List Loc) (ls : Array Slot), fX6_taken_l37 p1 n x2 x3 x4 M = some (r, M') → va_P g.1 vwCl (wl 14 a (eN g a M)) H → va_S (aA 14 a s.heap.size) s.heap H locs → lv_has ls 6 [(0, .ref (a 0)), (1, .int p1), (2, .int x2), (3, .int x3), (4, .int x4)] → W p l e rmX6_taken s m args below meth c H locs 0 0 Qz (F0 m 37 ls []) := by
    intro n
    induction n with
    | zero => intro x2 x3 x4 M H locs ls h; exact absurd (show (none : Option (Int32 × Mem)) = some _ from h) (fun z => by cases z)
    | succ n ih => exact fun x2 x3 x4 M H locs ls h hP hS hl => B37 (fX6_taken_l37 p1 n) ih x2 x3 x4 M H locs ls h hP hS hl
  unfold fX6_taken at h
  refine lv_aload_n hx hb dX6_taken_0 rfl (lv_at hl 0 rfl) ?_
  obtain ⟨r1, e2, h⟩ := bdP_ok h
  refine r_callVi (As := []) (rest := []) (ws' := (wl 14 a (eN g a M))) (ok_X6_isStair l g a hI M r1 e2) ⟨hx, hb, hml, hown, hts⟩ (cwV 0 hts gX6_taken_X6_isStair rfl rfl rfl (by decide +kernel) ⟨Nat.le_of_ble_eq_true rfl, Nat.le_of_ble_eq_true rfl⟩) hK (r_recv hK hP 0 (by decide) eN_0 (show vwCl[6]? = some (RX6, TX6, 20) from rfl)) hS hP (fun _ hq => aA_mono hS.1 hq) (fun _ h _ => h) rfl hl.1 rfl (Nat.le_of_ble_eq_true rfl) dX6_taken_1 ⟨Nat.zero_le _, Nat.zero_le _⟩ (fun H locs hP hS => ?_)
  refine lv_if_ne (x := r1) (tgt := 10) hx hb dX6_taken_4 (by decide) (fun q3 => ?_) (fun q3 => ?_)
  · replace h := if_f q3 h
    refine lv_iload_n hx hb dX6_taken_10 rfl (lv_at hl 1 rfl) ?_
    refine lv_iconst (v := 0) hx hb dX6_taken_11 (by decide) ?_
    refine lv_iconst (v := 1) hx hb dX6_taken_12 (by decide) ?_
    obtain ⟨r4, e5, h⟩ := bdP_ok h
    refine r_callSi (As := [.int p1, .int 0, .int 1]) (rest := []) (ws' := (wl 14 a (eN g a M))) (ok_X6_in l g p1 0 1 r4 e5) ⟨hx, hb, hml, hown, hts⟩ (cwS 3 hts gX6_taken_X6_in rfl rfl rfl (by decide +kernel) ⟨Nat.le_of_ble_eq_true rfl, Nat.le_of_ble_eq_true rfl⟩) hK hS nilP (P_A hS.1) (fun _ _ hk => wl_keep hP hk) rfl hl.1 rfl (Nat.le_of_ble_eq_true rfl) dX6_taken_13 ⟨Nat.zero_le _, Nat.zero_le _⟩ (fun H locs hP hS => ?_)
    refine lv_if_ne (x := r4) (tgt := 22) hx hb dX6_taken_16 (by decide) (fun q6 => ?_) (fun q6 => ?_)
    · replace h := if_f q6 h
      refine lv_aload_n hx hb dX6_taken_22 rfl (lv_at hl 0 rfl) ?_
      obtain ⟨M9, e8, h⟩ := bdV_ok h
      refine r_callVv (As := []) (rest := []) (ws' := (wl 14 a (eN g a M9))) (ok_X6_starts l g a hI M M9 e8) ⟨hx, hb, hml, hown, hts⟩ (cwV 0 hts gX6_taken_X6_starts rfl rfl rfl (by decide +kernel) ⟨Nat.le_of_ble_eq_true rfl, Nat.le_of_ble_eq_true rfl⟩) hK (r_recv hK hP 0 (by decide) eN_0 (show vwCl[6]? = some (RX6, TX6, 20) from rfl)) hS hP (fun _ hq => aA_mono hS.1 hq) (fun _ h _ => h) rfl hl.1 rfl (Nat.le_of_ble_eq_true rfl) dX6_taken_23 ⟨Nat.zero_le _, Nat.zero_le _⟩ (fun H locs hP hS => ?_)
      refine lv_aload_n hx hb dX6_taken_26 rfl (lv_at hl 0 rfl) ?_
      obtain ⟨r10, M12, e11, h⟩ := bdI_ok h
      refine r_callVi (As := []) (rest := []) (ws' := (wl 14 a (eN g a M12))) (ok_X6_clears l g a hI M9 M12 r10 e11) ⟨hx, hb, hml, hown, hts⟩ (cwV 0 hts gX6_taken_X6_clears rfl rfl rfl (by decide +kernel) ⟨Nat.le_of_ble_eq_true rfl, Nat.le_of_ble_eq_true rfl⟩) hK (r_recv hK hP 0 (by decide) eN_0 (show vwCl[6]? = some (RX6, TX6, 20) from rfl)) hS hP (fun _ hq => aA_mono hS.1 hq) (fun _ h _ => h) rfl hl.1 rfl (Nat.le_of_ble_eq_true rfl) dX6_taken_27 ⟨Nat.zero_le _, Nat.zero_le _⟩ (fun H locs hP hS => ?_)
      refine lv_istore_n (lv' := [(2, .int r10), (0, .ref (a 0)), (1, .int p1)]) hx hb dX6_taken_30 rfl hl (by decide) rfl (fun ls hl => ?_)
      refine lv_ldc (v := (-1000000)) hx hb hown w154 dX6_taken_31 ?_
      refine lv_istore_n (lv' := [(3, .int (-1000000)), (2, .int r10), (0, .ref (a 0)), (1, .int p1)]) hx hb dX6_taken_33 rfl hl (by decide) rfl (fun ls hl => ?_)
      refine lv_iconst (v := 0) hx hb dX6_taken_34 (by decide) ?_
      refine lv_istore (lv' := [(4, .int 0), (3, .int (-1000000)), (2, .int r10), (0, .ref (a 0)), (1, .int p1)]) hx hb dX6_taken_35 hl (by decide) rfl (fun ls hl => ?_)
      exact L37 FU r10 (-1000000) 0 M12 _ _ _ h hP hS (lv_sub hl [3, 4, 2, 1, 0] rfl)
    · replace h := if_t q6 h
      refine lv_ldc (v := (-1000001)) hx hb hown w65 dX6_taken_19 ?_
      rw [hQz]
      exact r_iret (v := (-1000001)) hx hb hr hlk hS ((Prod.mk.inj (Option.some.inj h)).2 ▸ hP) (Prod.mk.inj (Option.some.inj h)).1 dX6_taken_21
  · replace h := if_t q3 h
    refine lv_ldc (v := (-1000002)) hx hb hown w136 dX6_taken_7 ?_
    rw [hQz]
    exact r_iret (v := (-1000002)) hx hb hr hlk hS ((Prod.mk.inj (Option.some.inj h)).2 ▸ hP) (Prod.mk.inj (Option.some.inj h)).1 dX6_taken_9
def rmX6_pace : Room := { frames := 5, cells := 0, slots := 0, locals := 157 }
set_option maxHeartbeats 4000000 in
set_option maxRecDepth 100000 in
theorem ok_X6_pace (l : Launch) (g : gT) (a : Nat → Nat) (hI : ij 14 a) (p1 : Int32) (p2 : Int32) (p3 : Int32) (M : Mem) (M' : Mem) (r : Int32) (h : fX6_pace p1 p2 p3 M = some (r, M')) : MI l yX6_pace wsX6_pace rmX6_pace g 14 a [.ref (a 0), .int p1, .int p2, .int p3] (wl 14 a (eN g a M)) (wl 14 a (eN g a M')) r := by
  refine MI_of (cc := cX6_pace) (maxL := 11) (rt := .int) (by decide) rfl (Nat.le_of_ble_eq_true rfl) ?_
  intro p e s m args below meth c ls hx hb hml hr hlk hts hown hK hP hl
  have hown : s.vm.findClass RX6 = some m.cls := hown
  have hl : lv_has ls 11 [(0, .ref (a 0)), (1, .int p1), (2, .int p2), (3, .int p3)] := hl
  have hS : va_S (aA 14 a s.heap.size) s.heap s.heap [] := va_S.rf
  have iX6 : ∀ w ∈ wsX60, w ∈ wsX6_pace := fun w h => List.mem_cons_of_mem _ (List.mem_append_right _ h)
  have w154 := hts (.constant RX6 154 (-1000000)) (by decide +kernel)
  have w41 := hts (.fieldLink RX6 41 "StepRidersModel" "then" "[I") (by decide +kernel)
  have w65 := hts (.constant RX6 65 (-1000001)) (by decide +kernel)
  obtain ⟨Qz, hQz⟩ : ∃ Qz : State → Prop, Qz = MQ below (qI g (wl 14 a (eN g a M')) r (aA 14 a s.heap.size)) args s 0 0 (aA 14 a s.heap.size) := ⟨_, rfl⟩
  rw [← hQz]
  have B235 : ∀ (x5 : Int32) (x6 : Int32) (M : Mem) (H : Heap) (locs : List Loc) (ls : Array Slot), fX6_pace_b235 p1 p2 p3 x5 x6 M = some (r, M') → va_P g.1 vwCl (wl 14 a (eN g a M)) H → va_S (aA 14 a s.heap.size) s.heap H locs → lv_has ls 11 [(0, .ref (a 0)), (1, .int p1), (2, .int p2), (3, .int p3), (5, .int x5), (6, .int x6)] → W p l e rmX6_pace s m args below meth c H locs 0 0 Qz (F0 m 235 ls []) := by
    intro x5 x6 M H locs ls h hP hS hl
    unfold fX6_pace_b235 at h
    refine lv_iload_n hx hb dX6_pace_235 rfl (lv_at hl 3 rfl) ?_
    refine lv_iconst (v := (-1)) hx hb dX6_pace_236 (by decide) ?_
    refine lv_icmp_ne (x := p3) (y := (-1)) (tgt := 245) hx hb dX6_pace_237 (by decide) (fun q1 => ?_) (fun q1 => ?_)
    · replace h := if_f q1 h
      refine lv_iload hx hb dX6_pace_245 (lv_at hl 4 rfl) ?_
      refine lv_iconst (v := 3) hx hb dX6_pace_247 (by decide) ?_
      refine lv_irem (x := x5) (y := 3) hx hb dX6_pace_248 (by decide) ?_
      rw [hQz]
      exact r_iret (v := (x5 - x5 / 3 * 3)) hx hb hr hlk hS ((Prod.mk.inj (Option.some.inj h)).2 ▸ hP) (Prod.mk.inj (Option.some.inj h)).1 dX6_pace_249
    · replace h := if_t q1 h
      refine lv_iload hx hb dX6_pace_240 (lv_at hl 5 rfl) ?_
      refine lv_goto (tgt := 249) hx hb dX6_pace_242 (by decide) ?_
      rw [hQz]
      exact r_iret (v := x6) hx hb hr hlk hS ((Prod.mk.inj (Option.some.inj h)).2 ▸ hP) (Prod.mk.inj (Option.some.inj h)).1 dX6_pace_249
  have B213 : ∀ (k213 : Int32 → Int32 → Int32 → Mem → Option (Int32 × Mem)) (C213 : ∀ (x5 : Int32) (x6 : Int32) (x7 : Int32) (M : Mem) (H : Heap) (locs : List Loc) (ls : Array Slot), k213 x5 x6 x7 M = some (r, M') → va_P g.1 vwCl (wl 14 a (eN g a M)) H → va_S (aA 14 a s.heap.size) s.heap H locs → lv_has ls 11 [(0, .ref (a 0)), (1, .int p1), (2, .int p2), (3, .int p3), (5, .int x5), (6, .int x6), (7, .int x7)] → W p l e rmX6_pace s m args below meth c H locs 0 0 Qz (F0 m 213 ls [])), ∀ (x5 : Int32) (x6 : Int32) (x7 : Int32) (M : Mem) (H : Heap) (locs : List Loc) (ls : Array Slot), fX6_pace_b213 p1 p2 p3 k213 x5 x6 x7 M = some (r, M') → va_P g.1 vwCl (wl 14 a (eN g a M)) H → va_S (aA 14 a s.heap.size) s.heap H locs → lv_has ls 11 [(0, .ref (a 0)), (1, .int p1), (2, .int p2), (3, .int p3), (5, .int x5), (6, .int x6), (7, .int x7)] → W p l e rmX6_pace s m args below meth c H locs 0 0 Qz (F0 m 213 ls []) := by
    intro k213 C213 x5 x6 x7 M H locs ls h hP hS hl
    unfold fX6_pace_b213 at h
    refine lv_iload hx hb dX6_pace_213 (lv_at hl 6 rfl) ?_
    refine lv_iload_n hx hb dX6_pace_215 rfl (lv_at hl 3 rfl) ?_
    refine lv_icmp_le (x := x7) (y := p3) (tgt := 235) hx hb dX6_pace_216 (by decide) (fun q1 => ?_) (fun q1 => ?_)
    · replace h := if_t q1 h
      exact B235 x5 x6 M _ _ _ h hP hS (lv_sub hl [0, 1, 2, 3, 4, 5] rfl)
    · replace h := if_f q1 h
      refine lv_iload_n hx hb dX6_pace_219 rfl (lv_at hl 3 rfl) ?_
      refine lv_if_lt (x := p3) (tgt := 235) hx hb dX6_pace_220 (by decide) (fun q2 => ?_) (fun q2 => ?_)
      · replace h := if_t q2 h
        exact B235 x5 x6 M _ _ _ h hP hS (lv_sub hl [0, 1, 2, 3, 4, 5] rfl)
      · replace h := if_f q2 h
        refine lv_iload hx hb dX6_pace_223 (lv_at hl 4 rfl) ?_
        refine lv_iconst (v := 3) hx hb dX6_pace_225 (by decide) ?_
        refine lv_idiv (x := x5) (y := 3) hx hb dX6_pace_226 (by decide) ?_
        refine lv_istore (lv' := [(5, .int (x5 / 3)), (0, .ref (a 0)), (1, .int p1), (2, .int p2), (3, .int p3), (6, .int x6), (7, .int x7)]) hx hb dX6_pace_227 hl (by decide) rfl (fun ls hl => ?_)
        refine lv_iinc (v := (x7 + (-1))) (lv' := [(7, .int (x7 + (-1))), (5, .int (x5 / 3)), (0, .ref (a 0)), (1, .int p1), (2, .int p2), (3, .int p3), (6, .int x6)]) hx hb dX6_pace_229 hl (k := 6) rfl rfl (by decide) rfl (fun ls hl => ?_)
        refine lv_goto (tgt := 213) hx hb dX6_pace_232 (by decide) ?_
        exact C213 (x5 / 3) x6 (x7 + (-1)) M _ _ _ h hP hS (lv_sub hl [2, 3, 4, 5, 1, 6, 0] rfl)
  have L213 : ∀ (n : Nat), ∀ (x5 : Int32) (x6 : Int32) (x7 : Int32) (M : Mem) (H : Heap) (locs : List Loc) (ls : Array Slot), fX6_pace_l213 p1 p2 p3 n x5 x6 x7 M = some (r, M') → va_P g.1 vwCl (wl 14 a (eN g a M)) H → va_S (aA 14 a s.heap.size) s.heap H locs → lv_has ls 11 [(0, .ref (a 0)), (1, .int p1), (2, .int p2), (3, .int p3), (5, .int x5), (6, .int x6), (7, .int x7)] → W p l e rmX6_pace s m args below meth c H locs 0 0 Qz (F0 m 213 ls []) := by
    intro n
    induction n with
    | zero => intro x5 x6 x7 M H locs ls h; exact absurd (show (none : Option (Int32 × Mem)) = some _ from h) (fun z => by cases z)
    | succ n ih => exact fun x5 x6 x7 M H locs ls h hP hS hl => B213 (fX6_pace_l213 p1 p2 p3 n) ih x5 x6 x7 M H locs ls h hP hS hl
  have B193 : ∀ (x5 : Int32) (x6 : Int32) (M : Mem) (H : Heap) (locs : List Loc) (ls : Array Slot), fX6_pace_b193 p1 p2 p3 x5 x6 M = some (r, M') → va_P g.1 vwCl (wl 14 a (eN g a M)) H → va_S (aA 14 a s.heap.size) s.heap H locs → lv_has ls 11 [(0, .ref (a 0)), (1, .int p1), (2, .int p2), (3, .int p3), (5, .int x5), (6, .int x6)] → W p l e rmX6_pace s m args below meth c H locs 0 0 Qz (F0 m 193 ls []) := by
    intro x5 x6 M H locs ls h hP hS hl
    unfold fX6_pace_b193 at h
    refine lv_iload hx hb dX6_pace_193 (lv_at hl 4 rfl) ?_
    refine lv_ldc (v := (-1000000)) hx hb hown w154 dX6_pace_195 ?_
    refine lv_icmp_eq (x := x5) (y := (-1000000)) (tgt := 205) hx hb dX6_pace_197 (by decide) (fun q1 => ?_) (fun q1 => ?_)
    · replace h := if_t q1 h
      refine lv_ldc (v := (-1000000)) hx hb hown w154 dX6_pace_205 ?_
      rw [hQz]
      exact r_iret (v := (-1000000)) hx hb hr hlk hS ((Prod.mk.inj (Option.some.inj h)).2 ▸ hP) (Prod.mk.inj (Option.some.inj h)).1 dX6_pace_207
    · replace h := if_f q1 h
      refine lv_iload_n hx hb dX6_pace_200 rfl (lv_at hl 3 rfl) ?_
      refine lv_iload_n hx hb dX6_pace_201 rfl (lv_at hl 2 rfl) ?_
      refine lv_icmp_lt (x := p3) (y := p2) (tgt := 208) hx hb dX6_pace_202 (by decide) (fun q2 => ?_) (fun q2 => ?_)
      · replace h := if_t q2 h
        refine lv_iload_n hx hb dX6_pace_208 rfl (lv_at hl 2 rfl) ?_
        refine lv_iconst (v := 1) hx hb dX6_pace_209 (by decide) ?_
        refine lv_isub (x := p2) (y := 1) hx hb dX6_pace_210 ?_
        refine lv_istore (lv' := [(7, .int (p2 - 1)), (0, .ref (a 0)), (1, .int p1), (2, .int p2), (3, .int p3), (5, .int x5), (6, .int x6)]) hx hb dX6_pace_211 hl (by decide) rfl (fun ls hl => ?_)
        exact L213 FU x5 x6 (p2 - 1) M _ _ _ h hP hS (lv_sub hl [1, 2, 3, 4, 5, 6, 0] rfl)
      · replace h := if_f q2 h
        refine lv_ldc (v := (-1000000)) hx hb hown w154 dX6_pace_205 ?_
        rw [hQz]
        exact r_iret (v := (-1000000)) hx hb hr hlk hS ((Prod.mk.inj (Option.some.inj h)).2 ▸ hP) (Prod.mk.inj (Option.some.inj h)).1 dX6_pace_207
  have B185 : ∀ (k61 : Int32 → Int32 → Int32 → Int32 → Mem → Option (Int32 × Mem)) (C61 : ∀ (x4 : Int32) (x5 : Int32) (x6 : Int32) (x7 : Int32) (M : Mem) (H : Heap) (locs : List Loc) (ls : Array Slot), k61 x4 x5 x6 x7 M = some (r, M') → va_P g.1 vwCl (wl 14 a (eN g a M)) H → va_S (aA 14 a s.heap.size) s.heap H locs → lv_has ls 11 [(0, .ref (a 0)), (1, .int p1), (2, .int p2), (3, .int p3), (4, .int x4), (5, .int x5), (6, .int x6), (7, .int x7)] → W p l e rmX6_pace s m args below meth c H locs 0 0 Qz (F0 m 61 ls [])), ∀ (x4 : Int32) (x5 : Int32) (x7 : Int32) (s0 : Int32) (M : Mem) (H : Heap) (locs : List Loc) (ls : Array Slot), fX6_pace_b185 p1 p2 p3 k61 x4 x5 x7 s0 M = some (r, M') → va_P g.1 vwCl (wl 14 a (eN g a M)) H → va_S (aA 14 a s.heap.size) s.heap H locs → lv_has ls 11 [(0, .ref (a 0)), (1, .int p1), (2, .int p2), (3, .int p3), (4, .int x4), (5, .int x5), (7, .int x7)] → W p l e rmX6_pace s m args below meth c H locs 0 0 Qz (F0 m 185 ls [.int s0]) := by
    intro k61 C61 x4 x5 x7 s0 M H locs ls h hP hS hl
    unfold fX6_pace_b185 at h
    refine lv_istore (lv' := [(6, .int s0), (0, .ref (a 0)), (1, .int p1), (2, .int p2), (3, .int p3), (4, .int x4), (5, .int x5), (7, .int x7)]) hx hb dX6_pace_185 hl (by decide) rfl (fun ls hl => ?_)
    refine lv_iinc (v := (x7 + 1)) (lv' := [(7, .int (x7 + 1)), (6, .int s0), (0, .ref (a 0)), (1, .int p1), (2, .int p2), (3, .int p3), (4, .int x4), (5, .int x5)]) hx hb dX6_pace_187 hl (k := 7) rfl rfl (by decide) rfl (fun ls hl => ?_)
    refine lv_goto (tgt := 61) hx hb dX6_pace_190 (by decide) ?_
    exact C61 x4 x5 s0 (x7 + 1) M _ _ _ h hP hS (lv_sub hl [2, 3, 4, 5, 6, 7, 1, 0] rfl)
  have B171 : ∀ (k61 : Int32 → Int32 → Int32 → Int32 → Mem → Option (Int32 × Mem)) (C61 : ∀ (x4 : Int32) (x5 : Int32) (x6 : Int32) (x7 : Int32) (M : Mem) (H : Heap) (locs : List Loc) (ls : Array Slot), k61 x4 x5 x6 x7 M = some (r, M') → va_P g.1 vwCl (wl 14 a (eN g a M)) H → va_S (aA 14 a s.heap.size) s.heap H locs → lv_has ls 11 [(0, .ref (a 0)), (1, .int p1), (2, .int p2), (3, .int p3), (4, .int x4), (5, .int x5), (6, .int x6), (7, .int x7)] → W p l e rmX6_pace s m args below meth c H locs 0 0 Qz (F0 m 61 ls [])), ∀ (x4 : Int32) (x6 : Int32) (x7 : Int32) (x9 : Int32) (x10 : Int32) (s0 : Int32) (M : Mem) (H : Heap) (locs : List Loc) (ls : Array Slot), fX6_pace_b171 p1 p2 p3 k61 x4 x6 x7 x9 x10 s0 M = some (r, M') → va_P g.1 vwCl (wl 14 a (eN g a M)) H → va_S (aA 14 a s.heap.size) s.heap H locs → lv_has ls 11 [(0, .ref (a 0)), (1, .int p1), (2, .int p2), (3, .int p3), (4, .int x4), (6, .int x6), (7, .int x7), (9, .int x9), (10, .int x10)] → W p l e rmX6_pace s m args below meth c H locs 0 0 Qz (F0 m 171 ls [.int s0]) := by
    intro k61 C61 x4 x6 x7 x9 x10 s0 M H locs ls h hP hS hl
    unfold fX6_pace_b171 at h
    refine lv_istore (lv' := [(5, .int s0), (0, .ref (a 0)), (1, .int p1), (2, .int p2), (3, .int p3), (4, .int x4), (6, .int x6), (7, .int x7), (9, .int x9), (10, .int x10)]) hx hb dX6_pace_171 hl (by decide) rfl (fun ls hl => ?_)
    refine lv_iload hx hb dX6_pace_173 (lv_at hl 9 rfl) ?_
    refine lv_if_eq (x := x10) (tgt := 183) hx hb dX6_pace_175 (by decide) (fun q1 => ?_) (fun q1 => ?_)
    · replace h := if_t q1 h
      refine lv_iload hx hb dX6_pace_183 (lv_at hl 6 rfl) ?_
      exact B185 k61 C61 x4 s0 x7 x6 M _ _ _ h hP hS (lv_sub hl [1, 2, 3, 4, 5, 0, 7] rfl)
    · replace h := if_f q1 h
      refine lv_iload hx hb dX6_pace_178 (lv_at hl 8 rfl) ?_
      refine lv_goto (tgt := 185) hx hb dX6_pace_180 (by decide) ?_
      exact B185 k61 C61 x4 s0 x7 x9 M _ _ _ h hP hS (lv_sub hl [1, 2, 3, 4, 5, 0, 7] rfl)
  have B157 : ∀ (k61 : Int32 → Int32 → Int32 → Int32 → Mem → Option (Int32 × Mem)) (C61 : ∀ (x4 : Int32) (x5 : Int32) (x6 : Int32) (x7 : Int32) (M : Mem) (H : Heap) (locs : List Loc) (ls : Array Slot), k61 x4 x5 x6 x7 M = some (r, M') → va_P g.1 vwCl (wl 14 a (eN g a M)) H → va_S (aA 14 a s.heap.size) s.heap H locs → lv_has ls 11 [(0, .ref (a 0)), (1, .int p1), (2, .int p2), (3, .int p3), (4, .int x4), (5, .int x5), (6, .int x6), (7, .int x7)] → W p l e rmX6_pace s m args below meth c H locs 0 0 Qz (F0 m 61 ls [])), ∀ (x4 : Int32) (x5 : Int32) (x6 : Int32) (x7 : Int32) (x9 : Int32) (s0 : Int32) (M : Mem) (H : Heap) (locs : List Loc) (ls : Array Slot), fX6_pace_b157 p1 p2 p3 k61 x4 x5 x6 x7 x9 s0 M = some (r, M') → va_P g.1 vwCl (wl 14 a (eN g a M)) H → va_S (aA 14 a s.heap.size) s.heap H locs → lv_has ls 11 [(0, .ref (a 0)), (1, .int p1), (2, .int p2), (3, .int p3), (4, .int x4), (5, .int x5), (6, .int x6), (7, .int x7), (9, .int x9)] → W p l e rmX6_pace s m args below meth c H locs 0 0 Qz (F0 m 157 ls [.int s0]) := by
    intro k61 C61 x4 x5 x6 x7 x9 s0 M H locs ls h hP hS hl
    unfold fX6_pace_b157 at h
    refine lv_istore (lv' := [(10, .int s0), (0, .ref (a 0)), (1, .int p1), (2, .int p2), (3, .int p3), (4, .int x4), (5, .int x5), (6, .int x6), (7, .int x7), (9, .int x9)]) hx hb dX6_pace_157 hl (by decide) rfl (fun ls hl => ?_)
    refine lv_iload hx hb dX6_pace_159 (lv_at hl 0 rfl) ?_
    refine lv_if_eq (x := s0) (tgt := 169) hx hb dX6_pace_161 (by decide) (fun q1 => ?_) (fun q1 => ?_)
    · replace h := if_t q1 h
      refine lv_iload hx hb dX6_pace_169 (lv_at hl 6 rfl) ?_
      exact B171 k61 C61 x4 x6 x7 x9 s0 x5 M _ _ _ h hP hS (lv_sub hl [1, 2, 3, 4, 5, 7, 8, 9, 0] rfl)
    · replace h := if_f q1 h
      refine lv_iload hx hb dX6_pace_164 (lv_at hl 8 rfl) ?_
      refine lv_goto (tgt := 171) hx hb dX6_pace_166 (by decide) ?_
      exact B171 k61 C61 x4 x6 x7 x9 s0 x7 M _ _ _ h hP hS (lv_sub hl [1, 2, 3, 4, 5, 7, 8, 9, 0] rfl)
  have B156 : ∀ (k61 : Int32 → Int32 → Int32 → Int32 → Mem → Option (Int32 × Mem)) (C61 : ∀ (x4 : Int32) (x5 : Int32) (x6 : Int32) (x7 : Int32) (M : Mem) (H : Heap) (locs : List Loc) (ls : Array Slot), k61 x4 x5 x6 x7 M = some (r, M') → va_P g.1 vwCl (wl 14 a (eN g a M)) H → va_S (aA 14 a s.heap.size) s.heap H locs → lv_has ls 11 [(0, .ref (a 0)), (1, .int p1), (2, .int p2), (3, .int p3), (4, .int x4), (5, .int x5), (6, .int x6), (7, .int x7)] → W p l e rmX6_pace s m args below meth c H locs 0 0 Qz (F0 m 61 ls [])), ∀ (x4 : Int32) (x5 : Int32) (x6 : Int32) (x7 : Int32) (x9 : Int32) (M : Mem) (H : Heap) (locs : List Loc) (ls : Array Slot), fX6_pace_b156 p1 p2 p3 k61 x4 x5 x6 x7 x9 M = some (r, M') → va_P g.1 vwCl (wl 14 a (eN g a M)) H → va_S (aA 14 a s.heap.size) s.heap H locs → lv_has ls 11 [(0, .ref (a 0)), (1, .int p1), (2, .int p2), (3, .int p3), (4, .int x4), (5, .int x5), (6, .int x6), (7, .int x7), (9, .int x9)] → W p l e rmX6_pace s m args below meth c H locs 0 0 Qz (F0 m 156 ls []) := by
    intro k61 C61 x4 x5 x6 x7 x9 M H locs ls h hP hS hl
    unfold fX6_pace_b156 at h
    refine lv_iconst (v := 0) hx hb dX6_pace_156 (by decide) ?_
    exact B157 k61 C61 x4 x5 x6 x7 x9 0 M _ _ _ h hP hS (lv_sub hl [0, 1, 2, 3, 4, 5, 6, 7, 8] rfl)
  have B132 : ∀ (k61 : Int32 → Int32 → Int32 → Int32 → Mem → Option (Int32 × Mem)) (C61 : ∀ (x4 : Int32) (x5 : Int32) (x6 : Int32) (x7 : Int32) (M : Mem) (H : Heap) (locs : List Loc) (ls : Array Slot), k61 x4 x5 x6 x7 M = some (r, M') → va_P g.1 vwCl (wl 14 a (eN g a M)) H → va_S (aA 14 a s.heap.size) s.heap H locs → lv_has ls 11 [(0, .ref (a 0)), (1, .int p1), (2, .int p2), (3, .int p3), (4, .int x4), (5, .int x5), (6, .int x6), (7, .int x7)] → W p l e rmX6_pace s m args below meth c H locs 0 0 Qz (F0 m 61 ls [])), ∀ (x4 : Int32) (x5 : Int32) (x6 : Int32) (x7 : Int32) (x9 : Int32) (M : Mem) (H : Heap) (locs : List Loc) (ls : Array Slot), fX6_pace_b132 p1 p2 p3 k61 x4 x5 x6 x7 x9 M = some (r, M') → va_P g.1 vwCl (wl 14 a (eN g a M)) H → va_S (aA 14 a s.heap.size) s.heap H locs → lv_has ls 11 [(0, .ref (a 0)), (1, .int p1), (2, .int p2), (3, .int p3), (4, .int x4), (5, .int x5), (6, .int x6), (7, .int x7), (9, .int x9)] → W p l e rmX6_pace s m args below meth c H locs 0 0 Qz (F0 m 132 ls []) := by
    intro k61 C61 x4 x5 x6 x7 x9 M H locs ls h hP hS hl
    unfold fX6_pace_b132 at h
    refine lv_aload_n hx hb dX6_pace_132 rfl (lv_at hl 0 rfl) ?_
    refine r_get (v := .ref (a 11)) hx hb hts iX6 hown hK hP 0 (by decide) eN_0 rfl 14 (by decide) w41 rfl dX6_pace_133 ?_
    refine lv_iconst (v := 2) hx hb dX6_pace_136 (by decide) ?_
    refine lv_iload_n hx hb dX6_pace_137 rfl (lv_at hl 1 rfl) ?_
    refine lv_iadd (x := 2) (y := p1) hx hb dX6_pace_138 ?_
    obtain ⟨q1, h⟩ := chk_ok h
    refine r_iald (i := (2 + p1)) (h := M 11) hx hb hK hP 11 (by decide) rfl q1 dX6_pace_139 ?_
    refine lv_bipush (v := 99) hx hb dX6_pace_140 (by decide) ?_
    refine lv_icmp_ne (x := (M 11 (Int32.toNatClampNeg (2 + p1)))) (y := 99) (tgt := 156) hx hb dX6_pace_142 (by decide) (fun q2 => ?_) (fun q2 => ?_)
    · replace h := if_f q2 h
      exact B156 k61 C61 x4 x5 x6 x7 x9 M _ _ _ h hP hS (lv_sub hl [0, 1, 2, 3, 4, 5, 6, 7, 8] rfl)
    · replace h := if_t q2 h
      refine lv_iload hx hb dX6_pace_145 (lv_at hl 8 rfl) ?_
      refine lv_iload hx hb dX6_pace_147 (lv_at hl 6 rfl) ?_
      refine lv_icmp_ge (x := x9) (y := x6) (tgt := 156) hx hb dX6_pace_149 (by decide) (fun q3 => ?_) (fun q3 => ?_)
      · replace h := if_t q3 h
        exact B156 k61 C61 x4 x5 x6 x7 x9 M _ _ _ h hP hS (lv_sub hl [0, 1, 2, 3, 4, 5, 6, 7, 8] rfl)
      · replace h := if_f q3 h
        refine lv_iconst (v := 1) hx hb dX6_pace_152 (by decide) ?_
        refine lv_goto (tgt := 157) hx hb dX6_pace_153 (by decide) ?_
        exact B157 k61 C61 x4 x5 x6 x7 x9 1 M _ _ _ h hP hS (lv_sub hl [0, 1, 2, 3, 4, 5, 6, 7, 8] rfl)
  have B82 : ∀ (k61 : Int32 → Int32 → Int32 → Int32 → Mem → Option (Int32 × Mem)) (C61 : ∀ (x4 : Int32) (x5 : Int32) (x6 : Int32) (x7 : Int32) (M : Mem) (H : Heap) (locs : List Loc) (ls : Array Slot), k61 x4 x5 x6 x7 M = some (r, M') → va_P g.1 vwCl (wl 14 a (eN g a M)) H → va_S (aA 14 a s.heap.size) s.heap H locs → lv_has ls 11 [(0, .ref (a 0)), (1, .int p1), (2, .int p2), (3, .int p3), (4, .int x4), (5, .int x5), (6, .int x6), (7, .int x7)] → W p l e rmX6_pace s m args below meth c H locs 0 0 Qz (F0 m 61 ls [])) (k82 : Int32 → Int32 → Int32 → Int32 → Int32 → Int32 → Int32 → Mem → Option (Int32 × Mem)) (C82 : ∀ (x4 : Int32) (x5 : Int32) (x6 : Int32) (x7 : Int32) (x8 : Int32) (x9 : Int32) (x10 : Int32) (M : Mem) (H : Heap) (locs : List Loc) (ls : Array Slot), k82 x4 x5 x6 x7 x8 x9 x10 M = some (r, M') → va_P g.1 vwCl (wl 14 a (eN g a M)) H → va_S (aA 14 a s.heap.size) s.heap H locs → lv_has ls 11 [(0, .ref (a 0)), (1, .int p1), (2, .int p2), (3, .int p3), (4, .int x4), (5, .int x5), (6, .int x6), (7, .int x7), (8, .int x8), (9, .int x9), (10, .int x10)] → W p l e rmX6_pace s m args below meth c H locs 0 0 Qz (F0 m 82 ls [])), ∀ (x4 : Int32) (x5 : Int32) (x6 : Int32) (x7 : Int32) (x8 : Int32) (x9 : Int32) (x10 : Int32) (M : Mem) (H : Heap) (locs : List Loc) (ls : Array Slot), fX6_pace_b82 p1 p2 p3 k61 k82 x4 x5 x6 x7 x8 x9 x10 M = some (r, M') → va_P g.1 vwCl (wl 14 a (eN g a M)) H → va_S (aA 14 a s.heap.size) s.heap H locs → lv_has ls 11 [(0, .ref (a 0)), (1, .int p1), (2, .int p2), (3, .int p3), (4, .int x4), (5, .int x5), (6, .int x6), (7, .int x7), (8, .int x8), (9, .int x9), (10, .int x10)] → W p l e rmX6_pace s m args below meth c H locs 0 0 Qz (F0 m 82 ls []) := by
    intro k61 C61 k82 C82 x4 x5 x6 x7 x8 x9 x10 M H locs ls h hP hS hl
    unfold fX6_pace_b82 at h
    refine lv_iload hx hb dX6_pace_82 (lv_at hl 10 rfl) ?_
    refine lv_iload_n hx hb dX6_pace_84 rfl (lv_at hl 2 rfl) ?_
    refine lv_icmp_ge (x := x10) (y := p2) (tgt := 132) hx hb dX6_pace_85 (by decide) (fun q1 => ?_) (fun q1 => ?_)
    · replace h := if_t q1 h
      exact B132 k61 C61 x4 x5 x6 x7 x9 M _ _ _ h hP hS (lv_sub hl [0, 1, 2, 3, 4, 5, 6, 7, 9] rfl)
    · replace h := if_f q1 h
      refine lv_iload hx hb dX6_pace_88 (lv_at hl 8 rfl) ?_
      refine lv_iconst (v := 3) hx hb dX6_pace_90 (by decide) ?_
      refine lv_idiv (x := x8) (y := 3) hx hb dX6_pace_91 (by decide) ?_
      refine lv_istore (lv' := [(8, .int (x8 / 3)), (0, .ref (a 0)), (1, .int p1), (2, .int p2), (3, .int p3), (4, .int x4), (5, .int x5), (6, .int x6), (7, .int x7), (9, .int x9), (10, .int x10)]) hx hb dX6_pace_92 hl (by decide) rfl (fun ls hl => ?_)
      refine lv_aload_n hx hb dX6_pace_94 rfl (lv_at hl 1 rfl) ?_
      refine r_get (v := .ref (a 11)) hx hb hts iX6 hown hK hP 0 (by decide) eN_0 rfl 14 (by decide) w41 rfl dX6_pace_95 ?_
      refine lv_iconst (v := 1) hx hb dX6_pace_98 (by decide) ?_
      refine lv_iload hx hb dX6_pace_99 (lv_at hl 8 rfl) ?_
      refine lv_iload hx hb dX6_pace_101 (lv_at hl 0 rfl) ?_
      obtain ⟨q2, h⟩ := chk_ok h
      refine lv_idiv (x := x7) (y := (x8 / 3)) hx hb dX6_pace_103 (of_decide_eq_true q2) ?_
      refine lv_iconst (v := 3) hx hb dX6_pace_104 (by decide) ?_
      refine lv_irem (x := (x7 / (x8 / 3))) (y := 3) hx hb dX6_pace_105 (by decide) ?_
      obtain ⟨q3, h⟩ := chk_ok h
      refine r_iast (i := 1) (x := ((x7 / (x8 / 3)) - (x7 / (x8 / 3)) / 3 * 3)) (h := M 11) (f' := eN g a (mp M 11 (Int32.toNatClampNeg 1) ((x7 / (x8 / 3)) - (x7 / (x8 / 3)) / 3 * 3))) hx hb hK hI (fun _ h => aA_in h) hP hS 11 (by decide) rfl q3 (eN_ua (fun _ => rfl)) dX6_pace_106 (fun H locs hP hS => ?_)
      refine lv_iload hx hb dX6_pace_107 (lv_at hl 9 rfl) ?_
      refine lv_aload_n hx hb dX6_pace_109 rfl (lv_at hl 1 rfl) ?_
      refine r_get (v := .ref (a 11)) hx hb hts iX6 hown hK hP 0 (by decide) eN_0 rfl 14 (by decide) w41 rfl dX6_pace_110 ?_
      refine lv_iconst (v := 1) hx hb dX6_pace_113 (by decide) ?_
      obtain ⟨q4, h⟩ := chk_ok h
      refine r_iald (i := 1) (h := (mp M 11 (Int32.toNatClampNeg 1) ((x7 / (x8 / 3)) - (x7 / (x8 / 3)) / 3 * 3)) 11) hx hb hK hP 11 (by decide) rfl q4 dX6_pace_114 ?_
      refine lv_iadd (x := x9) (y := ((mp M 11 (Int32.toNatClampNeg 1) ((x7 / (x8 / 3)) - (x7 / (x8 / 3)) / 3 * 3)) 11 (Int32.toNatClampNeg 1))) hx hb dX6_pace_115 ?_
      refine lv_istore (lv' := [(9, .int (x9 + ((mp M 11 (Int32.toNatClampNeg 1) ((x7 / (x8 / 3)) - (x7 / (x8 / 3)) / 3 * 3)) 11 (Int32.toNatClampNeg 1)))), (8, .int (x8 / 3)), (0, .ref (a 0)), (1, .int p1), (2, .int p2), (3, .int p3), (4, .int x4), (5, .int x5), (6, .int x6), (7, .int x7), (10, .int x10)]) hx hb dX6_pace_116 hl (by decide) rfl (fun ls hl => ?_)
      refine lv_aload_n hx hb dX6_pace_118 rfl (lv_at hl 2 rfl) ?_
      refine lv_aload_n hx hb dX6_pace_119 rfl (lv_at hl 2 rfl) ?_
      refine r_get (v := .ref (a 11)) hx hb hts iX6 hown hK hP 0 (by decide) eN_0 rfl 14 (by decide) w41 rfl dX6_pace_120 ?_
      obtain ⟨M7, e6, h⟩ := bdV_ok h
      refine r_callVv (As := [.ref (a 11)]) (rest := []) (ws' := (wl 14 a (eN g a M7))) (ok_X6_tick l g a hI 11 (mp M 11 (Int32.toNatClampNeg 1) ((x7 / (x8 / 3)) - (x7 / (x8 / 3)) / 3 * 3)) M7 (by decide) e6) ⟨hx, hb, hml, hown, hts⟩ (cwV 1 hts gX6_pace_X6_tick rfl rfl rfl (by decide +kernel) ⟨Nat.le_of_ble_eq_true rfl, Nat.le_of_ble_eq_true rfl⟩) hK (r_recv hK hP 0 (by decide) eN_0 (show vwCl[6]? = some (RX6, TX6, 20) from rfl)) hS hP (fun _ hq => aA_mono hS.1 hq) (fun _ h _ => h) rfl hl.1 rfl (Nat.le_of_ble_eq_true rfl) dX6_pace_123 ⟨Nat.zero_le _, Nat.zero_le _⟩ (fun H locs hP hS => ?_)
      refine lv_iinc (v := (x10 + 1)) (lv' := [(10, .int (x10 + 1)), (9, .int (x9 + ((mp M 11 (Int32.toNatClampNeg 1) ((x7 / (x8 / 3)) - (x7 / (x8 / 3)) / 3 * 3)) 11 (Int32.toNatClampNeg 1)))), (8, .int (x8 / 3)), (0, .ref (a 0)), (1, .int p1), (2, .int p2), (3, .int p3), (4, .int x4), (5, .int x5), (6, .int x6), (7, .int x7)]) hx hb dX6_pace_126 hl (k := 10) rfl rfl (by decide) rfl (fun ls hl => ?_)
      refine lv_goto (tgt := 82) hx hb dX6_pace_129 (by decide) ?_
      exact C82 x4 x5 x6 x7 (x8 / 3) (x9 + ((mp M 11 (Int32.toNatClampNeg 1) ((x7 / (x8 / 3)) - (x7 / (x8 / 3)) / 3 * 3)) 11 (Int32.toNatClampNeg 1))) (x10 + 1) M7 _ _ _ h hP hS (lv_sub hl [3, 4, 5, 6, 7, 8, 9, 10, 2, 1, 0] rfl)
  have L82 : ∀ (k61 : Int32 → Int32 → Int32 → Int32 → Mem → Option (Int32 × Mem)) (C61 : ∀ (x4 : Int32) (x5 : Int32) (x6 : Int32) (x7 : Int32) (M : Mem) (H : Heap) (locs : List Loc) (ls : Array Slot), k61 x4 x5 x6 x7 M = some (r, M') → va_P g.1 vwCl (wl 14 a (eN g a M)) H → va_S (aA 14 a s.heap.size) s.heap H locs → lv_has ls 11 [(0, .ref (a 0)), (1, .int p1), (2, .int p2), (3, .int p3), (4, .int x4), (5, .int x5), (6, .int x6), (7, .int x7)] → W p l e rmX6_pace s m args below meth c H locs 0 0 Qz (F0 m 61 ls [])) (n : Nat), ∀ (x4 : Int32) (x5 : Int32) (x6 : Int32) (x7 : Int32) (x8 : Int32) (x9 : Int32) (x10 : Int32) (M : Mem) (H : Heap) (locs : List Loc) (ls : Array Slot), fX6_pace_l82 p1 p2 p3 k61 n x4 x5 x6 x7 x8 x9 x10 M = some (r, M') → va_P g.1 vwCl (wl 14 a (eN g a M)) H → va_S (aA 14 a s.heap.size) s.heap H locs → lv_has ls 11 [(0, .ref (a 0)), (1, .int p1), (2, .int p2), (3, .int p3), (4, .int x4), (5, .int x5), (6, .int x6), (7, .int x7), (8, .int x8), (9, .int x9), (10, .int x10)] → W p l e rmX6_pace s m args below meth c H locs 0 0 Qz (F0 m 82 ls []) := by
    intro k61 C61 n
    induction n with
    | zero => intro x4 x5 x6 x7 x8 x9 x10 M H locs ls h; exact absurd (show (none : Option (Int32 × Mem)) = some _ from h) (fun z => by cases z)
    | succ n ih => exact fun x4 x5 x6 x7 x8 x9 x10 M H locs ls h hP hS hl => B82 k61 C61 (fX6_pace_l82 p1 p2 p3 k61 n) ih x4 x5 x6 x7 x8 x9 x10 M H locs ls h hP hS hl
  have B61 : ∀ (k61 : Int32 → Int32 → Int32 → Int32 → Mem → Option (Int32 × Mem)) (C61 : ∀ (x4 : Int32) (x5 : Int32) (x6 : Int32) (x7 : Int32) (M : Mem) (H : Heap) (locs : List Loc) (ls : Array Slot), k61 x4 x5 x6 x7 M = some (r, M') → va_P g.1 vwCl (wl 14 a (eN g a M)) H → va_S (aA 14 a s.heap.size) s.heap H locs → lv_has ls 11 [(0, .ref (a 0)), (1, .int p1), (2, .int p2), (3, .int p3), (4, .int x4), (5, .int x5), (6, .int x6), (7, .int x7)] → W p l e rmX6_pace s m args below meth c H locs 0 0 Qz (F0 m 61 ls [])), ∀ (x4 : Int32) (x5 : Int32) (x6 : Int32) (x7 : Int32) (M : Mem) (H : Heap) (locs : List Loc) (ls : Array Slot), fX6_pace_b61 p1 p2 p3 k61 x4 x5 x6 x7 M = some (r, M') → va_P g.1 vwCl (wl 14 a (eN g a M)) H → va_S (aA 14 a s.heap.size) s.heap H locs → lv_has ls 11 [(0, .ref (a 0)), (1, .int p1), (2, .int p2), (3, .int p3), (4, .int x4), (5, .int x5), (6, .int x6), (7, .int x7)] → W p l e rmX6_pace s m args below meth c H locs 0 0 Qz (F0 m 61 ls []) := by
    intro k61 C61 x4 x5 x6 x7 M H locs ls h hP hS hl
    unfold fX6_pace_b61 at h
    refine lv_iload hx hb dX6_pace_61 (lv_at hl 7 rfl) ?_
    refine lv_iload hx hb dX6_pace_63 (lv_at hl 4 rfl) ?_
    refine lv_icmp_ge (x := x7) (y := x4) (tgt := 193) hx hb dX6_pace_65 (by decide) (fun q1 => ?_) (fun q1 => ?_)
    · replace h := if_t q1 h
      exact B193 x5 x6 M _ _ _ h hP hS (lv_sub hl [0, 1, 2, 3, 5, 6] rfl)
    · replace h := if_f q1 h
      refine lv_aload_n hx hb dX6_pace_68 rfl (lv_at hl 0 rfl) ?_
      obtain ⟨M4, e3, h⟩ := bdV_ok h
      refine r_callVv (As := []) (rest := []) (ws' := (wl 14 a (eN g a M4))) (ok_X6_starts l g a hI M M4 e3) ⟨hx, hb, hml, hown, hts⟩ (cwV 0 hts gX6_pace_X6_starts rfl rfl rfl (by decide +kernel) ⟨Nat.le_of_ble_eq_true rfl, Nat.le_of_ble_eq_true rfl⟩) hK (r_recv hK hP 0 (by decide) eN_0 (show vwCl[6]? = some (RX6, TX6, 20) from rfl)) hS hP (fun _ hq => aA_mono hS.1 hq) (fun _ h _ => h) rfl hl.1 rfl (Nat.le_of_ble_eq_true rfl) dX6_pace_69 ⟨Nat.zero_le _, Nat.zero_le _⟩ (fun H locs hP hS => ?_)
      refine lv_iload hx hb dX6_pace_72 (lv_at hl 4 rfl) ?_
      refine lv_istore (lv' := [(8, .int x4), (0, .ref (a 0)), (1, .int p1), (2, .int p2), (3, .int p3), (4, .int x4), (5, .int x5), (6, .int x6), (7, .int x7)]) hx hb dX6_pace_74 hl (by decide) rfl (fun ls hl => ?_)
      refine lv_iconst (v := 0) hx hb dX6_pace_76 (by decide) ?_
      refine lv_istore (lv' := [(9, .int 0), (8, .int x4), (0, .ref (a 0)), (1, .int p1), (2, .int p2), (3, .int p3), (4, .int x4), (5, .int x5), (6, .int x6), (7, .int x7)]) hx hb dX6_pace_77 hl (by decide) rfl (fun ls hl => ?_)
      refine lv_iconst (v := 0) hx hb dX6_pace_79 (by decide) ?_
      refine lv_istore (lv' := [(10, .int 0), (9, .int 0), (8, .int x4), (0, .ref (a 0)), (1, .int p1), (2, .int p2), (3, .int p3), (4, .int x4), (5, .int x5), (6, .int x6), (7, .int x7)]) hx hb dX6_pace_80 hl (by decide) rfl (fun ls hl => ?_)
      exact L82 k61 C61 FU x4 x5 x6 x7 x4 0 0 M4 _ _ _ h hP hS (lv_sub hl [3, 4, 5, 6, 7, 8, 9, 10, 2, 1, 0] rfl)
  have L61 : ∀ (n : Nat), ∀ (x4 : Int32) (x5 : Int32) (x6 : Int32) (x7 : Int32) (M : Mem) (H : Heap) (locs : List Loc) (ls : Array Slot), fX6_pace_l61 p1 p2 p3 n x4 x5 x6 x7 M = some (r, M') → va_P g.1 vwCl (wl 14 a (eN g a M)) H → va_S (aA 14 a s.heap.size) s.heap H locs → lv_has ls 11 [(0, .ref (a 0)), (1, .int p1), (2, .int p2), (3, .int p3), (4, .int x4), (5, .int x5), (6, .int x6), (7, .int x7)] → W p l e rmX6_pace s m args below meth c H locs 0 0 Qz (F0 m 61 ls []) := by
    intro n
    induction n with
    | zero => intro x4 x5 x6 x7 M H locs ls h; exact absurd (show (none : Option (Int32 × Mem)) = some _ from h) (fun z => by cases z)
    | succ n ih => exact fun x4 x5 x6 x7 M H locs ls h hP hS hl => B61 (fX6_pace_l61 p1 p2 p3 n) ih x4 x5 x6 x7 M H locs ls h hP hS hl
  have B50 : ∀ (x4 : Int32) (M : Mem) (H : Heap) (locs : List Loc) (ls : Array Slot), fX6_pace_b50 p1 p2 p3 x4 M = some (r, M') → va_P g.1 vwCl (wl 14 a (eN g a M)) H → va_S (aA 14 a s.heap.size) s.heap H locs → lv_has ls 11 [(0, .ref (a 0)), (1, .int p1), (2, .int p2), (3, .int p3), (4, .int x4)] → W p l e rmX6_pace s m args below meth c H locs 0 0 Qz (F0 m 50 ls []) := by
    intro x4 M H locs ls h hP hS hl
    unfold fX6_pace_b50 at h
    refine lv_ldc (v := (-1000000)) hx hb hown w154 dX6_pace_50 ?_
    refine lv_istore (lv' := [(5, .int (-1000000)), (0, .ref (a 0)), (1, .int p1), (2, .int p2), (3, .int p3), (4, .int x4)]) hx hb dX6_pace_52 hl (by decide) rfl (fun ls hl => ?_)
    refine lv_bipush (v := 99) hx hb dX6_pace_54 (by decide) ?_
    refine lv_istore (lv' := [(6, .int 99), (5, .int (-1000000)), (0, .ref (a 0)), (1, .int p1), (2, .int p2), (3, .int p3), (4, .int x4)]) hx hb dX6_pace_56 hl (by decide) rfl (fun ls hl => ?_)
    refine lv_iconst (v := 0) hx hb dX6_pace_58 (by decide) ?_
    refine lv_istore (lv' := [(7, .int 0), (6, .int 99), (5, .int (-1000000)), (0, .ref (a 0)), (1, .int p1), (2, .int p2), (3, .int p3), (4, .int x4)]) hx hb dX6_pace_59 hl (by decide) rfl (fun ls hl => ?_)
    exact L61 FU x4 (-1000000) 99 0 M _ _ _ h hP hS (lv_sub hl [3, 4, 5, 6, 7, 2, 1, 0] rfl)
  have B32 : ∀ (k32 : Int32 → Int32 → Mem → Option (Int32 × Mem)) (C32 : ∀ (x4 : Int32) (x5 : Int32) (M : Mem) (H : Heap) (locs : List Loc) (ls : Array Slot), k32 x4 x5 M = some (r, M') → va_P g.1 vwCl (wl 14 a (eN g a M)) H → va_S (aA 14 a s.heap.size) s.heap H locs → lv_has ls 11 [(0, .ref (a 0)), (1, .int p1), (2, .int p2), (3, .int p3), (4, .int x4), (5, .int x5)] → W p l e rmX6_pace s m args below meth c H locs 0 0 Qz (F0 m 32 ls [])), ∀ (x4 : Int32) (x5 : Int32) (M : Mem) (H : Heap) (locs : List Loc) (ls : Array Slot), fX6_pace_b32 p1 p2 p3 k32 x4 x5 M = some (r, M') → va_P g.1 vwCl (wl 14 a (eN g a M)) H → va_S (aA 14 a s.heap.size) s.heap H locs → lv_has ls 11 [(0, .ref (a 0)), (1, .int p1), (2, .int p2), (3, .int p3), (4, .int x4), (5, .int x5)] → W p l e rmX6_pace s m args below meth c H locs 0 0 Qz (F0 m 32 ls []) := by
    intro k32 C32 x4 x5 M H locs ls h hP hS hl
    unfold fX6_pace_b32 at h
    refine lv_iload hx hb dX6_pace_32 (lv_at hl 5 rfl) ?_
    refine lv_iload_n hx hb dX6_pace_34 rfl (lv_at hl 2 rfl) ?_
    refine lv_icmp_ge (x := x5) (y := p2) (tgt := 50) hx hb dX6_pace_35 (by decide) (fun q1 => ?_) (fun q1 => ?_)
    · replace h := if_t q1 h
      exact B50 x4 M _ _ _ h hP hS (lv_sub hl [0, 1, 2, 3, 4] rfl)
    · replace h := if_f q1 h
      refine lv_iload hx hb dX6_pace_38 (lv_at hl 4 rfl) ?_
      refine lv_iconst (v := 3) hx hb dX6_pace_40 (by decide) ?_
      refine lv_imul (x := x4) (y := 3) hx hb dX6_pace_41 ?_
      refine lv_istore (lv' := [(4, .int (x4 * 3)), (0, .ref (a 0)), (1, .int p1), (2, .int p2), (3, .int p3), (5, .int x5)]) hx hb dX6_pace_42 hl (by decide) rfl (fun ls hl => ?_)
      refine lv_iinc (v := (x5 + 1)) (lv' := [(5, .int (x5 + 1)), (4, .int (x4 * 3)), (0, .ref (a 0)), (1, .int p1), (2, .int p2), (3, .int p3)]) hx hb dX6_pace_44 hl (k := 5) rfl rfl (by decide) rfl (fun ls hl => ?_)
      refine lv_goto (tgt := 32) hx hb dX6_pace_47 (by decide) ?_
      exact C32 (x4 * 3) (x5 + 1) M _ _ _ h hP hS (lv_sub hl [2, 3, 4, 5, 1, 0] rfl)
  have L32 : ∀ (n : Nat), ∀ (x4 : Int32) (x5 : Int32) (M : Mem) (H : Heap) (locs : List Loc) (ls : Array Slot), fX6_pace_l32 p1 p2 p3 n x4 x5 M = some (r, M') → va_P g.1 vwCl (wl 14 a (eN g a M)) H → va_S (aA 14 a s.heap.size) s.heap H locs → lv_has ls 11 [(0, .ref (a 0)), (1, .int p1), (2, .int p2), (3, .int p3), (4, .int x4), (5, .int x5)] → W p l e rmX6_pace s m args below meth c H locs 0 0 Qz (F0 m 32 ls []) := by
    intro n
    induction n with
    | zero => intro x4 x5 M H locs ls h; exact absurd (show (none : Option (Int32 × Mem)) = some _ from h) (fun z => by cases z)
    | succ n ih => exact fun x4 x5 M H locs ls h hP hS hl => B32 (fX6_pace_l32 p1 p2 p3 n) ih x4 x5 M H locs ls h hP hS hl
  unfold fX6_pace at h
  refine lv_aload_n hx hb dX6_pace_0 rfl (lv_at hl 0 rfl) ?_
  refine lv_iload_n hx hb dX6_pace_1 rfl (lv_at hl 1 rfl) ?_
  obtain ⟨r1, e2, h⟩ := bdP_ok h
  refine r_callVi (As := [.int p1]) (rest := []) (ws' := (wl 14 a (eN g a M))) (ok_X6_isRider l g a hI p1 M r1 e2) ⟨hx, hb, hml, hown, hts⟩ (cwV 1 hts gX6_pace_X6_isRider rfl rfl rfl (by decide +kernel) ⟨Nat.le_of_ble_eq_true rfl, Nat.le_of_ble_eq_true rfl⟩) hK (r_recv hK hP 0 (by decide) eN_0 (show vwCl[6]? = some (RX6, TX6, 20) from rfl)) hS hP (fun _ hq => aA_mono hS.1 hq) (fun _ h _ => h) rfl hl.1 rfl (Nat.le_of_ble_eq_true rfl) dX6_pace_2 ⟨Nat.zero_le _, Nat.zero_le _⟩ (fun H locs hP hS => ?_)
  refine lv_if_eq (x := r1) (tgt := 23) hx hb dX6_pace_5 (by decide) (fun q3 => ?_) (fun q3 => ?_)
  · replace h := if_t q3 h
    refine lv_ldc (v := (-1000001)) hx hb hown w65 dX6_pace_23 ?_
    rw [hQz]
    exact r_iret (v := (-1000001)) hx hb hr hlk hS ((Prod.mk.inj (Option.some.inj h)).2 ▸ hP) (Prod.mk.inj (Option.some.inj h)).1 dX6_pace_25
  · replace h := if_f q3 h
    refine lv_iload_n hx hb dX6_pace_8 rfl (lv_at hl 2 rfl) ?_
    refine lv_iconst (v := 1) hx hb dX6_pace_9 (by decide) ?_
    refine lv_bipush (v := 6) hx hb dX6_pace_10 (by decide) ?_
    obtain ⟨r4, e5, h⟩ := bdP_ok h
    refine r_callSi (As := [.int p2, .int 1, .int 6]) (rest := []) (ws' := (wl 14 a (eN g a M))) (ok_X6_in l g p2 1 6 r4 e5) ⟨hx, hb, hml, hown, hts⟩ (cwS 3 hts gX6_pace_X6_in rfl rfl rfl (by decide +kernel) ⟨Nat.le_of_ble_eq_true rfl, Nat.le_of_ble_eq_true rfl⟩) hK hS nilP (P_A hS.1) (fun _ _ hk => wl_keep hP hk) rfl hl.1 rfl (Nat.le_of_ble_eq_true rfl) dX6_pace_12 ⟨Nat.zero_le _, Nat.zero_le _⟩ (fun H locs hP hS => ?_)
    refine lv_if_eq (x := r4) (tgt := 23) hx hb dX6_pace_15 (by decide) (fun q6 => ?_) (fun q6 => ?_)
    · replace h := if_t q6 h
      refine lv_ldc (v := (-1000001)) hx hb hown w65 dX6_pace_23 ?_
      rw [hQz]
      exact r_iret (v := (-1000001)) hx hb hr hlk hS ((Prod.mk.inj (Option.some.inj h)).2 ▸ hP) (Prod.mk.inj (Option.some.inj h)).1 dX6_pace_25
    · replace h := if_f q6 h
      refine lv_iload_n hx hb dX6_pace_18 rfl (lv_at hl 3 rfl) ?_
      refine lv_iconst (v := (-1)) hx hb dX6_pace_19 (by decide) ?_
      refine lv_icmp_ge (x := p3) (y := (-1)) (tgt := 26) hx hb dX6_pace_20 (by decide) (fun q7 => ?_) (fun q7 => ?_)
      · replace h := if_t q7 h
        refine lv_iconst (v := 1) hx hb dX6_pace_26 (by decide) ?_
        refine lv_istore (lv' := [(4, .int 1), (0, .ref (a 0)), (1, .int p1), (2, .int p2), (3, .int p3)]) hx hb dX6_pace_27 hl (by decide) rfl (fun ls hl => ?_)
        refine lv_iconst (v := 0) hx hb dX6_pace_29 (by decide) ?_
        refine lv_istore (lv' := [(5, .int 0), (4, .int 1), (0, .ref (a 0)), (1, .int p1), (2, .int p2), (3, .int p3)]) hx hb dX6_pace_30 hl (by decide) rfl (fun ls hl => ?_)
        exact L32 FU 1 0 M _ _ _ h hP hS (lv_sub hl [2, 3, 4, 5, 1, 0] rfl)
      · replace h := if_f q7 h
        refine lv_ldc (v := (-1000001)) hx hb hown w65 dX6_pace_23 ?_
        rw [hQz]
        exact r_iret (v := (-1000001)) hx hb hr hlk hS ((Prod.mk.inj (Option.some.inj h)).2 ▸ hP) (Prod.mk.inj (Option.some.inj h)).1 dX6_pace_25
