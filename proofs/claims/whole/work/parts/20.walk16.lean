def rmX6_isSo : Room := { frames := 5, cells := 0, slots := 0, locals := 157 }
set_option maxHeartbeats 4000000 in
set_option maxRecDepth 100000 in
theorem ok_X6_isSo (l : Launch) (g : gT) (a : Nat → Nat) (hI : ij 14 a) (p1 : Int32) (p2 : Int32) (p3 : Int32) (M : Mem) (M' : Mem) (r : Int32) (h : fX6_isSo p1 p2 p3 M = some (r, M')) : MI l yX6_isSo wsX6_isSo rmX6_isSo g 14 a [.ref (a 0), .int p1, .int p2, .int p3] (wl 14 a (eN g a M)) (wl 14 a (eN g a M')) r := by
  refine MI_of (cc := cX6_isSo) (maxL := 6) (rt := .boolean) (by decide) rfl (Nat.le_of_ble_eq_true rfl) ?_
  intro p e s m args below meth c ls hx hb hml hr hlk hts hown hK hP hl
  have hown : s.vm.findClass RX6 = some m.cls := hown
  have hl : lv_has ls 6 [(0, .ref (a 0)), (1, .int p1), (2, .int p2), (3, .int p3)] := hl
  have hS : va_S (aA 14 a s.heap.size) s.heap s.heap [] := va_S.rf
  have iX6 : ∀ w ∈ wsX60, w ∈ wsX6_isSo := fun w h => List.mem_cons_of_mem _ (List.mem_append_right _ h)
  have w41 := hts (.fieldLink RX6 41 "StepRidersModel" "then" "[I") (by decide +kernel)
  have w16 := hts (.fieldLink RX6 16 "StepRidersModel" "items" "[I") (by decide +kernel)
  obtain ⟨Qz, hQz⟩ : ∃ Qz : State → Prop, Qz = MQ below (qI g (wl 14 a (eN g a M')) r (aA 14 a s.heap.size)) args s 0 0 (aA 14 a s.heap.size) := ⟨_, rfl⟩
  rw [← hQz]
  have B50 : ∀ (k6 : Int32 → Int32 → Mem → Option (Int32 × Mem)) (C6 : ∀ (x4 : Int32) (x5 : Int32) (M : Mem) (H : Heap) (locs : List Loc) (ls : Array Slot), k6 x4 x5 M = some (r, M') → va_P g.1 vwCl (wl 14 a (eN g a M)) H → va_S (aA 14 a s.heap.size) s.heap H locs → lv_has ls 6 [(0, .ref (a 0)), (1, .int p1), (2, .int p2), (3, .int p3), (4, .int x4), (5, .int x5)] → W p l e rmX6_isSo s m args below meth c H locs 0 0 Qz (F0 m 6 ls [])), ∀ (x5 : Int32) (s0 : Int32) (M : Mem) (H : Heap) (locs : List Loc) (ls : Array Slot), fX6_isSo_b50 p1 p2 p3 k6 x5 s0 M = some (r, M') → va_P g.1 vwCl (wl 14 a (eN g a M)) H → va_S (aA 14 a s.heap.size) s.heap H locs → lv_has ls 6 [(0, .ref (a 0)), (1, .int p1), (2, .int p2), (3, .int p3), (5, .int x5)] → W p l e rmX6_isSo s m args below meth c H locs 0 0 Qz (F0 m 50 ls [.int s0]) := by
    intro k6 C6 x5 s0 M H locs ls h hP hS hl
    unfold fX6_isSo_b50 at h
    refine lv_istore (lv' := [(4, .int s0), (0, .ref (a 0)), (1, .int p1), (2, .int p2), (3, .int p3), (5, .int x5)]) hx hb dX6_isSo_50 hl (by decide) rfl (fun ls hl => ?_)
    refine lv_iinc (v := (x5 + 1)) (lv' := [(5, .int (x5 + 1)), (4, .int s0), (0, .ref (a 0)), (1, .int p1), (2, .int p2), (3, .int p3)]) hx hb dX6_isSo_52 hl (k := 5) rfl rfl (by decide) rfl (fun ls hl => ?_)
    refine lv_goto (tgt := 6) hx hb dX6_isSo_55 (by decide) ?_
    exact C6 s0 (x5 + 1) M _ _ _ h hP hS (lv_sub hl [2, 3, 4, 5, 1, 0] rfl)
  have B49 : ∀ (k6 : Int32 → Int32 → Mem → Option (Int32 × Mem)) (C6 : ∀ (x4 : Int32) (x5 : Int32) (M : Mem) (H : Heap) (locs : List Loc) (ls : Array Slot), k6 x4 x5 M = some (r, M') → va_P g.1 vwCl (wl 14 a (eN g a M)) H → va_S (aA 14 a s.heap.size) s.heap H locs → lv_has ls 6 [(0, .ref (a 0)), (1, .int p1), (2, .int p2), (3, .int p3), (4, .int x4), (5, .int x5)] → W p l e rmX6_isSo s m args below meth c H locs 0 0 Qz (F0 m 6 ls [])), ∀ (x5 : Int32) (M : Mem) (H : Heap) (locs : List Loc) (ls : Array Slot), fX6_isSo_b49 p1 p2 p3 k6 x5 M = some (r, M') → va_P g.1 vwCl (wl 14 a (eN g a M)) H → va_S (aA 14 a s.heap.size) s.heap H locs → lv_has ls 6 [(0, .ref (a 0)), (1, .int p1), (2, .int p2), (3, .int p3), (5, .int x5)] → W p l e rmX6_isSo s m args below meth c H locs 0 0 Qz (F0 m 49 ls []) := by
    intro k6 C6 x5 M H locs ls h hP hS hl
    unfold fX6_isSo_b49 at h
    refine lv_iconst (v := 0) hx hb dX6_isSo_49 (by decide) ?_
    exact B50 k6 C6 x5 0 M _ _ _ h hP hS (lv_sub hl [0, 1, 2, 3, 4] rfl)
  have B6 : ∀ (k6 : Int32 → Int32 → Mem → Option (Int32 × Mem)) (C6 : ∀ (x4 : Int32) (x5 : Int32) (M : Mem) (H : Heap) (locs : List Loc) (ls : Array Slot), k6 x4 x5 M = some (r, M') → va_P g.1 vwCl (wl 14 a (eN g a M)) H → va_S (aA 14 a s.heap.size) s.heap H locs → lv_has ls 6 [(0, .ref (a 0)), (1, .int p1), (2, .int p2), (3, .int p3), (4, .int x4), (5, .int x5)] → W p l e rmX6_isSo s m args below meth c H locs 0 0 Qz (F0 m 6 ls [])), ∀ (x4 : Int32) (x5 : Int32) (M : Mem) (H : Heap) (locs : List Loc) (ls : Array Slot), fX6_isSo_b6 p1 p2 p3 k6 x4 x5 M = some (r, M') → va_P g.1 vwCl (wl 14 a (eN g a M)) H → va_S (aA 14 a s.heap.size) s.heap H locs → lv_has ls 6 [(0, .ref (a 0)), (1, .int p1), (2, .int p2), (3, .int p3), (4, .int x4), (5, .int x5)] → W p l e rmX6_isSo s m args below meth c H locs 0 0 Qz (F0 m 6 ls []) := by
    intro k6 C6 x4 x5 M H locs ls h hP hS hl
    unfold fX6_isSo_b6 at h
    refine lv_iload hx hb dX6_isSo_6 (lv_at hl 5 rfl) ?_
    refine lv_iload_n hx hb dX6_isSo_8 rfl (lv_at hl 3 rfl) ?_
    refine lv_icmp_ge (x := x5) (y := p3) (tgt := 58) hx hb dX6_isSo_9 (by decide) (fun q1 => ?_) (fun q1 => ?_)
    · replace h := if_t q1 h
      refine lv_iload hx hb dX6_isSo_58 (lv_at hl 4 rfl) ?_
      obtain ⟨q2, h⟩ := chk_ok h
      rw [hQz]
      exact r_zret (v := x4) hx hb hr hlk hS ((Prod.mk.inj (Option.some.inj h)).2 ▸ hP) (Prod.mk.inj (Option.some.inj h)).1 q2 dX6_isSo_60
    · replace h := if_f q1 h
      refine lv_aload_n hx hb dX6_isSo_12 rfl (lv_at hl 0 rfl) ?_
      refine lv_aload_n hx hb dX6_isSo_13 rfl (lv_at hl 0 rfl) ?_
      refine r_get (v := .ref (a 11)) hx hb hts iX6 hown hK hP 0 (by decide) eN_0 rfl 14 (by decide) w41 rfl dX6_isSo_14 ?_
      obtain ⟨M5, e4, h⟩ := bdV_ok h
      refine r_callVv (As := [.ref (a 11)]) (rest := []) (ws' := (wl 14 a (eN g a M5))) (ok_X6_tick l g a hI 11 M M5 (by decide) e4) ⟨hx, hb, hml, hown, hts⟩ (cwV 1 hts gX6_isSo_X6_tick rfl rfl rfl (by decide +kernel) ⟨Nat.le_of_ble_eq_true rfl, Nat.le_of_ble_eq_true rfl⟩) hK (r_recv hK hP 0 (by decide) eN_0 (show vwCl[6]? = some (RX6, TX6, 20) from rfl)) hS hP (fun _ hq => aA_mono hS.1 hq) (fun _ h _ => h) rfl hl.1 rfl (Nat.le_of_ble_eq_true rfl) dX6_isSo_17 ⟨Nat.zero_le _, Nat.zero_le _⟩ (fun H locs hP hS => ?_)
      refine lv_iload hx hb dX6_isSo_20 (lv_at hl 4 rfl) ?_
      refine lv_if_eq (x := x4) (tgt := 49) hx hb dX6_isSo_22 (by decide) (fun q6 => ?_) (fun q6 => ?_)
      · replace h := if_t q6 h
        exact B49 k6 C6 x5 M5 _ _ _ h hP hS (lv_sub hl [0, 1, 2, 3, 5] rfl)
      · replace h := if_f q6 h
        refine lv_aload_n hx hb dX6_isSo_25 rfl (lv_at hl 0 rfl) ?_
        refine r_get (v := .ref (a 11)) hx hb hts iX6 hown hK hP 0 (by decide) eN_0 rfl 14 (by decide) w41 rfl dX6_isSo_26 ?_
        refine lv_iconst (v := 2) hx hb dX6_isSo_29 (by decide) ?_
        refine lv_iload_n hx hb dX6_isSo_30 rfl (lv_at hl 1 rfl) ?_
        refine lv_iadd (x := 2) (y := p1) hx hb dX6_isSo_31 ?_
        obtain ⟨q7, h⟩ := chk_ok h
        refine r_iald (i := (2 + p1)) (h := M5 11) hx hb hK hP 11 (by decide) rfl q7 dX6_isSo_32 ?_
        refine lv_aload_n hx hb dX6_isSo_33 rfl (lv_at hl 0 rfl) ?_
        refine r_get (v := .ref (a 3)) hx hb hts iX6 hown hK hP 0 (by decide) eN_0 rfl 2 (by decide) w16 rfl dX6_isSo_34 ?_
        refine lv_iload_n hx hb dX6_isSo_37 rfl (lv_at hl 2 rfl) ?_
        refine lv_iload hx hb dX6_isSo_38 (lv_at hl 5 rfl) ?_
        refine lv_iadd (x := p2) (y := x5) hx hb dX6_isSo_40 ?_
        obtain ⟨q8, h⟩ := chk_ok h
        refine r_iald (i := (p2 + x5)) (h := M5 3) hx hb hK hP 3 (by decide) rfl q8 dX6_isSo_41 ?_
        refine lv_icmp_ne (x := (M5 11 (Int32.toNatClampNeg (2 + p1)))) (y := (M5 3 (Int32.toNatClampNeg (p2 + x5)))) (tgt := 49) hx hb dX6_isSo_42 (by decide) (fun q9 => ?_) (fun q9 => ?_)
        · replace h := if_f q9 h
          exact B49 k6 C6 x5 M5 _ _ _ h hP hS (lv_sub hl [0, 1, 2, 3, 5] rfl)
        · replace h := if_t q9 h
          refine lv_iconst (v := 1) hx hb dX6_isSo_45 (by decide) ?_
          refine lv_goto (tgt := 50) hx hb dX6_isSo_46 (by decide) ?_
          exact B50 k6 C6 x5 1 M5 _ _ _ h hP hS (lv_sub hl [0, 1, 2, 3, 5] rfl)
  have L6 : ∀ (n : Nat), ∀ (x4 : Int32) (x5 : Int32) (M : Mem) (H : Heap) (locs : List Loc) (ls : Array Slot), fX6_isSo_l6 p1 p2 p3 n x4 x5 M = some (r, M') → va_P g.1 vwCl (wl 14 a (eN g a M)) H → va_S (aA 14 a s.heap.size) s.heap H locs → lv_has ls 6 [(0, .ref (a 0)), (1, .int p1), (2, .int p2), (3, .int p3), (4, .int x4), (5, .int x5)] → W p l e rmX6_isSo s m args below meth c H locs 0 0 Qz (F0 m 6 ls []) := by
    intro n
    induction n with
    | zero => intro x4 x5 M H locs ls h; exact absurd (show (none : Option (Int32 × Mem)) = some _ from h) (fun z => by cases z)
    | succ n ih => exact fun x4 x5 M H locs ls h hP hS hl => B6 (fX6_isSo_l6 p1 p2 p3 n) ih x4 x5 M H locs ls h hP hS hl
  unfold fX6_isSo at h
  refine lv_iconst (v := 1) hx hb dX6_isSo_0 (by decide) ?_
  refine lv_istore (lv' := [(4, .int 1), (0, .ref (a 0)), (1, .int p1), (2, .int p2), (3, .int p3)]) hx hb dX6_isSo_1 hl (by decide) rfl (fun ls hl => ?_)
  refine lv_iconst (v := 0) hx hb dX6_isSo_3 (by decide) ?_
  refine lv_istore (lv' := [(5, .int 0), (4, .int 1), (0, .ref (a 0)), (1, .int p1), (2, .int p2), (3, .int p3)]) hx hb dX6_isSo_4 hl (by decide) rfl (fun ls hl => ?_)
  exact L6 FU 1 0 M _ _ _ h hP hS (lv_sub hl [2, 3, 4, 5, 1, 0] rfl)
def rmX6_fits : Room := { frames := 6, cells := 0, slots := 0, locals := 182 }
set_option maxHeartbeats 4000000 in
set_option maxRecDepth 100000 in
theorem ok_X6_fits (l : Launch) (g : gT) (a : Nat → Nat) (hI : ij 14 a) (p1 : Int32) (p2 : Int32) (p3 : Int32) (p4 : Int32) (p5 : Int32) (M : Mem) (M' : Mem) (r : Int32) (h : fX6_fits p1 p2 p3 p4 p5 M = some (r, M')) : MI l yX6_fits wsX6_fits rmX6_fits g 14 a [.ref (a 0), .int p1, .int p2, .int p3, .int p4, .int p5] (wl 14 a (eN g a M)) (wl 14 a (eN g a M')) r := by
  refine MI_of (cc := cX6_fits) (maxL := 14) (rt := .int) (by decide) rfl (Nat.le_of_ble_eq_true rfl) ?_
  intro p e s m args below meth c ls hx hb hml hr hlk hts hown hK hP hl
  have hown : s.vm.findClass RX6 = some m.cls := hown
  have hl : lv_has ls 14 [(0, .ref (a 0)), (1, .int p1), (2, .int p2), (3, .int p3), (4, .int p4), (5, .int p5)] := hl
  have hS : va_S (aA 14 a s.heap.size) s.heap s.heap [] := va_S.rf
  have iX6 : ∀ w ∈ wsX60, w ∈ wsX6_fits := fun w h => List.mem_cons_of_mem _ (List.mem_append_right _ h)
  have w41 := hts (.fieldLink RX6 41 "StepRidersModel" "then" "[I") (by decide +kernel)
  have w25 := hts (.fieldLink RX6 25 "StepRidersModel" "s" "[I") (by decide +kernel)
  have w65 := hts (.constant RX6 65 (-1000001)) (by decide +kernel)
  have w7 := hts (.fieldLink RX6 7 "StepRidersModel" "sizes" "[I") (by decide +kernel)
  have w74 := hts (.constant RX6 74 (-1000012)) (by decide +kernel)
  have w55 := hts (.constant RX6 55 (-1000011)) (by decide +kernel)
  obtain ⟨Qz, hQz⟩ : ∃ Qz : State → Prop, Qz = MQ below (qI g (wl 14 a (eN g a M')) r (aA 14 a s.heap.size)) args s 0 0 (aA 14 a s.heap.size) := ⟨_, rfl⟩
  rw [← hQz]
  have B280 : ∀ (k153 : Int32 → Int32 → Int32 → Int32 → Int32 → Mem → Option (Int32 × Mem)) (C153 : ∀ (x6 : Int32) (x7 : Int32) (x9 : Int32) (x10 : Int32) (x11 : Int32) (M : Mem) (H : Heap) (locs : List Loc) (ls : Array Slot), k153 x6 x7 x9 x10 x11 M = some (r, M') → va_P g.1 vwCl (wl 14 a (eN g a M)) H → va_S (aA 14 a s.heap.size) s.heap H locs → lv_has ls 14 [(0, .ref (a 0)), (1, .int p1), (2, .int p2), (3, .int p3), (4, .int p4), (5, .int p5), (6, .int x6), (7, .int x7), (9, .int x9), (10, .int x10), (11, .int x11)] → W p l e rmX6_fits s m args below meth c H locs 0 0 Qz (F0 m 153 ls [])), ∀ (x7 : Int32) (x9 : Int32) (x10 : Int32) (x11 : Int32) (s0 : Int32) (s1 : Int32) (M : Mem) (H : Heap) (locs : List Loc) (ls : Array Slot), fX6_fits_b280 p1 p2 p3 p4 p5 k153 x7 x9 x10 x11 s0 s1 M = some (r, M') → va_P g.1 vwCl (wl 14 a (eN g a M)) H → va_S (aA 14 a s.heap.size) s.heap H locs → lv_has ls 14 [(0, .ref (a 0)), (1, .int p1), (2, .int p2), (3, .int p3), (4, .int p4), (5, .int p5), (7, .int x7), (9, .int x9), (10, .int x10), (11, .int x11)] → W p l e rmX6_fits s m args below meth c H locs 0 0 Qz (F0 m 280 ls [.int s0, .int s1]) := by
    intro k153 C153 x7 x9 x10 x11 s0 s1 M H locs ls h hP hS hl
    unfold fX6_fits_b280 at h
    refine lv_ior (x := s1) (y := s0) hx hb dX6_fits_280 ?_
    refine lv_istore (lv' := [(6, .int (s1 ||| s0)), (0, .ref (a 0)), (1, .int p1), (2, .int p2), (3, .int p3), (4, .int p4), (5, .int p5), (7, .int x7), (9, .int x9), (10, .int x10), (11, .int x11)]) hx hb dX6_fits_281 hl (by decide) rfl (fun ls hl => ?_)
    refine lv_iinc (v := (x11 + 1)) (lv' := [(11, .int (x11 + 1)), (6, .int (s1 ||| s0)), (0, .ref (a 0)), (1, .int p1), (2, .int p2), (3, .int p3), (4, .int p4), (5, .int p5), (7, .int x7), (9, .int x9), (10, .int x10)]) hx hb dX6_fits_283 hl (k := 10) rfl rfl (by decide) rfl (fun ls hl => ?_)
    refine lv_goto (tgt := 153) hx hb dX6_fits_286 (by decide) ?_
    exact C153 (s1 ||| s0) x7 x9 x10 (x11 + 1) M _ _ _ h hP hS (lv_sub hl [2, 3, 4, 5, 6, 7, 1, 8, 9, 10, 0] rfl)
  have B279 : ∀ (k153 : Int32 → Int32 → Int32 → Int32 → Int32 → Mem → Option (Int32 × Mem)) (C153 : ∀ (x6 : Int32) (x7 : Int32) (x9 : Int32) (x10 : Int32) (x11 : Int32) (M : Mem) (H : Heap) (locs : List Loc) (ls : Array Slot), k153 x6 x7 x9 x10 x11 M = some (r, M') → va_P g.1 vwCl (wl 14 a (eN g a M)) H → va_S (aA 14 a s.heap.size) s.heap H locs → lv_has ls 14 [(0, .ref (a 0)), (1, .int p1), (2, .int p2), (3, .int p3), (4, .int p4), (5, .int p5), (6, .int x6), (7, .int x7), (9, .int x9), (10, .int x10), (11, .int x11)] → W p l e rmX6_fits s m args below meth c H locs 0 0 Qz (F0 m 153 ls [])), ∀ (x7 : Int32) (x9 : Int32) (x10 : Int32) (x11 : Int32) (s0 : Int32) (M : Mem) (H : Heap) (locs : List Loc) (ls : Array Slot), fX6_fits_b279 p1 p2 p3 p4 p5 k153 x7 x9 x10 x11 s0 M = some (r, M') → va_P g.1 vwCl (wl 14 a (eN g a M)) H → va_S (aA 14 a s.heap.size) s.heap H locs → lv_has ls 14 [(0, .ref (a 0)), (1, .int p1), (2, .int p2), (3, .int p3), (4, .int p4), (5, .int p5), (7, .int x7), (9, .int x9), (10, .int x10), (11, .int x11)] → W p l e rmX6_fits s m args below meth c H locs 0 0 Qz (F0 m 279 ls [.int s0]) := by
    intro k153 C153 x7 x9 x10 x11 s0 M H locs ls h hP hS hl
    unfold fX6_fits_b279 at h
    refine lv_iconst (v := 0) hx hb dX6_fits_279 (by decide) ?_
    exact B280 k153 C153 x7 x9 x10 x11 0 s0 M _ _ _ h hP hS (lv_sub hl [0, 1, 2, 3, 4, 5, 6, 7, 8, 9] rfl)
  have B242 : ∀ (k153 : Int32 → Int32 → Int32 → Int32 → Int32 → Mem → Option (Int32 × Mem)) (C153 : ∀ (x6 : Int32) (x7 : Int32) (x9 : Int32) (x10 : Int32) (x11 : Int32) (M : Mem) (H : Heap) (locs : List Loc) (ls : Array Slot), k153 x6 x7 x9 x10 x11 M = some (r, M') → va_P g.1 vwCl (wl 14 a (eN g a M)) H → va_S (aA 14 a s.heap.size) s.heap H locs → lv_has ls 14 [(0, .ref (a 0)), (1, .int p1), (2, .int p2), (3, .int p3), (4, .int p4), (5, .int p5), (6, .int x6), (7, .int x7), (9, .int x9), (10, .int x10), (11, .int x11)] → W p l e rmX6_fits s m args below meth c H locs 0 0 Qz (F0 m 153 ls [])), ∀ (x6 : Int32) (x7 : Int32) (x9 : Int32) (x10 : Int32) (x11 : Int32) (x12 : Int32) (s0 : Int32) (M : Mem) (H : Heap) (locs : List Loc) (ls : Array Slot), fX6_fits_b242 p1 p2 p3 p4 p5 k153 x6 x7 x9 x10 x11 x12 s0 M = some (r, M') → va_P g.1 vwCl (wl 14 a (eN g a M)) H → va_S (aA 14 a s.heap.size) s.heap H locs → lv_has ls 14 [(0, .ref (a 0)), (1, .int p1), (2, .int p2), (3, .int p3), (4, .int p4), (5, .int p5), (6, .int x6), (7, .int x7), (9, .int x9), (10, .int x10), (11, .int x11), (12, .int x12)] → W p l e rmX6_fits s m args below meth c H locs 0 0 Qz (F0 m 242 ls [.int s0]) := by
    intro k153 C153 x6 x7 x9 x10 x11 x12 s0 M H locs ls h hP hS hl
    unfold fX6_fits_b242 at h
    refine lv_istore (lv' := [(13, .int s0), (0, .ref (a 0)), (1, .int p1), (2, .int p2), (3, .int p3), (4, .int p4), (5, .int p5), (6, .int x6), (7, .int x7), (9, .int x9), (10, .int x10), (11, .int x11), (12, .int x12)]) hx hb dX6_fits_242 hl (by decide) rfl (fun ls hl => ?_)
    refine lv_aload_n hx hb dX6_fits_244 rfl (lv_at hl 1 rfl) ?_
    refine r_get (v := .ref (a 11)) hx hb hts iX6 hown hK hP 0 (by decide) eN_0 rfl 14 (by decide) w41 rfl dX6_fits_245 ?_
    refine lv_iload hx hb dX6_fits_248 (lv_at hl 12 rfl) ?_
    refine lv_iload hx hb dX6_fits_250 (lv_at hl 11 rfl) ?_
    obtain ⟨q1, h⟩ := chk_ok h
    refine r_iast (i := x12) (x := x11) (h := M 11) (f' := eN g a (mp M 11 (Int32.toNatClampNeg x12) x11)) hx hb hK hI (fun _ h => aA_in h) hP hS 11 (by decide) rfl q1 (eN_ua (fun _ => rfl)) dX6_fits_252 (fun H locs hP hS => ?_)
    refine lv_iload hx hb dX6_fits_253 (lv_at hl 7 rfl) ?_
    refine lv_iload hx hb dX6_fits_255 (lv_at hl 0 rfl) ?_
    refine lv_if_eq (x := s0) (tgt := 279) hx hb dX6_fits_257 (by decide) (fun q2 => ?_) (fun q2 => ?_)
    · replace h := if_t q2 h
      exact B279 k153 C153 x7 x9 x10 x11 x6 (mp M 11 (Int32.toNatClampNeg x12) x11) _ _ _ h hP hS (lv_sub hl [1, 2, 3, 4, 5, 6, 8, 9, 10, 11] rfl)
    · replace h := if_f q2 h
      refine lv_aload_n hx hb dX6_fits_260 rfl (lv_at hl 1 rfl) ?_
      refine lv_iload_n hx hb dX6_fits_261 rfl (lv_at hl 2 rfl) ?_
      refine lv_iload hx hb dX6_fits_262 (lv_at hl 8 rfl) ?_
      refine lv_iload hx hb dX6_fits_264 (lv_at hl 5 rfl) ?_
      obtain ⟨r3, M5, e4, h⟩ := bdI_ok h
      refine r_callVi (As := [.int p1, .int x7, .int p4]) (rest := [.int x6]) (ws' := (wl 14 a (eN g a M5))) (ok_X6_isSo l g a hI p1 x7 p4 (mp M 11 (Int32.toNatClampNeg x12) x11) M5 r3 e4) ⟨hx, hb, hml, hown, hts⟩ (cwV 3 hts gX6_fits_X6_isSo rfl rfl rfl (by decide +kernel) ⟨Nat.le_of_ble_eq_true rfl, Nat.le_of_ble_eq_true rfl⟩) hK (r_recv hK hP 0 (by decide) eN_0 (show vwCl[6]? = some (RX6, TX6, 20) from rfl)) hS hP (fun _ hq => aA_mono hS.1 hq) (fun _ h _ => h) rfl hl.1 rfl (Nat.le_of_ble_eq_true rfl) dX6_fits_266 ⟨Nat.zero_le _, Nat.zero_le _⟩ (fun H locs hP hS => ?_)
      refine lv_if_eq (x := r3) (tgt := 279) hx hb dX6_fits_269 (by decide) (fun q6 => ?_) (fun q6 => ?_)
      · replace h := if_t q6 h
        exact B279 k153 C153 x7 x9 x10 x11 x6 M5 _ _ _ h hP hS (lv_sub hl [1, 2, 3, 4, 5, 6, 8, 9, 10, 11] rfl)
      · replace h := if_f q6 h
        refine lv_iconst (v := 1) hx hb dX6_fits_272 (by decide) ?_
        refine lv_iload hx hb dX6_fits_273 (lv_at hl 11 rfl) ?_
        refine lv_ishl (x := 1) (y := x11) hx hb dX6_fits_275 ?_
        refine lv_goto (tgt := 280) hx hb dX6_fits_276 (by decide) ?_
        exact B280 k153 C153 x7 x9 x10 x11 (1 <<< (x11 &&& 31)) x6 M5 _ _ _ h hP hS (lv_sub hl [1, 2, 3, 4, 5, 6, 8, 9, 10, 11] rfl)
  have B241 : ∀ (k153 : Int32 → Int32 → Int32 → Int32 → Int32 → Mem → Option (Int32 × Mem)) (C153 : ∀ (x6 : Int32) (x7 : Int32) (x9 : Int32) (x10 : Int32) (x11 : Int32) (M : Mem) (H : Heap) (locs : List Loc) (ls : Array Slot), k153 x6 x7 x9 x10 x11 M = some (r, M') → va_P g.1 vwCl (wl 14 a (eN g a M)) H → va_S (aA 14 a s.heap.size) s.heap H locs → lv_has ls 14 [(0, .ref (a 0)), (1, .int p1), (2, .int p2), (3, .int p3), (4, .int p4), (5, .int p5), (6, .int x6), (7, .int x7), (9, .int x9), (10, .int x10), (11, .int x11)] → W p l e rmX6_fits s m args below meth c H locs 0 0 Qz (F0 m 153 ls [])), ∀ (x6 : Int32) (x7 : Int32) (x9 : Int32) (x10 : Int32) (x11 : Int32) (x12 : Int32) (M : Mem) (H : Heap) (locs : List Loc) (ls : Array Slot), fX6_fits_b241 p1 p2 p3 p4 p5 k153 x6 x7 x9 x10 x11 x12 M = some (r, M') → va_P g.1 vwCl (wl 14 a (eN g a M)) H → va_S (aA 14 a s.heap.size) s.heap H locs → lv_has ls 14 [(0, .ref (a 0)), (1, .int p1), (2, .int p2), (3, .int p3), (4, .int p4), (5, .int p5), (6, .int x6), (7, .int x7), (9, .int x9), (10, .int x10), (11, .int x11), (12, .int x12)] → W p l e rmX6_fits s m args below meth c H locs 0 0 Qz (F0 m 241 ls []) := by
    intro k153 C153 x6 x7 x9 x10 x11 x12 M H locs ls h hP hS hl
    unfold fX6_fits_b241 at h
    refine lv_iconst (v := 0) hx hb dX6_fits_241 (by decide) ?_
    exact B242 k153 C153 x6 x7 x9 x10 x11 x12 0 M _ _ _ h hP hS (lv_sub hl [0, 1, 2, 3, 4, 5, 6, 7, 8, 9, 10, 11] rfl)
  have B237 : ∀ (k153 : Int32 → Int32 → Int32 → Int32 → Int32 → Mem → Option (Int32 × Mem)) (C153 : ∀ (x6 : Int32) (x7 : Int32) (x9 : Int32) (x10 : Int32) (x11 : Int32) (M : Mem) (H : Heap) (locs : List Loc) (ls : Array Slot), k153 x6 x7 x9 x10 x11 M = some (r, M') → va_P g.1 vwCl (wl 14 a (eN g a M)) H → va_S (aA 14 a s.heap.size) s.heap H locs → lv_has ls 14 [(0, .ref (a 0)), (1, .int p1), (2, .int p2), (3, .int p3), (4, .int p4), (5, .int p5), (6, .int x6), (7, .int x7), (9, .int x9), (10, .int x10), (11, .int x11)] → W p l e rmX6_fits s m args below meth c H locs 0 0 Qz (F0 m 153 ls [])), ∀ (x6 : Int32) (x7 : Int32) (x9 : Int32) (x10 : Int32) (x11 : Int32) (x12 : Int32) (M : Mem) (H : Heap) (locs : List Loc) (ls : Array Slot), fX6_fits_b237 p1 p2 p3 p4 p5 k153 x6 x7 x9 x10 x11 x12 M = some (r, M') → va_P g.1 vwCl (wl 14 a (eN g a M)) H → va_S (aA 14 a s.heap.size) s.heap H locs → lv_has ls 14 [(0, .ref (a 0)), (1, .int p1), (2, .int p2), (3, .int p3), (4, .int p4), (5, .int p5), (6, .int x6), (7, .int x7), (9, .int x9), (10, .int x10), (11, .int x11), (12, .int x12)] → W p l e rmX6_fits s m args below meth c H locs 0 0 Qz (F0 m 237 ls []) := by
    intro k153 C153 x6 x7 x9 x10 x11 x12 M H locs ls h hP hS hl
    unfold fX6_fits_b237 at h
    refine lv_iconst (v := 1) hx hb dX6_fits_237 (by decide) ?_
    refine lv_goto (tgt := 242) hx hb dX6_fits_238 (by decide) ?_
    exact B242 k153 C153 x6 x7 x9 x10 x11 x12 1 M _ _ _ h hP hS (lv_sub hl [0, 1, 2, 3, 4, 5, 6, 7, 8, 9, 10, 11] rfl)
  have B202 : ∀ (k153 : Int32 → Int32 → Int32 → Int32 → Int32 → Mem → Option (Int32 × Mem)) (C153 : ∀ (x6 : Int32) (x7 : Int32) (x9 : Int32) (x10 : Int32) (x11 : Int32) (M : Mem) (H : Heap) (locs : List Loc) (ls : Array Slot), k153 x6 x7 x9 x10 x11 M = some (r, M') → va_P g.1 vwCl (wl 14 a (eN g a M)) H → va_S (aA 14 a s.heap.size) s.heap H locs → lv_has ls 14 [(0, .ref (a 0)), (1, .int p1), (2, .int p2), (3, .int p3), (4, .int p4), (5, .int p5), (6, .int x6), (7, .int x7), (9, .int x9), (10, .int x10), (11, .int x11)] → W p l e rmX6_fits s m args below meth c H locs 0 0 Qz (F0 m 153 ls [])), ∀ (x6 : Int32) (x7 : Int32) (x9 : Int32) (x10 : Int32) (x11 : Int32) (s0 : Int32) (M : Mem) (H : Heap) (locs : List Loc) (ls : Array Slot), fX6_fits_b202 p1 p2 p3 p4 p5 k153 x6 x7 x9 x10 x11 s0 M = some (r, M') → va_P g.1 vwCl (wl 14 a (eN g a M)) H → va_S (aA 14 a s.heap.size) s.heap H locs → lv_has ls 14 [(0, .ref (a 0)), (1, .int p1), (2, .int p2), (3, .int p3), (4, .int p4), (5, .int p5), (6, .int x6), (7, .int x7), (9, .int x9), (10, .int x10), (11, .int x11)] → W p l e rmX6_fits s m args below meth c H locs 0 0 Qz (F0 m 202 ls [.int s0]) := by
    intro k153 C153 x6 x7 x9 x10 x11 s0 M H locs ls h hP hS hl
    unfold fX6_fits_b202 at h
    refine lv_istore (lv' := [(12, .int s0), (0, .ref (a 0)), (1, .int p1), (2, .int p2), (3, .int p3), (4, .int p4), (5, .int p5), (6, .int x6), (7, .int x7), (9, .int x9), (10, .int x10), (11, .int x11)]) hx hb dX6_fits_202 hl (by decide) rfl (fun ls hl => ?_)
    refine lv_iload hx hb dX6_fits_204 (lv_at hl 6 rfl) ?_
    refine lv_iconst (v := 3) hx hb dX6_fits_206 (by decide) ?_
    refine lv_icmp_lt (x := p5) (y := 3) (tgt := 237) hx hb dX6_fits_207 (by decide) (fun q1 => ?_) (fun q1 => ?_)
    · replace h := if_t q1 h
      exact B237 k153 C153 x6 x7 x9 x10 x11 s0 M _ _ _ h hP hS (lv_sub hl [1, 2, 3, 4, 5, 6, 7, 8, 9, 10, 11, 0] rfl)
    · replace h := if_f q1 h
      refine lv_iload hx hb dX6_fits_210 (lv_at hl 10 rfl) ?_
      refine lv_if_eq (x := x10) (tgt := 241) hx hb dX6_fits_212 (by decide) (fun q2 => ?_) (fun q2 => ?_)
      · replace h := if_t q2 h
        exact B241 k153 C153 x6 x7 x9 x10 x11 s0 M _ _ _ h hP hS (lv_sub hl [1, 2, 3, 4, 5, 6, 7, 8, 9, 10, 11, 0] rfl)
      · replace h := if_f q2 h
        refine lv_aload_n hx hb dX6_fits_215 rfl (lv_at hl 1 rfl) ?_
        refine r_get (v := .ref (a 6)) hx hb hts iX6 hown hK hP 0 (by decide) eN_0 rfl 8 (by decide) w25 rfl dX6_fits_216 ?_
        refine lv_iload_n hx hb dX6_fits_219 rfl (lv_at hl 2 rfl) ?_
        refine lv_iload hx hb dX6_fits_220 (lv_at hl 11 rfl) ?_
        refine lv_aload_n hx hb dX6_fits_222 rfl (lv_at hl 1 rfl) ?_
        refine r_get (v := .ref (a 6)) hx hb hts iX6 hown hK hP 0 (by decide) eN_0 rfl 8 (by decide) w25 rfl dX6_fits_223 ?_
        refine lv_bipush (v := 9) hx hb dX6_fits_226 (by decide) ?_
        refine lv_iload_n hx hb dX6_fits_228 rfl (lv_at hl 2 rfl) ?_
        refine lv_iadd (x := 9) (y := p1) hx hb dX6_fits_229 ?_
        obtain ⟨q3, h⟩ := chk_ok h
        refine r_iald (i := (9 + p1)) (h := M 6) hx hb hK hP 6 (by decide) rfl q3 dX6_fits_230 ?_
        obtain ⟨r4, e5, h⟩ := bdP_ok h
        refine r_callSi (As := [.ref (a 6), .int p1, .int x11, .int (M 6 (Int32.toNatClampNeg (9 + p1)))]) (rest := []) (ws' := (wl 14 a (eN g a M))) (ok_X6_isFree l g (fun _ => a 6) C_ij p1 x11 (M 6 (Int32.toNatClampNeg (9 + p1))) (gC M 6) r4 e5) ⟨hx, hb, hml, hown, hts⟩ (cwS 4 hts gX6_fits_X6_isFree rfl rfl rfl (by decide +kernel) ⟨Nat.le_of_ble_eq_true rfl, Nat.le_of_ble_eq_true rfl⟩) hK hS (C_cut (c := 6) (by decide) hP) (C_A (c := 6) (by decide) hS.1) (C_keep (c := 6) (by decide) hI hP) rfl hl.1 rfl (Nat.le_of_ble_eq_true rfl) dX6_fits_231 ⟨Nat.zero_le _, Nat.zero_le _⟩ (fun H locs hP hS => ?_)
        refine lv_if_eq (x := r4) (tgt := 241) hx hb dX6_fits_234 (by decide) (fun q6 => ?_) (fun q6 => ?_)
        · replace h := if_t q6 h
          exact B241 k153 C153 x6 x7 x9 x10 x11 s0 M _ _ _ h hP hS (lv_sub hl [1, 2, 3, 4, 5, 6, 7, 8, 9, 10, 11, 0] rfl)
        · replace h := if_f q6 h
          exact B237 k153 C153 x6 x7 x9 x10 x11 s0 M _ _ _ h hP hS (lv_sub hl [1, 2, 3, 4, 5, 6, 7, 8, 9, 10, 11, 0] rfl)
  have B153 : ∀ (k153 : Int32 → Int32 → Int32 → Int32 → Int32 → Mem → Option (Int32 × Mem)) (C153 : ∀ (x6 : Int32) (x7 : Int32) (x9 : Int32) (x10 : Int32) (x11 : Int32) (M : Mem) (H : Heap) (locs : List Loc) (ls : Array Slot), k153 x6 x7 x9 x10 x11 M = some (r, M') → va_P g.1 vwCl (wl 14 a (eN g a M)) H → va_S (aA 14 a s.heap.size) s.heap H locs → lv_has ls 14 [(0, .ref (a 0)), (1, .int p1), (2, .int p2), (3, .int p3), (4, .int p4), (5, .int p5), (6, .int x6), (7, .int x7), (9, .int x9), (10, .int x10), (11, .int x11)] → W p l e rmX6_fits s m args below meth c H locs 0 0 Qz (F0 m 153 ls [])), ∀ (x6 : Int32) (x7 : Int32) (x9 : Int32) (x10 : Int32) (x11 : Int32) (M : Mem) (H : Heap) (locs : List Loc) (ls : Array Slot), fX6_fits_b153 p1 p2 p3 p4 p5 k153 x6 x7 x9 x10 x11 M = some (r, M') → va_P g.1 vwCl (wl 14 a (eN g a M)) H → va_S (aA 14 a s.heap.size) s.heap H locs → lv_has ls 14 [(0, .ref (a 0)), (1, .int p1), (2, .int p2), (3, .int p3), (4, .int p4), (5, .int p5), (6, .int x6), (7, .int x7), (9, .int x9), (10, .int x10), (11, .int x11)] → W p l e rmX6_fits s m args below meth c H locs 0 0 Qz (F0 m 153 ls []) := by
    intro k153 C153 x6 x7 x9 x10 x11 M H locs ls h hP hS hl
    unfold fX6_fits_b153 at h
    refine lv_iload hx hb dX6_fits_153 (lv_at hl 10 rfl) ?_
    refine lv_iload hx hb dX6_fits_155 (lv_at hl 8 rfl) ?_
    refine lv_icmp_gt (x := x11) (y := x9) (tgt := 289) hx hb dX6_fits_157 (by decide) (fun q1 => ?_) (fun q1 => ?_)
    · replace h := if_t q1 h
      refine lv_aload_n hx hb dX6_fits_289 rfl (lv_at hl 0 rfl) ?_
      refine lv_iload hx hb dX6_fits_290 (lv_at hl 6 rfl) ?_
      obtain ⟨r2, M4, e3, h⟩ := bdI_ok h
      refine r_callVi (As := [.int x6]) (rest := []) (ws' := (wl 14 a (eN g a M4))) (ok_X6_ends l g a hI x6 M M4 r2 e3) ⟨hx, hb, hml, hown, hts⟩ (cwV 1 hts gX6_fits_X6_ends rfl rfl rfl (by decide +kernel) ⟨Nat.le_of_ble_eq_true rfl, Nat.le_of_ble_eq_true rfl⟩) hK (r_recv hK hP 0 (by decide) eN_0 (show vwCl[6]? = some (RX6, TX6, 20) from rfl)) hS hP (fun _ hq => aA_mono hS.1 hq) (fun _ h _ => h) rfl hl.1 rfl (Nat.le_of_ble_eq_true rfl) dX6_fits_292 ⟨Nat.zero_le _, Nat.zero_le _⟩ (fun H locs hP hS => ?_)
      rw [hQz]
      exact r_iret (v := r2) hx hb hr hlk hS ((Prod.mk.inj (Option.some.inj h)).2 ▸ hP) (Prod.mk.inj (Option.some.inj h)).1 dX6_fits_295
    · replace h := if_f q1 h
      refine lv_aload_n hx hb dX6_fits_160 rfl (lv_at hl 0 rfl) ?_
      obtain ⟨M7, e6, h⟩ := bdV_ok h
      refine r_callVv (As := []) (rest := []) (ws' := (wl 14 a (eN g a M7))) (ok_X6_starts l g a hI M M7 e6) ⟨hx, hb, hml, hown, hts⟩ (cwV 0 hts gX6_fits_X6_starts rfl rfl rfl (by decide +kernel) ⟨Nat.le_of_ble_eq_true rfl, Nat.le_of_ble_eq_true rfl⟩) hK (r_recv hK hP 0 (by decide) eN_0 (show vwCl[6]? = some (RX6, TX6, 20) from rfl)) hS hP (fun _ hq => aA_mono hS.1 hq) (fun _ h _ => h) rfl hl.1 rfl (Nat.le_of_ble_eq_true rfl) dX6_fits_161 ⟨Nat.zero_le _, Nat.zero_le _⟩ (fun H locs hP hS => ?_)
      refine lv_iload hx hb dX6_fits_164 (lv_at hl 5 rfl) ?_
      refine lv_if_ne (x := p5) (tgt := 176) hx hb dX6_fits_166 (by decide) (fun q8 => ?_) (fun q8 => ?_)
      · replace h := if_f q8 h
        refine lv_iload hx hb dX6_fits_176 (lv_at hl 5 rfl) ?_
        refine lv_iconst (v := 1) hx hb dX6_fits_178 (by decide) ?_
        refine lv_icmp_ne (x := p5) (y := 1) (tgt := 189) hx hb dX6_fits_179 (by decide) (fun q9 => ?_) (fun q9 => ?_)
        · replace h := if_f q9 h
          refine lv_iload hx hb dX6_fits_189 (lv_at hl 5 rfl) ?_
          refine lv_iconst (v := 2) hx hb dX6_fits_191 (by decide) ?_
          refine lv_icmp_ne (x := p5) (y := 2) (tgt := 199) hx hb dX6_fits_192 (by decide) (fun q10 => ?_) (fun q10 => ?_)
          · replace h := if_f q10 h
            refine lv_iconst (v := 2) hx hb dX6_fits_199 (by decide) ?_
            refine lv_iload_n hx hb dX6_fits_200 rfl (lv_at hl 1 rfl) ?_
            refine lv_iadd (x := 2) (y := p1) hx hb dX6_fits_201 ?_
            exact B202 k153 C153 x6 x7 x9 x10 x11 (2 + p1) M7 _ _ _ h hP hS (lv_sub hl [0, 1, 2, 3, 4, 5, 6, 7, 8, 9, 10] rfl)
          · replace h := if_t q10 h
            refine lv_iconst (v := 1) hx hb dX6_fits_195 (by decide) ?_
            refine lv_goto (tgt := 202) hx hb dX6_fits_196 (by decide) ?_
            exact B202 k153 C153 x6 x7 x9 x10 x11 1 M7 _ _ _ h hP hS (lv_sub hl [0, 1, 2, 3, 4, 5, 6, 7, 8, 9, 10] rfl)
        · replace h := if_t q9 h
          refine lv_bipush (v := 9) hx hb dX6_fits_182 (by decide) ?_
          refine lv_iload_n hx hb dX6_fits_184 rfl (lv_at hl 1 rfl) ?_
          refine lv_iadd (x := 9) (y := p1) hx hb dX6_fits_185 ?_
          refine lv_goto (tgt := 202) hx hb dX6_fits_186 (by decide) ?_
          exact B202 k153 C153 x6 x7 x9 x10 x11 (9 + p1) M7 _ _ _ h hP hS (lv_sub hl [0, 1, 2, 3, 4, 5, 6, 7, 8, 9, 10] rfl)
      · replace h := if_t q8 h
        refine lv_bipush (v := 18) hx hb dX6_fits_169 (by decide) ?_
        refine lv_iload_n hx hb dX6_fits_171 rfl (lv_at hl 1 rfl) ?_
        refine lv_iadd (x := 18) (y := p1) hx hb dX6_fits_172 ?_
        refine lv_goto (tgt := 202) hx hb dX6_fits_173 (by decide) ?_
        exact B202 k153 C153 x6 x7 x9 x10 x11 (18 + p1) M7 _ _ _ h hP hS (lv_sub hl [0, 1, 2, 3, 4, 5, 6, 7, 8, 9, 10] rfl)
  have L153 : ∀ (n : Nat), ∀ (x6 : Int32) (x7 : Int32) (x9 : Int32) (x10 : Int32) (x11 : Int32) (M : Mem) (H : Heap) (locs : List Loc) (ls : Array Slot), fX6_fits_l153 p1 p2 p3 p4 p5 n x6 x7 x9 x10 x11 M = some (r, M') → va_P g.1 vwCl (wl 14 a (eN g a M)) H → va_S (aA 14 a s.heap.size) s.heap H locs → lv_has ls 14 [(0, .ref (a 0)), (1, .int p1), (2, .int p2), (3, .int p3), (4, .int p4), (5, .int p5), (6, .int x6), (7, .int x7), (9, .int x9), (10, .int x10), (11, .int x11)] → W p l e rmX6_fits s m args below meth c H locs 0 0 Qz (F0 m 153 ls []) := by
    intro n
    induction n with
    | zero => intro x6 x7 x9 x10 x11 M H locs ls h; exact absurd (show (none : Option (Int32 × Mem)) = some _ from h) (fun z => by cases z)
    | succ n ih => exact fun x6 x7 x9 x10 x11 M H locs ls h hP hS hl => B153 (fX6_fits_l153 p1 p2 p3 p4 p5 n) ih x6 x7 x9 x10 x11 M H locs ls h hP hS hl
  have B134 : ∀ (x6 : Int32) (x7 : Int32) (x8 : Int32) (s0 : Int32) (M : Mem) (H : Heap) (locs : List Loc) (ls : Array Slot), fX6_fits_b134 p1 p2 p3 p4 p5 x6 x7 x8 s0 M = some (r, M') → va_P g.1 vwCl (wl 14 a (eN g a M)) H → va_S (aA 14 a s.heap.size) s.heap H locs → lv_has ls 14 [(0, .ref (a 0)), (1, .int p1), (2, .int p2), (3, .int p3), (4, .int p4), (5, .int p5), (6, .int x6), (7, .int x7), (8, .int x8)] → W p l e rmX6_fits s m args below meth c H locs 0 0 Qz (F0 m 134 ls [.int s0]) := by
    intro x6 x7 x8 s0 M H locs ls h hP hS hl
    unfold fX6_fits_b134 at h
    refine lv_istore (lv' := [(9, .int s0), (0, .ref (a 0)), (1, .int p1), (2, .int p2), (3, .int p3), (4, .int p4), (5, .int p5), (6, .int x6), (7, .int x7), (8, .int x8)]) hx hb dX6_fits_134 hl (by decide) rfl (fun ls hl => ?_)
    refine lv_aload_n hx hb dX6_fits_136 rfl (lv_at hl 1 rfl) ?_
    refine r_get (v := .ref (a 6)) hx hb hts iX6 hown hK hP 0 (by decide) eN_0 rfl 8 (by decide) w25 rfl dX6_fits_137 ?_
    refine lv_iconst (v := 2) hx hb dX6_fits_140 (by decide) ?_
    refine lv_iload_n hx hb dX6_fits_141 rfl (lv_at hl 2 rfl) ?_
    refine lv_iadd (x := 2) (y := p1) hx hb dX6_fits_142 ?_
    obtain ⟨q1, h⟩ := chk_ok h
    refine r_iald (i := (2 + p1)) (h := M 6) hx hb hK hP 6 (by decide) rfl q1 dX6_fits_143 ?_
    obtain ⟨r2, e3, h⟩ := bdP_ok h
    refine r_callSi (As := [.int (M 6 (Int32.toNatClampNeg (2 + p1)))]) (rest := []) (ws' := (wl 14 a (eN g a M))) (ok_X6_isOn l g (M 6 (Int32.toNatClampNeg (2 + p1))) r2 e3) ⟨hx, hb, hml, hown, hts⟩ (cwS 1 hts gX6_fits_X6_isOn rfl rfl rfl (by decide +kernel) ⟨Nat.le_of_ble_eq_true rfl, Nat.le_of_ble_eq_true rfl⟩) hK hS nilP (P_A hS.1) (fun _ _ hk => wl_keep hP hk) rfl hl.1 rfl (Nat.le_of_ble_eq_true rfl) dX6_fits_144 ⟨Nat.zero_le _, Nat.zero_le _⟩ (fun H locs hP hS => ?_)
    refine lv_istore (lv' := [(10, .int r2), (9, .int s0), (0, .ref (a 0)), (1, .int p1), (2, .int p2), (3, .int p3), (4, .int p4), (5, .int p5), (6, .int x6), (7, .int x7), (8, .int x8)]) hx hb dX6_fits_147 hl (by decide) rfl (fun ls hl => ?_)
    refine lv_iload hx hb dX6_fits_149 (lv_at hl 10 rfl) ?_
    refine lv_istore (lv' := [(11, .int x8), (10, .int r2), (9, .int s0), (0, .ref (a 0)), (1, .int p1), (2, .int p2), (3, .int p3), (4, .int p4), (5, .int p5), (6, .int x6), (7, .int x7), (8, .int x8)]) hx hb dX6_fits_151 hl (by decide) rfl (fun ls hl => ?_)
    exact L153 FU x6 x7 s0 r2 x8 M _ _ _ h hP hS (lv_sub hl [3, 4, 5, 6, 7, 8, 9, 10, 2, 1, 0] rfl)
  have B94 : ∀ (x6 : Int32) (x7 : Int32) (s0 : Int32) (M : Mem) (H : Heap) (locs : List Loc) (ls : Array Slot), fX6_fits_b94 p1 p2 p3 p4 p5 x6 x7 s0 M = some (r, M') → va_P g.1 vwCl (wl 14 a (eN g a M)) H → va_S (aA 14 a s.heap.size) s.heap H locs → lv_has ls 14 [(0, .ref (a 0)), (1, .int p1), (2, .int p2), (3, .int p3), (4, .int p4), (5, .int p5), (6, .int x6), (7, .int x7)] → W p l e rmX6_fits s m args below meth c H locs 0 0 Qz (F0 m 94 ls [.int s0]) := by
    intro x6 x7 s0 M H locs ls h hP hS hl
    unfold fX6_fits_b94 at h
    refine lv_istore (lv' := [(8, .int s0), (0, .ref (a 0)), (1, .int p1), (2, .int p2), (3, .int p3), (4, .int p4), (5, .int p5), (6, .int x6), (7, .int x7)]) hx hb dX6_fits_94 hl (by decide) rfl (fun ls hl => ?_)
    refine lv_iload hx hb dX6_fits_96 (lv_at hl 6 rfl) ?_
    refine lv_if_ne (x := p5) (tgt := 105) hx hb dX6_fits_98 (by decide) (fun q1 => ?_) (fun q1 => ?_)
    · replace h := if_f q1 h
      refine lv_iload hx hb dX6_fits_105 (lv_at hl 6 rfl) ?_
      refine lv_iconst (v := 1) hx hb dX6_fits_107 (by decide) ?_
      refine lv_icmp_ne (x := p5) (y := 1) (tgt := 115) hx hb dX6_fits_108 (by decide) (fun q2 => ?_) (fun q2 => ?_)
      · replace h := if_f q2 h
        refine lv_iload hx hb dX6_fits_115 (lv_at hl 6 rfl) ?_
        refine lv_iconst (v := 2) hx hb dX6_fits_117 (by decide) ?_
        refine lv_icmp_ne (x := p5) (y := 2) (tgt := 125) hx hb dX6_fits_118 (by decide) (fun q3 => ?_) (fun q3 => ?_)
        · replace h := if_f q3 h
          refine lv_aload_n hx hb dX6_fits_125 rfl (lv_at hl 1 rfl) ?_
          refine r_get (v := .ref (a 6)) hx hb hts iX6 hown hK hP 0 (by decide) eN_0 rfl 8 (by decide) w25 rfl dX6_fits_126 ?_
          refine lv_bipush (v := 16) hx hb dX6_fits_129 (by decide) ?_
          obtain ⟨q4, h⟩ := chk_ok h
          refine r_iald (i := 16) (h := M 6) hx hb hK hP 6 (by decide) rfl q4 dX6_fits_131 ?_
          refine lv_iconst (v := 1) hx hb dX6_fits_132 (by decide) ?_
          refine lv_isub (x := (M 6 (Int32.toNatClampNeg 16))) (y := 1) hx hb dX6_fits_133 ?_
          exact B134 x6 x7 s0 ((M 6 (Int32.toNatClampNeg 16)) - 1) M _ _ _ h hP hS (lv_sub hl [1, 2, 3, 4, 5, 6, 7, 8, 0] rfl)
        · replace h := if_t q3 h
          refine lv_iconst (v := 2) hx hb dX6_fits_121 (by decide) ?_
          refine lv_goto (tgt := 134) hx hb dX6_fits_122 (by decide) ?_
          exact B134 x6 x7 s0 2 M _ _ _ h hP hS (lv_sub hl [1, 2, 3, 4, 5, 6, 7, 8, 0] rfl)
      · replace h := if_t q2 h
        refine lv_iconst (v := 1) hx hb dX6_fits_111 (by decide) ?_
        refine lv_goto (tgt := 134) hx hb dX6_fits_112 (by decide) ?_
        exact B134 x6 x7 s0 1 M _ _ _ h hP hS (lv_sub hl [1, 2, 3, 4, 5, 6, 7, 8, 0] rfl)
    · replace h := if_t q1 h
      refine lv_iconst (v := 5) hx hb dX6_fits_101 (by decide) ?_
      refine lv_goto (tgt := 134) hx hb dX6_fits_102 (by decide) ?_
      exact B134 x6 x7 s0 5 M _ _ _ h hP hS (lv_sub hl [1, 2, 3, 4, 5, 6, 7, 8, 0] rfl)
  unfold fX6_fits at h
  refine lv_aload_n hx hb dX6_fits_0 rfl (lv_at hl 0 rfl) ?_
  refine lv_iload_n hx hb dX6_fits_1 rfl (lv_at hl 1 rfl) ?_
  obtain ⟨r1, e2, h⟩ := bdP_ok h
  refine r_callVi (As := [.int p1]) (rest := []) (ws' := (wl 14 a (eN g a M))) (ok_X6_isRider l g a hI p1 M r1 e2) ⟨hx, hb, hml, hown, hts⟩ (cwV 1 hts gX6_fits_X6_isRider rfl rfl rfl (by decide +kernel) ⟨Nat.le_of_ble_eq_true rfl, Nat.le_of_ble_eq_true rfl⟩) hK (r_recv hK hP 0 (by decide) eN_0 (show vwCl[6]? = some (RX6, TX6, 20) from rfl)) hS hP (fun _ hq => aA_mono hS.1 hq) (fun _ h _ => h) rfl hl.1 rfl (Nat.le_of_ble_eq_true rfl) dX6_fits_2 ⟨Nat.zero_le _, Nat.zero_le _⟩ (fun H locs hP hS => ?_)
  refine lv_if_eq (x := r1) (tgt := 36) hx hb dX6_fits_5 (by decide) (fun q3 => ?_) (fun q3 => ?_)
  · replace h := if_t q3 h
    refine lv_ldc (v := (-1000001)) hx hb hown w65 dX6_fits_36 ?_
    rw [hQz]
    exact r_iret (v := (-1000001)) hx hb hr hlk hS ((Prod.mk.inj (Option.some.inj h)).2 ▸ hP) (Prod.mk.inj (Option.some.inj h)).1 dX6_fits_38
  · replace h := if_f q3 h
    refine lv_iload_n hx hb dX6_fits_8 rfl (lv_at hl 2 rfl) ?_
    obtain ⟨r4, e5, h⟩ := bdP_ok h
    refine r_callSi (As := [.int p2]) (rest := []) (ws' := (wl 14 a (eN g a M))) (ok_X6_isRow l g p2 r4 e5) ⟨hx, hb, hml, hown, hts⟩ (cwS 1 hts gX6_fits_X6_isRow rfl rfl rfl (by decide +kernel) ⟨Nat.le_of_ble_eq_true rfl, Nat.le_of_ble_eq_true rfl⟩) hK hS nilP (P_A hS.1) (fun _ _ hk => wl_keep hP hk) rfl hl.1 rfl (Nat.le_of_ble_eq_true rfl) dX6_fits_9 ⟨Nat.zero_le _, Nat.zero_le _⟩ (fun H locs hP hS => ?_)
    refine lv_if_eq (x := r4) (tgt := 36) hx hb dX6_fits_12 (by decide) (fun q6 => ?_) (fun q6 => ?_)
    · replace h := if_t q6 h
      refine lv_ldc (v := (-1000001)) hx hb hown w65 dX6_fits_36 ?_
      rw [hQz]
      exact r_iret (v := (-1000001)) hx hb hr hlk hS ((Prod.mk.inj (Option.some.inj h)).2 ▸ hP) (Prod.mk.inj (Option.some.inj h)).1 dX6_fits_38
    · replace h := if_f q6 h
      refine lv_iload hx hb dX6_fits_15 (lv_at hl 4 rfl) ?_
      refine lv_iconst (v := 1) hx hb dX6_fits_17 (by decide) ?_
      refine lv_bipush (v := 12) hx hb dX6_fits_18 (by decide) ?_
      obtain ⟨r7, e8, h⟩ := bdP_ok h
      refine r_callSi (As := [.int p4, .int 1, .int 12]) (rest := []) (ws' := (wl 14 a (eN g a M))) (ok_X6_in l g p4 1 12 r7 e8) ⟨hx, hb, hml, hown, hts⟩ (cwS 3 hts gX6_fits_X6_in rfl rfl rfl (by decide +kernel) ⟨Nat.le_of_ble_eq_true rfl, Nat.le_of_ble_eq_true rfl⟩) hK hS nilP (P_A hS.1) (fun _ _ hk => wl_keep hP hk) rfl hl.1 rfl (Nat.le_of_ble_eq_true rfl) dX6_fits_20 ⟨Nat.zero_le _, Nat.zero_le _⟩ (fun H locs hP hS => ?_)
      refine lv_if_eq (x := r7) (tgt := 36) hx hb dX6_fits_23 (by decide) (fun q9 => ?_) (fun q9 => ?_)
      · replace h := if_t q9 h
        refine lv_ldc (v := (-1000001)) hx hb hown w65 dX6_fits_36 ?_
        rw [hQz]
        exact r_iret (v := (-1000001)) hx hb hr hlk hS ((Prod.mk.inj (Option.some.inj h)).2 ▸ hP) (Prod.mk.inj (Option.some.inj h)).1 dX6_fits_38
      · replace h := if_f q9 h
        refine lv_iload hx hb dX6_fits_26 (lv_at hl 5 rfl) ?_
        refine lv_iconst (v := 0) hx hb dX6_fits_28 (by decide) ?_
        refine lv_iconst (v := 3) hx hb dX6_fits_29 (by decide) ?_
        obtain ⟨r10, e11, h⟩ := bdP_ok h
        refine r_callSi (As := [.int p5, .int 0, .int 3]) (rest := []) (ws' := (wl 14 a (eN g a M))) (ok_X6_in l g p5 0 3 r10 e11) ⟨hx, hb, hml, hown, hts⟩ (cwS 3 hts gX6_fits_X6_in rfl rfl rfl (by decide +kernel) ⟨Nat.le_of_ble_eq_true rfl, Nat.le_of_ble_eq_true rfl⟩) hK hS nilP (P_A hS.1) (fun _ _ hk => wl_keep hP hk) rfl hl.1 rfl (Nat.le_of_ble_eq_true rfl) dX6_fits_30 ⟨Nat.zero_le _, Nat.zero_le _⟩ (fun H locs hP hS => ?_)
        refine lv_if_ne (x := r10) (tgt := 39) hx hb dX6_fits_33 (by decide) (fun q12 => ?_) (fun q12 => ?_)
        · replace h := if_f q12 h
          refine lv_aload_n hx hb dX6_fits_39 rfl (lv_at hl 0 rfl) ?_
          refine r_get (v := .ref (a 1)) hx hb hts iX6 hown hK hP 0 (by decide) eN_0 rfl 0 (by decide) w7 rfl dX6_fits_40 ?_
          refine lv_iload_n hx hb dX6_fits_43 rfl (lv_at hl 2 rfl) ?_
          obtain ⟨q13, h⟩ := chk_ok h
          refine r_iald (i := p2) (h := M 1) hx hb hK hP 1 (by decide) rfl q13 dX6_fits_44 ?_
          refine lv_if_ge (x := (M 1 (Int32.toNatClampNeg p2))) (tgt := 55) hx hb dX6_fits_45 (by decide) (fun q14 => ?_) (fun q14 => ?_)
          · replace h := if_t q14 h
            refine lv_aload_n hx hb dX6_fits_55 rfl (lv_at hl 0 rfl) ?_
            refine lv_iload_n hx hb dX6_fits_56 rfl (lv_at hl 2 rfl) ?_
            refine lv_iload_n hx hb dX6_fits_57 rfl (lv_at hl 3 rfl) ?_
            refine lv_iload hx hb dX6_fits_58 (lv_at hl 4 rfl) ?_
            obtain ⟨r15, e16, h⟩ := bdP_ok h
            refine r_callVi (As := [.int p2, .int p3, .int p4]) (rest := []) (ws' := (wl 14 a (eN g a M))) (ok_X6_lies l g a hI p2 p3 p4 M r15 e16) ⟨hx, hb, hml, hown, hts⟩ (cwV 3 hts gX6_fits_X6_lies rfl rfl rfl (by decide +kernel) ⟨Nat.le_of_ble_eq_true rfl, Nat.le_of_ble_eq_true rfl⟩) hK (r_recv hK hP 0 (by decide) eN_0 (show vwCl[6]? = some (RX6, TX6, 20) from rfl)) hS hP (fun _ hq => aA_mono hS.1 hq) (fun _ h _ => h) rfl hl.1 rfl (Nat.le_of_ble_eq_true rfl) dX6_fits_60 ⟨Nat.zero_le _, Nat.zero_le _⟩ (fun H locs hP hS => ?_)
            refine lv_if_ne (x := r15) (tgt := 73) hx hb dX6_fits_63 (by decide) (fun q17 => ?_) (fun q17 => ?_)
            · replace h := if_f q17 h
              refine lv_iconst (v := 0) hx hb dX6_fits_73 (by decide) ?_
              refine lv_istore (lv' := [(6, .int 0), (0, .ref (a 0)), (1, .int p1), (2, .int p2), (3, .int p3), (4, .int p4), (5, .int p5)]) hx hb dX6_fits_74 hl (by decide) rfl (fun ls hl => ?_)
              refine lv_bipush (v := 40) hx hb dX6_fits_76 (by decide) ?_
              refine lv_iload_n hx hb dX6_fits_78 rfl (lv_at hl 3 rfl) ?_
              refine lv_imul (x := 40) (y := p2) hx hb dX6_fits_79 ?_
              refine lv_iload_n hx hb dX6_fits_80 rfl (lv_at hl 4 rfl) ?_
              refine lv_iadd (x := (40 * p2)) (y := p3) hx hb dX6_fits_81 ?_
              refine lv_istore (lv' := [(7, .int ((40 * p2) + p3)), (6, .int 0), (0, .ref (a 0)), (1, .int p1), (2, .int p2), (3, .int p3), (4, .int p4), (5, .int p5)]) hx hb dX6_fits_82 hl (by decide) rfl (fun ls hl => ?_)
              refine lv_iload hx hb dX6_fits_84 (lv_at hl 7 rfl) ?_
              refine lv_if_ne (x := p5) (tgt := 93) hx hb dX6_fits_86 (by decide) (fun q18 => ?_) (fun q18 => ?_)
              · replace h := if_f q18 h
                refine lv_iconst (v := 0) hx hb dX6_fits_93 (by decide) ?_
                exact B94 0 ((40 * p2) + p3) 0 M _ _ _ h hP hS (lv_sub hl [2, 3, 4, 5, 6, 7, 1, 0] rfl)
              · replace h := if_t q18 h
                refine lv_iconst (v := 1) hx hb dX6_fits_89 (by decide) ?_
                refine lv_goto (tgt := 94) hx hb dX6_fits_90 (by decide) ?_
                exact B94 0 ((40 * p2) + p3) 1 M _ _ _ h hP hS (lv_sub hl [2, 3, 4, 5, 6, 7, 1, 0] rfl)
            · replace h := if_t q17 h
              refine lv_aload_n hx hb dX6_fits_66 rfl (lv_at hl 0 rfl) ?_
              refine lv_ldc (v := (-1000012)) hx hb hown w74 dX6_fits_67 ?_
              obtain ⟨r19, M21, e20, h⟩ := bdI_ok h
              refine r_callVi (As := [.int (-1000012)]) (rest := []) (ws' := (wl 14 a (eN g a M21))) (ok_X6_ends l g a hI (-1000012) M M21 r19 e20) ⟨hx, hb, hml, hown, hts⟩ (cwV 1 hts gX6_fits_X6_ends rfl rfl rfl (by decide +kernel) ⟨Nat.le_of_ble_eq_true rfl, Nat.le_of_ble_eq_true rfl⟩) hK (r_recv hK hP 0 (by decide) eN_0 (show vwCl[6]? = some (RX6, TX6, 20) from rfl)) hS hP (fun _ hq => aA_mono hS.1 hq) (fun _ h _ => h) rfl hl.1 rfl (Nat.le_of_ble_eq_true rfl) dX6_fits_69 ⟨Nat.zero_le _, Nat.zero_le _⟩ (fun H locs hP hS => ?_)
              rw [hQz]
              exact r_iret (v := r19) hx hb hr hlk hS ((Prod.mk.inj (Option.some.inj h)).2 ▸ hP) (Prod.mk.inj (Option.some.inj h)).1 dX6_fits_72
          · replace h := if_f q14 h
            refine lv_aload_n hx hb dX6_fits_48 rfl (lv_at hl 0 rfl) ?_
            refine lv_ldc (v := (-1000011)) hx hb hown w55 dX6_fits_49 ?_
            obtain ⟨r22, M24, e23, h⟩ := bdI_ok h
            refine r_callVi (As := [.int (-1000011)]) (rest := []) (ws' := (wl 14 a (eN g a M24))) (ok_X6_ends l g a hI (-1000011) M M24 r22 e23) ⟨hx, hb, hml, hown, hts⟩ (cwV 1 hts gX6_fits_X6_ends rfl rfl rfl (by decide +kernel) ⟨Nat.le_of_ble_eq_true rfl, Nat.le_of_ble_eq_true rfl⟩) hK (r_recv hK hP 0 (by decide) eN_0 (show vwCl[6]? = some (RX6, TX6, 20) from rfl)) hS hP (fun _ hq => aA_mono hS.1 hq) (fun _ h _ => h) rfl hl.1 rfl (Nat.le_of_ble_eq_true rfl) dX6_fits_51 ⟨Nat.zero_le _, Nat.zero_le _⟩ (fun H locs hP hS => ?_)
            rw [hQz]
            exact r_iret (v := r22) hx hb hr hlk hS ((Prod.mk.inj (Option.some.inj h)).2 ▸ hP) (Prod.mk.inj (Option.some.inj h)).1 dX6_fits_54
        · replace h := if_t q12 h
          refine lv_ldc (v := (-1000001)) hx hb hown w65 dX6_fits_36 ?_
          rw [hQz]
          exact r_iret (v := (-1000001)) hx hb hr hlk hS ((Prod.mk.inj (Option.some.inj h)).2 ▸ hP) (Prod.mk.inj (Option.some.inj h)).1 dX6_fits_38
