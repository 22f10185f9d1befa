def rmX6_absent : Room := { frames := 5, cells := 0, slots := 0, locals := 157 }
set_option maxHeartbeats 4000000 in
set_option maxRecDepth 100000 in
theorem ok_X6_absent (l : Launch) (g : gT) (a : Nat → Nat) (hI : ij 14 a) (p1 : Int32) (p2 : Int32) (p3 : Int32) (p4 : Int32) (M : Mem) (M' : Mem) (r : Int32) (h : fX6_absent p1 p2 p3 p4 M = some (r, M')) : MI l yX6_absent wsX6_absent rmX6_absent g 14 a [.ref (a 0), .int p1, .int p2, .int p3, .int p4] (wl 14 a (eN g a M)) (wl 14 a (eN g a M')) r := by
  refine MI_of (cc := cX6_absent) (maxL := 11) (rt := .int) (by decide) rfl (Nat.le_of_ble_eq_true rfl) ?_
  intro p e s m args below meth c ls hx hb hml hr hlk hts hown hK hP hl
  have hown : s.vm.findClass RX6 = some m.cls := hown
  have hl : lv_has ls 11 [(0, .ref (a 0)), (1, .int p1), (2, .int p2), (3, .int p3), (4, .int p4)] := hl
  have hS : va_S (aA 14 a s.heap.size) s.heap s.heap [] := va_S.rf
  have iX6 : ∀ w ∈ wsX60, w ∈ wsX6_absent := fun w h => List.mem_cons_of_mem _ (List.mem_append_right _ h)
  have w25 := hts (.fieldLink RX6 25 "StepRidersModel" "s" "[I") (by decide +kernel)
  have w41 := hts (.fieldLink RX6 41 "StepRidersModel" "then" "[I") (by decide +kernel)
  have w65 := hts (.constant RX6 65 (-1000001)) (by decide +kernel)
  obtain ⟨Qz, hQz⟩ : ∃ Qz : State → Prop, Qz = MQ below (qI g (wl 14 a (eN g a M')) r (aA 14 a s.heap.size)) args s 0 0 (aA 14 a s.heap.size) := ⟨_, rfl⟩
  rw [← hQz]
  have B292 : ∀ (x6 : Int32) (x7 : Int32) (x8 : Int32) (M : Mem) (H : Heap) (locs : List Loc) (ls : Array Slot), fX6_absent_b292 p1 p2 p3 p4 x6 x7 x8 M = some (r, M') → va_P g.1 vwCl (wl 14 a (eN g a M)) H → va_S (aA 14 a s.heap.size) s.heap H locs → lv_has ls 11 [(0, .ref (a 0)), (1, .int p1), (2, .int p2), (3, .int p3), (4, .int p4), (6, .int x6), (7, .int x7), (8, .int x8)] → W p l e rmX6_absent s m args below meth c H locs 0 0 Qz (F0 m 292 ls []) := by
    intro x6 x7 x8 M H locs ls h hP hS hl
    unfold fX6_absent_b292 at h
    refine lv_iload hx hb dX6_absent_292 (lv_at hl 4 rfl) ?_
    refine lv_if_ne (x := p4) (tgt := 305) hx hb dX6_absent_294 (by decide) (fun q1 => ?_) (fun q1 => ?_)
    · replace h := if_f q1 h
      refine lv_iload hx hb dX6_absent_305 (lv_at hl 6 rfl) ?_
      refine lv_iload hx hb dX6_absent_307 (lv_at hl 7 rfl) ?_
      obtain ⟨q2, h⟩ := chk_ok h
      refine lv_idiv (x := x7) (y := x8) hx hb dX6_absent_309 (of_decide_eq_true q2) ?_
      rw [hQz]
      exact r_iret (v := (x7 / x8)) hx hb hr hlk hS ((Prod.mk.inj (Option.some.inj h)).2 ▸ hP) (Prod.mk.inj (Option.some.inj h)).1 dX6_absent_310
    · replace h := if_t q1 h
      refine lv_iload hx hb dX6_absent_297 (lv_at hl 5 rfl) ?_
      refine lv_iload hx hb dX6_absent_299 (lv_at hl 7 rfl) ?_
      obtain ⟨q3, h⟩ := chk_ok h
      refine lv_idiv (x := x6) (y := x8) hx hb dX6_absent_301 (of_decide_eq_true q3) ?_
      refine lv_goto (tgt := 310) hx hb dX6_absent_302 (by decide) ?_
      rw [hQz]
      exact r_iret (v := (x6 / x8)) hx hb hr hlk hS ((Prod.mk.inj (Option.some.inj h)).2 ▸ hP) (Prod.mk.inj (Option.some.inj h)).1 dX6_absent_310
  have B269 : ∀ (k269 : Int32 → Int32 → Int32 → Int32 → Mem → Option (Int32 × Mem)) (C269 : ∀ (x6 : Int32) (x7 : Int32) (x8 : Int32) (x9 : Int32) (M : Mem) (H : Heap) (locs : List Loc) (ls : Array Slot), k269 x6 x7 x8 x9 M = some (r, M') → va_P g.1 vwCl (wl 14 a (eN g a M)) H → va_S (aA 14 a s.heap.size) s.heap H locs → lv_has ls 11 [(0, .ref (a 0)), (1, .int p1), (2, .int p2), (3, .int p3), (4, .int p4), (6, .int x6), (7, .int x7), (8, .int x8), (9, .int x9)] → W p l e rmX6_absent s m args below meth c H locs 0 0 Qz (F0 m 269 ls [])), ∀ (x6 : Int32) (x7 : Int32) (x8 : Int32) (x9 : Int32) (M : Mem) (H : Heap) (locs : List Loc) (ls : Array Slot), fX6_absent_b269 p1 p2 p3 p4 k269 x6 x7 x8 x9 M = some (r, M') → va_P g.1 vwCl (wl 14 a (eN g a M)) H → va_S (aA 14 a s.heap.size) s.heap H locs → lv_has ls 11 [(0, .ref (a 0)), (1, .int p1), (2, .int p2), (3, .int p3), (4, .int p4), (6, .int x6), (7, .int x7), (8, .int x8), (9, .int x9)] → W p l e rmX6_absent s m args below meth c H locs 0 0 Qz (F0 m 269 ls []) := by
    intro k269 C269 x6 x7 x8 x9 M H locs ls h hP hS hl
    unfold fX6_absent_b269 at h
    refine lv_iload hx hb dX6_absent_269 (lv_at hl 8 rfl) ?_
    refine lv_if_le (x := x9) (tgt := 292) hx hb dX6_absent_271 (by decide) (fun q1 => ?_) (fun q1 => ?_)
    · replace h := if_t q1 h
      exact B292 x6 x7 x8 M _ _ _ h hP hS (lv_sub hl [0, 1, 2, 3, 4, 5, 6, 7] rfl)
    · replace h := if_f q1 h
      refine lv_iload hx hb dX6_absent_274 (lv_at hl 7 rfl) ?_
      refine lv_iload hx hb dX6_absent_276 (lv_at hl 8 rfl) ?_
      obtain ⟨q2, h⟩ := chk_ok h
      refine lv_irem (x := x8) (y := x9) hx hb dX6_absent_278 (of_decide_eq_true q2) ?_
      refine lv_istore (lv' := [(10, .int (x8 - x8 / x9 * x9)), (0, .ref (a 0)), (1, .int p1), (2, .int p2), (3, .int p3), (4, .int p4), (6, .int x6), (7, .int x7), (8, .int x8), (9, .int x9)]) hx hb dX6_absent_279 hl (by decide) rfl (fun ls hl => ?_)
      refine lv_iload hx hb dX6_absent_281 (lv_at hl 9 rfl) ?_
      refine lv_istore (lv' := [(8, .int x9), (10, .int (x8 - x8 / x9 * x9)), (0, .ref (a 0)), (1, .int p1), (2, .int p2), (3, .int p3), (4, .int p4), (6, .int x6), (7, .int x7), (9, .int x9)]) hx hb dX6_absent_283 hl (by decide) rfl (fun ls hl => ?_)
      refine lv_iload hx hb dX6_absent_285 (lv_at hl 1 rfl) ?_
      refine lv_istore (lv' := [(9, .int (x8 - x8 / x9 * x9)), (8, .int x9), (10, .int (x8 - x8 / x9 * x9)), (0, .ref (a 0)), (1, .int p1), (2, .int p2), (3, .int p3), (4, .int p4), (6, .int x6), (7, .int x7)]) hx hb dX6_absent_287 hl (by decide) rfl (fun ls hl => ?_)
      refine lv_goto (tgt := 269) hx hb dX6_absent_289 (by decide) ?_
      exact C269 x6 x7 x9 (x8 - x8 / x9 * x9) M _ _ _ h hP hS (lv_sub hl [3, 4, 5, 6, 7, 8, 9, 1, 0] rfl)
  have L269 : ∀ (n : Nat), ∀ (x6 : Int32) (x7 : Int32) (x8 : Int32) (x9 : Int32) (M : Mem) (H : Heap) (locs : List Loc) (ls : Array Slot), fX6_absent_l269 p1 p2 p3 p4 n x6 x7 x8 x9 M = some (r, M') → va_P g.1 vwCl (wl 14 a (eN g a M)) H → va_S (aA 14 a s.heap.size) s.heap H locs → lv_has ls 11 [(0, .ref (a 0)), (1, .int p1), (2, .int p2), (3, .int p3), (4, .int p4), (6, .int x6), (7, .int x7), (8, .int x8), (9, .int x9)] → W p l e rmX6_absent s m args below meth c H locs 0 0 Qz (F0 m 269 ls []) := by
    intro n
    induction n with
    | zero => intro x6 x7 x8 x9 M H locs ls h; exact absurd (show (none : Option (Int32 × Mem)) = some _ from h) (fun z => by cases z)
    | succ n ih => exact fun x6 x7 x8 x9 M H locs ls h hP hS hl => B269 (fX6_absent_l269 p1 p2 p3 p4 n) ih x6 x7 x8 x9 M H locs ls h hP hS hl
  have B261 : ∀ (x6 : Int32) (x7 : Int32) (M : Mem) (H : Heap) (locs : List Loc) (ls : Array Slot), fX6_absent_b261 p1 p2 p3 p4 x6 x7 M = some (r, M') → va_P g.1 vwCl (wl 14 a (eN g a M)) H → va_S (aA 14 a s.heap.size) s.heap H locs → lv_has ls 11 [(0, .ref (a 0)), (1, .int p1), (2, .int p2), (3, .int p3), (4, .int p4), (6, .int x6), (7, .int x7)] → W p l e rmX6_absent s m args below meth c H locs 0 0 Qz (F0 m 261 ls []) := by
    intro x6 x7 M H locs ls h hP hS hl
    unfold fX6_absent_b261 at h
    refine lv_iload hx hb dX6_absent_261 (lv_at hl 5 rfl) ?_
    refine lv_istore (lv' := [(8, .int x6), (0, .ref (a 0)), (1, .int p1), (2, .int p2), (3, .int p3), (4, .int p4), (6, .int x6), (7, .int x7)]) hx hb dX6_absent_263 hl (by decide) rfl (fun ls hl => ?_)
    refine lv_iload hx hb dX6_absent_265 (lv_at hl 7 rfl) ?_
    refine lv_istore (lv' := [(9, .int x7), (8, .int x6), (0, .ref (a 0)), (1, .int p1), (2, .int p2), (3, .int p3), (4, .int p4), (6, .int x6), (7, .int x7)]) hx hb dX6_absent_267 hl (by decide) rfl (fun ls hl => ?_)
    exact L269 FU x6 x7 x6 x7 M _ _ _ h hP hS (lv_sub hl [2, 3, 4, 5, 6, 7, 8, 1, 0] rfl)
  have B252 : ∀ (k222 : Int32 → Int32 → Int32 → Int32 → Mem → Option (Int32 × Mem)) (C222 : ∀ (x5 : Int32) (x6 : Int32) (x7 : Int32) (x8 : Int32) (M : Mem) (H : Heap) (locs : List Loc) (ls : Array Slot), k222 x5 x6 x7 x8 M = some (r, M') → va_P g.1 vwCl (wl 14 a (eN g a M)) H → va_S (aA 14 a s.heap.size) s.heap H locs → lv_has ls 11 [(0, .ref (a 0)), (1, .int p1), (2, .int p2), (3, .int p3), (4, .int p4), (5, .int x5), (6, .int x6), (7, .int x7), (8, .int x8)] → W p l e rmX6_absent s m args below meth c H locs 0 0 Qz (F0 m 222 ls [])), ∀ (x5 : Int32) (x6 : Int32) (x8 : Int32) (s0 : Int32) (s1 : Int32) (M : Mem) (H : Heap) (locs : List Loc) (ls : Array Slot), fX6_absent_b252 p1 p2 p3 p4 k222 x5 x6 x8 s0 s1 M = some (r, M') → va_P g.1 vwCl (wl 14 a (eN g a M)) H → va_S (aA 14 a s.heap.size) s.heap H locs → lv_has ls 11 [(0, .ref (a 0)), (1, .int p1), (2, .int p2), (3, .int p3), (4, .int p4), (5, .int x5), (6, .int x6), (8, .int x8)] → W p l e rmX6_absent s m args below meth c H locs 0 0 Qz (F0 m 252 ls [.int s0, .int s1]) := by
    intro k222 C222 x5 x6 x8 s0 s1 M H locs ls h hP hS hl
    unfold fX6_absent_b252 at h
    refine lv_imul (x := s1) (y := s0) hx hb dX6_absent_252 ?_
    refine lv_istore (lv' := [(7, .int (s1 * s0)), (0, .ref (a 0)), (1, .int p1), (2, .int p2), (3, .int p3), (4, .int p4), (5, .int x5), (6, .int x6), (8, .int x8)]) hx hb dX6_absent_253 hl (by decide) rfl (fun ls hl => ?_)
    refine lv_iinc (v := (x8 + 1)) (lv' := [(8, .int (x8 + 1)), (7, .int (s1 * s0)), (0, .ref (a 0)), (1, .int p1), (2, .int p2), (3, .int p3), (4, .int p4), (5, .int x5), (6, .int x6)]) hx hb dX6_absent_255 hl (k := 8) rfl rfl (by decide) rfl (fun ls hl => ?_)
    refine lv_goto (tgt := 222) hx hb dX6_absent_258 (by decide) ?_
    exact C222 x5 x6 (s1 * s0) (x8 + 1) M _ _ _ h hP hS (lv_sub hl [2, 3, 4, 5, 6, 7, 8, 1, 0] rfl)
  have B222 : ∀ (k222 : Int32 → Int32 → Int32 → Int32 → Mem → Option (Int32 × Mem)) (C222 : ∀ (x5 : Int32) (x6 : Int32) (x7 : Int32) (x8 : Int32) (M : Mem) (H : Heap) (locs : List Loc) (ls : Array Slot), k222 x5 x6 x7 x8 M = some (r, M') → va_P g.1 vwCl (wl 14 a (eN g a M)) H → va_S (aA 14 a s.heap.size) s.heap H locs → lv_has ls 11 [(0, .ref (a 0)), (1, .int p1), (2, .int p2), (3, .int p3), (4, .int p4), (5, .int x5), (6, .int x6), (7, .int x7), (8, .int x8)] → W p l e rmX6_absent s m args below meth c H locs 0 0 Qz (F0 m 222 ls [])), ∀ (x5 : Int32) (x6 : Int32) (x7 : Int32) (x8 : Int32) (M : Mem) (H : Heap) (locs : List Loc) (ls : Array Slot), fX6_absent_b222 p1 p2 p3 p4 k222 x5 x6 x7 x8 M = some (r, M') → va_P g.1 vwCl (wl 14 a (eN g a M)) H → va_S (aA 14 a s.heap.size) s.heap H locs → lv_has ls 11 [(0, .ref (a 0)), (1, .int p1), (2, .int p2), (3, .int p3), (4, .int p4), (5, .int x5), (6, .int x6), (7, .int x7), (8, .int x8)] → W p l e rmX6_absent s m args below meth c H locs 0 0 Qz (F0 m 222 ls []) := by
    intro k222 C222 x5 x6 x7 x8 M H locs ls h hP hS hl
    unfold fX6_absent_b222 at h
    refine lv_iload hx hb dX6_absent_222 (lv_at hl 8 rfl) ?_
    refine lv_aload_n hx hb dX6_absent_224 rfl (lv_at hl 0 rfl) ?_
    refine r_get (v := .ref (a 6)) hx hb hts iX6 hown hK hP 0 (by decide) eN_0 rfl 8 (by decide) w25 rfl dX6_absent_225 ?_
    refine lv_bipush (v := 17) hx hb dX6_absent_228 (by decide) ?_
    obtain ⟨q1, h⟩ := chk_ok h
    refine r_iald (i := 17) (h := M 6) hx hb hK hP 6 (by decide) rfl q1 dX6_absent_230 ?_
    refine lv_icmp_ge (x := x8) (y := (M 6 (Int32.toNatClampNeg 17))) (tgt := 261) hx hb dX6_absent_231 (by decide) (fun q2 => ?_) (fun q2 => ?_)
    · replace h := if_t q2 h
      exact B261 x6 x7 M _ _ _ h hP hS (lv_sub hl [0, 1, 2, 3, 4, 6, 7] rfl)
    · replace h := if_f q2 h
      refine lv_iload hx hb dX6_absent_234 (lv_at hl 7 rfl) ?_
      refine lv_iload hx hb dX6_absent_236 (lv_at hl 5 rfl) ?_
      refine lv_iload hx hb dX6_absent_238 (lv_at hl 8 rfl) ?_
      obtain ⟨r3, e4, h⟩ := bdP_ok h
      refine r_callSi (As := [.int x5, .int x8]) (rest := [.int x7]) (ws' := (wl 14 a (eN g a M))) (ok_X6_has l g x5 x8 r3 e4) ⟨hx, hb, hml, hown, hts⟩ (cwS 2 hts gX6_absent_X6_has rfl rfl rfl (by decide +kernel) ⟨Nat.le_of_ble_eq_true rfl, Nat.le_of_ble_eq_true rfl⟩) hK hS nilP (P_A hS.1) (fun _ _ hk => wl_keep hP hk) rfl hl.1 rfl (Nat.le_of_ble_eq_true rfl) dX6_absent_240 ⟨Nat.zero_le _, Nat.zero_le _⟩ (fun H locs hP hS => ?_)
      refine lv_if_eq (x := r3) (tgt := 251) hx hb dX6_absent_243 (by decide) (fun q5 => ?_) (fun q5 => ?_)
      · replace h := if_t q5 h
        refine lv_iconst (v := 1) hx hb dX6_absent_251 (by decide) ?_
        exact B252 k222 C222 x5 x6 x8 1 x7 M _ _ _ h hP hS (lv_sub hl [0, 1, 2, 3, 4, 5, 6, 8] rfl)
      · replace h := if_f q5 h
        refine lv_bipush (v := 10) hx hb dX6_absent_246 (by decide) ?_
        refine lv_goto (tgt := 252) hx hb dX6_absent_248 (by decide) ?_
        exact B252 k222 C222 x5 x6 x8 10 x7 M _ _ _ h hP hS (lv_sub hl [0, 1, 2, 3, 4, 5, 6, 8] rfl)
  have L222 : ∀ (n : Nat), ∀ (x5 : Int32) (x6 : Int32) (x7 : Int32) (x8 : Int32) (M : Mem) (H : Heap) (locs : List Loc) (ls : Array Slot), fX6_absent_l222 p1 p2 p3 p4 n x5 x6 x7 x8 M = some (r, M') → va_P g.1 vwCl (wl 14 a (eN g a M)) H → va_S (aA 14 a s.heap.size) s.heap H locs → lv_has ls 11 [(0, .ref (a 0)), (1, .int p1), (2, .int p2), (3, .int p3), (4, .int p4), (5, .int x5), (6, .int x6), (7, .int x7), (8, .int x8)] → W p l e rmX6_absent s m args below meth c H locs 0 0 Qz (F0 m 222 ls []) := by
    intro n
    induction n with
    | zero => intro x5 x6 x7 x8 M H locs ls h; exact absurd (show (none : Option (Int32 × Mem)) = some _ from h) (fun z => by cases z)
    | succ n ih => exact fun x5 x6 x7 x8 M H locs ls h hP hS hl => B222 (fX6_absent_l222 p1 p2 p3 p4 n) ih x5 x6 x7 x8 M H locs ls h hP hS hl
  have B219 : ∀ (x5 : Int32) (x6 : Int32) (x7 : Int32) (M : Mem) (H : Heap) (locs : List Loc) (ls : Array Slot), fX6_absent_b219 p1 p2 p3 p4 x5 x6 x7 M = some (r, M') → va_P g.1 vwCl (wl 14 a (eN g a M)) H → va_S (aA 14 a s.heap.size) s.heap H locs → lv_has ls 11 [(0, .ref (a 0)), (1, .int p1), (2, .int p2), (3, .int p3), (4, .int p4), (5, .int x5), (6, .int x6), (7, .int x7)] → W p l e rmX6_absent s m args below meth c H locs 0 0 Qz (F0 m 219 ls []) := by
    intro x5 x6 x7 M H locs ls h hP hS hl
    unfold fX6_absent_b219 at h
    refine lv_iconst (v := 0) hx hb dX6_absent_219 (by decide) ?_
    refine lv_istore (lv' := [(8, .int 0), (0, .ref (a 0)), (1, .int p1), (2, .int p2), (3, .int p3), (4, .int p4), (5, .int x5), (6, .int x6), (7, .int x7)]) hx hb dX6_absent_220 hl (by decide) rfl (fun ls hl => ?_)
    exact L222 FU x5 x6 x7 0 M _ _ _ h hP hS (lv_sub hl [1, 2, 3, 4, 5, 6, 7, 8, 0] rfl)
  have B213 : ∀ (k56 : Int32 → Int32 → Int32 → Int32 → Mem → Option (Int32 × Mem)) (C56 : ∀ (x5 : Int32) (x6 : Int32) (x7 : Int32) (x8 : Int32) (M : Mem) (H : Heap) (locs : List Loc) (ls : Array Slot), k56 x5 x6 x7 x8 M = some (r, M') → va_P g.1 vwCl (wl 14 a (eN g a M)) H → va_S (aA 14 a s.heap.size) s.heap H locs → lv_has ls 11 [(0, .ref (a 0)), (1, .int p1), (2, .int p2), (3, .int p3), (4, .int p4), (5, .int x5), (6, .int x6), (7, .int x7), (8, .int x8)] → W p l e rmX6_absent s m args below meth c H locs 0 0 Qz (F0 m 56 ls [])), ∀ (x5 : Int32) (x6 : Int32) (x7 : Int32) (x8 : Int32) (M : Mem) (H : Heap) (locs : List Loc) (ls : Array Slot), fX6_absent_b213 p1 p2 p3 p4 k56 x5 x6 x7 x8 M = some (r, M') → va_P g.1 vwCl (wl 14 a (eN g a M)) H → va_S (aA 14 a s.heap.size) s.heap H locs → lv_has ls 11 [(0, .ref (a 0)), (1, .int p1), (2, .int p2), (3, .int p3), (4, .int p4), (5, .int x5), (6, .int x6), (7, .int x7), (8, .int x8)] → W p l e rmX6_absent s m args below meth c H locs 0 0 Qz (F0 m 213 ls []) := by
    intro k56 C56 x5 x6 x7 x8 M H locs ls h hP hS hl
    unfold fX6_absent_b213 at h
    refine lv_iinc (v := (x8 + 1)) (lv' := [(8, .int (x8 + 1)), (0, .ref (a 0)), (1, .int p1), (2, .int p2), (3, .int p3), (4, .int p4), (5, .int x5), (6, .int x6), (7, .int x7)]) hx hb dX6_absent_213 hl (k := 8) rfl rfl (by decide) rfl (fun ls hl => ?_)
    refine lv_goto (tgt := 56) hx hb dX6_absent_216 (by decide) ?_
    exact C56 x5 x6 x7 (x8 + 1) M _ _ _ h hP hS (lv_sub hl [1, 2, 3, 4, 5, 6, 7, 8, 0] rfl)
  have B210 : ∀ (k56 : Int32 → Int32 → Int32 → Int32 → Mem → Option (Int32 × Mem)) (C56 : ∀ (x5 : Int32) (x6 : Int32) (x7 : Int32) (x8 : Int32) (M : Mem) (H : Heap) (locs : List Loc) (ls : Array Slot), k56 x5 x6 x7 x8 M = some (r, M') → va_P g.1 vwCl (wl 14 a (eN g a M)) H → va_S (aA 14 a s.heap.size) s.heap H locs → lv_has ls 11 [(0, .ref (a 0)), (1, .int p1), (2, .int p2), (3, .int p3), (4, .int p4), (5, .int x5), (6, .int x6), (7, .int x7), (8, .int x8)] → W p l e rmX6_absent s m args below meth c H locs 0 0 Qz (F0 m 56 ls [])), ∀ (x5 : Int32) (x7 : Int32) (x8 : Int32) (s0 : Int32) (s1 : Int32) (M : Mem) (H : Heap) (locs : List Loc) (ls : Array Slot), fX6_absent_b210 p1 p2 p3 p4 k56 x5 x7 x8 s0 s1 M = some (r, M') → va_P g.1 vwCl (wl 14 a (eN g a M)) H → va_S (aA 14 a s.heap.size) s.heap H locs → lv_has ls 11 [(0, .ref (a 0)), (1, .int p1), (2, .int p2), (3, .int p3), (4, .int p4), (5, .int x5), (7, .int x7), (8, .int x8)] → W p l e rmX6_absent s m args below meth c H locs 0 0 Qz (F0 m 210 ls [.int s0, .int s1]) := by
    intro k56 C56 x5 x7 x8 s0 s1 M H locs ls h hP hS hl
    unfold fX6_absent_b210 at h
    refine lv_iadd (x := s1) (y := s0) hx hb dX6_absent_210 ?_
    refine lv_istore (lv' := [(6, .int (s1 + s0)), (0, .ref (a 0)), (1, .int p1), (2, .int p2), (3, .int p3), (4, .int p4), (5, .int x5), (7, .int x7), (8, .int x8)]) hx hb dX6_absent_211 hl (by decide) rfl (fun ls hl => ?_)
    exact B213 k56 C56 x5 (s1 + s0) x7 x8 M _ _ _ h hP hS (lv_sub hl [1, 2, 3, 4, 5, 6, 0, 7, 8] rfl)
  have B189 : ∀ (k56 : Int32 → Int32 → Int32 → Int32 → Mem → Option (Int32 × Mem)) (C56 : ∀ (x5 : Int32) (x6 : Int32) (x7 : Int32) (x8 : Int32) (M : Mem) (H : Heap) (locs : List Loc) (ls : Array Slot), k56 x5 x6 x7 x8 M = some (r, M') → va_P g.1 vwCl (wl 14 a (eN g a M)) H → va_S (aA 14 a s.heap.size) s.heap H locs → lv_has ls 11 [(0, .ref (a 0)), (1, .int p1), (2, .int p2), (3, .int p3), (4, .int p4), (5, .int x5), (6, .int x6), (7, .int x7), (8, .int x8)] → W p l e rmX6_absent s m args below meth c H locs 0 0 Qz (F0 m 56 ls [])), ∀ (x5 : Int32) (x6 : Int32) (x7 : Int32) (x8 : Int32) (x9 : Int32) (M : Mem) (H : Heap) (locs : List Loc) (ls : Array Slot), fX6_absent_b189 p1 p2 p3 p4 k56 x5 x6 x7 x8 x9 M = some (r, M') → va_P g.1 vwCl (wl 14 a (eN g a M)) H → va_S (aA 14 a s.heap.size) s.heap H locs → lv_has ls 11 [(0, .ref (a 0)), (1, .int p1), (2, .int p2), (3, .int p3), (4, .int p4), (5, .int x5), (6, .int x6), (7, .int x7), (8, .int x8), (9, .int x9)] → W p l e rmX6_absent s m args below meth c H locs 0 0 Qz (F0 m 189 ls []) := by
    intro k56 C56 x5 x6 x7 x8 x9 M H locs ls h hP hS hl
    unfold fX6_absent_b189 at h
    refine lv_iload hx hb dX6_absent_189 (lv_at hl 6 rfl) ?_
    refine lv_aload_n hx hb dX6_absent_191 rfl (lv_at hl 0 rfl) ?_
    refine r_get (v := .ref (a 11)) hx hb hts iX6 hown hK hP 0 (by decide) eN_0 rfl 14 (by decide) w41 rfl dX6_absent_192 ?_
    refine lv_iconst (v := 2) hx hb dX6_absent_195 (by decide) ?_
    refine lv_iload_n hx hb dX6_absent_196 rfl (lv_at hl 1 rfl) ?_
    refine lv_iadd (x := 2) (y := p1) hx hb dX6_absent_197 ?_
    obtain ⟨q1, h⟩ := chk_ok h
    refine r_iald (i := (2 + p1)) (h := M 11) hx hb hK hP 11 (by decide) rfl q1 dX6_absent_198 ?_
    refine lv_bipush (v := 99) hx hb dX6_absent_199 (by decide) ?_
    refine lv_icmp_ne (x := (M 11 (Int32.toNatClampNeg (2 + p1)))) (y := 99) (tgt := 209) hx hb dX6_absent_201 (by decide) (fun q2 => ?_) (fun q2 => ?_)
    · replace h := if_f q2 h
      refine lv_iconst (v := 0) hx hb dX6_absent_209 (by decide) ?_
      exact B210 k56 C56 x5 x7 x8 0 x6 M _ _ _ h hP hS (lv_sub hl [0, 1, 2, 3, 4, 5, 7, 8] rfl)
    · replace h := if_t q2 h
      refine lv_iload hx hb dX6_absent_204 (lv_at hl 9 rfl) ?_
      refine lv_goto (tgt := 210) hx hb dX6_absent_206 (by decide) ?_
      exact B210 k56 C56 x5 x7 x8 x9 x6 M _ _ _ h hP hS (lv_sub hl [0, 1, 2, 3, 4, 5, 7, 8] rfl)
  have B169 : ∀ (k56 : Int32 → Int32 → Int32 → Int32 → Mem → Option (Int32 × Mem)) (C56 : ∀ (x5 : Int32) (x6 : Int32) (x7 : Int32) (x8 : Int32) (M : Mem) (H : Heap) (locs : List Loc) (ls : Array Slot), k56 x5 x6 x7 x8 M = some (r, M') → va_P g.1 vwCl (wl 14 a (eN g a M)) H → va_S (aA 14 a s.heap.size) s.heap H locs → lv_has ls 11 [(0, .ref (a 0)), (1, .int p1), (2, .int p2), (3, .int p3), (4, .int p4), (5, .int x5), (6, .int x6), (7, .int x7), (8, .int x8)] → W p l e rmX6_absent s m args below meth c H locs 0 0 Qz (F0 m 56 ls [])) (k169 : Int32 → Int32 → Int32 → Int32 → Int32 → Int32 → Mem → Option (Int32 × Mem)) (C169 : ∀ (x5 : Int32) (x6 : Int32) (x7 : Int32) (x8 : Int32) (x9 : Int32) (x10 : Int32) (M : Mem) (H : Heap) (locs : List Loc) (ls : Array Slot), k169 x5 x6 x7 x8 x9 x10 M = some (r, M') → va_P g.1 vwCl (wl 14 a (eN g a M)) H → va_S (aA 14 a s.heap.size) s.heap H locs → lv_has ls 11 [(0, .ref (a 0)), (1, .int p1), (2, .int p2), (3, .int p3), (4, .int p4), (5, .int x5), (6, .int x6), (7, .int x7), (8, .int x8), (9, .int x9), (10, .int x10)] → W p l e rmX6_absent s m args below meth c H locs 0 0 Qz (F0 m 169 ls [])), ∀ (x5 : Int32) (x6 : Int32) (x7 : Int32) (x8 : Int32) (x9 : Int32) (x10 : Int32) (M : Mem) (H : Heap) (locs : List Loc) (ls : Array Slot), fX6_absent_b169 p1 p2 p3 p4 k56 k169 x5 x6 x7 x8 x9 x10 M = some (r, M') → va_P g.1 vwCl (wl 14 a (eN g a M)) H → va_S (aA 14 a s.heap.size) s.heap H locs → lv_has ls 11 [(0, .ref (a 0)), (1, .int p1), (2, .int p2), (3, .int p3), (4, .int p4), (5, .int x5), (6, .int x6), (7, .int x7), (8, .int x8), (9, .int x9), (10, .int x10)] → W p l e rmX6_absent s m args below meth c H locs 0 0 Qz (F0 m 169 ls []) := by
    intro k56 C56 k169 C169 x5 x6 x7 x8 x9 x10 M H locs ls h hP hS hl
    unfold fX6_absent_b169 at h
    refine lv_iload hx hb dX6_absent_169 (lv_at hl 10 rfl) ?_
    refine lv_iload_n hx hb dX6_absent_171 rfl (lv_at hl 2 rfl) ?_
    refine lv_icmp_ge (x := x10) (y := p2) (tgt := 189) hx hb dX6_absent_172 (by decide) (fun q1 => ?_) (fun q1 => ?_)
    · replace h := if_t q1 h
      exact B189 k56 C56 x5 x6 x7 x8 x9 M _ _ _ h hP hS (lv_sub hl [0, 1, 2, 3, 4, 5, 6, 7, 8, 9] rfl)
    · replace h := if_f q1 h
      refine lv_aload_n hx hb dX6_absent_175 rfl (lv_at hl 0 rfl) ?_
      refine lv_aload_n hx hb dX6_absent_176 rfl (lv_at hl 0 rfl) ?_
      refine r_get (v := .ref (a 11)) hx hb hts iX6 hown hK hP 0 (by decide) eN_0 rfl 14 (by decide) w41 rfl dX6_absent_177 ?_
      obtain ⟨M4, e3, h⟩ := bdV_ok h
      refine r_callVv (As := [.ref (a 11)]) (rest := []) (ws' := (wl 14 a (eN g a M4))) (ok_X6_tick l g a hI 11 M M4 (by decide) e3) ⟨hx, hb, hml, hown, hts⟩ (cwV 1 hts gX6_absent_X6_tick rfl rfl rfl (by decide +kernel) ⟨Nat.le_of_ble_eq_true rfl, Nat.le_of_ble_eq_true rfl⟩) hK (r_recv hK hP 0 (by decide) eN_0 (show vwCl[6]? = some (RX6, TX6, 20) from rfl)) hS hP (fun _ hq => aA_mono hS.1 hq) (fun _ h _ => h) rfl hl.1 rfl (Nat.le_of_ble_eq_true rfl) dX6_absent_180 ⟨Nat.zero_le _, Nat.zero_le _⟩ (fun H locs hP hS => ?_)
      refine lv_iinc (v := (x10 + 1)) (lv' := [(10, .int (x10 + 1)), (0, .ref (a 0)), (1, .int p1), (2, .int p2), (3, .int p3), (4, .int p4), (5, .int x5), (6, .int x6), (7, .int x7), (8, .int x8), (9, .int x9)]) hx hb dX6_absent_183 hl (k := 10) rfl rfl (by decide) rfl (fun ls hl => ?_)
      refine lv_goto (tgt := 169) hx hb dX6_absent_186 (by decide) ?_
      exact C169 x5 x6 x7 x8 x9 (x10 + 1) M4 _ _ _ h hP hS (lv_sub hl [1, 2, 3, 4, 5, 6, 7, 8, 9, 10, 0] rfl)
  have L169 : ∀ (k56 : Int32 → Int32 → Int32 → Int32 → Mem → Option (Int32 × Mem)) (C56 : ∀ (x5 : Int32) (x6 : Int32) (x7 : Int32) (x8 : Int32) (M : Mem) (H : Heap) (locs : List Loc) (ls : Array Slot), k56 x5 x6 x7 x8 M = some (r, M') → va_P g.1 vwCl (wl 14 a (eN g a M)) H → va_S (aA 14 a s.heap.size) s.heap H locs → lv_has ls 11 [(0, .ref (a 0)), (1, .int p1), (2, .int p2), (3, .int p3), (4, .int p4), (5, .int x5), (6, .int x6), (7, .int x7), (8, .int x8)] → W p l e rmX6_absent s m args below meth c H locs 0 0 Qz (F0 m 56 ls [])) (n : Nat), ∀ (x5 : Int32) (x6 : Int32) (x7 : Int32) (x8 : Int32) (x9 : Int32) (x10 : Int32) (M : Mem) (H : Heap) (locs : List Loc) (ls : Array Slot), fX6_absent_l169 p1 p2 p3 p4 k56 n x5 x6 x7 x8 x9 x10 M = some (r, M') → va_P g.1 vwCl (wl 14 a (eN g a M)) H → va_S (aA 14 a s.heap.size) s.heap H locs → lv_has ls 11 [(0, .ref (a 0)), (1, .int p1), (2, .int p2), (3, .int p3), (4, .int p4), (5, .int x5), (6, .int x6), (7, .int x7), (8, .int x8), (9, .int x9), (10, .int x10)] → W p l e rmX6_absent s m args below meth c H locs 0 0 Qz (F0 m 169 ls []) := by
    intro k56 C56 n
    induction n with
    | zero => intro x5 x6 x7 x8 x9 x10 M H locs ls h; exact absurd (show (none : Option (Int32 × Mem)) = some _ from h) (fun z => by cases z)
    | succ n ih => exact fun x5 x6 x7 x8 x9 x10 M H locs ls h hP hS hl => B169 k56 C56 (fX6_absent_l169 p1 p2 p3 p4 k56 n) ih x5 x6 x7 x8 x9 x10 M H locs ls h hP hS hl
  have B166 : ∀ (k56 : Int32 → Int32 → Int32 → Int32 → Mem → Option (Int32 × Mem)) (C56 : ∀ (x5 : Int32) (x6 : Int32) (x7 : Int32) (x8 : Int32) (M : Mem) (H : Heap) (locs : List Loc) (ls : Array Slot), k56 x5 x6 x7 x8 M = some (r, M') → va_P g.1 vwCl (wl 14 a (eN g a M)) H → va_S (aA 14 a s.heap.size) s.heap H locs → lv_has ls 11 [(0, .ref (a 0)), (1, .int p1), (2, .int p2), (3, .int p3), (4, .int p4), (5, .int x5), (6, .int x6), (7, .int x7), (8, .int x8)] → W p l e rmX6_absent s m args below meth c H locs 0 0 Qz (F0 m 56 ls [])), ∀ (x5 : Int32) (x6 : Int32) (x7 : Int32) (x8 : Int32) (x9 : Int32) (M : Mem) (H : Heap) (locs : List Loc) (ls : Array Slot), fX6_absent_b166 p1 p2 p3 p4 k56 x5 x6 x7 x8 x9 M = some (r, M') → va_P g.1 vwCl (wl 14 a (eN g a M)) H → va_S (aA 14 a s.heap.size) s.heap H locs → lv_has ls 11 [(0, .ref (a 0)), (1, .int p1), (2, .int p2), (3, .int p3), (4, .int p4), (5, .int x5), (6, .int x6), (7, .int x7), (8, .int x8), (9, .int x9)] → W p l e rmX6_absent s m args below meth c H locs 0 0 Qz (F0 m 166 ls []) := by
    intro k56 C56 x5 x6 x7 x8 x9 M H locs ls h hP hS hl
    unfold fX6_absent_b166 at h
    refine lv_iconst (v := 0) hx hb dX6_absent_166 (by decide) ?_
    refine lv_istore (lv' := [(10, .int 0), (0, .ref (a 0)), (1, .int p1), (2, .int p2), (3, .int p3), (4, .int p4), (5, .int x5), (6, .int x6), (7, .int x7), (8, .int x8), (9, .int x9)]) hx hb dX6_absent_167 hl (by decide) rfl (fun ls hl => ?_)
    exact L169 k56 C56 FU x5 x6 x7 x8 x9 0 M _ _ _ h hP hS (lv_sub hl [1, 2, 3, 4, 5, 6, 7, 8, 9, 10, 0] rfl)
  have B160 : ∀ (k56 : Int32 → Int32 → Int32 → Int32 → Mem → Option (Int32 × Mem)) (C56 : ∀ (x5 : Int32) (x6 : Int32) (x7 : Int32) (x8 : Int32) (M : Mem) (H : Heap) (locs : List Loc) (ls : Array Slot), k56 x5 x6 x7 x8 M = some (r, M') → va_P g.1 vwCl (wl 14 a (eN g a M)) H → va_S (aA 14 a s.heap.size) s.heap H locs → lv_has ls 11 [(0, .ref (a 0)), (1, .int p1), (2, .int p2), (3, .int p3), (4, .int p4), (5, .int x5), (6, .int x6), (7, .int x7), (8, .int x8)] → W p l e rmX6_absent s m args below meth c H locs 0 0 Qz (F0 m 56 ls [])) (k90 : Int32 → Int32 → Int32 → Int32 → Int32 → Int32 → Mem → Option (Int32 × Mem)) (C90 : ∀ (x5 : Int32) (x6 : Int32) (x7 : Int32) (x8 : Int32) (x9 : Int32) (x10 : Int32) (M : Mem) (H : Heap) (locs : List Loc) (ls : Array Slot), k90 x5 x6 x7 x8 x9 x10 M = some (r, M') → va_P g.1 vwCl (wl 14 a (eN g a M)) H → va_S (aA 14 a s.heap.size) s.heap H locs → lv_has ls 11 [(0, .ref (a 0)), (1, .int p1), (2, .int p2), (3, .int p3), (4, .int p4), (5, .int x5), (6, .int x6), (7, .int x7), (8, .int x8), (9, .int x9), (10, .int x10)] → W p l e rmX6_absent s m args below meth c H locs 0 0 Qz (F0 m 90 ls [])), ∀ (x5 : Int32) (x6 : Int32) (x7 : Int32) (x8 : Int32) (x9 : Int32) (x10 : Int32) (M : Mem) (H : Heap) (locs : List Loc) (ls : Array Slot), fX6_absent_b160 p1 p2 p3 p4 k56 k90 x5 x6 x7 x8 x9 x10 M = some (r, M') → va_P g.1 vwCl (wl 14 a (eN g a M)) H → va_S (aA 14 a s.heap.size) s.heap H locs → lv_has ls 11 [(0, .ref (a 0)), (1, .int p1), (2, .int p2), (3, .int p3), (4, .int p4), (5, .int x5), (6, .int x6), (7, .int x7), (8, .int x8), (9, .int x9), (10, .int x10)] → W p l e rmX6_absent s m args below meth c H locs 0 0 Qz (F0 m 160 ls []) := by
    intro k56 C56 k90 C90 x5 x6 x7 x8 x9 x10 M H locs ls h hP hS hl
    unfold fX6_absent_b160 at h
    refine lv_iinc (v := (x10 + 1)) (lv' := [(10, .int (x10 + 1)), (0, .ref (a 0)), (1, .int p1), (2, .int p2), (3, .int p3), (4, .int p4), (5, .int x5), (6, .int x6), (7, .int x7), (8, .int x8), (9, .int x9)]) hx hb dX6_absent_160 hl (k := 10) rfl rfl (by decide) rfl (fun ls hl => ?_)
    refine lv_goto (tgt := 90) hx hb dX6_absent_163 (by decide) ?_
    exact C90 x5 x6 x7 x8 x9 (x10 + 1) M _ _ _ h hP hS (lv_sub hl [1, 2, 3, 4, 5, 6, 7, 8, 9, 10, 0] rfl)
  have B159 : ∀ (k56 : Int32 → Int32 → Int32 → Int32 → Mem → Option (Int32 × Mem)) (C56 : ∀ (x5 : Int32) (x6 : Int32) (x7 : Int32) (x8 : Int32) (M : Mem) (H : Heap) (locs : List Loc) (ls : Array Slot), k56 x5 x6 x7 x8 M = some (r, M') → va_P g.1 vwCl (wl 14 a (eN g a M)) H → va_S (aA 14 a s.heap.size) s.heap H locs → lv_has ls 11 [(0, .ref (a 0)), (1, .int p1), (2, .int p2), (3, .int p3), (4, .int p4), (5, .int x5), (6, .int x6), (7, .int x7), (8, .int x8)] → W p l e rmX6_absent s m args below meth c H locs 0 0 Qz (F0 m 56 ls [])) (k90 : Int32 → Int32 → Int32 → Int32 → Int32 → Int32 → Mem → Option (Int32 × Mem)) (C90 : ∀ (x5 : Int32) (x6 : Int32) (x7 : Int32) (x8 : Int32) (x9 : Int32) (x10 : Int32) (M : Mem) (H : Heap) (locs : List Loc) (ls : Array Slot), k90 x5 x6 x7 x8 x9 x10 M = some (r, M') → va_P g.1 vwCl (wl 14 a (eN g a M)) H → va_S (aA 14 a s.heap.size) s.heap H locs → lv_has ls 11 [(0, .ref (a 0)), (1, .int p1), (2, .int p2), (3, .int p3), (4, .int p4), (5, .int x5), (6, .int x6), (7, .int x7), (8, .int x8), (9, .int x9), (10, .int x10)] → W p l e rmX6_absent s m args below meth c H locs 0 0 Qz (F0 m 90 ls [])), ∀ (x5 : Int32) (x6 : Int32) (x7 : Int32) (x8 : Int32) (x9 : Int32) (x10 : Int32) (s0 : Int32) (s1 : Int32) (M : Mem) (H : Heap) (locs : List Loc) (ls : Array Slot), fX6_absent_b159 p1 p2 p3 p4 k56 k90 x5 x6 x7 x8 x9 x10 s0 s1 M = some (r, M') → va_P g.1 vwCl (wl 14 a (eN g a M)) H → va_S (aA 14 a s.heap.size) s.heap H locs → lv_has ls 11 [(0, .ref (a 0)), (1, .int p1), (2, .int p2), (3, .int p3), (4, .int p4), (5, .int x5), (6, .int x6), (7, .int x7), (8, .int x8), (9, .int x9), (10, .int x10)] → W p l e rmX6_absent s m args below meth c H locs 0 0 Qz (F0 m 159 ls [.int s0, .int s1, .ref (a 11)]) := by
    intro k56 C56 k90 C90 x5 x6 x7 x8 x9 x10 s0 s1 M H locs ls h hP hS hl
    unfold fX6_absent_b159 at h
    obtain ⟨q1, h⟩ := chk_ok h
    refine r_iast (i := s1) (x := s0) (h := M 11) (f' := eN g a (mp M 11 (Int32.toNatClampNeg s1) s0)) hx hb hK hI (fun _ h => aA_in h) hP hS 11 (by decide) rfl q1 (eN_ua (fun _ => rfl)) dX6_absent_159 (fun H locs hP hS => ?_)
    exact B160 k56 C56 k90 C90 x5 x6 x7 x8 x9 x10 (mp M 11 (Int32.toNatClampNeg s1) s0) _ _ _ h hP hS (lv_sub hl [0, 1, 2, 3, 4, 5, 6, 7, 8, 9, 10] rfl)
  have B132 : ∀ (k56 : Int32 → Int32 → Int32 → Int32 → Mem → Option (Int32 × Mem)) (C56 : ∀ (x5 : Int32) (x6 : Int32) (x7 : Int32) (x8 : Int32) (M : Mem) (H : Heap) (locs : List Loc) (ls : Array Slot), k56 x5 x6 x7 x8 M = some (r, M') → va_P g.1 vwCl (wl 14 a (eN g a M)) H → va_S (aA 14 a s.heap.size) s.heap H locs → lv_has ls 11 [(0, .ref (a 0)), (1, .int p1), (2, .int p2), (3, .int p3), (4, .int p4), (5, .int x5), (6, .int x6), (7, .int x7), (8, .int x8)] → W p l e rmX6_absent s m args below meth c H locs 0 0 Qz (F0 m 56 ls [])) (k90 : Int32 → Int32 → Int32 → Int32 → Int32 → Int32 → Mem → Option (Int32 × Mem)) (C90 : ∀ (x5 : Int32) (x6 : Int32) (x7 : Int32) (x8 : Int32) (x9 : Int32) (x10 : Int32) (M : Mem) (H : Heap) (locs : List Loc) (ls : Array Slot), k90 x5 x6 x7 x8 x9 x10 M = some (r, M') → va_P g.1 vwCl (wl 14 a (eN g a M)) H → va_S (aA 14 a s.heap.size) s.heap H locs → lv_has ls 11 [(0, .ref (a 0)), (1, .int p1), (2, .int p2), (3, .int p3), (4, .int p4), (5, .int x5), (6, .int x6), (7, .int x7), (8, .int x8), (9, .int x9), (10, .int x10)] → W p l e rmX6_absent s m args below meth c H locs 0 0 Qz (F0 m 90 ls [])), ∀ (x5 : Int32) (x6 : Int32) (x7 : Int32) (x8 : Int32) (x10 : Int32) (s0 : Int32) (s1 : Int32) (M : Mem) (H : Heap) (locs : List Loc) (ls : Array Slot), fX6_absent_b132 p1 p2 p3 p4 k56 k90 x5 x6 x7 x8 x10 s0 s1 M = some (r, M') → va_P g.1 vwCl (wl 14 a (eN g a M)) H → va_S (aA 14 a s.heap.size) s.heap H locs → lv_has ls 11 [(0, .ref (a 0)), (1, .int p1), (2, .int p2), (3, .int p3), (4, .int p4), (5, .int x5), (6, .int x6), (7, .int x7), (8, .int x8), (10, .int x10)] → W p l e rmX6_absent s m args below meth c H locs 0 0 Qz (F0 m 132 ls [.int s0, .int s1]) := by
    intro k56 C56 k90 C90 x5 x6 x7 x8 x10 s0 s1 M H locs ls h hP hS hl
    unfold fX6_absent_b132 at h
    refine lv_imul (x := s1) (y := s0) hx hb dX6_absent_132 ?_
    refine lv_istore (lv' := [(9, .int (s1 * s0)), (0, .ref (a 0)), (1, .int p1), (2, .int p2), (3, .int p3), (4, .int p4), (5, .int x5), (6, .int x6), (7, .int x7), (8, .int x8), (10, .int x10)]) hx hb dX6_absent_133 hl (by decide) rfl (fun ls hl => ?_)
    refine lv_aload_n hx hb dX6_absent_135 rfl (lv_at hl 1 rfl) ?_
    refine r_get (v := .ref (a 11)) hx hb hts iX6 hown hK hP 0 (by decide) eN_0 rfl 14 (by decide) w41 rfl dX6_absent_136 ?_
    refine lv_iconst (v := 2) hx hb dX6_absent_139 (by decide) ?_
    refine lv_iload hx hb dX6_absent_140 (lv_at hl 10 rfl) ?_
    refine lv_iadd (x := 2) (y := x10) hx hb dX6_absent_142 ?_
    refine lv_iload hx hb dX6_absent_143 (lv_at hl 9 rfl) ?_
    refine lv_iload hx hb dX6_absent_145 (lv_at hl 10 rfl) ?_
    obtain ⟨r1, e2, h⟩ := bdP_ok h
    refine r_callSi (As := [.int x8, .int x10]) (rest := [.int (2 + x10), .ref (a 11)]) (ws' := (wl 14 a (eN g a M))) (ok_X6_has l g x8 x10 r1 e2) ⟨hx, hb, hml, hown, hts⟩ (cwS 2 hts gX6_absent_X6_has rfl rfl rfl (by decide +kernel) ⟨Nat.le_of_ble_eq_true rfl, Nat.le_of_ble_eq_true rfl⟩) hK hS nilP (P_A hS.1) (fun _ _ hk => wl_keep hP hk) rfl hl.1 rfl (Nat.le_of_ble_eq_true rfl) dX6_absent_147 ⟨Nat.zero_le _, Nat.zero_le _⟩ (fun H locs hP hS => ?_)
    refine lv_if_eq (x := r1) (tgt := 158) hx hb dX6_absent_150 (by decide) (fun q3 => ?_) (fun q3 => ?_)
    · replace h := if_t q3 h
      refine lv_iconst (v := (-1)) hx hb dX6_absent_158 (by decide) ?_
      exact B159 k56 C56 k90 C90 x5 x6 x7 x8 (s1 * s0) x10 (-1) (2 + x10) M _ _ _ h hP hS (lv_sub hl [1, 2, 3, 4, 5, 6, 7, 8, 9, 0, 10] rfl)
    · replace h := if_f q3 h
      refine lv_bipush (v := 99) hx hb dX6_absent_153 (by decide) ?_
      refine lv_goto (tgt := 159) hx hb dX6_absent_155 (by decide) ?_
      exact B159 k56 C56 k90 C90 x5 x6 x7 x8 (s1 * s0) x10 99 (2 + x10) M _ _ _ h hP hS (lv_sub hl [1, 2, 3, 4, 5, 6, 7, 8, 9, 0, 10] rfl)
  have B90 : ∀ (k56 : Int32 → Int32 → Int32 → Int32 → Mem → Option (Int32 × Mem)) (C56 : ∀ (x5 : Int32) (x6 : Int32) (x7 : Int32) (x8 : Int32) (M : Mem) (H : Heap) (locs : List Loc) (ls : Array Slot), k56 x5 x6 x7 x8 M = some (r, M') → va_P g.1 vwCl (wl 14 a (eN g a M)) H → va_S (aA 14 a s.heap.size) s.heap H locs → lv_has ls 11 [(0, .ref (a 0)), (1, .int p1), (2, .int p2), (3, .int p3), (4, .int p4), (5, .int x5), (6, .int x6), (7, .int x7), (8, .int x8)] → W p l e rmX6_absent s m args below meth c H locs 0 0 Qz (F0 m 56 ls [])) (k90 : Int32 → Int32 → Int32 → Int32 → Int32 → Int32 → Mem → Option (Int32 × Mem)) (C90 : ∀ (x5 : Int32) (x6 : Int32) (x7 : Int32) (x8 : Int32) (x9 : Int32) (x10 : Int32) (M : Mem) (H : Heap) (locs : List Loc) (ls : Array Slot), k90 x5 x6 x7 x8 x9 x10 M = some (r, M') → va_P g.1 vwCl (wl 14 a (eN g a M)) H → va_S (aA 14 a s.heap.size) s.heap H locs → lv_has ls 11 [(0, .ref (a 0)), (1, .int p1), (2, .int p2), (3, .int p3), (4, .int p4), (5, .int x5), (6, .int x6), (7, .int x7), (8, .int x8), (9, .int x9), (10, .int x10)] → W p l e rmX6_absent s m args below meth c H locs 0 0 Qz (F0 m 90 ls [])), ∀ (x5 : Int32) (x6 : Int32) (x7 : Int32) (x8 : Int32) (x9 : Int32) (x10 : Int32) (M : Mem) (H : Heap) (locs : List Loc) (ls : Array Slot), fX6_absent_b90 p1 p2 p3 p4 k56 k90 x5 x6 x7 x8 x9 x10 M = some (r, M') → va_P g.1 vwCl (wl 14 a (eN g a M)) H → va_S (aA 14 a s.heap.size) s.heap H locs → lv_has ls 11 [(0, .ref (a 0)), (1, .int p1), (2, .int p2), (3, .int p3), (4, .int p4), (5, .int x5), (6, .int x6), (7, .int x7), (8, .int x8), (9, .int x9), (10, .int x10)] → W p l e rmX6_absent s m args below meth c H locs 0 0 Qz (F0 m 90 ls []) := by
    intro k56 C56 k90 C90 x5 x6 x7 x8 x9 x10 M H locs ls h hP hS hl
    unfold fX6_absent_b90 at h
    refine lv_iload hx hb dX6_absent_90 (lv_at hl 10 rfl) ?_
    refine lv_aload_n hx hb dX6_absent_92 rfl (lv_at hl 0 rfl) ?_
    refine r_get (v := .ref (a 6)) hx hb hts iX6 hown hK hP 0 (by decide) eN_0 rfl 8 (by decide) w25 rfl dX6_absent_93 ?_
    refine lv_bipush (v := 17) hx hb dX6_absent_96 (by decide) ?_
    obtain ⟨q1, h⟩ := chk_ok h
    refine r_iald (i := 17) (h := M 6) hx hb hK hP 6 (by decide) rfl q1 dX6_absent_98 ?_
    refine lv_icmp_ge (x := x10) (y := (M 6 (Int32.toNatClampNeg 17))) (tgt := 166) hx hb dX6_absent_99 (by decide) (fun q2 => ?_) (fun q2 => ?_)
    · replace h := if_t q2 h
      exact B166 k56 C56 x5 x6 x7 x8 x9 M _ _ _ h hP hS (lv_sub hl [0, 1, 2, 3, 4, 5, 6, 7, 8, 9] rfl)
    · replace h := if_f q2 h
      refine lv_iload hx hb dX6_absent_102 (lv_at hl 5 rfl) ?_
      refine lv_iload hx hb dX6_absent_104 (lv_at hl 10 rfl) ?_
      obtain ⟨r3, e4, h⟩ := bdP_ok h
      refine r_callSi (As := [.int x5, .int x10]) (rest := []) (ws' := (wl 14 a (eN g a M))) (ok_X6_has l g x5 x10 r3 e4) ⟨hx, hb, hml, hown, hts⟩ (cwS 2 hts gX6_absent_X6_has rfl rfl rfl (by decide +kernel) ⟨Nat.le_of_ble_eq_true rfl, Nat.le_of_ble_eq_true rfl⟩) hK hS nilP (P_A hS.1) (fun _ _ hk => wl_keep hP hk) rfl hl.1 rfl (Nat.le_of_ble_eq_true rfl) dX6_absent_106 ⟨Nat.zero_le _, Nat.zero_le _⟩ (fun H locs hP hS => ?_)
      refine lv_if_eq (x := r3) (tgt := 160) hx hb dX6_absent_109 (by decide) (fun q5 => ?_) (fun q5 => ?_)
      · replace h := if_t q5 h
        exact B160 k56 C56 k90 C90 x5 x6 x7 x8 x9 x10 M _ _ _ h hP hS (lv_sub hl [0, 1, 2, 3, 4, 5, 6, 7, 8, 9, 10] rfl)
      · replace h := if_f q5 h
        refine lv_iload hx hb dX6_absent_112 (lv_at hl 9 rfl) ?_
        refine lv_iload hx hb dX6_absent_114 (lv_at hl 8 rfl) ?_
        refine lv_iload hx hb dX6_absent_116 (lv_at hl 10 rfl) ?_
        obtain ⟨r6, e7, h⟩ := bdP_ok h
        refine r_callSi (As := [.int x8, .int x10]) (rest := [.int x9]) (ws' := (wl 14 a (eN g a M))) (ok_X6_has l g x8 x10 r6 e7) ⟨hx, hb, hml, hown, hts⟩ (cwS 2 hts gX6_absent_X6_has rfl rfl rfl (by decide +kernel) ⟨Nat.le_of_ble_eq_true rfl, Nat.le_of_ble_eq_true rfl⟩) hK hS nilP (P_A hS.1) (fun _ _ hk => wl_keep hP hk) rfl hl.1 rfl (Nat.le_of_ble_eq_true rfl) dX6_absent_118 ⟨Nat.zero_le _, Nat.zero_le _⟩ (fun H locs hP hS => ?_)
        refine lv_if_eq (x := r6) (tgt := 128) hx hb dX6_absent_121 (by decide) (fun q8 => ?_) (fun q8 => ?_)
        · replace h := if_t q8 h
          refine lv_bipush (v := 10) hx hb dX6_absent_128 (by decide) ?_
          refine lv_iload_n hx hb dX6_absent_130 rfl (lv_at hl 3 rfl) ?_
          refine lv_isub (x := 10) (y := p3) hx hb dX6_absent_131 ?_
          exact B132 k56 C56 k90 C90 x5 x6 x7 x8 x10 (10 - p3) x9 M _ _ _ h hP hS (lv_sub hl [0, 1, 2, 3, 4, 5, 6, 7, 8, 10] rfl)
        · replace h := if_f q8 h
          refine lv_iload_n hx hb dX6_absent_124 rfl (lv_at hl 3 rfl) ?_
          refine lv_goto (tgt := 132) hx hb dX6_absent_125 (by decide) ?_
          exact B132 k56 C56 k90 C90 x5 x6 x7 x8 x10 p3 x9 M _ _ _ h hP hS (lv_sub hl [0, 1, 2, 3, 4, 5, 6, 7, 8, 10] rfl)
  have L90 : ∀ (k56 : Int32 → Int32 → Int32 → Int32 → Mem → Option (Int32 × Mem)) (C56 : ∀ (x5 : Int32) (x6 : Int32) (x7 : Int32) (x8 : Int32) (M : Mem) (H : Heap) (locs : List Loc) (ls : Array Slot), k56 x5 x6 x7 x8 M = some (r, M') → va_P g.1 vwCl (wl 14 a (eN g a M)) H → va_S (aA 14 a s.heap.size) s.heap H locs → lv_has ls 11 [(0, .ref (a 0)), (1, .int p1), (2, .int p2), (3, .int p3), (4, .int p4), (5, .int x5), (6, .int x6), (7, .int x7), (8, .int x8)] → W p l e rmX6_absent s m args below meth c H locs 0 0 Qz (F0 m 56 ls [])) (n : Nat), ∀ (x5 : Int32) (x6 : Int32) (x7 : Int32) (x8 : Int32) (x9 : Int32) (x10 : Int32) (M : Mem) (H : Heap) (locs : List Loc) (ls : Array Slot), fX6_absent_l90 p1 p2 p3 p4 k56 n x5 x6 x7 x8 x9 x10 M = some (r, M') → va_P g.1 vwCl (wl 14 a (eN g a M)) H → va_S (aA 14 a s.heap.size) s.heap H locs → lv_has ls 11 [(0, .ref (a 0)), (1, .int p1), (2, .int p2), (3, .int p3), (4, .int p4), (5, .int x5), (6, .int x6), (7, .int x7), (8, .int x8), (9, .int x9), (10, .int x10)] → W p l e rmX6_absent s m args below meth c H locs 0 0 Qz (F0 m 90 ls []) := by
    intro k56 C56 n
    induction n with
    | zero => intro x5 x6 x7 x8 x9 x10 M H locs ls h; exact absurd (show (none : Option (Int32 × Mem)) = some _ from h) (fun z => by cases z)
    | succ n ih => exact fun x5 x6 x7 x8 x9 x10 M H locs ls h hP hS hl => B90 k56 C56 (fX6_absent_l90 p1 p2 p3 p4 k56 n) ih x5 x6 x7 x8 x9 x10 M H locs ls h hP hS hl
  have B56 : ∀ (k56 : Int32 → Int32 → Int32 → Int32 → Mem → Option (Int32 × Mem)) (C56 : ∀ (x5 : Int32) (x6 : Int32) (x7 : Int32) (x8 : Int32) (M : Mem) (H : Heap) (locs : List Loc) (ls : Array Slot), k56 x5 x6 x7 x8 M = some (r, M') → va_P g.1 vwCl (wl 14 a (eN g a M)) H → va_S (aA 14 a s.heap.size) s.heap H locs → lv_has ls 11 [(0, .ref (a 0)), (1, .int p1), (2, .int p2), (3, .int p3), (4, .int p4), (5, .int x5), (6, .int x6), (7, .int x7), (8, .int x8)] → W p l e rmX6_absent s m args below meth c H locs 0 0 Qz (F0 m 56 ls [])), ∀ (x5 : Int32) (x6 : Int32) (x7 : Int32) (x8 : Int32) (M : Mem) (H : Heap) (locs : List Loc) (ls : Array Slot), fX6_absent_b56 p1 p2 p3 p4 k56 x5 x6 x7 x8 M = some (r, M') → va_P g.1 vwCl (wl 14 a (eN g a M)) H → va_S (aA 14 a s.heap.size) s.heap H locs → lv_has ls 11 [(0, .ref (a 0)), (1, .int p1), (2, .int p2), (3, .int p3), (4, .int p4), (5, .int x5), (6, .int x6), (7, .int x7), (8, .int x8)] → W p l e rmX6_absent s m args below meth c H locs 0 0 Qz (F0 m 56 ls []) := by
    intro k56 C56 x5 x6 x7 x8 M H locs ls h hP hS hl
    unfold fX6_absent_b56 at h
    refine lv_iload hx hb dX6_absent_56 (lv_at hl 8 rfl) ?_
    refine lv_iconst (v := 1) hx hb dX6_absent_58 (by decide) ?_
    refine lv_aload_n hx hb dX6_absent_59 rfl (lv_at hl 0 rfl) ?_
    refine r_get (v := .ref (a 6)) hx hb hts iX6 hown hK hP 0 (by decide) eN_0 rfl 8 (by decide) w25 rfl dX6_absent_60 ?_
    refine lv_bipush (v := 17) hx hb dX6_absent_63 (by decide) ?_
    obtain ⟨q1, h⟩ := chk_ok h
    refine r_iald (i := 17) (h := M 6) hx hb hK hP 6 (by decide) rfl q1 dX6_absent_65 ?_
    refine lv_ishl (x := 1) (y := (M 6 (Int32.toNatClampNeg 17))) hx hb dX6_absent_66 ?_
    refine lv_icmp_ge (x := x8) (y := (1 <<< ((M 6 (Int32.toNatClampNeg 17)) &&& 31))) (tgt := 219) hx hb dX6_absent_67 (by decide) (fun q2 => ?_) (fun q2 => ?_)
    · replace h := if_t q2 h
      exact B219 x5 x6 x7 M _ _ _ h hP hS (lv_sub hl [0, 1, 2, 3, 4, 5, 6, 7] rfl)
    · replace h := if_f q2 h
      refine lv_iload hx hb dX6_absent_70 (lv_at hl 8 rfl) ?_
      refine lv_iload hx hb dX6_absent_72 (lv_at hl 5 rfl) ?_
      refine lv_iconst (v := (-1)) hx hb dX6_absent_74 (by decide) ?_
      refine lv_ixor (x := x5) (y := (-1)) hx hb dX6_absent_75 ?_
      refine lv_iand (x := x8) (y := (x5 ^^^ (-1))) hx hb dX6_absent_76 ?_
      refine lv_if_ne (x := (x8 &&& (x5 ^^^ (-1)))) (tgt := 213) hx hb dX6_absent_77 (by decide) (fun q3 => ?_) (fun q3 => ?_)
      · replace h := if_f q3 h
        exact B213 k56 C56 x5 x6 x7 x8 M _ _ _ h hP hS (lv_sub hl [0, 1, 2, 3, 4, 5, 6, 7, 8] rfl)
      · replace h := if_t q3 h
        refine lv_aload_n hx hb dX6_absent_80 rfl (lv_at hl 0 rfl) ?_
        obtain ⟨M6, e5, h⟩ := bdV_ok h
        refine r_callVv (As := []) (rest := []) (ws' := (wl 14 a (eN g a M6))) (ok_X6_starts l g a hI M M6 e5) ⟨hx, hb, hml, hown, hts⟩ (cwV 0 hts gX6_absent_X6_starts rfl rfl rfl (by decide +kernel) ⟨Nat.le_of_ble_eq_true rfl, Nat.le_of_ble_eq_true rfl⟩) hK (r_recv hK hP 0 (by decide) eN_0 (show vwCl[6]? = some (RX6, TX6, 20) from rfl)) hS hP (fun _ hq => aA_mono hS.1 hq) (fun _ h _ => h) rfl hl.1 rfl (Nat.le_of_ble_eq_true rfl) dX6_absent_81 ⟨Nat.zero_le _, Nat.zero_le _⟩ (fun H locs hP hS => ?_)
        refine lv_iconst (v := 1) hx hb dX6_absent_84 (by decide) ?_
        refine lv_istore (lv' := [(9, .int 1), (0, .ref (a 0)), (1, .int p1), (2, .int p2), (3, .int p3), (4, .int p4), (5, .int x5), (6, .int x6), (7, .int x7), (8, .int x8)]) hx hb dX6_absent_85 hl (by decide) rfl (fun ls hl => ?_)
        refine lv_iconst (v := 0) hx hb dX6_absent_87 (by decide) ?_
        refine lv_istore (lv' := [(10, .int 0), (9, .int 1), (0, .ref (a 0)), (1, .int p1), (2, .int p2), (3, .int p3), (4, .int p4), (5, .int x5), (6, .int x6), (7, .int x7), (8, .int x8)]) hx hb dX6_absent_88 hl (by decide) rfl (fun ls hl => ?_)
        exact L90 k56 C56 FU x5 x6 x7 x8 1 0 M6 _ _ _ h hP hS (lv_sub hl [2, 3, 4, 5, 6, 7, 8, 9, 10, 1, 0] rfl)
  have L56 : ∀ (n : Nat), ∀ (x5 : Int32) (x6 : Int32) (x7 : Int32) (x8 : Int32) (M : Mem) (H : Heap) (locs : List Loc) (ls : Array Slot), fX6_absent_l56 p1 p2 p3 p4 n x5 x6 x7 x8 M = some (r, M') → va_P g.1 vwCl (wl 14 a (eN g a M)) H → va_S (aA 14 a s.heap.size) s.heap H locs → lv_has ls 11 [(0, .ref (a 0)), (1, .int p1), (2, .int p2), (3, .int p3), (4, .int p4), (5, .int x5), (6, .int x6), (7, .int x7), (8, .int x8)] → W p l e rmX6_absent s m args below meth c H locs 0 0 Qz (F0 m 56 ls []) := by
    intro n
    induction n with
    | zero => intro x5 x6 x7 x8 M H locs ls h; exact absurd (show (none : Option (Int32 × Mem)) = some _ from h) (fun z => by cases z)
    | succ n ih => exact fun x5 x6 x7 x8 M H locs ls h hP hS hl => B56 (fX6_absent_l56 p1 p2 p3 p4 n) ih x5 x6 x7 x8 M H locs ls h hP hS hl
  unfold fX6_absent at h
  refine lv_aload_n hx hb dX6_absent_0 rfl (lv_at hl 0 rfl) ?_
  refine lv_iload_n hx hb dX6_absent_1 rfl (lv_at hl 1 rfl) ?_
  obtain ⟨r1, e2, h⟩ := bdP_ok h
  refine r_callVi (As := [.int p1]) (rest := []) (ws' := (wl 14 a (eN g a M))) (ok_X6_isRider l g a hI p1 M r1 e2) ⟨hx, hb, hml, hown, hts⟩ (cwV 1 hts gX6_absent_X6_isRider rfl rfl rfl (by decide +kernel) ⟨Nat.le_of_ble_eq_true rfl, Nat.le_of_ble_eq_true rfl⟩) hK (r_recv hK hP 0 (by decide) eN_0 (show vwCl[6]? = some (RX6, TX6, 20) from rfl)) hS hP (fun _ hq => aA_mono hS.1 hq) (fun _ h _ => h) rfl hl.1 rfl (Nat.le_of_ble_eq_true rfl) dX6_absent_2 ⟨Nat.zero_le _, Nat.zero_le _⟩ (fun H locs hP hS => ?_)
  refine lv_if_eq (x := r1) (tgt := 38) hx hb dX6_absent_5 (by decide) (fun q3 => ?_) (fun q3 => ?_)
  · replace h := if_t q3 h
    refine lv_ldc (v := (-1000001)) hx hb hown w65 dX6_absent_38 ?_
    rw [hQz]
    exact r_iret (v := (-1000001)) hx hb hr hlk hS ((Prod.mk.inj (Option.some.inj h)).2 ▸ hP) (Prod.mk.inj (Option.some.inj h)).1 dX6_absent_40
  · replace h := if_f q3 h
    refine lv_iload_n hx hb dX6_absent_8 rfl (lv_at hl 2 rfl) ?_
    refine lv_iconst (v := 0) hx hb dX6_absent_9 (by decide) ?_
    refine lv_bipush (v := 60) hx hb dX6_absent_10 (by decide) ?_
    obtain ⟨r4, e5, h⟩ := bdP_ok h
    refine r_callSi (As := [.int p2, .int 0, .int 60]) (rest := []) (ws' := (wl 14 a (eN g a M))) (ok_X6_in l g p2 0 60 r4 e5) ⟨hx, hb, hml, hown, hts⟩ (cwS 3 hts gX6_absent_X6_in rfl rfl rfl (by decide +kernel) ⟨Nat.le_of_ble_eq_true rfl, Nat.le_of_ble_eq_true rfl⟩) hK hS nilP (P_A hS.1) (fun _ _ hk => wl_keep hP hk) rfl hl.1 rfl (Nat.le_of_ble_eq_true rfl) dX6_absent_12 ⟨Nat.zero_le _, Nat.zero_le _⟩ (fun H locs hP hS => ?_)
    refine lv_if_eq (x := r4) (tgt := 38) hx hb dX6_absent_15 (by decide) (fun q6 => ?_) (fun q6 => ?_)
    · replace h := if_t q6 h
      refine lv_ldc (v := (-1000001)) hx hb hown w65 dX6_absent_38 ?_
      rw [hQz]
      exact r_iret (v := (-1000001)) hx hb hr hlk hS ((Prod.mk.inj (Option.some.inj h)).2 ▸ hP) (Prod.mk.inj (Option.some.inj h)).1 dX6_absent_40
    · replace h := if_f q6 h
      refine lv_iload_n hx hb dX6_absent_18 rfl (lv_at hl 3 rfl) ?_
      refine lv_iconst (v := 0) hx hb dX6_absent_19 (by decide) ?_
      refine lv_bipush (v := 10) hx hb dX6_absent_20 (by decide) ?_
      obtain ⟨r7, e8, h⟩ := bdP_ok h
      refine r_callSi (As := [.int p3, .int 0, .int 10]) (rest := []) (ws' := (wl 14 a (eN g a M))) (ok_X6_in l g p3 0 10 r7 e8) ⟨hx, hb, hml, hown, hts⟩ (cwS 3 hts gX6_absent_X6_in rfl rfl rfl (by decide +kernel) ⟨Nat.le_of_ble_eq_true rfl, Nat.le_of_ble_eq_true rfl⟩) hK hS nilP (P_A hS.1) (fun _ _ hk => wl_keep hP hk) rfl hl.1 rfl (Nat.le_of_ble_eq_true rfl) dX6_absent_22 ⟨Nat.zero_le _, Nat.zero_le _⟩ (fun H locs hP hS => ?_)
      refine lv_if_eq (x := r7) (tgt := 38) hx hb dX6_absent_25 (by decide) (fun q9 => ?_) (fun q9 => ?_)
      · replace h := if_t q9 h
        refine lv_ldc (v := (-1000001)) hx hb hown w65 dX6_absent_38 ?_
        rw [hQz]
        exact r_iret (v := (-1000001)) hx hb hr hlk hS ((Prod.mk.inj (Option.some.inj h)).2 ▸ hP) (Prod.mk.inj (Option.some.inj h)).1 dX6_absent_40
      · replace h := if_f q9 h
        refine lv_iload hx hb dX6_absent_28 (lv_at hl 4 rfl) ?_
        refine lv_iconst (v := 0) hx hb dX6_absent_30 (by decide) ?_
        refine lv_iconst (v := 1) hx hb dX6_absent_31 (by decide) ?_
        obtain ⟨r10, e11, h⟩ := bdP_ok h
        refine r_callSi (As := [.int p4, .int 0, .int 1]) (rest := []) (ws' := (wl 14 a (eN g a M))) (ok_X6_in l g p4 0 1 r10 e11) ⟨hx, hb, hml, hown, hts⟩ (cwS 3 hts gX6_absent_X6_in rfl rfl rfl (by decide +kernel) ⟨Nat.le_of_ble_eq_true rfl, Nat.le_of_ble_eq_true rfl⟩) hK hS nilP (P_A hS.1) (fun _ _ hk => wl_keep hP hk) rfl hl.1 rfl (Nat.le_of_ble_eq_true rfl) dX6_absent_32 ⟨Nat.zero_le _, Nat.zero_le _⟩ (fun H locs hP hS => ?_)
        refine lv_if_ne (x := r10) (tgt := 41) hx hb dX6_absent_35 (by decide) (fun q12 => ?_) (fun q12 => ?_)
        · replace h := if_f q12 h
          refine lv_aload_n hx hb dX6_absent_41 rfl (lv_at hl 0 rfl) ?_
          obtain ⟨r13, e14, h⟩ := bdP_ok h
          refine r_callVi (As := []) (rest := []) (ws' := (wl 14 a (eN g a M))) (ok_X6_queued l g a hI M r13 e14) ⟨hx, hb, hml, hown, hts⟩ (cwV 0 hts gX6_absent_X6_queued rfl rfl rfl (by decide +kernel) ⟨Nat.le_of_ble_eq_true rfl, Nat.le_of_ble_eq_true rfl⟩) hK (r_recv hK hP 0 (by decide) eN_0 (show vwCl[6]? = some (RX6, TX6, 20) from rfl)) hS hP (fun _ hq => aA_mono hS.1 hq) (fun _ h _ => h) rfl hl.1 rfl (Nat.le_of_ble_eq_true rfl) dX6_absent_42 ⟨Nat.zero_le _, Nat.zero_le _⟩ (fun H locs hP hS => ?_)
          refine lv_istore (lv' := [(5, .int r13), (0, .ref (a 0)), (1, .int p1), (2, .int p2), (3, .int p3), (4, .int p4)]) hx hb dX6_absent_45 hl (by decide) rfl (fun ls hl => ?_)
          refine lv_iconst (v := 0) hx hb dX6_absent_47 (by decide) ?_
          refine lv_istore (lv' := [(6, .int 0), (5, .int r13), (0, .ref (a 0)), (1, .int p1), (2, .int p2), (3, .int p3), (4, .int p4)]) hx hb dX6_absent_48 hl (by decide) rfl (fun ls hl => ?_)
          refine lv_iconst (v := 1) hx hb dX6_absent_50 (by decide) ?_
          refine lv_istore (lv' := [(7, .int 1), (6, .int 0), (5, .int r13), (0, .ref (a 0)), (1, .int p1), (2, .int p2), (3, .int p3), (4, .int p4)]) hx hb dX6_absent_51 hl (by decide) rfl (fun ls hl => ?_)
          refine lv_iconst (v := 0) hx hb dX6_absent_53 (by decide) ?_
          refine lv_istore (lv' := [(8, .int 0), (7, .int 1), (6, .int 0), (5, .int r13), (0, .ref (a 0)), (1, .int p1), (2, .int p2), (3, .int p3), (4, .int p4)]) hx hb dX6_absent_54 hl (by decide) rfl (fun ls hl => ?_)
          exact L56 FU r13 0 1 0 M _ _ _ h hP hS (lv_sub hl [4, 5, 6, 7, 8, 3, 2, 1, 0] rfl)
        · replace h := if_t q12 h
          refine lv_ldc (v := (-1000001)) hx hb hown w65 dX6_absent_38 ?_
          rw [hQz]
          exact r_iret (v := (-1000001)) hx hb hr hlk hS ((Prod.mk.inj (Option.some.inj h)).2 ▸ hP) (Prod.mk.inj (Option.some.inj h)).1 dX6_absent_40
def rmX6_drawn : Room := { frames := 5, cells := 0, slots := 0, locals := 157 }
set_option maxHeartbeats 4000000 in
set_option maxRecDepth 100000 in
theorem ok_X6_drawn (l : Launch) (g : gT) (a : Nat → Nat) (hI : ij 14 a) (p1 : Int32) (p2 : Int32) (p3 : Int32) (M : Mem) (M' : Mem) (r : Int32) (h : fX6_drawn p1 p2 p3 M = some (r, M')) : MI l yX6_drawn wsX6_drawn rmX6_drawn g 14 a [.ref (a 0), .int p1, .int p2, .int p3] (wl 14 a (eN g a M)) (wl 14 a (eN g a M')) r := by
  refine MI_of (cc := cX6_drawn) (maxL := 10) (rt := .int) (by decide) rfl (Nat.le_of_ble_eq_true rfl) ?_
  intro p e s m args below meth c ls hx hb hml hr hlk hts hown hK hP hl
  have hown : s.vm.findClass RX6 = some m.cls := hown
  have hl : lv_has ls 10 [(0, .ref (a 0)), (1, .int p1), (2, .int p2), (3, .int p3)] := hl
  have hS : va_S (aA 14 a s.heap.size) s.heap s.heap [] := va_S.rf
  have iX6 : ∀ w ∈ wsX60, w ∈ wsX6_drawn := fun w h => List.mem_cons_of_mem _ (List.mem_append_right _ h)
  have w41 := hts (.fieldLink RX6 41 "StepRidersModel" "then" "[I") (by decide +kernel)
  have w178 := hts (.constantLong RX6 178 (2)) (by decide +kernel)
  have w170 := hts (.constantLong RX6 170 (16807)) (by decide +kernel)
  have w172 := hts (.constantLong RX6 172 (2147483647)) (by decide +kernel)
  have w174 := hts (.constantLong RX6 174 (4)) (by decide +kernel)
  have w176 := hts (.constantLong RX6 176 (3)) (by decide +kernel)
  have w65 := hts (.constant RX6 65 (-1000001)) (by decide +kernel)
  have w169 := hts (.constant RX6 169 (999999)) (by decide +kernel)
  have w136 := hts (.constant RX6 136 (-1000002)) (by decide +kernel)
  obtain ⟨Qz, hQz⟩ : ∃ Qz : State → Prop, Qz = MQ below (qI g (wl 14 a (eN g a M')) r (aA 14 a s.heap.size)) args s 0 0 (aA 14 a s.heap.size) := ⟨_, rfl⟩
  rw [← hQz]
  have B200 : ∀ (x6 : Int32) (M : Mem) (H : Heap) (locs : List Loc) (ls : Array Slot), fX6_drawn_b200 p1 p2 p3 x6 M = some (r, M') → va_P g.1 vwCl (wl 14 a (eN g a M)) H → va_S (aA 14 a s.heap.size) s.heap H locs → lv_has ls 10 [(0, .ref (a 0)), (1, .int p1), (2, .int p2), (3, .int p3), (6, .int x6)] → W p l e rmX6_drawn s m args below meth c H locs 0 0 Qz (F0 m 200 ls []) := by
    intro x6 M H locs ls h hP hS hl
    unfold fX6_drawn_b200 at h
    refine lv_iload_n hx hb dX6_drawn_200 rfl (lv_at hl 3 rfl) ?_
    refine lv_if_ne (x := p3) (tgt := 209) hx hb dX6_drawn_201 (by decide) (fun q1 => ?_) (fun q1 => ?_)
    · replace h := if_f q1 h
      refine lv_aload_n hx hb dX6_drawn_209 rfl (lv_at hl 0 rfl) ?_
      refine r_get (v := .ref (a 11)) hx hb hts iX6 hown hK hP 0 (by decide) eN_0 rfl 14 (by decide) w41 rfl dX6_drawn_210 ?_
      obtain ⟨r2, e3, h⟩ := bdP_ok h
      refine r_callSi (As := [.ref (a 11)]) (rest := []) (ws' := (wl 14 a (eN g a M))) (ok_X6_offIn l g (fun _ => a 11) C_ij (gC M 11) r2 e3) ⟨hx, hb, hml, hown, hts⟩ (cwS 1 hts gX6_drawn_X6_offIn rfl rfl rfl (by decide +kernel) ⟨Nat.le_of_ble_eq_true rfl, Nat.le_of_ble_eq_true rfl⟩) hK hS (C_cut (c := 11) (by decide) hP) (C_A (c := 11) (by decide) hS.1) (C_keep (c := 11) (by decide) hI hP) rfl hl.1 rfl (Nat.le_of_ble_eq_true rfl) dX6_drawn_213 ⟨Nat.zero_le _, Nat.zero_le _⟩ (fun H locs hP hS => ?_)
      rw [hQz]
      exact r_iret (v := r2) hx hb hr hlk hS ((Prod.mk.inj (Option.some.inj h)).2 ▸ hP) (Prod.mk.inj (Option.some.inj h)).1 dX6_drawn_216
    · replace h := if_t q1 h
      refine lv_iload hx hb dX6_drawn_204 (lv_at hl 4 rfl) ?_
      refine lv_goto (tgt := 216) hx hb dX6_drawn_206 (by decide) ?_
      rw [hQz]
      exact r_iret (v := x6) hx hb hr hlk hS ((Prod.mk.inj (Option.some.inj h)).2 ▸ hP) (Prod.mk.inj (Option.some.inj h)).1 dX6_drawn_216
  have B162 : ∀ (k56 : Int64 → Int32 → Int32 → Mem → Option (Int32 × Mem)) (C56 : ∀ (x4 : Int64) (x6 : Int32) (x7 : Int32) (M : Mem) (H : Heap) (locs : List Loc) (ls : Array Slot), k56 x4 x6 x7 M = some (r, M') → va_P g.1 vwCl (wl 14 a (eN g a M)) H → va_S (aA 14 a s.heap.size) s.heap H locs → lv_has ls 10 [(0, .ref (a 0)), (1, .int p1), (2, .int p2), (3, .int p3), (4, .long x4), (6, .int x6), (7, .int x7)] → W p l e rmX6_drawn s m args below meth c H locs 0 0 Qz (F0 m 56 ls [])), ∀ (x4 : Int64) (x6 : Int32) (x7 : Int32) (M : Mem) (H : Heap) (locs : List Loc) (ls : Array Slot), fX6_drawn_b162 p1 p2 p3 k56 x4 x6 x7 M = some (r, M') → va_P g.1 vwCl (wl 14 a (eN g a M)) H → va_S (aA 14 a s.heap.size) s.heap H locs → lv_has ls 10 [(0, .ref (a 0)), (1, .int p1), (2, .int p2), (3, .int p3), (4, .long x4), (6, .int x6), (7, .int x7)] → W p l e rmX6_drawn s m args below meth c H locs 0 0 Qz (F0 m 162 ls []) := by
    intro k56 C56 x4 x6 x7 M H locs ls h hP hS hl
    unfold fX6_drawn_b162 at h
    refine lv_aload_n hx hb dX6_drawn_162 rfl (lv_at hl 0 rfl) ?_
    refine r_get (v := .ref (a 11)) hx hb hts iX6 hown hK hP 0 (by decide) eN_0 rfl 14 (by decide) w41 rfl dX6_drawn_163 ?_
    obtain ⟨r1, e2, h⟩ := bdP_ok h
    refine r_callSi (As := [.ref (a 11)]) (rest := []) (ws' := (wl 14 a (eN g a M))) (ok_X6_offIn l g (fun _ => a 11) C_ij (gC M 11) r1 e2) ⟨hx, hb, hml, hown, hts⟩ (cwS 1 hts gX6_drawn_X6_offIn rfl rfl rfl (by decide +kernel) ⟨Nat.le_of_ble_eq_true rfl, Nat.le_of_ble_eq_true rfl⟩) hK hS (C_cut (c := 11) (by decide) hP) (C_A (c := 11) (by decide) hS.1) (C_keep (c := 11) (by decide) hI hP) rfl hl.1 rfl (Nat.le_of_ble_eq_true rfl) dX6_drawn_166 ⟨Nat.zero_le _, Nat.zero_le _⟩ (fun H locs hP hS => ?_)
    refine lv_istore (lv' := [(9, .int r1), (0, .ref (a 0)), (1, .int p1), (2, .int p2), (3, .int p3), (4, .long x4), (6, .int x6), (7, .int x7)]) hx hb dX6_drawn_169 hl (by decide) rfl (fun ls hl => ?_)
    refine lv_aload_n hx hb dX6_drawn_171 rfl (lv_at hl 1 rfl) ?_
    refine lv_aload_n hx hb dX6_drawn_172 rfl (lv_at hl 1 rfl) ?_
    refine r_get (v := .ref (a 11)) hx hb hts iX6 hown hK hP 0 (by decide) eN_0 rfl 14 (by decide) w41 rfl dX6_drawn_173 ?_
    obtain ⟨M5, e4, h⟩ := bdV_ok h
    refine r_callVv (As := [.ref (a 11)]) (rest := []) (ws' := (wl 14 a (eN g a M5))) (ok_X6_tick l g a hI 11 M M5 (by decide) e4) ⟨hx, hb, hml, hown, hts⟩ (cwV 1 hts gX6_drawn_X6_tick rfl rfl rfl (by decide +kernel) ⟨Nat.le_of_ble_eq_true rfl, Nat.le_of_ble_eq_true rfl⟩) hK (r_recv hK hP 0 (by decide) eN_0 (show vwCl[6]? = some (RX6, TX6, 20) from rfl)) hS hP (fun _ hq => aA_mono hS.1 hq) (fun _ h _ => h) rfl hl.1 rfl (Nat.le_of_ble_eq_true rfl) dX6_drawn_176 ⟨Nat.zero_le _, Nat.zero_le _⟩ (fun H locs hP hS => ?_)
    refine lv_iload hx hb dX6_drawn_179 (lv_at hl 6 rfl) ?_
    refine lv_aload_n hx hb dX6_drawn_181 rfl (lv_at hl 1 rfl) ?_
    refine r_get (v := .ref (a 11)) hx hb hts iX6 hown hK hP 0 (by decide) eN_0 rfl 14 (by decide) w41 rfl dX6_drawn_182 ?_
    obtain ⟨r6, e7, h⟩ := bdP_ok h
    refine r_callSi (As := [.ref (a 11)]) (rest := [.int x6]) (ws' := (wl 14 a (eN g a M5))) (ok_X6_offIn l g (fun _ => a 11) C_ij (gC M5 11) r6 e7) ⟨hx, hb, hml, hown, hts⟩ (cwS 1 hts gX6_drawn_X6_offIn rfl rfl rfl (by decide +kernel) ⟨Nat.le_of_ble_eq_true rfl, Nat.le_of_ble_eq_true rfl⟩) hK hS (C_cut (c := 11) (by decide) hP) (C_A (c := 11) (by decide) hS.1) (C_keep (c := 11) (by decide) hI hP) rfl hl.1 rfl (Nat.le_of_ble_eq_true rfl) dX6_drawn_185 ⟨Nat.zero_le _, Nat.zero_le _⟩ (fun H locs hP hS => ?_)
    refine lv_iload hx hb dX6_drawn_188 (lv_at hl 0 rfl) ?_
    refine lv_isub (x := r6) (y := r1) hx hb dX6_drawn_190 ?_
    refine lv_iadd (x := x6) (y := (r6 - r1)) hx hb dX6_drawn_191 ?_
    refine lv_istore (lv' := [(6, .int (x6 + (r6 - r1))), (9, .int r1), (0, .ref (a 0)), (1, .int p1), (2, .int p2), (3, .int p3), (4, .long x4), (7, .int x7)]) hx hb dX6_drawn_192 hl (by decide) rfl (fun ls hl => ?_)
    refine lv_iinc (v := (x7 + 1)) (lv' := [(7, .int (x7 + 1)), (6, .int (x6 + (r6 - r1))), (9, .int r1), (0, .ref (a 0)), (1, .int p1), (2, .int p2), (3, .int p3), (4, .long x4)]) hx hb dX6_drawn_194 hl (k := 7) rfl rfl (by decide) rfl (fun ls hl => ?_)
    refine lv_goto (tgt := 56) hx hb dX6_drawn_197 (by decide) ?_
    exact C56 x4 (x6 + (r6 - r1)) (x7 + 1) M5 _ _ _ h hP hS (lv_sub hl [3, 4, 5, 6, 7, 1, 0] rfl)
  have B106 : ∀ (k56 : Int64 → Int32 → Int32 → Mem → Option (Int32 × Mem)) (C56 : ∀ (x4 : Int64) (x6 : Int32) (x7 : Int32) (M : Mem) (H : Heap) (locs : List Loc) (ls : Array Slot), k56 x4 x6 x7 M = some (r, M') → va_P g.1 vwCl (wl 14 a (eN g a M)) H → va_S (aA 14 a s.heap.size) s.heap H locs → lv_has ls 10 [(0, .ref (a 0)), (1, .int p1), (2, .int p2), (3, .int p3), (4, .long x4), (6, .int x6), (7, .int x7)] → W p l e rmX6_drawn s m args below meth c H locs 0 0 Qz (F0 m 56 ls [])), ∀ (x4 : Int64) (x6 : Int32) (x7 : Int32) (s0 : Int32) (s1 : Int32) (M : Mem) (H : Heap) (locs : List Loc) (ls : Array Slot), fX6_drawn_b106 p1 p2 p3 k56 x4 x6 x7 s0 s1 M = some (r, M') → va_P g.1 vwCl (wl 14 a (eN g a M)) H → va_S (aA 14 a s.heap.size) s.heap H locs → lv_has ls 10 [(0, .ref (a 0)), (1, .int p1), (2, .int p2), (3, .int p3), (4, .long x4), (6, .int x6), (7, .int x7)] → W p l e rmX6_drawn s m args below meth c H locs 0 0 Qz (F0 m 106 ls [.int s0, .int s1, .ref (a 11)]) := by
    intro k56 C56 x4 x6 x7 s0 s1 M H locs ls h hP hS hl
    unfold fX6_drawn_b106 at h
    obtain ⟨q1, h⟩ := chk_ok h
    refine r_iast (i := s1) (x := s0) (h := M 11) (f' := eN g a (mp M 11 (Int32.toNatClampNeg s1) s0)) hx hb hK hI (fun _ h => aA_in h) hP hS 11 (by decide) rfl q1 (eN_ua (fun _ => rfl)) dX6_drawn_106 (fun H locs hP hS => ?_)
    refine lv_lload hx hb dX6_drawn_107 (lv_at hl 4 rfl) ?_
    refine lv_aload_n hx hb dX6_drawn_109 rfl (lv_at hl 0 rfl) ?_
    refine r_get (v := .ref (a 11)) hx hb hts iX6 hown hK hP 0 (by decide) eN_0 rfl 14 (by decide) w41 rfl dX6_drawn_110 ?_
    refine lv_bipush (v := 17) hx hb dX6_drawn_113 (by decide) ?_
    obtain ⟨q2, h⟩ := chk_ok h
    refine r_iald (i := 17) (h := (mp M 11 (Int32.toNatClampNeg s1) s0) 11) hx hb hK hP 11 (by decide) rfl q2 dX6_drawn_115 ?_
    refine lv_i2l (x := ((mp M 11 (Int32.toNatClampNeg s1) s0) 11 (Int32.toNatClampNeg 17))) hx hb dX6_drawn_116 rfl ?_
    obtain ⟨q3, h⟩ := chk_ok h
    refine lv_lrem (x := x4) (y := (Int32.toInt64 ((mp M 11 (Int32.toNatClampNeg s1) s0) 11 (Int32.toNatClampNeg 17)))) hx hb dX6_drawn_117 (of_decide_eq_true q3) ?_
    refine lv_l2i (x := (x4 - x4 / (Int32.toInt64 ((mp M 11 (Int32.toNatClampNeg s1) s0) 11 (Int32.toNatClampNeg 17))) * (Int32.toInt64 ((mp M 11 (Int32.toNatClampNeg s1) s0) 11 (Int32.toNatClampNeg 17))))) hx hb dX6_drawn_118 rfl ?_
    refine lv_istore (lv' := [(8, .int (Int64.toInt32 (x4 - x4 / (Int32.toInt64 ((mp M 11 (Int32.toNatClampNeg s1) s0) 11 (Int32.toNatClampNeg 17))) * (Int32.toInt64 ((mp M 11 (Int32.toNatClampNeg s1) s0) 11 (Int32.toNatClampNeg 17)))))), (0, .ref (a 0)), (1, .int p1), (2, .int p2), (3, .int p3), (4, .long x4), (6, .int x6), (7, .int x7)]) hx hb dX6_drawn_119 hl (by decide) rfl (fun ls hl => ?_)
    refine lv_aload_n hx hb dX6_drawn_121 rfl (lv_at hl 1 rfl) ?_
    refine r_get (v := .ref (a 11)) hx hb hts iX6 hown hK hP 0 (by decide) eN_0 rfl 14 (by decide) w41 rfl dX6_drawn_122 ?_
    refine lv_iconst (v := 2) hx hb dX6_drawn_125 (by decide) ?_
    refine lv_iload hx hb dX6_drawn_126 (lv_at hl 0 rfl) ?_
    refine lv_iadd (x := 2) (y := (Int64.toInt32 (x4 - x4 / (Int32.toInt64 ((mp M 11 (Int32.toNatClampNeg s1) s0) 11 (Int32.toNatClampNeg 17))) * (Int32.toInt64 ((mp M 11 (Int32.toNatClampNeg s1) s0) 11 (Int32.toNatClampNeg 17)))))) hx hb dX6_drawn_128 ?_
    obtain ⟨q4, h⟩ := chk_ok h
    refine r_iald (i := (2 + (Int64.toInt32 (x4 - x4 / (Int32.toInt64 ((mp M 11 (Int32.toNatClampNeg s1) s0) 11 (Int32.toNatClampNeg 17))) * (Int32.toInt64 ((mp M 11 (Int32.toNatClampNeg s1) s0) 11 (Int32.toNatClampNeg 17))))))) (h := (mp M 11 (Int32.toNatClampNeg s1) s0) 11) hx hb hK hP 11 (by decide) rfl q4 dX6_drawn_129 ?_
    refine lv_bipush (v := 99) hx hb dX6_drawn_130 (by decide) ?_
    refine lv_icmp_ne (x := ((mp M 11 (Int32.toNatClampNeg s1) s0) 11 (Int32.toNatClampNeg (2 + (Int64.toInt32 (x4 - x4 / (Int32.toInt64 ((mp M 11 (Int32.toNatClampNeg s1) s0) 11 (Int32.toNatClampNeg 17))) * (Int32.toInt64 ((mp M 11 (Int32.toNatClampNeg s1) s0) 11 (Int32.toNatClampNeg 17))))))))) (y := 99) (tgt := 162) hx hb dX6_drawn_132 (by decide) (fun q5 => ?_) (fun q5 => ?_)
    · replace h := if_f q5 h
      exact B162 k56 C56 x4 x6 x7 (mp M 11 (Int32.toNatClampNeg s1) s0) _ _ _ h hP hS (lv_sub hl [1, 2, 3, 4, 5, 6, 7] rfl)
    · replace h := if_t q5 h
      refine lv_aload_n hx hb dX6_drawn_135 rfl (lv_at hl 1 rfl) ?_
      refine r_get (v := .ref (a 11)) hx hb hts iX6 hown hK hP 0 (by decide) eN_0 rfl 14 (by decide) w41 rfl dX6_drawn_136 ?_
      refine lv_iconst (v := 2) hx hb dX6_drawn_139 (by decide) ?_
      refine lv_iload hx hb dX6_drawn_140 (lv_at hl 0 rfl) ?_
      refine lv_iadd (x := 2) (y := (Int64.toInt32 (x4 - x4 / (Int32.toInt64 ((mp M 11 (Int32.toNatClampNeg s1) s0) 11 (Int32.toNatClampNeg 17))) * (Int32.toInt64 ((mp M 11 (Int32.toNatClampNeg s1) s0) 11 (Int32.toNatClampNeg 17)))))) hx hb dX6_drawn_142 ?_
      refine lv_iconst (v := (-1)) hx hb dX6_drawn_143 (by decide) ?_
      obtain ⟨q6, h⟩ := chk_ok h
      refine r_iast (i := (2 + (Int64.toInt32 (x4 - x4 / (Int32.toInt64 ((mp M 11 (Int32.toNatClampNeg s1) s0) 11 (Int32.toNatClampNeg 17))) * (Int32.toInt64 ((mp M 11 (Int32.toNatClampNeg s1) s0) 11 (Int32.toNatClampNeg 17))))))) (x := (-1)) (h := (mp M 11 (Int32.toNatClampNeg s1) s0) 11) (f' := eN g a (mp (mp M 11 (Int32.toNatClampNeg s1) s0) 11 (Int32.toNatClampNeg (2 + (Int64.toInt32 (x4 - x4 / (Int32.toInt64 ((mp M 11 (Int32.toNatClampNeg s1) s0) 11 (Int32.toNatClampNeg 17))) * (Int32.toInt64 ((mp M 11 (Int32.toNatClampNeg s1) s0) 11 (Int32.toNatClampNeg 17))))))) (-1))) hx hb hK hI (fun _ h => aA_in h) hP hS 11 (by decide) rfl q6 (eN_ua (fun _ => rfl)) dX6_drawn_144 (fun H locs hP hS => ?_)
      refine lv_aload_n hx hb dX6_drawn_145 rfl (lv_at hl 1 rfl) ?_
      refine r_get (v := .ref (a 11)) hx hb hts iX6 hown hK hP 0 (by decide) eN_0 rfl 14 (by decide) w41 rfl dX6_drawn_146 ?_
      refine lv_bipush (v := 9) hx hb dX6_drawn_149 (by decide) ?_
      refine lv_iload hx hb dX6_drawn_151 (lv_at hl 0 rfl) ?_
      refine lv_iadd (x := 9) (y := (Int64.toInt32 (x4 - x4 / (Int32.toInt64 ((mp M 11 (Int32.toNatClampNeg s1) s0) 11 (Int32.toNatClampNeg 17))) * (Int32.toInt64 ((mp M 11 (Int32.toNatClampNeg s1) s0) 11 (Int32.toNatClampNeg 17)))))) hx hb dX6_drawn_153 ?_
      refine lv_lload hx hb dX6_drawn_154 (lv_at hl 5 rfl) ?_
      refine lv_ldc2 (v := 2) hx hb hown w178 dX6_drawn_156 ?_
      refine lv_lrem (x := x4) (y := 2) hx hb dX6_drawn_159 (by decide) ?_
      refine lv_l2i (x := (x4 - x4 / 2 * 2)) hx hb dX6_drawn_160 rfl ?_
      obtain ⟨q7, h⟩ := chk_ok h
      refine r_iast (i := (9 + (Int64.toInt32 (x4 - x4 / (Int32.toInt64 ((mp M 11 (Int32.toNatClampNeg s1) s0) 11 (Int32.toNatClampNeg 17))) * (Int32.toInt64 ((mp M 11 (Int32.toNatClampNeg s1) s0) 11 (Int32.toNatClampNeg 17))))))) (x := (Int64.toInt32 (x4 - x4 / 2 * 2))) (h := (mp (mp M 11 (Int32.toNatClampNeg s1) s0) 11 (Int32.toNatClampNeg (2 + (Int64.toInt32 (x4 - x4 / (Int32.toInt64 ((mp M 11 (Int32.toNatClampNeg s1) s0) 11 (Int32.toNatClampNeg 17))) * (Int32.toInt64 ((mp M 11 (Int32.toNatClampNeg s1) s0) 11 (Int32.toNatClampNeg 17))))))) (-1)) 11) (f' := eN g a (mp (mp (mp M 11 (Int32.toNatClampNeg s1) s0) 11 (Int32.toNatClampNeg (2 + (Int64.toInt32 (x4 - x4 / (Int32.toInt64 ((mp M 11 (Int32.toNatClampNeg s1) s0) 11 (Int32.toNatClampNeg 17))) * (Int32.toInt64 ((mp M 11 (Int32.toNatClampNeg s1) s0) 11 (Int32.toNatClampNeg 17))))))) (-1)) 11 (Int32.toNatClampNeg (9 + (Int64.toInt32 (x4 - x4 / (Int32.toInt64 ((mp M 11 (Int32.toNatClampNeg s1) s0) 11 (Int32.toNatClampNeg 17))) * (Int32.toInt64 ((mp M 11 (Int32.toNatClampNeg s1) s0) 11 (Int32.toNatClampNeg 17))))))) (Int64.toInt32 (x4 - x4 / 2 * 2)))) hx hb hK hI (fun _ h => aA_in h) hP hS 11 (by decide) rfl q7 (eN_ua (fun _ => rfl)) dX6_drawn_161 (fun H locs hP hS => ?_)
      exact B162 k56 C56 x4 x6 x7 (mp (mp (mp M 11 (Int32.toNatClampNeg s1) s0) 11 (Int32.toNatClampNeg (2 + (Int64.toInt32 (x4 - x4 / (Int32.toInt64 ((mp M 11 (Int32.toNatClampNeg s1) s0) 11 (Int32.toNatClampNeg 17))) * (Int32.toInt64 ((mp M 11 (Int32.toNatClampNeg s1) s0) 11 (Int32.toNatClampNeg 17))))))) (-1)) 11 (Int32.toNatClampNeg (9 + (Int64.toInt32 (x4 - x4 / (Int32.toInt64 ((mp M 11 (Int32.toNatClampNeg s1) s0) 11 (Int32.toNatClampNeg 17))) * (Int32.toInt64 ((mp M 11 (Int32.toNatClampNeg s1) s0) 11 (Int32.toNatClampNeg 17))))))) (Int64.toInt32 (x4 - x4 / 2 * 2))) _ _ _ h hP hS (lv_sub hl [1, 2, 3, 4, 5, 6, 7] rfl)
  have B56 : ∀ (k56 : Int64 → Int32 → Int32 → Mem → Option (Int32 × Mem)) (C56 : ∀ (x4 : Int64) (x6 : Int32) (x7 : Int32) (M : Mem) (H : Heap) (locs : List Loc) (ls : Array Slot), k56 x4 x6 x7 M = some (r, M') → va_P g.1 vwCl (wl 14 a (eN g a M)) H → va_S (aA 14 a s.heap.size) s.heap H locs → lv_has ls 10 [(0, .ref (a 0)), (1, .int p1), (2, .int p2), (3, .int p3), (4, .long x4), (6, .int x6), (7, .int x7)] → W p l e rmX6_drawn s m args below meth c H locs 0 0 Qz (F0 m 56 ls [])), ∀ (x4 : Int64) (x6 : Int32) (x7 : Int32) (M : Mem) (H : Heap) (locs : List Loc) (ls : Array Slot), fX6_drawn_b56 p1 p2 p3 k56 x4 x6 x7 M = some (r, M') → va_P g.1 vwCl (wl 14 a (eN g a M)) H → va_S (aA 14 a s.heap.size) s.heap H locs → lv_has ls 10 [(0, .ref (a 0)), (1, .int p1), (2, .int p2), (3, .int p3), (4, .long x4), (6, .int x6), (7, .int x7)] → W p l e rmX6_drawn s m args below meth c H locs 0 0 Qz (F0 m 56 ls []) := by
    intro k56 C56 x4 x6 x7 M H locs ls h hP hS hl
    unfold fX6_drawn_b56 at h
    refine lv_iload hx hb dX6_drawn_56 (lv_at hl 6 rfl) ?_
    refine lv_iload_n hx hb dX6_drawn_58 rfl (lv_at hl 1 rfl) ?_
    refine lv_icmp_ge (x := x7) (y := p1) (tgt := 200) hx hb dX6_drawn_59 (by decide) (fun q1 => ?_) (fun q1 => ?_)
    · replace h := if_t q1 h
      exact B200 x6 M _ _ _ h hP hS (lv_sub hl [0, 1, 2, 3, 5] rfl)
    · replace h := if_f q1 h
      refine lv_lload hx hb dX6_drawn_62 (lv_at hl 4 rfl) ?_
      refine lv_ldc2 (v := 16807) hx hb hown w170 dX6_drawn_64 ?_
      refine lv_lmul (x := x4) (y := 16807) hx hb dX6_drawn_67 ?_
      refine lv_ldc2 (v := 2147483647) hx hb hown w172 dX6_drawn_68 ?_
      refine lv_lrem (x := (x4 * 16807)) (y := 2147483647) hx hb dX6_drawn_71 (by decide) ?_
      refine lv_lstore (lv' := [(4, .long ((x4 * 16807) - (x4 * 16807) / 2147483647 * 2147483647)), (0, .ref (a 0)), (1, .int p1), (2, .int p2), (3, .int p3), (6, .int x6), (7, .int x7)]) hx hb dX6_drawn_72 hl (by decide) rfl (fun ls hl => ?_)
      refine lv_aload_n hx hb dX6_drawn_74 rfl (lv_at hl 1 rfl) ?_
      refine r_get (v := .ref (a 11)) hx hb hts iX6 hown hK hP 0 (by decide) eN_0 rfl 14 (by decide) w41 rfl dX6_drawn_75 ?_
      refine lv_iconst (v := 1) hx hb dX6_drawn_78 (by decide) ?_
      refine lv_lload hx hb dX6_drawn_79 (lv_at hl 0 rfl) ?_
      refine lv_ldc2 (v := 4) hx hb hown w174 dX6_drawn_81 ?_
      refine lv_lrem (x := ((x4 * 16807) - (x4 * 16807) / 2147483647 * 2147483647)) (y := 4) hx hb dX6_drawn_84 (by decide) ?_
      refine lv_lconst (v := 0) hx hb dX6_drawn_85 (by decide) ?_
      refine W.lcmp (x := (((x4 * 16807) - (x4 * 16807) / 2147483647 * 2147483647) - ((x4 * 16807) - (x4 * 16807) / 2147483647 * 2147483647) / 4 * 4)) (y := 0) hx hb dX6_drawn_86 ?_
      refine lv_if_ne (x := (lg_cmp (((x4 * 16807) - (x4 * 16807) / 2147483647 * 2147483647) - ((x4 * 16807) - (x4 * 16807) / 2147483647 * 2147483647) / 4 * 4) 0)) (tgt := 100) hx hb dX6_drawn_87 (by decide) (fun q2 => ?_) (fun q2 => ?_)
      · replace h := if_f q2 h
        refine lv_aload_n hx hb dX6_drawn_100 rfl (lv_at hl 1 rfl) ?_
        refine r_get (v := .ref (a 11)) hx hb hts iX6 hown hK hP 0 (by decide) eN_0 rfl 14 (by decide) w41 rfl dX6_drawn_101 ?_
        refine lv_iconst (v := 1) hx hb dX6_drawn_104 (by decide) ?_
        obtain ⟨q3, h⟩ := chk_ok h
        refine r_iald (i := 1) (h := M 11) hx hb hK hP 11 (by decide) rfl q3 dX6_drawn_105 ?_
        exact B106 k56 C56 ((x4 * 16807) - (x4 * 16807) / 2147483647 * 2147483647) x6 x7 (M 11 (Int32.toNatClampNeg 1)) 1 M _ _ _ h hP hS (lv_sub hl [1, 2, 3, 4, 0, 5, 6] rfl)
      · replace h := if_t q2 h
        refine lv_lload hx hb dX6_drawn_90 (lv_at hl 0 rfl) ?_
        refine lv_ldc2 (v := 3) hx hb hown w176 dX6_drawn_92 ?_
        refine lv_lrem (x := ((x4 * 16807) - (x4 * 16807) / 2147483647 * 2147483647)) (y := 3) hx hb dX6_drawn_95 (by decide) ?_
        refine lv_l2i (x := (((x4 * 16807) - (x4 * 16807) / 2147483647 * 2147483647) - ((x4 * 16807) - (x4 * 16807) / 2147483647 * 2147483647) / 3 * 3)) hx hb dX6_drawn_96 rfl ?_
        refine lv_goto (tgt := 106) hx hb dX6_drawn_97 (by decide) ?_
        exact B106 k56 C56 ((x4 * 16807) - (x4 * 16807) / 2147483647 * 2147483647) x6 x7 (Int64.toInt32 (((x4 * 16807) - (x4 * 16807) / 2147483647 * 2147483647) - ((x4 * 16807) - (x4 * 16807) / 2147483647 * 2147483647) / 3 * 3)) 1 M _ _ _ h hP hS (lv_sub hl [1, 2, 3, 4, 0, 5, 6] rfl)
  have L56 : ∀ (n : Nat), ∀ (x4 : Int64) (x6 : Int32) (x7 : Int32) (M : Mem) (H : Heap) (locs : List Loc) (ls : Array Slot), fX6_drawn_l56 p1 p2 p3 n x4 x6 x7 M = some (r, M') → va_P g.1 vwCl (wl 14 a (eN g a M)) H → va_S (aA 14 a s.heap.size) s.heap H locs → lv_has ls 10 [(0, .ref (a 0)), (1, .int p1), (2, .int p2), (3, .int p3), (4, .long x4), (6, .int x6), (7, .int x7)] → W p l e rmX6_drawn s m args below meth c H locs 0 0 Qz (F0 m 56 ls []) := by
    intro n
    induction n with
    | zero => intro x4 x6 x7 M H locs ls h; exact absurd (show (none : Option (Int32 × Mem)) = some _ from h) (fun z => by cases z)
    | succ n ih => exact fun x4 x6 x7 M H locs ls h hP hS hl => B56 (fX6_drawn_l56 p1 p2 p3 n) ih x4 x6 x7 M H locs ls h hP hS hl
  unfold fX6_drawn at h
  refine lv_aload_n hx hb dX6_drawn_0 rfl (lv_at hl 0 rfl) ?_
  obtain ⟨r1, e2, h⟩ := bdP_ok h
  refine r_callVi (As := []) (rest := []) (ws' := (wl 14 a (eN g a M))) (ok_X6_isStair l g a hI M r1 e2) ⟨hx, hb, hml, hown, hts⟩ (cwV 0 hts gX6_drawn_X6_isStair rfl rfl rfl (by decide +kernel) ⟨Nat.le_of_ble_eq_true rfl, Nat.le_of_ble_eq_true rfl⟩) hK (r_recv hK hP 0 (by decide) eN_0 (show vwCl[6]? = some (RX6, TX6, 20) from rfl)) hS hP (fun _ hq => aA_mono hS.1 hq) (fun _ h _ => h) rfl hl.1 rfl (Nat.le_of_ble_eq_true rfl) dX6_drawn_1 ⟨Nat.zero_le _, Nat.zero_le _⟩ (fun H locs hP hS => ?_)
  refine lv_if_ne (x := r1) (tgt := 10) hx hb dX6_drawn_4 (by decide) (fun q3 => ?_) (fun q3 => ?_)
  · replace h := if_f q3 h
    refine lv_iload_n hx hb dX6_drawn_10 rfl (lv_at hl 1 rfl) ?_
    refine lv_iconst (v := 0) hx hb dX6_drawn_11 (by decide) ?_
    refine lv_bipush (v := 60) hx hb dX6_drawn_12 (by decide) ?_
    obtain ⟨r4, e5, h⟩ := bdP_ok h
    refine r_callSi (As := [.int p1, .int 0, .int 60]) (rest := []) (ws' := (wl 14 a (eN g a M))) (ok_X6_in l g p1 0 60 r4 e5) ⟨hx, hb, hml, hown, hts⟩ (cwS 3 hts gX6_drawn_X6_in rfl rfl rfl (by decide +kernel) ⟨Nat.le_of_ble_eq_true rfl, Nat.le_of_ble_eq_true rfl⟩) hK hS nilP (P_A hS.1) (fun _ _ hk => wl_keep hP hk) rfl hl.1 rfl (Nat.le_of_ble_eq_true rfl) dX6_drawn_14 ⟨Nat.zero_le _, Nat.zero_le _⟩ (fun H locs hP hS => ?_)
    refine lv_if_eq (x := r4) (tgt := 39) hx hb dX6_drawn_17 (by decide) (fun q6 => ?_) (fun q6 => ?_)
    · replace h := if_t q6 h
      refine lv_ldc (v := (-1000001)) hx hb hown w65 dX6_drawn_39 ?_
      rw [hQz]
      exact r_iret (v := (-1000001)) hx hb hr hlk hS ((Prod.mk.inj (Option.some.inj h)).2 ▸ hP) (Prod.mk.inj (Option.some.inj h)).1 dX6_drawn_41
    · replace h := if_f q6 h
      refine lv_iload_n hx hb dX6_drawn_20 rfl (lv_at hl 2 rfl) ?_
      refine lv_iconst (v := 1) hx hb dX6_drawn_21 (by decide) ?_
      refine lv_ldc (v := 999999) hx hb hown w169 dX6_drawn_22 ?_
      obtain ⟨r7, e8, h⟩ := bdP_ok h
      refine r_callSi (As := [.int p2, .int 1, .int 999999]) (rest := []) (ws' := (wl 14 a (eN g a M))) (ok_X6_in l g p2 1 999999 r7 e8) ⟨hx, hb, hml, hown, hts⟩ (cwS 3 hts gX6_drawn_X6_in rfl rfl rfl (by decide +kernel) ⟨Nat.le_of_ble_eq_true rfl, Nat.le_of_ble_eq_true rfl⟩) hK hS nilP (P_A hS.1) (fun _ _ hk => wl_keep hP hk) rfl hl.1 rfl (Nat.le_of_ble_eq_true rfl) dX6_drawn_24 ⟨Nat.zero_le _, Nat.zero_le _⟩ (fun H locs hP hS => ?_)
      refine lv_if_eq (x := r7) (tgt := 39) hx hb dX6_drawn_27 (by decide) (fun q9 => ?_) (fun q9 => ?_)
      · replace h := if_t q9 h
        refine lv_ldc (v := (-1000001)) hx hb hown w65 dX6_drawn_39 ?_
        rw [hQz]
        exact r_iret (v := (-1000001)) hx hb hr hlk hS ((Prod.mk.inj (Option.some.inj h)).2 ▸ hP) (Prod.mk.inj (Option.some.inj h)).1 dX6_drawn_41
      · replace h := if_f q9 h
        refine lv_iload_n hx hb dX6_drawn_30 rfl (lv_at hl 3 rfl) ?_
        refine lv_iconst (v := 0) hx hb dX6_drawn_31 (by decide) ?_
        refine lv_iconst (v := 1) hx hb dX6_drawn_32 (by decide) ?_
        obtain ⟨r10, e11, h⟩ := bdP_ok h
        refine r_callSi (As := [.int p3, .int 0, .int 1]) (rest := []) (ws' := (wl 14 a (eN g a M))) (ok_X6_in l g p3 0 1 r10 e11) ⟨hx, hb, hml, hown, hts⟩ (cwS 3 hts gX6_drawn_X6_in rfl rfl rfl (by decide +kernel) ⟨Nat.le_of_ble_eq_true rfl, Nat.le_of_ble_eq_true rfl⟩) hK hS nilP (P_A hS.1) (fun _ _ hk => wl_keep hP hk) rfl hl.1 rfl (Nat.le_of_ble_eq_true rfl) dX6_drawn_33 ⟨Nat.zero_le _, Nat.zero_le _⟩ (fun H locs hP hS => ?_)
        refine lv_if_ne (x := r10) (tgt := 42) hx hb dX6_drawn_36 (by decide) (fun q12 => ?_) (fun q12 => ?_)
        · replace h := if_f q12 h
          refine lv_aload_n hx hb dX6_drawn_42 rfl (lv_at hl 0 rfl) ?_
          obtain ⟨M15, e14, h⟩ := bdV_ok h
          refine r_callVv (As := []) (rest := []) (ws' := (wl 14 a (eN g a M15))) (ok_X6_starts l g a hI M M15 e14) ⟨hx, hb, hml, hown, hts⟩ (cwV 0 hts gX6_drawn_X6_starts rfl rfl rfl (by decide +kernel) ⟨Nat.le_of_ble_eq_true rfl, Nat.le_of_ble_eq_true rfl⟩) hK (r_recv hK hP 0 (by decide) eN_0 (show vwCl[6]? = some (RX6, TX6, 20) from rfl)) hS hP (fun _ hq => aA_mono hS.1 hq) (fun _ h _ => h) rfl hl.1 rfl (Nat.le_of_ble_eq_true rfl) dX6_drawn_43 ⟨Nat.zero_le _, Nat.zero_le _⟩ (fun H locs hP hS => ?_)
          refine lv_iload_n hx hb dX6_drawn_46 rfl (lv_at hl 2 rfl) ?_
          refine lv_i2l (x := p2) hx hb dX6_drawn_47 rfl ?_
          refine lv_lstore (lv' := [(4, .long (Int32.toInt64 p2)), (0, .ref (a 0)), (1, .int p1), (2, .int p2), (3, .int p3)]) hx hb dX6_drawn_48 hl (by decide) rfl (fun ls hl => ?_)
          refine lv_iconst (v := 0) hx hb dX6_drawn_50 (by decide) ?_
          refine lv_istore (lv' := [(6, .int 0), (4, .long (Int32.toInt64 p2)), (0, .ref (a 0)), (1, .int p1), (2, .int p2), (3, .int p3)]) hx hb dX6_drawn_51 hl (by decide) rfl (fun ls hl => ?_)
          refine lv_iconst (v := 0) hx hb dX6_drawn_53 (by decide) ?_
          refine lv_istore (lv' := [(7, .int 0), (6, .int 0), (4, .long (Int32.toInt64 p2)), (0, .ref (a 0)), (1, .int p1), (2, .int p2), (3, .int p3)]) hx hb dX6_drawn_54 hl (by decide) rfl (fun ls hl => ?_)
          exact L56 FU (Int32.toInt64 p2) 0 0 M15 _ _ _ h hP hS (lv_sub hl [3, 4, 5, 6, 2, 1, 0] rfl)
        · replace h := if_t q12 h
          refine lv_ldc (v := (-1000001)) hx hb hown w65 dX6_drawn_39 ?_
          rw [hQz]
          exact r_iret (v := (-1000001)) hx hb hr hlk hS ((Prod.mk.inj (Option.some.inj h)).2 ▸ hP) (Prod.mk.inj (Option.some.inj h)).1 dX6_drawn_41
  · replace h := if_t q3 h
    refine lv_ldc (v := (-1000002)) hx hb hown w136 dX6_drawn_7 ?_
    rw [hQz]
    exact r_iret (v := (-1000002)) hx hb hr hlk hS ((Prod.mk.inj (Option.some.inj h)).2 ▸ hP) (Prod.mk.inj (Option.some.inj h)).1 dX6_drawn_9
def rmX6_image : Room := { frames := 2, cells := 0, slots := 0, locals := 82 }
set_option maxHeartbeats 4000000 in
set_option maxRecDepth 100000 in
theorem ok_X6_image (l : Launch) (g : gT) (a : Nat → Nat) (hI : ij 14 a) (p1 : Int32) (M : Mem) (M' : Mem) (r : Int32) (h : fX6_image p1 M = some (r, M')) : MI l yX6_image wsX6_image rmX6_image g 14 a [.ref (a 0), .int p1] (wl 14 a (eN g a M)) (wl 14 a (eN g a M')) r := by
  refine MI_of (cc := cX6_image) (maxL := 3) (rt := .int) (by decide) rfl (Nat.le_of_ble_eq_true rfl) ?_
  intro p e s m args below meth c ls hx hb hml hr hlk hts hown hK hP hl
  have hown : s.vm.findClass RX6 = some m.cls := hown
  have hl : lv_has ls 3 [(0, .ref (a 0)), (1, .int p1)] := hl
  have hS : va_S (aA 14 a s.heap.size) s.heap s.heap [] := va_S.rf
  have iX6 : ∀ w ∈ wsX60, w ∈ wsX6_image := fun w h => List.mem_cons_of_mem _ (List.mem_append_right _ h)
  have w34 := hts (.fieldLink RX6 34 "StepRidersModel" "kept" "[Z") (by decide +kernel)
  have w31 := hts (.fieldLink RX6 31 "StepRidersModel" "images" "[I") (by decide +kernel)
  have w25 := hts (.fieldLink RX6 25 "StepRidersModel" "s" "[I") (by decide +kernel)
  have w136 := hts (.constant RX6 136 (-1000002)) (by decide +kernel)
  have w65 := hts (.constant RX6 65 (-1000001)) (by decide +kernel)
  obtain ⟨Qz, hQz⟩ : ∃ Qz : State → Prop, Qz = MQ below (qI g (wl 14 a (eN g a M')) r (aA 14 a s.heap.size)) args s 0 0 (aA 14 a s.heap.size) := ⟨_, rfl⟩
  rw [← hQz]
  have B24 : ∀ (k24 : Int32 → Mem → Option (Int32 × Mem)) (C24 : ∀ (x2 : Int32) (M : Mem) (H : Heap) (locs : List Loc) (ls : Array Slot), k24 x2 M = some (r, M') → va_P g.1 vwCl (wl 14 a (eN g a M)) H → va_S (aA 14 a s.heap.size) s.heap H locs → lv_has ls 3 [(0, .ref (a 0)), (1, .int p1), (2, .int x2)] → W p l e rmX6_image s m args below meth c H locs 0 0 Qz (F0 m 24 ls [])), ∀ (x2 : Int32) (M : Mem) (H : Heap) (locs : List Loc) (ls : Array Slot), fX6_image_b24 p1 k24 x2 M = some (r, M') → va_P g.1 vwCl (wl 14 a (eN g a M)) H → va_S (aA 14 a s.heap.size) s.heap H locs → lv_has ls 3 [(0, .ref (a 0)), (1, .int p1), (2, .int x2)] → W p l e rmX6_image s m args below meth c H locs 0 0 Qz (F0 m 24 ls []) := by
    intro k24 C24 x2 M H locs ls h hP hS hl
    unfold fX6_image_b24 at h
    refine lv_iload_n hx hb dX6_image_24 rfl (lv_at hl 2 rfl) ?_
    refine lv_bipush (v := 25) hx hb dX6_image_25 (by decide) ?_
    refine lv_icmp_ge (x := x2) (y := 25) (tgt := 53) hx hb dX6_image_27 (by decide) (fun q1 => ?_) (fun q1 => ?_)
    · replace h := if_t q1 h
      refine lv_aload_n hx hb dX6_image_53 rfl (lv_at hl 0 rfl) ?_
      refine r_get (v := .ref (a 9)) hx hb hts iX6 hown hK hP 0 (by decide) eN_0 rfl 11 (by decide) w34 rfl dX6_image_54 ?_
      refine lv_iload_n hx hb dX6_image_57 rfl (lv_at hl 1 rfl) ?_
      refine lv_iconst (v := 1) hx hb dX6_image_58 (by decide) ?_
      obtain ⟨q2, h⟩ := chk_ok h
      refine r_zast (i := p1) (x := 1) (h := M 9) (f' := eN g a (mp M 9 (Int32.toNatClampNeg p1) 1)) hx hb hK hI (fun _ h => aA_in h) hP hS 9 (by decide) rfl q2 rfl eN_uz dX6_image_59 (fun H locs hP hS => ?_)
      refine lv_iconst (v := 1) hx hb dX6_image_60 (by decide) ?_
      rw [hQz]
      exact r_iret (v := 1) hx hb hr hlk hS ((Prod.mk.inj (Option.some.inj h)).2 ▸ hP) (Prod.mk.inj (Option.some.inj h)).1 dX6_image_61
    · replace h := if_f q1 h
      refine lv_aload_n hx hb dX6_image_30 rfl (lv_at hl 0 rfl) ?_
      refine r_get (v := .ref (a 8)) hx hb hts iX6 hown hK hP 0 (by decide) eN_0 rfl 10 (by decide) w31 rfl dX6_image_31 ?_
      refine lv_bipush (v := 25) hx hb dX6_image_34 (by decide) ?_
      refine lv_iload_n hx hb dX6_image_36 rfl (lv_at hl 1 rfl) ?_
      refine lv_imul (x := 25) (y := p1) hx hb dX6_image_37 ?_
      refine lv_iload_n hx hb dX6_image_38 rfl (lv_at hl 2 rfl) ?_
      refine lv_iadd (x := (25 * p1)) (y := x2) hx hb dX6_image_39 ?_
      refine lv_aload_n hx hb dX6_image_40 rfl (lv_at hl 0 rfl) ?_
      refine r_get (v := .ref (a 6)) hx hb hts iX6 hown hK hP 0 (by decide) eN_0 rfl 8 (by decide) w25 rfl dX6_image_41 ?_
      refine lv_iload_n hx hb dX6_image_44 rfl (lv_at hl 2 rfl) ?_
      obtain ⟨q3, h⟩ := chk_ok h
      refine r_iald (i := x2) (h := M 6) hx hb hK hP 6 (by decide) rfl q3 dX6_image_45 ?_
      obtain ⟨q4, h⟩ := chk_ok h
      refine r_iast (i := ((25 * p1) + x2)) (x := (M 6 (Int32.toNatClampNeg x2))) (h := M 8) (f' := eN g a (mp M 8 (Int32.toNatClampNeg ((25 * p1) + x2)) (M 6 (Int32.toNatClampNeg x2)))) hx hb hK hI (fun _ h => aA_in h) hP hS 8 (by decide) rfl q4 (eN_ua (fun _ => rfl)) dX6_image_46 (fun H locs hP hS => ?_)
      refine lv_iinc (v := (x2 + 1)) (lv' := [(2, .int (x2 + 1)), (0, .ref (a 0)), (1, .int p1)]) hx hb dX6_image_47 hl (k := 2) rfl rfl (by decide) rfl (fun ls hl => ?_)
      refine lv_goto (tgt := 24) hx hb dX6_image_50 (by decide) ?_
      exact C24 (x2 + 1) (mp M 8 (Int32.toNatClampNeg ((25 * p1) + x2)) (M 6 (Int32.toNatClampNeg x2))) _ _ _ h hP hS (lv_sub hl [1, 2, 0] rfl)
  have L24 : ∀ (n : Nat), ∀ (x2 : Int32) (M : Mem) (H : Heap) (locs : List Loc) (ls : Array Slot), fX6_image_l24 p1 n x2 M = some (r, M') → va_P g.1 vwCl (wl 14 a (eN g a M)) H → va_S (aA 14 a s.heap.size) s.heap H locs → lv_has ls 3 [(0, .ref (a 0)), (1, .int p1), (2, .int x2)] → W p l e rmX6_image s m args below meth c H locs 0 0 Qz (F0 m 24 ls []) := by
    intro n
    induction n with
    | zero => intro x2 M H locs ls h; exact absurd (show (none : Option (Int32 × Mem)) = some _ from h) (fun z => by cases z)
    | succ n ih => exact fun x2 M H locs ls h hP hS hl => B24 (fX6_image_l24 p1 n) ih x2 M H locs ls h hP hS hl
  unfold fX6_image at h
  refine lv_iload_n hx hb dX6_image_0 rfl (lv_at hl 1 rfl) ?_
  refine lv_iconst (v := 0) hx hb dX6_image_1 (by decide) ?_
  refine lv_iconst (v := 1) hx hb dX6_image_2 (by decide) ?_
  obtain ⟨r1, e2, h⟩ := bdP_ok h
  refine r_callSi (As := [.int p1, .int 0, .int 1]) (rest := []) (ws' := (wl 14 a (eN g a M))) (ok_X6_in l g p1 0 1 r1 e2) ⟨hx, hb, hml, hown, hts⟩ (cwS 3 hts gX6_image_X6_in rfl rfl rfl (by decide +kernel) ⟨Nat.le_of_ble_eq_true rfl, Nat.le_of_ble_eq_true rfl⟩) hK hS nilP (P_A hS.1) (fun _ _ hk => wl_keep hP hk) rfl hl.1 rfl (Nat.le_of_ble_eq_true rfl) dX6_image_3 ⟨Nat.zero_le _, Nat.zero_le _⟩ (fun H locs hP hS => ?_)
  refine lv_if_ne (x := r1) (tgt := 12) hx hb dX6_image_6 (by decide) (fun q3 => ?_) (fun q3 => ?_)
  · replace h := if_f q3 h
    refine lv_aload_n hx hb dX6_image_12 rfl (lv_at hl 0 rfl) ?_
    obtain ⟨r4, e5, h⟩ := bdP_ok h
    refine r_callVi (As := []) (rest := []) (ws' := (wl 14 a (eN g a M))) (ok_X6_isStair l g a hI M r4 e5) ⟨hx, hb, hml, hown, hts⟩ (cwV 0 hts gX6_image_X6_isStair rfl rfl rfl (by decide +kernel) ⟨Nat.le_of_ble_eq_true rfl, Nat.le_of_ble_eq_true rfl⟩) hK (r_recv hK hP 0 (by decide) eN_0 (show vwCl[6]? = some (RX6, TX6, 20) from rfl)) hS hP (fun _ hq => aA_mono hS.1 hq) (fun _ h _ => h) rfl hl.1 rfl (Nat.le_of_ble_eq_true rfl) dX6_image_13 ⟨Nat.zero_le _, Nat.zero_le _⟩ (fun H locs hP hS => ?_)
    refine lv_if_ne (x := r4) (tgt := 22) hx hb dX6_image_16 (by decide) (fun q6 => ?_) (fun q6 => ?_)
    · replace h := if_f q6 h
      refine lv_iconst (v := 0) hx hb dX6_image_22 (by decide) ?_
      refine lv_istore_n (lv' := [(2, .int 0), (0, .ref (a 0)), (1, .int p1)]) hx hb dX6_image_23 rfl hl (by decide) rfl (fun ls hl => ?_)
      exact L24 FU 0 M _ _ _ h hP hS (lv_sub hl [1, 2, 0] rfl)
    · replace h := if_t q6 h
      refine lv_ldc (v := (-1000002)) hx hb hown w136 dX6_image_19 ?_
      rw [hQz]
      exact r_iret (v := (-1000002)) hx hb hr hlk hS ((Prod.mk.inj (Option.some.inj h)).2 ▸ hP) (Prod.mk.inj (Option.some.inj h)).1 dX6_image_21
  · replace h := if_t q3 h
    refine lv_ldc (v := (-1000001)) hx hb hown w65 dX6_image_9 ?_
    rw [hQz]
    exact r_iret (v := (-1000001)) hx hb hr hlk hS ((Prod.mk.inj (Option.some.inj h)).2 ▸ hP) (Prod.mk.inj (Option.some.inj h)).1 dX6_image_11
