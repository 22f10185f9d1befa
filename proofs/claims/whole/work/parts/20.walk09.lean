def rmX5_trace : Room := { frames := 2, cells := 0, slots := 0, locals := 82 }
set_option maxHeartbeats 4000000 in
set_option maxRecDepth 100000 in
theorem ok_X5_trace (l : Launch) (g : gT) (a : Nat → Nat) (hI : ij 203 a) (p1 : Int32) (M : Mem) (r : Int32) (h : fX5_trace p1 M = some r) : MI l yX5_trace wsX5_trace rmX5_trace g 203 a [.ref (a 0), .int p1] (wl 203 a (eX g a M)) (wl 203 a (eX g a M)) r := by
  refine MI_of (cc := cX5_trace) (maxL := 2) (rt := .int) (by decide) rfl (Nat.le_of_ble_eq_true rfl) ?_
  intro p e s m args below meth c ls hx hb hml hr hlk hts hown hK hP hl
  have hown : s.vm.findClass RX5 = some m.cls := hown
  have hl : lv_has ls 2 [(0, .ref (a 0)), (1, .int p1)] := hl
  have hS : va_S (aA 203 a s.heap.size) s.heap s.heap [] := va_S.rf
  have iX4 : ∀ w ∈ wsX40, w ∈ wsX5_trace := fun w h => List.mem_cons_of_mem _ (List.mem_append_right _ h)
  have iX5 : ∀ w ∈ wsX50, w ∈ wsX5_trace := fun w h => List.mem_cons_of_mem _ (List.mem_append_left _ (List.mem_append_right _ h))
  have w43 := hts (.fieldLink RX5 43 "StepRiders" "traced" "LStepRiders$Trace;") (by decide +kernel)
  have w263 := hts (.fieldLink RX5 263 "StepRiders$Trace" "length" "I") (by decide +kernel)
  have w271 := hts (.fieldLink RX5 271 "StepRiders$Trace" "bodies" "[I") (by decide +kernel)
  have w121 := hts (.constant RX5 121 (-1000000)) (by decide +kernel)
  obtain ⟨Qz, hQz⟩ : ∃ Qz : State → Prop, Qz = MQ below (qI g (wl 203 a (eX g a M)) r (aA 203 a s.heap.size)) args s 0 0 (aA 203 a s.heap.size) := ⟨_, rfl⟩
  rw [← hQz]
  unfold fX5_trace at h
  refine lv_iload_n hx hb dX5_trace_0 rfl (lv_at hl 1 rfl) ?_
  refine lv_iconst (v := 0) hx hb dX5_trace_1 (by decide) ?_
  refine lv_aload_n hx hb dX5_trace_2 rfl (lv_at hl 0 rfl) ?_
  refine r_get (v := .ref (a 132)) hx hb hts iX5 hown hK hP 0 (by decide) eX_0 rfl 5 (by decide) w43 rfl dX5_trace_3 ?_
  refine r_get (v := .int (M 132 1)) hx hb hts iX4 hown hK hP 132 (by decide) eX_132 rfl 1 (by decide) w263 rfl dX5_trace_6 ?_
  refine lv_iconst (v := 1) hx hb dX5_trace_9 (by decide) ?_
  refine lv_isub (x := (M 132 1)) (y := 1) hx hb dX5_trace_10 ?_
  obtain ⟨r1, e2, h⟩ := bdP_ok h
  refine r_callSi (As := [.int p1, .int 0, .int ((M 132 1) - 1)]) (rest := []) (ws' := (wl 203 a (eX g a M))) (ok_X5_outside l g p1 0 ((M 132 1) - 1) r1 e2) ⟨hx, hb, hml, hown, hts⟩ (cwS 3 hts gX5_trace_X5_outside rfl rfl rfl (by decide +kernel) ⟨Nat.le_of_ble_eq_true rfl, Nat.le_of_ble_eq_true rfl⟩) hK hS nilP (P_A hS.1) (fun _ _ hk => wl_keep hP hk) rfl hl.1 rfl (Nat.le_of_ble_eq_true rfl) dX5_trace_11 ⟨Nat.zero_le _, Nat.zero_le _⟩ (fun H locs hP hS => ?_)
  refine lv_if_eq (x := r1) (tgt := 22) hx hb dX5_trace_14 (by decide) (fun q3 => ?_) (fun q3 => ?_)
  · replace h := if_t q3 h
    refine lv_aload_n hx hb dX5_trace_22 rfl (lv_at hl 0 rfl) ?_
    refine r_get (v := .ref (a 132)) hx hb hts iX5 hown hK hP 0 (by decide) eX_0 rfl 5 (by decide) w43 rfl dX5_trace_23 ?_
    refine r_get (v := .ref (a 133)) hx hb hts iX4 hown hK hP 132 (by decide) eX_132 rfl 0 (by decide) w271 rfl dX5_trace_26 ?_
    refine lv_iload_n hx hb dX5_trace_29 rfl (lv_at hl 1 rfl) ?_
    obtain ⟨q4, h⟩ := chk_ok h
    refine r_iald (i := p1) (h := M 133) hx hb hK hP 133 (by decide) rfl q4 dX5_trace_30 ?_
    rw [hQz]
    exact r_iret (v := (M 133 (Int32.toNatClampNeg p1))) hx hb hr hlk hS hP (Option.some.inj h) dX5_trace_31
  · replace h := if_f q3 h
    refine lv_ldc (v := (-1000000)) hx hb hown w121 dX5_trace_17 ?_
    refine lv_goto (tgt := 31) hx hb dX5_trace_19 (by decide) ?_
    rw [hQz]
    exact r_iret (v := (-1000000)) hx hb hr hlk hS hP (Option.some.inj h) dX5_trace_31
def rmX5_howManyRows : Room := { frames := 2, cells := 0, slots := 0, locals := 80 }
set_option maxHeartbeats 4000000 in
set_option maxRecDepth 100000 in
theorem ok_X5_howManyRows (l : Launch) (g : gT) (a : Nat → Nat) (hI : ij 203 a) (M : Mem) (r : Int32) (h : fX5_howManyRows M = some r) : MI l yX5_howManyRows wsX5_howManyRows rmX5_howManyRows g 203 a [.ref (a 0)] (wl 203 a (eX g a M)) (wl 203 a (eX g a M)) r := by
  refine MI_of (cc := cX5_howManyRows) (maxL := 3) (rt := .int) (by decide) rfl (Nat.le_of_ble_eq_true rfl) ?_
  intro p e s m args below meth c ls hx hb hml hr hlk hts hown hK hP hl
  have hown : s.vm.findClass RX5 = some m.cls := hown
  have hl : lv_has ls 3 [(0, .ref (a 0))] := hl
  have hS : va_S (aA 203 a s.heap.size) s.heap s.heap [] := va_S.rf
  have iX1 : ∀ w ∈ wsX10, w ∈ wsX5_howManyRows := fun w h => List.mem_cons_of_mem _ (List.mem_append_right _ h)
  have iX5 : ∀ w ∈ wsX50, w ∈ wsX5_howManyRows := fun w h => List.mem_cons_of_mem _ (List.mem_append_left _ (List.mem_append_right _ h))
  have w11 := hts (.fieldLink RX5 11 "StepRiders" "rows" "[LStepRiders$Row;") (by decide +kernel)
  have w85 := hts (.fieldLink RX5 85 "StepRiders$Row" "missing" "Z") (by decide +kernel)
  obtain ⟨Qz, hQz⟩ : ∃ Qz : State → Prop, Qz = MQ below (qI g (wl 203 a (eX g a M)) r (aA 203 a s.heap.size)) args s 0 0 (aA 203 a s.heap.size) := ⟨_, rfl⟩
  rw [← hQz]
  have B28 : ∀ (k4 : Int32 → Int32 → Option (Int32)) (C4 : ∀ (x1 : Int32) (x2 : Int32) (H : Heap) (locs : List Loc) (ls : Array Slot), k4 x1 x2 = some r → va_P g.1 vwCl (wl 203 a (eX g a M)) H → va_S (aA 203 a s.heap.size) s.heap H locs → lv_has ls 3 [(0, .ref (a 0)), (1, .int x1), (2, .int x2)] → W p l e rmX5_howManyRows s m args below meth c H locs 0 0 Qz (F0 m 4 ls [])), ∀ (x2 : Int32) (s0 : Int32) (s1 : Int32) (H : Heap) (locs : List Loc) (ls : Array Slot), fX5_howManyRows_b28 M k4 x2 s0 s1 = some r → va_P g.1 vwCl (wl 203 a (eX g a M)) H → va_S (aA 203 a s.heap.size) s.heap H locs → lv_has ls 3 [(0, .ref (a 0)), (2, .int x2)] → W p l e rmX5_howManyRows s m args below meth c H locs 0 0 Qz (F0 m 28 ls [.int s0, .int s1]) := by
    intro k4 C4 x2 s0 s1 H locs ls h hP hS hl
    unfold fX5_howManyRows_b28 at h
    obtain ⟨r1, e2, h⟩ := bdP_ok h
    refine r_callSi (As := [.int s0]) (rest := [.int s1]) (ws' := (wl 203 a (eX g a M))) (ok_X5_oneIf l g s0 r1 e2) ⟨hx, hb, hml, hown, hts⟩ (cwS 1 hts gX5_howManyRows_X5_oneIf rfl rfl rfl (by decide +kernel) ⟨Nat.le_of_ble_eq_true rfl, Nat.le_of_ble_eq_true rfl⟩) hK hS nilP (P_A hS.1) (fun _ _ hk => wl_keep hP hk) rfl hl.1 rfl (Nat.le_of_ble_eq_true rfl) dX5_howManyRows_28 ⟨Nat.zero_le _, Nat.zero_le _⟩ (fun H locs hP hS => ?_)
    refine lv_iadd (x := s1) (y := r1) hx hb dX5_howManyRows_31 ?_
    refine lv_istore_n (lv' := [(1, .int (s1 + r1)), (0, .ref (a 0)), (2, .int x2)]) hx hb dX5_howManyRows_32 rfl hl (by decide) rfl (fun ls hl => ?_)
    refine lv_iinc (v := (x2 + 1)) (lv' := [(2, .int (x2 + 1)), (1, .int (s1 + r1)), (0, .ref (a 0))]) hx hb dX5_howManyRows_33 hl (k := 2) rfl rfl (by decide) rfl (fun ls hl => ?_)
    refine lv_goto (tgt := 4) hx hb dX5_howManyRows_36 (by decide) ?_
    exact C4 (s1 + r1) (x2 + 1) _ _ _ h hP hS (lv_sub hl [2, 1, 0] rfl)
  have B4 : ∀ (k4 : Int32 → Int32 → Option (Int32)) (C4 : ∀ (x1 : Int32) (x2 : Int32) (H : Heap) (locs : List Loc) (ls : Array Slot), k4 x1 x2 = some r → va_P g.1 vwCl (wl 203 a (eX g a M)) H → va_S (aA 203 a s.heap.size) s.heap H locs → lv_has ls 3 [(0, .ref (a 0)), (1, .int x1), (2, .int x2)] → W p l e rmX5_howManyRows s m args below meth c H locs 0 0 Qz (F0 m 4 ls [])), ∀ (x1 : Int32) (x2 : Int32) (H : Heap) (locs : List Loc) (ls : Array Slot), fX5_howManyRows_b4 M k4 x1 x2 = some r → va_P g.1 vwCl (wl 203 a (eX g a M)) H → va_S (aA 203 a s.heap.size) s.heap H locs → lv_has ls 3 [(0, .ref (a 0)), (1, .int x1), (2, .int x2)] → W p l e rmX5_howManyRows s m args below meth c H locs 0 0 Qz (F0 m 4 ls []) := by
    intro k4 C4 x1 x2 H locs ls h hP hS hl
    unfold fX5_howManyRows_b4 at h
    refine lv_iload_n hx hb dX5_howManyRows_4 rfl (lv_at hl 2 rfl) ?_
    refine lv_bipush (v := 8) hx hb dX5_howManyRows_5 (by decide) ?_
    refine lv_icmp_ge (x := x2) (y := 8) (tgt := 39) hx hb dX5_howManyRows_7 (by decide) (fun q1 => ?_) (fun q1 => ?_)
    · replace h := if_t q1 h
      refine lv_iload_n hx hb dX5_howManyRows_39 rfl (lv_at hl 1 rfl) ?_
      rw [hQz]
      exact r_iret (v := x1) hx hb hr hlk hS hP (Option.some.inj h) dX5_howManyRows_40
    · replace h := if_f q1 h
      refine lv_iload_n hx hb dX5_howManyRows_10 rfl (lv_at hl 1 rfl) ?_
      refine lv_aload_n hx hb dX5_howManyRows_11 rfl (lv_at hl 0 rfl) ?_
      refine r_get (v := .ref (a 1)) hx hb hts iX5 hown hK hP 0 (by decide) eX_0 rfl 0 (by decide) w11 rfl dX5_howManyRows_12 ?_
      refine lv_iload_n hx hb dX5_howManyRows_15 rfl (lv_at hl 2 rfl) ?_
      obtain ⟨q2, h⟩ := chk_ok h
      refine r_rows (i := x2) hx hb hK hP q2 dX5_howManyRows_16 ?_
      refine r_get (v := .int (M (142 + 2 * (Int32.toNatClampNeg x2)) 1)) hx hb hts iX1 hown hK hP (142 + 2 * (Int32.toNatClampNeg x2)) (isRw_lt (rw_r _ (bIn_lt q2))) (eX_Row (rw_r _ (bIn_lt q2))) rfl 1 (by decide) w85 rfl dX5_howManyRows_17 ?_
      refine lv_if_ne (x := (M (142 + 2 * (Int32.toNatClampNeg x2)) 1)) (tgt := 27) hx hb dX5_howManyRows_20 (by decide) (fun q3 => ?_) (fun q3 => ?_)
      · replace h := if_f q3 h
        refine lv_iconst (v := 0) hx hb dX5_howManyRows_27 (by decide) ?_
        exact B28 k4 C4 x2 0 x1 _ _ _ h hP hS (lv_sub hl [0, 2] rfl)
      · replace h := if_t q3 h
        refine lv_iconst (v := 1) hx hb dX5_howManyRows_23 (by decide) ?_
        refine lv_goto (tgt := 28) hx hb dX5_howManyRows_24 (by decide) ?_
        exact B28 k4 C4 x2 1 x1 _ _ _ h hP hS (lv_sub hl [0, 2] rfl)
  have L4 : ∀ (n : Nat), ∀ (x1 : Int32) (x2 : Int32) (H : Heap) (locs : List Loc) (ls : Array Slot), fX5_howManyRows_l4 M n x1 x2 = some r → va_P g.1 vwCl (wl 203 a (eX g a M)) H → va_S (aA 203 a s.heap.size) s.heap H locs → lv_has ls 3 [(0, .ref (a 0)), (1, .int x1), (2, .int x2)] → W p l e rmX5_howManyRows s m args below meth c H locs 0 0 Qz (F0 m 4 ls []) := by
    intro n
    induction n with
    | zero => intro x1 x2 H locs ls h; exact absurd (show (none : Option (Int32)) = some _ from h) (fun z => by cases z)
    | succ n ih => exact fun x1 x2 H locs ls h hP hS hl => B4 (fX5_howManyRows_l4 M n) ih x1 x2 H locs ls h hP hS hl
  unfold fX5_howManyRows at h
  refine lv_iconst (v := 0) hx hb dX5_howManyRows_0 (by decide) ?_
  refine lv_istore_n (lv' := [(1, .int 0), (0, .ref (a 0))]) hx hb dX5_howManyRows_1 rfl hl (by decide) rfl (fun ls hl => ?_)
  refine lv_iconst (v := 0) hx hb dX5_howManyRows_2 (by decide) ?_
  refine lv_istore_n (lv' := [(2, .int 0), (1, .int 0), (0, .ref (a 0))]) hx hb dX5_howManyRows_3 rfl hl (by decide) rfl (fun ls hl => ?_)
  exact L4 FU 0 0 _ _ _ h hP hS (lv_sub hl [2, 1, 0] rfl)
def rmX5_count : Room := { frames := 3, cells := 0, slots := 0, locals := 104 }
set_option maxHeartbeats 4000000 in
set_option maxRecDepth 100000 in
theorem ok_X5_count (l : Launch) (g : gT) (a : Nat → Nat) (hI : ij 203 a) (p1 : Int32) (M : Mem) (r : Int32) (h : fX5_count p1 M = some r) : MI l yX5_count wsX5_count rmX5_count g 203 a [.ref (a 0), .int p1] (wl 203 a (eX g a M)) (wl 203 a (eX g a M)) r := by
  refine MI_of (cc := cX5_count) (maxL := 2) (rt := .int) (by decide) rfl (Nat.le_of_ble_eq_true rfl) ?_
  intro p e s m args below meth c ls hx hb hml hr hlk hts hown hK hP hl
  have hown : s.vm.findClass RX5 = some m.cls := hown
  have hl : lv_has ls 2 [(0, .ref (a 0)), (1, .int p1)] := hl
  have hS : va_S (aA 203 a s.heap.size) s.heap s.heap [] := va_S.rf
  have iX0 : ∀ w ∈ wsX00, w ∈ wsX5_count := fun w h => List.mem_cons_of_mem _ (List.mem_append_left _ (List.mem_append_left _ (List.mem_append_right _ h)))
  have iX2 : ∀ w ∈ wsX20, w ∈ wsX5_count := fun w h => List.mem_cons_of_mem _ (List.mem_append_left _ (List.mem_append_left _ (List.mem_append_left _ (List.mem_append_right _ h))))
  have iX3 : ∀ w ∈ wsX30, w ∈ wsX5_count := fun w h => List.mem_cons_of_mem _ (List.mem_append_left _ (List.mem_append_right _ h))
  have iX5 : ∀ w ∈ wsX50, w ∈ wsX5_count := fun w h => List.mem_cons_of_mem _ (List.mem_append_left _ (List.mem_append_left _ (List.mem_append_left _ (List.mem_append_left _ (List.mem_append_right _ h)))))
  have w25 := hts (.fieldLink RX5 25 "StepRiders" "now" "LStepRiders$Stair;") (by decide +kernel)
  have w130 := hts (.fieldLink RX5 130 "StepRiders$Stair" "riders" "I") (by decide +kernel)
  have w191 := hts (.fieldLink RX5 191 "StepRiders$Stair" "steps" "I") (by decide +kernel)
  have w141 := hts (.fieldLink RX5 141 "StepRiders$Stair" "tick" "I") (by decide +kernel)
  have w154 := hts (.fieldLink RX5 154 "StepRiders$Stair" "speed" "I") (by decide +kernel)
  have w32 := hts (.fieldLink RX5 32 "StepRiders" "acts" "LStepRiders$Acts;") (by decide +kernel)
  have w172 := hts (.fieldLink RX5 172 "StepRiders$Acts" "kept" "I") (by decide +kernel)
  have w18 := hts (.fieldLink RX5 18 "StepRiders" "tape" "LStepRiders$Tape;") (by decide +kernel)
  have w111 := hts (.fieldLink RX5 111 "StepRiders$Tape" "length" "I") (by decide +kernel)
  have w73 := hts (.constant RX5 73 (-1000001)) (by decide +kernel)
  obtain ⟨Qz, hQz⟩ : ∃ Qz : State → Prop, Qz = MQ below (qI g (wl 203 a (eX g a M)) r (aA 203 a s.heap.size)) args s 0 0 (aA 203 a s.heap.size) := ⟨_, rfl⟩
  rw [← hQz]
  unfold fX5_count at h
  refine lv_iload_n hx hb dX5_count_0 rfl (lv_at hl 1 rfl) ?_
  by_cases q1 : p1 = 0
  · replace h := if_t q1 h
    refine lv_tableIn (x := p1) (tgt := 56) (off := 55) hx hb dX5_count_1 (by rw [q1]; decide) (by rw [q1]; decide) (by rw [q1]; decide) (by decide) ?_
    refine lv_aload_n hx hb dX5_count_56 rfl (lv_at hl 0 rfl) ?_
    obtain ⟨r2, e3, h⟩ := bdP_ok h
    refine r_callVi (As := []) (rest := []) (ws' := (wl 203 a (eX g a M))) (ok_X5_howManyRows l g a hI M r2 e3) ⟨hx, hb, hml, hown, hts⟩ (cwV 0 hts gX5_count_X5_howManyRows rfl rfl rfl (by decide +kernel) ⟨Nat.le_of_ble_eq_true rfl, Nat.le_of_ble_eq_true rfl⟩) hK (r_recv hK hP 0 (by decide) eX_0 (show vwCl[5]? = some (RX5, TX5, 11) from rfl)) hS hP (fun _ hq => aA_mono hS.1 hq) (fun _ h _ => h) rfl hl.1 rfl (Nat.le_of_ble_eq_true rfl) dX5_count_57 ⟨Nat.zero_le _, Nat.zero_le _⟩ (fun H locs hP hS => ?_)
    rw [hQz]
    exact r_iret (v := r2) hx hb hr hlk hS hP (Option.some.inj h) dX5_count_60
  replace h := if_f q1 h
  by_cases q4 : p1 = 1
  · replace h := if_t q4 h
    refine lv_tableIn (x := p1) (tgt := 61) (off := 60) hx hb dX5_count_1 (by rw [q4]; decide) (by rw [q4]; decide) (by rw [q4]; decide) (by decide) ?_
    refine lv_aload_n hx hb dX5_count_61 rfl (lv_at hl 0 rfl) ?_
    refine r_get (v := .ref (a 4)) hx hb hts iX5 hown hK hP 0 (by decide) eX_0 rfl 2 (by decide) w25 rfl dX5_count_62 ?_
    refine r_get (v := .int (M 4 3)) hx hb hts iX2 hown hK hP 4 (isSt_lt (c := 4) (by decide) 0 (by decide)) (eX_Stair (c := 4) (by decide)) rfl 3 (by decide) w130 rfl dX5_count_65 ?_
    rw [hQz]
    exact r_iret (v := (M 4 3)) hx hb hr hlk hS hP (Option.some.inj h) dX5_count_68
  replace h := if_f q4 h
  by_cases q5 : p1 = 2
  · replace h := if_t q5 h
    refine lv_tableIn (x := p1) (tgt := 69) (off := 68) hx hb dX5_count_1 (by rw [q5]; decide) (by rw [q5]; decide) (by rw [q5]; decide) (by decide) ?_
    refine lv_aload_n hx hb dX5_count_69 rfl (lv_at hl 0 rfl) ?_
    refine r_get (v := .ref (a 4)) hx hb hts iX5 hown hK hP 0 (by decide) eX_0 rfl 2 (by decide) w25 rfl dX5_count_70 ?_
    refine r_get (v := .int (M 4 0)) hx hb hts iX2 hown hK hP 4 (isSt_lt (c := 4) (by decide) 0 (by decide)) (eX_Stair (c := 4) (by decide)) rfl 0 (by decide) w191 rfl dX5_count_73 ?_
    rw [hQz]
    exact r_iret (v := (M 4 0)) hx hb hr hlk hS hP (Option.some.inj h) dX5_count_76
  replace h := if_f q5 h
  by_cases q6 : p1 = 3
  · replace h := if_t q6 h
    refine lv_tableIn (x := p1) (tgt := 77) (off := 76) hx hb dX5_count_1 (by rw [q6]; decide) (by rw [q6]; decide) (by rw [q6]; decide) (by decide) ?_
    refine lv_aload_n hx hb dX5_count_77 rfl (lv_at hl 0 rfl) ?_
    refine r_get (v := .ref (a 4)) hx hb hts iX5 hown hK hP 0 (by decide) eX_0 rfl 2 (by decide) w25 rfl dX5_count_78 ?_
    refine r_get (v := .int (M 4 2)) hx hb hts iX2 hown hK hP 4 (isSt_lt (c := 4) (by decide) 0 (by decide)) (eX_Stair (c := 4) (by decide)) rfl 2 (by decide) w141 rfl dX5_count_81 ?_
    rw [hQz]
    exact r_iret (v := (M 4 2)) hx hb hr hlk hS hP (Option.some.inj h) dX5_count_84
  replace h := if_f q6 h
  by_cases q7 : p1 = 4
  · replace h := if_t q7 h
    refine lv_tableIn (x := p1) (tgt := 85) (off := 84) hx hb dX5_count_1 (by rw [q7]; decide) (by rw [q7]; decide) (by rw [q7]; decide) (by decide) ?_
    refine lv_aload_n hx hb dX5_count_85 rfl (lv_at hl 0 rfl) ?_
    refine r_get (v := .ref (a 4)) hx hb hts iX5 hown hK hP 0 (by decide) eX_0 rfl 2 (by decide) w25 rfl dX5_count_86 ?_
    refine r_get (v := .int (M 4 1)) hx hb hts iX2 hown hK hP 4 (isSt_lt (c := 4) (by decide) 0 (by decide)) (eX_Stair (c := 4) (by decide)) rfl 1 (by decide) w154 rfl dX5_count_89 ?_
    rw [hQz]
    exact r_iret (v := (M 4 1)) hx hb hr hlk hS hP (Option.some.inj h) dX5_count_92
  replace h := if_f q7 h
  by_cases q8 : p1 = 5
  · replace h := if_t q8 h
    refine lv_tableIn (x := p1) (tgt := 93) (off := 92) hx hb dX5_count_1 (by rw [q8]; decide) (by rw [q8]; decide) (by rw [q8]; decide) (by decide) ?_
    refine lv_aload_n hx hb dX5_count_93 rfl (lv_at hl 0 rfl) ?_
    refine r_get (v := .ref (a 4)) hx hb hts iX5 hown hK hP 0 (by decide) eX_0 rfl 2 (by decide) w25 rfl dX5_count_94 ?_
    refine lv_iconst (v := (-1)) hx hb dX5_count_97 (by decide) ?_
    obtain ⟨r9, e10, h⟩ := bdP_ok h
    refine r_callVi (As := [.int (-1)]) (rest := []) (ws' := (wl 203 a (eX g a M))) (ok_X2_howManyAt l g (gA a 4) (gA_ij (c := 4) (by decide) hI) (-1) (gS M 4) r9 e10) ⟨hx, hb, hml, hown, hts⟩ (cwV 1 hts gX5_count_X2_howManyAt rfl rfl rfl (by decide +kernel) ⟨Nat.le_of_ble_eq_true rfl, Nat.le_of_ble_eq_true rfl⟩) hK (r_recv hK hP 4 (isSt_lt (c := 4) (by decide) 0 (by decide)) (eX_Stair (c := 4) (by decide)) (show vwCl[2]? = some (RX2, TX2, 8) from rfl)) hS (S_cut (c := 4) (by decide) hP) (S_A (c := 4) (by decide) hS.1) (S_keep (c := 4) (by decide) hI hP) rfl hl.1 rfl (Nat.le_of_ble_eq_true rfl) dX5_count_98 ⟨Nat.zero_le _, Nat.zero_le _⟩ (fun H locs hP hS => ?_)
    rw [hQz]
    exact r_iret (v := r9) hx hb hr hlk hS hP (Option.some.inj h) dX5_count_101
  replace h := if_f q8 h
  by_cases q11 : p1 = 6
  · replace h := if_t q11 h
    refine lv_tableIn (x := p1) (tgt := 102) (off := 101) hx hb dX5_count_1 (by rw [q11]; decide) (by rw [q11]; decide) (by rw [q11]; decide) (by decide) ?_
    refine lv_aload_n hx hb dX5_count_102 rfl (lv_at hl 0 rfl) ?_
    refine r_get (v := .ref (a 4)) hx hb hts iX5 hown hK hP 0 (by decide) eX_0 rfl 2 (by decide) w25 rfl dX5_count_103 ?_
    refine r_get (v := .int (M 4 3)) hx hb hts iX2 hown hK hP 4 (isSt_lt (c := 4) (by decide) 0 (by decide)) (eX_Stair (c := 4) (by decide)) rfl 3 (by decide) w130 rfl dX5_count_106 ?_
    refine lv_aload_n hx hb dX5_count_109 rfl (lv_at hl 0 rfl) ?_
    refine r_get (v := .ref (a 4)) hx hb hts iX5 hown hK hP 0 (by decide) eX_0 rfl 2 (by decide) w25 rfl dX5_count_110 ?_
    refine lv_iconst (v := (-1)) hx hb dX5_count_113 (by decide) ?_
    obtain ⟨r12, e13, h⟩ := bdP_ok h
    refine r_callVi (As := [.int (-1)]) (rest := [.int (M 4 3)]) (ws' := (wl 203 a (eX g a M))) (ok_X2_howManyAt l g (gA a 4) (gA_ij (c := 4) (by decide) hI) (-1) (gS M 4) r12 e13) ⟨hx, hb, hml, hown, hts⟩ (cwV 1 hts gX5_count_X2_howManyAt rfl rfl rfl (by decide +kernel) ⟨Nat.le_of_ble_eq_true rfl, Nat.le_of_ble_eq_true rfl⟩) hK (r_recv hK hP 4 (isSt_lt (c := 4) (by decide) 0 (by decide)) (eX_Stair (c := 4) (by decide)) (show vwCl[2]? = some (RX2, TX2, 8) from rfl)) hS (S_cut (c := 4) (by decide) hP) (S_A (c := 4) (by decide) hS.1) (S_keep (c := 4) (by decide) hI hP) rfl hl.1 rfl (Nat.le_of_ble_eq_true rfl) dX5_count_114 ⟨Nat.zero_le _, Nat.zero_le _⟩ (fun H locs hP hS => ?_)
    refine lv_isub (x := (M 4 3)) (y := r12) hx hb dX5_count_117 ?_
    refine lv_aload_n hx hb dX5_count_118 rfl (lv_at hl 0 rfl) ?_
    refine r_get (v := .ref (a 4)) hx hb hts iX5 hown hK hP 0 (by decide) eX_0 rfl 2 (by decide) w25 rfl dX5_count_119 ?_
    refine lv_bipush (v := 99) hx hb dX5_count_122 (by decide) ?_
    obtain ⟨r14, e15, h⟩ := bdP_ok h
    refine r_callVi (As := [.int 99]) (rest := [.int ((M 4 3) - r12)]) (ws' := (wl 203 a (eX g a M))) (ok_X2_howManyAt l g (gA a 4) (gA_ij (c := 4) (by decide) hI) 99 (gS M 4) r14 e15) ⟨hx, hb, hml, hown, hts⟩ (cwV 1 hts gX5_count_X2_howManyAt rfl rfl rfl (by decide +kernel) ⟨Nat.le_of_ble_eq_true rfl, Nat.le_of_ble_eq_true rfl⟩) hK (r_recv hK hP 4 (isSt_lt (c := 4) (by decide) 0 (by decide)) (eX_Stair (c := 4) (by decide)) (show vwCl[2]? = some (RX2, TX2, 8) from rfl)) hS (S_cut (c := 4) (by decide) hP) (S_A (c := 4) (by decide) hS.1) (S_keep (c := 4) (by decide) hI hP) rfl hl.1 rfl (Nat.le_of_ble_eq_true rfl) dX5_count_124 ⟨Nat.zero_le _, Nat.zero_le _⟩ (fun H locs hP hS => ?_)
    refine lv_isub (x := ((M 4 3) - r12)) (y := r14) hx hb dX5_count_127 ?_
    rw [hQz]
    exact r_iret (v := (((M 4 3) - r12) - r14)) hx hb hr hlk hS hP (Option.some.inj h) dX5_count_128
  replace h := if_f q11 h
  by_cases q16 : p1 = 7
  · replace h := if_t q16 h
    refine lv_tableIn (x := p1) (tgt := 129) (off := 128) hx hb dX5_count_1 (by rw [q16]; decide) (by rw [q16]; decide) (by rw [q16]; decide) (by decide) ?_
    refine lv_aload_n hx hb dX5_count_129 rfl (lv_at hl 0 rfl) ?_
    refine r_get (v := .ref (a 4)) hx hb hts iX5 hown hK hP 0 (by decide) eX_0 rfl 2 (by decide) w25 rfl dX5_count_130 ?_
    refine lv_bipush (v := 99) hx hb dX5_count_133 (by decide) ?_
    obtain ⟨r17, e18, h⟩ := bdP_ok h
    refine r_callVi (As := [.int 99]) (rest := []) (ws' := (wl 203 a (eX g a M))) (ok_X2_howManyAt l g (gA a 4) (gA_ij (c := 4) (by decide) hI) 99 (gS M 4) r17 e18) ⟨hx, hb, hml, hown, hts⟩ (cwV 1 hts gX5_count_X2_howManyAt rfl rfl rfl (by decide +kernel) ⟨Nat.le_of_ble_eq_true rfl, Nat.le_of_ble_eq_true rfl⟩) hK (r_recv hK hP 4 (isSt_lt (c := 4) (by decide) 0 (by decide)) (eX_Stair (c := 4) (by decide)) (show vwCl[2]? = some (RX2, TX2, 8) from rfl)) hS (S_cut (c := 4) (by decide) hP) (S_A (c := 4) (by decide) hS.1) (S_keep (c := 4) (by decide) hI hP) rfl hl.1 rfl (Nat.le_of_ble_eq_true rfl) dX5_count_135 ⟨Nat.zero_le _, Nat.zero_le _⟩ (fun H locs hP hS => ?_)
    rw [hQz]
    exact r_iret (v := r17) hx hb hr hlk hS hP (Option.some.inj h) dX5_count_138
  replace h := if_f q16 h
  by_cases q19 : p1 = 8
  · replace h := if_t q19 h
    refine lv_tableIn (x := p1) (tgt := 139) (off := 138) hx hb dX5_count_1 (by rw [q19]; decide) (by rw [q19]; decide) (by rw [q19]; decide) (by decide) ?_
    refine lv_aload_n hx hb dX5_count_139 rfl (lv_at hl 0 rfl) ?_
    refine r_get (v := .ref (a 9)) hx hb hts iX5 hown hK hP 0 (by decide) eX_0 rfl 3 (by decide) w32 rfl dX5_count_140 ?_
    refine r_get (v := .int (M 9 2)) hx hb hts iX0 hown hK hP 9 (by decide) eX_9 rfl 2 (by decide) w172 rfl dX5_count_143 ?_
    rw [hQz]
    exact r_iret (v := (M 9 2)) hx hb hr hlk hS hP (Option.some.inj h) dX5_count_146
  replace h := if_f q19 h
  by_cases q20 : p1 = 9
  · replace h := if_t q20 h
    refine lv_tableIn (x := p1) (tgt := 147) (off := 146) hx hb dX5_count_1 (by rw [q20]; decide) (by rw [q20]; decide) (by rw [q20]; decide) (by decide) ?_
    refine lv_aload_n hx hb dX5_count_147 rfl (lv_at hl 0 rfl) ?_
    refine r_get (v := .ref (a 2)) hx hb hts iX5 hown hK hP 0 (by decide) eX_0 rfl 1 (by decide) w18 rfl dX5_count_148 ?_
    refine r_get (v := .int (M 2 1)) hx hb hts iX3 hown hK hP 2 (by decide) eX_2 rfl 1 (by decide) w111 rfl dX5_count_151 ?_
    rw [hQz]
    exact r_iret (v := (M 2 1)) hx hb hr hlk hS hP (Option.some.inj h) dX5_count_154
  replace h := if_f q20 h
  have tq1 := lv_neT q1 (show (0 : Int32).toInt = 0 from rfl)
  have tq4 := lv_neT q4 (show (1 : Int32).toInt = 1 from rfl)
  have tq5 := lv_neT q5 (show (2 : Int32).toInt = 2 from rfl)
  have tq6 := lv_neT q6 (show (3 : Int32).toInt = 3 from rfl)
  have tq7 := lv_neT q7 (show (4 : Int32).toInt = 4 from rfl)
  have tq8 := lv_neT q8 (show (5 : Int32).toInt = 5 from rfl)
  have tq11 := lv_neT q11 (show (6 : Int32).toInt = 6 from rfl)
  have tq16 := lv_neT q16 (show (7 : Int32).toInt = 7 from rfl)
  have tq19 := lv_neT q19 (show (8 : Int32).toInt = 8 from rfl)
  have tq20 := lv_neT q20 (show (9 : Int32).toInt = 9 from rfl)
  refine lv_tableOut (x := p1) (tgt := 155) hx hb dX5_count_1 (by omega) (by decide) ?_
  refine lv_ldc (v := (-1000001)) hx hb hown w73 dX5_count_155 ?_
  rw [hQz]
  exact r_iret (v := (-1000001)) hx hb hr hlk hS hP (Option.some.inj h) dX5_count_157
def rmX5_status : Room := { frames := 1, cells := 0, slots := 0, locals := 60 }
set_option maxHeartbeats 4000000 in
set_option maxRecDepth 100000 in
theorem ok_X5_status (l : Launch) (g : gT) (a : Nat → Nat) (hI : ij 203 a) (M : Mem) (r : Int32) (h : fX5_status M = some r) : MI l yX5_status wsX5_status rmX5_status g 203 a [.ref (a 0)] (wl 203 a (eX g a M)) (wl 203 a (eX g a M)) r := by
  refine MI_of (cc := cX5_status) (maxL := 1) (rt := .int) (by decide) rfl (Nat.le_of_ble_eq_true rfl) ?_
  intro p e s m args below meth c ls hx hb hml hr hlk hts hown hK hP hl
  have hown : s.vm.findClass RX5 = some m.cls := hown
  have hl : lv_has ls 1 [(0, .ref (a 0))] := hl
  have hS : va_S (aA 203 a s.heap.size) s.heap s.heap [] := va_S.rf
  have iX5 : ∀ w ∈ wsX50, w ∈ wsX5_status := fun w h => List.mem_cons_of_mem _ (List.mem_append_right _ h)
  have w60 := hts (.fieldLink RX5 60 "StepRiders" "finding" "I") (by decide +kernel)
  obtain ⟨Qz, hQz⟩ : ∃ Qz : State → Prop, Qz = MQ below (qI g (wl 203 a (eX g a M)) r (aA 203 a s.heap.size)) args s 0 0 (aA 203 a s.heap.size) := ⟨_, rfl⟩
  rw [← hQz]
  unfold fX5_status at h
  refine lv_aload_n hx hb dX5_status_0 rfl (lv_at hl 0 rfl) ?_
  refine r_get (v := .int (M 0 10)) hx hb hts iX5 hown hK hP 0 (by decide) eX_0 rfl 10 (by decide) w60 rfl dX5_status_1 ?_
  rw [hQz]
  exact r_iret (v := (M 0 10)) hx hb hr hlk hS hP (Option.some.inj h) dX5_status_4
def rmX6_in : Room := { frames := 1, cells := 0, slots := 0, locals := 60 }
set_option maxHeartbeats 4000000 in
set_option maxRecDepth 100000 in
theorem ok_X6_in (l : Launch) (g : gT) (p0 : Int32) (p1 : Int32) (p2 : Int32) (r : Int32) (h : fX6_in p0 p1 p2 = some r) : MI l yX6_in wsX6_in rmX6_in g 0 (fun _ => 0) [.int p0, .int p1, .int p2] ([] : va_W) ([] : va_W) r := by
  refine MI_of (cc := cX6_in) (maxL := 3) (rt := .boolean) (by decide) rfl (Nat.le_of_ble_eq_true rfl) ?_
  intro p e s m args below meth c ls hx hb hml hr hlk hts hown hK hP hl
  have hown : s.vm.findClass RX6 = some m.cls := hown
  have hl : lv_has ls 3 [(0, .int p0), (1, .int p1), (2, .int p2)] := hl
  have hS : va_S (aA 0 (fun _ => 0) s.heap.size) s.heap s.heap [] := va_S.rf
  obtain ⟨Qz, hQz⟩ : ∃ Qz : State → Prop, Qz = MQ below (qI g ([] : va_W) r (aA 0 (fun _ => 0) s.heap.size)) args s 0 0 (aA 0 (fun _ => 0) s.heap.size) := ⟨_, rfl⟩
  rw [← hQz]
  unfold fX6_in at h
  refine lv_iload_n hx hb dX6_in_0 rfl (lv_at hl 0 rfl) ?_
  refine lv_iload_n hx hb dX6_in_1 rfl (lv_at hl 1 rfl) ?_
  refine lv_icmp_lt (x := p0) (y := p1) (tgt := 14) hx hb dX6_in_2 (by decide) (fun q1 => ?_) (fun q1 => ?_)
  · replace h := if_t q1 h
    refine lv_iconst (v := 0) hx hb dX6_in_14 (by decide) ?_
    rw [hQz]
    exact r_zret (v := 0) hx hb hr hlk hS hP (Option.some.inj h) (by decide) dX6_in_15
  · replace h := if_f q1 h
    refine lv_iload_n hx hb dX6_in_5 rfl (lv_at hl 0 rfl) ?_
    refine lv_iload_n hx hb dX6_in_6 rfl (lv_at hl 2 rfl) ?_
    refine lv_icmp_gt (x := p0) (y := p2) (tgt := 14) hx hb dX6_in_7 (by decide) (fun q2 => ?_) (fun q2 => ?_)
    · replace h := if_t q2 h
      refine lv_iconst (v := 0) hx hb dX6_in_14 (by decide) ?_
      rw [hQz]
      exact r_zret (v := 0) hx hb hr hlk hS hP (Option.some.inj h) (by decide) dX6_in_15
    · replace h := if_f q2 h
      refine lv_iconst (v := 1) hx hb dX6_in_10 (by decide) ?_
      refine lv_goto (tgt := 15) hx hb dX6_in_11 (by decide) ?_
      rw [hQz]
      exact r_zret (v := 1) hx hb hr hlk hS hP (Option.some.inj h) (by decide) dX6_in_15
def rmX6_isRow : Room := { frames := 2, cells := 0, slots := 0, locals := 82 }
set_option maxHeartbeats 4000000 in
set_option maxRecDepth 100000 in
theorem ok_X6_isRow (l : Launch) (g : gT) (p0 : Int32) (r : Int32) (h : fX6_isRow p0 = some r) : MI l yX6_isRow wsX6_isRow rmX6_isRow g 0 (fun _ => 0) [.int p0] ([] : va_W) ([] : va_W) r := by
  refine MI_of (cc := cX6_isRow) (maxL := 1) (rt := .boolean) (by decide) rfl (Nat.le_of_ble_eq_true rfl) ?_
  intro p e s m args below meth c ls hx hb hml hr hlk hts hown hK hP hl
  have hown : s.vm.findClass RX6 = some m.cls := hown
  have hl : lv_has ls 1 [(0, .int p0)] := hl
  have hS : va_S (aA 0 (fun _ => 0) s.heap.size) s.heap s.heap [] := va_S.rf
  obtain ⟨Qz, hQz⟩ : ∃ Qz : State → Prop, Qz = MQ below (qI g ([] : va_W) r (aA 0 (fun _ => 0) s.heap.size)) args s 0 0 (aA 0 (fun _ => 0) s.heap.size) := ⟨_, rfl⟩
  rw [← hQz]
  unfold fX6_isRow at h
  refine lv_iload_n hx hb dX6_isRow_0 rfl (lv_at hl 0 rfl) ?_
  refine lv_iconst (v := 0) hx hb dX6_isRow_1 (by decide) ?_
  refine lv_bipush (v := 7) hx hb dX6_isRow_2 (by decide) ?_
  obtain ⟨r1, e2, h⟩ := bdP_ok h
  refine r_callSi (As := [.int p0, .int 0, .int 7]) (rest := []) (ws' := ([] : va_W)) (ok_X6_in l g p0 0 7 r1 e2) ⟨hx, hb, hml, hown, hts⟩ (cwS 3 hts gX6_isRow_X6_in rfl rfl rfl (by decide +kernel) ⟨Nat.le_of_ble_eq_true rfl, Nat.le_of_ble_eq_true rfl⟩) hK hS nilP (P_A hS.1) (fun _ _ hk => wl_keep hP hk) rfl hl.1 rfl (Nat.le_of_ble_eq_true rfl) dX6_isRow_4 ⟨Nat.zero_le _, Nat.zero_le _⟩ (fun H locs hP hS => ?_)
  obtain ⟨q3, h⟩ := chk_ok h
  rw [hQz]
  exact r_zret (v := r1) hx hb hr hlk hS hP (Option.some.inj h) q3 dX6_isRow_7
def rmX6_ends : Room := { frames := 2, cells := 0, slots := 0, locals := 82 }
set_option maxHeartbeats 4000000 in
set_option maxRecDepth 100000 in
theorem ok_X6_ends (l : Launch) (g : gT) (a : Nat → Nat) (hI : ij 14 a) (p1 : Int32) (M : Mem) (M' : Mem) (r : Int32) (h : fX6_ends p1 M = some (r, M')) : MI l yX6_ends wsX6_ends rmX6_ends g 14 a [.ref (a 0), .int p1] (wl 14 a (eN g a M)) (wl 14 a (eN g a M')) r := by
  refine MI_of (cc := cX6_ends) (maxL := 2) (rt := .int) (by decide) rfl (Nat.le_of_ble_eq_true rfl) ?_
  intro p e s m args below meth c ls hx hb hml hr hlk hts hown hK hP hl
  have hown : s.vm.findClass RX6 = some m.cls := hown
  have hl : lv_has ls 2 [(0, .ref (a 0)), (1, .int p1)] := hl
  have hS : va_S (aA 14 a s.heap.size) s.heap s.heap [] := va_S.rf
  have iX6 : ∀ w ∈ wsX60, w ∈ wsX6_ends := fun w h => List.mem_cons_of_mem _ (List.mem_append_right _ h)
  have w54 := hts (.constant RX6 54 (-1000015)) (by decide +kernel)
  have w55 := hts (.constant RX6 55 (-1000011)) (by decide +kernel)
  have w57 := hts (.fieldLink RX6 57 "StepRidersModel" "status" "I") (by decide +kernel)
  have w56 := hts (.constant RX6 56 (-1000010)) (by decide +kernel)
  obtain ⟨Qz, hQz⟩ : ∃ Qz : State → Prop, Qz = MQ below (qI g (wl 14 a (eN g a M')) r (aA 14 a s.heap.size)) args s 0 0 (aA 14 a s.heap.size) := ⟨_, rfl⟩
  rw [← hQz]
  unfold fX6_ends at h
  refine lv_aload_n hx hb dX6_ends_0 rfl (lv_at hl 0 rfl) ?_
  refine lv_iload_n hx hb dX6_ends_1 rfl (lv_at hl 1 rfl) ?_
  refine lv_ldc (v := (-1000015)) hx hb hown w54 dX6_ends_2 ?_
  refine lv_ldc (v := (-1000011)) hx hb hown w55 dX6_ends_4 ?_
  obtain ⟨r1, e2, h⟩ := bdP_ok h
  refine r_callSi (As := [.int p1, .int (-1000015), .int (-1000011)]) (rest := [.ref (a 0)]) (ws' := (wl 14 a (eN g a M))) (ok_X6_in l g p1 (-1000015) (-1000011) r1 e2) ⟨hx, hb, hml, hown, hts⟩ (cwS 3 hts gX6_ends_X6_in rfl rfl rfl (by decide +kernel) ⟨Nat.le_of_ble_eq_true rfl, Nat.le_of_ble_eq_true rfl⟩) hK hS nilP (P_A hS.1) (fun _ _ hk => wl_keep hP hk) rfl hl.1 rfl (Nat.le_of_ble_eq_true rfl) dX6_ends_6 ⟨Nat.zero_le _, Nat.zero_le _⟩ (fun H locs hP hS => ?_)
  refine lv_if_eq (x := r1) (tgt := 19) hx hb dX6_ends_9 (by decide) (fun q3 => ?_) (fun q3 => ?_)
  · replace h := if_t q3 h
    refine lv_iconst (v := 0) hx hb dX6_ends_19 (by decide) ?_
    refine r_put (v := .int 0) (ty := .int) (f' := eN g a (mp M 0 4 0)) hx hb hts iX6 tyX6 tyX6_ok nmX6 hown hK hI (fun _ h => aA_in h) hP hS 0 (by decide) eN_0 rfl 4 (by decide) w57 rfl (by decide +kernel) rfl rfl (Nat.le_of_ble_eq_true rfl) eN_p4 dX6_ends_20 (fun H locs hP hS => ?_)
    refine lv_iload_n hx hb dX6_ends_23 rfl (lv_at hl 1 rfl) ?_
    rw [hQz]
    exact r_iret (v := p1) hx hb hr hlk hS ((Prod.mk.inj (Option.some.inj h)).2 ▸ hP) (Prod.mk.inj (Option.some.inj h)).1 dX6_ends_24
  · replace h := if_f q3 h
    refine lv_ldc (v := (-1000010)) hx hb hown w56 dX6_ends_12 ?_
    refine lv_iload_n hx hb dX6_ends_14 rfl (lv_at hl 1 rfl) ?_
    refine lv_isub (x := (-1000010)) (y := p1) hx hb dX6_ends_15 ?_
    refine lv_goto (tgt := 20) hx hb dX6_ends_16 (by decide) ?_
    refine r_put (v := .int ((-1000010) - p1)) (ty := .int) (f' := eN g a (mp M 0 4 ((-1000010) - p1))) hx hb hts iX6 tyX6 tyX6_ok nmX6 hown hK hI (fun _ h => aA_in h) hP hS 0 (by decide) eN_0 rfl 4 (by decide) w57 rfl (by decide +kernel) rfl rfl (Nat.le_of_ble_eq_true rfl) eN_p4 dX6_ends_20 (fun H locs hP hS => ?_)
    refine lv_iload_n hx hb dX6_ends_23 rfl (lv_at hl 1 rfl) ?_
    rw [hQz]
    exact r_iret (v := p1) hx hb hr hlk hS ((Prod.mk.inj (Option.some.inj h)).2 ▸ hP) (Prod.mk.inj (Option.some.inj h)).1 dX6_ends_24
def rmX6_cut : Room := { frames := 1, cells := 0, slots := 0, locals := 60 }
set_option maxHeartbeats 4000000 in
set_option maxRecDepth 100000 in
theorem ok_X6_cut (l : Launch) (g : gT) (p0 : Int32) (p1 : Int32) (r : Int32) (h : fX6_cut p0 p1 = some r) : MI l yX6_cut wsX6_cut rmX6_cut g 0 (fun _ => 0) [.int p0, .int p1] ([] : va_W) ([] : va_W) r := by
  refine MI_of (cc := cX6_cut) (maxL := 2) (rt := .int) (by decide) rfl (Nat.le_of_ble_eq_true rfl) ?_
  intro p e s m args below meth c ls hx hb hml hr hlk hts hown hK hP hl
  have hown : s.vm.findClass RX6 = some m.cls := hown
  have hl : lv_has ls 2 [(0, .int p0), (1, .int p1)] := hl
  have hS : va_S (aA 0 (fun _ => 0) s.heap.size) s.heap s.heap [] := va_S.rf
  obtain ⟨Qz, hQz⟩ : ∃ Qz : State → Prop, Qz = MQ below (qI g ([] : va_W) r (aA 0 (fun _ => 0) s.heap.size)) args s 0 0 (aA 0 (fun _ => 0) s.heap.size) := ⟨_, rfl⟩
  rw [← hQz]
  unfold fX6_cut at h
  refine lv_iload_n hx hb dX6_cut_0 rfl (lv_at hl 0 rfl) ?_
  refine lv_if_ne (x := p0) (tgt := 9) hx hb dX6_cut_1 (by decide) (fun q1 => ?_) (fun q1 => ?_)
  · replace h := if_f q1 h
    refine lv_iload_n hx hb dX6_cut_9 rfl (lv_at hl 0 rfl) ?_
    refine lv_iconst (v := 1) hx hb dX6_cut_10 (by decide) ?_
    refine lv_icmp_ne (x := p0) (y := 1) (tgt := 19) hx hb dX6_cut_11 (by decide) (fun q2 => ?_) (fun q2 => ?_)
    · replace h := if_f q2 h
      refine lv_iload_n hx hb dX6_cut_19 rfl (lv_at hl 1 rfl) ?_
      rw [hQz]
      exact r_iret (v := p1) hx hb hr hlk hS hP (Option.some.inj h) dX6_cut_20
    · replace h := if_t q2 h
      refine lv_iload_n hx hb dX6_cut_14 rfl (lv_at hl 1 rfl) ?_
      refine lv_i2s (x := p1) hx hb dX6_cut_15 rfl ?_
      refine lv_goto (tgt := 20) hx hb dX6_cut_16 (by decide) ?_
      rw [hQz]
      exact r_iret (v := ((Int32.toInt16 p1).toInt32)) hx hb hr hlk hS hP (Option.some.inj h) dX6_cut_20
  · replace h := if_t q1 h
    refine lv_iload_n hx hb dX6_cut_4 rfl (lv_at hl 1 rfl) ?_
    refine lv_i2b (x := p1) hx hb dX6_cut_5 rfl ?_
    refine lv_goto (tgt := 20) hx hb dX6_cut_6 (by decide) ?_
    rw [hQz]
    exact r_iret (v := ((Int32.toInt8 p1).toInt32)) hx hb hr hlk hS hP (Option.some.inj h) dX6_cut_20
def rmX6_row : Room := { frames := 3, cells := 0, slots := 0, locals := 103 }
set_option maxHeartbeats 4000000 in
set_option maxRecDepth 100000 in
theorem ok_X6_row (l : Launch) (g : gT) (a : Nat → Nat) (hI : ij 14 a) (p1 : Int32) (p2 : Int32) (p3 : Int32) (M : Mem) (M' : Mem) (r : Int32) (h : fX6_row p1 p2 p3 M = some (r, M')) : MI l yX6_row wsX6_row rmX6_row g 14 a [.ref (a 0), .int p1, .int p2, .int p3] (wl 14 a (eN g a M)) (wl 14 a (eN g a M')) r := by
  refine MI_of (cc := cX6_row) (maxL := 5) (rt := .int) (by decide) rfl (Nat.le_of_ble_eq_true rfl) ?_
  intro p e s m args below meth c ls hx hb hml hr hlk hts hown hK hP hl
  have hown : s.vm.findClass RX6 = some m.cls := hown
  have hl : lv_has ls 5 [(0, .ref (a 0)), (1, .int p1), (2, .int p2), (3, .int p3)] := hl
  have hS : va_S (aA 14 a s.heap.size) s.heap s.heap [] := va_S.rf
  have iX6 : ∀ w ∈ wsX60, w ∈ wsX6_row := fun w h => List.mem_cons_of_mem _ (List.mem_append_right _ h)
  have w16 := hts (.fieldLink RX6 16 "StepRidersModel" "items" "[I") (by decide +kernel)
  have w65 := hts (.constant RX6 65 (-1000001)) (by decide +kernel)
  have w7 := hts (.fieldLink RX6 7 "StepRidersModel" "sizes" "[I") (by decide +kernel)
  have w13 := hts (.fieldLink RX6 13 "StepRidersModel" "widths" "[I") (by decide +kernel)
  have w66 := hts (.constant RX6 66 (-1000014)) (by decide +kernel)
  obtain ⟨Qz, hQz⟩ : ∃ Qz : State → Prop, Qz = MQ below (qI g (wl 14 a (eN g a M')) r (aA 14 a s.heap.size)) args s 0 0 (aA 14 a s.heap.size) := ⟨_, rfl⟩
  rw [← hQz]
  have B53 : ∀ (k53 : Int32 → Mem → Option (Int32 × Mem)) (C53 : ∀ (x4 : Int32) (M : Mem) (H : Heap) (locs : List Loc) (ls : Array Slot), k53 x4 M = some (r, M') → va_P g.1 vwCl (wl 14 a (eN g a M)) H → va_S (aA 14 a s.heap.size) s.heap H locs → lv_has ls 5 [(0, .ref (a 0)), (1, .int p1), (2, .int p2), (3, .int p3), (4, .int x4)] → W p l e rmX6_row s m args below meth c H locs 0 0 Qz (F0 m 53 ls [])), ∀ (x4 : Int32) (M : Mem) (H : Heap) (locs : List Loc) (ls : Array Slot), fX6_row_b53 p1 p2 p3 k53 x4 M = some (r, M') → va_P g.1 vwCl (wl 14 a (eN g a M)) H → va_S (aA 14 a s.heap.size) s.heap H locs → lv_has ls 5 [(0, .ref (a 0)), (1, .int p1), (2, .int p2), (3, .int p3), (4, .int x4)] → W p l e rmX6_row s m args below meth c H locs 0 0 Qz (F0 m 53 ls []) := by
    intro k53 C53 x4 M H locs ls h hP hS hl
    unfold fX6_row_b53 at h
    refine lv_iload hx hb dX6_row_53 (lv_at hl 4 rfl) ?_
    refine lv_bipush (v := 40) hx hb dX6_row_55 (by decide) ?_
    refine lv_icmp_ge (x := x4) (y := 40) (tgt := 79) hx hb dX6_row_57 (by decide) (fun q1 => ?_) (fun q1 => ?_)
    · replace h := if_t q1 h
      refine lv_aload_n hx hb dX6_row_79 rfl (lv_at hl 0 rfl) ?_
      refine lv_iload_n hx hb dX6_row_80 rfl (lv_at hl 3 rfl) ?_
      obtain ⟨r2, M4, e3, h⟩ := bdI_ok h
      refine r_callVi (As := [.int p3]) (rest := []) (ws' := (wl 14 a (eN g a M4))) (ok_X6_ends l g a hI p3 M M4 r2 e3) ⟨hx, hb, hml, hown, hts⟩ (cwV 1 hts gX6_row_X6_ends rfl rfl rfl (by decide +kernel) ⟨Nat.le_of_ble_eq_true rfl, Nat.le_of_ble_eq_true rfl⟩) hK (r_recv hK hP 0 (by decide) eN_0 (show vwCl[6]? = some (RX6, TX6, 20) from rfl)) hS hP (fun _ hq => aA_mono hS.1 hq) (fun _ h _ => h) rfl hl.1 rfl (Nat.le_of_ble_eq_true rfl) dX6_row_81 ⟨Nat.zero_le _, Nat.zero_le _⟩ (fun H locs hP hS => ?_)
      rw [hQz]
      exact r_iret (v := r2) hx hb hr hlk hS ((Prod.mk.inj (Option.some.inj h)).2 ▸ hP) (Prod.mk.inj (Option.some.inj h)).1 dX6_row_84
    · replace h := if_f q1 h
      refine lv_aload_n hx hb dX6_row_60 rfl (lv_at hl 0 rfl) ?_
      refine r_get (v := .ref (a 3)) hx hb hts iX6 hown hK hP 0 (by decide) eN_0 rfl 2 (by decide) w16 rfl dX6_row_61 ?_
      refine lv_bipush (v := 40) hx hb dX6_row_64 (by decide) ?_
      refine lv_iload_n hx hb dX6_row_66 rfl (lv_at hl 1 rfl) ?_
      refine lv_imul (x := 40) (y := p1) hx hb dX6_row_67 ?_
      refine lv_iload hx hb dX6_row_68 (lv_at hl 4 rfl) ?_
      refine lv_iadd (x := (40 * p1)) (y := x4) hx hb dX6_row_70 ?_
      refine lv_iconst (v := 0) hx hb dX6_row_71 (by decide) ?_
      obtain ⟨q5, h⟩ := chk_ok h
      refine r_iast (i := ((40 * p1) + x4)) (x := 0) (h := M 3) (f' := eN g a (mp M 3 (Int32.toNatClampNeg ((40 * p1) + x4)) 0)) hx hb hK hI (fun _ h => aA_in h) hP hS 3 (by decide) rfl q5 (eN_ua (fun _ => rfl)) dX6_row_72 (fun H locs hP hS => ?_)
      refine lv_iinc (v := (x4 + 1)) (lv' := [(4, .int (x4 + 1)), (0, .ref (a 0)), (1, .int p1), (2, .int p2), (3, .int p3)]) hx hb dX6_row_73 hl (k := 4) rfl rfl (by decide) rfl (fun ls hl => ?_)
      refine lv_goto (tgt := 53) hx hb dX6_row_76 (by decide) ?_
      exact C53 (x4 + 1) (mp M 3 (Int32.toNatClampNeg ((40 * p1) + x4)) 0) _ _ _ h hP hS (lv_sub hl [1, 2, 3, 4, 0] rfl)
  have L53 : ∀ (n : Nat), ∀ (x4 : Int32) (M : Mem) (H : Heap) (locs : List Loc) (ls : Array Slot), fX6_row_l53 p1 p2 p3 n x4 M = some (r, M') → va_P g.1 vwCl (wl 14 a (eN g a M)) H → va_S (aA 14 a s.heap.size) s.heap H locs → lv_has ls 5 [(0, .ref (a 0)), (1, .int p1), (2, .int p2), (3, .int p3), (4, .int x4)] → W p l e rmX6_row s m args below meth c H locs 0 0 Qz (F0 m 53 ls []) := by
    intro n
    induction n with
    | zero => intro x4 M H locs ls h; exact absurd (show (none : Option (Int32 × Mem)) = some _ from h) (fun z => by cases z)
    | succ n ih => exact fun x4 M H locs ls h hP hS hl => B53 (fX6_row_l53 p1 p2 p3 n) ih x4 M H locs ls h hP hS hl
  unfold fX6_row at h
  refine lv_iload_n hx hb dX6_row_0 rfl (lv_at hl 1 rfl) ?_
  obtain ⟨r1, e2, h⟩ := bdP_ok h
  refine r_callSi (As := [.int p1]) (rest := []) (ws' := (wl 14 a (eN g a M))) (ok_X6_isRow l g p1 r1 e2) ⟨hx, hb, hml, hown, hts⟩ (cwS 1 hts gX6_row_X6_isRow rfl rfl rfl (by decide +kernel) ⟨Nat.le_of_ble_eq_true rfl, Nat.le_of_ble_eq_true rfl⟩) hK hS nilP (P_A hS.1) (fun _ _ hk => wl_keep hP hk) rfl hl.1 rfl (Nat.le_of_ble_eq_true rfl) dX6_row_1 ⟨Nat.zero_le _, Nat.zero_le _⟩ (fun H locs hP hS => ?_)
  refine lv_if_eq (x := r1) (tgt := 22) hx hb dX6_row_4 (by decide) (fun q3 => ?_) (fun q3 => ?_)
  · replace h := if_t q3 h
    refine lv_ldc (v := (-1000001)) hx hb hown w65 dX6_row_22 ?_
    rw [hQz]
    exact r_iret (v := (-1000001)) hx hb hr hlk hS ((Prod.mk.inj (Option.some.inj h)).2 ▸ hP) (Prod.mk.inj (Option.some.inj h)).1 dX6_row_24
  · replace h := if_f q3 h
    refine lv_iload_n hx hb dX6_row_7 rfl (lv_at hl 2 rfl) ?_
    refine lv_iconst (v := 0) hx hb dX6_row_8 (by decide) ?_
    refine lv_iconst (v := 2) hx hb dX6_row_9 (by decide) ?_
    obtain ⟨r4, e5, h⟩ := bdP_ok h
    refine r_callSi (As := [.int p2, .int 0, .int 2]) (rest := []) (ws' := (wl 14 a (eN g a M))) (ok_X6_in l g p2 0 2 r4 e5) ⟨hx, hb, hml, hown, hts⟩ (cwS 3 hts gX6_row_X6_in rfl rfl rfl (by decide +kernel) ⟨Nat.le_of_ble_eq_true rfl, Nat.le_of_ble_eq_true rfl⟩) hK hS nilP (P_A hS.1) (fun _ _ hk => wl_keep hP hk) rfl hl.1 rfl (Nat.le_of_ble_eq_true rfl) dX6_row_10 ⟨Nat.zero_le _, Nat.zero_le _⟩ (fun H locs hP hS => ?_)
    refine lv_if_eq (x := r4) (tgt := 22) hx hb dX6_row_13 (by decide) (fun q6 => ?_) (fun q6 => ?_)
    · replace h := if_t q6 h
      refine lv_ldc (v := (-1000001)) hx hb hown w65 dX6_row_22 ?_
      rw [hQz]
      exact r_iret (v := (-1000001)) hx hb hr hlk hS ((Prod.mk.inj (Option.some.inj h)).2 ▸ hP) (Prod.mk.inj (Option.some.inj h)).1 dX6_row_24
    · replace h := if_f q6 h
      refine lv_iload_n hx hb dX6_row_16 rfl (lv_at hl 3 rfl) ?_
      refine lv_bipush (v := 40) hx hb dX6_row_17 (by decide) ?_
      refine lv_icmp_le (x := p3) (y := 40) (tgt := 25) hx hb dX6_row_19 (by decide) (fun q7 => ?_) (fun q7 => ?_)
      · replace h := if_t q7 h
        refine lv_iload_n hx hb dX6_row_25 rfl (lv_at hl 3 rfl) ?_
        refine lv_if_ge (x := p3) (tgt := 36) hx hb dX6_row_26 (by decide) (fun q8 => ?_) (fun q8 => ?_)
        · replace h := if_t q8 h
          refine lv_aload_n hx hb dX6_row_36 rfl (lv_at hl 0 rfl) ?_
          refine r_get (v := .ref (a 1)) hx hb hts iX6 hown hK hP 0 (by decide) eN_0 rfl 0 (by decide) w7 rfl dX6_row_37 ?_
          refine lv_iload_n hx hb dX6_row_40 rfl (lv_at hl 1 rfl) ?_
          refine lv_iload_n hx hb dX6_row_41 rfl (lv_at hl 3 rfl) ?_
          obtain ⟨q9, h⟩ := chk_ok h
          refine r_iast (i := p1) (x := p3) (h := M 1) (f' := eN g a (mp M 1 (Int32.toNatClampNeg p1) p3)) hx hb hK hI (fun _ h => aA_in h) hP hS 1 (by decide) rfl q9 (eN_ua (fun _ => rfl)) dX6_row_42 (fun H locs hP hS => ?_)
          refine lv_aload_n hx hb dX6_row_43 rfl (lv_at hl 0 rfl) ?_
          refine r_get (v := .ref (a 2)) hx hb hts iX6 hown hK hP 0 (by decide) eN_0 rfl 1 (by decide) w13 rfl dX6_row_44 ?_
          refine lv_iload_n hx hb dX6_row_47 rfl (lv_at hl 1 rfl) ?_
          refine lv_iload_n hx hb dX6_row_48 rfl (lv_at hl 2 rfl) ?_
          obtain ⟨q10, h⟩ := chk_ok h
          refine r_iast (i := p1) (x := p2) (h := (mp M 1 (Int32.toNatClampNeg p1) p3) 2) (f' := eN g a (mp (mp M 1 (Int32.toNatClampNeg p1) p3) 2 (Int32.toNatClampNeg p1) p2)) hx hb hK hI (fun _ h => aA_in h) hP hS 2 (by decide) rfl q10 (eN_ua (fun _ => rfl)) dX6_row_49 (fun H locs hP hS => ?_)
          refine lv_iconst (v := 0) hx hb dX6_row_50 (by decide) ?_
          refine lv_istore (lv' := [(4, .int 0), (0, .ref (a 0)), (1, .int p1), (2, .int p2), (3, .int p3)]) hx hb dX6_row_51 hl (by decide) rfl (fun ls hl => ?_)
          exact L53 FU 0 (mp (mp M 1 (Int32.toNatClampNeg p1) p3) 2 (Int32.toNatClampNeg p1) p2) _ _ _ h hP hS (lv_sub hl [1, 2, 3, 4, 0] rfl)
        · replace h := if_f q8 h
          refine lv_aload_n hx hb dX6_row_29 rfl (lv_at hl 0 rfl) ?_
          refine lv_ldc (v := (-1000014)) hx hb hown w66 dX6_row_30 ?_
          obtain ⟨r11, M13, e12, h⟩ := bdI_ok h
          refine r_callVi (As := [.int (-1000014)]) (rest := []) (ws' := (wl 14 a (eN g a M13))) (ok_X6_ends l g a hI (-1000014) M M13 r11 e12) ⟨hx, hb, hml, hown, hts⟩ (cwV 1 hts gX6_row_X6_ends rfl rfl rfl (by decide +kernel) ⟨Nat.le_of_ble_eq_true rfl, Nat.le_of_ble_eq_true rfl⟩) hK (r_recv hK hP 0 (by decide) eN_0 (show vwCl[6]? = some (RX6, TX6, 20) from rfl)) hS hP (fun _ hq => aA_mono hS.1 hq) (fun _ h _ => h) rfl hl.1 rfl (Nat.le_of_ble_eq_true rfl) dX6_row_32 ⟨Nat.zero_le _, Nat.zero_le _⟩ (fun H locs hP hS => ?_)
          rw [hQz]
          exact r_iret (v := r11) hx hb hr hlk hS ((Prod.mk.inj (Option.some.inj h)).2 ▸ hP) (Prod.mk.inj (Option.some.inj h)).1 dX6_row_35
      · replace h := if_f q7 h
        refine lv_ldc (v := (-1000001)) hx hb hown w65 dX6_row_22 ?_
        rw [hQz]
        exact r_iret (v := (-1000001)) hx hb hr hlk hS ((Prod.mk.inj (Option.some.inj h)).2 ▸ hP) (Prod.mk.inj (Option.some.inj h)).1 dX6_row_24
def rmX6_lies : Room := { frames := 1, cells := 0, slots := 0, locals := 60 }
set_option maxHeartbeats 4000000 in
set_option maxRecDepth 100000 in
theorem ok_X6_lies (l : Launch) (g : gT) (a : Nat → Nat) (hI : ij 14 a) (p1 : Int32) (p2 : Int32) (p3 : Int32) (M : Mem) (r : Int32) (h : fX6_lies p1 p2 p3 M = some r) : MI l yX6_lies wsX6_lies rmX6_lies g 14 a [.ref (a 0), .int p1, .int p2, .int p3] (wl 14 a (eN g a M)) (wl 14 a (eN g a M)) r := by
  refine MI_of (cc := cX6_lies) (maxL := 4) (rt := .boolean) (by decide) rfl (Nat.le_of_ble_eq_true rfl) ?_
  intro p e s m args below meth c ls hx hb hml hr hlk hts hown hK hP hl
  have hown : s.vm.findClass RX6 = some m.cls := hown
  have hl : lv_has ls 4 [(0, .ref (a 0)), (1, .int p1), (2, .int p2), (3, .int p3)] := hl
  have hS : va_S (aA 14 a s.heap.size) s.heap s.heap [] := va_S.rf
  have iX6 : ∀ w ∈ wsX60, w ∈ wsX6_lies := fun w h => List.mem_cons_of_mem _ (List.mem_append_right _ h)
  have w7 := hts (.fieldLink RX6 7 "StepRidersModel" "sizes" "[I") (by decide +kernel)
  obtain ⟨Qz, hQz⟩ : ∃ Qz : State → Prop, Qz = MQ below (qI g (wl 14 a (eN g a M)) r (aA 14 a s.heap.size)) args s 0 0 (aA 14 a s.heap.size) := ⟨_, rfl⟩
  rw [← hQz]
  unfold fX6_lies at h
  refine lv_iload_n hx hb dX6_lies_0 rfl (lv_at hl 2 rfl) ?_
  refine lv_if_lt (x := p2) (tgt := 34) hx hb dX6_lies_1 (by decide) (fun q1 => ?_) (fun q1 => ?_)
  · replace h := if_t q1 h
    refine lv_iconst (v := 0) hx hb dX6_lies_34 (by decide) ?_
    rw [hQz]
    exact r_zret (v := 0) hx hb hr hlk hS hP (Option.some.inj h) (by decide) dX6_lies_35
  · replace h := if_f q1 h
    refine lv_iload_n hx hb dX6_lies_4 rfl (lv_at hl 3 rfl) ?_
    refine lv_if_lt (x := p3) (tgt := 34) hx hb dX6_lies_5 (by decide) (fun q2 => ?_) (fun q2 => ?_)
    · replace h := if_t q2 h
      refine lv_iconst (v := 0) hx hb dX6_lies_34 (by decide) ?_
      rw [hQz]
      exact r_zret (v := 0) hx hb hr hlk hS hP (Option.some.inj h) (by decide) dX6_lies_35
    · replace h := if_f q2 h
      refine lv_iload_n hx hb dX6_lies_8 rfl (lv_at hl 3 rfl) ?_
      refine lv_aload_n hx hb dX6_lies_9 rfl (lv_at hl 0 rfl) ?_
      refine r_get (v := .ref (a 1)) hx hb hts iX6 hown hK hP 0 (by decide) eN_0 rfl 0 (by decide) w7 rfl dX6_lies_10 ?_
      refine lv_iload_n hx hb dX6_lies_13 rfl (lv_at hl 1 rfl) ?_
      obtain ⟨q3, h⟩ := chk_ok h
      refine r_iald (i := p1) (h := M 1) hx hb hK hP 1 (by decide) rfl q3 dX6_lies_14 ?_
      refine lv_icmp_gt (x := p3) (y := (M 1 (Int32.toNatClampNeg p1))) (tgt := 34) hx hb dX6_lies_15 (by decide) (fun q4 => ?_) (fun q4 => ?_)
      · replace h := if_t q4 h
        refine lv_iconst (v := 0) hx hb dX6_lies_34 (by decide) ?_
        rw [hQz]
        exact r_zret (v := 0) hx hb hr hlk hS hP (Option.some.inj h) (by decide) dX6_lies_35
      · replace h := if_f q4 h
        refine lv_iload_n hx hb dX6_lies_18 rfl (lv_at hl 2 rfl) ?_
        refine lv_aload_n hx hb dX6_lies_19 rfl (lv_at hl 0 rfl) ?_
        refine r_get (v := .ref (a 1)) hx hb hts iX6 hown hK hP 0 (by decide) eN_0 rfl 0 (by decide) w7 rfl dX6_lies_20 ?_
        refine lv_iload_n hx hb dX6_lies_23 rfl (lv_at hl 1 rfl) ?_
        obtain ⟨q5, h⟩ := chk_ok h
        refine r_iald (i := p1) (h := M 1) hx hb hK hP 1 (by decide) rfl q5 dX6_lies_24 ?_
        refine lv_iload_n hx hb dX6_lies_25 rfl (lv_at hl 3 rfl) ?_
        refine lv_isub (x := (M 1 (Int32.toNatClampNeg p1))) (y := p3) hx hb dX6_lies_26 ?_
        refine lv_icmp_gt (x := p2) (y := ((M 1 (Int32.toNatClampNeg p1)) - p3)) (tgt := 34) hx hb dX6_lies_27 (by decide) (fun q6 => ?_) (fun q6 => ?_)
        · replace h := if_t q6 h
          refine lv_iconst (v := 0) hx hb dX6_lies_34 (by decide) ?_
          rw [hQz]
          exact r_zret (v := 0) hx hb hr hlk hS hP (Option.some.inj h) (by decide) dX6_lies_35
        · replace h := if_f q6 h
          refine lv_iconst (v := 1) hx hb dX6_lies_30 (by decide) ?_
          refine lv_goto (tgt := 35) hx hb dX6_lies_31 (by decide) ?_
          rw [hQz]
          exact r_zret (v := 1) hx hb hr hlk hS hP (Option.some.inj h) (by decide) dX6_lies_35
def rmX6_set : Room := { frames := 3, cells := 0, slots := 0, locals := 103 }
set_option maxHeartbeats 4000000 in
set_option maxRecDepth 100000 in
theorem ok_X6_set (l : Launch) (g : gT) (a : Nat → Nat) (hI : ij 14 a) (p1 : Int32) (p2 : Int32) (p3 : Int32) (M : Mem) (M' : Mem) (r : Int32) (h : fX6_set p1 p2 p3 M = some (r, M')) : MI l yX6_set wsX6_set rmX6_set g 14 a [.ref (a 0), .int p1, .int p2, .int p3] (wl 14 a (eN g a M)) (wl 14 a (eN g a M')) r := by
  refine MI_of (cc := cX6_set) (maxL := 5) (rt := .int) (by decide) rfl (Nat.le_of_ble_eq_true rfl) ?_
  intro p e s m args below meth c ls hx hb hml hr hlk hts hown hK hP hl
  have hown : s.vm.findClass RX6 = some m.cls := hown
  have hl : lv_has ls 5 [(0, .ref (a 0)), (1, .int p1), (2, .int p2), (3, .int p3)] := hl
  have hS : va_S (aA 14 a s.heap.size) s.heap s.heap [] := va_S.rf
  have iX6 : ∀ w ∈ wsX60, w ∈ wsX6_set := fun w h => List.mem_cons_of_mem _ (List.mem_append_right _ h)
  have w7 := hts (.fieldLink RX6 7 "StepRidersModel" "sizes" "[I") (by decide +kernel)
  have w13 := hts (.fieldLink RX6 13 "StepRidersModel" "widths" "[I") (by decide +kernel)
  have w16 := hts (.fieldLink RX6 16 "StepRidersModel" "items" "[I") (by decide +kernel)
  have w57 := hts (.fieldLink RX6 57 "StepRidersModel" "status" "I") (by decide +kernel)
  have w74 := hts (.constant RX6 74 (-1000012)) (by decide +kernel)
  have w55 := hts (.constant RX6 55 (-1000011)) (by decide +kernel)
  have w65 := hts (.constant RX6 65 (-1000001)) (by decide +kernel)
  obtain ⟨Qz, hQz⟩ : ∃ Qz : State → Prop, Qz = MQ below (qI g (wl 14 a (eN g a M')) r (aA 14 a s.heap.size)) args s 0 0 (aA 14 a s.heap.size) := ⟨_, rfl⟩
  rw [← hQz]
  unfold fX6_set at h
  refine lv_iload_n hx hb dX6_set_0 rfl (lv_at hl 1 rfl) ?_
  obtain ⟨r1, e2, h⟩ := bdP_ok h
  refine r_callSi (As := [.int p1]) (rest := []) (ws' := (wl 14 a (eN g a M))) (ok_X6_isRow l g p1 r1 e2) ⟨hx, hb, hml, hown, hts⟩ (cwS 1 hts gX6_set_X6_isRow rfl rfl rfl (by decide +kernel) ⟨Nat.le_of_ble_eq_true rfl, Nat.le_of_ble_eq_true rfl⟩) hK hS nilP (P_A hS.1) (fun _ _ hk => wl_keep hP hk) rfl hl.1 rfl (Nat.le_of_ble_eq_true rfl) dX6_set_1 ⟨Nat.zero_le _, Nat.zero_le _⟩ (fun H locs hP hS => ?_)
  refine lv_if_ne (x := r1) (tgt := 10) hx hb dX6_set_4 (by decide) (fun q3 => ?_) (fun q3 => ?_)
  · replace h := if_f q3 h
    refine lv_aload_n hx hb dX6_set_10 rfl (lv_at hl 0 rfl) ?_
    refine r_get (v := .ref (a 1)) hx hb hts iX6 hown hK hP 0 (by decide) eN_0 rfl 0 (by decide) w7 rfl dX6_set_11 ?_
    refine lv_iload_n hx hb dX6_set_14 rfl (lv_at hl 1 rfl) ?_
    obtain ⟨q4, h⟩ := chk_ok h
    refine r_iald (i := p1) (h := M 1) hx hb hK hP 1 (by decide) rfl q4 dX6_set_15 ?_
    refine lv_if_ge (x := (M 1 (Int32.toNatClampNeg p1))) (tgt := 26) hx hb dX6_set_16 (by decide) (fun q5 => ?_) (fun q5 => ?_)
    · replace h := if_t q5 h
      refine lv_aload_n hx hb dX6_set_26 rfl (lv_at hl 0 rfl) ?_
      refine lv_iload_n hx hb dX6_set_27 rfl (lv_at hl 1 rfl) ?_
      refine lv_iload_n hx hb dX6_set_28 rfl (lv_at hl 2 rfl) ?_
      refine lv_iconst (v := 1) hx hb dX6_set_29 (by decide) ?_
      obtain ⟨r6, e7, h⟩ := bdP_ok h
      refine r_callVi (As := [.int p1, .int p2, .int 1]) (rest := []) (ws' := (wl 14 a (eN g a M))) (ok_X6_lies l g a hI p1 p2 1 M r6 e7) ⟨hx, hb, hml, hown, hts⟩ (cwV 3 hts gX6_set_X6_lies rfl rfl rfl (by decide +kernel) ⟨Nat.le_of_ble_eq_true rfl, Nat.le_of_ble_eq_true rfl⟩) hK (r_recv hK hP 0 (by decide) eN_0 (show vwCl[6]? = some (RX6, TX6, 20) from rfl)) hS hP (fun _ hq => aA_mono hS.1 hq) (fun _ h _ => h) rfl hl.1 rfl (Nat.le_of_ble_eq_true rfl) dX6_set_30 ⟨Nat.zero_le _, Nat.zero_le _⟩ (fun H locs hP hS => ?_)
      refine lv_if_ne (x := r6) (tgt := 43) hx hb dX6_set_33 (by decide) (fun q8 => ?_) (fun q8 => ?_)
      · replace h := if_f q8 h
        refine lv_aload_n hx hb dX6_set_43 rfl (lv_at hl 0 rfl) ?_
        refine r_get (v := .ref (a 2)) hx hb hts iX6 hown hK hP 0 (by decide) eN_0 rfl 1 (by decide) w13 rfl dX6_set_44 ?_
        refine lv_iload_n hx hb dX6_set_47 rfl (lv_at hl 1 rfl) ?_
        obtain ⟨q9, h⟩ := chk_ok h
        refine r_iald (i := p1) (h := M 2) hx hb hK hP 2 (by decide) rfl q9 dX6_set_48 ?_
        refine lv_iload_n hx hb dX6_set_49 rfl (lv_at hl 3 rfl) ?_
        obtain ⟨r10, e11, h⟩ := bdP_ok h
        refine r_callSi (As := [.int (M 2 (Int32.toNatClampNeg p1)), .int p3]) (rest := []) (ws' := (wl 14 a (eN g a M))) (ok_X6_cut l g (M 2 (Int32.toNatClampNeg p1)) p3 r10 e11) ⟨hx, hb, hml, hown, hts⟩ (cwS 2 hts gX6_set_X6_cut rfl rfl rfl (by decide +kernel) ⟨Nat.le_of_ble_eq_true rfl, Nat.le_of_ble_eq_true rfl⟩) hK hS nilP (P_A hS.1) (fun _ _ hk => wl_keep hP hk) rfl hl.1 rfl (Nat.le_of_ble_eq_true rfl) dX6_set_50 ⟨Nat.zero_le _, Nat.zero_le _⟩ (fun H locs hP hS => ?_)
        refine lv_istore (lv' := [(4, .int r10), (0, .ref (a 0)), (1, .int p1), (2, .int p2), (3, .int p3)]) hx hb dX6_set_53 hl (by decide) rfl (fun ls hl => ?_)
        refine lv_aload_n hx hb dX6_set_55 rfl (lv_at hl 1 rfl) ?_
        refine r_get (v := .ref (a 3)) hx hb hts iX6 hown hK hP 0 (by decide) eN_0 rfl 2 (by decide) w16 rfl dX6_set_56 ?_
        refine lv_bipush (v := 40) hx hb dX6_set_59 (by decide) ?_
        refine lv_iload_n hx hb dX6_set_61 rfl (lv_at hl 2 rfl) ?_
        refine lv_imul (x := 40) (y := p1) hx hb dX6_set_62 ?_
        refine lv_iload_n hx hb dX6_set_63 rfl (lv_at hl 3 rfl) ?_
        refine lv_iadd (x := (40 * p1)) (y := p2) hx hb dX6_set_64 ?_
        refine lv_iload hx hb dX6_set_65 (lv_at hl 0 rfl) ?_
        obtain ⟨q12, h⟩ := chk_ok h
        refine r_iast (i := ((40 * p1) + p2)) (x := r10) (h := M 3) (f' := eN g a (mp M 3 (Int32.toNatClampNeg ((40 * p1) + p2)) r10)) hx hb hK hI (fun _ h => aA_in h) hP hS 3 (by decide) rfl q12 (eN_ua (fun _ => rfl)) dX6_set_67 (fun H locs hP hS => ?_)
        refine lv_aload_n hx hb dX6_set_68 rfl (lv_at hl 1 rfl) ?_
        refine lv_iconst (v := 0) hx hb dX6_set_69 (by decide) ?_
        refine r_put (v := .int 0) (ty := .int) (f' := eN g a (mp (mp M 3 (Int32.toNatClampNeg ((40 * p1) + p2)) r10) 0 4 0)) hx hb hts iX6 tyX6 tyX6_ok nmX6 hown hK hI (fun _ h => aA_in h) hP hS 0 (by decide) eN_0 rfl 4 (by decide) w57 rfl (by decide +kernel) rfl rfl (Nat.le_of_ble_eq_true rfl) eN_p4 dX6_set_70 (fun H locs hP hS => ?_)
        refine lv_iload hx hb dX6_set_73 (lv_at hl 0 rfl) ?_
        rw [hQz]
        exact r_iret (v := r10) hx hb hr hlk hS ((Prod.mk.inj (Option.some.inj h)).2 ▸ hP) (Prod.mk.inj (Option.some.inj h)).1 dX6_set_75
      · replace h := if_t q8 h
        refine lv_aload_n hx hb dX6_set_36 rfl (lv_at hl 0 rfl) ?_
        refine lv_ldc (v := (-1000012)) hx hb hown w74 dX6_set_37 ?_
        obtain ⟨r13, M15, e14, h⟩ := bdI_ok h
        refine r_callVi (As := [.int (-1000012)]) (rest := []) (ws' := (wl 14 a (eN g a M15))) (ok_X6_ends l g a hI (-1000012) M M15 r13 e14) ⟨hx, hb, hml, hown, hts⟩ (cwV 1 hts gX6_set_X6_ends rfl rfl rfl (by decide +kernel) ⟨Nat.le_of_ble_eq_true rfl, Nat.le_of_ble_eq_true rfl⟩) hK (r_recv hK hP 0 (by decide) eN_0 (show vwCl[6]? = some (RX6, TX6, 20) from rfl)) hS hP (fun _ hq => aA_mono hS.1 hq) (fun _ h _ => h) rfl hl.1 rfl (Nat.le_of_ble_eq_true rfl) dX6_set_39 ⟨Nat.zero_le _, Nat.zero_le _⟩ (fun H locs hP hS => ?_)
        rw [hQz]
        exact r_iret (v := r13) hx hb hr hlk hS ((Prod.mk.inj (Option.some.inj h)).2 ▸ hP) (Prod.mk.inj (Option.some.inj h)).1 dX6_set_42
    · replace h := if_f q5 h
      refine lv_aload_n hx hb dX6_set_19 rfl (lv_at hl 0 rfl) ?_
      refine lv_ldc (v := (-1000011)) hx hb hown w55 dX6_set_20 ?_
      obtain ⟨r16, M18, e17, h⟩ := bdI_ok h
      refine r_callVi (As := [.int (-1000011)]) (rest := []) (ws' := (wl 14 a (eN g a M18))) (ok_X6_ends l g a hI (-1000011) M M18 r16 e17) ⟨hx, hb, hml, hown, hts⟩ (cwV 1 hts gX6_set_X6_ends rfl rfl rfl (by decide +kernel) ⟨Nat.le_of_ble_eq_true rfl, Nat.le_of_ble_eq_true rfl⟩) hK (r_recv hK hP 0 (by decide) eN_0 (show vwCl[6]? = some (RX6, TX6, 20) from rfl)) hS hP (fun _ hq => aA_mono hS.1 hq) (fun _ h _ => h) rfl hl.1 rfl (Nat.le_of_ble_eq_true rfl) dX6_set_22 ⟨Nat.zero_le _, Nat.zero_le _⟩ (fun H locs hP hS => ?_)
      rw [hQz]
      exact r_iret (v := r16) hx hb hr hlk hS ((Prod.mk.inj (Option.some.inj h)).2 ▸ hP) (Prod.mk.inj (Option.some.inj h)).1 dX6_set_25
  · replace h := if_t q3 h
    refine lv_ldc (v := (-1000001)) hx hb hown w65 dX6_set_7 ?_
    rw [hQz]
    exact r_iret (v := (-1000001)) hx hb hr hlk hS ((Prod.mk.inj (Option.some.inj h)).2 ▸ hP) (Prod.mk.inj (Option.some.inj h)).1 dX6_set_9
