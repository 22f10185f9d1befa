set_option maxHeartbeats 4000000 in
set_option maxRecDepth 100000 in
theorem law_11 {p : Program} {l : Launch} {e : Env} {s : State} {m : MethodId} {below : List Frame} {meth : Method} {c : Code} {b L : Nat} {xs : Nat → Int32} {g : gT} (hL : L ≤ 3072) (C0 : lw_At p s m meth c b L xs) (hK : KK g s) (hZ : zT (fun q => s.heap.size ≤ q) s s.heap) (i : Nat) (hi : i + 6 ≤ L) (KX : ∀ (M N : Mem) (H : Heap) (locs : List Loc) (ls : Array Slot), RR M N → va_P g.1 vwCl (LW g s.heap.size M N) H → va_S (fun q => s.heap.size ≤ q) s.heap H locs → lv_has ls 4 [(3, .int (nI i)), (2, .ref (aH (s.heap.size + 203) 0)), (1, .ref (aH s.heap.size 0)), (0, .ref b)] → W p l e room_1 s m #[Value.ref b] below meth c H locs 217 2828 (lw_Z below #[Value.ref b] s) (F0 m 1149 ls [])) (M N : Mem) (H : Heap) (locs : List Loc) (ls : Array Slot) (hRR : RR M N) (hP : va_P g.1 vwCl (LW g s.heap.size M N) H) (hS : va_S (fun q => s.heap.size ≤ q) s.heap H locs) (hl : lv_has ls 4 [(3, .int (nI i)), (2, .ref (aH (s.heap.size + 203) 0)), (1, .ref (aH s.heap.size 0)), (0, .ref b)]) : W p l e room_1 s m #[Value.ref b] below meth c H locs 217 2828 (lw_Z below #[Value.ref b] s) (F0 m 493 ls []) := by
  obtain ⟨hx, hb, hr, hml, hown, hts0, hX, hbl, hlk, hgv⟩ := C0
  have hown : s.vm.findClass RL = some m.cls := hown
  have hts : ∀ w ∈ wsL_law, w.before #[Value.ref b] s = true := fun w h => hts0 w (wsL_law_in w h)
  have hbA : ¬ (fun q : Nat => s.heap.size ≤ q) b := Nat.not_le.mpr hbl
  have v1 : vp_in (nI i + 1) L := by rw [show nI i + 1 = nI (i + 1) from nI_add i 1]; exact vp_in_nI (by omega) (by omega)
  have v2 : vp_in (nI i + 2) L := by rw [show nI i + 2 = nI (i + 2) from nI_add i 2]; exact vp_in_nI (by omega) (by omega)
  obtain ⟨r, M', N', e1, e2, hRR'⟩ := q_again (xs (nI i + 1).toNatClampNeg) (xs (nI i + 2).toNatClampNeg) M N hRR
  refine lv_aload_n hx hb dL_law_493 rfl (lv_at hl 2 rfl) ?_
  refine lv_aload_n hx hb dL_law_494 rfl (lv_at hl 3 rfl) ?_
  refine lv_iload_n hx hb dL_law_495 rfl (lv_at hl 0 rfl) ?_
  refine lv_iconst (v := 1) hx hb dL_law_496 (by decide) ?_
  refine lv_iadd (x := nI i) (y := 1) hx hb dL_law_497 ?_
  refine va_sld (i := nI i + 1) hx hb hX hbl hbA hS v1 dL_law_498 ?_
  refine lv_aload_n hx hb dL_law_499 rfl (lv_at hl 3 rfl) ?_
  refine lv_iload_n hx hb dL_law_500 rfl (lv_at hl 0 rfl) ?_
  refine lv_iconst (v := 2) hx hb dL_law_501 (by decide) ?_
  refine lv_iadd (x := nI i) (y := 2) hx hb dL_law_502 ?_
  refine va_sld (i := nI i + 2) hx hb hX hbl hbA hS v2 dL_law_503 ?_
  refine r_callVi (As := [.int (xs (nI i + 1).toNatClampNeg), .int (xs (nI i + 2).toNatClampNeg)]) (rest := []) (ws' := (LW g s.heap.size M' N)) (ok_X5_again l g (aH s.heap.size) aH_ij (xs (nI i + 1).toNatClampNeg) (xs (nI i + 2).toNatClampNeg) M M' r e1) ⟨hx, hb, hml, hown, hts⟩ (cwV 2 hts gL_law_X5_again rfl rfl rfl (by decide +kernel) ⟨Nat.le_of_ble_eq_true rfl, Nat.le_of_ble_eq_true rfl⟩) hK (r_recv hK (LW_l hP) 0 (by decide) eX_0 (show vwCl[5]? = some (RX5, TX5, 11) from rfl)) hS (LW_l hP) (LX_A hS.1) (LX_join hP) rfl hl.1 rfl (Nat.le_of_ble_eq_true rfl) dL_law_504 ⟨Nat.le_of_ble_eq_true rfl, Nat.le_of_ble_eq_true rfl⟩ (fun H locs hP hS => ?_)
  refine lv_aload_n hx hb dL_law_507 rfl (lv_at hl 1 rfl) ?_
  refine lv_aload_n hx hb dL_law_508 rfl (lv_at hl 3 rfl) ?_
  refine lv_iload_n hx hb dL_law_509 rfl (lv_at hl 0 rfl) ?_
  refine lv_iconst (v := 1) hx hb dL_law_510 (by decide) ?_
  refine lv_iadd (x := nI i) (y := 1) hx hb dL_law_511 ?_
  refine va_sld (i := nI i + 1) hx hb hX hbl hbA hS v1 dL_law_512 ?_
  refine lv_aload_n hx hb dL_law_513 rfl (lv_at hl 3 rfl) ?_
  refine lv_iload_n hx hb dL_law_514 rfl (lv_at hl 0 rfl) ?_
  refine lv_iconst (v := 2) hx hb dL_law_515 (by decide) ?_
  refine lv_iadd (x := nI i) (y := 2) hx hb dL_law_516 ?_
  refine va_sld (i := nI i + 2) hx hb hX hbl hbA hS v2 dL_law_517 ?_
  refine r_callVi (As := [.int (xs (nI i + 1).toNatClampNeg), .int (xs (nI i + 2).toNatClampNeg)]) (rest := [.int r]) (ws' := (LW g s.heap.size M' N')) (ok_X6_again l g (aH (s.heap.size + 203)) aH_ij (xs (nI i + 1).toNatClampNeg) (xs (nI i + 2).toNatClampNeg) N N' r e2) ⟨hx, hb, hml, hown, hts⟩ (cwV 2 hts gL_law_X6_again rfl rfl rfl (by decide +kernel) ⟨Nat.le_of_ble_eq_true rfl, Nat.le_of_ble_eq_true rfl⟩) hK (r_recv hK (LW_r hP) 0 (by decide) eN_0 (show vwCl[6]? = some (RX6, TX6, 20) from rfl)) hS (LW_r hP) (LN_A hS.1) (LN_join hP) rfl hl.1 rfl (Nat.le_of_ble_eq_true rfl) dL_law_518 ⟨Nat.le_of_ble_eq_true rfl, Nat.le_of_ble_eq_true rfl⟩ (fun H locs hP hS => ?_)
  refine lv_icmp_eq (x := r) (y := r) (tgt := 1149) hx hb dL_law_521 (by decide) (fun _ => ?_) (fun q => absurd rfl q)
  exact KX M' N' H locs ls hRR' hP hS hl
set_option maxHeartbeats 4000000 in
set_option maxRecDepth 100000 in
theorem law_12 {p : Program} {l : Launch} {e : Env} {s : State} {m : MethodId} {below : List Frame} {meth : Method} {c : Code} {b L : Nat} {xs : Nat → Int32} {g : gT} (hL : L ≤ 3072) (C0 : lw_At p s m meth c b L xs) (hK : KK g s) (hZ : zT (fun q => s.heap.size ≤ q) s s.heap) (i : Nat) (hi : i + 6 ≤ L) (KX : ∀ (M N : Mem) (H : Heap) (locs : List Loc) (ls : Array Slot), RR M N → va_P g.1 vwCl (LW g s.heap.size M N) H → va_S (fun q => s.heap.size ≤ q) s.heap H locs → lv_has ls 4 [(3, .int (nI i)), (2, .ref (aH (s.heap.size + 203) 0)), (1, .ref (aH s.heap.size 0)), (0, .ref b)] → W p l e room_1 s m #[Value.ref b] below meth c H locs 217 2828 (lw_Z below #[Value.ref b] s) (F0 m 1149 ls [])) (M N : Mem) (H : Heap) (locs : List Loc) (ls : Array Slot) (hRR : RR M N) (hP : va_P g.1 vwCl (LW g s.heap.size M N) H) (hS : va_S (fun q => s.heap.size ≤ q) s.heap H locs) (hl : lv_has ls 4 [(3, .int (nI i)), (2, .ref (aH (s.heap.size + 203) 0)), (1, .ref (aH s.heap.size 0)), (0, .ref b)]) : W p l e room_1 s m #[Value.ref b] below meth c H locs 217 2828 (lw_Z below #[Value.ref b] s) (F0 m 526 ls []) := by
  obtain ⟨hx, hb, hr, hml, hown, hts0, hX, hbl, hlk, hgv⟩ := C0
  have hown : s.vm.findClass RL = some m.cls := hown
  have hts : ∀ w ∈ wsL_law, w.before #[Value.ref b] s = true := fun w h => hts0 w (wsL_law_in w h)
  have hbA : ¬ (fun q : Nat => s.heap.size ≤ q) b := Nat.not_le.mpr hbl
  obtain ⟨r, M', N', e1, e2, hRR'⟩ := q_undo M N hRR
  refine lv_aload_n hx hb dL_law_526 rfl (lv_at hl 2 rfl) ?_
  refine r_callVi (As := []) (rest := []) (ws' := (LW g s.heap.size M' N)) (ok_X5_undo l g (aH s.heap.size) aH_ij M M' r e1) ⟨hx, hb, hml, hown, hts⟩ (cwV 0 hts gL_law_X5_undo rfl rfl rfl (by decide +kernel) ⟨Nat.le_of_ble_eq_true rfl, Nat.le_of_ble_eq_true rfl⟩) hK (r_recv hK (LW_l hP) 0 (by decide) eX_0 (show vwCl[5]? = some (RX5, TX5, 11) from rfl)) hS (LW_l hP) (LX_A hS.1) (LX_join hP) rfl hl.1 rfl (Nat.le_of_ble_eq_true rfl) dL_law_527 ⟨Nat.le_of_ble_eq_true rfl, Nat.le_of_ble_eq_true rfl⟩ (fun H locs hP hS => ?_)
  refine lv_aload_n hx hb dL_law_530 rfl (lv_at hl 1 rfl) ?_
  refine r_callVi (As := []) (rest := [.int r]) (ws' := (LW g s.heap.size M' N')) (ok_X6_undo l g (aH (s.heap.size + 203)) aH_ij N N' r e2) ⟨hx, hb, hml, hown, hts⟩ (cwV 0 hts gL_law_X6_undo rfl rfl rfl (by decide +kernel) ⟨Nat.le_of_ble_eq_true rfl, Nat.le_of_ble_eq_true rfl⟩) hK (r_recv hK (LW_r hP) 0 (by decide) eN_0 (show vwCl[6]? = some (RX6, TX6, 20) from rfl)) hS (LW_r hP) (LN_A hS.1) (LN_join hP) rfl hl.1 rfl (Nat.le_of_ble_eq_true rfl) dL_law_531 ⟨Nat.le_of_ble_eq_true rfl, Nat.le_of_ble_eq_true rfl⟩ (fun H locs hP hS => ?_)
  refine lv_icmp_eq (x := r) (y := r) (tgt := 1149) hx hb dL_law_534 (by decide) (fun _ => ?_) (fun q => absurd rfl q)
  exact KX M' N' H locs ls hRR' hP hS hl
set_option maxHeartbeats 4000000 in
set_option maxRecDepth 100000 in
theorem law_13 {p : Program} {l : Launch} {e : Env} {s : State} {m : MethodId} {below : List Frame} {meth : Method} {c : Code} {b L : Nat} {xs : Nat → Int32} {g : gT} (hL : L ≤ 3072) (C0 : lw_At p s m meth c b L xs) (hK : KK g s) (hZ : zT (fun q => s.heap.size ≤ q) s s.heap) (i : Nat) (hi : i + 6 ≤ L) (KX : ∀ (M N : Mem) (H : Heap) (locs : List Loc) (ls : Array Slot), RR M N → va_P g.1 vwCl (LW g s.heap.size M N) H → va_S (fun q => s.heap.size ≤ q) s.heap H locs → lv_has ls 4 [(3, .int (nI i)), (2, .ref (aH (s.heap.size + 203) 0)), (1, .ref (aH s.heap.size 0)), (0, .ref b)] → W p l e room_1 s m #[Value.ref b] below meth c H locs 217 2828 (lw_Z below #[Value.ref b] s) (F0 m 1149 ls [])) (M N : Mem) (H : Heap) (locs : List Loc) (ls : Array Slot) (hRR : RR M N) (hP : va_P g.1 vwCl (LW g s.heap.size M N) H) (hS : va_S (fun q => s.heap.size ≤ q) s.heap H locs) (hl : lv_has ls 4 [(3, .int (nI i)), (2, .ref (aH (s.heap.size + 203) 0)), (1, .ref (aH s.heap.size 0)), (0, .ref b)]) : W p l e room_1 s m #[Value.ref b] below meth c H locs 217 2828 (lw_Z below #[Value.ref b] s) (F0 m 539 ls []) := by
  obtain ⟨hx, hb, hr, hml, hown, hts0, hX, hbl, hlk, hgv⟩ := C0
  have hown : s.vm.findClass RL = some m.cls := hown
  have hts : ∀ w ∈ wsL_law, w.before #[Value.ref b] s = true := fun w h => hts0 w (wsL_law_in w h)
  have hbA : ¬ (fun q : Nat => s.heap.size ≤ q) b := Nat.not_le.mpr hbl
  have v1 : vp_in (nI i + 1) L := by rw [show nI i + 1 = nI (i + 1) from nI_add i 1]; exact vp_in_nI (by omega) (by omega)
  have v2 : vp_in (nI i + 2) L := by rw [show nI i + 2 = nI (i + 2) from nI_add i 2]; exact vp_in_nI (by omega) (by omega)
  obtain ⟨r, e1, e2⟩ := q_rider (xs (nI i + 1).toNatClampNeg) (xs (nI i + 2).toNatClampNeg) M N hRR
  refine lv_aload_n hx hb dL_law_539 rfl (lv_at hl 2 rfl) ?_
  refine lv_aload_n hx hb dL_law_540 rfl (lv_at hl 3 rfl) ?_
  refine lv_iload_n hx hb dL_law_541 rfl (lv_at hl 0 rfl) ?_
  refine lv_iconst (v := 1) hx hb dL_law_542 (by decide) ?_
  refine lv_iadd (x := nI i) (y := 1) hx hb dL_law_543 ?_
  refine va_sld (i := nI i + 1) hx hb hX hbl hbA hS v1 dL_law_544 ?_
  refine lv_aload_n hx hb dL_law_545 rfl (lv_at hl 3 rfl) ?_
  refine lv_iload_n hx hb dL_law_546 rfl (lv_at hl 0 rfl) ?_
  refine lv_iconst (v := 2) hx hb dL_law_547 (by decide) ?_
  refine lv_iadd (x := nI i) (y := 2) hx hb dL_law_548 ?_
  refine va_sld (i := nI i + 2) hx hb hX hbl hbA hS v2 dL_law_549 ?_
  refine r_callVi (As := [.int (xs (nI i + 1).toNatClampNeg), .int (xs (nI i + 2).toNatClampNeg)]) (rest := []) (ws' := (LW g s.heap.size M N)) (ok_X5_rider l g (aH s.heap.size) aH_ij (xs (nI i + 1).toNatClampNeg) (xs (nI i + 2).toNatClampNeg) M r e1) ⟨hx, hb, hml, hown, hts⟩ (cwV 2 hts gL_law_X5_rider rfl rfl rfl (by decide +kernel) ⟨Nat.le_of_ble_eq_true rfl, Nat.le_of_ble_eq_true rfl⟩) hK (r_recv hK (LW_l hP) 0 (by decide) eX_0 (show vwCl[5]? = some (RX5, TX5, 11) from rfl)) hS (LW_l hP) (LX_A hS.1) (LX_join hP) rfl hl.1 rfl (Nat.le_of_ble_eq_true rfl) dL_law_550 ⟨Nat.le_of_ble_eq_true rfl, Nat.le_of_ble_eq_true rfl⟩ (fun H locs hP hS => ?_)
  refine lv_aload_n hx hb dL_law_553 rfl (lv_at hl 1 rfl) ?_
  refine lv_aload_n hx hb dL_law_554 rfl (lv_at hl 3 rfl) ?_
  refine lv_iload_n hx hb dL_law_555 rfl (lv_at hl 0 rfl) ?_
  refine lv_iconst (v := 1) hx hb dL_law_556 (by decide) ?_
  refine lv_iadd (x := nI i) (y := 1) hx hb dL_law_557 ?_
  refine va_sld (i := nI i + 1) hx hb hX hbl hbA hS v1 dL_law_558 ?_
  refine lv_aload_n hx hb dL_law_559 rfl (lv_at hl 3 rfl) ?_
  refine lv_iload_n hx hb dL_law_560 rfl (lv_at hl 0 rfl) ?_
  refine lv_iconst (v := 2) hx hb dL_law_561 (by decide) ?_
  refine lv_iadd (x := nI i) (y := 2) hx hb dL_law_562 ?_
  refine va_sld (i := nI i + 2) hx hb hX hbl hbA hS v2 dL_law_563 ?_
  refine r_callVi (As := [.int (xs (nI i + 1).toNatClampNeg), .int (xs (nI i + 2).toNatClampNeg)]) (rest := [.int r]) (ws' := (LW g s.heap.size M N)) (ok_X6_rider l g (aH (s.heap.size + 203)) aH_ij (xs (nI i + 1).toNatClampNeg) (xs (nI i + 2).toNatClampNeg) N r e2) ⟨hx, hb, hml, hown, hts⟩ (cwV 2 hts gL_law_X6_rider rfl rfl rfl (by decide +kernel) ⟨Nat.le_of_ble_eq_true rfl, Nat.le_of_ble_eq_true rfl⟩) hK (r_recv hK (LW_r hP) 0 (by decide) eN_0 (show vwCl[6]? = some (RX6, TX6, 20) from rfl)) hS (LW_r hP) (LN_A hS.1) (LN_join hP) rfl hl.1 rfl (Nat.le_of_ble_eq_true rfl) dL_law_564 ⟨Nat.le_of_ble_eq_true rfl, Nat.le_of_ble_eq_true rfl⟩ (fun H locs hP hS => ?_)
  refine lv_icmp_eq (x := r) (y := r) (tgt := 1149) hx hb dL_law_567 (by decide) (fun _ => ?_) (fun q => absurd rfl q)
  exact KX M N H locs ls hRR hP hS hl
set_option maxHeartbeats 4000000 in
set_option maxRecDepth 100000 in
theorem law_14 {p : Program} {l : Launch} {e : Env} {s : State} {m : MethodId} {below : List Frame} {meth : Method} {c : Code} {b L : Nat} {xs : Nat → Int32} {g : gT} (hL : L ≤ 3072) (C0 : lw_At p s m meth c b L xs) (hK : KK g s) (hZ : zT (fun q => s.heap.size ≤ q) s s.heap) (i : Nat) (hi : i + 6 ≤ L) (KX : ∀ (M N : Mem) (H : Heap) (locs : List Loc) (ls : Array Slot), RR M N → va_P g.1 vwCl (LW g s.heap.size M N) H → va_S (fun q => s.heap.size ≤ q) s.heap H locs → lv_has ls 4 [(3, .int (nI i)), (2, .ref (aH (s.heap.size + 203) 0)), (1, .ref (aH s.heap.size 0)), (0, .ref b)] → W p l e room_1 s m #[Value.ref b] below meth c H locs 217 2828 (lw_Z below #[Value.ref b] s) (F0 m 1149 ls [])) (M N : Mem) (H : Heap) (locs : List Loc) (ls : Array Slot) (hRR : RR M N) (hP : va_P g.1 vwCl (LW g s.heap.size M N) H) (hS : va_S (fun q => s.heap.size ≤ q) s.heap H locs) (hl : lv_has ls 4 [(3, .int (nI i)), (2, .ref (aH (s.heap.size + 203) 0)), (1, .ref (aH s.heap.size 0)), (0, .ref b)]) : W p l e room_1 s m #[Value.ref b] below meth c H locs 217 2828 (lw_Z below #[Value.ref b] s) (F0 m 572 ls []) := by
  obtain ⟨hx, hb, hr, hml, hown, hts0, hX, hbl, hlk, hgv⟩ := C0
  have hown : s.vm.findClass RL = some m.cls := hown
  have hts : ∀ w ∈ wsL_law, w.before #[Value.ref b] s = true := fun w h => hts0 w (wsL_law_in w h)
  have hbA : ¬ (fun q : Nat => s.heap.size ≤ q) b := Nat.not_le.mpr hbl
  have v1 : vp_in (nI i + 1) L := by rw [show nI i + 1 = nI (i + 1) from nI_add i 1]; exact vp_in_nI (by omega) (by omega)
  have v2 : vp_in (nI i + 2) L := by rw [show nI i + 2 = nI (i + 2) from nI_add i 2]; exact vp_in_nI (by omega) (by omega)
  obtain ⟨r, e1, e2⟩ := q_step (xs (nI i + 1).toNatClampNeg) (xs (nI i + 2).toNatClampNeg) M N hRR
  refine lv_aload_n hx hb dL_law_572 rfl (lv_at hl 2 rfl) ?_
  refine lv_aload_n hx hb dL_law_573 rfl (lv_at hl 3 rfl) ?_
  refine lv_iload_n hx hb dL_law_574 rfl (lv_at hl 0 rfl) ?_
  refine lv_iconst (v := 1) hx hb dL_law_575 (by decide) ?_
  refine lv_iadd (x := nI i) (y := 1) hx hb dL_law_576 ?_
  refine va_sld (i := nI i + 1) hx hb hX hbl hbA hS v1 dL_law_577 ?_
  refine lv_aload_n hx hb dL_law_578 rfl (lv_at hl 3 rfl) ?_
  refine lv_iload_n hx hb dL_law_579 rfl (lv_at hl 0 rfl) ?_
  refine lv_iconst (v := 2) hx hb dL_law_580 (by decide) ?_
  refine lv_iadd (x := nI i) (y := 2) hx hb dL_law_581 ?_
  refine va_sld (i := nI i + 2) hx hb hX hbl hbA hS v2 dL_law_582 ?_
  refine r_callVi (As := [.int (xs (nI i + 1).toNatClampNeg), .int (xs (nI i + 2).toNatClampNeg)]) (rest := []) (ws' := (LW g s.heap.size M N)) (ok_X5_step l g (aH s.heap.size) aH_ij (xs (nI i + 1).toNatClampNeg) (xs (nI i + 2).toNatClampNeg) M r e1) ⟨hx, hb, hml, hown, hts⟩ (cwV 2 hts gL_law_X5_step rfl rfl rfl (by decide +kernel) ⟨Nat.le_of_ble_eq_true rfl, Nat.le_of_ble_eq_true rfl⟩) hK (r_recv hK (LW_l hP) 0 (by decide) eX_0 (show vwCl[5]? = some (RX5, TX5, 11) from rfl)) hS (LW_l hP) (LX_A hS.1) (LX_join hP) rfl hl.1 rfl (Nat.le_of_ble_eq_true rfl) dL_law_583 ⟨Nat.le_of_ble_eq_true rfl, Nat.le_of_ble_eq_true rfl⟩ (fun H locs hP hS => ?_)
  refine lv_aload_n hx hb dL_law_586 rfl (lv_at hl 1 rfl) ?_
  refine lv_aload_n hx hb dL_law_587 rfl (lv_at hl 3 rfl) ?_
  refine lv_iload_n hx hb dL_law_588 rfl (lv_at hl 0 rfl) ?_
  refine lv_iconst (v := 1) hx hb dL_law_589 (by decide) ?_
  refine lv_iadd (x := nI i) (y := 1) hx hb dL_law_590 ?_
  refine va_sld (i := nI i + 1) hx hb hX hbl hbA hS v1 dL_law_591 ?_
  refine lv_aload_n hx hb dL_law_592 rfl (lv_at hl 3 rfl) ?_
  refine lv_iload_n hx hb dL_law_593 rfl (lv_at hl 0 rfl) ?_
  refine lv_iconst (v := 2) hx hb dL_law_594 (by decide) ?_
  refine lv_iadd (x := nI i) (y := 2) hx hb dL_law_595 ?_
  refine va_sld (i := nI i + 2) hx hb hX hbl hbA hS v2 dL_law_596 ?_
  refine r_callVi (As := [.int (xs (nI i + 1).toNatClampNeg), .int (xs (nI i + 2).toNatClampNeg)]) (rest := [.int r]) (ws' := (LW g s.heap.size M N)) (ok_X6_step l g (aH (s.heap.size + 203)) aH_ij (xs (nI i + 1).toNatClampNeg) (xs (nI i + 2).toNatClampNeg) N r e2) ⟨hx, hb, hml, hown, hts⟩ (cwV 2 hts gL_law_X6_step rfl rfl rfl (by decide +kernel) ⟨Nat.le_of_ble_eq_true rfl, Nat.le_of_ble_eq_true rfl⟩) hK (r_recv hK (LW_r hP) 0 (by decide) eN_0 (show vwCl[6]? = some (RX6, TX6, 20) from rfl)) hS (LW_r hP) (LN_A hS.1) (LN_join hP) rfl hl.1 rfl (Nat.le_of_ble_eq_true rfl) dL_law_597 ⟨Nat.le_of_ble_eq_true rfl, Nat.le_of_ble_eq_true rfl⟩ (fun H locs hP hS => ?_)
  refine lv_icmp_eq (x := r) (y := r) (tgt := 1149) hx hb dL_law_600 (by decide) (fun _ => ?_) (fun q => absurd rfl q)
  exact KX M N H locs ls hRR hP hS hl
set_option maxHeartbeats 4000000 in
set_option maxRecDepth 100000 in
theorem law_15 {p : Program} {l : Launch} {e : Env} {s : State} {m : MethodId} {below : List Frame} {meth : Method} {c : Code} {b L : Nat} {xs : Nat → Int32} {g : gT} (hL : L ≤ 3072) (C0 : lw_At p s m meth c b L xs) (hK : KK g s) (hZ : zT (fun q => s.heap.size ≤ q) s s.heap) (i : Nat) (hi : i + 6 ≤ L) (KX : ∀ (M N : Mem) (H : Heap) (locs : List Loc) (ls : Array Slot), RR M N → va_P g.1 vwCl (LW g s.heap.size M N) H → va_S (fun q => s.heap.size ≤ q) s.heap H locs → lv_has ls 4 [(3, .int (nI i)), (2, .ref (aH (s.heap.size + 203) 0)), (1, .ref (aH s.heap.size 0)), (0, .ref b)] → W p l e room_1 s m #[Value.ref b] below meth c H locs 217 2828 (lw_Z below #[Value.ref b] s) (F0 m 1149 ls [])) (M N : Mem) (H : Heap) (locs : List Loc) (ls : Array Slot) (hRR : RR M N) (hP : va_P g.1 vwCl (LW g s.heap.size M N) H) (hS : va_S (fun q => s.heap.size ≤ q) s.heap H locs) (hl : lv_has ls 4 [(3, .int (nI i)), (2, .ref (aH (s.heap.size + 203) 0)), (1, .ref (aH s.heap.size 0)), (0, .ref b)]) : W p l e room_1 s m #[Value.ref b] below meth c H locs 217 2828 (lw_Z below #[Value.ref b] s) (F0 m 605 ls []) := by
  obtain ⟨hx, hb, hr, hml, hown, hts0, hX, hbl, hlk, hgv⟩ := C0
  have hown : s.vm.findClass RL = some m.cls := hown
  have hts : ∀ w ∈ wsL_law, w.before #[Value.ref b] s = true := fun w h => hts0 w (wsL_law_in w h)
  have hbA : ¬ (fun q : Nat => s.heap.size ≤ q) b := Nat.not_le.mpr hbl
  have v1 : vp_in (nI i + 1) L := by rw [show nI i + 1 = nI (i + 1) from nI_add i 1]; exact vp_in_nI (by omega) (by omega)
  have v2 : vp_in (nI i + 2) L := by rw [show nI i + 2 = nI (i + 2) from nI_add i 2]; exact vp_in_nI (by omega) (by omega)
  obtain ⟨r, M', N', e1, e2, hRR'⟩ := q_ahead (xs (nI i + 1).toNatClampNeg) (xs (nI i + 2).toNatClampNeg) M N hRR
  refine lv_aload_n hx hb dL_law_605 rfl (lv_at hl 2 rfl) ?_
  refine lv_aload_n hx hb dL_law_606 rfl (lv_at hl 3 rfl) ?_
  refine lv_iload_n hx hb dL_law_607 rfl (lv_at hl 0 rfl) ?_
  refine lv_iconst (v := 1) hx hb dL_law_608 (by decide) ?_
  refine lv_iadd (x := nI i) (y := 1) hx hb dL_law_609 ?_
  refine va_sld (i := nI i + 1) hx hb hX hbl hbA hS v1 dL_law_610 ?_
  refine lv_aload_n hx hb dL_law_611 rfl (lv_at hl 3 rfl) ?_
  refine lv_iload_n hx hb dL_law_612 rfl (lv_at hl 0 rfl) ?_
  refine lv_iconst (v := 2) hx hb dL_law_613 (by decide) ?_
  refine lv_iadd (x := nI i) (y := 2) hx hb dL_law_614 ?_
  refine va_sld (i := nI i + 2) hx hb hX hbl hbA hS v2 dL_law_615 ?_
  refine r_callVi (As := [.int (xs (nI i + 1).toNatClampNeg), .int (xs (nI i + 2).toNatClampNeg)]) (rest := []) (ws' := (LW g s.heap.size M' N)) (ok_X5_ahead l g (aH s.heap.size) aH_ij (xs (nI i + 1).toNatClampNeg) (xs (nI i + 2).toNatClampNeg) M M' r e1) ⟨hx, hb, hml, hown, hts⟩ (cwV 2 hts gL_law_X5_ahead rfl rfl rfl (by decide +kernel) ⟨Nat.le_of_ble_eq_true rfl, Nat.le_of_ble_eq_true rfl⟩) hK (r_recv hK (LW_l hP) 0 (by decide) eX_0 (show vwCl[5]? = some (RX5, TX5, 11) from rfl)) hS (LW_l hP) (LX_A hS.1) (LX_join hP) rfl hl.1 rfl (Nat.le_of_ble_eq_true rfl) dL_law_616 ⟨Nat.le_of_ble_eq_true rfl, Nat.le_of_ble_eq_true rfl⟩ (fun H locs hP hS => ?_)
  refine lv_aload_n hx hb dL_law_619 rfl (lv_at hl 1 rfl) ?_
  refine lv_aload_n hx hb dL_law_620 rfl (lv_at hl 3 rfl) ?_
  refine lv_iload_n hx hb dL_law_621 rfl (lv_at hl 0 rfl) ?_
  refine lv_iconst (v := 1) hx hb dL_law_622 (by decide) ?_
  refine lv_iadd (x := nI i) (y := 1) hx hb dL_law_623 ?_
  refine va_sld (i := nI i + 1) hx hb hX hbl hbA hS v1 dL_law_624 ?_
  refine lv_aload_n hx hb dL_law_625 rfl (lv_at hl 3 rfl) ?_
  refine lv_iload_n hx hb dL_law_626 rfl (lv_at hl 0 rfl) ?_
  refine lv_iconst (v := 2) hx hb dL_law_627 (by decide) ?_
  refine lv_iadd (x := nI i) (y := 2) hx hb dL_law_628 ?_
  refine va_sld (i := nI i + 2) hx hb hX hbl hbA hS v2 dL_law_629 ?_
  refine r_callVi (As := [.int (xs (nI i + 1).toNatClampNeg), .int (xs (nI i + 2).toNatClampNeg)]) (rest := [.int r]) (ws' := (LW g s.heap.size M' N')) (ok_X6_ahead l g (aH (s.heap.size + 203)) aH_ij (xs (nI i + 1).toNatClampNeg) (xs (nI i + 2).toNatClampNeg) N N' r e2) ⟨hx, hb, hml, hown, hts⟩ (cwV 2 hts gL_law_X6_ahead rfl rfl rfl (by decide +kernel) ⟨Nat.le_of_ble_eq_true rfl, Nat.le_of_ble_eq_true rfl⟩) hK (r_recv hK (LW_r hP) 0 (by decide) eN_0 (show vwCl[6]? = some (RX6, TX6, 20) from rfl)) hS (LW_r hP) (LN_A hS.1) (LN_join hP) rfl hl.1 rfl (Nat.le_of_ble_eq_true rfl) dL_law_630 ⟨Nat.le_of_ble_eq_true rfl, Nat.le_of_ble_eq_true rfl⟩ (fun H locs hP hS => ?_)
  refine lv_icmp_eq (x := r) (y := r) (tgt := 1149) hx hb dL_law_633 (by decide) (fun _ => ?_) (fun q => absurd rfl q)
  exact KX M' N' H locs ls hRR' hP hS hl
set_option maxHeartbeats 4000000 in
set_option maxRecDepth 100000 in
theorem law_16 {p : Program} {l : Launch} {e : Env} {s : State} {m : MethodId} {below : List Frame} {meth : Method} {c : Code} {b L : Nat} {xs : Nat → Int32} {g : gT} (hL : L ≤ 3072) (C0 : lw_At p s m meth c b L xs) (hK : KK g s) (hZ : zT (fun q => s.heap.size ≤ q) s s.heap) (i : Nat) (hi : i + 6 ≤ L) (KX : ∀ (M N : Mem) (H : Heap) (locs : List Loc) (ls : Array Slot), RR M N → va_P g.1 vwCl (LW g s.heap.size M N) H → va_S (fun q => s.heap.size ≤ q) s.heap H locs → lv_has ls 4 [(3, .int (nI i)), (2, .ref (aH (s.heap.size + 203) 0)), (1, .ref (aH s.heap.size 0)), (0, .ref b)] → W p l e room_1 s m #[Value.ref b] below meth c H locs 217 2828 (lw_Z below #[Value.ref b] s) (F0 m 1149 ls [])) (M N : Mem) (H : Heap) (locs : List Loc) (ls : Array Slot) (hRR : RR M N) (hP : va_P g.1 vwCl (LW g s.heap.size M N) H) (hS : va_S (fun q => s.heap.size ≤ q) s.heap H locs) (hl : lv_has ls 4 [(3, .int (nI i)), (2, .ref (aH (s.heap.size + 203) 0)), (1, .ref (aH s.heap.size 0)), (0, .ref b)]) : W p l e room_1 s m #[Value.ref b] below meth c H locs 217 2828 (lw_Z below #[Value.ref b] s) (F0 m 638 ls []) := by
  obtain ⟨hx, hb, hr, hml, hown, hts0, hX, hbl, hlk, hgv⟩ := C0
  have hown : s.vm.findClass RL = some m.cls := hown
  have hts : ∀ w ∈ wsL_law, w.before #[Value.ref b] s = true := fun w h => hts0 w (wsL_law_in w h)
  have hbA : ¬ (fun q : Nat => s.heap.size ≤ q) b := Nat.not_le.mpr hbl
  have v1 : vp_in (nI i + 1) L := by rw [show nI i + 1 = nI (i + 1) from nI_add i 1]; exact vp_in_nI (by omega) (by omega)
  have v2 : vp_in (nI i + 2) L := by rw [show nI i + 2 = nI (i + 2) from nI_add i 2]; exact vp_in_nI (by omega) (by omega)
  obtain ⟨r, M', N', e1, e2, hRR'⟩ := q_later (xs (nI i + 1).toNatClampNeg) (xs (nI i + 2).toNatClampNeg) M N hRR
  refine lv_aload_n hx hb dL_law_638 rfl (lv_at hl 2 rfl) ?_
  refine lv_aload_n hx hb dL_law_639 rfl (lv_at hl 3 rfl) ?_
  refine lv_iload_n hx hb dL_law_640 rfl (lv_at hl 0 rfl) ?_
  refine lv_iconst (v := 1) hx hb dL_law_641 (by decide) ?_
  refine lv_iadd (x := nI i) (y := 1) hx hb dL_law_642 ?_
  refine va_sld (i := nI i + 1) hx hb hX hbl hbA hS v1 dL_law_643 ?_
  refine lv_aload_n hx hb dL_law_644 rfl (lv_at hl 3 rfl) ?_
  refine lv_iload_n hx hb dL_law_645 rfl (lv_at hl 0 rfl) ?_
  refine lv_iconst (v := 2) hx hb dL_law_646 (by decide) ?_
  refine lv_iadd (x := nI i) (y := 2) hx hb dL_law_647 ?_
  refine va_sld (i := nI i + 2) hx hb hX hbl hbA hS v2 dL_law_648 ?_
  refine r_callVi (As := [.int (xs (nI i + 1).toNatClampNeg), .int (xs (nI i + 2).toNatClampNeg)]) (rest := []) (ws' := (LW g s.heap.size M' N)) (ok_X5_later l g (aH s.heap.size) aH_ij (xs (nI i + 1).toNatClampNeg) (xs (nI i + 2).toNatClampNeg) M M' r e1) ⟨hx, hb, hml, hown, hts⟩ (cwV 2 hts gL_law_X5_later rfl rfl rfl (by decide +kernel) ⟨Nat.le_of_ble_eq_true rfl, Nat.le_of_ble_eq_true rfl⟩) hK (r_recv hK (LW_l hP) 0 (by decide) eX_0 (show vwCl[5]? = some (RX5, TX5, 11) from rfl)) hS (LW_l hP) (LX_A hS.1) (LX_join hP) rfl hl.1 rfl (Nat.le_of_ble_eq_true rfl) dL_law_649 ⟨Nat.le_of_ble_eq_true rfl, Nat.le_of_ble_eq_true rfl⟩ (fun H locs hP hS => ?_)
  refine lv_aload_n hx hb dL_law_652 rfl (lv_at hl 1 rfl) ?_
  refine lv_aload_n hx hb dL_law_653 rfl (lv_at hl 3 rfl) ?_
  refine lv_iload_n hx hb dL_law_654 rfl (lv_at hl 0 rfl) ?_
  refine lv_iconst (v := 1) hx hb dL_law_655 (by decide) ?_
  refine lv_iadd (x := nI i) (y := 1) hx hb dL_law_656 ?_
  refine va_sld (i := nI i + 1) hx hb hX hbl hbA hS v1 dL_law_657 ?_
  refine lv_aload_n hx hb dL_law_658 rfl (lv_at hl 3 rfl) ?_
  refine lv_iload_n hx hb dL_law_659 rfl (lv_at hl 0 rfl) ?_
  refine lv_iconst (v := 2) hx hb dL_law_660 (by decide) ?_
  refine lv_iadd (x := nI i) (y := 2) hx hb dL_law_661 ?_
  refine va_sld (i := nI i + 2) hx hb hX hbl hbA hS v2 dL_law_662 ?_
  refine r_callVi (As := [.int (xs (nI i + 1).toNatClampNeg), .int (xs (nI i + 2).toNatClampNeg)]) (rest := [.int r]) (ws' := (LW g s.heap.size M' N')) (ok_X6_later l g (aH (s.heap.size + 203)) aH_ij (xs (nI i + 1).toNatClampNeg) (xs (nI i + 2).toNatClampNeg) N N' r e2) ⟨hx, hb, hml, hown, hts⟩ (cwV 2 hts gL_law_X6_later rfl rfl rfl (by decide +kernel) ⟨Nat.le_of_ble_eq_true rfl, Nat.le_of_ble_eq_true rfl⟩) hK (r_recv hK (LW_r hP) 0 (by decide) eN_0 (show vwCl[6]? = some (RX6, TX6, 20) from rfl)) hS (LW_r hP) (LN_A hS.1) (LN_join hP) rfl hl.1 rfl (Nat.le_of_ble_eq_true rfl) dL_law_663 ⟨Nat.le_of_ble_eq_true rfl, Nat.le_of_ble_eq_true rfl⟩ (fun H locs hP hS => ?_)
  refine lv_icmp_eq (x := r) (y := r) (tgt := 1149) hx hb dL_law_666 (by decide) (fun _ => ?_) (fun q => absurd rfl q)
  exact KX M' N' H locs ls hRR' hP hS hl
set_option maxHeartbeats 4000000 in
set_option maxRecDepth 100000 in
theorem law_17 {p : Program} {l : Launch} {e : Env} {s : State} {m : MethodId} {below : List Frame} {meth : Method} {c : Code} {b L : Nat} {xs : Nat → Int32} {g : gT} (hL : L ≤ 3072) (C0 : lw_At p s m meth c b L xs) (hK : KK g s) (hZ : zT (fun q => s.heap.size ≤ q) s s.heap) (i : Nat) (hi : i + 6 ≤ L) (KX : ∀ (M N : Mem) (H : Heap) (locs : List Loc) (ls : Array Slot), RR M N → va_P g.1 vwCl (LW g s.heap.size M N) H → va_S (fun q => s.heap.size ≤ q) s.heap H locs → lv_has ls 4 [(3, .int (nI i)), (2, .ref (aH (s.heap.size + 203) 0)), (1, .ref (aH s.heap.size 0)), (0, .ref b)] → W p l e room_1 s m #[Value.ref b] below meth c H locs 217 2828 (lw_Z below #[Value.ref b] s) (F0 m 1149 ls [])) (M N : Mem) (H : Heap) (locs : List Loc) (ls : Array Slot) (hRR : RR M N) (hP : va_P g.1 vwCl (LW g s.heap.size M N) H) (hS : va_S (fun q => s.heap.size ≤ q) s.heap H locs) (hl : lv_has ls 4 [(3, .int (nI i)), (2, .ref (aH (s.heap.size + 203) 0)), (1, .ref (aH s.heap.size 0)), (0, .ref b)]) : W p l e room_1 s m #[Value.ref b] below meth c H locs 217 2828 (lw_Z below #[Value.ref b] s) (F0 m 671 ls []) := by
  obtain ⟨hx, hb, hr, hml, hown, hts0, hX, hbl, hlk, hgv⟩ := C0
  have hown : s.vm.findClass RL = some m.cls := hown
  have hts : ∀ w ∈ wsL_law, w.before #[Value.ref b] s = true := fun w h => hts0 w (wsL_law_in w h)
  have hbA : ¬ (fun q : Nat => s.heap.size ≤ q) b := Nat.not_le.mpr hbl
  have v1 : vp_in (nI i + 1) L := by rw [show nI i + 1 = nI (i + 1) from nI_add i 1]; exact vp_in_nI (by omega) (by omega)
  obtain ⟨r, M', N', e1, e2, hRR'⟩ := q_off (xs (nI i + 1).toNatClampNeg) M N hRR
  refine lv_aload_n hx hb dL_law_671 rfl (lv_at hl 2 rfl) ?_
  refine lv_aload_n hx hb dL_law_672 rfl (lv_at hl 3 rfl) ?_
  refine lv_iload_n hx hb dL_law_673 rfl (lv_at hl 0 rfl) ?_
  refine lv_iconst (v := 1) hx hb dL_law_674 (by decide) ?_
  refine lv_iadd (x := nI i) (y := 1) hx hb dL_law_675 ?_
  refine va_sld (i := nI i + 1) hx hb hX hbl hbA hS v1 dL_law_676 ?_
  refine r_callVi (As := [.int (xs (nI i + 1).toNatClampNeg)]) (rest := []) (ws' := (LW g s.heap.size M' N)) (ok_X5_off l g (aH s.heap.size) aH_ij (xs (nI i + 1).toNatClampNeg) M M' r e1) ⟨hx, hb, hml, hown, hts⟩ (cwV 1 hts gL_law_X5_off rfl rfl rfl (by decide +kernel) ⟨Nat.le_of_ble_eq_true rfl, Nat.le_of_ble_eq_true rfl⟩) hK (r_recv hK (LW_l hP) 0 (by decide) eX_0 (show vwCl[5]? = some (RX5, TX5, 11) from rfl)) hS (LW_l hP) (LX_A hS.1) (LX_join hP) rfl hl.1 rfl (Nat.le_of_ble_eq_true rfl) dL_law_677 ⟨Nat.le_of_ble_eq_true rfl, Nat.le_of_ble_eq_true rfl⟩ (fun H locs hP hS => ?_)
  refine lv_aload_n hx hb dL_law_680 rfl (lv_at hl 1 rfl) ?_
  refine lv_aload_n hx hb dL_law_681 rfl (lv_at hl 3 rfl) ?_
  refine lv_iload_n hx hb dL_law_682 rfl (lv_at hl 0 rfl) ?_
  refine lv_iconst (v := 1) hx hb dL_law_683 (by decide) ?_
  refine lv_iadd (x := nI i) (y := 1) hx hb dL_law_684 ?_
  refine va_sld (i := nI i + 1) hx hb hX hbl hbA hS v1 dL_law_685 ?_
  refine r_callVi (As := [.int (xs (nI i + 1).toNatClampNeg)]) (rest := [.int r]) (ws' := (LW g s.heap.size M' N')) (ok_X6_off l g (aH (s.heap.size + 203)) aH_ij (xs (nI i + 1).toNatClampNeg) N N' r e2) ⟨hx, hb, hml, hown, hts⟩ (cwV 1 hts gL_law_X6_off rfl rfl rfl (by decide +kernel) ⟨Nat.le_of_ble_eq_true rfl, Nat.le_of_ble_eq_true rfl⟩) hK (r_recv hK (LW_r hP) 0 (by decide) eN_0 (show vwCl[6]? = some (RX6, TX6, 20) from rfl)) hS (LW_r hP) (LN_A hS.1) (LN_join hP) rfl hl.1 rfl (Nat.le_of_ble_eq_true rfl) dL_law_686 ⟨Nat.le_of_ble_eq_true rfl, Nat.le_of_ble_eq_true rfl⟩ (fun H locs hP hS => ?_)
  refine lv_icmp_eq (x := r) (y := r) (tgt := 1149) hx hb dL_law_689 (by decide) (fun _ => ?_) (fun q => absurd rfl q)
  exact KX M' N' H locs ls hRR' hP hS hl
set_option maxHeartbeats 4000000 in
set_option maxRecDepth 100000 in
theorem law_18 {p : Program} {l : Launch} {e : Env} {s : State} {m : MethodId} {below : List Frame} {meth : Method} {c : Code} {b L : Nat} {xs : Nat → Int32} {g : gT} (hL : L ≤ 3072) (C0 : lw_At p s m meth c b L xs) (hK : KK g s) (hZ : zT (fun q => s.heap.size ≤ q) s s.heap) (i : Nat) (hi : i + 6 ≤ L) (KX : ∀ (M N : Mem) (H : Heap) (locs : List Loc) (ls : Array Slot), RR M N → va_P g.1 vwCl (LW g s.heap.size M N) H → va_S (fun q => s.heap.size ≤ q) s.heap H locs → lv_has ls 4 [(3, .int (nI i)), (2, .ref (aH (s.heap.size + 203) 0)), (1, .ref (aH s.heap.size 0)), (0, .ref b)] → W p l e room_1 s m #[Value.ref b] below meth c H locs 217 2828 (lw_Z below #[Value.ref b] s) (F0 m 1149 ls [])) (M N : Mem) (H : Heap) (locs : List Loc) (ls : Array Slot) (hRR : RR M N) (hP : va_P g.1 vwCl (LW g s.heap.size M N) H) (hS : va_S (fun q => s.heap.size ≤ q) s.heap H locs) (hl : lv_has ls 4 [(3, .int (nI i)), (2, .ref (aH (s.heap.size + 203) 0)), (1, .ref (aH s.heap.size 0)), (0, .ref b)]) : W p l e room_1 s m #[Value.ref b] below meth c H locs 217 2828 (lw_Z below #[Value.ref b] s) (F0 m 694 ls []) := by
  obtain ⟨hx, hb, hr, hml, hown, hts0, hX, hbl, hlk, hgv⟩ := C0
  have hown : s.vm.findClass RL = some m.cls := hown
  have hts : ∀ w ∈ wsL_law, w.before #[Value.ref b] s = true := fun w h => hts0 w (wsL_law_in w h)
  have hbA : ¬ (fun q : Nat => s.heap.size ≤ q) b := Nat.not_le.mpr hbl
  obtain ⟨r, M', N', e1, e2, hRR'⟩ := q_clear M N hRR
  refine lv_aload_n hx hb dL_law_694 rfl (lv_at hl 2 rfl) ?_
  refine r_callVi (As := []) (rest := []) (ws' := (LW g s.heap.size M' N)) (ok_X5_clear l g (aH s.heap.size) aH_ij M M' r e1) ⟨hx, hb, hml, hown, hts⟩ (cwV 0 hts gL_law_X5_clear rfl rfl rfl (by decide +kernel) ⟨Nat.le_of_ble_eq_true rfl, Nat.le_of_ble_eq_true rfl⟩) hK (r_recv hK (LW_l hP) 0 (by decide) eX_0 (show vwCl[5]? = some (RX5, TX5, 11) from rfl)) hS (LW_l hP) (LX_A hS.1) (LX_join hP) rfl hl.1 rfl (Nat.le_of_ble_eq_true rfl) dL_law_695 ⟨Nat.le_of_ble_eq_true rfl, Nat.le_of_ble_eq_true rfl⟩ (fun H locs hP hS => ?_)
  refine lv_aload_n hx hb dL_law_698 rfl (lv_at hl 1 rfl) ?_
  refine r_callVi (As := []) (rest := [.int r]) (ws' := (LW g s.heap.size M' N')) (ok_X6_clear l g (aH (s.heap.size + 203)) aH_ij N N' r e2) ⟨hx, hb, hml, hown, hts⟩ (cwV 0 hts gL_law_X6_clear rfl rfl rfl (by decide +kernel) ⟨Nat.le_of_ble_eq_true rfl, Nat.le_of_ble_eq_true rfl⟩) hK (r_recv hK (LW_r hP) 0 (by decide) eN_0 (show vwCl[6]? = some (RX6, TX6, 20) from rfl)) hS (LW_r hP) (LN_A hS.1) (LN_join hP) rfl hl.1 rfl (Nat.le_of_ble_eq_true rfl) dL_law_699 ⟨Nat.le_of_ble_eq_true rfl, Nat.le_of_ble_eq_true rfl⟩ (fun H locs hP hS => ?_)
  refine lv_icmp_eq (x := r) (y := r) (tgt := 1149) hx hb dL_law_702 (by decide) (fun _ => ?_) (fun q => absurd rfl q)
  exact KX M' N' H locs ls hRR' hP hS hl
set_option maxHeartbeats 4000000 in
set_option maxRecDepth 100000 in
theorem law_19 {p : Program} {l : Launch} {e : Env} {s : State} {m : MethodId} {below : List Frame} {meth : Method} {c : Code} {b L : Nat} {xs : Nat → Int32} {g : gT} (hL : L ≤ 3072) (C0 : lw_At p s m meth c b L xs) (hK : KK g s) (hZ : zT (fun q => s.heap.size ≤ q) s s.heap) (i : Nat) (hi : i + 6 ≤ L) (KX : ∀ (M N : Mem) (H : Heap) (locs : List Loc) (ls : Array Slot), RR M N → va_P g.1 vwCl (LW g s.heap.size M N) H → va_S (fun q => s.heap.size ≤ q) s.heap H locs → lv_has ls 4 [(3, .int (nI i)), (2, .ref (aH (s.heap.size + 203) 0)), (1, .ref (aH s.heap.size 0)), (0, .ref b)] → W p l e room_1 s m #[Value.ref b] below meth c H locs 217 2828 (lw_Z below #[Value.ref b] s) (F0 m 1149 ls [])) (M N : Mem) (H : Heap) (locs : List Loc) (ls : Array Slot) (hRR : RR M N) (hP : va_P g.1 vwCl (LW g s.heap.size M N) H) (hS : va_S (fun q => s.heap.size ≤ q) s.heap H locs) (hl : lv_has ls 4 [(3, .int (nI i)), (2, .ref (aH (s.heap.size + 203) 0)), (1, .ref (aH s.heap.size 0)), (0, .ref b)]) : W p l e room_1 s m #[Value.ref b] below meth c H locs 217 2828 (lw_Z below #[Value.ref b] s) (F0 m 707 ls []) := by
  obtain ⟨hx, hb, hr, hml, hown, hts0, hX, hbl, hlk, hgv⟩ := C0
  have hown : s.vm.findClass RL = some m.cls := hown
  have hts : ∀ w ∈ wsL_law, w.before #[Value.ref b] s = true := fun w h => hts0 w (wsL_law_in w h)
  have hbA : ¬ (fun q : Nat => s.heap.size ≤ q) b := Nat.not_le.mpr hbl
  have v1 : vp_in (nI i + 1) L := by rw [show nI i + 1 = nI (i + 1) from nI_add i 1]; exact vp_in_nI (by omega) (by omega)
  obtain ⟨r, M', N', e1, e2, hRR'⟩ := q_sorting (xs (nI i + 1).toNatClampNeg) M N hRR
  refine lv_aload_n hx hb dL_law_707 rfl (lv_at hl 2 rfl) ?_
  refine lv_aload_n hx hb dL_law_708 rfl (lv_at hl 3 rfl) ?_
  refine lv_iload_n hx hb dL_law_709 rfl (lv_at hl 0 rfl) ?_
  refine lv_iconst (v := 1) hx hb dL_law_710 (by decide) ?_
  refine lv_iadd (x := nI i) (y := 1) hx hb dL_law_711 ?_
  refine va_sld (i := nI i + 1) hx hb hX hbl hbA hS v1 dL_law_712 ?_
  refine r_callVi (As := [.int (xs (nI i + 1).toNatClampNeg)]) (rest := []) (ws' := (LW g s.heap.size M' N)) (ok_X5_sorting l g (aH s.heap.size) aH_ij (xs (nI i + 1).toNatClampNeg) M M' r e1) ⟨hx, hb, hml, hown, hts⟩ (cwV 1 hts gL_law_X5_sorting rfl rfl rfl (by decide +kernel) ⟨Nat.le_of_ble_eq_true rfl, Nat.le_of_ble_eq_true rfl⟩) hK (r_recv hK (LW_l hP) 0 (by decide) eX_0 (show vwCl[5]? = some (RX5, TX5, 11) from rfl)) hS (LW_l hP) (LX_A hS.1) (LX_join hP) rfl hl.1 rfl (Nat.le_of_ble_eq_true rfl) dL_law_713 ⟨Nat.le_of_ble_eq_true rfl, Nat.le_of_ble_eq_true rfl⟩ (fun H locs hP hS => ?_)
  refine lv_aload_n hx hb dL_law_716 rfl (lv_at hl 1 rfl) ?_
  refine lv_aload_n hx hb dL_law_717 rfl (lv_at hl 3 rfl) ?_
  refine lv_iload_n hx hb dL_law_718 rfl (lv_at hl 0 rfl) ?_
  refine lv_iconst (v := 1) hx hb dL_law_719 (by decide) ?_
  refine lv_iadd (x := nI i) (y := 1) hx hb dL_law_720 ?_
  refine va_sld (i := nI i + 1) hx hb hX hbl hbA hS v1 dL_law_721 ?_
  refine r_callVi (As := [.int (xs (nI i + 1).toNatClampNeg)]) (rest := [.int r]) (ws' := (LW g s.heap.size M' N')) (ok_X6_sorting l g (aH (s.heap.size + 203)) aH_ij (xs (nI i + 1).toNatClampNeg) N N' r e2) ⟨hx, hb, hml, hown, hts⟩ (cwV 1 hts gL_law_X6_sorting rfl rfl rfl (by decide +kernel) ⟨Nat.le_of_ble_eq_true rfl, Nat.le_of_ble_eq_true rfl⟩) hK (r_recv hK (LW_r hP) 0 (by decide) eN_0 (show vwCl[6]? = some (RX6, TX6, 20) from rfl)) hS (LW_r hP) (LN_A hS.1) (LN_join hP) rfl hl.1 rfl (Nat.le_of_ble_eq_true rfl) dL_law_722 ⟨Nat.le_of_ble_eq_true rfl, Nat.le_of_ble_eq_true rfl⟩ (fun H locs hP hS => ?_)
  refine lv_icmp_eq (x := r) (y := r) (tgt := 1149) hx hb dL_law_725 (by decide) (fun _ => ?_) (fun q => absurd rfl q)
  exact KX M' N' H locs ls hRR' hP hS hl
set_option maxHeartbeats 4000000 in
set_option maxRecDepth 100000 in
theorem law_20 {p : Program} {l : Launch} {e : Env} {s : State} {m : MethodId} {below : List Frame} {meth : Method} {c : Code} {b L : Nat} {xs : Nat → Int32} {g : gT} (hL : L ≤ 3072) (C0 : lw_At p s m meth c b L xs) (hK : KK g s) (hZ : zT (fun q => s.heap.size ≤ q) s s.heap) (i : Nat) (hi : i + 6 ≤ L) (KX : ∀ (M N : Mem) (H : Heap) (locs : List Loc) (ls : Array Slot), RR M N → va_P g.1 vwCl (LW g s.heap.size M N) H → va_S (fun q => s.heap.size ≤ q) s.heap H locs → lv_has ls 4 [(3, .int (nI i)), (2, .ref (aH (s.heap.size + 203) 0)), (1, .ref (aH s.heap.size 0)), (0, .ref b)] → W p l e room_1 s m #[Value.ref b] below meth c H locs 217 2828 (lw_Z below #[Value.ref b] s) (F0 m 1149 ls [])) (M N : Mem) (H : Heap) (locs : List Loc) (ls : Array Slot) (hRR : RR M N) (hP : va_P g.1 vwCl (LW g s.heap.size M N) H) (hS : va_S (fun q => s.heap.size ≤ q) s.heap H locs) (hl : lv_has ls 4 [(3, .int (nI i)), (2, .ref (aH (s.heap.size + 203) 0)), (1, .ref (aH s.heap.size 0)), (0, .ref b)]) : W p l e room_1 s m #[Value.ref b] below meth c H locs 217 2828 (lw_Z below #[Value.ref b] s) (F0 m 730 ls []) := by
  obtain ⟨hx, hb, hr, hml, hown, hts0, hX, hbl, hlk, hgv⟩ := C0
  have hown : s.vm.findClass RL = some m.cls := hown
  have hts : ∀ w ∈ wsL_law, w.before #[Value.ref b] s = true := fun w h => hts0 w (wsL_law_in w h)
  have hbA : ¬ (fun q : Nat => s.heap.size ≤ q) b := Nat.not_le.mpr hbl
  have v1 : vp_in (nI i + 1) L := by rw [show nI i + 1 = nI (i + 1) from nI_add i 1]; exact vp_in_nI (by omega) (by omega)
  obtain ⟨r, M', N', e1, e2, hRR'⟩ := q_taken (xs (nI i + 1).toNatClampNeg) M N hRR
  refine lv_aload_n hx hb dL_law_730 rfl (lv_at hl 2 rfl) ?_
  refine lv_aload_n hx hb dL_law_731 rfl (lv_at hl 3 rfl) ?_
  refine lv_iload_n hx hb dL_law_732 rfl (lv_at hl 0 rfl) ?_
  refine lv_iconst (v := 1) hx hb dL_law_733 (by decide) ?_
  refine lv_iadd (x := nI i) (y := 1) hx hb dL_law_734 ?_
  refine va_sld (i := nI i + 1) hx hb hX hbl hbA hS v1 dL_law_735 ?_
  refine r_callVi (As := [.int (xs (nI i + 1).toNatClampNeg)]) (rest := []) (ws' := (LW g s.heap.size M' N)) (ok_X5_taken l g (aH s.heap.size) aH_ij (xs (nI i + 1).toNatClampNeg) M M' r e1) ⟨hx, hb, hml, hown, hts⟩ (cwV 1 hts gL_law_X5_taken rfl rfl rfl (by decide +kernel) ⟨Nat.le_of_ble_eq_true rfl, Nat.le_of_ble_eq_true rfl⟩) hK (r_recv hK (LW_l hP) 0 (by decide) eX_0 (show vwCl[5]? = some (RX5, TX5, 11) from rfl)) hS (LW_l hP) (LX_A hS.1) (LX_join hP) rfl hl.1 rfl (Nat.le_of_ble_eq_true rfl) dL_law_736 ⟨Nat.le_of_ble_eq_true rfl, Nat.le_of_ble_eq_true rfl⟩ (fun H locs hP hS => ?_)
  refine lv_aload_n hx hb dL_law_739 rfl (lv_at hl 1 rfl) ?_
  refine lv_aload_n hx hb dL_law_740 rfl (lv_at hl 3 rfl) ?_
  refine lv_iload_n hx hb dL_law_741 rfl (lv_at hl 0 rfl) ?_
  refine lv_iconst (v := 1) hx hb dL_law_742 (by decide) ?_
  refine lv_iadd (x := nI i) (y := 1) hx hb dL_law_743 ?_
  refine va_sld (i := nI i + 1) hx hb hX hbl hbA hS v1 dL_law_744 ?_
  refine r_callVi (As := [.int (xs (nI i + 1).toNatClampNeg)]) (rest := [.int r]) (ws' := (LW g s.heap.size M' N')) (ok_X6_taken l g (aH (s.heap.size + 203)) aH_ij (xs (nI i + 1).toNatClampNeg) N N' r e2) ⟨hx, hb, hml, hown, hts⟩ (cwV 1 hts gL_law_X6_taken rfl rfl rfl (by decide +kernel) ⟨Nat.le_of_ble_eq_true rfl, Nat.le_of_ble_eq_true rfl⟩) hK (r_recv hK (LW_r hP) 0 (by decide) eN_0 (show vwCl[6]? = some (RX6, TX6, 20) from rfl)) hS (LW_r hP) (LN_A hS.1) (LN_join hP) rfl hl.1 rfl (Nat.le_of_ble_eq_true rfl) dL_law_745 ⟨Nat.le_of_ble_eq_true rfl, Nat.le_of_ble_eq_true rfl⟩ (fun H locs hP hS => ?_)
  refine lv_icmp_eq (x := r) (y := r) (tgt := 1149) hx hb dL_law_748 (by decide) (fun _ => ?_) (fun q => absurd rfl q)
  exact KX M' N' H locs ls hRR' hP hS hl
set_option maxHeartbeats 4000000 in
set_option maxRecDepth 100000 in
theorem law_21 {p : Program} {l : Launch} {e : Env} {s : State} {m : MethodId} {below : List Frame} {meth : Method} {c : Code} {b L : Nat} {xs : Nat → Int32} {g : gT} (hL : L ≤ 3072) (C0 : lw_At p s m meth c b L xs) (hK : KK g s) (hZ : zT (fun q => s.heap.size ≤ q) s s.heap) (i : Nat) (hi : i + 6 ≤ L) (KX : ∀ (M N : Mem) (H : Heap) (locs : List Loc) (ls : Array Slot), RR M N → va_P g.1 vwCl (LW g s.heap.size M N) H → va_S (fun q => s.heap.size ≤ q) s.heap H locs → lv_has ls 4 [(3, .int (nI i)), (2, .ref (aH (s.heap.size + 203) 0)), (1, .ref (aH s.heap.size 0)), (0, .ref b)] → W p l e room_1 s m #[Value.ref b] below meth c H locs 217 2828 (lw_Z below #[Value.ref b] s) (F0 m 1149 ls [])) (M N : Mem) (H : Heap) (locs : List Loc) (ls : Array Slot) (hRR : RR M N) (hP : va_P g.1 vwCl (LW g s.heap.size M N) H) (hS : va_S (fun q => s.heap.size ≤ q) s.heap H locs) (hl : lv_has ls 4 [(3, .int (nI i)), (2, .ref (aH (s.heap.size + 203) 0)), (1, .ref (aH s.heap.size 0)), (0, .ref b)]) : W p l e room_1 s m #[Value.ref b] below meth c H locs 217 2828 (lw_Z below #[Value.ref b] s) (F0 m 753 ls []) := by
  obtain ⟨hx, hb, hr, hml, hown, hts0, hX, hbl, hlk, hgv⟩ := C0
  have hown : s.vm.findClass RL = some m.cls := hown
  have hts : ∀ w ∈ wsL_law, w.before #[Value.ref b] s = true := fun w h => hts0 w (wsL_law_in w h)
  have hbA : ¬ (fun q : Nat => s.heap.size ≤ q) b := Nat.not_le.mpr hbl
  have v1 : vp_in (nI i + 1) L := by rw [show nI i + 1 = nI (i + 1) from nI_add i 1]; exact vp_in_nI (by omega) (by omega)
  have v2 : vp_in (nI i + 2) L := by rw [show nI i + 2 = nI (i + 2) from nI_add i 2]; exact vp_in_nI (by omega) (by omega)
  have v3 : vp_in (nI i + 3) L := by rw [show nI i + 3 = nI (i + 3) from nI_add i 3]; exact vp_in_nI (by omega) (by omega)
  obtain ⟨r, M', N', e1, e2, hRR'⟩ := q_pace (xs (nI i + 1).toNatClampNeg) (xs (nI i + 2).toNatClampNeg) (xs (nI i + 3).toNatClampNeg) M N hRR
  refine lv_aload_n hx hb dL_law_753 rfl (lv_at hl 2 rfl) ?_
  refine lv_aload_n hx hb dL_law_754 rfl (lv_at hl 3 rfl) ?_
  refine lv_iload_n hx hb dL_law_755 rfl (lv_at hl 0 rfl) ?_
  refine lv_iconst (v := 1) hx hb dL_law_756 (by decide) ?_
  refine lv_iadd (x := nI i) (y := 1) hx hb dL_law_757 ?_
  refine va_sld (i := nI i + 1) hx hb hX hbl hbA hS v1 dL_law_758 ?_
  refine lv_aload_n hx hb dL_law_759 rfl (lv_at hl 3 rfl) ?_
  refine lv_iload_n hx hb dL_law_760 rfl (lv_at hl 0 rfl) ?_
  refine lv_iconst (v := 2) hx hb dL_law_761 (by decide) ?_
  refine lv_iadd (x := nI i) (y := 2) hx hb dL_law_762 ?_
  refine va_sld (i := nI i + 2) hx hb hX hbl hbA hS v2 dL_law_763 ?_
  refine lv_aload_n hx hb dL_law_764 rfl (lv_at hl 3 rfl) ?_
  refine lv_iload_n hx hb dL_law_765 rfl (lv_at hl 0 rfl) ?_
  refine lv_iconst (v := 3) hx hb dL_law_766 (by decide) ?_
  refine lv_iadd (x := nI i) (y := 3) hx hb dL_law_767 ?_
  refine va_sld (i := nI i + 3) hx hb hX hbl hbA hS v3 dL_law_768 ?_
  refine r_callVi (As := [.int (xs (nI i + 1).toNatClampNeg), .int (xs (nI i + 2).toNatClampNeg), .int (xs (nI i + 3).toNatClampNeg)]) (rest := []) (ws' := (LW g s.heap.size M' N)) (ok_X5_pace l g (aH s.heap.size) aH_ij (xs (nI i + 1).toNatClampNeg) (xs (nI i + 2).toNatClampNeg) (xs (nI i + 3).toNatClampNeg) M M' r e1) ⟨hx, hb, hml, hown, hts⟩ (cwV 3 hts gL_law_X5_pace rfl rfl rfl (by decide +kernel) ⟨Nat.le_of_ble_eq_true rfl, Nat.le_of_ble_eq_true rfl⟩) hK (r_recv hK (LW_l hP) 0 (by decide) eX_0 (show vwCl[5]? = some (RX5, TX5, 11) from rfl)) hS (LW_l hP) (LX_A hS.1) (LX_join hP) rfl hl.1 rfl (Nat.le_of_ble_eq_true rfl) dL_law_769 ⟨Nat.le_of_ble_eq_true rfl, Nat.le_of_ble_eq_true rfl⟩ (fun H locs hP hS => ?_)
  refine lv_aload_n hx hb dL_law_772 rfl (lv_at hl 1 rfl) ?_
  refine lv_aload_n hx hb dL_law_773 rfl (lv_at hl 3 rfl) ?_
  refine lv_iload_n hx hb dL_law_774 rfl (lv_at hl 0 rfl) ?_
  refine lv_iconst (v := 1) hx hb dL_law_775 (by decide) ?_
  refine lv_iadd (x := nI i) (y := 1) hx hb dL_law_776 ?_
  refine va_sld (i := nI i + 1) hx hb hX hbl hbA hS v1 dL_law_777 ?_
  refine lv_aload_n hx hb dL_law_778 rfl (lv_at hl 3 rfl) ?_
  refine lv_iload_n hx hb dL_law_779 rfl (lv_at hl 0 rfl) ?_
  refine lv_iconst (v := 2) hx hb dL_law_780 (by decide) ?_
  refine lv_iadd (x := nI i) (y := 2) hx hb dL_law_781 ?_
  refine va_sld (i := nI i + 2) hx hb hX hbl hbA hS v2 dL_law_782 ?_
  refine lv_aload_n hx hb dL_law_783 rfl (lv_at hl 3 rfl) ?_
  refine lv_iload_n hx hb dL_law_784 rfl (lv_at hl 0 rfl) ?_
  refine lv_iconst (v := 3) hx hb dL_law_785 (by decide) ?_
  refine lv_iadd (x := nI i) (y := 3) hx hb dL_law_786 ?_
  refine va_sld (i := nI i + 3) hx hb hX hbl hbA hS v3 dL_law_787 ?_
  refine r_callVi (As := [.int (xs (nI i + 1).toNatClampNeg), .int (xs (nI i + 2).toNatClampNeg), .int (xs (nI i + 3).toNatClampNeg)]) (rest := [.int r]) (ws' := (LW g s.heap.size M' N')) (ok_X6_pace l g (aH (s.heap.size + 203)) aH_ij (xs (nI i + 1).toNatClampNeg) (xs (nI i + 2).toNatClampNeg) (xs (nI i + 3).toNatClampNeg) N N' r e2) ⟨hx, hb, hml, hown, hts⟩ (cwV 3 hts gL_law_X6_pace rfl rfl rfl (by decide +kernel) ⟨Nat.le_of_ble_eq_true rfl, Nat.le_of_ble_eq_true rfl⟩) hK (r_recv hK (LW_r hP) 0 (by decide) eN_0 (show vwCl[6]? = some (RX6, TX6, 20) from rfl)) hS (LW_r hP) (LN_A hS.1) (LN_join hP) rfl hl.1 rfl (Nat.le_of_ble_eq_true rfl) dL_law_788 ⟨Nat.le_of_ble_eq_true rfl, Nat.le_of_ble_eq_true rfl⟩ (fun H locs hP hS => ?_)
  refine lv_icmp_eq (x := r) (y := r) (tgt := 1149) hx hb dL_law_791 (by decide) (fun _ => ?_) (fun q => absurd rfl q)
  exact KX M' N' H locs ls hRR' hP hS hl
