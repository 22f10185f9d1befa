noncomputable def fX5_as_b33 (p1 : Int32) (p2 : Int32) (k33 : Int32 → Int32 → Mem → Option (Int32 × Mem)) (x3 : Int32) (x4 : Int32) (M : Mem) : Option (Int32 × Mem) := (if 5 < x4 then bdI (fX5_found 3 M) (fun r2 M4 => some ((r2 : Int32), M4)) else (if x3 < 0 then bdI (fX5_found 3 M) (fun r6 M8 => some ((r6 : Int32), M8)) else (if x3 = p2 then bdI (fX5_fine p1 M) (fun r11 M13 => some ((r11 : Int32), M13)) else chk (bIn x3 6) (k33 (stN (Int32.toNatClampNeg x3)) (x4 + 1) M))))
noncomputable def fX5_as_l33 (p1 : Int32) (p2 : Int32) : Nat → Int32 → Int32 → Mem → Option (Int32 × Mem)
  | 0 => fun _ _ _ => none
  | n + 1 => fun x3 x4 M => fX5_as_b33 p1 p2 (fX5_as_l33 p1 p2 n) x3 x4 M
noncomputable def fX5_as (p1 : Int32) (p2 : Int32) (M : Mem) : Option (Int32 × Mem) := bdP (fX5_noRider p1 M) (fun r1 => (if r1 = 0 then bdP (fX5_outside p2 0 5) (fun r4 => (if r4 = 0 then chk (bIn p1 7) (fX5_as_l33 p1 p2 FU (M 5 (Int32.toNatClampNeg p1)) 0 M) else some (((-1000001) : Int32), M))) else some (((-1000001) : Int32), M)))
noncomputable def fX5_bodyFor_b52 (p0 : Int32) (p1 : Int32) : Option (Int32) := (if p1 = 0 then chk (bIn 0 6) (some ((stS (Int32.toNatClampNeg 0)) : Int32)) else chk (bIn 0 6) (some ((stM (Int32.toNatClampNeg 0)) : Int32)))
noncomputable def fX5_bodyFor_b30 (p0 : Int32) (p1 : Int32) (k4 : Int32 → Int32 → Option (Int32)) (x2 : Int32) (x3 : Int32) (s0 : Int32) : Option (Int32) := (if s0 = 0 then chk (bIn x2 6) (k4 (stN (Int32.toNatClampNeg x2)) (x3 + 1)) else some (s0 : Int32))
noncomputable def fX5_bodyFor_b4 (p0 : Int32) (p1 : Int32) (k4 : Int32 → Int32 → Option (Int32)) (x2 : Int32) (x3 : Int32) : Option (Int32) := (if 5 < x3 then fX5_bodyFor_b52 p0 p1 else (if x2 ≤ 0 then fX5_bodyFor_b52 p0 p1 else (if p1 = 0 then chk (bIn x2 6) (fX5_bodyFor_b30 p0 p1 k4 x2 x3 (stS (Int32.toNatClampNeg x2))) else chk (bIn x2 6) (fX5_bodyFor_b30 p0 p1 k4 x2 x3 (stM (Int32.toNatClampNeg x2))))))
noncomputable def fX5_bodyFor_l4 (p0 : Int32) (p1 : Int32) : Nat → Int32 → Int32 → Option (Int32)
  | 0 => fun _ _ => none
  | n + 1 => fun x2 x3 => fX5_bodyFor_b4 p0 p1 (fX5_bodyFor_l4 p0 p1 n) x2 x3
noncomputable def fX5_bodyFor (p0 : Int32) (p1 : Int32) : Option (Int32) := fX5_bodyFor_l4 p0 p1 FU p0 0
noncomputable def fX5_answerOf_b0 (R : Int32 → Int32 → Int32 → Mem → Option (Int32 × Mem)) (p0 : Int32) (p2 : Int32) (p4 : Int32) (M : Mem) : Option (Int32 × Mem) := (if p4 ≤ 16 then bdV (fX4_leave p0 M) (fun M4 => (if p0 = 10 then chk (bIn p2 7) (some (((M4 7 (Int32.toNatClampNeg p2)) : Int32), M4)) else (if p0 = 11 then bdI (R 10 p2 (p4 + 1) M4) (fun r8 M10 => chk (bIn p2 7) (bdP (fX5_bodyFor (M10 5 (Int32.toNatClampNeg p2)) 1) (fun r12 => bdI (R r12 p2 (p4 + 1) M10) (fun r14 M16 => some (((r8 + r14) : Int32), M16))))) else (if p0 = 12 then bdI (R 11 p2 (p4 + 1) M4) (fun r18 M20 => some ((((-r18)) : Int32), M20)) else (if p0 = 13 then bdI (R 10 p2 (p4 + 1) M4) (fun r22 M24 => some (((r22 - 100) : Int32), M24)) else (if p0 = 14 then bdI (R 13 p2 (p4 + 1) M4) (fun r26 M28 => some (((r26 * 2) : Int32), M28)) else (if p0 = 15 then some ((0 : Int32), M4) else (if p0 = 16 then some ((0 : Int32), M4) else (if p0 = 17 then some ((0 : Int32), M4) else (if p0 = 18 then some ((0 : Int32), M4) else (if p0 = 19 then some ((0 : Int32), M4) else (if p0 = 20 then some ((p2 : Int32), M4) else (if p0 = 21 then bdI (R 20 p2 (p4 + 1) M4) (fun r36 M38 => chk (bIn p2 7) (some (((r36 + (M38 6 (Int32.toNatClampNeg p2))) : Int32), M38))) else (if p0 = 22 then bdI (R 21 p2 (p4 + 1) M4) (fun r41 M43 => some (((r41 - 1000) : Int32), M43)) else (if p0 = 23 then bdI (R 20 p2 (p4 + 1) M4) (fun r45 M47 => chk (bIn p2 7) (bdP (fX5_bodyFor (M47 5 (Int32.toNatClampNeg p2)) 0) (fun r49 => bdI (R r49 p2 (p4 + 1) M47) (fun r51 M53 => some (((r45 - r51) : Int32), M53))))) else (if p0 = 24 then bdI (R 21 p2 (p4 + 1) M4) (fun r55 M57 => some (((r55 * 2) : Int32), M57)) else some ((0 : Int32), M4))))))))))))))))) else some ((0 : Int32), M))
noncomputable def fX5_answerOf : Nat → Int32 → Int32 → Int32 → Mem → Option (Int32 × Mem)
  | 0 => fun _ _ _ _ => none
  | k + 1 => fun p0 p2 p4 M => fX5_answerOf_b0 (fX5_answerOf k) p0 p2 p4 M
noncomputable def fX5_ask (p1 : Int32) (p2 : Int32) (M : Mem) : Option (Int32 × Mem) := bdP (fX5_noRider p1 M) (fun r1 => (if r1 = 0 then bdP (fX5_outside p2 0 1) (fun r4 => (if r4 = 0 then chk (bIn p1 7) (bdP (fX5_bodyFor ((mp M 132 1 0) 5 (Int32.toNatClampNeg p1)) p2) (fun r8 => bdI (fX5_answerOf FA r8 p1 0 (mp M 132 1 0)) (fun r10 M12 => some ((r10 : Int32), M12)))) else some (((-1000001) : Int32), M))) else some (((-1000001) : Int32), M)))
def rmX5_as : Room := { frames := 3, cells := 0, slots := 0, locals := 103 }
set_option maxHeartbeats 4000000 in
set_option maxRecDepth 100000 in
theorem ok_X5_as (l : Launch) (g : gT) (a : Nat → Nat) (hI : ij 203 a) (p1 : Int32) (p2 : Int32) (M : Mem) (M' : Mem) (r : Int32) (h : fX5_as p1 p2 M = some (r, M')) : MIs l yX5_as wsX5_as rmX5_as g 203 a [.ref (a 0), .int p1, .int p2] (wl 203 a (eX g a M)) (wl 203 a (eX g a M')) r := by
  refine MIs_of (cc := cX5_as) (maxL := 5) (rt := .int) (by decide) rfl (Nat.le_of_ble_eq_true rfl) ?_
  intro p e s m args below meth c ls hx hb hml hr hlk hts hown hK hP hl hZ
  obtain ⟨⟨tN, zN, vN⟩, ⟨tS, zS, vS⟩, ⟨tM, zM, vM⟩⟩ := id hZ
  have hown : s.vm.findClass RX5 = some m.cls := hown
  have hl : lv_has ls 5 [(0, .ref (a 0)), (1, .int p1), (2, .int p2)] := hl
  have hS : va_S (aA 203 a s.heap.size) s.heap s.heap [] := va_S.rf
  have iX2 : ∀ w ∈ wsX20, w ∈ wsX5_as := fun w h => List.mem_cons_of_mem _ (List.mem_append_right _ h)
  have iX5 : ∀ w ∈ wsX50, w ∈ wsX5_as := fun w h => List.mem_cons_of_mem _ (List.mem_append_left _ (List.mem_append_right _ h))
  have w260 := hts (.fieldLink RX5 260 "StepRiders" "NEXT_KIND" "[I") (by decide +kernel)
  have w73 := hts (.constant RX5 73 (-1000001)) (by decide +kernel)
  have w25 := hts (.fieldLink RX5 25 "StepRiders" "now" "LStepRiders$Stair;") (by decide +kernel)
  have w257 := hts (.fieldLink RX5 257 "StepRiders$Stair" "kind" "[I") (by decide +kernel)
  obtain ⟨Qz, hQz⟩ : ∃ Qz : State → Prop, Qz = MQ below (qI g (wl 203 a (eX g a M')) r (aA 203 a s.heap.size)) args s 0 0 (aA 203 a s.heap.size) := ⟨_, rfl⟩
  rw [← hQz]
  have B33 : ∀ (k33 : Int32 → Int32 → Mem → Option (Int32 × Mem)) (C33 : ∀ (x3 : Int32) (x4 : Int32) (M : Mem) (H : Heap) (locs : List Loc) (ls : Array Slot), k33 x3 x4 M = some (r, M') → va_P g.1 vwCl (wl 203 a (eX g a M)) H → va_S (aA 203 a s.heap.size) s.heap H locs → lv_has ls 5 [(0, .ref (a 0)), (1, .int p1), (2, .int p2), (3, .int x3), (4, .int x4)] → W p l e rmX5_as s m args below meth c H locs 0 0 Qz (F0 m 33 ls [])), ∀ (x3 : Int32) (x4 : Int32) (M : Mem) (H : Heap) (locs : List Loc) (ls : Array Slot), fX5_as_b33 p1 p2 k33 x3 x4 M = some (r, M') → va_P g.1 vwCl (wl 203 a (eX g a M)) H → va_S (aA 203 a s.heap.size) s.heap H locs → lv_has ls 5 [(0, .ref (a 0)), (1, .int p1), (2, .int p2), (3, .int x3), (4, .int x4)] → W p l e rmX5_as s m args below meth c H locs 0 0 Qz (F0 m 33 ls []) := by
    intro k33 C33 x3 x4 M H locs ls h hP hS hl
    unfold fX5_as_b33 at h
    refine lv_iload hx hb dX5_as_33 (lv_at hl 4 rfl) ?_
    refine lv_iconst (v := 5) hx hb dX5_as_35 (by decide) ?_
    refine lv_icmp_gt (x := x4) (y := 5) (tgt := 66) hx hb dX5_as_36 (by decide) (fun q1 => ?_) (fun q1 => ?_)
    · replace h := if_t q1 h
      refine lv_aload_n hx hb dX5_as_66 rfl (lv_at hl 0 rfl) ?_
      refine lv_iconst (v := 3) hx hb dX5_as_67 (by decide) ?_
      obtain ⟨r2, M4, e3, h⟩ := bdI_ok h
      refine r_callVi (As := [.int 3]) (rest := []) (ws' := (wl 203 a (eX g a M4))) (ok_X5_found l g a hI 3 M M4 r2 e3) ⟨hx, hb, hml, hown, hts⟩ (cwV 1 hts gX5_as_X5_found rfl rfl rfl (by decide +kernel) ⟨Nat.le_of_ble_eq_true rfl, Nat.le_of_ble_eq_true rfl⟩) hK (r_recv hK hP 0 (by decide) eX_0 (show vwCl[5]? = some (RX5, TX5, 11) from rfl)) hS hP (fun _ hq => aA_mono hS.1 hq) (fun _ h _ => h) rfl hl.1 rfl (Nat.le_of_ble_eq_true rfl) dX5_as_68 ⟨Nat.zero_le _, Nat.zero_le _⟩ (fun H locs hP hS => ?_)
      rw [hQz]
      exact r_iret (v := r2) hx hb hr hlk hS ((Prod.mk.inj (Option.some.inj h)).2 ▸ hP) (Prod.mk.inj (Option.some.inj h)).1 dX5_as_71
    · replace h := if_f q1 h
      refine lv_iload_n hx hb dX5_as_39 rfl (lv_at hl 3 rfl) ?_
      refine lv_if_lt (x := x3) (tgt := 66) hx hb dX5_as_40 (by decide) (fun q5 => ?_) (fun q5 => ?_)
      · replace h := if_t q5 h
        refine lv_aload_n hx hb dX5_as_66 rfl (lv_at hl 0 rfl) ?_
        refine lv_iconst (v := 3) hx hb dX5_as_67 (by decide) ?_
        obtain ⟨r6, M8, e7, h⟩ := bdI_ok h
        refine r_callVi (As := [.int 3]) (rest := []) (ws' := (wl 203 a (eX g a M8))) (ok_X5_found l g a hI 3 M M8 r6 e7) ⟨hx, hb, hml, hown, hts⟩ (cwV 1 hts gX5_as_X5_found rfl rfl rfl (by decide +kernel) ⟨Nat.le_of_ble_eq_true rfl, Nat.le_of_ble_eq_true rfl⟩) hK (r_recv hK hP 0 (by decide) eX_0 (show vwCl[5]? = some (RX5, TX5, 11) from rfl)) hS hP (fun _ hq => aA_mono hS.1 hq) (fun _ h _ => h) rfl hl.1 rfl (Nat.le_of_ble_eq_true rfl) dX5_as_68 ⟨Nat.zero_le _, Nat.zero_le _⟩ (fun H locs hP hS => ?_)
        rw [hQz]
        exact r_iret (v := r6) hx hb hr hlk hS ((Prod.mk.inj (Option.some.inj h)).2 ▸ hP) (Prod.mk.inj (Option.some.inj h)).1 dX5_as_71
      · replace h := if_f q5 h
        refine lv_iload_n hx hb dX5_as_43 rfl (lv_at hl 3 rfl) ?_
        refine lv_iload_n hx hb dX5_as_44 rfl (lv_at hl 2 rfl) ?_
        refine lv_icmp_ne (x := x3) (y := p2) (tgt := 54) hx hb dX5_as_45 (by decide) (fun q9 => ?_) (fun q9 => ?_)
        · replace h := if_f q9 h
          refine va_gets hx hb zN hS hown w260 (fun _ h => h) dX5_as_54 ?_
          refine lv_iload_n hx hb dX5_as_57 rfl (lv_at hl 3 rfl) ?_
          obtain ⟨q10, h⟩ := chk_ok h
          refine va_ti (i := x3) hx hb vN hS (bIn_ok q10) rfl dX5_as_58 ?_
          refine lv_istore_n (lv' := [(3, .int (stN (Int32.toNatClampNeg x3))), (0, .ref (a 0)), (1, .int p1), (2, .int p2), (4, .int x4)]) hx hb dX5_as_59 rfl hl (by decide) rfl (fun ls hl => ?_)
          refine lv_iinc (v := (x4 + 1)) (lv' := [(4, .int (x4 + 1)), (3, .int (stN (Int32.toNatClampNeg x3))), (0, .ref (a 0)), (1, .int p1), (2, .int p2)]) hx hb dX5_as_60 hl (k := 4) rfl rfl (by decide) rfl (fun ls hl => ?_)
          refine lv_goto (tgt := 33) hx hb dX5_as_63 (by decide) ?_
          exact C33 (stN (Int32.toNatClampNeg x3)) (x4 + 1) M _ _ _ h hP hS (lv_sub hl [2, 3, 4, 1, 0] rfl)
        · replace h := if_t q9 h
          refine lv_aload_n hx hb dX5_as_48 rfl (lv_at hl 0 rfl) ?_
          refine lv_iload_n hx hb dX5_as_49 rfl (lv_at hl 1 rfl) ?_
          obtain ⟨r11, M13, e12, h⟩ := bdI_ok h
          refine r_callVi (As := [.int p1]) (rest := []) (ws' := (wl 203 a (eX g a M13))) (ok_X5_fine l g a hI p1 M M13 r11 e12) ⟨hx, hb, hml, hown, hts⟩ (cwV 1 hts gX5_as_X5_fine rfl rfl rfl (by decide +kernel) ⟨Nat.le_of_ble_eq_true rfl, Nat.le_of_ble_eq_true rfl⟩) hK (r_recv hK hP 0 (by decide) eX_0 (show vwCl[5]? = some (RX5, TX5, 11) from rfl)) hS hP (fun _ hq => aA_mono hS.1 hq) (fun _ h _ => h) rfl hl.1 rfl (Nat.le_of_ble_eq_true rfl) dX5_as_50 ⟨Nat.zero_le _, Nat.zero_le _⟩ (fun H locs hP hS => ?_)
          rw [hQz]
          exact r_iret (v := r11) hx hb hr hlk hS ((Prod.mk.inj (Option.some.inj h)).2 ▸ hP) (Prod.mk.inj (Option.some.inj h)).1 dX5_as_53
  have L33 : ∀ (n : Nat), ∀ (x3 : Int32) (x4 : Int32) (M : Mem) (H : Heap) (locs : List Loc) (ls : Array Slot), fX5_as_l33 p1 p2 n x3 x4 M = some (r, M') → va_P g.1 vwCl (wl 203 a (eX g a M)) H → va_S (aA 203 a s.heap.size) s.heap H locs → lv_has ls 5 [(0, .ref (a 0)), (1, .int p1), (2, .int p2), (3, .int x3), (4, .int x4)] → W p l e rmX5_as s m args below meth c H locs 0 0 Qz (F0 m 33 ls []) := by
    intro n
    induction n with
    | zero => intro x3 x4 M H locs ls h; exact absurd (show (none : Option (Int32 × Mem)) = some _ from h) (fun z => by cases z)
    | succ n ih => exact fun x3 x4 M H locs ls h hP hS hl => B33 (fX5_as_l33 p1 p2 n) ih x3 x4 M H locs ls h hP hS hl
  unfold fX5_as at h
  refine lv_aload_n hx hb dX5_as_0 rfl (lv_at hl 0 rfl) ?_
  refine lv_iload_n hx hb dX5_as_1 rfl (lv_at hl 1 rfl) ?_
  obtain ⟨r1, e2, h⟩ := bdP_ok h
  refine r_callVi (As := [.int p1]) (rest := []) (ws' := (wl 203 a (eX g a M))) (ok_X5_noRider l g a hI p1 M r1 e2) ⟨hx, hb, hml, hown, hts⟩ (cwV 1 hts gX5_as_X5_noRider rfl rfl rfl (by decide +kernel) ⟨Nat.le_of_ble_eq_true rfl, Nat.le_of_ble_eq_true rfl⟩) hK (r_recv hK hP 0 (by decide) eX_0 (show vwCl[5]? = some (RX5, TX5, 11) from rfl)) hS hP (fun _ hq => aA_mono hS.1 hq) (fun _ h _ => h) rfl hl.1 rfl (Nat.le_of_ble_eq_true rfl) dX5_as_2 ⟨Nat.zero_le _, Nat.zero_le _⟩ (fun H locs hP hS => ?_)
  refine lv_if_ne (x := r1) (tgt := 17) hx hb dX5_as_5 (by decide) (fun q3 => ?_) (fun q3 => ?_)
  · replace h := if_f q3 h
    refine lv_ldc (v := (-1000001)) hx hb hown w73 dX5_as_17 ?_
    rw [hQz]
    exact r_iret (v := (-1000001)) hx hb hr hlk hS ((Prod.mk.inj (Option.some.inj h)).2 ▸ hP) (Prod.mk.inj (Option.some.inj h)).1 dX5_as_19
  · replace h := if_t q3 h
    refine lv_iload_n hx hb dX5_as_8 rfl (lv_at hl 2 rfl) ?_
    refine lv_iconst (v := 0) hx hb dX5_as_9 (by decide) ?_
    refine lv_iconst (v := 5) hx hb dX5_as_10 (by decide) ?_
    obtain ⟨r4, e5, h⟩ := bdP_ok h
    refine r_callSi (As := [.int p2, .int 0, .int 5]) (rest := []) (ws' := (wl 203 a (eX g a M))) (ok_X5_outside l g p2 0 5 r4 e5) ⟨hx, hb, hml, hown, hts⟩ (cwS 3 hts gX5_as_X5_outside rfl rfl rfl (by decide +kernel) ⟨Nat.le_of_ble_eq_true rfl, Nat.le_of_ble_eq_true rfl⟩) hK hS nilP (P_A hS.1) (fun _ _ hk => wl_keep hP hk) rfl hl.1 rfl (Nat.le_of_ble_eq_true rfl) dX5_as_11 ⟨Nat.zero_le _, Nat.zero_le _⟩ (fun H locs hP hS => ?_)
    refine lv_if_eq (x := r4) (tgt := 20) hx hb dX5_as_14 (by decide) (fun q6 => ?_) (fun q6 => ?_)
    · replace h := if_t q6 h
      refine lv_aload_n hx hb dX5_as_20 rfl (lv_at hl 0 rfl) ?_
      refine r_get (v := .ref (a 4)) hx hb hts iX5 hown hK hP 0 (by decide) eX_0 rfl 2 (by decide) w25 rfl dX5_as_21 ?_
      refine r_get (v := .ref (a 5)) hx hb hts iX2 hown hK hP 4 (isSt_lt (c := 4) (by decide) 0 (by decide)) (eX_Stair (c := 4) (by decide)) rfl 4 (by decide) w257 rfl dX5_as_24 ?_
      refine lv_iload_n hx hb dX5_as_27 rfl (lv_at hl 1 rfl) ?_
      obtain ⟨q7, h⟩ := chk_ok h
      refine r_iald (i := p1) (h := M 5) hx hb hK hP 5 (isSt_lt (c := 4) (by decide) 1 (by decide)) (eX_Sa1 (c := 4) (by decide)) q7 dX5_as_28 ?_
      refine lv_istore_n (lv' := [(3, .int (M 5 (Int32.toNatClampNeg p1))), (0, .ref (a 0)), (1, .int p1), (2, .int p2)]) hx hb dX5_as_29 rfl hl (by decide) rfl (fun ls hl => ?_)
      refine lv_iconst (v := 0) hx hb dX5_as_30 (by decide) ?_
      refine lv_istore (lv' := [(4, .int 0), (3, .int (M 5 (Int32.toNatClampNeg p1))), (0, .ref (a 0)), (1, .int p1), (2, .int p2)]) hx hb dX5_as_31 hl (by decide) rfl (fun ls hl => ?_)
      exact L33 FU (M 5 (Int32.toNatClampNeg p1)) 0 M _ _ _ h hP hS (lv_sub hl [2, 3, 4, 1, 0] rfl)
    · replace h := if_f q6 h
      refine lv_ldc (v := (-1000001)) hx hb hown w73 dX5_as_17 ?_
      rw [hQz]
      exact r_iret (v := (-1000001)) hx hb hr hlk hS ((Prod.mk.inj (Option.some.inj h)).2 ▸ hP) (Prod.mk.inj (Option.some.inj h)).1 dX5_as_19
def rmX5_bodyFor : Room := { frames := 1, cells := 0, slots := 0, locals := 60 }
set_option maxHeartbeats 4000000 in
set_option maxRecDepth 100000 in
theorem ok_X5_bodyFor (l : Launch) (g : gT) (p0 : Int32) (p1 : Int32) (r : Int32) (h : fX5_bodyFor p0 p1 = some r) : MIs l yX5_bodyFor wsX5_bodyFor rmX5_bodyFor g 0 (fun _ => 0) [.int p0, .int p1] ([] : va_W) ([] : va_W) r := by
  refine MIs_of (cc := cX5_bodyFor) (maxL := 5) (rt := .int) (by decide) rfl (Nat.le_of_ble_eq_true rfl) ?_
  intro p e s m args below meth c ls hx hb hml hr hlk hts hown hK hP hl hZ
  obtain ⟨⟨tN, zN, vN⟩, ⟨tS, zS, vS⟩, ⟨tM, zM, vM⟩⟩ := id hZ
  have hown : s.vm.findClass RX5 = some m.cls := hown
  have hl : lv_has ls 5 [(0, .int p0), (1, .int p1)] := hl
  have hS : va_S (aA 0 (fun _ => 0) s.heap.size) s.heap s.heap [] := va_S.rf
  have w302 := hts (.fieldLink RX5 302 "StepRiders" "MARK_BODIES" "[I") (by decide +kernel)
  have w299 := hts (.fieldLink RX5 299 "StepRiders" "SIZE_BODIES" "[I") (by decide +kernel)
  have w260 := hts (.fieldLink RX5 260 "StepRiders" "NEXT_KIND" "[I") (by decide +kernel)
  obtain ⟨Qz, hQz⟩ : ∃ Qz : State → Prop, Qz = MQ below (qI g ([] : va_W) r (aA 0 (fun _ => 0) s.heap.size)) args s 0 0 (aA 0 (fun _ => 0) s.heap.size) := ⟨_, rfl⟩
  rw [← hQz]
  have B52 : ∀ (H : Heap) (locs : List Loc) (ls : Array Slot), fX5_bodyFor_b52 p0 p1 = some r → va_P g.1 vwCl ([] : va_W) H → va_S (aA 0 (fun _ => 0) s.heap.size) s.heap H locs → lv_has ls 5 [(0, .int p0), (1, .int p1)] → W p l e rmX5_bodyFor s m args below meth c H locs 0 0 Qz (F0 m 52 ls []) := by
    intro H locs ls h hP hS hl
    unfold fX5_bodyFor_b52 at h
    refine lv_iload_n hx hb dX5_bodyFor_52 rfl (lv_at hl 1 rfl) ?_
    refine lv_if_ne (x := p1) (tgt := 64) hx hb dX5_bodyFor_53 (by decide) (fun q1 => ?_) (fun q1 => ?_)
    · replace h := if_f q1 h
      refine va_gets hx hb zM hS hown w302 (fun _ h => h) dX5_bodyFor_64 ?_
      refine lv_iconst (v := 0) hx hb dX5_bodyFor_67 (by decide) ?_
      obtain ⟨q2, h⟩ := chk_ok h
      refine va_ti (i := 0) hx hb vM hS (bIn_ok q2) rfl dX5_bodyFor_68 ?_
      rw [hQz]
      exact r_iret (v := (stM (Int32.toNatClampNeg 0))) hx hb hr hlk hS hP (Option.some.inj h) dX5_bodyFor_69
    · replace h := if_t q1 h
      refine va_gets hx hb zS hS hown w299 (fun _ h => h) dX5_bodyFor_56 ?_
      refine lv_iconst (v := 0) hx hb dX5_bodyFor_59 (by decide) ?_
      obtain ⟨q3, h⟩ := chk_ok h
      refine va_ti (i := 0) hx hb vS hS (bIn_ok q3) rfl dX5_bodyFor_60 ?_
      refine lv_goto (tgt := 69) hx hb dX5_bodyFor_61 (by decide) ?_
      rw [hQz]
      exact r_iret (v := (stS (Int32.toNatClampNeg 0))) hx hb hr hlk hS hP (Option.some.inj h) dX5_bodyFor_69
  have B30 : ∀ (k4 : Int32 → Int32 → Option (Int32)) (C4 : ∀ (x2 : Int32) (x3 : Int32) (H : Heap) (locs : List Loc) (ls : Array Slot), k4 x2 x3 = some r → va_P g.1 vwCl ([] : va_W) H → va_S (aA 0 (fun _ => 0) s.heap.size) s.heap H locs → lv_has ls 5 [(0, .int p0), (1, .int p1), (2, .int x2), (3, .int x3)] → W p l e rmX5_bodyFor s m args below meth c H locs 0 0 Qz (F0 m 4 ls [])), ∀ (x2 : Int32) (x3 : Int32) (s0 : Int32) (H : Heap) (locs : List Loc) (ls : Array Slot), fX5_bodyFor_b30 p0 p1 k4 x2 x3 s0 = some r → va_P g.1 vwCl ([] : va_W) H → va_S (aA 0 (fun _ => 0) s.heap.size) s.heap H locs → lv_has ls 5 [(0, .int p0), (1, .int p1), (2, .int x2), (3, .int x3)] → W p l e rmX5_bodyFor s m args below meth c H locs 0 0 Qz (F0 m 30 ls [.int s0]) := by
    intro k4 C4 x2 x3 s0 H locs ls h hP hS hl
    unfold fX5_bodyFor_b30 at h
    refine lv_istore (lv' := [(4, .int s0), (0, .int p0), (1, .int p1), (2, .int x2), (3, .int x3)]) hx hb dX5_bodyFor_30 hl (by decide) rfl (fun ls hl => ?_)
    refine lv_iload hx hb dX5_bodyFor_32 (lv_at hl 0 rfl) ?_
    refine lv_if_eq (x := s0) (tgt := 40) hx hb dX5_bodyFor_34 (by decide) (fun q1 => ?_) (fun q1 => ?_)
    · replace h := if_t q1 h
      refine va_gets hx hb zN hS hown w260 (fun _ h => h) dX5_bodyFor_40 ?_
      refine lv_iload_n hx hb dX5_bodyFor_43 rfl (lv_at hl 3 rfl) ?_
      obtain ⟨q2, h⟩ := chk_ok h
      refine va_ti (i := x2) hx hb vN hS (bIn_ok q2) rfl dX5_bodyFor_44 ?_
      refine lv_istore_n (lv' := [(2, .int (stN (Int32.toNatClampNeg x2))), (4, .int s0), (0, .int p0), (1, .int p1), (3, .int x3)]) hx hb dX5_bodyFor_45 rfl hl (by decide) rfl (fun ls hl => ?_)
      refine lv_iinc (v := (x3 + 1)) (lv' := [(3, .int (x3 + 1)), (2, .int (stN (Int32.toNatClampNeg x2))), (4, .int s0), (0, .int p0), (1, .int p1)]) hx hb dX5_bodyFor_46 hl (k := 4) rfl rfl (by decide) rfl (fun ls hl => ?_)
      refine lv_goto (tgt := 4) hx hb dX5_bodyFor_49 (by decide) ?_
      exact C4 (stN (Int32.toNatClampNeg x2)) (x3 + 1) _ _ _ h hP hS (lv_sub hl [3, 4, 1, 0] rfl)
    · replace h := if_f q1 h
      refine lv_iload hx hb dX5_bodyFor_37 (lv_at hl 0 rfl) ?_
      rw [hQz]
      exact r_iret (v := s0) hx hb hr hlk hS hP (Option.some.inj h) dX5_bodyFor_39
  have B4 : ∀ (k4 : Int32 → Int32 → Option (Int32)) (C4 : ∀ (x2 : Int32) (x3 : Int32) (H : Heap) (locs : List Loc) (ls : Array Slot), k4 x2 x3 = some r → va_P g.1 vwCl ([] : va_W) H → va_S (aA 0 (fun _ => 0) s.heap.size) s.heap H locs → lv_has ls 5 [(0, .int p0), (1, .int p1), (2, .int x2), (3, .int x3)] → W p l e rmX5_bodyFor s m args below meth c H locs 0 0 Qz (F0 m 4 ls [])), ∀ (x2 : Int32) (x3 : Int32) (H : Heap) (locs : List Loc) (ls : Array Slot), fX5_bodyFor_b4 p0 p1 k4 x2 x3 = some r → va_P g.1 vwCl ([] : va_W) H → va_S (aA 0 (fun _ => 0) s.heap.size) s.heap H locs → lv_has ls 5 [(0, .int p0), (1, .int p1), (2, .int x2), (3, .int x3)] → W p l e rmX5_bodyFor s m args below meth c H locs 0 0 Qz (F0 m 4 ls []) := by
    intro k4 C4 x2 x3 H locs ls h hP hS hl
    unfold fX5_bodyFor_b4 at h
    refine lv_iload_n hx hb dX5_bodyFor_4 rfl (lv_at hl 3 rfl) ?_
    refine lv_iconst (v := 5) hx hb dX5_bodyFor_5 (by decide) ?_
    refine lv_icmp_gt (x := x3) (y := 5) (tgt := 52) hx hb dX5_bodyFor_6 (by decide) (fun q1 => ?_) (fun q1 => ?_)
    · replace h := if_t q1 h
      exact B52 _ _ _ h hP hS (lv_sub hl [0, 1] rfl)
    · replace h := if_f q1 h
      refine lv_iload_n hx hb dX5_bodyFor_9 rfl (lv_at hl 2 rfl) ?_
      refine lv_if_le (x := x2) (tgt := 52) hx hb dX5_bodyFor_10 (by decide) (fun q2 => ?_) (fun q2 => ?_)
      · replace h := if_t q2 h
        exact B52 _ _ _ h hP hS (lv_sub hl [0, 1] rfl)
      · replace h := if_f q2 h
        refine lv_iload_n hx hb dX5_bodyFor_13 rfl (lv_at hl 1 rfl) ?_
        refine lv_if_ne (x := p1) (tgt := 25) hx hb dX5_bodyFor_14 (by decide) (fun q3 => ?_) (fun q3 => ?_)
        · replace h := if_f q3 h
          refine va_gets hx hb zM hS hown w302 (fun _ h => h) dX5_bodyFor_25 ?_
          refine lv_iload_n hx hb dX5_bodyFor_28 rfl (lv_at hl 2 rfl) ?_
          obtain ⟨q4, h⟩ := chk_ok h
          refine va_ti (i := x2) hx hb vM hS (bIn_ok q4) rfl dX5_bodyFor_29 ?_
          exact B30 k4 C4 x2 x3 (stM (Int32.toNatClampNeg x2)) _ _ _ h hP hS (lv_sub hl [0, 1, 2, 3] rfl)
        · replace h := if_t q3 h
          refine va_gets hx hb zS hS hown w299 (fun _ h => h) dX5_bodyFor_17 ?_
          refine lv_iload_n hx hb dX5_bodyFor_20 rfl (lv_at hl 2 rfl) ?_
          obtain ⟨q5, h⟩ := chk_ok h
          refine va_ti (i := x2) hx hb vS hS (bIn_ok q5) rfl dX5_bodyFor_21 ?_
          refine lv_goto (tgt := 30) hx hb dX5_bodyFor_22 (by decide) ?_
          exact B30 k4 C4 x2 x3 (stS (Int32.toNatClampNeg x2)) _ _ _ h hP hS (lv_sub hl [0, 1, 2, 3] rfl)
  have L4 : ∀ (n : Nat), ∀ (x2 : Int32) (x3 : Int32) (H : Heap) (locs : List Loc) (ls : Array Slot), fX5_bodyFor_l4 p0 p1 n x2 x3 = some r → va_P g.1 vwCl ([] : va_W) H → va_S (aA 0 (fun _ => 0) s.heap.size) s.heap H locs → lv_has ls 5 [(0, .int p0), (1, .int p1), (2, .int x2), (3, .int x3)] → W p l e rmX5_bodyFor s m args below meth c H locs 0 0 Qz (F0 m 4 ls []) := by
    intro n
    induction n with
    | zero => intro x2 x3 H locs ls h; exact absurd (show (none : Option (Int32)) = some _ from h) (fun z => by cases z)
    | succ n ih => exact fun x2 x3 H locs ls h hP hS hl => B4 (fX5_bodyFor_l4 p0 p1 n) ih x2 x3 H locs ls h hP hS hl
  unfold fX5_bodyFor at h
  refine lv_iload_n hx hb dX5_bodyFor_0 rfl (lv_at hl 0 rfl) ?_
  refine lv_istore_n (lv' := [(2, .int p0), (0, .int p0), (1, .int p1)]) hx hb dX5_bodyFor_1 rfl hl (by decide) rfl (fun ls hl => ?_)
  refine lv_iconst (v := 0) hx hb dX5_bodyFor_2 (by decide) ?_
  refine lv_istore_n (lv' := [(3, .int 0), (2, .int p0), (0, .int p0), (1, .int p1)]) hx hb dX5_bodyFor_3 rfl hl (by decide) rfl (fun ls hl => ?_)
  exact L4 FU p0 0 _ _ _ h hP hS (lv_sub hl [2, 3, 1, 0] rfl)
def rmX5_answerOf (k : Nat) : Room := { frames := 2 + k, cells := 0, slots := 0, locals := 84 + 60 * k }
set_option maxHeartbeats 4000000 in
set_option maxRecDepth 100000 in
theorem ok_X5_answerOf (l : Launch) (g : gT) (a : Nat → Nat) (hI : ij 203 a) : ∀ (k : Nat) (p0 : Int32) (p2 : Int32) (p4 : Int32) (M : Mem) (M' : Mem) (r : Int32) (h : fX5_answerOf k p0 p2 p4 M = some (r, M')), MIs l yX5_answerOf wsX5_answerOf (rmX5_answerOf k) g 203 a [.int p0, .ref (a 4), .int p2, .ref (a 132), .int p4] (wl 203 a (eX g a M)) (wl 203 a (eX g a M')) r := by
  intro k
  induction k with
  | zero => intro p0 p2 p4 M M' r h; exact absurd (show (none : Option (Int32 × Mem)) = some _ from h) (fun z => by cases z)
  | succ k ih =>
  intro p0 p2 p4 M M' r h
  refine MIs_of (cc := cX5_answerOf) (maxL := 6) (rt := .int) (by decide) rfl (Nat.le_of_ble_eq_true rfl) ?_
  intro p e s m args below meth c ls hx hb hml hr hlk hts hown hK hP hl hZ
  obtain ⟨⟨tN, zN, vN⟩, ⟨tS, zS, vS⟩, ⟨tM, zM, vM⟩⟩ := id hZ
  have hown : s.vm.findClass RX5 = some m.cls := hown
  have hl : lv_has ls 6 [(0, .int p0), (1, .ref (a 4)), (2, .int p2), (3, .ref (a 132)), (4, .int p4)] := hl
  have hS : va_S (aA 203 a s.heap.size) s.heap s.heap [] := va_S.rf
  have iX2 : ∀ w ∈ wsX20, w ∈ wsX5_answerOf := fun w h => List.mem_cons_of_mem _ (List.mem_append_left _ (List.mem_append_right _ h))
  have w160 := hts (.fieldLink RX5 160 "StepRiders$Stair" "at" "[I") (by decide +kernel)
  have w257 := hts (.fieldLink RX5 257 "StepRiders$Stair" "kind" "[I") (by decide +kernel)
  have w166 := hts (.fieldLink RX5 166 "StepRiders$Stair" "lane" "[I") (by decide +kernel)
  obtain ⟨Qz, hQz⟩ : ∃ Qz : State → Prop, Qz = MQ below (qI g (wl 203 a (eX g a M')) r (aA 203 a s.heap.size)) args s 0 0 (aA 203 a s.heap.size) := ⟨_, rfl⟩
  rw [← hQz]
  replace h : fX5_answerOf_b0 (fX5_answerOf k) p0 p2 p4 M = some (r, M') := h
  unfold fX5_answerOf_b0 at h
  refine lv_iload hx hb dX5_answerOf_0 (lv_at hl 4 rfl) ?_
  refine lv_bipush (v := 16) hx hb dX5_answerOf_2 (by decide) ?_
  refine lv_icmp_le (x := p4) (y := 16) (tgt := 9) hx hb dX5_answerOf_4 (by decide) (fun q1 => ?_) (fun q1 => ?_)
  · replace h := if_t q1 h
    refine lv_iload hx hb dX5_answerOf_9 (lv_at hl 4 rfl) ?_
    refine lv_iconst (v := 1) hx hb dX5_answerOf_11 (by decide) ?_
    refine lv_iadd (x := p4) (y := 1) hx hb dX5_answerOf_12 ?_
    refine lv_istore (lv' := [(5, .int (p4 + 1)), (0, .int p0), (1, .ref (a 4)), (2, .int p2), (3, .ref (a 132)), (4, .int p4)]) hx hb dX5_answerOf_13 hl (by decide) rfl (fun ls hl => ?_)
    refine lv_aload_n hx hb dX5_answerOf_15 rfl (lv_at hl 4 rfl) ?_
    refine lv_iload_n hx hb dX5_answerOf_16 rfl (lv_at hl 1 rfl) ?_
    obtain ⟨M4, e3, h⟩ := bdV_ok h
    refine r_callVv (As := [.int p0]) (rest := []) (ws' := (wl 203 a (eX g a M4))) (ok_X4_leave l g a hI p0 M M4 e3) ⟨hx, hb, hml, hown, hts⟩ (cwV 1 hts gX5_answerOf_X4_leave rfl rfl rfl (by decide +kernel) (by simp only [rmX5_answerOf, rmX4_leave]; omega)) hK (r_recv hK hP 132 (by decide) eX_132 (show vwCl[4]? = some (RX4, TX4, 2) from rfl)) hS hP (fun _ hq => aA_mono hS.1 hq) (fun _ h _ => h) rfl hl.1 rfl (Nat.le_of_ble_eq_true rfl) dX5_answerOf_17 ⟨Nat.zero_le _, Nat.zero_le _⟩ (fun H locs hP hS => ?_)
    refine lv_iload_n hx hb dX5_answerOf_20 rfl (lv_at hl 1 rfl) ?_
    by_cases q5 : p0 = 10
    · replace h := if_t q5 h
      refine lv_tableIn (x := p0) (tgt := 96) (off := 75) hx hb dX5_answerOf_21 (by rw [q5]; decide) (by rw [q5]; decide) (by rw [q5]; decide) (by decide) ?_
      refine lv_aload_n hx hb dX5_answerOf_96 rfl (lv_at hl 2 rfl) ?_
      refine r_get (v := .ref (a 7)) hx hb hts iX2 hown hK hP 4 (isSt_lt (c := 4) (by decide) 0 (by decide)) (eX_Stair (c := 4) (by decide)) rfl 6 (by decide) w160 rfl dX5_answerOf_97 ?_
      refine lv_iload_n hx hb dX5_answerOf_100 rfl (lv_at hl 3 rfl) ?_
      obtain ⟨q6, h⟩ := chk_ok h
      refine r_iald (i := p2) (h := M4 7) hx hb hK hP 7 (isSt_lt (c := 4) (by decide) 3 (by decide)) (eX_Sa3 (c := 4) (by decide)) q6 dX5_answerOf_101 ?_
      rw [hQz]
      exact r_iret (v := (M4 7 (Int32.toNatClampNeg p2))) hx hb hr hlk hS ((Prod.mk.inj (Option.some.inj h)).2 ▸ hP) (Prod.mk.inj (Option.some.inj h)).1 dX5_answerOf_102
    replace h := if_f q5 h
    by_cases q7 : p0 = 11
    · replace h := if_t q7 h
      refine lv_tableIn (x := p0) (tgt := 103) (off := 82) hx hb dX5_answerOf_21 (by rw [q7]; decide) (by rw [q7]; decide) (by rw [q7]; decide) (by decide) ?_
      refine lv_bipush (v := 10) hx hb dX5_answerOf_103 (by decide) ?_
      refine lv_aload_n hx hb dX5_answerOf_105 rfl (lv_at hl 2 rfl) ?_
      refine lv_iload_n hx hb dX5_answerOf_106 rfl (lv_at hl 3 rfl) ?_
      refine lv_aload_n hx hb dX5_answerOf_107 rfl (lv_at hl 4 rfl) ?_
      refine lv_iload hx hb dX5_answerOf_108 (lv_at hl 0 rfl) ?_
      obtain ⟨r8, M10, e9, h⟩ := bdI_ok h
      refine r_callSiz hZ (As := [.int 10, .ref (a 4), .int p2, .ref (a 132), .int (p4 + 1)]) (rest := []) (ws' := (wl 203 a (eX g a M10))) (ih 10 p2 (p4 + 1) M4 M10 r8 e9) ⟨hx, hb, hml, hown, hts⟩ (cwS 5 hts gX5_answerOf_X5_answerOf rfl rfl rfl (by decide +kernel) (by simp only [rmX5_answerOf]; omega)) hK hS hP (fun _ hq => aA_mono hS.1 hq) (fun _ h _ => h) rfl hl.1 rfl (Nat.le_of_ble_eq_true rfl) dX5_answerOf_110 ⟨Nat.zero_le _, Nat.zero_le _⟩ (fun H locs hP hS => ?_)
      refine lv_aload_n hx hb dX5_answerOf_113 rfl (lv_at hl 2 rfl) ?_
      refine r_get (v := .ref (a 5)) hx hb hts iX2 hown hK hP 4 (isSt_lt (c := 4) (by decide) 0 (by decide)) (eX_Stair (c := 4) (by decide)) rfl 4 (by decide) w257 rfl dX5_answerOf_114 ?_
      refine lv_iload_n hx hb dX5_answerOf_117 rfl (lv_at hl 3 rfl) ?_
      obtain ⟨q11, h⟩ := chk_ok h
      refine r_iald (i := p2) (h := M10 5) hx hb hK hP 5 (isSt_lt (c := 4) (by decide) 1 (by decide)) (eX_Sa1 (c := 4) (by decide)) q11 dX5_answerOf_118 ?_
      refine lv_iconst (v := 1) hx hb dX5_answerOf_119 (by decide) ?_
      obtain ⟨r12, e13, h⟩ := bdP_ok h
      refine r_callSiz hZ (As := [.int (M10 5 (Int32.toNatClampNeg p2)), .int 1]) (rest := [.int r8]) (ws' := (wl 203 a (eX g a M10))) (ok_X5_bodyFor l g (M10 5 (Int32.toNatClampNeg p2)) 1 r12 e13) ⟨hx, hb, hml, hown, hts⟩ (cwS 2 hts gX5_answerOf_X5_bodyFor rfl rfl rfl (by decide +kernel) (by simp only [rmX5_answerOf, rmX5_bodyFor]; omega)) hK hS nilP (P_A hS.1) (fun _ _ hk => wl_keep hP hk) rfl hl.1 rfl (Nat.le_of_ble_eq_true rfl) dX5_answerOf_120 ⟨Nat.zero_le _, Nat.zero_le _⟩ (fun H locs hP hS => ?_)
      refine lv_aload_n hx hb dX5_answerOf_123 rfl (lv_at hl 2 rfl) ?_
      refine lv_iload_n hx hb dX5_answerOf_124 rfl (lv_at hl 3 rfl) ?_
      refine lv_aload_n hx hb dX5_answerOf_125 rfl (lv_at hl 4 rfl) ?_
      refine lv_iload hx hb dX5_answerOf_126 (lv_at hl 0 rfl) ?_
      obtain ⟨r14, M16, e15, h⟩ := bdI_ok h
      refine r_callSiz hZ (As := [.int r12, .ref (a 4), .int p2, .ref (a 132), .int (p4 + 1)]) (rest := [.int r8]) (ws' := (wl 203 a (eX g a M16))) (ih r12 p2 (p4 + 1) M10 M16 r14 e15) ⟨hx, hb, hml, hown, hts⟩ (cwS 5 hts gX5_answerOf_X5_answerOf rfl rfl rfl (by decide +kernel) (by simp only [rmX5_answerOf]; omega)) hK hS hP (fun _ hq => aA_mono hS.1 hq) (fun _ h _ => h) rfl hl.1 rfl (Nat.le_of_ble_eq_true rfl) dX5_answerOf_128 ⟨Nat.zero_le _, Nat.zero_le _⟩ (fun H locs hP hS => ?_)
      refine lv_iadd (x := r8) (y := r14) hx hb dX5_answerOf_131 ?_
      rw [hQz]
      exact r_iret (v := (r8 + r14)) hx hb hr hlk hS ((Prod.mk.inj (Option.some.inj h)).2 ▸ hP) (Prod.mk.inj (Option.some.inj h)).1 dX5_answerOf_132
    replace h := if_f q7 h
    by_cases q17 : p0 = 12
    · replace h := if_t q17 h
      refine lv_tableIn (x := p0) (tgt := 133) (off := 112) hx hb dX5_answerOf_21 (by rw [q17]; decide) (by rw [q17]; decide) (by rw [q17]; decide) (by decide) ?_
      refine lv_bipush (v := 11) hx hb dX5_answerOf_133 (by decide) ?_
      refine lv_aload_n hx hb dX5_answerOf_135 rfl (lv_at hl 2 rfl) ?_
      refine lv_iload_n hx hb dX5_answerOf_136 rfl (lv_at hl 3 rfl) ?_
      refine lv_aload_n hx hb dX5_answerOf_137 rfl (lv_at hl 4 rfl) ?_
      refine lv_iload hx hb dX5_answerOf_138 (lv_at hl 0 rfl) ?_
      obtain ⟨r18, M20, e19, h⟩ := bdI_ok h
      refine r_callSiz hZ (As := [.int 11, .ref (a 4), .int p2, .ref (a 132), .int (p4 + 1)]) (rest := []) (ws' := (wl 203 a (eX g a M20))) (ih 11 p2 (p4 + 1) M4 M20 r18 e19) ⟨hx, hb, hml, hown, hts⟩ (cwS 5 hts gX5_answerOf_X5_answerOf rfl rfl rfl (by decide +kernel) (by simp only [rmX5_answerOf]; omega)) hK hS hP (fun _ hq => aA_mono hS.1 hq) (fun _ h _ => h) rfl hl.1 rfl (Nat.le_of_ble_eq_true rfl) dX5_answerOf_140 ⟨Nat.zero_le _, Nat.zero_le _⟩ (fun H locs hP hS => ?_)
      refine lv_ineg (x := r18) hx hb dX5_answerOf_143 ?_
      rw [hQz]
      exact r_iret (v := ((-r18))) hx hb hr hlk hS ((Prod.mk.inj (Option.some.inj h)).2 ▸ hP) (Prod.mk.inj (Option.some.inj h)).1 dX5_answerOf_144
    replace h := if_f q17 h
    by_cases q21 : p0 = 13
    · replace h := if_t q21 h
      refine lv_tableIn (x := p0) (tgt := 145) (off := 124) hx hb dX5_answerOf_21 (by rw [q21]; decide) (by rw [q21]; decide) (by rw [q21]; decide) (by decide) ?_
      refine lv_bipush (v := 10) hx hb dX5_answerOf_145 (by decide) ?_
      refine lv_aload_n hx hb dX5_answerOf_147 rfl (lv_at hl 2 rfl) ?_
      refine lv_iload_n hx hb dX5_answerOf_148 rfl (lv_at hl 3 rfl) ?_
      refine lv_aload_n hx hb dX5_answerOf_149 rfl (lv_at hl 4 rfl) ?_
      refine lv_iload hx hb dX5_answerOf_150 (lv_at hl 0 rfl) ?_
      obtain ⟨r22, M24, e23, h⟩ := bdI_ok h
      refine r_callSiz hZ (As := [.int 10, .ref (a 4), .int p2, .ref (a 132), .int (p4 + 1)]) (rest := []) (ws' := (wl 203 a (eX g a M24))) (ih 10 p2 (p4 + 1) M4 M24 r22 e23) ⟨hx, hb, hml, hown, hts⟩ (cwS 5 hts gX5_answerOf_X5_answerOf rfl rfl rfl (by decide +kernel) (by simp only [rmX5_answerOf]; omega)) hK hS hP (fun _ hq => aA_mono hS.1 hq) (fun _ h _ => h) rfl hl.1 rfl (Nat.le_of_ble_eq_true rfl) dX5_answerOf_152 ⟨Nat.zero_le _, Nat.zero_le _⟩ (fun H locs hP hS => ?_)
      refine lv_bipush (v := 100) hx hb dX5_answerOf_155 (by decide) ?_
      refine lv_isub (x := r22) (y := 100) hx hb dX5_answerOf_157 ?_
      rw [hQz]
      exact r_iret (v := (r22 - 100)) hx hb hr hlk hS ((Prod.mk.inj (Option.some.inj h)).2 ▸ hP) (Prod.mk.inj (Option.some.inj h)).1 dX5_answerOf_158
    replace h := if_f q21 h
    by_cases q25 : p0 = 14
    · replace h := if_t q25 h
      refine lv_tableIn (x := p0) (tgt := 159) (off := 138) hx hb dX5_answerOf_21 (by rw [q25]; decide) (by rw [q25]; decide) (by rw [q25]; decide) (by decide) ?_
      refine lv_bipush (v := 13) hx hb dX5_answerOf_159 (by decide) ?_
      refine lv_aload_n hx hb dX5_answerOf_161 rfl (lv_at hl 2 rfl) ?_
      refine lv_iload_n hx hb dX5_answerOf_162 rfl (lv_at hl 3 rfl) ?_
      refine lv_aload_n hx hb dX5_answerOf_163 rfl (lv_at hl 4 rfl) ?_
      refine lv_iload hx hb dX5_answerOf_164 (lv_at hl 0 rfl) ?_
      obtain ⟨r26, M28, e27, h⟩ := bdI_ok h
      refine r_callSiz hZ (As := [.int 13, .ref (a 4), .int p2, .ref (a 132), .int (p4 + 1)]) (rest := []) (ws' := (wl 203 a (eX g a M28))) (ih 13 p2 (p4 + 1) M4 M28 r26 e27) ⟨hx, hb, hml, hown, hts⟩ (cwS 5 hts gX5_answerOf_X5_answerOf rfl rfl rfl (by decide +kernel) (by simp only [rmX5_answerOf]; omega)) hK hS hP (fun _ hq => aA_mono hS.1 hq) (fun _ h _ => h) rfl hl.1 rfl (Nat.le_of_ble_eq_true rfl) dX5_answerOf_166 ⟨Nat.zero_le _, Nat.zero_le _⟩ (fun H locs hP hS => ?_)
      refine lv_iconst (v := 2) hx hb dX5_answerOf_169 (by decide) ?_
      refine lv_imul (x := r26) (y := 2) hx hb dX5_answerOf_170 ?_
      rw [hQz]
      exact r_iret (v := (r26 * 2)) hx hb hr hlk hS ((Prod.mk.inj (Option.some.inj h)).2 ▸ hP) (Prod.mk.inj (Option.some.inj h)).1 dX5_answerOf_171
    replace h := if_f q25 h
    by_cases q29 : p0 = 15
    · replace h := if_t q29 h
      refine lv_tableIn (x := p0) (tgt := 250) (off := 229) hx hb dX5_answerOf_21 (by rw [q29]; decide) (by rw [q29]; decide) (by rw [q29]; decide) (by decide) ?_
      refine lv_iconst (v := 0) hx hb dX5_answerOf_250 (by decide) ?_
      rw [hQz]
      exact r_iret (v := 0) hx hb hr hlk hS ((Prod.mk.inj (Option.some.inj h)).2 ▸ hP) (Prod.mk.inj (Option.some.inj h)).1 dX5_answerOf_251
    replace h := if_f q29 h
    by_cases q30 : p0 = 16
    · replace h := if_t q30 h
      refine lv_tableIn (x := p0) (tgt := 250) (off := 229) hx hb dX5_answerOf_21 (by rw [q30]; decide) (by rw [q30]; decide) (by rw [q30]; decide) (by decide) ?_
      refine lv_iconst (v := 0) hx hb dX5_answerOf_250 (by decide) ?_
      rw [hQz]
      exact r_iret (v := 0) hx hb hr hlk hS ((Prod.mk.inj (Option.some.inj h)).2 ▸ hP) (Prod.mk.inj (Option.some.inj h)).1 dX5_answerOf_251
    replace h := if_f q30 h
    by_cases q31 : p0 = 17
    · replace h := if_t q31 h
      refine lv_tableIn (x := p0) (tgt := 250) (off := 229) hx hb dX5_answerOf_21 (by rw [q31]; decide) (by rw [q31]; decide) (by rw [q31]; decide) (by decide) ?_
      refine lv_iconst (v := 0) hx hb dX5_answerOf_250 (by decide) ?_
      rw [hQz]
      exact r_iret (v := 0) hx hb hr hlk hS ((Prod.mk.inj (Option.some.inj h)).2 ▸ hP) (Prod.mk.inj (Option.some.inj h)).1 dX5_answerOf_251
    replace h := if_f q31 h
    by_cases q32 : p0 = 18
    · replace h := if_t q32 h
      refine lv_tableIn (x := p0) (tgt := 250) (off := 229) hx hb dX5_answerOf_21 (by rw [q32]; decide) (by rw [q32]; decide) (by rw [q32]; decide) (by decide) ?_
      refine lv_iconst (v := 0) hx hb dX5_answerOf_250 (by decide) ?_
      rw [hQz]
      exact r_iret (v := 0) hx hb hr hlk hS ((Prod.mk.inj (Option.some.inj h)).2 ▸ hP) (Prod.mk.inj (Option.some.inj h)).1 dX5_answerOf_251
    replace h := if_f q32 h
    by_cases q33 : p0 = 19
    · replace h := if_t q33 h
      refine lv_tableIn (x := p0) (tgt := 250) (off := 229) hx hb dX5_answerOf_21 (by rw [q33]; decide) (by rw [q33]; decide) (by rw [q33]; decide) (by decide) ?_
      refine lv_iconst (v := 0) hx hb dX5_answerOf_250 (by decide) ?_
      rw [hQz]
      exact r_iret (v := 0) hx hb hr hlk hS ((Prod.mk.inj (Option.some.inj h)).2 ▸ hP) (Prod.mk.inj (Option.some.inj h)).1 dX5_answerOf_251
    replace h := if_f q33 h
    by_cases q34 : p0 = 20
    · replace h := if_t q34 h
      refine lv_tableIn (x := p0) (tgt := 172) (off := 151) hx hb dX5_answerOf_21 (by rw [q34]; decide) (by rw [q34]; decide) (by rw [q34]; decide) (by decide) ?_
      refine lv_iload_n hx hb dX5_answerOf_172 rfl (lv_at hl 3 rfl) ?_
      rw [hQz]
      exact r_iret (v := p2) hx hb hr hlk hS ((Prod.mk.inj (Option.some.inj h)).2 ▸ hP) (Prod.mk.inj (Option.some.inj h)).1 dX5_answerOf_173
    replace h := if_f q34 h
    by_cases q35 : p0 = 21
    · replace h := if_t q35 h
      refine lv_tableIn (x := p0) (tgt := 174) (off := 153) hx hb dX5_answerOf_21 (by rw [q35]; decide) (by rw [q35]; decide) (by rw [q35]; decide) (by decide) ?_
      refine lv_bipush (v := 20) hx hb dX5_answerOf_174 (by decide) ?_
      refine lv_aload_n hx hb dX5_answerOf_176 rfl (lv_at hl 2 rfl) ?_
      refine lv_iload_n hx hb dX5_answerOf_177 rfl (lv_at hl 3 rfl) ?_
      refine lv_aload_n hx hb dX5_answerOf_178 rfl (lv_at hl 4 rfl) ?_
      refine lv_iload hx hb dX5_answerOf_179 (lv_at hl 0 rfl) ?_
      obtain ⟨r36, M38, e37, h⟩ := bdI_ok h
      refine r_callSiz hZ (As := [.int 20, .ref (a 4), .int p2, .ref (a 132), .int (p4 + 1)]) (rest := []) (ws' := (wl 203 a (eX g a M38))) (ih 20 p2 (p4 + 1) M4 M38 r36 e37) ⟨hx, hb, hml, hown, hts⟩ (cwS 5 hts gX5_answerOf_X5_answerOf rfl rfl rfl (by decide +kernel) (by simp only [rmX5_answerOf]; omega)) hK hS hP (fun _ hq => aA_mono hS.1 hq) (fun _ h _ => h) rfl hl.1 rfl (Nat.le_of_ble_eq_true rfl) dX5_answerOf_181 ⟨Nat.zero_le _, Nat.zero_le _⟩ (fun H locs hP hS => ?_)
      refine lv_aload_n hx hb dX5_answerOf_184 rfl (lv_at hl 2 rfl) ?_
      refine r_get (v := .ref (a 6)) hx hb hts iX2 hown hK hP 4 (isSt_lt (c := 4) (by decide) 0 (by decide)) (eX_Stair (c := 4) (by decide)) rfl 5 (by decide) w166 rfl dX5_answerOf_185 ?_
      refine lv_iload_n hx hb dX5_answerOf_188 rfl (lv_at hl 3 rfl) ?_
      obtain ⟨q39, h⟩ := chk_ok h
      refine r_iald (i := p2) (h := M38 6) hx hb hK hP 6 (isSt_lt (c := 4) (by decide) 2 (by decide)) (eX_Sa2 (c := 4) (by decide)) q39 dX5_answerOf_189 ?_
      refine lv_iadd (x := r36) (y := (M38 6 (Int32.toNatClampNeg p2))) hx hb dX5_answerOf_190 ?_
      rw [hQz]
      exact r_iret (v := (r36 + (M38 6 (Int32.toNatClampNeg p2)))) hx hb hr hlk hS ((Prod.mk.inj (Option.some.inj h)).2 ▸ hP) (Prod.mk.inj (Option.some.inj h)).1 dX5_answerOf_191
    replace h := if_f q35 h
    by_cases q40 : p0 = 22
    · replace h := if_t q40 h
      refine lv_tableIn (x := p0) (tgt := 192) (off := 171) hx hb dX5_answerOf_21 (by rw [q40]; decide) (by rw [q40]; decide) (by rw [q40]; decide) (by decide) ?_
      refine lv_bipush (v := 21) hx hb dX5_answerOf_192 (by decide) ?_
      refine lv_aload_n hx hb dX5_answerOf_194 rfl (lv_at hl 2 rfl) ?_
      refine lv_iload_n hx hb dX5_answerOf_195 rfl (lv_at hl 3 rfl) ?_
      refine lv_aload_n hx hb dX5_answerOf_196 rfl (lv_at hl 4 rfl) ?_
      refine lv_iload hx hb dX5_answerOf_197 (lv_at hl 0 rfl) ?_
      obtain ⟨r41, M43, e42, h⟩ := bdI_ok h
      refine r_callSiz hZ (As := [.int 21, .ref (a 4), .int p2, .ref (a 132), .int (p4 + 1)]) (rest := []) (ws' := (wl 203 a (eX g a M43))) (ih 21 p2 (p4 + 1) M4 M43 r41 e42) ⟨hx, hb, hml, hown, hts⟩ (cwS 5 hts gX5_answerOf_X5_answerOf rfl rfl rfl (by decide +kernel) (by simp only [rmX5_answerOf]; omega)) hK hS hP (fun _ hq => aA_mono hS.1 hq) (fun _ h _ => h) rfl hl.1 rfl (Nat.le_of_ble_eq_true rfl) dX5_answerOf_199 ⟨Nat.zero_le _, Nat.zero_le _⟩ (fun H locs hP hS => ?_)
      refine lv_sipush (v := 1000) hx hb dX5_answerOf_202 (by decide) ?_
      refine lv_isub (x := r41) (y := 1000) hx hb dX5_answerOf_205 ?_
      rw [hQz]
      exact r_iret (v := (r41 - 1000)) hx hb hr hlk hS ((Prod.mk.inj (Option.some.inj h)).2 ▸ hP) (Prod.mk.inj (Option.some.inj h)).1 dX5_answerOf_206
    replace h := if_f q40 h
    by_cases q44 : p0 = 23
    · replace h := if_t q44 h
      refine lv_tableIn (x := p0) (tgt := 207) (off := 186) hx hb dX5_answerOf_21 (by rw [q44]; decide) (by rw [q44]; decide) (by rw [q44]; decide) (by decide) ?_
      refine lv_bipush (v := 20) hx hb dX5_answerOf_207 (by decide) ?_
      refine lv_aload_n hx hb dX5_answerOf_209 rfl (lv_at hl 2 rfl) ?_
      refine lv_iload_n hx hb dX5_answerOf_210 rfl (lv_at hl 3 rfl) ?_
      refine lv_aload_n hx hb dX5_answerOf_211 rfl (lv_at hl 4 rfl) ?_
      refine lv_iload hx hb dX5_answerOf_212 (lv_at hl 0 rfl) ?_
      obtain ⟨r45, M47, e46, h⟩ := bdI_ok h
      refine r_callSiz hZ (As := [.int 20, .ref (a 4), .int p2, .ref (a 132), .int (p4 + 1)]) (rest := []) (ws' := (wl 203 a (eX g a M47))) (ih 20 p2 (p4 + 1) M4 M47 r45 e46) ⟨hx, hb, hml, hown, hts⟩ (cwS 5 hts gX5_answerOf_X5_answerOf rfl rfl rfl (by decide +kernel) (by simp only [rmX5_answerOf]; omega)) hK hS hP (fun _ hq => aA_mono hS.1 hq) (fun _ h _ => h) rfl hl.1 rfl (Nat.le_of_ble_eq_true rfl) dX5_answerOf_214 ⟨Nat.zero_le _, Nat.zero_le _⟩ (fun H locs hP hS => ?_)
      refine lv_aload_n hx hb dX5_answerOf_217 rfl (lv_at hl 2 rfl) ?_
      refine r_get (v := .ref (a 5)) hx hb hts iX2 hown hK hP 4 (isSt_lt (c := 4) (by decide) 0 (by decide)) (eX_Stair (c := 4) (by decide)) rfl 4 (by decide) w257 rfl dX5_answerOf_218 ?_
      refine lv_iload_n hx hb dX5_answerOf_221 rfl (lv_at hl 3 rfl) ?_
      obtain ⟨q48, h⟩ := chk_ok h
      refine r_iald (i := p2) (h := M47 5) hx hb hK hP 5 (isSt_lt (c := 4) (by decide) 1 (by decide)) (eX_Sa1 (c := 4) (by decide)) q48 dX5_answerOf_222 ?_
      refine lv_iconst (v := 0) hx hb dX5_answerOf_223 (by decide) ?_
      obtain ⟨r49, e50, h⟩ := bdP_ok h
      refine r_callSiz hZ (As := [.int (M47 5 (Int32.toNatClampNeg p2)), .int 0]) (rest := [.int r45]) (ws' := (wl 203 a (eX g a M47))) (ok_X5_bodyFor l g (M47 5 (Int32.toNatClampNeg p2)) 0 r49 e50) ⟨hx, hb, hml, hown, hts⟩ (cwS 2 hts gX5_answerOf_X5_bodyFor rfl rfl rfl (by decide +kernel) (by simp only [rmX5_answerOf, rmX5_bodyFor]; omega)) hK hS nilP (P_A hS.1) (fun _ _ hk => wl_keep hP hk) rfl hl.1 rfl (Nat.le_of_ble_eq_true rfl) dX5_answerOf_224 ⟨Nat.zero_le _, Nat.zero_le _⟩ (fun H locs hP hS => ?_)
      refine lv_aload_n hx hb dX5_answerOf_227 rfl (lv_at hl 2 rfl) ?_
      refine lv_iload_n hx hb dX5_answerOf_228 rfl (lv_at hl 3 rfl) ?_
      refine lv_aload_n hx hb dX5_answerOf_229 rfl (lv_at hl 4 rfl) ?_
      refine lv_iload hx hb dX5_answerOf_230 (lv_at hl 0 rfl) ?_
      obtain ⟨r51, M53, e52, h⟩ := bdI_ok h
      refine r_callSiz hZ (As := [.int r49, .ref (a 4), .int p2, .ref (a 132), .int (p4 + 1)]) (rest := [.int r45]) (ws' := (wl 203 a (eX g a M53))) (ih r49 p2 (p4 + 1) M47 M53 r51 e52) ⟨hx, hb, hml, hown, hts⟩ (cwS 5 hts gX5_answerOf_X5_answerOf rfl rfl rfl (by decide +kernel) (by simp only [rmX5_answerOf]; omega)) hK hS hP (fun _ hq => aA_mono hS.1 hq) (fun _ h _ => h) rfl hl.1 rfl (Nat.le_of_ble_eq_true rfl) dX5_answerOf_232 ⟨Nat.zero_le _, Nat.zero_le _⟩ (fun H locs hP hS => ?_)
      refine lv_isub (x := r45) (y := r51) hx hb dX5_answerOf_235 ?_
      rw [hQz]
      exact r_iret (v := (r45 - r51)) hx hb hr hlk hS ((Prod.mk.inj (Option.some.inj h)).2 ▸ hP) (Prod.mk.inj (Option.some.inj h)).1 dX5_answerOf_236
    replace h := if_f q44 h
    by_cases q54 : p0 = 24
    · replace h := if_t q54 h
      refine lv_tableIn (x := p0) (tgt := 237) (off := 216) hx hb dX5_answerOf_21 (by rw [q54]; decide) (by rw [q54]; decide) (by rw [q54]; decide) (by decide) ?_
      refine lv_bipush (v := 21) hx hb dX5_answerOf_237 (by decide) ?_
      refine lv_aload_n hx hb dX5_answerOf_239 rfl (lv_at hl 2 rfl) ?_
      refine lv_iload_n hx hb dX5_answerOf_240 rfl (lv_at hl 3 rfl) ?_
      refine lv_aload_n hx hb dX5_answerOf_241 rfl (lv_at hl 4 rfl) ?_
      refine lv_iload hx hb dX5_answerOf_242 (lv_at hl 0 rfl) ?_
      obtain ⟨r55, M57, e56, h⟩ := bdI_ok h
      refine r_callSiz hZ (As := [.int 21, .ref (a 4), .int p2, .ref (a 132), .int (p4 + 1)]) (rest := []) (ws' := (wl 203 a (eX g a M57))) (ih 21 p2 (p4 + 1) M4 M57 r55 e56) ⟨hx, hb, hml, hown, hts⟩ (cwS 5 hts gX5_answerOf_X5_answerOf rfl rfl rfl (by decide +kernel) (by simp only [rmX5_answerOf]; omega)) hK hS hP (fun _ hq => aA_mono hS.1 hq) (fun _ h _ => h) rfl hl.1 rfl (Nat.le_of_ble_eq_true rfl) dX5_answerOf_244 ⟨Nat.zero_le _, Nat.zero_le _⟩ (fun H locs hP hS => ?_)
      refine lv_iconst (v := 2) hx hb dX5_answerOf_247 (by decide) ?_
      refine lv_imul (x := r55) (y := 2) hx hb dX5_answerOf_248 ?_
      rw [hQz]
      exact r_iret (v := (r55 * 2)) hx hb hr hlk hS ((Prod.mk.inj (Option.some.inj h)).2 ▸ hP) (Prod.mk.inj (Option.some.inj h)).1 dX5_answerOf_249
    replace h := if_f q54 h
    have tq5 := lv_neT q5 (show (10 : Int32).toInt = 10 from rfl)
    have tq7 := lv_neT q7 (show (11 : Int32).toInt = 11 from rfl)
    have tq17 := lv_neT q17 (show (12 : Int32).toInt = 12 from rfl)
    have tq21 := lv_neT q21 (show (13 : Int32).toInt = 13 from rfl)
    have tq25 := lv_neT q25 (show (14 : Int32).toInt = 14 from rfl)
    have tq29 := lv_neT q29 (show (15 : Int32).toInt = 15 from rfl)
    have tq30 := lv_neT q30 (show (16 : Int32).toInt = 16 from rfl)
    have tq31 := lv_neT q31 (show (17 : Int32).toInt = 17 from rfl)
    have tq32 := lv_neT q32 (show (18 : Int32).toInt = 18 from rfl)
    have tq33 := lv_neT q33 (show (19 : Int32).toInt = 19 from rfl)
    have tq34 := lv_neT q34 (show (20 : Int32).toInt = 20 from rfl)
    have tq35 := lv_neT q35 (show (21 : Int32).toInt = 21 from rfl)
    have tq40 := lv_neT q40 (show (22 : Int32).toInt = 22 from rfl)
    have tq44 := lv_neT q44 (show (23 : Int32).toInt = 23 from rfl)
    have tq54 := lv_neT q54 (show (24 : Int32).toInt = 24 from rfl)
    refine lv_tableOut (x := p0) (tgt := 250) hx hb dX5_answerOf_21 (by omega) (by decide) ?_
    refine lv_iconst (v := 0) hx hb dX5_answerOf_250 (by decide) ?_
    rw [hQz]
    exact r_iret (v := 0) hx hb hr hlk hS ((Prod.mk.inj (Option.some.inj h)).2 ▸ hP) (Prod.mk.inj (Option.some.inj h)).1 dX5_answerOf_251
  · replace h := if_f q1 h
    refine lv_iconst (v := 0) hx hb dX5_answerOf_7 (by decide) ?_
    rw [hQz]
    exact r_iret (v := 0) hx hb hr hlk hS ((Prod.mk.inj (Option.some.inj h)).2 ▸ hP) (Prod.mk.inj (Option.some.inj h)).1 dX5_answerOf_8
def rmX5_ask : Room := { frames := 21, cells := 0, slots := 0, locals := 1189 }
set_option maxHeartbeats 4000000 in
set_option maxRecDepth 100000 in
theorem ok_X5_ask (l : Launch) (g : gT) (a : Nat → Nat) (hI : ij 203 a) (p1 : Int32) (p2 : Int32) (M : Mem) (M' : Mem) (r : Int32) (h : fX5_ask p1 p2 M = some (r, M')) : MIs l yX5_ask wsX5_ask rmX5_ask g 203 a [.ref (a 0), .int p1, .int p2] (wl 203 a (eX g a M)) (wl 203 a (eX g a M')) r := by
  refine MIs_of (cc := cX5_ask) (maxL := 3) (rt := .int) (by decide) rfl (Nat.le_of_ble_eq_true rfl) ?_
  intro p e s m args below meth c ls hx hb hml hr hlk hts hown hK hP hl hZ
  obtain ⟨⟨tN, zN, vN⟩, ⟨tS, zS, vS⟩, ⟨tM, zM, vM⟩⟩ := id hZ
  have hown : s.vm.findClass RX5 = some m.cls := hown
  have hl : lv_has ls 3 [(0, .ref (a 0)), (1, .int p1), (2, .int p2)] := hl
  have hS : va_S (aA 203 a s.heap.size) s.heap s.heap [] := va_S.rf
  have iX2 : ∀ w ∈ wsX20, w ∈ wsX5_ask := fun w h => List.mem_cons_of_mem _ (List.mem_append_right _ h)
  have iX4 : ∀ w ∈ wsX40, w ∈ wsX5_ask := fun w h => List.mem_cons_of_mem _ (List.mem_append_left _ (List.mem_append_right _ h))
  have iX5 : ∀ w ∈ wsX50, w ∈ wsX5_ask := fun w h => List.mem_cons_of_mem _ (List.mem_append_left _ (List.mem_append_left _ (List.mem_append_right _ h)))
  have w73 := hts (.constant RX5 73 (-1000001)) (by decide +kernel)
  have w43 := hts (.fieldLink RX5 43 "StepRiders" "traced" "LStepRiders$Trace;") (by decide +kernel)
  have w263 := hts (.fieldLink RX5 263 "StepRiders$Trace" "length" "I") (by decide +kernel)
  have w25 := hts (.fieldLink RX5 25 "StepRiders" "now" "LStepRiders$Stair;") (by decide +kernel)
  have w257 := hts (.fieldLink RX5 257 "StepRiders$Stair" "kind" "[I") (by decide +kernel)
  obtain ⟨Qz, hQz⟩ : ∃ Qz : State → Prop, Qz = MQ below (qI g (wl 203 a (eX g a M')) r (aA 203 a s.heap.size)) args s 0 0 (aA 203 a s.heap.size) := ⟨_, rfl⟩
  rw [← hQz]
  unfold fX5_ask at h
  refine lv_aload_n hx hb dX5_ask_0 rfl (lv_at hl 0 rfl) ?_
  refine lv_iload_n hx hb dX5_ask_1 rfl (lv_at hl 1 rfl) ?_
  obtain ⟨r1, e2, h⟩ := bdP_ok h
  refine r_callVi (As := [.int p1]) (rest := []) (ws' := (wl 203 a (eX g a M))) (ok_X5_noRider l g a hI p1 M r1 e2) ⟨hx, hb, hml, hown, hts⟩ (cwV 1 hts gX5_ask_X5_noRider rfl rfl rfl (by decide +kernel) ⟨Nat.le_of_ble_eq_true rfl, Nat.le_of_ble_eq_true rfl⟩) hK (r_recv hK hP 0 (by decide) eX_0 (show vwCl[5]? = some (RX5, TX5, 11) from rfl)) hS hP (fun _ hq => aA_mono hS.1 hq) (fun _ h _ => h) rfl hl.1 rfl (Nat.le_of_ble_eq_true rfl) dX5_ask_2 ⟨Nat.zero_le _, Nat.zero_le _⟩ (fun H locs hP hS => ?_)
  refine lv_if_ne (x := r1) (tgt := 17) hx hb dX5_ask_5 (by decide) (fun q3 => ?_) (fun q3 => ?_)
  · replace h := if_f q3 h
    refine lv_ldc (v := (-1000001)) hx hb hown w73 dX5_ask_17 ?_
    rw [hQz]
    exact r_iret (v := (-1000001)) hx hb hr hlk hS ((Prod.mk.inj (Option.some.inj h)).2 ▸ hP) (Prod.mk.inj (Option.some.inj h)).1 dX5_ask_19
  · replace h := if_t q3 h
    refine lv_iload_n hx hb dX5_ask_8 rfl (lv_at hl 2 rfl) ?_
    refine lv_iconst (v := 0) hx hb dX5_ask_9 (by decide) ?_
    refine lv_iconst (v := 1) hx hb dX5_ask_10 (by decide) ?_
    obtain ⟨r4, e5, h⟩ := bdP_ok h
    refine r_callSi (As := [.int p2, .int 0, .int 1]) (rest := []) (ws' := (wl 203 a (eX g a M))) (ok_X5_outside l g p2 0 1 r4 e5) ⟨hx, hb, hml, hown, hts⟩ (cwS 3 hts gX5_ask_X5_outside rfl rfl rfl (by decide +kernel) ⟨Nat.le_of_ble_eq_true rfl, Nat.le_of_ble_eq_true rfl⟩) hK hS nilP (P_A hS.1) (fun _ _ hk => wl_keep hP hk) rfl hl.1 rfl (Nat.le_of_ble_eq_true rfl) dX5_ask_11 ⟨Nat.zero_le _, Nat.zero_le _⟩ (fun H locs hP hS => ?_)
    refine lv_if_eq (x := r4) (tgt := 20) hx hb dX5_ask_14 (by decide) (fun q6 => ?_) (fun q6 => ?_)
    · replace h := if_t q6 h
      refine lv_aload_n hx hb dX5_ask_20 rfl (lv_at hl 0 rfl) ?_
      refine r_get (v := .ref (a 132)) hx hb hts iX5 hown hK hP 0 (by decide) eX_0 rfl 5 (by decide) w43 rfl dX5_ask_21 ?_
      refine lv_iconst (v := 0) hx hb dX5_ask_24 (by decide) ?_
      refine r_put (v := .int 0) (ty := .int) (f' := eX g a (mp M 132 1 0)) hx hb hts iX4 tyX4 tyX4_ok nmX4 hown hK hI (fun _ h => aA_in h) hP hS 132 (by decide) eX_132 rfl 1 (by decide) w263 rfl (by decide +kernel) rfl rfl (Nat.le_of_ble_eq_true rfl) eX_pTrace1 dX5_ask_25 (fun H locs hP hS => ?_)
      refine lv_aload_n hx hb dX5_ask_28 rfl (lv_at hl 0 rfl) ?_
      refine r_get (v := .ref (a 4)) hx hb hts iX5 hown hK hP 0 (by decide) eX_0 rfl 2 (by decide) w25 rfl dX5_ask_29 ?_
      refine r_get (v := .ref (a 5)) hx hb hts iX2 hown hK hP 4 (isSt_lt (c := 4) (by decide) 0 (by decide)) (eX_Stair (c := 4) (by decide)) rfl 4 (by decide) w257 rfl dX5_ask_32 ?_
      refine lv_iload_n hx hb dX5_ask_35 rfl (lv_at hl 1 rfl) ?_
      obtain ⟨q7, h⟩ := chk_ok h
      refine r_iald (i := p1) (h := (mp M 132 1 0) 5) hx hb hK hP 5 (isSt_lt (c := 4) (by decide) 1 (by decide)) (eX_Sa1 (c := 4) (by decide)) q7 dX5_ask_36 ?_
      refine lv_iload_n hx hb dX5_ask_37 rfl (lv_at hl 2 rfl) ?_
      obtain ⟨r8, e9, h⟩ := bdP_ok h
      refine r_callSiz hZ (As := [.int ((mp M 132 1 0) 5 (Int32.toNatClampNeg p1)), .int p2]) (rest := []) (ws' := (wl 203 a (eX g a (mp M 132 1 0)))) (ok_X5_bodyFor l g ((mp M 132 1 0) 5 (Int32.toNatClampNeg p1)) p2 r8 e9) ⟨hx, hb, hml, hown, hts⟩ (cwS 2 hts gX5_ask_X5_bodyFor rfl rfl rfl (by decide +kernel) ⟨Nat.le_of_ble_eq_true rfl, Nat.le_of_ble_eq_true rfl⟩) hK hS nilP (P_A hS.1) (fun _ _ hk => wl_keep hP hk) rfl hl.1 rfl (Nat.le_of_ble_eq_true rfl) dX5_ask_38 ⟨Nat.zero_le _, Nat.zero_le _⟩ (fun H locs hP hS => ?_)
      refine lv_aload_n hx hb dX5_ask_41 rfl (lv_at hl 0 rfl) ?_
      refine r_get (v := .ref (a 4)) hx hb hts iX5 hown hK hP 0 (by decide) eX_0 rfl 2 (by decide) w25 rfl dX5_ask_42 ?_
      refine lv_iload_n hx hb dX5_ask_45 rfl (lv_at hl 1 rfl) ?_
      refine lv_aload_n hx hb dX5_ask_46 rfl (lv_at hl 0 rfl) ?_
      refine r_get (v := .ref (a 132)) hx hb hts iX5 hown hK hP 0 (by decide) eX_0 rfl 5 (by decide) w43 rfl dX5_ask_47 ?_
      refine lv_iconst (v := 0) hx hb dX5_ask_50 (by decide) ?_
      obtain ⟨r10, M12, e11, h⟩ := bdI_ok h
      refine r_callSiz hZ (As := [.int r8, .ref (a 4), .int p1, .ref (a 132), .int 0]) (rest := []) (ws' := (wl 203 a (eX g a M12))) (ok_X5_answerOf l g a hI FA r8 p1 0 (mp M 132 1 0) M12 r10 e11) ⟨hx, hb, hml, hown, hts⟩ (cwS 5 hts gX5_ask_X5_answerOf rfl rfl rfl (by decide +kernel) (by simp only [rmX5_answerOf, FA_eq, rmX5_ask]; omega)) hK hS hP (fun _ hq => aA_mono hS.1 hq) (fun _ h _ => h) rfl hl.1 rfl (Nat.le_of_ble_eq_true rfl) dX5_ask_51 ⟨Nat.zero_le _, Nat.zero_le _⟩ (fun H locs hP hS => ?_)
      rw [hQz]
      exact r_iret (v := r10) hx hb hr hlk hS ((Prod.mk.inj (Option.some.inj h)).2 ▸ hP) (Prod.mk.inj (Option.some.inj h)).1 dX5_ask_54
    · replace h := if_f q6 h
      refine lv_ldc (v := (-1000001)) hx hb hown w73 dX5_ask_17 ?_
      rw [hQz]
      exact r_iret (v := (-1000001)) hx hb hr hlk hS ((Prod.mk.inj (Option.some.inj h)).2 ▸ hP) (Prod.mk.inj (Option.some.inj h)).1 dX5_ask_19
