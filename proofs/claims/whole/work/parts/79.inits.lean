def rmX1_init : Room := { frames := 2, cells := 1, slots := 40, locals := 60 }
set_option maxHeartbeats 4000000 in
set_option maxRecDepth 100000 in
theorem ok_X1_init (l : Launch) (g : gT) : MN l yX1_init wsX1_init rmX1_init g 1 40 (.inr (1, [.null, .int 0, .int 0, .int 0])) (fun h => ff1 g h) := by
  refine MN_of (cc := cX1_init) (maxL := 1) (by decide) rfl (by decide) ?_
  intro h p e s m args below meth c ls hx hb hml hr hlk hnm hts hown hK hN hz hat hl
  have hown : s.vm.findClass RX1 = some m.cls := hown
  have hnm : meth.name = "<init>" := hnm
  have hl : lv_has ls 1 [(0, .ref (aH h 0))] := hl
  have hS : va_S (fun q => h ≤ q) s.heap s.heap [] := va_S.rf
  have hP : va_P g.1 vwCl (wl 1 (aH h) (kF (.inr (1, [.null, .int 0, .int 0, .int 0])) (ff1 g h))) s.heap := gw_one hat
  have iX1 : ∀ w ∈ wsX10, w ∈ wsX1_init := fun w h => List.mem_cons_of_mem _ (List.mem_append_right _ h)
  have wim := hts (.instanceMethod objectInit) (by decide +kernel)
  have woc := hts (.code objectInit ⟨#[0xb1]⟩ 1 none) (List.mem_cons_of_mem _ (List.mem_of_getElem? (i := 2) rfl))
  have woi := hts (.methodLink RX1 3 objectInit) (by decide +kernel)
  have warrI := hts (.arrayClass (newarray.typeOf .int)) (by decide +kernel)
  have w9 := hts (.fieldLink RX1 9 "StepRiders$Row" "items" "[I") (by decide +kernel)
  have w15 := hts (.fieldLink RX1 15 "StepRiders$Row" "missing" "Z") (by decide +kernel)
  have w19 := hts (.fieldLink RX1 19 "StepRiders$Row" "width" "I") (by decide +kernel)
  have w23 := hts (.fieldLink RX1 23 "StepRiders$Row" "length" "I") (by decide +kernel)
  obtain ⟨Qz, hQz⟩ : ∃ Qz : State → Prop, Qz = MQ below (qN g (1 + 1) h (ff1 g h)) args s 1 40 (fun q => h ≤ q) := ⟨_, rfl⟩
  rw [← hQz]
  refine lv_aload_n hx hb dX1_init_0 rfl (lv_at hl 0 rfl) ?_
  refine W.objInit hx hb hown woi wim woc rfl (hl.1.trans hml.symm) rfl dX1_init_1 (Nat.le_of_ble_eq_true rfl) (Nat.le_of_ble_eq_true rfl) ?_
  refine W.eq (g2 := F0 m 4 ls []) rfl ?_
  refine lv_aload_n hx hb dX1_init_4 rfl (lv_at hl 0 rfl) ?_
  refine lv_bipush (v := 40) hx hb dX1_init_5 (by decide) ?_
  refine gw_newI (n := 40) (N := 40) (k := 1) hx hb warrI hK hz hP hS (by decide) (by decide) (Nat.le_of_ble_eq_true rfl) rfl (Nat.le_of_ble_eq_true rfl) (Nat.le_of_ble_eq_true rfl) dX1_init_7 (fun H hz hP hS => ?_)
  refine gw_putF (v := .ref (aH h 1)) (ty := (.array .int)) hx hb hts iX1 tyX1 tyX1_ok nmX1 hown hK (Nat.succ_pos _) hz hP hS rfl 0 (by decide) w9 rfl hnm rfl rfl rfl rfl (Nat.le_of_ble_eq_true rfl) dX1_init_9 (fun H locs hz hP hS => ?_)
  have hP : va_P g.1 vwCl (wl 2 (aH h) (kF (.inr (1, [.ref (aH h 1), .int 0, .int 0, .int 0])) (ff1 g h))) H := hP
  refine lv_aload_n hx hb dX1_init_12 rfl (lv_at hl 0 rfl) ?_
  refine lv_iconst (v := 1) hx hb dX1_init_13 (by decide) ?_
  refine gw_put (v := .int 1) (ty := .boolean) hx hb hts iX1 tyX1 tyX1_ok nmX1 hown hK (Nat.succ_pos _) hz hP hS rfl 1 (by decide) w15 rfl rfl rfl rfl (Nat.le_of_ble_eq_true rfl) dX1_init_14 (fun H locs hz hP hS => ?_)
  have hP : va_P g.1 vwCl (wl 2 (aH h) (kF (.inr (1, [.ref (aH h 1), .int 1, .int 0, .int 0])) (ff1 g h))) H := hP
  refine lv_aload_n hx hb dX1_init_17 rfl (lv_at hl 0 rfl) ?_
  refine lv_iconst (v := 0) hx hb dX1_init_18 (by decide) ?_
  refine gw_put (v := .int 0) (ty := .int) hx hb hts iX1 tyX1 tyX1_ok nmX1 hown hK (Nat.succ_pos _) hz hP hS rfl 2 (by decide) w19 rfl rfl rfl rfl (Nat.le_of_ble_eq_true rfl) dX1_init_19 (fun H locs hz hP hS => ?_)
  have hP : va_P g.1 vwCl (wl 2 (aH h) (kF (.inr (1, [.ref (aH h 1), .int 1, .int 0, .int 0])) (ff1 g h))) H := hP
  refine lv_aload_n hx hb dX1_init_22 rfl (lv_at hl 0 rfl) ?_
  refine lv_iconst (v := 0) hx hb dX1_init_23 (by decide) ?_
  refine gw_put (v := .int 0) (ty := .int) hx hb hts iX1 tyX1 tyX1_ok nmX1 hown hK (Nat.succ_pos _) hz hP hS rfl 3 (by decide) w23 rfl rfl rfl rfl (Nat.le_of_ble_eq_true rfl) dX1_init_24 (fun H locs hz hP hS => ?_)
  have hP : va_P g.1 vwCl (wl 2 (aH h) (kF (.inr (1, [.ref (aH h 1), .int 1, .int 0, .int 0])) (ff1 g h))) H := hP
  rw [hQz]
  have hP : va_P g.1 vwCl (wl 2 (aH h) (ff1 g h)) H := fin_X1 hP
  exact gw_vret hx hb hr hlk hS hz hP dX1_init_27
def rmX2_init : Room := { frames := 2, cells := 4, slots := 28, locals := 60 }
set_option maxHeartbeats 4000000 in
set_option maxRecDepth 100000 in
theorem ok_X2_init (l : Launch) (g : gT) : MN l yX2_init wsX2_init rmX2_init g 4 28 (.inr (2, [.int 0, .int 0, .int 0, .int 0, .null, .null, .null, .null])) (fun h => ff2 g h) := by
  refine MN_of (cc := cX2_init) (maxL := 1) (by decide) rfl (by decide) ?_
  intro h p e s m args below meth c ls hx hb hml hr hlk hnm hts hown hK hN hz hat hl
  have hown : s.vm.findClass RX2 = some m.cls := hown
  have hnm : meth.name = "<init>" := hnm
  have hl : lv_has ls 1 [(0, .ref (aH h 0))] := hl
  have hS : va_S (fun q => h ≤ q) s.heap s.heap [] := va_S.rf
  have hP : va_P g.1 vwCl (wl 1 (aH h) (kF (.inr (2, [.int 0, .int 0, .int 0, .int 0, .null, .null, .null, .null])) (ff2 g h))) s.heap := gw_one hat
  have iX2 : ∀ w ∈ wsX20, w ∈ wsX2_init := fun w h => List.mem_cons_of_mem _ (List.mem_append_right _ h)
  have wim := hts (.instanceMethod objectInit) (by decide +kernel)
  have woc := hts (.code objectInit ⟨#[0xb1]⟩ 1 none) (List.mem_cons_of_mem _ (List.mem_of_getElem? (i := 2) rfl))
  have woi := hts (.methodLink RX2 3 objectInit) (by decide +kernel)
  have w9 := hts (.fieldLink RX2 9 "StepRiders$Stair" "steps" "I") (by decide +kernel)
  have w15 := hts (.fieldLink RX2 15 "StepRiders$Stair" "speed" "I") (by decide +kernel)
  have w18 := hts (.fieldLink RX2 18 "StepRiders$Stair" "tick" "I") (by decide +kernel)
  have w21 := hts (.fieldLink RX2 21 "StepRiders$Stair" "riders" "I") (by decide +kernel)
  have warrI := hts (.arrayClass (newarray.typeOf .int)) (by decide +kernel)
  have w24 := hts (.fieldLink RX2 24 "StepRiders$Stair" "kind" "[I") (by decide +kernel)
  have w28 := hts (.fieldLink RX2 28 "StepRiders$Stair" "lane" "[I") (by decide +kernel)
  have w31 := hts (.fieldLink RX2 31 "StepRiders$Stair" "at" "[I") (by decide +kernel)
  have w34 := hts (.fieldLink RX2 34 "StepRiders$Stair" "turn" "[I") (by decide +kernel)
  obtain ⟨Qz, hQz⟩ : ∃ Qz : State → Prop, Qz = MQ below (qN g (4 + 1) h (ff2 g h)) args s 4 28 (fun q => h ≤ q) := ⟨_, rfl⟩
  rw [← hQz]
  refine lv_aload_n hx hb dX2_init_0 rfl (lv_at hl 0 rfl) ?_
  refine W.objInit hx hb hown woi wim woc rfl (hl.1.trans hml.symm) rfl dX2_init_1 (Nat.le_of_ble_eq_true rfl) (Nat.le_of_ble_eq_true rfl) ?_
  refine W.eq (g2 := F0 m 4 ls []) rfl ?_
  refine lv_aload_n hx hb dX2_init_4 rfl (lv_at hl 0 rfl) ?_
  refine lv_iconst (v := 0) hx hb dX2_init_5 (by decide) ?_
  refine gw_put (v := .int 0) (ty := .int) hx hb hts iX2 tyX2 tyX2_ok nmX2 hown hK (Nat.succ_pos _) hz hP hS rfl 0 (by decide) w9 rfl rfl rfl rfl (Nat.le_of_ble_eq_true rfl) dX2_init_6 (fun H locs hz hP hS => ?_)
  have hP : va_P g.1 vwCl (wl 1 (aH h) (kF (.inr (2, [.int 0, .int 0, .int 0, .int 0, .null, .null, .null, .null])) (ff2 g h))) H := hP
  refine lv_aload_n hx hb dX2_init_9 rfl (lv_at hl 0 rfl) ?_
  refine lv_iconst (v := 0) hx hb dX2_init_10 (by decide) ?_
  refine gw_put (v := .int 0) (ty := .int) hx hb hts iX2 tyX2 tyX2_ok nmX2 hown hK (Nat.succ_pos _) hz hP hS rfl 1 (by decide) w15 rfl rfl rfl rfl (Nat.le_of_ble_eq_true rfl) dX2_init_11 (fun H locs hz hP hS => ?_)
  have hP : va_P g.1 vwCl (wl 1 (aH h) (kF (.inr (2, [.int 0, .int 0, .int 0, .int 0, .null, .null, .null, .null])) (ff2 g h))) H := hP
  refine lv_aload_n hx hb dX2_init_14 rfl (lv_at hl 0 rfl) ?_
  refine lv_iconst (v := 0) hx hb dX2_init_15 (by decide) ?_
  refine gw_put (v := .int 0) (ty := .int) hx hb hts iX2 tyX2 tyX2_ok nmX2 hown hK (Nat.succ_pos _) hz hP hS rfl 2 (by decide) w18 rfl rfl rfl rfl (Nat.le_of_ble_eq_true rfl) dX2_init_16 (fun H locs hz hP hS => ?_)
  have hP : va_P g.1 vwCl (wl 1 (aH h) (kF (.inr (2, [.int 0, .int 0, .int 0, .int 0, .null, .null, .null, .null])) (ff2 g h))) H := hP
  refine lv_aload_n hx hb dX2_init_19 rfl (lv_at hl 0 rfl) ?_
  refine lv_iconst (v := 0) hx hb dX2_init_20 (by decide) ?_
  refine gw_put (v := .int 0) (ty := .int) hx hb hts iX2 tyX2 tyX2_ok nmX2 hown hK (Nat.succ_pos _) hz hP hS rfl 3 (by decide) w21 rfl rfl rfl rfl (Nat.le_of_ble_eq_true rfl) dX2_init_21 (fun H locs hz hP hS => ?_)
  have hP : va_P g.1 vwCl (wl 1 (aH h) (kF (.inr (2, [.int 0, .int 0, .int 0, .int 0, .null, .null, .null, .null])) (ff2 g h))) H := hP
  refine lv_aload_n hx hb dX2_init_24 rfl (lv_at hl 0 rfl) ?_
  refine lv_bipush (v := 7) hx hb dX2_init_25 (by decide) ?_
  refine gw_newI (n := 7) (N := 7) (k := 1) hx hb warrI hK hz hP hS (by decide) (by decide) (Nat.le_of_ble_eq_true rfl) rfl (Nat.le_of_ble_eq_true rfl) (Nat.le_of_ble_eq_true rfl) dX2_init_27 (fun H hz hP hS => ?_)
  refine gw_putF (v := .ref (aH h 1)) (ty := (.array .int)) hx hb hts iX2 tyX2 tyX2_ok nmX2 hown hK (Nat.succ_pos _) hz hP hS rfl 4 (by decide) w24 rfl hnm rfl rfl rfl rfl (Nat.le_of_ble_eq_true rfl) dX2_init_29 (fun H locs hz hP hS => ?_)
  have hP : va_P g.1 vwCl (wl 2 (aH h) (kF (.inr (2, [.int 0, .int 0, .int 0, .int 0, .ref (aH h 1), .null, .null, .null])) (ff2 g h))) H := hP
  refine lv_aload_n hx hb dX2_init_32 rfl (lv_at hl 0 rfl) ?_
  refine lv_bipush (v := 7) hx hb dX2_init_33 (by decide) ?_
  refine gw_newI (n := 7) (N := 7) (k := 2) hx hb warrI hK hz hP hS (by decide) (by decide) (Nat.le_of_ble_eq_true rfl) rfl (Nat.le_of_ble_eq_true rfl) (Nat.le_of_ble_eq_true rfl) dX2_init_35 (fun H hz hP hS => ?_)
  refine gw_putF (v := .ref (aH h 2)) (ty := (.array .int)) hx hb hts iX2 tyX2 tyX2_ok nmX2 hown hK (Nat.succ_pos _) hz hP hS rfl 5 (by decide) w28 rfl hnm rfl rfl rfl rfl (Nat.le_of_ble_eq_true rfl) dX2_init_37 (fun H locs hz hP hS => ?_)
  have hP : va_P g.1 vwCl (wl 3 (aH h) (kF (.inr (2, [.int 0, .int 0, .int 0, .int 0, .ref (aH h 1), .ref (aH h 2), .null, .null])) (ff2 g h))) H := hP
  refine lv_aload_n hx hb dX2_init_40 rfl (lv_at hl 0 rfl) ?_
  refine lv_bipush (v := 7) hx hb dX2_init_41 (by decide) ?_
  refine gw_newI (n := 7) (N := 7) (k := 3) hx hb warrI hK hz hP hS (by decide) (by decide) (Nat.le_of_ble_eq_true rfl) rfl (Nat.le_of_ble_eq_true rfl) (Nat.le_of_ble_eq_true rfl) dX2_init_43 (fun H hz hP hS => ?_)
  refine gw_putF (v := .ref (aH h 3)) (ty := (.array .int)) hx hb hts iX2 tyX2 tyX2_ok nmX2 hown hK (Nat.succ_pos _) hz hP hS rfl 6 (by decide) w31 rfl hnm rfl rfl rfl rfl (Nat.le_of_ble_eq_true rfl) dX2_init_45 (fun H locs hz hP hS => ?_)
  have hP : va_P g.1 vwCl (wl 4 (aH h) (kF (.inr (2, [.int 0, .int 0, .int 0, .int 0, .ref (aH h 1), .ref (aH h 2), .ref (aH h 3), .null])) (ff2 g h))) H := hP
  refine lv_aload_n hx hb dX2_init_48 rfl (lv_at hl 0 rfl) ?_
  refine lv_bipush (v := 7) hx hb dX2_init_49 (by decide) ?_
  refine gw_newI (n := 7) (N := 7) (k := 4) hx hb warrI hK hz hP hS (by decide) (by decide) (Nat.le_of_ble_eq_true rfl) rfl (Nat.le_of_ble_eq_true rfl) (Nat.le_of_ble_eq_true rfl) dX2_init_51 (fun H hz hP hS => ?_)
  refine gw_putF (v := .ref (aH h 4)) (ty := (.array .int)) hx hb hts iX2 tyX2 tyX2_ok nmX2 hown hK (Nat.succ_pos _) hz hP hS rfl 7 (by decide) w34 rfl hnm rfl rfl rfl rfl (Nat.le_of_ble_eq_true rfl) dX2_init_53 (fun H locs hz hP hS => ?_)
  have hP : va_P g.1 vwCl (wl 5 (aH h) (kF (.inr (2, [.int 0, .int 0, .int 0, .int 0, .ref (aH h 1), .ref (aH h 2), .ref (aH h 3), .ref (aH h 4)])) (ff2 g h))) H := hP
  rw [hQz]
  have hP : va_P g.1 vwCl (wl 5 (aH h) (ff2 g h)) H := fin_X2 hP
  exact gw_vret hx hb hr hlk hS hz hP dX2_init_56
def rmX3_init : Room := { frames := 2, cells := 1, slots := 90, locals := 60 }
set_option maxHeartbeats 4000000 in
set_option maxRecDepth 100000 in
theorem ok_X3_init (l : Launch) (g : gT) : MN l yX3_init wsX3_init rmX3_init g 1 90 (.inr (3, [.null, .int 0, .int 0])) (fun h => ff3 g h) := by
  refine MN_of (cc := cX3_init) (maxL := 1) (by decide) rfl (by decide) ?_
  intro h p e s m args below meth c ls hx hb hml hr hlk hnm hts hown hK hN hz hat hl
  have hown : s.vm.findClass RX3 = some m.cls := hown
  have hnm : meth.name = "<init>" := hnm
  have hl : lv_has ls 1 [(0, .ref (aH h 0))] := hl
  have hS : va_S (fun q => h ≤ q) s.heap s.heap [] := va_S.rf
  have hP : va_P g.1 vwCl (wl 1 (aH h) (kF (.inr (3, [.null, .int 0, .int 0])) (ff3 g h))) s.heap := gw_one hat
  have iX3 : ∀ w ∈ wsX30, w ∈ wsX3_init := fun w h => List.mem_cons_of_mem _ (List.mem_append_right _ h)
  have wim := hts (.instanceMethod objectInit) (by decide +kernel)
  have woc := hts (.code objectInit ⟨#[0xb1]⟩ 1 none) (List.mem_cons_of_mem _ (List.mem_of_getElem? (i := 2) rfl))
  have woi := hts (.methodLink RX3 3 objectInit) (by decide +kernel)
  have warrI := hts (.arrayClass (newarray.typeOf .int)) (by decide +kernel)
  have w9 := hts (.fieldLink RX3 9 "StepRiders$Tape" "bytes" "[I") (by decide +kernel)
  have w15 := hts (.fieldLink RX3 15 "StepRiders$Tape" "length" "I") (by decide +kernel)
  have w19 := hts (.fieldLink RX3 19 "StepRiders$Tape" "fault" "I") (by decide +kernel)
  obtain ⟨Qz, hQz⟩ : ∃ Qz : State → Prop, Qz = MQ below (qN g (1 + 1) h (ff3 g h)) args s 1 90 (fun q => h ≤ q) := ⟨_, rfl⟩
  rw [← hQz]
  refine lv_aload_n hx hb dX3_init_0 rfl (lv_at hl 0 rfl) ?_
  refine W.objInit hx hb hown woi wim woc rfl (hl.1.trans hml.symm) rfl dX3_init_1 (Nat.le_of_ble_eq_true rfl) (Nat.le_of_ble_eq_true rfl) ?_
  refine W.eq (g2 := F0 m 4 ls []) rfl ?_
  refine lv_aload_n hx hb dX3_init_4 rfl (lv_at hl 0 rfl) ?_
  refine lv_bipush (v := 90) hx hb dX3_init_5 (by decide) ?_
  refine gw_newI (n := 90) (N := 90) (k := 1) hx hb warrI hK hz hP hS (by decide) (by decide) (Nat.le_of_ble_eq_true rfl) rfl (Nat.le_of_ble_eq_true rfl) (Nat.le_of_ble_eq_true rfl) dX3_init_7 (fun H hz hP hS => ?_)
  refine gw_putF (v := .ref (aH h 1)) (ty := (.array .int)) hx hb hts iX3 tyX3 tyX3_ok nmX3 hown hK (Nat.succ_pos _) hz hP hS rfl 0 (by decide) w9 rfl hnm rfl rfl rfl rfl (Nat.le_of_ble_eq_true rfl) dX3_init_9 (fun H locs hz hP hS => ?_)
  have hP : va_P g.1 vwCl (wl 2 (aH h) (kF (.inr (3, [.ref (aH h 1), .int 0, .int 0])) (ff3 g h))) H := hP
  refine lv_aload_n hx hb dX3_init_12 rfl (lv_at hl 0 rfl) ?_
  refine lv_iconst (v := 0) hx hb dX3_init_13 (by decide) ?_
  refine gw_put (v := .int 0) (ty := .int) hx hb hts iX3 tyX3 tyX3_ok nmX3 hown hK (Nat.succ_pos _) hz hP hS rfl 1 (by decide) w15 rfl rfl rfl rfl (Nat.le_of_ble_eq_true rfl) dX3_init_14 (fun H locs hz hP hS => ?_)
  have hP : va_P g.1 vwCl (wl 2 (aH h) (kF (.inr (3, [.ref (aH h 1), .int 0, .int 0])) (ff3 g h))) H := hP
  refine lv_aload_n hx hb dX3_init_17 rfl (lv_at hl 0 rfl) ?_
  refine lv_iconst (v := 0) hx hb dX3_init_18 (by decide) ?_
  refine gw_put (v := .int 0) (ty := .int) hx hb hts iX3 tyX3 tyX3_ok nmX3 hown hK (Nat.succ_pos _) hz hP hS rfl 2 (by decide) w19 rfl rfl rfl rfl (Nat.le_of_ble_eq_true rfl) dX3_init_19 (fun H locs hz hP hS => ?_)
  have hP : va_P g.1 vwCl (wl 2 (aH h) (kF (.inr (3, [.ref (aH h 1), .int 0, .int 0])) (ff3 g h))) H := hP
  rw [hQz]
  have hP : va_P g.1 vwCl (wl 2 (aH h) (ff3 g h)) H := fin_X3 hP
  exact gw_vret hx hb hr hlk hS hz hP dX3_init_22
def rmX4_init : Room := { frames := 2, cells := 1, slots := 16, locals := 60 }
set_option maxHeartbeats 4000000 in
set_option maxRecDepth 100000 in
theorem ok_X4_init (l : Launch) (g : gT) : MN l yX4_init wsX4_init rmX4_init g 1 16 (.inr (4, [.null, .int 0])) (fun h => ff4 g h) := by
  refine MN_of (cc := cX4_init) (maxL := 1) (by decide) rfl (by decide) ?_
  intro h p e s m args below meth c ls hx hb hml hr hlk hnm hts hown hK hN hz hat hl
  have hown : s.vm.findClass RX4 = some m.cls := hown
  have hnm : meth.name = "<init>" := hnm
  have hl : lv_has ls 1 [(0, .ref (aH h 0))] := hl
  have hS : va_S (fun q => h ≤ q) s.heap s.heap [] := va_S.rf
  have hP : va_P g.1 vwCl (wl 1 (aH h) (kF (.inr (4, [.null, .int 0])) (ff4 g h))) s.heap := gw_one hat
  have iX4 : ∀ w ∈ wsX40, w ∈ wsX4_init := fun w h => List.mem_cons_of_mem _ (List.mem_append_right _ h)
  have wim := hts (.instanceMethod objectInit) (by decide +kernel)
  have woc := hts (.code objectInit ⟨#[0xb1]⟩ 1 none) (List.mem_cons_of_mem _ (List.mem_of_getElem? (i := 2) rfl))
  have woi := hts (.methodLink RX4 1 objectInit) (by decide +kernel)
  have warrI := hts (.arrayClass (newarray.typeOf .int)) (by decide +kernel)
  have w9 := hts (.fieldLink RX4 9 "StepRiders$Trace" "bodies" "[I") (by decide +kernel)
  have w13 := hts (.fieldLink RX4 13 "StepRiders$Trace" "length" "I") (by decide +kernel)
  obtain ⟨Qz, hQz⟩ : ∃ Qz : State → Prop, Qz = MQ below (qN g (1 + 1) h (ff4 g h)) args s 1 16 (fun q => h ≤ q) := ⟨_, rfl⟩
  rw [← hQz]
  refine lv_aload_n hx hb dX4_init_0 rfl (lv_at hl 0 rfl) ?_
  refine W.objInit hx hb hown woi wim woc rfl (hl.1.trans hml.symm) rfl dX4_init_1 (Nat.le_of_ble_eq_true rfl) (Nat.le_of_ble_eq_true rfl) ?_
  refine W.eq (g2 := F0 m 4 ls []) rfl ?_
  refine lv_aload_n hx hb dX4_init_4 rfl (lv_at hl 0 rfl) ?_
  refine lv_bipush (v := 16) hx hb dX4_init_5 (by decide) ?_
  refine gw_newI (n := 16) (N := 16) (k := 1) hx hb warrI hK hz hP hS (by decide) (by decide) (Nat.le_of_ble_eq_true rfl) rfl (Nat.le_of_ble_eq_true rfl) (Nat.le_of_ble_eq_true rfl) dX4_init_7 (fun H hz hP hS => ?_)
  refine gw_putF (v := .ref (aH h 1)) (ty := (.array .int)) hx hb hts iX4 tyX4 tyX4_ok nmX4 hown hK (Nat.succ_pos _) hz hP hS rfl 0 (by decide) w9 rfl hnm rfl rfl rfl rfl (Nat.le_of_ble_eq_true rfl) dX4_init_9 (fun H locs hz hP hS => ?_)
  have hP : va_P g.1 vwCl (wl 2 (aH h) (kF (.inr (4, [.ref (aH h 1), .int 0])) (ff4 g h))) H := hP
  refine lv_aload_n hx hb dX4_init_12 rfl (lv_at hl 0 rfl) ?_
  refine lv_iconst (v := 0) hx hb dX4_init_13 (by decide) ?_
  refine gw_put (v := .int 0) (ty := .int) hx hb hts iX4 tyX4 tyX4_ok nmX4 hown hK (Nat.succ_pos _) hz hP hS rfl 1 (by decide) w13 rfl rfl rfl rfl (Nat.le_of_ble_eq_true rfl) dX4_init_14 (fun H locs hz hP hS => ?_)
  have hP : va_P g.1 vwCl (wl 2 (aH h) (kF (.inr (4, [.ref (aH h 1), .int 0])) (ff4 g h))) H := hP
  rw [hQz]
  have hP : va_P g.1 vwCl (wl 2 (aH h) (ff4 g h)) H := fin_X4 hP
  exact gw_vret hx hb hr hlk hS hz hP dX4_init_17
def rmX6_init : Room := { frames := 2, cells := 13, slots := 1018, locals := 60 }
set_option maxHeartbeats 4000000 in
set_option maxRecDepth 100000 in
theorem ok_X6_init (l : Launch) (g : gT) : MN l yX6_init wsX6_init rmX6_init g 13 1018 (.inr (6, [.null, .null, .null, .null, .int 0, .null, .int 0, .int 0, .null, .null, .null, .null, .null, .int 0, .null, .null, .null, .int 0, .int 0, .int 0])) (fun h => ff6 g h) := by
  refine MN_of (cc := cX6_init) (maxL := 2) (by decide) rfl (by decide) ?_
  intro h p e s m args below meth c ls hx hb hml hr hlk hnm hts hown hK hN hz hat hl
  have hown : s.vm.findClass RX6 = some m.cls := hown
  have hnm : meth.name = "<init>" := hnm
  have hl : lv_has ls 2 [(0, .ref (aH h 0))] := hl
  have hS : va_S (fun q => h ≤ q) s.heap s.heap [] := va_S.rf
  have hP : va_P g.1 vwCl (wl 1 (aH h) (kF (.inr (6, [.null, .null, .null, .null, .int 0, .null, .int 0, .int 0, .null, .null, .null, .null, .null, .int 0, .null, .null, .null, .int 0, .int 0, .int 0])) (rX6 g h (fun _ => 0)))) s.heap := gw_one hat
  have iX6 : ∀ w ∈ wsX60, w ∈ wsX6_init := fun w h => List.mem_cons_of_mem _ (List.mem_append_right _ h)
  have wim := hts (.instanceMethod objectInit) (by decide +kernel)
  have woc := hts (.code objectInit ⟨#[0xb1]⟩ 1 none) (List.mem_cons_of_mem _ (List.mem_of_getElem? (i := 2) rfl))
  have woi := hts (.methodLink RX6 1 objectInit) (by decide +kernel)
  have warrI := hts (.arrayClass (newarray.typeOf .int)) (by decide +kernel)
  have w7 := hts (.fieldLink RX6 7 "StepRidersModel" "sizes" "[I") (by decide +kernel)
  have w13 := hts (.fieldLink RX6 13 "StepRidersModel" "widths" "[I") (by decide +kernel)
  have w16 := hts (.fieldLink RX6 16 "StepRidersModel" "items" "[I") (by decide +kernel)
  have w19 := hts (.fieldLink RX6 19 "StepRidersModel" "moved" "[I") (by decide +kernel)
  have w22 := hts (.fieldLink RX6 22 "StepRidersModel" "tape" "[I") (by decide +kernel)
  have w25 := hts (.fieldLink RX6 25 "StepRidersModel" "s" "[I") (by decide +kernel)
  have w28 := hts (.fieldLink RX6 28 "StepRidersModel" "draft" "[I") (by decide +kernel)
  have w31 := hts (.fieldLink RX6 31 "StepRidersModel" "images" "[I") (by decide +kernel)
  have warrZ := hts (.arrayClass (newarray.typeOf .boolean)) (by decide +kernel)
  have w34 := hts (.fieldLink RX6 34 "StepRidersModel" "kept" "[Z") (by decide +kernel)
  have w38 := hts (.fieldLink RX6 38 "StepRidersModel" "past" "[I") (by decide +kernel)
  have w41 := hts (.fieldLink RX6 41 "StepRidersModel" "then" "[I") (by decide +kernel)
  have w44 := hts (.fieldLink RX6 44 "StepRidersModel" "went" "[I") (by decide +kernel)
  have w47 := hts (.fieldLink RX6 47 "StepRidersModel" "traces" "[I") (by decide +kernel)
  obtain ⟨Qz, hQz⟩ : ∃ Qz : State → Prop, Qz = MQ below (qN g (13 + 1) h (ff6 g h)) args s 13 1018 (fun q => h ≤ q) := ⟨_, rfl⟩
  rw [← hQz]
  refine lv_aload_n hx hb dX6_init_0 rfl (lv_at hl 0 rfl) ?_
  refine W.objInit hx hb hown woi wim woc rfl (hl.1.trans hml.symm) rfl dX6_init_1 (Nat.le_of_ble_eq_true rfl) (Nat.le_of_ble_eq_true rfl) ?_
  refine W.eq (g2 := F0 m 4 ls []) rfl ?_
  refine lv_aload_n hx hb dX6_init_4 rfl (lv_at hl 0 rfl) ?_
  refine lv_bipush (v := 8) hx hb dX6_init_5 (by decide) ?_
  refine gw_newI (n := 8) (N := 8) (k := 1) hx hb warrI hK hz hP hS (by decide) (by decide) (Nat.le_of_ble_eq_true rfl) rfl (Nat.le_of_ble_eq_true rfl) (Nat.le_of_ble_eq_true rfl) dX6_init_7 (fun H hz hP hS => ?_)
  refine gw_putF (v := .ref (aH h 1)) (ty := (.array .int)) hx hb hts iX6 tyX6 tyX6_ok nmX6 hown hK (Nat.succ_pos _) hz hP hS rfl 0 (by decide) w7 rfl hnm rfl rfl rfl rfl (Nat.le_of_ble_eq_true rfl) dX6_init_9 (fun H locs hz hP hS => ?_)
  have hP : va_P g.1 vwCl (wl 2 (aH h) (kF (.inr (6, [.ref (aH h 1), .null, .null, .null, .int 0, .null, .int 0, .int 0, .null, .null, .null, .null, .null, .int 0, .null, .null, .null, .int 0, .int 0, .int 0])) (rX6 g h (fun _ => 0)))) H := hP
  refine lv_aload_n hx hb dX6_init_12 rfl (lv_at hl 0 rfl) ?_
  refine lv_bipush (v := 8) hx hb dX6_init_13 (by decide) ?_
  refine gw_newI (n := 8) (N := 8) (k := 2) hx hb warrI hK hz hP hS (by decide) (by decide) (Nat.le_of_ble_eq_true rfl) rfl (Nat.le_of_ble_eq_true rfl) (Nat.le_of_ble_eq_true rfl) dX6_init_15 (fun H hz hP hS => ?_)
  refine gw_putF (v := .ref (aH h 2)) (ty := (.array .int)) hx hb hts iX6 tyX6 tyX6_ok nmX6 hown hK (Nat.succ_pos _) hz hP hS rfl 1 (by decide) w13 rfl hnm rfl rfl rfl rfl (Nat.le_of_ble_eq_true rfl) dX6_init_17 (fun H locs hz hP hS => ?_)
  have hP : va_P g.1 vwCl (wl 3 (aH h) (kF (.inr (6, [.ref (aH h 1), .ref (aH h 2), .null, .null, .int 0, .null, .int 0, .int 0, .null, .null, .null, .null, .null, .int 0, .null, .null, .null, .int 0, .int 0, .int 0])) (rX6 g h (fun _ => 0)))) H := hP
  refine lv_aload_n hx hb dX6_init_20 rfl (lv_at hl 0 rfl) ?_
  refine lv_sipush (v := 320) hx hb dX6_init_21 (by decide) ?_
  refine gw_newI (n := 320) (N := 320) (k := 3) hx hb warrI hK hz hP hS (by decide) (by decide) (Nat.le_of_ble_eq_true rfl) rfl (Nat.le_of_ble_eq_true rfl) (Nat.le_of_ble_eq_true rfl) dX6_init_24 (fun H hz hP hS => ?_)
  refine gw_putF (v := .ref (aH h 3)) (ty := (.array .int)) hx hb hts iX6 tyX6 tyX6_ok nmX6 hown hK (Nat.succ_pos _) hz hP hS rfl 2 (by decide) w16 rfl hnm rfl rfl rfl rfl (Nat.le_of_ble_eq_true rfl) dX6_init_26 (fun H locs hz hP hS => ?_)
  have hP : va_P g.1 vwCl (wl 4 (aH h) (kF (.inr (6, [.ref (aH h 1), .ref (aH h 2), .ref (aH h 3), .null, .int 0, .null, .int 0, .int 0, .null, .null, .null, .null, .null, .int 0, .null, .null, .null, .int 0, .int 0, .int 0])) (rX6 g h (fun _ => 0)))) H := hP
  refine lv_aload_n hx hb dX6_init_29 rfl (lv_at hl 0 rfl) ?_
  refine lv_bipush (v := 40) hx hb dX6_init_30 (by decide) ?_
  refine gw_newI (n := 40) (N := 40) (k := 4) hx hb warrI hK hz hP hS (by decide) (by decide) (Nat.le_of_ble_eq_true rfl) rfl (Nat.le_of_ble_eq_true rfl) (Nat.le_of_ble_eq_true rfl) dX6_init_32 (fun H hz hP hS => ?_)
  refine gw_putF (v := .ref (aH h 4)) (ty := (.array .int)) hx hb hts iX6 tyX6 tyX6_ok nmX6 hown hK (Nat.succ_pos _) hz hP hS rfl 3 (by decide) w19 rfl hnm rfl rfl rfl rfl (Nat.le_of_ble_eq_true rfl) dX6_init_34 (fun H locs hz hP hS => ?_)
  have hP : va_P g.1 vwCl (wl 5 (aH h) (kF (.inr (6, [.ref (aH h 1), .ref (aH h 2), .ref (aH h 3), .ref (aH h 4), .int 0, .null, .int 0, .int 0, .null, .null, .null, .null, .null, .int 0, .null, .null, .null, .int 0, .int 0, .int 0])) (rX6 g h (fun _ => 0)))) H := hP
  refine lv_aload_n hx hb dX6_init_37 rfl (lv_at hl 0 rfl) ?_
  refine lv_bipush (v := 90) hx hb dX6_init_38 (by decide) ?_
  refine gw_newI (n := 90) (N := 90) (k := 5) hx hb warrI hK hz hP hS (by decide) (by decide) (Nat.le_of_ble_eq_true rfl) rfl (Nat.le_of_ble_eq_true rfl) (Nat.le_of_ble_eq_true rfl) dX6_init_40 (fun H hz hP hS => ?_)
  refine gw_putF (v := .ref (aH h 5)) (ty := (.array .int)) hx hb hts iX6 tyX6 tyX6_ok nmX6 hown hK (Nat.succ_pos _) hz hP hS rfl 5 (by decide) w22 rfl hnm rfl rfl rfl rfl (Nat.le_of_ble_eq_true rfl) dX6_init_42 (fun H locs hz hP hS => ?_)
  have hP : va_P g.1 vwCl (wl 6 (aH h) (kF (.inr (6, [.ref (aH h 1), .ref (aH h 2), .ref (aH h 3), .ref (aH h 4), .int 0, .ref (aH h 5), .int 0, .int 0, .null, .null, .null, .null, .null, .int 0, .null, .null, .null, .int 0, .int 0, .int 0])) (rX6 g h (fun _ => 0)))) H := hP
  refine lv_aload_n hx hb dX6_init_45 rfl (lv_at hl 0 rfl) ?_
  refine lv_bipush (v := 25) hx hb dX6_init_46 (by decide) ?_
  refine gw_newI (n := 25) (N := 25) (k := 6) hx hb warrI hK hz hP hS (by decide) (by decide) (Nat.le_of_ble_eq_true rfl) rfl (Nat.le_of_ble_eq_true rfl) (Nat.le_of_ble_eq_true rfl) dX6_init_48 (fun H hz hP hS => ?_)
  refine gw_putF (v := .ref (aH h 6)) (ty := (.array .int)) hx hb hts iX6 tyX6 tyX6_ok nmX6 hown hK (Nat.succ_pos _) hz hP hS rfl 8 (by decide) w25 rfl hnm rfl rfl rfl rfl (Nat.le_of_ble_eq_true rfl) dX6_init_50 (fun H locs hz hP hS => ?_)
  have hP : va_P g.1 vwCl (wl 7 (aH h) (kF (.inr (6, [.ref (aH h 1), .ref (aH h 2), .ref (aH h 3), .ref (aH h 4), .int 0, .ref (aH h 5), .int 0, .int 0, .ref (aH h 6), .null, .null, .null, .null, .int 0, .null, .null, .null, .int 0, .int 0, .int 0])) (rX6 g h (fun _ => 0)))) H := hP
  refine lv_aload_n hx hb dX6_init_53 rfl (lv_at hl 0 rfl) ?_
  refine lv_bipush (v := 25) hx hb dX6_init_54 (by decide) ?_
  refine gw_newI (n := 25) (N := 25) (k := 7) hx hb warrI hK hz hP hS (by decide) (by decide) (Nat.le_of_ble_eq_true rfl) rfl (Nat.le_of_ble_eq_true rfl) (Nat.le_of_ble_eq_true rfl) dX6_init_56 (fun H hz hP hS => ?_)
  refine gw_putF (v := .ref (aH h 7)) (ty := (.array .int)) hx hb hts iX6 tyX6 tyX6_ok nmX6 hown hK (Nat.succ_pos _) hz hP hS rfl 9 (by decide) w28 rfl hnm rfl rfl rfl rfl (Nat.le_of_ble_eq_true rfl) dX6_init_58 (fun H locs hz hP hS => ?_)
  have hP : va_P g.1 vwCl (wl 8 (aH h) (kF (.inr (6, [.ref (aH h 1), .ref (aH h 2), .ref (aH h 3), .ref (aH h 4), .int 0, .ref (aH h 5), .int 0, .int 0, .ref (aH h 6), .ref (aH h 7), .null, .null, .null, .int 0, .null, .null, .null, .int 0, .int 0, .int 0])) (rX6 g h (fun _ => 0)))) H := hP
  refine lv_aload_n hx hb dX6_init_61 rfl (lv_at hl 0 rfl) ?_
  refine lv_bipush (v := 50) hx hb dX6_init_62 (by decide) ?_
  refine gw_newI (n := 50) (N := 50) (k := 8) hx hb warrI hK hz hP hS (by decide) (by decide) (Nat.le_of_ble_eq_true rfl) rfl (Nat.le_of_ble_eq_true rfl) (Nat.le_of_ble_eq_true rfl) dX6_init_64 (fun H hz hP hS => ?_)
  refine gw_putF (v := .ref (aH h 8)) (ty := (.array .int)) hx hb hts iX6 tyX6 tyX6_ok nmX6 hown hK (Nat.succ_pos _) hz hP hS rfl 10 (by decide) w31 rfl hnm rfl rfl rfl rfl (Nat.le_of_ble_eq_true rfl) dX6_init_66 (fun H locs hz hP hS => ?_)
  have hP : va_P g.1 vwCl (wl 9 (aH h) (kF (.inr (6, [.ref (aH h 1), .ref (aH h 2), .ref (aH h 3), .ref (aH h 4), .int 0, .ref (aH h 5), .int 0, .int 0, .ref (aH h 6), .ref (aH h 7), .ref (aH h 8), .null, .null, .int 0, .null, .null, .null, .int 0, .int 0, .int 0])) (rX6 g h (fun _ => 0)))) H := hP
  refine lv_aload_n hx hb dX6_init_69 rfl (lv_at hl 0 rfl) ?_
  refine lv_iconst (v := 2) hx hb dX6_init_70 (by decide) ?_
  refine gw_newZ (n := 2) (N := 2) (k := 9) hx hb warrZ hK hz hP hS (by decide) (by decide) (Nat.le_of_ble_eq_true rfl) rfl (Nat.le_of_ble_eq_true rfl) (Nat.le_of_ble_eq_true rfl) dX6_init_71 (fun H hz hP hS => ?_)
  refine gw_putF (v := .ref (aH h 9)) (ty := (.array .boolean)) hx hb hts iX6 tyX6 tyX6_ok nmX6 hown hK (Nat.succ_pos _) hz hP hS rfl 11 (by decide) w34 rfl hnm rfl rfl rfl rfl (Nat.le_of_ble_eq_true rfl) dX6_init_73 (fun H locs hz hP hS => ?_)
  have hP : va_P g.1 vwCl (wl 10 (aH h) (kF (.inr (6, [.ref (aH h 1), .ref (aH h 2), .ref (aH h 3), .ref (aH h 4), .int 0, .ref (aH h 5), .int 0, .int 0, .ref (aH h 6), .ref (aH h 7), .ref (aH h 8), .ref (aH h 9), .null, .int 0, .null, .null, .null, .int 0, .int 0, .int 0])) (rX6 g h (fun _ => 0)))) H := hP
  refine lv_aload_n hx hb dX6_init_76 rfl (lv_at hl 0 rfl) ?_
  refine lv_sipush (v := 384) hx hb dX6_init_77 (by decide) ?_
  refine gw_newI (n := 384) (N := 384) (k := 10) hx hb warrI hK hz hP hS (by decide) (by decide) (Nat.le_of_ble_eq_true rfl) rfl (Nat.le_of_ble_eq_true rfl) (Nat.le_of_ble_eq_true rfl) dX6_init_80 (fun H hz hP hS => ?_)
  refine gw_putF (v := .ref (aH h 10)) (ty := (.array .int)) hx hb hts iX6 tyX6 tyX6_ok nmX6 hown hK (Nat.succ_pos _) hz hP hS rfl 12 (by decide) w38 rfl hnm rfl rfl rfl rfl (Nat.le_of_ble_eq_true rfl) dX6_init_82 (fun H locs hz hP hS => ?_)
  have hP : va_P g.1 vwCl (wl 11 (aH h) (kF (.inr (6, [.ref (aH h 1), .ref (aH h 2), .ref (aH h 3), .ref (aH h 4), .int 0, .ref (aH h 5), .int 0, .int 0, .ref (aH h 6), .ref (aH h 7), .ref (aH h 8), .ref (aH h 9), .ref (aH h 10), .int 0, .null, .null, .null, .int 0, .int 0, .int 0])) (rX6 g h (fun _ => 0)))) H := hP
  refine lv_aload_n hx hb dX6_init_85 rfl (lv_at hl 0 rfl) ?_
  refine lv_bipush (v := 25) hx hb dX6_init_86 (by decide) ?_
  refine gw_newI (n := 25) (N := 25) (k := 11) hx hb warrI hK hz hP hS (by decide) (by decide) (Nat.le_of_ble_eq_true rfl) rfl (Nat.le_of_ble_eq_true rfl) (Nat.le_of_ble_eq_true rfl) dX6_init_88 (fun H hz hP hS => ?_)
  refine gw_putF (v := .ref (aH h 11)) (ty := (.array .int)) hx hb hts iX6 tyX6 tyX6_ok nmX6 hown hK (Nat.succ_pos _) hz hP hS rfl 14 (by decide) w41 rfl hnm rfl rfl rfl rfl (Nat.le_of_ble_eq_true rfl) dX6_init_90 (fun H locs hz hP hS => ?_)
  have hP : va_P g.1 vwCl (wl 12 (aH h) (kF (.inr (6, [.ref (aH h 1), .ref (aH h 2), .ref (aH h 3), .ref (aH h 4), .int 0, .ref (aH h 5), .int 0, .int 0, .ref (aH h 6), .ref (aH h 7), .ref (aH h 8), .ref (aH h 9), .ref (aH h 10), .int 0, .ref (aH h 11), .null, .null, .int 0, .int 0, .int 0])) (rX6 g h (fun _ => 0)))) H := hP
  refine lv_aload_n hx hb dX6_init_93 rfl (lv_at hl 0 rfl) ?_
  refine lv_bipush (v := 25) hx hb dX6_init_94 (by decide) ?_
  refine gw_newI (n := 25) (N := 25) (k := 12) hx hb warrI hK hz hP hS (by decide) (by decide) (Nat.le_of_ble_eq_true rfl) rfl (Nat.le_of_ble_eq_true rfl) (Nat.le_of_ble_eq_true rfl) dX6_init_96 (fun H hz hP hS => ?_)
  refine gw_putF (v := .ref (aH h 12)) (ty := (.array .int)) hx hb hts iX6 tyX6 tyX6_ok nmX6 hown hK (Nat.succ_pos _) hz hP hS rfl 15 (by decide) w44 rfl hnm rfl rfl rfl rfl (Nat.le_of_ble_eq_true rfl) dX6_init_98 (fun H locs hz hP hS => ?_)
  have hP : va_P g.1 vwCl (wl 13 (aH h) (kF (.inr (6, [.ref (aH h 1), .ref (aH h 2), .ref (aH h 3), .ref (aH h 4), .int 0, .ref (aH h 5), .int 0, .int 0, .ref (aH h 6), .ref (aH h 7), .ref (aH h 8), .ref (aH h 9), .ref (aH h 10), .int 0, .ref (aH h 11), .ref (aH h 12), .null, .int 0, .int 0, .int 0])) (rX6 g h (fun _ => 0)))) H := hP
  refine lv_aload_n hx hb dX6_init_101 rfl (lv_at hl 0 rfl) ?_
  refine lv_bipush (v := 16) hx hb dX6_init_102 (by decide) ?_
  refine gw_newI (n := 16) (N := 16) (k := 13) hx hb warrI hK hz hP hS (by decide) (by decide) (Nat.le_of_ble_eq_true rfl) rfl (Nat.le_of_ble_eq_true rfl) (Nat.le_of_ble_eq_true rfl) dX6_init_104 (fun H hz hP hS => ?_)
  refine gw_putF (v := .ref (aH h 13)) (ty := (.array .int)) hx hb hts iX6 tyX6 tyX6_ok nmX6 hown hK (Nat.succ_pos _) hz hP hS rfl 16 (by decide) w47 rfl hnm rfl rfl rfl rfl (Nat.le_of_ble_eq_true rfl) dX6_init_106 (fun H locs hz hP hS => ?_)
  have hP : va_P g.1 vwCl (wl 14 (aH h) (kF (.inr (6, [.ref (aH h 1), .ref (aH h 2), .ref (aH h 3), .ref (aH h 4), .int 0, .ref (aH h 5), .int 0, .int 0, .ref (aH h 6), .ref (aH h 7), .ref (aH h 8), .ref (aH h 9), .ref (aH h 10), .int 0, .ref (aH h 11), .ref (aH h 12), .ref (aH h 13), .int 0, .int 0, .int 0])) (rX6 g h (fun _ => 0)))) H := hP
  refine lv_iconst (v := 0) hx hb dX6_init_109 (by decide) ?_
  refine lv_istore_n (lv' := [(1, .int 0), (0, .ref (aH h 0))]) hx hb dX6_init_110 rfl hl (by decide) rfl (fun ls hl => ?_)
  have L111 : ∀ (d i : Nat), i + d = 8 → ∀ (H : Heap) (locs : List Loc) (ls : Array Slot), H.size = h + 14 → va_P g.1 vwCl (wl 14 (aH h) (kF (.inr (6, [.ref (aH h 1), .ref (aH h 2), .ref (aH h 3), .ref (aH h 4), .int 0, .ref (aH h 5), .int 0, .int 0, .ref (aH h 6), .ref (aH h 7), .ref (aH h 8), .ref (aH h 9), .ref (aH h 10), .int 0, .ref (aH h 11), .ref (aH h 12), .ref (aH h 13), .int 0, .int 0, .int 0])) (rX6 g h (sf i)))) H → va_S (fun q => h ≤ q) s.heap H locs → lv_has ls 2 [(1, .int (nI i)), (0, .ref (aH h 0))] → (∀ (H : Heap) (locs : List Loc) (ls : Array Slot), H.size = h + 14 → va_P g.1 vwCl (wl 14 (aH h) (kF (.inr (6, [.ref (aH h 1), .ref (aH h 2), .ref (aH h 3), .ref (aH h 4), .int 0, .ref (aH h 5), .int 0, .int 0, .ref (aH h 6), .ref (aH h 7), .ref (aH h 8), .ref (aH h 9), .ref (aH h 10), .int 0, .ref (aH h 11), .ref (aH h 12), .ref (aH h 13), .int 0, .int 0, .int 0])) (rX6 g h (sf 8)))) H → va_S (fun q => h ≤ q) s.heap H locs → lv_has ls 2 [(1, .int (nI 8)), (0, .ref (aH h 0))] → W p l e rmX6_init s m args below meth c H locs 13 1018 Qz (F0 m 130 ls [])) → W p l e rmX6_init s m args below meth c H locs 13 1018 Qz (F0 m 111 ls []) := by
    intro d
    induction d with
    | zero =>
      intro i hi H locs ls hz hP hS hl KX
      have hi0 : i = 8 := by omega
      subst hi0
      refine lv_iload_n hx hb dX6_init_111 rfl (lv_at hl 0 rfl) ?_
      refine lv_bipush (v := 8) hx hb dX6_init_112 (by decide) ?_
      refine lv_icmp_ge (x := nI 8) (y := 8) (tgt := 130) hx hb dX6_init_114 (by decide) (fun q1 => ?_) (fun q1 => ?_)
      · exact KX H locs ls hz hP hS hl
      · exact absurd (by decide) q1
    | succ d ih =>
      intro i hi H locs ls hz hP hS hl KX
      refine lv_iload_n hx hb dX6_init_111 rfl (lv_at hl 0 rfl) ?_
      refine lv_bipush (v := 8) hx hb dX6_init_112 (by decide) ?_
      refine lv_icmp_ge (x := nI i) (y := 8) (tgt := 130) hx hb dX6_init_114 (by decide) (fun q1 => ?_) (fun q1 => ?_)
      · exact absurd q1 (nI_ge (b := 8) (by omega) (by omega))
      refine lv_aload_n hx hb dX6_init_117 rfl (lv_at hl 1 rfl) ?_
      refine r_get (v := .ref (aH h 1)) hx hb hts iX6 hown hK hP 0 (by decide) rfl rfl 0 (by decide) w7 rfl dX6_init_118 ?_
      refine lv_iload_n hx hb dX6_init_121 rfl (lv_at hl 0 rfl) ?_
      refine lv_iconst (v := (-1)) hx hb dX6_init_122 (by decide) ?_
      refine gw_ist (i := nI i) (x := (-1)) (f1 := kF (.inr (6, [.ref (aH h 1), .ref (aH h 2), .ref (aH h 3), .ref (aH h 4), .int 0, .ref (aH h 5), .int 0, .int 0, .ref (aH h 6), .ref (aH h 7), .ref (aH h 8), .ref (aH h 9), .ref (aH h 10), .int 0, .ref (aH h 11), .ref (aH h 12), .ref (aH h 13), .int 0, .int 0, .int 0])) (rX6 g h (sf (i + 1)))) hx hb hK hz hP hS 1 (by decide) rfl (bIn_n (by omega) (by decide)) (hu_X6_111 (by omega)) dX6_init_123 (fun H locs hz hP hS => ?_)
      refine lv_iinc (v := nI (i + 1)) (lv' := [(1, .int (nI (i + 1))), (0, .ref (aH h 0))]) hx hb dX6_init_124 hl (k := 0) rfl (n1a i) (by decide) rfl (fun ls hl => ?_)
      refine lv_goto (tgt := 111) hx hb dX6_init_127 (by decide) ?_
      exact ih (i + 1) (by omega) H locs ls hz hP hS hl KX
  refine L111 8 0 (by omega) H locs ls hz (by rw [sf_0]; exact hP) hS hl (fun H locs ls hz hP hS hl => ?_)
  rw [hQz]
  have hP : va_P g.1 vwCl (wl 14 (aH h) (ff6 g h)) H := fin_X6 hP
  exact gw_vret hx hb hr hlk hS hz hP dX6_init_130
def rmX0_init : Room := { frames := 3, cells := 121, slots := 888, locals := 90 }
set_option maxHeartbeats 4000000 in
set_option maxRecDepth 100000 in
theorem ok_X0_init (l : Launch) (g : gT) : MN l yX0_init wsX0_init rmX0_init g 121 888 (.inr (0, [.null, .int 0, .int 0])) (fun h => ff0 g h) := by
  refine MN_of (cc := cX0_init) (maxL := 2) (by decide) rfl (by decide) ?_
  intro h p e s m args below meth c ls hx hb hml hr hlk hnm hts hown hK hN hz hat hl
  have hown : s.vm.findClass RX0 = some m.cls := hown
  have hnm : meth.name = "<init>" := hnm
  have hl : lv_has ls 2 [(0, .ref (aH h 0))] := hl
  have hS : va_S (fun q => h ≤ q) s.heap s.heap [] := va_S.rf
  have hP : va_P g.1 vwCl (wl 1 (aH h) (kF (.inr (0, [.null, .int 0, .int 0])) (rX0 g h (fun _ => none)))) s.heap := gw_one hat
  have iX0 : ∀ w ∈ wsX00, w ∈ wsX0_init := fun w h => List.mem_cons_of_mem _ (List.mem_append_left _ (List.mem_append_right _ h))
  have iX2 : ∀ w ∈ wsX20, w ∈ wsX0_init := fun w h => List.mem_cons_of_mem _ (List.mem_append_right _ h)
  have wim := hts (.instanceMethod objectInit) (by decide +kernel)
  have woc := hts (.code objectInit ⟨#[0xb1]⟩ 1 none) (List.mem_cons_of_mem _ (List.mem_of_getElem? (i := 2) rfl))
  have woi := hts (.methodLink RX0 3 objectInit) (by decide +kernel)
  have wcl9 := hts (.classLink RX0 9 RX2) (by decide +kernel)
  have w11 := hts (.fieldLink RX0 11 "StepRiders$Acts" "before" "[LStepRiders$Stair;") (by decide +kernel)
  have w17 := hts (.fieldLink RX0 17 "StepRiders$Acts" "next" "I") (by decide +kernel)
  have w21 := hts (.fieldLink RX0 21 "StepRiders$Acts" "kept" "I") (by decide +kernel)
  have winX2 := hts (.instantiable RX2 8) (by decide +kernel)
  have winiX2 := hts (.initialized RX2) (by decide +kernel)
  have wimX2 := hts (.instanceMethod yX2_init) (by decide +kernel)
  obtain ⟨Qz, hQz⟩ : ∃ Qz : State → Prop, Qz = MQ below (qN g (121 + 1) h (ff0 g h)) args s 121 888 (fun q => h ≤ q) := ⟨_, rfl⟩
  rw [← hQz]
  refine lv_aload_n hx hb dX0_init_0 rfl (lv_at hl 0 rfl) ?_
  refine W.objInit hx hb hown woi wim woc rfl (hl.1.trans hml.symm) rfl dX0_init_1 (Nat.le_of_ble_eq_true rfl) (Nat.le_of_ble_eq_true rfl) ?_
  refine W.eq (g2 := F0 m 4 ls []) rfl ?_
  refine lv_aload_n hx hb dX0_init_4 rfl (lv_at hl 0 rfl) ?_
  refine lv_bipush (v := 24) hx hb dX0_init_5 (by decide) ?_
  refine gw_newQ (n := 24) (N := 24) (k := 1) hx hb hown wcl9 hN.2.2.2 hK 3 rfl hz hP hS (by decide) (by decide) (Nat.le_of_ble_eq_true rfl) rfl (Nat.le_of_ble_eq_true rfl) (Nat.le_of_ble_eq_true rfl) dX0_init_7 (fun H hz hP hS => ?_)
  refine gw_putF (v := .ref (aH h 1)) (ty := (.array (.object "StepRiders$Stair"))) hx hb hts iX0 tyX0 tyX0_ok nmX0 hown hK (Nat.succ_pos _) hz hP hS rfl 0 (by decide) w11 rfl hnm rfl rfl rfl rfl (Nat.le_of_ble_eq_true rfl) dX0_init_10 (fun H locs hz hP hS => ?_)
  have hP : va_P g.1 vwCl (wl 2 (aH h) (kF (.inr (0, [.ref (aH h 1), .int 0, .int 0])) (rX0 g h (fun _ => none)))) H := hP
  refine lv_aload_n hx hb dX0_init_13 rfl (lv_at hl 0 rfl) ?_
  refine lv_iconst (v := 0) hx hb dX0_init_14 (by decide) ?_
  refine gw_put (v := .int 0) (ty := .int) hx hb hts iX0 tyX0 tyX0_ok nmX0 hown hK (Nat.succ_pos _) hz hP hS rfl 1 (by decide) w17 rfl rfl rfl rfl (Nat.le_of_ble_eq_true rfl) dX0_init_15 (fun H locs hz hP hS => ?_)
  have hP : va_P g.1 vwCl (wl 2 (aH h) (kF (.inr (0, [.ref (aH h 1), .int 0, .int 0])) (rX0 g h (fun _ => none)))) H := hP
  refine lv_aload_n hx hb dX0_init_18 rfl (lv_at hl 0 rfl) ?_
  refine lv_iconst (v := 0) hx hb dX0_init_19 (by decide) ?_
  refine gw_put (v := .int 0) (ty := .int) hx hb hts iX0 tyX0 tyX0_ok nmX0 hown hK (Nat.succ_pos _) hz hP hS rfl 2 (by decide) w21 rfl rfl rfl rfl (Nat.le_of_ble_eq_true rfl) dX0_init_20 (fun H locs hz hP hS => ?_)
  have hP : va_P g.1 vwCl (wl 2 (aH h) (kF (.inr (0, [.ref (aH h 1), .int 0, .int 0])) (rX0 g h (fun _ => none)))) H := hP
  refine lv_iconst (v := 0) hx hb dX0_init_23 (by decide) ?_
  refine lv_istore_n (lv' := [(1, .int 0), (0, .ref (aH h 0))]) hx hb dX0_init_24 rfl hl (by decide) rfl (fun ls hl => ?_)
  have L25 : ∀ (d i : Nat), i + d = 24 → ∀ (H : Heap) (locs : List Loc) (ls : Array Slot), H.size = h + (2 + 5 * i) → va_P g.1 vwCl (wl (2 + 5 * i) (aH h) (kF (.inr (0, [.ref (aH h 1), .int 0, .int 0])) (rX0 g h (fl h 2 5 i)))) H → va_S (fun q => h ≤ q) s.heap H locs → lv_has ls 2 [(1, .int (nI i)), (0, .ref (aH h 0))] → (∀ (H : Heap) (locs : List Loc) (ls : Array Slot), H.size = h + 122 → va_P g.1 vwCl (wl 122 (aH h) (kF (.inr (0, [.ref (aH h 1), .int 0, .int 0])) (rX0 g h (fl h 2 5 24)))) H → va_S (fun q => h ≤ q) s.heap H locs → lv_has ls 2 [(1, .int (nI 24)), (0, .ref (aH h 0))] → W p l e rmX0_init s m args below meth c H locs 121 888 Qz (F0 m 50 ls [])) → W p l e rmX0_init s m args below meth c H locs (1 + 5 * i) (24 + 36 * i) Qz (F0 m 25 ls []) := by
    intro d
    induction d with
    | zero =>
      intro i hi H locs ls hz hP hS hl KX
      have hi0 : i = 24 := by omega
      subst hi0
      refine lv_iload_n hx hb dX0_init_25 rfl (lv_at hl 0 rfl) ?_
      refine lv_bipush (v := 24) hx hb dX0_init_26 (by decide) ?_
      refine lv_icmp_ge (x := nI 24) (y := 24) (tgt := 50) hx hb dX0_init_28 (by decide) (fun q1 => ?_) (fun q1 => ?_)
      · exact KX H locs ls hz hP hS hl
      · exact absurd (by decide) q1
    | succ d ih =>
      intro i hi H locs ls hz hP hS hl KX
      refine lv_iload_n hx hb dX0_init_25 rfl (lv_at hl 0 rfl) ?_
      refine lv_bipush (v := 24) hx hb dX0_init_26 (by decide) ?_
      refine lv_icmp_ge (x := nI i) (y := 24) (tgt := 50) hx hb dX0_init_28 (by decide) (fun q1 => ?_) (fun q1 => ?_)
      · exact absurd q1 (nI_ge (b := 24) (by omega) (by omega))
      refine lv_aload_n hx hb dX0_init_31 rfl (lv_at hl 1 rfl) ?_
      refine r_get (v := .ref (aH h 1)) hx hb hts iX0 hown hK hP 0 (by omega) rfl rfl 0 (by decide) w11 rfl dX0_init_32 ?_
      refine lv_iload_n hx hb dX0_init_35 rfl (lv_at hl 0 rfl) ?_
      refine gw_new (k := (2 + 5 * i)) (ci := 2) (fs := [.int 0, .int 0, .int 0, .int 0, .null, .null, .null, .null]) hx hb hts iX2 tyX2 tyX2_ok hown wcl9 winX2 winiX2 hK hz hP hS rfl (by decide) (by show _ ≤ 121; omega) (by show _ ≤ 888; omega) dX0_init_36 (fun H hz hP hat hS => ?_)
      refine lv_dup hx hb dX0_init_39 rfl ?_
      refine gw_initN (ok_X2_init l g) ⟨hx, hb, hml, hown, hts⟩ ⟨va_cnB 0 hts gX0_init_X2_init_n24 rfl rfl rfl hN.1.2.2 winiX2 (by decide +kernel) ⟨Nat.le_of_ble_eq_true rfl, Nat.le_of_ble_eq_true rfl⟩, rfl, wimX2⟩ hK hN hz hP hat hS (fun q hq => Nat.le_trans (Nat.le_add_right h _) hq) (he_X0_X2_25 (i := i) (by omega)) hl.1 (Nat.le_of_ble_eq_true rfl) dX0_init_40 ⟨by show _ ≤ 121; omega, by show _ ≤ 888; omega⟩ (fun H locs hz hP hS => ?_)
      have hz : H.size = h + (2 + 5 * (i + 1)) := by rw [hz]; omega
      have hP : va_P g.1 vwCl (wl (2 + 5 * (i + 1)) (aH h) (kF (.inr (0, [.ref (aH h 1), .int 0, .int 0])) (rX0 g h (fl h 2 5 i)))) H := by rw [show (2 + 5 * (i + 1)) = (2 + 5 * i) + (4 + 1) by omega]; exact hP
      refine gw_astq (i := nI i) (f1 := kF (.inr (0, [.ref (aH h 1), .int 0, .int 0])) (rX0 g h (fl h 2 5 (i + 1)))) hx hb hK hz hP hS 1 3 (2 + 5 * i) 2 (by omega) (by omega) (ha_X0_25) rfl (hv_X0_25 (i := i) (by omega)) rfl (bIn_n (by omega) (by decide)) (hu_X0_25 (by omega)) dX0_init_43 (fun H locs hz hP hS => ?_)
      refine lv_iinc (v := nI (i + 1)) (lv' := [(1, .int (nI (i + 1))), (0, .ref (aH h 0))]) hx hb dX0_init_44 hl (k := 0) rfl (n1a i) (by decide) rfl (fun ls hl => ?_)
      refine lv_goto (tgt := 25) hx hb dX0_init_47 (by decide) ?_
      have hgo := ih (i + 1) (by omega) H locs ls hz hP hS hl KX
      rw [show 1 + 5 * (i + 1) = 1 + 5 * i + 1 + 4 by omega, show 24 + 36 * (i + 1) = 24 + 36 * i + 8 + 28 by omega] at hgo
      exact hgo
  refine L25 24 0 (by omega) H locs ls hz (by rw [fl_0]; exact hP) hS hl (fun H locs ls hz hP hS hl => ?_)
  rw [hQz]
  have hP : va_P g.1 vwCl (wl 122 (aH h) (ff0 g h)) H := fin_X0 hP
  exact gw_vret hx hb hr hlk hS hz hP dX0_init_50
def rmX5_init : Room := { frames := 4, cells := 202, slots := 1779, locals := 120 }
set_option maxHeartbeats 4000000 in
set_option maxRecDepth 100000 in
theorem ok_X5_init (l : Launch) (g : gT) : MN l yX5_init wsX5_init rmX5_init g 202 1779 (.inr (5, [.null, .null, .null, .null, .null, .null, .null, .null, .null, .null, .int 0])) (fun h => ff5 g h) := by
  refine MN_of (cc := cX5_init) (maxL := 2) (by decide) rfl (by decide) ?_
  intro h p e s m args below meth c ls hx hb hml hr hlk hnm hts hown hK hN hz hat hl
  have hown : s.vm.findClass RX5 = some m.cls := hown
  have hnm : meth.name = "<init>" := hnm
  have hl : lv_has ls 2 [(0, .ref (aH h 0))] := hl
  have hS : va_S (fun q => h ≤ q) s.heap s.heap [] := va_S.rf
  have hP : va_P g.1 vwCl (wl 1 (aH h) (kF (.inr (5, [.null, .null, .null, .null, .null, .null, .null, .null, .null, .null, .int 0])) (rX5 g h (fun _ => none) (fun _ => none) (fun _ => none)))) s.heap := gw_one hat
  have iX0 : ∀ w ∈ wsX00, w ∈ wsX5_init := fun w h => List.mem_cons_of_mem _ (List.mem_append_left _ (List.mem_append_left _ (List.mem_append_right _ h)))
  have iX1 : ∀ w ∈ wsX10, w ∈ wsX5_init := fun w h => List.mem_cons_of_mem _ (List.mem_append_right _ h)
  have iX2 : ∀ w ∈ wsX20, w ∈ wsX5_init := fun w h => List.mem_cons_of_mem _ (List.mem_append_left _ (List.mem_append_left _ (List.mem_append_left _ (List.mem_append_right _ h))))
  have iX3 : ∀ w ∈ wsX30, w ∈ wsX5_init := fun w h => List.mem_cons_of_mem _ (List.mem_append_left _ (List.mem_append_left _ (List.mem_append_left _ (List.mem_append_left _ (List.mem_append_right _ h)))))
  have iX4 : ∀ w ∈ wsX40, w ∈ wsX5_init := fun w h => List.mem_cons_of_mem _ (List.mem_append_left _ (List.mem_append_right _ h))
  have iX5 : ∀ w ∈ wsX50, w ∈ wsX5_init := fun w h => List.mem_cons_of_mem _ (List.mem_append_left _ (List.mem_append_left _ (List.mem_append_left _ (List.mem_append_left _ (List.mem_append_left _ (List.mem_append_right _ h))))))
  have wim := hts (.instanceMethod objectInit) (by decide +kernel)
  have woc := hts (.code objectInit ⟨#[0xb1]⟩ 1 none) (List.mem_cons_of_mem _ (List.mem_of_getElem? (i := 2) rfl))
  have woi := hts (.methodLink RX5 1 objectInit) (by decide +kernel)
  have wcl9 := hts (.classLink RX5 9 RX1) (by decide +kernel)
  have w11 := hts (.fieldLink RX5 11 "StepRiders" "rows" "[LStepRiders$Row;") (by decide +kernel)
  have wcl15 := hts (.classLink RX5 15 RX3) (by decide +kernel)
  have winX3 := hts (.instantiable RX3 3) (by decide +kernel)
  have winiX3 := hts (.initialized RX3) (by decide +kernel)
  have wimX3 := hts (.instanceMethod yX3_init) (by decide +kernel)
  have w18 := hts (.fieldLink RX5 18 "StepRiders" "tape" "LStepRiders$Tape;") (by decide +kernel)
  have wcl22 := hts (.classLink RX5 22 RX2) (by decide +kernel)
  have winX2 := hts (.instantiable RX2 8) (by decide +kernel)
  have winiX2 := hts (.initialized RX2) (by decide +kernel)
  have wimX2 := hts (.instanceMethod yX2_init) (by decide +kernel)
  have w25 := hts (.fieldLink RX5 25 "StepRiders" "now" "LStepRiders$Stair;") (by decide +kernel)
  have wcl29 := hts (.classLink RX5 29 RX0) (by decide +kernel)
  have winX0 := hts (.instantiable RX0 3) (by decide +kernel)
  have winiX0 := hts (.initialized RX0) (by decide +kernel)
  have wimX0 := hts (.instanceMethod yX0_init) (by decide +kernel)
  have wml31 := hts (.methodLink RX5 31 yX0_init) (by decide +kernel)
  have w32 := hts (.fieldLink RX5 32 "StepRiders" "acts" "LStepRiders$Acts;") (by decide +kernel)
  have w36 := hts (.fieldLink RX5 36 "StepRiders" "images" "[LStepRiders$Stair;") (by decide +kernel)
  have wcl40 := hts (.classLink RX5 40 RX4) (by decide +kernel)
  have winX4 := hts (.instantiable RX4 2) (by decide +kernel)
  have winiX4 := hts (.initialized RX4) (by decide +kernel)
  have wimX4 := hts (.instanceMethod yX4_init) (by decide +kernel)
  have w43 := hts (.fieldLink RX5 43 "StepRiders" "traced" "LStepRiders$Trace;") (by decide +kernel)
  have w47 := hts (.fieldLink RX5 47 "StepRiders" "trial" "LStepRiders$Stair;") (by decide +kernel)
  have w50 := hts (.fieldLink RX5 50 "StepRiders" "levels" "[LStepRiders$Stair;") (by decide +kernel)
  have warrI := hts (.arrayClass (newarray.typeOf .int)) (by decide +kernel)
  have w53 := hts (.fieldLink RX5 53 "StepRiders" "paces" "[I") (by decide +kernel)
  have w57 := hts (.fieldLink RX5 57 "StepRiders" "bestPaces" "[I") (by decide +kernel)
  have w60 := hts (.fieldLink RX5 60 "StepRiders" "finding" "I") (by decide +kernel)
  have winX1 := hts (.instantiable RX1 4) (by decide +kernel)
  have winiX1 := hts (.initialized RX1) (by decide +kernel)
  have wimX1 := hts (.instanceMethod yX1_init) (by decide +kernel)
  obtain ⟨Qz, hQz⟩ : ∃ Qz : State → Prop, Qz = MQ below (qN g (202 + 1) h (ff5 g h)) args s 202 1779 (fun q => h ≤ q) := ⟨_, rfl⟩
  rw [← hQz]
  refine lv_aload_n hx hb dX5_init_0 rfl (lv_at hl 0 rfl) ?_
  refine W.objInit hx hb hown woi wim woc rfl (hl.1.trans hml.symm) rfl dX5_init_1 (Nat.le_of_ble_eq_true rfl) (Nat.le_of_ble_eq_true rfl) ?_
  refine W.eq (g2 := F0 m 4 ls []) rfl ?_
  refine lv_aload_n hx hb dX5_init_4 rfl (lv_at hl 0 rfl) ?_
  refine lv_bipush (v := 8) hx hb dX5_init_5 (by decide) ?_
  refine gw_newQ (n := 8) (N := 8) (k := 1) hx hb hown wcl9 hN.2.2.1 hK 2 rfl hz hP hS (by decide) (by decide) (Nat.le_of_ble_eq_true rfl) rfl (Nat.le_of_ble_eq_true rfl) (Nat.le_of_ble_eq_true rfl) dX5_init_7 (fun H hz hP hS => ?_)
  refine gw_putF (v := .ref (aH h 1)) (ty := (.array (.object "StepRiders$Row"))) hx hb hts iX5 tyX5 tyX5_ok nmX5 hown hK (Nat.succ_pos _) hz hP hS rfl 0 (by decide) w11 rfl hnm rfl rfl rfl rfl (Nat.le_of_ble_eq_true rfl) dX5_init_10 (fun H locs hz hP hS => ?_)
  have hP : va_P g.1 vwCl (wl 2 (aH h) (kF (.inr (5, [.ref (aH h 1), .null, .null, .null, .null, .null, .null, .null, .null, .null, .int 0])) (rX5 g h (fun _ => none) (fun _ => none) (fun _ => none)))) H := hP
  refine lv_aload_n hx hb dX5_init_13 rfl (lv_at hl 0 rfl) ?_
  refine gw_new (k := 2) (ci := 3) (fs := [.null, .int 0, .int 0]) hx hb hts iX3 tyX3 tyX3_ok hown wcl15 winX3 winiX3 hK hz hP hS rfl (by decide) (Nat.le_of_ble_eq_true rfl) (Nat.le_of_ble_eq_true rfl) dX5_init_14 (fun H hz hP hat hS => ?_)
  refine lv_dup hx hb dX5_init_17 rfl ?_
  refine gw_initN (ok_X3_init l g) ⟨hx, hb, hml, hown, hts⟩ ⟨va_cnB 0 hts gX5_init_X3_init_n17 rfl rfl rfl hN.1.1 winiX3 (by decide +kernel) ⟨Nat.le_of_ble_eq_true rfl, Nat.le_of_ble_eq_true rfl⟩, rfl, wimX3⟩ hK hN hz hP hat hS (fun q hq => Nat.le_trans (Nat.le_add_right h _) hq) he_X3_2 hl.1 (Nat.le_of_ble_eq_true rfl) dX5_init_18 ⟨Nat.le_of_ble_eq_true rfl, Nat.le_of_ble_eq_true rfl⟩ (fun H locs hz hP hS => ?_)
  refine gw_putF (v := .ref (aH h 2)) (ty := (.object "StepRiders$Tape")) hx hb hts iX5 tyX5 tyX5_ok nmX5 hown hK (Nat.succ_pos _) hz hP hS rfl 1 (by decide) w18 rfl hnm rfl rfl rfl rfl (Nat.le_of_ble_eq_true rfl) dX5_init_21 (fun H locs hz hP hS => ?_)
  have hP : va_P g.1 vwCl (wl 4 (aH h) (kF (.inr (5, [.ref (aH h 1), .ref (aH h 2), .null, .null, .null, .null, .null, .null, .null, .null, .int 0])) (rX5 g h (fun _ => none) (fun _ => none) (fun _ => none)))) H := hP
  refine lv_aload_n hx hb dX5_init_24 rfl (lv_at hl 0 rfl) ?_
  refine gw_new (k := 4) (ci := 2) (fs := [.int 0, .int 0, .int 0, .int 0, .null, .null, .null, .null]) hx hb hts iX2 tyX2 tyX2_ok hown wcl22 winX2 winiX2 hK hz hP hS rfl (by decide) (Nat.le_of_ble_eq_true rfl) (Nat.le_of_ble_eq_true rfl) dX5_init_25 (fun H hz hP hat hS => ?_)
  refine lv_dup hx hb dX5_init_28 rfl ?_
  refine gw_initN (ok_X2_init l g) ⟨hx, hb, hml, hown, hts⟩ ⟨va_cnB 0 hts gX5_init_X2_init_n24 rfl rfl rfl hN.1.2.1 winiX2 (by decide +kernel) ⟨Nat.le_of_ble_eq_true rfl, Nat.le_of_ble_eq_true rfl⟩, rfl, wimX2⟩ hK hN hz hP hat hS (fun q hq => Nat.le_trans (Nat.le_add_right h _) hq) he_X2_4 hl.1 (Nat.le_of_ble_eq_true rfl) dX5_init_29 ⟨Nat.le_of_ble_eq_true rfl, Nat.le_of_ble_eq_true rfl⟩ (fun H locs hz hP hS => ?_)
  refine gw_putF (v := .ref (aH h 4)) (ty := (.object "StepRiders$Stair")) hx hb hts iX5 tyX5 tyX5_ok nmX5 hown hK (Nat.succ_pos _) hz hP hS rfl 2 (by decide) w25 rfl hnm rfl rfl rfl rfl (Nat.le_of_ble_eq_true rfl) dX5_init_32 (fun H locs hz hP hS => ?_)
  have hP : va_P g.1 vwCl (wl 9 (aH h) (kF (.inr (5, [.ref (aH h 1), .ref (aH h 2), .ref (aH h 4), .null, .null, .null, .null, .null, .null, .null, .int 0])) (rX5 g h (fun _ => none) (fun _ => none) (fun _ => none)))) H := hP
  refine lv_aload_n hx hb dX5_init_35 rfl (lv_at hl 0 rfl) ?_
  refine gw_new (k := 9) (ci := 0) (fs := [.null, .int 0, .int 0]) hx hb hts iX0 tyX0 tyX0_ok hown wcl29 winX0 winiX0 hK hz hP hS rfl (by decide) (Nat.le_of_ble_eq_true rfl) (Nat.le_of_ble_eq_true rfl) dX5_init_36 (fun H hz hP hat hS => ?_)
  refine lv_dup hx hb dX5_init_39 rfl ?_
  refine gw_initI (ok_X0_init l g) ⟨hx, hb, hml, hown, hts⟩ (cwI 0 hts gX5_init_X0_init rfl rfl rfl winiX0 wml31 wimX0 rfl (by decide +kernel) ⟨Nat.le_of_ble_eq_true rfl, Nat.le_of_ble_eq_true rfl⟩) hK hN hz hP hat hS (fun q hq => Nat.le_trans (Nat.le_add_right h _) hq) he_X0_9 hl.1 (Nat.le_of_ble_eq_true rfl) dX5_init_40 ⟨Nat.le_of_ble_eq_true rfl, Nat.le_of_ble_eq_true rfl⟩ (fun H locs hz hP hS => ?_)
  refine gw_putF (v := .ref (aH h 9)) (ty := (.object "StepRiders$Acts")) hx hb hts iX5 tyX5 tyX5_ok nmX5 hown hK (Nat.succ_pos _) hz hP hS rfl 3 (by decide) w32 rfl hnm rfl rfl rfl rfl (Nat.le_of_ble_eq_true rfl) dX5_init_43 (fun H locs hz hP hS => ?_)
  have hP : va_P g.1 vwCl (wl 131 (aH h) (kF (.inr (5, [.ref (aH h 1), .ref (aH h 2), .ref (aH h 4), .ref (aH h 9), .null, .null, .null, .null, .null, .null, .int 0])) (rX5 g h (fun _ => none) (fun _ => none) (fun _ => none)))) H := hP
  refine lv_aload_n hx hb dX5_init_46 rfl (lv_at hl 0 rfl) ?_
  refine lv_iconst (v := 2) hx hb dX5_init_47 (by decide) ?_
  refine gw_newQ (n := 2) (N := 2) (k := 131) hx hb hown wcl22 hN.2.2.2 hK 3 rfl hz hP hS (by decide) (by decide) (Nat.le_of_ble_eq_true rfl) rfl (Nat.le_of_ble_eq_true rfl) (Nat.le_of_ble_eq_true rfl) dX5_init_48 (fun H hz hP hS => ?_)
  refine gw_putF (v := .ref (aH h 131)) (ty := (.array (.object "StepRiders$Stair"))) hx hb hts iX5 tyX5 tyX5_ok nmX5 hown hK (Nat.succ_pos _) hz hP hS rfl 4 (by decide) w36 rfl hnm rfl rfl rfl rfl (Nat.le_of_ble_eq_true rfl) dX5_init_51 (fun H locs hz hP hS => ?_)
  have hP : va_P g.1 vwCl (wl 132 (aH h) (kF (.inr (5, [.ref (aH h 1), .ref (aH h 2), .ref (aH h 4), .ref (aH h 9), .ref (aH h 131), .null, .null, .null, .null, .null, .int 0])) (rX5 g h (fun _ => none) (fun _ => none) (fun _ => none)))) H := hP
  refine lv_aload_n hx hb dX5_init_54 rfl (lv_at hl 0 rfl) ?_
  refine gw_new (k := 132) (ci := 4) (fs := [.null, .int 0]) hx hb hts iX4 tyX4 tyX4_ok hown wcl40 winX4 winiX4 hK hz hP hS rfl (by decide) (Nat.le_of_ble_eq_true rfl) (Nat.le_of_ble_eq_true rfl) dX5_init_55 (fun H hz hP hat hS => ?_)
  refine lv_dup hx hb dX5_init_58 rfl ?_
  refine gw_initN (ok_X4_init l g) ⟨hx, hb, hml, hown, hts⟩ ⟨va_cnB 0 hts gX5_init_X4_init_n42 rfl rfl rfl hN.2.1.1 winiX4 (by decide +kernel) ⟨Nat.le_of_ble_eq_true rfl, Nat.le_of_ble_eq_true rfl⟩, rfl, wimX4⟩ hK hN hz hP hat hS (fun q hq => Nat.le_trans (Nat.le_add_right h _) hq) he_X4_132 hl.1 (Nat.le_of_ble_eq_true rfl) dX5_init_59 ⟨Nat.le_of_ble_eq_true rfl, Nat.le_of_ble_eq_true rfl⟩ (fun H locs hz hP hS => ?_)
  refine gw_putF (v := .ref (aH h 132)) (ty := (.object "StepRiders$Trace")) hx hb hts iX5 tyX5 tyX5_ok nmX5 hown hK (Nat.succ_pos _) hz hP hS rfl 5 (by decide) w43 rfl hnm rfl rfl rfl rfl (Nat.le_of_ble_eq_true rfl) dX5_init_62 (fun H locs hz hP hS => ?_)
  have hP : va_P g.1 vwCl (wl 134 (aH h) (kF (.inr (5, [.ref (aH h 1), .ref (aH h 2), .ref (aH h 4), .ref (aH h 9), .ref (aH h 131), .ref (aH h 132), .null, .null, .null, .null, .int 0])) (rX5 g h (fun _ => none) (fun _ => none) (fun _ => none)))) H := hP
  refine lv_aload_n hx hb dX5_init_65 rfl (lv_at hl 0 rfl) ?_
  refine gw_new (k := 134) (ci := 2) (fs := [.int 0, .int 0, .int 0, .int 0, .null, .null, .null, .null]) hx hb hts iX2 tyX2 tyX2_ok hown wcl22 winX2 winiX2 hK hz hP hS rfl (by decide) (Nat.le_of_ble_eq_true rfl) (Nat.le_of_ble_eq_true rfl) dX5_init_66 (fun H hz hP hat hS => ?_)
  refine lv_dup hx hb dX5_init_69 rfl ?_
  refine gw_initN (ok_X2_init l g) ⟨hx, hb, hml, hown, hts⟩ ⟨va_cnB 0 hts gX5_init_X2_init_n24 rfl rfl rfl hN.1.2.1 winiX2 (by decide +kernel) ⟨Nat.le_of_ble_eq_true rfl, Nat.le_of_ble_eq_true rfl⟩, rfl, wimX2⟩ hK hN hz hP hat hS (fun q hq => Nat.le_trans (Nat.le_add_right h _) hq) he_X2_134 hl.1 (Nat.le_of_ble_eq_true rfl) dX5_init_70 ⟨Nat.le_of_ble_eq_true rfl, Nat.le_of_ble_eq_true rfl⟩ (fun H locs hz hP hS => ?_)
  refine gw_putF (v := .ref (aH h 134)) (ty := (.object "StepRiders$Stair")) hx hb hts iX5 tyX5 tyX5_ok nmX5 hown hK (Nat.succ_pos _) hz hP hS rfl 6 (by decide) w47 rfl hnm rfl rfl rfl rfl (Nat.le_of_ble_eq_true rfl) dX5_init_73 (fun H locs hz hP hS => ?_)
  have hP : va_P g.1 vwCl (wl 139 (aH h) (kF (.inr (5, [.ref (aH h 1), .ref (aH h 2), .ref (aH h 4), .ref (aH h 9), .ref (aH h 131), .ref (aH h 132), .ref (aH h 134), .null, .null, .null, .int 0])) (rX5 g h (fun _ => none) (fun _ => none) (fun _ => none)))) H := hP
  refine lv_aload_n hx hb dX5_init_76 rfl (lv_at hl 0 rfl) ?_
  refine lv_bipush (v := 7) hx hb dX5_init_77 (by decide) ?_
  refine gw_newQ (n := 7) (N := 7) (k := 139) hx hb hown wcl22 hN.2.2.2 hK 3 rfl hz hP hS (by decide) (by decide) (Nat.le_of_ble_eq_true rfl) rfl (Nat.le_of_ble_eq_true rfl) (Nat.le_of_ble_eq_true rfl) dX5_init_79 (fun H hz hP hS => ?_)
  refine gw_putF (v := .ref (aH h 139)) (ty := (.array (.object "StepRiders$Stair"))) hx hb hts iX5 tyX5 tyX5_ok nmX5 hown hK (Nat.succ_pos _) hz hP hS rfl 7 (by decide) w50 rfl hnm rfl rfl rfl rfl (Nat.le_of_ble_eq_true rfl) dX5_init_82 (fun H locs hz hP hS => ?_)
  have hP : va_P g.1 vwCl (wl 140 (aH h) (kF (.inr (5, [.ref (aH h 1), .ref (aH h 2), .ref (aH h 4), .ref (aH h 9), .ref (aH h 131), .ref (aH h 132), .ref (aH h 134), .ref (aH h 139), .null, .null, .int 0])) (rX5 g h (fun _ => none) (fun _ => none) (fun _ => none)))) H := hP
  refine lv_aload_n hx hb dX5_init_85 rfl (lv_at hl 0 rfl) ?_
  refine lv_bipush (v := 6) hx hb dX5_init_86 (by decide) ?_
  refine gw_newI (n := 6) (N := 6) (k := 140) hx hb warrI hK hz hP hS (by decide) (by decide) (Nat.le_of_ble_eq_true rfl) rfl (Nat.le_of_ble_eq_true rfl) (Nat.le_of_ble_eq_true rfl) dX5_init_88 (fun H hz hP hS => ?_)
  refine gw_putF (v := .ref (aH h 140)) (ty := (.array .int)) hx hb hts iX5 tyX5 tyX5_ok nmX5 hown hK (Nat.succ_pos _) hz hP hS rfl 8 (by decide) w53 rfl hnm rfl rfl rfl rfl (Nat.le_of_ble_eq_true rfl) dX5_init_90 (fun H locs hz hP hS => ?_)
  have hP : va_P g.1 vwCl (wl 141 (aH h) (kF (.inr (5, [.ref (aH h 1), .ref (aH h 2), .ref (aH h 4), .ref (aH h 9), .ref (aH h 131), .ref (aH h 132), .ref (aH h 134), .ref (aH h 139), .ref (aH h 140), .null, .int 0])) (rX5 g h (fun _ => none) (fun _ => none) (fun _ => none)))) H := hP
  refine lv_aload_n hx hb dX5_init_93 rfl (lv_at hl 0 rfl) ?_
  refine lv_bipush (v := 6) hx hb dX5_init_94 (by decide) ?_
  refine gw_newI (n := 6) (N := 6) (k := 141) hx hb warrI hK hz hP hS (by decide) (by decide) (Nat.le_of_ble_eq_true rfl) rfl (Nat.le_of_ble_eq_true rfl) (Nat.le_of_ble_eq_true rfl) dX5_init_96 (fun H hz hP hS => ?_)
  refine gw_putF (v := .ref (aH h 141)) (ty := (.array .int)) hx hb hts iX5 tyX5 tyX5_ok nmX5 hown hK (Nat.succ_pos _) hz hP hS rfl 9 (by decide) w57 rfl hnm rfl rfl rfl rfl (Nat.le_of_ble_eq_true rfl) dX5_init_98 (fun H locs hz hP hS => ?_)
  have hP : va_P g.1 vwCl (wl 142 (aH h) (kF (.inr (5, [.ref (aH h 1), .ref (aH h 2), .ref (aH h 4), .ref (aH h 9), .ref (aH h 131), .ref (aH h 132), .ref (aH h 134), .ref (aH h 139), .ref (aH h 140), .ref (aH h 141), .int 0])) (rX5 g h (fun _ => none) (fun _ => none) (fun _ => none)))) H := hP
  refine lv_aload_n hx hb dX5_init_101 rfl (lv_at hl 0 rfl) ?_
  refine lv_iconst (v := 0) hx hb dX5_init_102 (by decide) ?_
  refine gw_put (v := .int 0) (ty := .int) hx hb hts iX5 tyX5 tyX5_ok nmX5 hown hK (Nat.succ_pos _) hz hP hS rfl 10 (by decide) w60 rfl rfl rfl rfl (Nat.le_of_ble_eq_true rfl) dX5_init_103 (fun H locs hz hP hS => ?_)
  have hP : va_P g.1 vwCl (wl 142 (aH h) (kF (.inr (5, [.ref (aH h 1), .ref (aH h 2), .ref (aH h 4), .ref (aH h 9), .ref (aH h 131), .ref (aH h 132), .ref (aH h 134), .ref (aH h 139), .ref (aH h 140), .ref (aH h 141), .int 0])) (rX5 g h (fun _ => none) (fun _ => none) (fun _ => none)))) H := hP
  refine lv_iconst (v := 0) hx hb dX5_init_106 (by decide) ?_
  refine lv_istore_n (lv' := [(1, .int 0), (0, .ref (aH h 0))]) hx hb dX5_init_107 rfl hl (by decide) rfl (fun ls hl => ?_)
  have L108 : ∀ (d i : Nat), i + d = 8 → ∀ (H : Heap) (locs : List Loc) (ls : Array Slot), H.size = h + (142 + 2 * i) → va_P g.1 vwCl (wl (142 + 2 * i) (aH h) (kF (.inr (5, [.ref (aH h 1), .ref (aH h 2), .ref (aH h 4), .ref (aH h 9), .ref (aH h 131), .ref (aH h 132), .ref (aH h 134), .ref (aH h 139), .ref (aH h 140), .ref (aH h 141), .int 0])) (rX5 g h (fl h 142 2 i) (fun _ => none) (fun _ => none)))) H → va_S (fun q => h ≤ q) s.heap H locs → lv_has ls 2 [(1, .int (nI i)), (0, .ref (aH h 0))] → (∀ (H : Heap) (locs : List Loc) (ls : Array Slot), H.size = h + 158 → va_P g.1 vwCl (wl 158 (aH h) (kF (.inr (5, [.ref (aH h 1), .ref (aH h 2), .ref (aH h 4), .ref (aH h 9), .ref (aH h 131), .ref (aH h 132), .ref (aH h 134), .ref (aH h 139), .ref (aH h 140), .ref (aH h 141), .int 0])) (rX5 g h (fl h 142 2 8) (fun _ => none) (fun _ => none)))) H → va_S (fun q => h ≤ q) s.heap H locs → lv_has ls 2 [(1, .int (nI 8)), (0, .ref (aH h 0))] → W p l e rmX5_init s m args below meth c H locs 157 1455 Qz (F0 m 133 ls [])) → W p l e rmX5_init s m args below meth c H locs (141 + 2 * i) (1103 + 44 * i) Qz (F0 m 108 ls []) := by
    intro d
    induction d with
    | zero =>
      intro i hi H locs ls hz hP hS hl KX
      have hi0 : i = 8 := by omega
      subst hi0
      refine lv_iload_n hx hb dX5_init_108 rfl (lv_at hl 0 rfl) ?_
      refine lv_bipush (v := 8) hx hb dX5_init_109 (by decide) ?_
      refine lv_icmp_ge (x := nI 8) (y := 8) (tgt := 133) hx hb dX5_init_111 (by decide) (fun q1 => ?_) (fun q1 => ?_)
      · exact KX H locs ls hz hP hS hl
      · exact absurd (by decide) q1
    | succ d ih =>
      intro i hi H locs ls hz hP hS hl KX
      refine lv_iload_n hx hb dX5_init_108 rfl (lv_at hl 0 rfl) ?_
      refine lv_bipush (v := 8) hx hb dX5_init_109 (by decide) ?_
      refine lv_icmp_ge (x := nI i) (y := 8) (tgt := 133) hx hb dX5_init_111 (by decide) (fun q1 => ?_) (fun q1 => ?_)
      · exact absurd q1 (nI_ge (b := 8) (by omega) (by omega))
      refine lv_aload_n hx hb dX5_init_114 rfl (lv_at hl 1 rfl) ?_
      refine r_get (v := .ref (aH h 1)) hx hb hts iX5 hown hK hP 0 (by omega) rfl rfl 0 (by decide) w11 rfl dX5_init_115 ?_
      refine lv_iload_n hx hb dX5_init_118 rfl (lv_at hl 0 rfl) ?_
      refine gw_new (k := (142 + 2 * i)) (ci := 1) (fs := [.null, .int 0, .int 0, .int 0]) hx hb hts iX1 tyX1 tyX1_ok hown wcl9 winX1 winiX1 hK hz hP hS rfl (by decide) (by show _ ≤ 202; omega) (by show _ ≤ 1779; omega) dX5_init_119 (fun H hz hP hat hS => ?_)
      refine lv_dup hx hb dX5_init_122 rfl ?_
      refine gw_initN (ok_X1_init l g) ⟨hx, hb, hml, hown, hts⟩ ⟨va_cnB 0 hts gX5_init_X1_init_n64 rfl rfl rfl hN.2.1.2 winiX1 (by decide +kernel) ⟨Nat.le_of_ble_eq_true rfl, Nat.le_of_ble_eq_true rfl⟩, rfl, wimX1⟩ hK hN hz hP hat hS (fun q hq => Nat.le_trans (Nat.le_add_right h _) hq) (he_X5_X1_108 (i := i) (by omega)) hl.1 (Nat.le_of_ble_eq_true rfl) dX5_init_123 ⟨by show _ ≤ 202; omega, by show _ ≤ 1779; omega⟩ (fun H locs hz hP hS => ?_)
      have hz : H.size = h + (142 + 2 * (i + 1)) := by rw [hz]; omega
      have hP : va_P g.1 vwCl (wl (142 + 2 * (i + 1)) (aH h) (kF (.inr (5, [.ref (aH h 1), .ref (aH h 2), .ref (aH h 4), .ref (aH h 9), .ref (aH h 131), .ref (aH h 132), .ref (aH h 134), .ref (aH h 139), .ref (aH h 140), .ref (aH h 141), .int 0])) (rX5 g h (fl h 142 2 i) (fun _ => none) (fun _ => none)))) H := by rw [show (142 + 2 * (i + 1)) = (142 + 2 * i) + (1 + 1) by omega]; exact hP
      refine gw_astq (i := nI i) (f1 := kF (.inr (5, [.ref (aH h 1), .ref (aH h 2), .ref (aH h 4), .ref (aH h 9), .ref (aH h 131), .ref (aH h 132), .ref (aH h 134), .ref (aH h 139), .ref (aH h 140), .ref (aH h 141), .int 0])) (rX5 g h (fl h 142 2 (i + 1)) (fun _ => none) (fun _ => none))) hx hb hK hz hP hS 1 2 (142 + 2 * i) 1 (by omega) (by omega) (ha_X5_108) rfl (hv_X5_108 (i := i) (by omega)) rfl (bIn_n (by omega) (by decide)) (hu_X5_108 (by omega)) dX5_init_126 (fun H locs hz hP hS => ?_)
      refine lv_iinc (v := nI (i + 1)) (lv' := [(1, .int (nI (i + 1))), (0, .ref (aH h 0))]) hx hb dX5_init_127 hl (k := 0) rfl (n1a i) (by decide) rfl (fun ls hl => ?_)
      refine lv_goto (tgt := 108) hx hb dX5_init_130 (by decide) ?_
      have hgo := ih (i + 1) (by omega) H locs ls hz hP hS hl KX
      rw [show 141 + 2 * (i + 1) = 141 + 2 * i + 1 + 1 by omega, show 1103 + 44 * (i + 1) = 1103 + 44 * i + 4 + 40 by omega] at hgo
      exact hgo
  refine L108 8 0 (by omega) H locs ls hz (by rw [fl_0]; exact hP) hS hl (fun H locs ls hz hP hS hl => ?_)
  refine lv_iconst (v := 0) hx hb dX5_init_133 (by decide) ?_
  refine lv_istore_n (lv' := [(1, .int 0), (0, .ref (aH h 0))]) hx hb dX5_init_134 rfl hl (by decide) rfl (fun ls hl => ?_)
  have L135 : ∀ (d i : Nat), i + d = 2 → ∀ (H : Heap) (locs : List Loc) (ls : Array Slot), H.size = h + (158 + 5 * i) → va_P g.1 vwCl (wl (158 + 5 * i) (aH h) (kF (.inr (5, [.ref (aH h 1), .ref (aH h 2), .ref (aH h 4), .ref (aH h 9), .ref (aH h 131), .ref (aH h 132), .ref (aH h 134), .ref (aH h 139), .ref (aH h 140), .ref (aH h 141), .int 0])) (rX5 g h (fl h 142 2 8) (fl h 158 5 i) (fun _ => none)))) H → va_S (fun q => h ≤ q) s.heap H locs → lv_has ls 2 [(1, .int (nI i)), (0, .ref (aH h 0))] → (∀ (H : Heap) (locs : List Loc) (ls : Array Slot), H.size = h + 168 → va_P g.1 vwCl (wl 168 (aH h) (kF (.inr (5, [.ref (aH h 1), .ref (aH h 2), .ref (aH h 4), .ref (aH h 9), .ref (aH h 131), .ref (aH h 132), .ref (aH h 134), .ref (aH h 139), .ref (aH h 140), .ref (aH h 141), .int 0])) (rX5 g h (fl h 142 2 8) (fl h 158 5 2) (fun _ => none)))) H → va_S (fun q => h ≤ q) s.heap H locs → lv_has ls 2 [(1, .int (nI 2)), (0, .ref (aH h 0))] → W p l e rmX5_init s m args below meth c H locs 167 1527 Qz (F0 m 159 ls [])) → W p l e rmX5_init s m args below meth c H locs (157 + 5 * i) (1455 + 36 * i) Qz (F0 m 135 ls []) := by
    intro d
    induction d with
    | zero =>
      intro i hi H locs ls hz hP hS hl KX
      have hi0 : i = 2 := by omega
      subst hi0
      refine lv_iload_n hx hb dX5_init_135 rfl (lv_at hl 0 rfl) ?_
      refine lv_iconst (v := 2) hx hb dX5_init_136 (by decide) ?_
      refine lv_icmp_ge (x := nI 2) (y := 2) (tgt := 159) hx hb dX5_init_137 (by decide) (fun q1 => ?_) (fun q1 => ?_)
      · exact KX H locs ls hz hP hS hl
      · exact absurd (by decide) q1
    | succ d ih =>
      intro i hi H locs ls hz hP hS hl KX
      refine lv_iload_n hx hb dX5_init_135 rfl (lv_at hl 0 rfl) ?_
      refine lv_iconst (v := 2) hx hb dX5_init_136 (by decide) ?_
      refine lv_icmp_ge (x := nI i) (y := 2) (tgt := 159) hx hb dX5_init_137 (by decide) (fun q1 => ?_) (fun q1 => ?_)
      · exact absurd q1 (nI_ge (b := 2) (by omega) (by omega))
      refine lv_aload_n hx hb dX5_init_140 rfl (lv_at hl 1 rfl) ?_
      refine r_get (v := .ref (aH h 131)) hx hb hts iX5 hown hK hP 0 (by omega) rfl rfl 4 (by decide) w36 rfl dX5_init_141 ?_
      refine lv_iload_n hx hb dX5_init_144 rfl (lv_at hl 0 rfl) ?_
      refine gw_new (k := (158 + 5 * i)) (ci := 2) (fs := [.int 0, .int 0, .int 0, .int 0, .null, .null, .null, .null]) hx hb hts iX2 tyX2 tyX2_ok hown wcl22 winX2 winiX2 hK hz hP hS rfl (by decide) (by show _ ≤ 202; omega) (by show _ ≤ 1779; omega) dX5_init_145 (fun H hz hP hat hS => ?_)
      refine lv_dup hx hb dX5_init_148 rfl ?_
      refine gw_initN (ok_X2_init l g) ⟨hx, hb, hml, hown, hts⟩ ⟨va_cnB 0 hts gX5_init_X2_init_n24 rfl rfl rfl hN.1.2.1 winiX2 (by decide +kernel) ⟨Nat.le_of_ble_eq_true rfl, Nat.le_of_ble_eq_true rfl⟩, rfl, wimX2⟩ hK hN hz hP hat hS (fun q hq => Nat.le_trans (Nat.le_add_right h _) hq) (he_X5_X2_135 (i := i) (by omega)) hl.1 (Nat.le_of_ble_eq_true rfl) dX5_init_149 ⟨by show _ ≤ 202; omega, by show _ ≤ 1779; omega⟩ (fun H locs hz hP hS => ?_)
      have hz : H.size = h + (158 + 5 * (i + 1)) := by rw [hz]; omega
      have hP : va_P g.1 vwCl (wl (158 + 5 * (i + 1)) (aH h) (kF (.inr (5, [.ref (aH h 1), .ref (aH h 2), .ref (aH h 4), .ref (aH h 9), .ref (aH h 131), .ref (aH h 132), .ref (aH h 134), .ref (aH h 139), .ref (aH h 140), .ref (aH h 141), .int 0])) (rX5 g h (fl h 142 2 8) (fl h 158 5 i) (fun _ => none)))) H := by rw [show (158 + 5 * (i + 1)) = (158 + 5 * i) + (4 + 1) by omega]; exact hP
      refine gw_astq (i := nI i) (f1 := kF (.inr (5, [.ref (aH h 1), .ref (aH h 2), .ref (aH h 4), .ref (aH h 9), .ref (aH h 131), .ref (aH h 132), .ref (aH h 134), .ref (aH h 139), .ref (aH h 140), .ref (aH h 141), .int 0])) (rX5 g h (fl h 142 2 8) (fl h 158 5 (i + 1)) (fun _ => none))) hx hb hK hz hP hS 131 3 (158 + 5 * i) 2 (by omega) (by omega) (ha_X5_135) rfl (hv_X5_135 (i := i) (by omega)) rfl (bIn_n (by omega) (by decide)) (hu_X5_135 (by omega)) dX5_init_152 (fun H locs hz hP hS => ?_)
      refine lv_iinc (v := nI (i + 1)) (lv' := [(1, .int (nI (i + 1))), (0, .ref (aH h 0))]) hx hb dX5_init_153 hl (k := 0) rfl (n1a i) (by decide) rfl (fun ls hl => ?_)
      refine lv_goto (tgt := 135) hx hb dX5_init_156 (by decide) ?_
      have hgo := ih (i + 1) (by omega) H locs ls hz hP hS hl KX
      rw [show 157 + 5 * (i + 1) = 157 + 5 * i + 1 + 4 by omega, show 1455 + 36 * (i + 1) = 1455 + 36 * i + 8 + 28 by omega] at hgo
      exact hgo
  refine L135 2 0 (by omega) H locs ls hz (by rw [fl_0]; exact hP) hS hl (fun H locs ls hz hP hS hl => ?_)
  refine lv_iconst (v := 0) hx hb dX5_init_159 (by decide) ?_
  refine lv_istore_n (lv' := [(1, .int 0), (0, .ref (aH h 0))]) hx hb dX5_init_160 rfl hl (by decide) rfl (fun ls hl => ?_)
  have L161 : ∀ (d i : Nat), i + d = 7 → ∀ (H : Heap) (locs : List Loc) (ls : Array Slot), H.size = h + (168 + 5 * i) → va_P g.1 vwCl (wl (168 + 5 * i) (aH h) (kF (.inr (5, [.ref (aH h 1), .ref (aH h 2), .ref (aH h 4), .ref (aH h 9), .ref (aH h 131), .ref (aH h 132), .ref (aH h 134), .ref (aH h 139), .ref (aH h 140), .ref (aH h 141), .int 0])) (rX5 g h (fl h 142 2 8) (fl h 158 5 2) (fl h 168 5 i)))) H → va_S (fun q => h ≤ q) s.heap H locs → lv_has ls 2 [(1, .int (nI i)), (0, .ref (aH h 0))] → (∀ (H : Heap) (locs : List Loc) (ls : Array Slot), H.size = h + 203 → va_P g.1 vwCl (wl 203 (aH h) (kF (.inr (5, [.ref (aH h 1), .ref (aH h 2), .ref (aH h 4), .ref (aH h 9), .ref (aH h 131), .ref (aH h 132), .ref (aH h 134), .ref (aH h 139), .ref (aH h 140), .ref (aH h 141), .int 0])) (rX5 g h (fl h 142 2 8) (fl h 158 5 2) (fl h 168 5 7)))) H → va_S (fun q => h ≤ q) s.heap H locs → lv_has ls 2 [(1, .int (nI 7)), (0, .ref (aH h 0))] → W p l e rmX5_init s m args below meth c H locs 202 1779 Qz (F0 m 186 ls [])) → W p l e rmX5_init s m args below meth c H locs (167 + 5 * i) (1527 + 36 * i) Qz (F0 m 161 ls []) := by
    intro d
    induction d with
    | zero =>
      intro i hi H locs ls hz hP hS hl KX
      have hi0 : i = 7 := by omega
      subst hi0
      refine lv_iload_n hx hb dX5_init_161 rfl (lv_at hl 0 rfl) ?_
      refine lv_bipush (v := 6) hx hb dX5_init_162 (by decide) ?_
      refine lv_icmp_gt (x := nI 7) (y := 6) (tgt := 186) hx hb dX5_init_164 (by decide) (fun q1 => ?_) (fun q1 => ?_)
      · exact KX H locs ls hz hP hS hl
      · exact absurd (by decide) q1
    | succ d ih =>
      intro i hi H locs ls hz hP hS hl KX
      refine lv_iload_n hx hb dX5_init_161 rfl (lv_at hl 0 rfl) ?_
      refine lv_bipush (v := 6) hx hb dX5_init_162 (by decide) ?_
      refine lv_icmp_gt (x := nI i) (y := 6) (tgt := 186) hx hb dX5_init_164 (by decide) (fun q1 => ?_) (fun q1 => ?_)
      · exact absurd q1 (fun hh => absurd ((nI_ltI (a := 6) (by omega) (by omega)).mp hh) (by omega))
      refine lv_aload_n hx hb dX5_init_167 rfl (lv_at hl 1 rfl) ?_
      refine r_get (v := .ref (aH h 139)) hx hb hts iX5 hown hK hP 0 (by omega) rfl rfl 7 (by decide) w50 rfl dX5_init_168 ?_
      refine lv_iload_n hx hb dX5_init_171 rfl (lv_at hl 0 rfl) ?_
      refine gw_new (k := (168 + 5 * i)) (ci := 2) (fs := [.int 0, .int 0, .int 0, .int 0, .null, .null, .null, .null]) hx hb hts iX2 tyX2 tyX2_ok hown wcl22 winX2 winiX2 hK hz hP hS rfl (by decide) (by show _ ≤ 202; omega) (by show _ ≤ 1779; omega) dX5_init_172 (fun H hz hP hat hS => ?_)
      refine lv_dup hx hb dX5_init_175 rfl ?_
      refine gw_initN (ok_X2_init l g) ⟨hx, hb, hml, hown, hts⟩ ⟨va_cnB 0 hts gX5_init_X2_init_n24 rfl rfl rfl hN.1.2.1 winiX2 (by decide +kernel) ⟨Nat.le_of_ble_eq_true rfl, Nat.le_of_ble_eq_true rfl⟩, rfl, wimX2⟩ hK hN hz hP hat hS (fun q hq => Nat.le_trans (Nat.le_add_right h _) hq) (he_X5_X2_161 (i := i) (by omega)) hl.1 (Nat.le_of_ble_eq_true rfl) dX5_init_176 ⟨by show _ ≤ 202; omega, by show _ ≤ 1779; omega⟩ (fun H locs hz hP hS => ?_)
      have hz : H.size = h + (168 + 5 * (i + 1)) := by rw [hz]; omega
      have hP : va_P g.1 vwCl (wl (168 + 5 * (i + 1)) (aH h) (kF (.inr (5, [.ref (aH h 1), .ref (aH h 2), .ref (aH h 4), .ref (aH h 9), .ref (aH h 131), .ref (aH h 132), .ref (aH h 134), .ref (aH h 139), .ref (aH h 140), .ref (aH h 141), .int 0])) (rX5 g h (fl h 142 2 8) (fl h 158 5 2) (fl h 168 5 i)))) H := by rw [show (168 + 5 * (i + 1)) = (168 + 5 * i) + (4 + 1) by omega]; exact hP
      refine gw_astq (i := nI i) (f1 := kF (.inr (5, [.ref (aH h 1), .ref (aH h 2), .ref (aH h 4), .ref (aH h 9), .ref (aH h 131), .ref (aH h 132), .ref (aH h 134), .ref (aH h 139), .ref (aH h 140), .ref (aH h 141), .int 0])) (rX5 g h (fl h 142 2 8) (fl h 158 5 2) (fl h 168 5 (i + 1)))) hx hb hK hz hP hS 139 3 (168 + 5 * i) 2 (by omega) (by omega) (ha_X5_161) rfl (hv_X5_161 (i := i) (by omega)) rfl (bIn_n (by omega) (by decide)) (hu_X5_161 (by omega)) dX5_init_179 (fun H locs hz hP hS => ?_)
      refine lv_iinc (v := nI (i + 1)) (lv' := [(1, .int (nI (i + 1))), (0, .ref (aH h 0))]) hx hb dX5_init_180 hl (k := 0) rfl (n1a i) (by decide) rfl (fun ls hl => ?_)
      refine lv_goto (tgt := 161) hx hb dX5_init_183 (by decide) ?_
      have hgo := ih (i + 1) (by omega) H locs ls hz hP hS hl KX
      rw [show 167 + 5 * (i + 1) = 167 + 5 * i + 1 + 4 by omega, show 1527 + 36 * (i + 1) = 1527 + 36 * i + 8 + 28 by omega] at hgo
      exact hgo
  refine L161 7 0 (by omega) H locs ls hz (by rw [fl_0]; exact hP) hS hl (fun H locs ls hz hP hS hl => ?_)
  rw [hQz]
  have hP : va_P g.1 vwCl (wl 203 (aH h) (ff5 g h)) H := fin_X5 hP
  exact gw_vret hx hb hr hlk hS hz hP dX5_init_186
