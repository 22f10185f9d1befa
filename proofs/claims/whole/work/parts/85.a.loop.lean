set_option maxHeartbeats 4000000 in
set_option maxRecDepth 100000 in
theorem law_loop {p : Program} {l : Launch} {e : Env} {s : State} {m : MethodId} {below : List Frame} {meth : Method} {c : Code} {b L : Nat} {xs : Nat → Int32} {g : gT} (hL : L ≤ 3072) (C0 : lw_At p s m meth c b L xs) (hK : KK g s) (hZ : zT (fun q => s.heap.size ≤ q) s s.heap) : ∀ (n i : Nat), i ≤ L → L + 1 ≤ i + n → ∀ (M N : Mem) (H : Heap) (locs : List Loc) (ls : Array Slot), RR M N → va_P g.1 vwCl (LW g s.heap.size M N) H → va_S (fun q => s.heap.size ≤ q) s.heap H locs → lv_has ls 4 [(3, .int (nI i)), (2, .ref (aH (s.heap.size + 203) 0)), (1, .ref (aH s.heap.size 0)), (0, .ref b)] → W p l e room_1 s m #[Value.ref b] below meth c H locs 217 2828 (lw_Z below #[Value.ref b] s) (F0 m 18 ls []) := by
  intro n
  induction n with
  | zero => intro i h1 h2; omega
  | succ n ih =>
    intro i hiL hn M N H locs ls hRR hP hS hl
    obtain ⟨hx, hb, hr, hml, hown, hts0, hX, hbl, hlk, hgv⟩ := id C0
    have hbA : ¬ (fun q : Nat => s.heap.size ≤ q) b := Nat.not_le.mpr hbl
    refine lv_iload_n hx hb dL_law_18 rfl (lv_at hl 0 rfl) ?_
    refine lv_aload_n hx hb dL_law_19 rfl (lv_at hl 3 rfl) ?_
    refine va_slen hx hb hX hbl hbA hS dL_law_20 ?_
    refine lv_bipush (v := 6) hx hb dL_law_21 (by decide) ?_
    refine lv_isub (x := Int32.ofNat L) (y := 6) hx hb dL_law_23 ?_
    refine lv_icmp_gt (x := nI i) (y := Int32.ofNat L - 6) (tgt := 1155) hx hb dL_law_24 (by decide) (fun q1 => ?_) (fun q1 => ?_)
    · refine lv_iconst (v := 1) hx hb dL_law_1155 (by decide) ?_
      refine va_forget (fun q hq => hS.2.2 q hq) ?_
      refine W.widen (k := 600000) (n := 7302250) (Nat.le_of_ble_eq_true rfl) (Nat.le_of_ble_eq_true rfl) ?_
      exact lw_ret hx hb hr hlk dL_law_1156
    · have hi : i + 6 ≤ L := law_le hL hiL q1
      have v0 : vp_in (nI i) L := vp_in_nI (by omega) (by omega)
      refine lv_aload_n hx hb dL_law_27 rfl (lv_at hl 3 rfl) ?_
      refine lv_iload_n hx hb dL_law_28 rfl (lv_at hl 0 rfl) ?_
      refine va_sld (i := nI i) hx hb hX hbl hbA hS v0 dL_law_29 ?_
      refine lv_bipush (v := 63) hx hb dL_law_30 (by decide) ?_
      refine lv_iand (x := xs (nI i).toNatClampNeg) (y := 63) hx hb dL_law_32 ?_
      have KX : ∀ (M N : Mem) (H : Heap) (locs : List Loc) (ls : Array Slot), RR M N → va_P g.1 vwCl (LW g s.heap.size M N) H → va_S (fun q => s.heap.size ≤ q) s.heap H locs → lv_has ls 4 [(3, .int (nI i)), (2, .ref (aH (s.heap.size + 203) 0)), (1, .ref (aH s.heap.size 0)), (0, .ref b)] → W p l e room_1 s m #[Value.ref b] below meth c H locs 217 2828 (lw_Z below #[Value.ref b] s) (F0 m 1149 ls []) := by
        intro M N H locs ls hRR hP hS hl
        refine lv_iinc (v := nI (i + 6)) (lv' := [(3, .int (nI (i + 6))), (2, .ref (aH (s.heap.size + 203) 0)), (1, .ref (aH s.heap.size 0)), (0, .ref b)]) hx hb dL_law_1149 hl (k := 0) rfl (nI_add i 6) (by decide) rfl (fun ls hl => ?_)
        refine lv_goto (tgt := 18) hx hb dL_law_1152 (by decide) ?_
        exact ih (i + 6) hi (by omega) M N H locs ls hRR hP hS hl
      generalize xs (nI i).toNatClampNeg &&& 63 = x
      by_cases hx0 : 0 ≤ x.toInt ∧ x.toInt < 33
      · obtain ⟨k, hk, rfl⟩ : ∃ k : Nat, k < 33 ∧ x = nI k := ⟨x.toInt.toNat, by omega, Int32.toInt_inj.mp (by rw [nI_toInt (by omega)]; omega)⟩
        match k, hk with
        | 0, _ => exact lv_tableIn (x := nI 0) (tgt := 180) (off := 147) hx hb dL_law_33 (by decide) (by decide) (by decide) (by decide) (law_0 hL C0 hK hZ i hi KX M N H locs ls hRR hP hS hl)
        | 1, _ => exact lv_tableIn (x := nI 1) (tgt := 223) (off := 190) hx hb dL_law_33 (by decide) (by decide) (by decide) (by decide) (law_1 hL C0 hK hZ i hi KX M N H locs ls hRR hP hS hl)
        | 2, _ => exact lv_tableIn (x := nI 2) (tgt := 266) (off := 233) hx hb dL_law_33 (by decide) (by decide) (by decide) (by decide) (law_2 hL C0 hK hZ i hi KX M N H locs ls hRR hP hS hl)
        | 3, _ => exact lv_tableIn (x := nI 3) (tgt := 329) (off := 296) hx hb dL_law_33 (by decide) (by decide) (by decide) (by decide) (law_3 hL C0 hK hZ i hi KX M N H locs ls hRR hP hS hl)
        | 4, _ => exact lv_tableIn (x := nI 4) (tgt := 352) (off := 319) hx hb dL_law_33 (by decide) (by decide) (by decide) (by decide) (law_4 hL C0 hK hZ i hi KX M N H locs ls hRR hP hS hl)
        | 5, _ => exact lv_tableIn (x := nI 5) (tgt := 375) (off := 342) hx hb dL_law_33 (by decide) (by decide) (by decide) (by decide) (law_5 hL C0 hK hZ i hi KX M N H locs ls hRR hP hS hl)
        | 6, _ => exact lv_tableIn (x := nI 6) (tgt := 388) (off := 355) hx hb dL_law_33 (by decide) (by decide) (by decide) (by decide) (law_6 hL C0 hK hZ i hi KX M N H locs ls hRR hP hS hl)
        | 7, _ => exact lv_tableIn (x := nI 7) (tgt := 401) (off := 368) hx hb dL_law_33 (by decide) (by decide) (by decide) (by decide) (law_7 hL C0 hK hZ i hi KX M N H locs ls hRR hP hS hl)
        | 8, _ => exact lv_tableIn (x := nI 8) (tgt := 424) (off := 391) hx hb dL_law_33 (by decide) (by decide) (by decide) (by decide) (law_8 hL C0 hK hZ i hi KX M N H locs ls hRR hP hS hl)
        | 9, _ => exact lv_tableIn (x := nI 9) (tgt := 447) (off := 414) hx hb dL_law_33 (by decide) (by decide) (by decide) (by decide) (law_9 hL C0 hK hZ i hi KX M N H locs ls hRR hP hS hl)
        | 10, _ => exact lv_tableIn (x := nI 10) (tgt := 470) (off := 437) hx hb dL_law_33 (by decide) (by decide) (by decide) (by decide) (law_10 hL C0 hK hZ i hi KX M N H locs ls hRR hP hS hl)
        | 11, _ => exact lv_tableIn (x := nI 11) (tgt := 493) (off := 460) hx hb dL_law_33 (by decide) (by decide) (by decide) (by decide) (law_11 hL C0 hK hZ i hi KX M N H locs ls hRR hP hS hl)
        | 12, _ => exact lv_tableIn (x := nI 12) (tgt := 526) (off := 493) hx hb dL_law_33 (by decide) (by decide) (by decide) (by decide) (law_12 hL C0 hK hZ i hi KX M N H locs ls hRR hP hS hl)
        | 13, _ => exact lv_tableIn (x := nI 13) (tgt := 539) (off := 506) hx hb dL_law_33 (by decide) (by decide) (by decide) (by decide) (law_13 hL C0 hK hZ i hi KX M N H locs ls hRR hP hS hl)
        | 14, _ => exact lv_tableIn (x := nI 14) (tgt := 572) (off := 539) hx hb dL_law_33 (by decide) (by decide) (by decide) (by decide) (law_14 hL C0 hK hZ i hi KX M N H locs ls hRR hP hS hl)
        | 15, _ => exact lv_tableIn (x := nI 15) (tgt := 605) (off := 572) hx hb dL_law_33 (by decide) (by decide) (by decide) (by decide) (law_15 hL C0 hK hZ i hi KX M N H locs ls hRR hP hS hl)
        | 16, _ => exact lv_tableIn (x := nI 16) (tgt := 638) (off := 605) hx hb dL_law_33 (by decide) (by decide) (by decide) (by decide) (law_16 hL C0 hK hZ i hi KX M N H locs ls hRR hP hS hl)
        | 17, _ => exact lv_tableIn (x := nI 17) (tgt := 671) (off := 638) hx hb dL_law_33 (by decide) (by decide) (by decide) (by decide) (law_17 hL C0 hK hZ i hi KX M N H locs ls hRR hP hS hl)
        | 18, _ => exact lv_tableIn (x := nI 18) (tgt := 694) (off := 661) hx hb dL_law_33 (by decide) (by decide) (by decide) (by decide) (law_18 hL C0 hK hZ i hi KX M N H locs ls hRR hP hS hl)
        | 19, _ => exact lv_tableIn (x := nI 19) (tgt := 707) (off := 674) hx hb dL_law_33 (by decide) (by decide) (by decide) (by decide) (law_19 hL C0 hK hZ i hi KX M N H locs ls hRR hP hS hl)
        | 20, _ => exact lv_tableIn (x := nI 20) (tgt := 730) (off := 697) hx hb dL_law_33 (by decide) (by decide) (by decide) (by decide) (law_20 hL C0 hK hZ i hi KX M N H locs ls hRR hP hS hl)
        | 21, _ => exact lv_tableIn (x := nI 21) (tgt := 753) (off := 720) hx hb dL_law_33 (by decide) (by decide) (by decide) (by decide) (law_21 hL C0 hK hZ i hi KX M N H locs ls hRR hP hS hl)
        | 22, _ => exact lv_tableIn (x := nI 22) (tgt := 796) (off := 763) hx hb dL_law_33 (by decide) (by decide) (by decide) (by decide) (law_22 hL C0 hK hZ i hi KX M N H locs ls hRR hP hS hl)
        | 23, _ => exact lv_tableIn (x := nI 23) (tgt := 859) (off := 826) hx hb dL_law_33 (by decide) (by decide) (by decide) (by decide) (law_23 hL C0 hK hZ i hi KX M N H locs ls hRR hP hS hl)
        | 24, _ => exact lv_tableIn (x := nI 24) (tgt := 912) (off := 879) hx hb dL_law_33 (by decide) (by decide) (by decide) (by decide) (law_24 hL C0 hK hZ i hi KX M N H locs ls hRR hP hS hl)
        | 25, _ => exact lv_tableIn (x := nI 25) (tgt := 955) (off := 922) hx hb dL_law_33 (by decide) (by decide) (by decide) (by decide) (law_25 hL C0 hK hZ i hi KX M N H locs ls hRR hP hS hl)
        | 26, _ => exact lv_tableIn (x := nI 26) (tgt := 978) (off := 945) hx hb dL_law_33 (by decide) (by decide) (by decide) (by decide) (law_26 hL C0 hK hZ i hi KX M N H locs ls hRR hP hS hl)
        | 27, _ => exact lv_tableIn (x := nI 27) (tgt := 1001) (off := 968) hx hb dL_law_33 (by decide) (by decide) (by decide) (by decide) (law_27 hL C0 hK hZ i hi KX M N H locs ls hRR hP hS hl)
        | 28, _ => exact lv_tableIn (x := nI 28) (tgt := 1024) (off := 991) hx hb dL_law_33 (by decide) (by decide) (by decide) (by decide) (law_28 hL C0 hK hZ i hi KX M N H locs ls hRR hP hS hl)
        | 29, _ => exact lv_tableIn (x := nI 29) (tgt := 1057) (off := 1024) hx hb dL_law_33 (by decide) (by decide) (by decide) (by decide) (law_29 hL C0 hK hZ i hi KX M N H locs ls hRR hP hS hl)
        | 30, _ => exact lv_tableIn (x := nI 30) (tgt := 1090) (off := 1057) hx hb dL_law_33 (by decide) (by decide) (by decide) (by decide) (law_30 hL C0 hK hZ i hi KX M N H locs ls hRR hP hS hl)
        | 31, _ => exact lv_tableIn (x := nI 31) (tgt := 1113) (off := 1080) hx hb dL_law_33 (by decide) (by decide) (by decide) (by decide) (law_31 hL C0 hK hZ i hi KX M N H locs ls hRR hP hS hl)
        | 32, _ => exact lv_tableIn (x := nI 32) (tgt := 1136) (off := 1103) hx hb dL_law_33 (by decide) (by decide) (by decide) (by decide) (law_32 hL C0 hK hZ i hi KX M N H locs ls hRR hP hS hl)
        | k + 33, hk => exact absurd hk (by omega)
      · exact lv_tableOut (x := x) (tgt := 1149) hx hb dL_law_33 (by omega) (by decide) (KX M N H locs ls hRR hP hS hl)
