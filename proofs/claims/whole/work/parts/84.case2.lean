set_option maxHeartbeats 4000000 in
set_option maxRecDepth 100000 in
theorem law_22 {p : Program} {l : Launch} {e : Env} {s : State} {m : MethodId} {below : List Frame} {meth : Method} {c : Code} {b L : Nat} {xs : Nat → Int32} {g : gT} (hL : L ≤ 3072) (C0 : lw_At p s m meth c b L xs) (hK : KK g s) (hZ : zT (fun q => s.heap.size ≤ q) s s.heap) (i : Nat) (hi : i + 6 ≤ L) (KX : ∀ (M N : Mem) (H : Heap) (locs : List Loc) (ls : Array Slot), RR M N → va_P g.1 vwCl (LW g s.heap.size M N) H → va_S (fun q => s.heap.size ≤ q) s.heap H locs → lv_has ls 4 [(3, .int (nI i)), (2, .ref (aH (s.heap.size + 203) 0)), (1, .ref (aH s.heap.size 0)), (0, .ref b)] → W p l e room_1 s m #[Value.ref b] below meth c H locs 217 2828 (lw_Z below #[Value.ref b] s) (F0 m 1149 ls [])) (M N : Mem) (H : Heap) (locs : List Loc) (ls : Array Slot) (hRR : RR M N) (hP : va_P g.1 vwCl (LW g s.heap.size M N) H) (hS : va_S (fun q => s.heap.size ≤ q) s.heap H locs) (hl : lv_has ls 4 [(3, .int (nI i)), (2, .ref (aH (s.heap.size + 203) 0)), (1, .ref (aH s.heap.size 0)), (0, .ref b)]) : W p l e room_1 s m #[Value.ref b] below meth c H locs 217 2828 (lw_Z below #[Value.ref b] s) (F0 m 796 ls []) := by
  obtain ⟨hx, hb, hr, hml, hown, hts0, hX, hbl, hlk, hgv⟩ := C0
  have hown : s.vm.findClass RL = some m.cls := hown
  have hts : ∀ w ∈ wsL_law, w.before #[Value.ref b] s = true := fun w h => hts0 w (wsL_law_in w h)
  have hbA : ¬ (fun q : Nat => s.heap.size ≤ q) b := Nat.not_le.mpr hbl
  have v1 : vp_in (nI i + 1) L := by rw [show nI i + 1 = nI (i + 1) from nI_add i 1]; exact vp_in_nI (by omega) (by omega)
  have v2 : vp_in (nI i + 2) L := by rw [show nI i + 2 = nI (i + 2) from nI_add i 2]; exact vp_in_nI (by omega) (by omega)
  have v3 : vp_in (nI i + 3) L := by rw [show nI i + 3 = nI (i + 3) from nI_add i 3]; exact vp_in_nI (by omega) (by omega)
  have v4 : vp_in (nI i + 4) L := by rw [show nI i + 4 = nI (i + 4) from nI_add i 4]; exact vp_in_nI (by omega) (by omega)
  have v5 : vp_in (nI i + 5) L := by rw [show nI i + 5 = nI (i + 5) from nI_add i 5]; exact vp_in_nI (by omega) (by omega)
  obtain ⟨r, M', N', e1, e2, hRR'⟩ := q_fits (xs (nI i + 1).toNatClampNeg) (xs (nI i + 2).toNatClampNeg) (xs (nI i + 3).toNatClampNeg) (xs (nI i + 4).toNatClampNeg) (xs (nI i + 5).toNatClampNeg) M N hRR
  refine lv_aload_n hx hb dL_law_796 rfl (lv_at hl 2 rfl) ?_
  refine lv_aload_n hx hb dL_law_797 rfl (lv_at hl 3 rfl) ?_
  refine lv_iload_n hx hb dL_law_798 rfl (lv_at hl 0 rfl) ?_
  refine lv_iconst (v := 1) hx hb dL_law_799 (by decide) ?_
  refine lv_iadd (x := nI i) (y := 1) hx hb dL_law_800 ?_
  refine va_sld (i := nI i + 1) hx hb hX hbl hbA hS v1 dL_law_801 ?_
  refine lv_aload_n hx hb dL_law_802 rfl (lv_at hl 3 rfl) ?_
  refine lv_iload_n hx hb dL_law_803 rfl (lv_at hl 0 rfl) ?_
  refine lv_iconst (v := 2) hx hb dL_law_804 (by decide) ?_
  refine lv_iadd (x := nI i) (y := 2) hx hb dL_law_805 ?_
  refine va_sld (i := nI i + 2) hx hb hX hbl hbA hS v2 dL_law_806 ?_
  refine lv_aload_n hx hb dL_law_807 rfl (lv_at hl 3 rfl) ?_
  refine lv_iload_n hx hb dL_law_808 rfl (lv_at hl 0 rfl) ?_
  refine lv_iconst (v := 3) hx hb dL_law_809 (by decide) ?_
  refine lv_iadd (x := nI i) (y := 3) hx hb dL_law_810 ?_
  refine va_sld (i := nI i + 3) hx hb hX hbl hbA hS v3 dL_law_811 ?_
  refine lv_aload_n hx hb dL_law_812 rfl (lv_at hl 3 rfl) ?_
  refine lv_iload_n hx hb dL_law_813 rfl (lv_at hl 0 rfl) ?_
  refine lv_iconst (v := 4) hx hb dL_law_814 (by decide) ?_
  refine lv_iadd (x := nI i) (y := 4) hx hb dL_law_815 ?_
  refine va_sld (i := nI i + 4) hx hb hX hbl hbA hS v4 dL_law_816 ?_
  refine lv_aload_n hx hb dL_law_817 rfl (lv_at hl 3 rfl) ?_
  refine lv_iload_n hx hb dL_law_818 rfl (lv_at hl 0 rfl) ?_
  refine lv_iconst (v := 5) hx hb dL_law_819 (by decide) ?_
  refine lv_iadd (x := nI i) (y := 5) hx hb dL_law_820 ?_
  refine va_sld (i := nI i + 5) hx hb hX hbl hbA hS v5 dL_law_821 ?_
  refine r_callVi (As := [.int (xs (nI i + 1).toNatClampNeg), .int (xs (nI i + 2).toNatClampNeg), .int (xs (nI i + 3).toNatClampNeg), .int (xs (nI i + 4).toNatClampNeg), .int (xs (nI i + 5).toNatClampNeg)]) (rest := []) (ws' := (LW g s.heap.size M' N)) (ok_X5_fits l g (aH s.heap.size) aH_ij (xs (nI i + 1).toNatClampNeg) (xs (nI i + 2).toNatClampNeg) (xs (nI i + 3).toNatClampNeg) (xs (nI i + 4).toNatClampNeg) (xs (nI i + 5).toNatClampNeg) M M' r e1) ⟨hx, hb, hml, hown, hts⟩ (cwV 5 hts gL_law_X5_fits rfl rfl rfl (by decide +kernel) ⟨Nat.le_of_ble_eq_true rfl, Nat.le_of_ble_eq_true rfl⟩) hK (r_recv hK (LW_l hP) 0 (by decide) eX_0 (show vwCl[5]? = some (RX5, TX5, 11) from rfl)) hS (LW_l hP) (LX_A hS.1) (LX_join hP) rfl hl.1 rfl (Nat.le_of_ble_eq_true rfl) dL_law_822 ⟨Nat.le_of_ble_eq_true rfl, Nat.le_of_ble_eq_true rfl⟩ (fun H locs hP hS => ?_)
  refine lv_aload_n hx hb dL_law_825 rfl (lv_at hl 1 rfl) ?_
  refine lv_aload_n hx hb dL_law_826 rfl (lv_at hl 3 rfl) ?_
  refine lv_iload_n hx hb dL_law_827 rfl (lv_at hl 0 rfl) ?_
  refine lv_iconst (v := 1) hx hb dL_law_828 (by decide) ?_
  refine lv_iadd (x := nI i) (y := 1) hx hb dL_law_829 ?_
  refine va_sld (i := nI i + 1) hx hb hX hbl hbA hS v1 dL_law_830 ?_
  refine lv_aload_n hx hb dL_law_831 rfl (lv_at hl 3 rfl) ?_
  refine lv_iload_n hx hb dL_law_832 rfl (lv_at hl 0 rfl) ?_
  refine lv_iconst (v := 2) hx hb dL_law_833 (by decide) ?_
  refine lv_iadd (x := nI i) (y := 2) hx hb dL_law_834 ?_
  refine va_sld (i := nI i + 2) hx hb hX hbl hbA hS v2 dL_law_835 ?_
  refine lv_aload_n hx hb dL_law_836 rfl (lv_at hl 3 rfl) ?_
  refine lv_iload_n hx hb dL_law_837 rfl (lv_at hl 0 rfl) ?_
  refine lv_iconst (v := 3) hx hb dL_law_838 (by decide) ?_
  refine lv_iadd (x := nI i) (y := 3) hx hb dL_law_839 ?_
  refine va_sld (i := nI i + 3) hx hb hX hbl hbA hS v3 dL_law_840 ?_
  refine lv_aload_n hx hb dL_law_841 rfl (lv_at hl 3 rfl) ?_
  refine lv_iload_n hx hb dL_law_842 rfl (lv_at hl 0 rfl) ?_
  refine lv_iconst (v := 4) hx hb dL_law_843 (by decide) ?_
  refine lv_iadd (x := nI i) (y := 4) hx hb dL_law_844 ?_
  refine va_sld (i := nI i + 4) hx hb hX hbl hbA hS v4 dL_law_845 ?_
  refine lv_aload_n hx hb dL_law_846 rfl (lv_at hl 3 rfl) ?_
  refine lv_iload_n hx hb dL_law_847 rfl (lv_at hl 0 rfl) ?_
  refine lv_iconst (v := 5) hx hb dL_law_848 (by decide) ?_
  refine lv_iadd (x := nI i) (y := 5) hx hb dL_law_849 ?_
  refine va_sld (i := nI i + 5) hx hb hX hbl hbA hS v5 dL_law_850 ?_
  refine r_callVi (As := [.int (xs (nI i + 1).toNatClampNeg), .int (xs (nI i + 2).toNatClampNeg), .int (xs (nI i + 3).toNatClampNeg), .int (xs (nI i + 4).toNatClampNeg), .int (xs (nI i + 5).toNatClampNeg)]) (rest := [.int r]) (ws' := (LW g s.heap.size M' N')) (ok_X6_fits l g (aH (s.heap.size + 203)) aH_ij (xs (nI i + 1).toNatClampNeg) (xs (nI i + 2).toNatClampNeg) (xs (nI i + 3).toNatClampNeg) (xs (nI i + 4).toNatClampNeg) (xs (nI i + 5).toNatClampNeg) N N' r e2) ⟨hx, hb, hml, hown, hts⟩ (cwV 5 hts gL_law_X6_fits rfl rfl rfl (by decide +kernel) ⟨Nat.le_of_ble_eq_true rfl, Nat.le_of_ble_eq_true rfl⟩) hK (r_recv hK (LW_r hP) 0 (by decide) eN_0 (show vwCl[6]? = some (RX6, TX6, 20) from rfl)) hS (LW_r hP) (LN_A hS.1) (LN_join hP) rfl hl.1 rfl (Nat.le_of_ble_eq_true rfl) dL_law_851 ⟨Nat.le_of_ble_eq_true rfl, Nat.le_of_ble_eq_true rfl⟩ (fun H locs hP hS => ?_)
  refine lv_icmp_eq (x := r) (y := r) (tgt := 1149) hx hb dL_law_854 (by decide) (fun _ => ?_) (fun q => absurd rfl q)
  exact KX M' N' H locs ls hRR' hP hS hl
set_option maxHeartbeats 4000000 in
set_option maxRecDepth 100000 in
theorem law_23 {p : Program} {l : Launch} {e : Env} {s : State} {m : MethodId} {below : List Frame} {meth : Method} {c : Code} {b L : Nat} {xs : Nat → Int32} {g : gT} (hL : L ≤ 3072) (C0 : lw_At p s m meth c b L xs) (hK : KK g s) (hZ : zT (fun q => s.heap.size ≤ q) s s.heap) (i : Nat) (hi : i + 6 ≤ L) (KX : ∀ (M N : Mem) (H : Heap) (locs : List Loc) (ls : Array Slot), RR M N → va_P g.1 vwCl (LW g s.heap.size M N) H → va_S (fun q => s.heap.size ≤ q) s.heap H locs → lv_has ls 4 [(3, .int (nI i)), (2, .ref (aH (s.heap.size + 203) 0)), (1, .ref (aH s.heap.size 0)), (0, .ref b)] → W p l e room_1 s m #[Value.ref b] below meth c H locs 217 2828 (lw_Z below #[Value.ref b] s) (F0 m 1149 ls [])) (M N : Mem) (H : Heap) (locs : List Loc) (ls : Array Slot) (hRR : RR M N) (hP : va_P g.1 vwCl (LW g s.heap.size M N) H) (hS : va_S (fun q => s.heap.size ≤ q) s.heap H locs) (hl : lv_has ls 4 [(3, .int (nI i)), (2, .ref (aH (s.heap.size + 203) 0)), (1, .ref (aH s.heap.size 0)), (0, .ref b)]) : W p l e room_1 s m #[Value.ref b] below meth c H locs 217 2828 (lw_Z below #[Value.ref b] s) (F0 m 859 ls []) := by
  obtain ⟨hx, hb, hr, hml, hown, hts0, hX, hbl, hlk, hgv⟩ := C0
  have hown : s.vm.findClass RL = some m.cls := hown
  have hts : ∀ w ∈ wsL_law, w.before #[Value.ref b] s = true := fun w h => hts0 w (wsL_law_in w h)
  have hbA : ¬ (fun q : Nat => s.heap.size ≤ q) b := Nat.not_le.mpr hbl
  have v1 : vp_in (nI i + 1) L := by rw [show nI i + 1 = nI (i + 1) from nI_add i 1]; exact vp_in_nI (by omega) (by omega)
  have v2 : vp_in (nI i + 2) L := by rw [show nI i + 2 = nI (i + 2) from nI_add i 2]; exact vp_in_nI (by omega) (by omega)
  have v3 : vp_in (nI i + 3) L := by rw [show nI i + 3 = nI (i + 3) from nI_add i 3]; exact vp_in_nI (by omega) (by omega)
  have v4 : vp_in (nI i + 4) L := by rw [show nI i + 4 = nI (i + 4) from nI_add i 4]; exact vp_in_nI (by omega) (by omega)
  obtain ⟨r, M', N', e1, e2, hRR'⟩ := q_absent (xs (nI i + 1).toNatClampNeg) (xs (nI i + 2).toNatClampNeg) (xs (nI i + 3).toNatClampNeg) (xs (nI i + 4).toNatClampNeg) M N hRR
  refine lv_aload_n hx hb dL_law_859 rfl (lv_at hl 2 rfl) ?_
  refine lv_aload_n hx hb dL_law_860 rfl (lv_at hl 3 rfl) ?_
  refine lv_iload_n hx hb dL_law_861 rfl (lv_at hl 0 rfl) ?_
  refine lv_iconst (v := 1) hx hb dL_law_862 (by decide) ?_
  refine lv_iadd (x := nI i) (y := 1) hx hb dL_law_863 ?_
  refine va_sld (i := nI i + 1) hx hb hX hbl hbA hS v1 dL_law_864 ?_
  refine lv_aload_n hx hb dL_law_865 rfl (lv_at hl 3 rfl) ?_
  refine lv_iload_n hx hb dL_law_866 rfl (lv_at hl 0 rfl) ?_
  refine lv_iconst (v := 2) hx hb dL_law_867 (by decide) ?_
  refine lv_iadd (x := nI i) (y := 2) hx hb dL_law_868 ?_
  refine va_sld (i := nI i + 2) hx hb hX hbl hbA hS v2 dL_law_869 ?_
  refine lv_aload_n hx hb dL_law_870 rfl (lv_at hl 3 rfl) ?_
  refine lv_iload_n hx hb dL_law_871 rfl (lv_at hl 0 rfl) ?_
  refine lv_iconst (v := 3) hx hb dL_law_872 (by decide) ?_
  refine lv_iadd (x := nI i) (y := 3) hx hb dL_law_873 ?_
  refine va_sld (i := nI i + 3) hx hb hX hbl hbA hS v3 dL_law_874 ?_
  refine lv_aload_n hx hb dL_law_875 rfl (lv_at hl 3 rfl) ?_
  refine lv_iload_n hx hb dL_law_876 rfl (lv_at hl 0 rfl) ?_
  refine lv_iconst (v := 4) hx hb dL_law_877 (by decide) ?_
  refine lv_iadd (x := nI i) (y := 4) hx hb dL_law_878 ?_
  refine va_sld (i := nI i + 4) hx hb hX hbl hbA hS v4 dL_law_879 ?_
  refine r_callVi (As := [.int (xs (nI i + 1).toNatClampNeg), .int (xs (nI i + 2).toNatClampNeg), .int (xs (nI i + 3).toNatClampNeg), .int (xs (nI i + 4).toNatClampNeg)]) (rest := []) (ws' := (LW g s.heap.size M' N)) (ok_X5_absent l g (aH s.heap.size) aH_ij (xs (nI i + 1).toNatClampNeg) (xs (nI i + 2).toNatClampNeg) (xs (nI i + 3).toNatClampNeg) (xs (nI i + 4).toNatClampNeg) M M' r e1) ⟨hx, hb, hml, hown, hts⟩ (cwV 4 hts gL_law_X5_absent rfl rfl rfl (by decide +kernel) ⟨Nat.le_of_ble_eq_true rfl, Nat.le_of_ble_eq_true rfl⟩) hK (r_recv hK (LW_l hP) 0 (by decide) eX_0 (show vwCl[5]? = some (RX5, TX5, 11) from rfl)) hS (LW_l hP) (LX_A hS.1) (LX_join hP) rfl hl.1 rfl (Nat.le_of_ble_eq_true rfl) dL_law_880 ⟨Nat.le_of_ble_eq_true rfl, Nat.le_of_ble_eq_true rfl⟩ (fun H locs hP hS => ?_)
  refine lv_aload_n hx hb dL_law_883 rfl (lv_at hl 1 rfl) ?_
  refine lv_aload_n hx hb dL_law_884 rfl (lv_at hl 3 rfl) ?_
  refine lv_iload_n hx hb dL_law_885 rfl (lv_at hl 0 rfl) ?_
  refine lv_iconst (v := 1) hx hb dL_law_886 (by decide) ?_
  refine lv_iadd (x := nI i) (y := 1) hx hb dL_law_887 ?_
  refine va_sld (i := nI i + 1) hx hb hX hbl hbA hS v1 dL_law_888 ?_
  refine lv_aload_n hx hb dL_law_889 rfl (lv_at hl 3 rfl) ?_
  refine lv_iload_n hx hb dL_law_890 rfl (lv_at hl 0 rfl) ?_
  refine lv_iconst (v := 2) hx hb dL_law_891 (by decide) ?_
  refine lv_iadd (x := nI i) (y := 2) hx hb dL_law_892 ?_
  refine va_sld (i := nI i + 2) hx hb hX hbl hbA hS v2 dL_law_893 ?_
  refine lv_aload_n hx hb dL_law_894 rfl (lv_at hl 3 rfl) ?_
  refine lv_iload_n hx hb dL_law_895 rfl (lv_at hl 0 rfl) ?_
  refine lv_iconst (v := 3) hx hb dL_law_896 (by decide) ?_
  refine lv_iadd (x := nI i) (y := 3) hx hb dL_law_897 ?_
  refine va_sld (i := nI i + 3) hx hb hX hbl hbA hS v3 dL_law_898 ?_
  refine lv_aload_n hx hb dL_law_899 rfl (lv_at hl 3 rfl) ?_
  refine lv_iload_n hx hb dL_law_900 rfl (lv_at hl 0 rfl) ?_
  refine lv_iconst (v := 4) hx hb dL_law_901 (by decide) ?_
  refine lv_iadd (x := nI i) (y := 4) hx hb dL_law_902 ?_
  refine va_sld (i := nI i + 4) hx hb hX hbl hbA hS v4 dL_law_903 ?_
  refine r_callVi (As := [.int (xs (nI i + 1).toNatClampNeg), .int (xs (nI i + 2).toNatClampNeg), .int (xs (nI i + 3).toNatClampNeg), .int (xs (nI i + 4).toNatClampNeg)]) (rest := [.int r]) (ws' := (LW g s.heap.size M' N')) (ok_X6_absent l g (aH (s.heap.size + 203)) aH_ij (xs (nI i + 1).toNatClampNeg) (xs (nI i + 2).toNatClampNeg) (xs (nI i + 3).toNatClampNeg) (xs (nI i + 4).toNatClampNeg) N N' r e2) ⟨hx, hb, hml, hown, hts⟩ (cwV 4 hts gL_law_X6_absent rfl rfl rfl (by decide +kernel) ⟨Nat.le_of_ble_eq_true rfl, Nat.le_of_ble_eq_true rfl⟩) hK (r_recv hK (LW_r hP) 0 (by decide) eN_0 (show vwCl[6]? = some (RX6, TX6, 20) from rfl)) hS (LW_r hP) (LN_A hS.1) (LN_join hP) rfl hl.1 rfl (Nat.le_of_ble_eq_true rfl) dL_law_904 ⟨Nat.le_of_ble_eq_true rfl, Nat.le_of_ble_eq_true rfl⟩ (fun H locs hP hS => ?_)
  refine lv_icmp_eq (x := r) (y := r) (tgt := 1149) hx hb dL_law_907 (by decide) (fun _ => ?_) (fun q => absurd rfl q)
  exact KX M' N' H locs ls hRR' hP hS hl
set_option maxHeartbeats 4000000 in
set_option maxRecDepth 100000 in
theorem law_24 {p : Program} {l : Launch} {e : Env} {s : State} {m : MethodId} {below : List Frame} {meth : Method} {c : Code} {b L : Nat} {xs : Nat → Int32} {g : gT} (hL : L ≤ 3072) (C0 : lw_At p s m meth c b L xs) (hK : KK g s) (hZ : zT (fun q => s.heap.size ≤ q) s s.heap) (i : Nat) (hi : i + 6 ≤ L) (KX : ∀ (M N : Mem) (H : Heap) (locs : List Loc) (ls : Array Slot), RR M N → va_P g.1 vwCl (LW g s.heap.size M N) H → va_S (fun q => s.heap.size ≤ q) s.heap H locs → lv_has ls 4 [(3, .int (nI i)), (2, .ref (aH (s.heap.size + 203) 0)), (1, .ref (aH s.heap.size 0)), (0, .ref b)] → W p l e room_1 s m #[Value.ref b] below meth c H locs 217 2828 (lw_Z below #[Value.ref b] s) (F0 m 1149 ls [])) (M N : Mem) (H : Heap) (locs : List Loc) (ls : Array Slot) (hRR : RR M N) (hP : va_P g.1 vwCl (LW g s.heap.size M N) H) (hS : va_S (fun q => s.heap.size ≤ q) s.heap H locs) (hl : lv_has ls 4 [(3, .int (nI i)), (2, .ref (aH (s.heap.size + 203) 0)), (1, .ref (aH s.heap.size 0)), (0, .ref b)]) : W p l e room_1 s m #[Value.ref b] below meth c H locs 217 2828 (lw_Z below #[Value.ref b] s) (F0 m 912 ls []) := by
  obtain ⟨hx, hb, hr, hml, hown, hts0, hX, hbl, hlk, hgv⟩ := C0
  have hown : s.vm.findClass RL = some m.cls := hown
  have hts : ∀ w ∈ wsL_law, w.before #[Value.ref b] s = true := fun w h => hts0 w (wsL_law_in w h)
  have hbA : ¬ (fun q : Nat => s.heap.size ≤ q) b := Nat.not_le.mpr hbl
  have v1 : vp_in (nI i + 1) L := by rw [show nI i + 1 = nI (i + 1) from nI_add i 1]; exact vp_in_nI (by omega) (by omega)
  have v2 : vp_in (nI i + 2) L := by rw [show nI i + 2 = nI (i + 2) from nI_add i 2]; exact vp_in_nI (by omega) (by omega)
  have v3 : vp_in (nI i + 3) L := by rw [show nI i + 3 = nI (i + 3) from nI_add i 3]; exact vp_in_nI (by omega) (by omega)
  obtain ⟨r, M', N', e1, e2, hRR'⟩ := q_drawn (xs (nI i + 1).toNatClampNeg) (xs (nI i + 2).toNatClampNeg) (xs (nI i + 3).toNatClampNeg) M N hRR
  refine lv_aload_n hx hb dL_law_912 rfl (lv_at hl 2 rfl) ?_
  refine lv_aload_n hx hb dL_law_913 rfl (lv_at hl 3 rfl) ?_
  refine lv_iload_n hx hb dL_law_914 rfl (lv_at hl 0 rfl) ?_
  refine lv_iconst (v := 1) hx hb dL_law_915 (by decide) ?_
  refine lv_iadd (x := nI i) (y := 1) hx hb dL_law_916 ?_
  refine va_sld (i := nI i + 1) hx hb hX hbl hbA hS v1 dL_law_917 ?_
  refine lv_aload_n hx hb dL_law_918 rfl (lv_at hl 3 rfl) ?_
  refine lv_iload_n hx hb dL_law_919 rfl (lv_at hl 0 rfl) ?_
  refine lv_iconst (v := 2) hx hb dL_law_920 (by decide) ?_
  refine lv_iadd (x := nI i) (y := 2) hx hb dL_law_921 ?_
  refine va_sld (i := nI i + 2) hx hb hX hbl hbA hS v2 dL_law_922 ?_
  refine lv_aload_n hx hb dL_law_923 rfl (lv_at hl 3 rfl) ?_
  refine lv_iload_n hx hb dL_law_924 rfl (lv_at hl 0 rfl) ?_
  refine lv_iconst (v := 3) hx hb dL_law_925 (by decide) ?_
  refine lv_iadd (x := nI i) (y := 3) hx hb dL_law_926 ?_
  refine va_sld (i := nI i + 3) hx hb hX hbl hbA hS v3 dL_law_927 ?_
  refine r_callVi (As := [.int (xs (nI i + 1).toNatClampNeg), .int (xs (nI i + 2).toNatClampNeg), .int (xs (nI i + 3).toNatClampNeg)]) (rest := []) (ws' := (LW g s.heap.size M' N)) (ok_X5_drawn l g (aH s.heap.size) aH_ij (xs (nI i + 1).toNatClampNeg) (xs (nI i + 2).toNatClampNeg) (xs (nI i + 3).toNatClampNeg) M M' r e1) ⟨hx, hb, hml, hown, hts⟩ (cwV 3 hts gL_law_X5_drawn rfl rfl rfl (by decide +kernel) ⟨Nat.le_of_ble_eq_true rfl, Nat.le_of_ble_eq_true rfl⟩) hK (r_recv hK (LW_l hP) 0 (by decide) eX_0 (show vwCl[5]? = some (RX5, TX5, 11) from rfl)) hS (LW_l hP) (LX_A hS.1) (LX_join hP) rfl hl.1 rfl (Nat.le_of_ble_eq_true rfl) dL_law_928 ⟨Nat.le_of_ble_eq_true rfl, Nat.le_of_ble_eq_true rfl⟩ (fun H locs hP hS => ?_)
  refine lv_aload_n hx hb dL_law_931 rfl (lv_at hl 1 rfl) ?_
  refine lv_aload_n hx hb dL_law_932 rfl (lv_at hl 3 rfl) ?_
  refine lv_iload_n hx hb dL_law_933 rfl (lv_at hl 0 rfl) ?_
  refine lv_iconst (v := 1) hx hb dL_law_934 (by decide) ?_
  refine lv_iadd (x := nI i) (y := 1) hx hb dL_law_935 ?_
  refine va_sld (i := nI i + 1) hx hb hX hbl hbA hS v1 dL_law_936 ?_
  refine lv_aload_n hx hb dL_law_937 rfl (lv_at hl 3 rfl) ?_
  refine lv_iload_n hx hb dL_law_938 rfl (lv_at hl 0 rfl) ?_
  refine lv_iconst (v := 2) hx hb dL_law_939 (by decide) ?_
  refine lv_iadd (x := nI i) (y := 2) hx hb dL_law_940 ?_
  refine va_sld (i := nI i + 2) hx hb hX hbl hbA hS v2 dL_law_941 ?_
  refine lv_aload_n hx hb dL_law_942 rfl (lv_at hl 3 rfl) ?_
  refine lv_iload_n hx hb dL_law_943 rfl (lv_at hl 0 rfl) ?_
  refine lv_iconst (v := 3) hx hb dL_law_944 (by decide) ?_
  refine lv_iadd (x := nI i) (y := 3) hx hb dL_law_945 ?_
  refine va_sld (i := nI i + 3) hx hb hX hbl hbA hS v3 dL_law_946 ?_
  refine r_callVi (As := [.int (xs (nI i + 1).toNatClampNeg), .int (xs (nI i + 2).toNatClampNeg), .int (xs (nI i + 3).toNatClampNeg)]) (rest := [.int r]) (ws' := (LW g s.heap.size M' N')) (ok_X6_drawn l g (aH (s.heap.size + 203)) aH_ij (xs (nI i + 1).toNatClampNeg) (xs (nI i + 2).toNatClampNeg) (xs (nI i + 3).toNatClampNeg) N N' r e2) ⟨hx, hb, hml, hown, hts⟩ (cwV 3 hts gL_law_X6_drawn rfl rfl rfl (by decide +kernel) ⟨Nat.le_of_ble_eq_true rfl, Nat.le_of_ble_eq_true rfl⟩) hK (r_recv hK (LW_r hP) 0 (by decide) eN_0 (show vwCl[6]? = some (RX6, TX6, 20) from rfl)) hS (LW_r hP) (LN_A hS.1) (LN_join hP) rfl hl.1 rfl (Nat.le_of_ble_eq_true rfl) dL_law_947 ⟨Nat.le_of_ble_eq_true rfl, Nat.le_of_ble_eq_true rfl⟩ (fun H locs hP hS => ?_)
  refine lv_icmp_eq (x := r) (y := r) (tgt := 1149) hx hb dL_law_950 (by decide) (fun _ => ?_) (fun q => absurd rfl q)
  exact KX M' N' H locs ls hRR' hP hS hl
set_option maxHeartbeats 4000000 in
set_option maxRecDepth 100000 in
theorem law_25 {p : Program} {l : Launch} {e : Env} {s : State} {m : MethodId} {below : List Frame} {meth : Method} {c : Code} {b L : Nat} {xs : Nat → Int32} {g : gT} (hL : L ≤ 3072) (C0 : lw_At p s m meth c b L xs) (hK : KK g s) (hZ : zT (fun q => s.heap.size ≤ q) s s.heap) (i : Nat) (hi : i + 6 ≤ L) (KX : ∀ (M N : Mem) (H : Heap) (locs : List Loc) (ls : Array Slot), RR M N → va_P g.1 vwCl (LW g s.heap.size M N) H → va_S (fun q => s.heap.size ≤ q) s.heap H locs → lv_has ls 4 [(3, .int (nI i)), (2, .ref (aH (s.heap.size + 203) 0)), (1, .ref (aH s.heap.size 0)), (0, .ref b)] → W p l e room_1 s m #[Value.ref b] below meth c H locs 217 2828 (lw_Z below #[Value.ref b] s) (F0 m 1149 ls [])) (M N : Mem) (H : Heap) (locs : List Loc) (ls : Array Slot) (hRR : RR M N) (hP : va_P g.1 vwCl (LW g s.heap.size M N) H) (hS : va_S (fun q => s.heap.size ≤ q) s.heap H locs) (hl : lv_has ls 4 [(3, .int (nI i)), (2, .ref (aH (s.heap.size + 203) 0)), (1, .ref (aH s.heap.size 0)), (0, .ref b)]) : W p l e room_1 s m #[Value.ref b] below meth c H locs 217 2828 (lw_Z below #[Value.ref b] s) (F0 m 955 ls []) := by
  obtain ⟨hx, hb, hr, hml, hown, hts0, hX, hbl, hlk, hgv⟩ := C0
  have hown : s.vm.findClass RL = some m.cls := hown
  have hts : ∀ w ∈ wsL_law, w.before #[Value.ref b] s = true := fun w h => hts0 w (wsL_law_in w h)
  have hbA : ¬ (fun q : Nat => s.heap.size ≤ q) b := Nat.not_le.mpr hbl
  have v1 : vp_in (nI i + 1) L := by rw [show nI i + 1 = nI (i + 1) from nI_add i 1]; exact vp_in_nI (by omega) (by omega)
  obtain ⟨r, M', N', e1, e2, hRR'⟩ := q_image (xs (nI i + 1).toNatClampNeg) M N hRR
  refine lv_aload_n hx hb dL_law_955 rfl (lv_at hl 2 rfl) ?_
  refine lv_aload_n hx hb dL_law_956 rfl (lv_at hl 3 rfl) ?_
  refine lv_iload_n hx hb dL_law_957 rfl (lv_at hl 0 rfl) ?_
  refine lv_iconst (v := 1) hx hb dL_law_958 (by decide) ?_
  refine lv_iadd (x := nI i) (y := 1) hx hb dL_law_959 ?_
  refine va_sld (i := nI i + 1) hx hb hX hbl hbA hS v1 dL_law_960 ?_
  refine r_callVi (As := [.int (xs (nI i + 1).toNatClampNeg)]) (rest := []) (ws' := (LW g s.heap.size M' N)) (ok_X5_image l g (aH s.heap.size) aH_ij (xs (nI i + 1).toNatClampNeg) M M' r e1) ⟨hx, hb, hml, hown, hts⟩ (cwV 1 hts gL_law_X5_image rfl rfl rfl (by decide +kernel) ⟨Nat.le_of_ble_eq_true rfl, Nat.le_of_ble_eq_true rfl⟩) hK (r_recv hK (LW_l hP) 0 (by decide) eX_0 (show vwCl[5]? = some (RX5, TX5, 11) from rfl)) hS (LW_l hP) (LX_A hS.1) (LX_join hP) rfl hl.1 rfl (Nat.le_of_ble_eq_true rfl) dL_law_961 ⟨Nat.le_of_ble_eq_true rfl, Nat.le_of_ble_eq_true rfl⟩ (fun H locs hP hS => ?_)
  refine lv_aload_n hx hb dL_law_964 rfl (lv_at hl 1 rfl) ?_
  refine lv_aload_n hx hb dL_law_965 rfl (lv_at hl 3 rfl) ?_
  refine lv_iload_n hx hb dL_law_966 rfl (lv_at hl 0 rfl) ?_
  refine lv_iconst (v := 1) hx hb dL_law_967 (by decide) ?_
  refine lv_iadd (x := nI i) (y := 1) hx hb dL_law_968 ?_
  refine va_sld (i := nI i + 1) hx hb hX hbl hbA hS v1 dL_law_969 ?_
  refine r_callVi (As := [.int (xs (nI i + 1).toNatClampNeg)]) (rest := [.int r]) (ws' := (LW g s.heap.size M' N')) (ok_X6_image l g (aH (s.heap.size + 203)) aH_ij (xs (nI i + 1).toNatClampNeg) N N' r e2) ⟨hx, hb, hml, hown, hts⟩ (cwV 1 hts gL_law_X6_image rfl rfl rfl (by decide +kernel) ⟨Nat.le_of_ble_eq_true rfl, Nat.le_of_ble_eq_true rfl⟩) hK (r_recv hK (LW_r hP) 0 (by decide) eN_0 (show vwCl[6]? = some (RX6, TX6, 20) from rfl)) hS (LW_r hP) (LN_A hS.1) (LN_join hP) rfl hl.1 rfl (Nat.le_of_ble_eq_true rfl) dL_law_970 ⟨Nat.le_of_ble_eq_true rfl, Nat.le_of_ble_eq_true rfl⟩ (fun H locs hP hS => ?_)
  refine lv_icmp_eq (x := r) (y := r) (tgt := 1149) hx hb dL_law_973 (by decide) (fun _ => ?_) (fun q => absurd rfl q)
  exact KX M' N' H locs ls hRR' hP hS hl
set_option maxHeartbeats 4000000 in
set_option maxRecDepth 100000 in
theorem law_26 {p : Program} {l : Launch} {e : Env} {s : State} {m : MethodId} {below : List Frame} {meth : Method} {c : Code} {b L : Nat} {xs : Nat → Int32} {g : gT} (hL : L ≤ 3072) (C0 : lw_At p s m meth c b L xs) (hK : KK g s) (hZ : zT (fun q => s.heap.size ≤ q) s s.heap) (i : Nat) (hi : i + 6 ≤ L) (KX : ∀ (M N : Mem) (H : Heap) (locs : List Loc) (ls : Array Slot), RR M N → va_P g.1 vwCl (LW g s.heap.size M N) H → va_S (fun q => s.heap.size ≤ q) s.heap H locs → lv_has ls 4 [(3, .int (nI i)), (2, .ref (aH (s.heap.size + 203) 0)), (1, .ref (aH s.heap.size 0)), (0, .ref b)] → W p l e room_1 s m #[Value.ref b] below meth c H locs 217 2828 (lw_Z below #[Value.ref b] s) (F0 m 1149 ls [])) (M N : Mem) (H : Heap) (locs : List Loc) (ls : Array Slot) (hRR : RR M N) (hP : va_P g.1 vwCl (LW g s.heap.size M N) H) (hS : va_S (fun q => s.heap.size ≤ q) s.heap H locs) (hl : lv_has ls 4 [(3, .int (nI i)), (2, .ref (aH (s.heap.size + 203) 0)), (1, .ref (aH s.heap.size 0)), (0, .ref b)]) : W p l e room_1 s m #[Value.ref b] below meth c H locs 217 2828 (lw_Z below #[Value.ref b] s) (F0 m 978 ls []) := by
  obtain ⟨hx, hb, hr, hml, hown, hts0, hX, hbl, hlk, hgv⟩ := C0
  have hown : s.vm.findClass RL = some m.cls := hown
  have hts : ∀ w ∈ wsL_law, w.before #[Value.ref b] s = true := fun w h => hts0 w (wsL_law_in w h)
  have hbA : ¬ (fun q : Nat => s.heap.size ≤ q) b := Nat.not_le.mpr hbl
  have v1 : vp_in (nI i + 1) L := by rw [show nI i + 1 = nI (i + 1) from nI_add i 1]; exact vp_in_nI (by omega) (by omega)
  obtain ⟨r, M', N', e1, e2, hRR'⟩ := q_restore (xs (nI i + 1).toNatClampNeg) M N hRR
  refine lv_aload_n hx hb dL_law_978 rfl (lv_at hl 2 rfl) ?_
  refine lv_aload_n hx hb dL_law_979 rfl (lv_at hl 3 rfl) ?_
  refine lv_iload_n hx hb dL_law_980 rfl (lv_at hl 0 rfl) ?_
  refine lv_iconst (v := 1) hx hb dL_law_981 (by decide) ?_
  refine lv_iadd (x := nI i) (y := 1) hx hb dL_law_982 ?_
  refine va_sld (i := nI i + 1) hx hb hX hbl hbA hS v1 dL_law_983 ?_
  refine r_callVi (As := [.int (xs (nI i + 1).toNatClampNeg)]) (rest := []) (ws' := (LW g s.heap.size M' N)) (ok_X5_restore l g (aH s.heap.size) aH_ij (xs (nI i + 1).toNatClampNeg) M M' r e1) ⟨hx, hb, hml, hown, hts⟩ (cwV 1 hts gL_law_X5_restore rfl rfl rfl (by decide +kernel) ⟨Nat.le_of_ble_eq_true rfl, Nat.le_of_ble_eq_true rfl⟩) hK (r_recv hK (LW_l hP) 0 (by decide) eX_0 (show vwCl[5]? = some (RX5, TX5, 11) from rfl)) hS (LW_l hP) (LX_A hS.1) (LX_join hP) rfl hl.1 rfl (Nat.le_of_ble_eq_true rfl) dL_law_984 ⟨Nat.le_of_ble_eq_true rfl, Nat.le_of_ble_eq_true rfl⟩ (fun H locs hP hS => ?_)
  refine lv_aload_n hx hb dL_law_987 rfl (lv_at hl 1 rfl) ?_
  refine lv_aload_n hx hb dL_law_988 rfl (lv_at hl 3 rfl) ?_
  refine lv_iload_n hx hb dL_law_989 rfl (lv_at hl 0 rfl) ?_
  refine lv_iconst (v := 1) hx hb dL_law_990 (by decide) ?_
  refine lv_iadd (x := nI i) (y := 1) hx hb dL_law_991 ?_
  refine va_sld (i := nI i + 1) hx hb hX hbl hbA hS v1 dL_law_992 ?_
  refine r_callVi (As := [.int (xs (nI i + 1).toNatClampNeg)]) (rest := [.int r]) (ws' := (LW g s.heap.size M' N')) (ok_X6_restore l g (aH (s.heap.size + 203)) aH_ij (xs (nI i + 1).toNatClampNeg) N N' r e2) ⟨hx, hb, hml, hown, hts⟩ (cwV 1 hts gL_law_X6_restore rfl rfl rfl (by decide +kernel) ⟨Nat.le_of_ble_eq_true rfl, Nat.le_of_ble_eq_true rfl⟩) hK (r_recv hK (LW_r hP) 0 (by decide) eN_0 (show vwCl[6]? = some (RX6, TX6, 20) from rfl)) hS (LW_r hP) (LN_A hS.1) (LN_join hP) rfl hl.1 rfl (Nat.le_of_ble_eq_true rfl) dL_law_993 ⟨Nat.le_of_ble_eq_true rfl, Nat.le_of_ble_eq_true rfl⟩ (fun H locs hP hS => ?_)
  refine lv_icmp_eq (x := r) (y := r) (tgt := 1149) hx hb dL_law_996 (by decide) (fun _ => ?_) (fun q => absurd rfl q)
  exact KX M' N' H locs ls hRR' hP hS hl
set_option maxHeartbeats 4000000 in
set_option maxRecDepth 100000 in
theorem law_27 {p : Program} {l : Launch} {e : Env} {s : State} {m : MethodId} {below : List Frame} {meth : Method} {c : Code} {b L : Nat} {xs : Nat → Int32} {g : gT} (hL : L ≤ 3072) (C0 : lw_At p s m meth c b L xs) (hK : KK g s) (hZ : zT (fun q => s.heap.size ≤ q) s s.heap) (i : Nat) (hi : i + 6 ≤ L) (KX : ∀ (M N : Mem) (H : Heap) (locs : List Loc) (ls : Array Slot), RR M N → va_P g.1 vwCl (LW g s.heap.size M N) H → va_S (fun q => s.heap.size ≤ q) s.heap H locs → lv_has ls 4 [(3, .int (nI i)), (2, .ref (aH (s.heap.size + 203) 0)), (1, .ref (aH s.heap.size 0)), (0, .ref b)] → W p l e room_1 s m #[Value.ref b] below meth c H locs 217 2828 (lw_Z below #[Value.ref b] s) (F0 m 1149 ls [])) (M N : Mem) (H : Heap) (locs : List Loc) (ls : Array Slot) (hRR : RR M N) (hP : va_P g.1 vwCl (LW g s.heap.size M N) H) (hS : va_S (fun q => s.heap.size ≤ q) s.heap H locs) (hl : lv_has ls 4 [(3, .int (nI i)), (2, .ref (aH (s.heap.size + 203) 0)), (1, .ref (aH s.heap.size 0)), (0, .ref b)]) : W p l e room_1 s m #[Value.ref b] below meth c H locs 217 2828 (lw_Z below #[Value.ref b] s) (F0 m 1001 ls []) := by
  obtain ⟨hx, hb, hr, hml, hown, hts0, hX, hbl, hlk, hgv⟩ := C0
  have hown : s.vm.findClass RL = some m.cls := hown
  have hts : ∀ w ∈ wsL_law, w.before #[Value.ref b] s = true := fun w h => hts0 w (wsL_law_in w h)
  have hbA : ¬ (fun q : Nat => s.heap.size ≤ q) b := Nat.not_le.mpr hbl
  have v1 : vp_in (nI i + 1) L := by rw [show nI i + 1 = nI (i + 1) from nI_add i 1]; exact vp_in_nI (by omega) (by omega)
  obtain ⟨r, e1, e2⟩ := q_kind (xs (nI i + 1).toNatClampNeg) M N hRR
  refine lv_aload_n hx hb dL_law_1001 rfl (lv_at hl 2 rfl) ?_
  refine lv_aload_n hx hb dL_law_1002 rfl (lv_at hl 3 rfl) ?_
  refine lv_iload_n hx hb dL_law_1003 rfl (lv_at hl 0 rfl) ?_
  refine lv_iconst (v := 1) hx hb dL_law_1004 (by decide) ?_
  refine lv_iadd (x := nI i) (y := 1) hx hb dL_law_1005 ?_
  refine va_sld (i := nI i + 1) hx hb hX hbl hbA hS v1 dL_law_1006 ?_
  refine r_callVi (As := [.int (xs (nI i + 1).toNatClampNeg)]) (rest := []) (ws' := (LW g s.heap.size M N)) (ok_X5_kind l g (aH s.heap.size) aH_ij (xs (nI i + 1).toNatClampNeg) M r e1) ⟨hx, hb, hml, hown, hts⟩ (cwV 1 hts gL_law_X5_kind rfl rfl rfl (by decide +kernel) ⟨Nat.le_of_ble_eq_true rfl, Nat.le_of_ble_eq_true rfl⟩) hK (r_recv hK (LW_l hP) 0 (by decide) eX_0 (show vwCl[5]? = some (RX5, TX5, 11) from rfl)) hS (LW_l hP) (LX_A hS.1) (LX_join hP) rfl hl.1 rfl (Nat.le_of_ble_eq_true rfl) dL_law_1007 ⟨Nat.le_of_ble_eq_true rfl, Nat.le_of_ble_eq_true rfl⟩ (fun H locs hP hS => ?_)
  refine lv_aload_n hx hb dL_law_1010 rfl (lv_at hl 1 rfl) ?_
  refine lv_aload_n hx hb dL_law_1011 rfl (lv_at hl 3 rfl) ?_
  refine lv_iload_n hx hb dL_law_1012 rfl (lv_at hl 0 rfl) ?_
  refine lv_iconst (v := 1) hx hb dL_law_1013 (by decide) ?_
  refine lv_iadd (x := nI i) (y := 1) hx hb dL_law_1014 ?_
  refine va_sld (i := nI i + 1) hx hb hX hbl hbA hS v1 dL_law_1015 ?_
  refine r_callVi (As := [.int (xs (nI i + 1).toNatClampNeg)]) (rest := [.int r]) (ws' := (LW g s.heap.size M N)) (ok_X6_kind l g (aH (s.heap.size + 203)) aH_ij (xs (nI i + 1).toNatClampNeg) N r e2) ⟨hx, hb, hml, hown, hts⟩ (cwV 1 hts gL_law_X6_kind rfl rfl rfl (by decide +kernel) ⟨Nat.le_of_ble_eq_true rfl, Nat.le_of_ble_eq_true rfl⟩) hK (r_recv hK (LW_r hP) 0 (by decide) eN_0 (show vwCl[6]? = some (RX6, TX6, 20) from rfl)) hS (LW_r hP) (LN_A hS.1) (LN_join hP) rfl hl.1 rfl (Nat.le_of_ble_eq_true rfl) dL_law_1016 ⟨Nat.le_of_ble_eq_true rfl, Nat.le_of_ble_eq_true rfl⟩ (fun H locs hP hS => ?_)
  refine lv_icmp_eq (x := r) (y := r) (tgt := 1149) hx hb dL_law_1019 (by decide) (fun _ => ?_) (fun q => absurd rfl q)
  exact KX M N H locs ls hRR hP hS hl
set_option maxHeartbeats 4000000 in
set_option maxRecDepth 100000 in
theorem law_28 {p : Program} {l : Launch} {e : Env} {s : State} {m : MethodId} {below : List Frame} {meth : Method} {c : Code} {b L : Nat} {xs : Nat → Int32} {g : gT} (hL : L ≤ 3072) (C0 : lw_At p s m meth c b L xs) (hK : KK g s) (hZ : zT (fun q => s.heap.size ≤ q) s s.heap) (i : Nat) (hi : i + 6 ≤ L) (KX : ∀ (M N : Mem) (H : Heap) (locs : List Loc) (ls : Array Slot), RR M N → va_P g.1 vwCl (LW g s.heap.size M N) H → va_S (fun q => s.heap.size ≤ q) s.heap H locs → lv_has ls 4 [(3, .int (nI i)), (2, .ref (aH (s.heap.size + 203) 0)), (1, .ref (aH s.heap.size 0)), (0, .ref b)] → W p l e room_1 s m #[Value.ref b] below meth c H locs 217 2828 (lw_Z below #[Value.ref b] s) (F0 m 1149 ls [])) (M N : Mem) (H : Heap) (locs : List Loc) (ls : Array Slot) (hRR : RR M N) (hP : va_P g.1 vwCl (LW g s.heap.size M N) H) (hS : va_S (fun q => s.heap.size ≤ q) s.heap H locs) (hl : lv_has ls 4 [(3, .int (nI i)), (2, .ref (aH (s.heap.size + 203) 0)), (1, .ref (aH s.heap.size 0)), (0, .ref b)]) : W p l e room_1 s m #[Value.ref b] below meth c H locs 217 2828 (lw_Z below #[Value.ref b] s) (F0 m 1024 ls []) := by
  obtain ⟨hx, hb, hr, hml, hown, hts0, hX, hbl, hlk, hgv⟩ := C0
  have hown : s.vm.findClass RL = some m.cls := hown
  have hts : ∀ w ∈ wsL_law, w.before #[Value.ref b] s = true := fun w h => hts0 w (wsL_law_in w h)
  have hbA : ¬ (fun q : Nat => s.heap.size ≤ q) b := Nat.not_le.mpr hbl
  have v1 : vp_in (nI i + 1) L := by rw [show nI i + 1 = nI (i + 1) from nI_add i 1]; exact vp_in_nI (by omega) (by omega)
  have v2 : vp_in (nI i + 2) L := by rw [show nI i + 2 = nI (i + 2) from nI_add i 2]; exact vp_in_nI (by omega) (by omega)
  obtain ⟨r, M', N', e1, e2, hRR'⟩ := q_as (xs (nI i + 1).toNatClampNeg) (xs (nI i + 2).toNatClampNeg) M N hRR
  refine lv_aload_n hx hb dL_law_1024 rfl (lv_at hl 2 rfl) ?_
  refine lv_aload_n hx hb dL_law_1025 rfl (lv_at hl 3 rfl) ?_
  refine lv_iload_n hx hb dL_law_1026 rfl (lv_at hl 0 rfl) ?_
  refine lv_iconst (v := 1) hx hb dL_law_1027 (by decide) ?_
  refine lv_iadd (x := nI i) (y := 1) hx hb dL_law_1028 ?_
  refine va_sld (i := nI i + 1) hx hb hX hbl hbA hS v1 dL_law_1029 ?_
  refine lv_aload_n hx hb dL_law_1030 rfl (lv_at hl 3 rfl) ?_
  refine lv_iload_n hx hb dL_law_1031 rfl (lv_at hl 0 rfl) ?_
  refine lv_iconst (v := 2) hx hb dL_law_1032 (by decide) ?_
  refine lv_iadd (x := nI i) (y := 2) hx hb dL_law_1033 ?_
  refine va_sld (i := nI i + 2) hx hb hX hbl hbA hS v2 dL_law_1034 ?_
  refine r_callViz hZ (As := [.int (xs (nI i + 1).toNatClampNeg), .int (xs (nI i + 2).toNatClampNeg)]) (rest := []) (ws' := (LW g s.heap.size M' N)) (ok_X5_as l g (aH s.heap.size) aH_ij (xs (nI i + 1).toNatClampNeg) (xs (nI i + 2).toNatClampNeg) M M' r e1) ⟨hx, hb, hml, hown, hts⟩ (cwV 2 hts gL_law_X5_as rfl rfl rfl (by decide +kernel) ⟨Nat.le_of_ble_eq_true rfl, Nat.le_of_ble_eq_true rfl⟩) hK (r_recv hK (LW_l hP) 0 (by decide) eX_0 (show vwCl[5]? = some (RX5, TX5, 11) from rfl)) hS (LW_l hP) (LX_A hS.1) (LX_join hP) rfl hl.1 rfl (Nat.le_of_ble_eq_true rfl) dL_law_1035 ⟨Nat.le_of_ble_eq_true rfl, Nat.le_of_ble_eq_true rfl⟩ (fun H locs hP hS => ?_)
  refine lv_aload_n hx hb dL_law_1038 rfl (lv_at hl 1 rfl) ?_
  refine lv_aload_n hx hb dL_law_1039 rfl (lv_at hl 3 rfl) ?_
  refine lv_iload_n hx hb dL_law_1040 rfl (lv_at hl 0 rfl) ?_
  refine lv_iconst (v := 1) hx hb dL_law_1041 (by decide) ?_
  refine lv_iadd (x := nI i) (y := 1) hx hb dL_law_1042 ?_
  refine va_sld (i := nI i + 1) hx hb hX hbl hbA hS v1 dL_law_1043 ?_
  refine lv_aload_n hx hb dL_law_1044 rfl (lv_at hl 3 rfl) ?_
  refine lv_iload_n hx hb dL_law_1045 rfl (lv_at hl 0 rfl) ?_
  refine lv_iconst (v := 2) hx hb dL_law_1046 (by decide) ?_
  refine lv_iadd (x := nI i) (y := 2) hx hb dL_law_1047 ?_
  refine va_sld (i := nI i + 2) hx hb hX hbl hbA hS v2 dL_law_1048 ?_
  refine r_callVi (As := [.int (xs (nI i + 1).toNatClampNeg), .int (xs (nI i + 2).toNatClampNeg)]) (rest := [.int r]) (ws' := (LW g s.heap.size M' N')) (ok_X6_as l g (aH (s.heap.size + 203)) aH_ij (xs (nI i + 1).toNatClampNeg) (xs (nI i + 2).toNatClampNeg) N N' r e2) ⟨hx, hb, hml, hown, hts⟩ (cwV 2 hts gL_law_X6_as rfl rfl rfl (by decide +kernel) ⟨Nat.le_of_ble_eq_true rfl, Nat.le_of_ble_eq_true rfl⟩) hK (r_recv hK (LW_r hP) 0 (by decide) eN_0 (show vwCl[6]? = some (RX6, TX6, 20) from rfl)) hS (LW_r hP) (LN_A hS.1) (LN_join hP) rfl hl.1 rfl (Nat.le_of_ble_eq_true rfl) dL_law_1049 ⟨Nat.le_of_ble_eq_true rfl, Nat.le_of_ble_eq_true rfl⟩ (fun H locs hP hS => ?_)
  refine lv_icmp_eq (x := r) (y := r) (tgt := 1149) hx hb dL_law_1052 (by decide) (fun _ => ?_) (fun q => absurd rfl q)
  exact KX M' N' H locs ls hRR' hP hS hl
set_option maxHeartbeats 4000000 in
set_option maxRecDepth 100000 in
theorem law_29 {p : Program} {l : Launch} {e : Env} {s : State} {m : MethodId} {below : List Frame} {meth : Method} {c : Code} {b L : Nat} {xs : Nat → Int32} {g : gT} (hL : L ≤ 3072) (C0 : lw_At p s m meth c b L xs) (hK : KK g s) (hZ : zT (fun q => s.heap.size ≤ q) s s.heap) (i : Nat) (hi : i + 6 ≤ L) (KX : ∀ (M N : Mem) (H : Heap) (locs : List Loc) (ls : Array Slot), RR M N → va_P g.1 vwCl (LW g s.heap.size M N) H → va_S (fun q => s.heap.size ≤ q) s.heap H locs → lv_has ls 4 [(3, .int (nI i)), (2, .ref (aH (s.heap.size + 203) 0)), (1, .ref (aH s.heap.size 0)), (0, .ref b)] → W p l e room_1 s m #[Value.ref b] below meth c H locs 217 2828 (lw_Z below #[Value.ref b] s) (F0 m 1149 ls [])) (M N : Mem) (H : Heap) (locs : List Loc) (ls : Array Slot) (hRR : RR M N) (hP : va_P g.1 vwCl (LW g s.heap.size M N) H) (hS : va_S (fun q => s.heap.size ≤ q) s.heap H locs) (hl : lv_has ls 4 [(3, .int (nI i)), (2, .ref (aH (s.heap.size + 203) 0)), (1, .ref (aH s.heap.size 0)), (0, .ref b)]) : W p l e room_1 s m #[Value.ref b] below meth c H locs 217 2828 (lw_Z below #[Value.ref b] s) (F0 m 1057 ls []) := by
  obtain ⟨hx, hb, hr, hml, hown, hts0, hX, hbl, hlk, hgv⟩ := C0
  have hown : s.vm.findClass RL = some m.cls := hown
  have hts : ∀ w ∈ wsL_law, w.before #[Value.ref b] s = true := fun w h => hts0 w (wsL_law_in w h)
  have hbA : ¬ (fun q : Nat => s.heap.size ≤ q) b := Nat.not_le.mpr hbl
  have v1 : vp_in (nI i + 1) L := by rw [show nI i + 1 = nI (i + 1) from nI_add i 1]; exact vp_in_nI (by omega) (by omega)
  have v2 : vp_in (nI i + 2) L := by rw [show nI i + 2 = nI (i + 2) from nI_add i 2]; exact vp_in_nI (by omega) (by omega)
  obtain ⟨r, M', N', e1, e2, hRR'⟩ := q_ask (xs (nI i + 1).toNatClampNeg) (xs (nI i + 2).toNatClampNeg) M N hRR
  refine lv_aload_n hx hb dL_law_1057 rfl (lv_at hl 2 rfl) ?_
  refine lv_aload_n hx hb dL_law_1058 rfl (lv_at hl 3 rfl) ?_
  refine lv_iload_n hx hb dL_law_1059 rfl (lv_at hl 0 rfl) ?_
  refine lv_iconst (v := 1) hx hb dL_law_1060 (by decide) ?_
  refine lv_iadd (x := nI i) (y := 1) hx hb dL_law_1061 ?_
  refine va_sld (i := nI i + 1) hx hb hX hbl hbA hS v1 dL_law_1062 ?_
  refine lv_aload_n hx hb dL_law_1063 rfl (lv_at hl 3 rfl) ?_
  refine lv_iload_n hx hb dL_law_1064 rfl (lv_at hl 0 rfl) ?_
  refine lv_iconst (v := 2) hx hb dL_law_1065 (by decide) ?_
  refine lv_iadd (x := nI i) (y := 2) hx hb dL_law_1066 ?_
  refine va_sld (i := nI i + 2) hx hb hX hbl hbA hS v2 dL_law_1067 ?_
  refine r_callViz hZ (As := [.int (xs (nI i + 1).toNatClampNeg), .int (xs (nI i + 2).toNatClampNeg)]) (rest := []) (ws' := (LW g s.heap.size M' N)) (ok_X5_ask l g (aH s.heap.size) aH_ij (xs (nI i + 1).toNatClampNeg) (xs (nI i + 2).toNatClampNeg) M M' r e1) ⟨hx, hb, hml, hown, hts⟩ (cwV 2 hts gL_law_X5_ask rfl rfl rfl (by decide +kernel) ⟨Nat.le_of_ble_eq_true rfl, Nat.le_of_ble_eq_true rfl⟩) hK (r_recv hK (LW_l hP) 0 (by decide) eX_0 (show vwCl[5]? = some (RX5, TX5, 11) from rfl)) hS (LW_l hP) (LX_A hS.1) (LX_join hP) rfl hl.1 rfl (Nat.le_of_ble_eq_true rfl) dL_law_1068 ⟨Nat.le_of_ble_eq_true rfl, Nat.le_of_ble_eq_true rfl⟩ (fun H locs hP hS => ?_)
  refine lv_aload_n hx hb dL_law_1071 rfl (lv_at hl 1 rfl) ?_
  refine lv_aload_n hx hb dL_law_1072 rfl (lv_at hl 3 rfl) ?_
  refine lv_iload_n hx hb dL_law_1073 rfl (lv_at hl 0 rfl) ?_
  refine lv_iconst (v := 1) hx hb dL_law_1074 (by decide) ?_
  refine lv_iadd (x := nI i) (y := 1) hx hb dL_law_1075 ?_
  refine va_sld (i := nI i + 1) hx hb hX hbl hbA hS v1 dL_law_1076 ?_
  refine lv_aload_n hx hb dL_law_1077 rfl (lv_at hl 3 rfl) ?_
  refine lv_iload_n hx hb dL_law_1078 rfl (lv_at hl 0 rfl) ?_
  refine lv_iconst (v := 2) hx hb dL_law_1079 (by decide) ?_
  refine lv_iadd (x := nI i) (y := 2) hx hb dL_law_1080 ?_
  refine va_sld (i := nI i + 2) hx hb hX hbl hbA hS v2 dL_law_1081 ?_
  refine r_callVi (As := [.int (xs (nI i + 1).toNatClampNeg), .int (xs (nI i + 2).toNatClampNeg)]) (rest := [.int r]) (ws' := (LW g s.heap.size M' N')) (ok_X6_ask l g (aH (s.heap.size + 203)) aH_ij (xs (nI i + 1).toNatClampNeg) (xs (nI i + 2).toNatClampNeg) N N' r e2) ⟨hx, hb, hml, hown, hts⟩ (cwV 2 hts gL_law_X6_ask rfl rfl rfl (by decide +kernel) ⟨Nat.le_of_ble_eq_true rfl, Nat.le_of_ble_eq_true rfl⟩) hK (r_recv hK (LW_r hP) 0 (by decide) eN_0 (show vwCl[6]? = some (RX6, TX6, 20) from rfl)) hS (LW_r hP) (LN_A hS.1) (LN_join hP) rfl hl.1 rfl (Nat.le_of_ble_eq_true rfl) dL_law_1082 ⟨Nat.le_of_ble_eq_true rfl, Nat.le_of_ble_eq_true rfl⟩ (fun H locs hP hS => ?_)
  refine lv_icmp_eq (x := r) (y := r) (tgt := 1149) hx hb dL_law_1085 (by decide) (fun _ => ?_) (fun q => absurd rfl q)
  exact KX M' N' H locs ls hRR' hP hS hl
set_option maxHeartbeats 4000000 in
set_option maxRecDepth 100000 in
theorem law_30 {p : Program} {l : Launch} {e : Env} {s : State} {m : MethodId} {below : List Frame} {meth : Method} {c : Code} {b L : Nat} {xs : Nat → Int32} {g : gT} (hL : L ≤ 3072) (C0 : lw_At p s m meth c b L xs) (hK : KK g s) (hZ : zT (fun q => s.heap.size ≤ q) s s.heap) (i : Nat) (hi : i + 6 ≤ L) (KX : ∀ (M N : Mem) (H : Heap) (locs : List Loc) (ls : Array Slot), RR M N → va_P g.1 vwCl (LW g s.heap.size M N) H → va_S (fun q => s.heap.size ≤ q) s.heap H locs → lv_has ls 4 [(3, .int (nI i)), (2, .ref (aH (s.heap.size + 203) 0)), (1, .ref (aH s.heap.size 0)), (0, .ref b)] → W p l e room_1 s m #[Value.ref b] below meth c H locs 217 2828 (lw_Z below #[Value.ref b] s) (F0 m 1149 ls [])) (M N : Mem) (H : Heap) (locs : List Loc) (ls : Array Slot) (hRR : RR M N) (hP : va_P g.1 vwCl (LW g s.heap.size M N) H) (hS : va_S (fun q => s.heap.size ≤ q) s.heap H locs) (hl : lv_has ls 4 [(3, .int (nI i)), (2, .ref (aH (s.heap.size + 203) 0)), (1, .ref (aH s.heap.size 0)), (0, .ref b)]) : W p l e room_1 s m #[Value.ref b] below meth c H locs 217 2828 (lw_Z below #[Value.ref b] s) (F0 m 1090 ls []) := by
  obtain ⟨hx, hb, hr, hml, hown, hts0, hX, hbl, hlk, hgv⟩ := C0
  have hown : s.vm.findClass RL = some m.cls := hown
  have hts : ∀ w ∈ wsL_law, w.before #[Value.ref b] s = true := fun w h => hts0 w (wsL_law_in w h)
  have hbA : ¬ (fun q : Nat => s.heap.size ≤ q) b := Nat.not_le.mpr hbl
  have v1 : vp_in (nI i + 1) L := by rw [show nI i + 1 = nI (i + 1) from nI_add i 1]; exact vp_in_nI (by omega) (by omega)
  obtain ⟨r, e1, e2⟩ := q_trace (xs (nI i + 1).toNatClampNeg) M N hRR
  refine lv_aload_n hx hb dL_law_1090 rfl (lv_at hl 2 rfl) ?_
  refine lv_aload_n hx hb dL_law_1091 rfl (lv_at hl 3 rfl) ?_
  refine lv_iload_n hx hb dL_law_1092 rfl (lv_at hl 0 rfl) ?_
  refine lv_iconst (v := 1) hx hb dL_law_1093 (by decide) ?_
  refine lv_iadd (x := nI i) (y := 1) hx hb dL_law_1094 ?_
  refine va_sld (i := nI i + 1) hx hb hX hbl hbA hS v1 dL_law_1095 ?_
  refine r_callVi (As := [.int (xs (nI i + 1).toNatClampNeg)]) (rest := []) (ws' := (LW g s.heap.size M N)) (ok_X5_trace l g (aH s.heap.size) aH_ij (xs (nI i + 1).toNatClampNeg) M r e1) ⟨hx, hb, hml, hown, hts⟩ (cwV 1 hts gL_law_X5_trace rfl rfl rfl (by decide +kernel) ⟨Nat.le_of_ble_eq_true rfl, Nat.le_of_ble_eq_true rfl⟩) hK (r_recv hK (LW_l hP) 0 (by decide) eX_0 (show vwCl[5]? = some (RX5, TX5, 11) from rfl)) hS (LW_l hP) (LX_A hS.1) (LX_join hP) rfl hl.1 rfl (Nat.le_of_ble_eq_true rfl) dL_law_1096 ⟨Nat.le_of_ble_eq_true rfl, Nat.le_of_ble_eq_true rfl⟩ (fun H locs hP hS => ?_)
  refine lv_aload_n hx hb dL_law_1099 rfl (lv_at hl 1 rfl) ?_
  refine lv_aload_n hx hb dL_law_1100 rfl (lv_at hl 3 rfl) ?_
  refine lv_iload_n hx hb dL_law_1101 rfl (lv_at hl 0 rfl) ?_
  refine lv_iconst (v := 1) hx hb dL_law_1102 (by decide) ?_
  refine lv_iadd (x := nI i) (y := 1) hx hb dL_law_1103 ?_
  refine va_sld (i := nI i + 1) hx hb hX hbl hbA hS v1 dL_law_1104 ?_
  refine r_callVi (As := [.int (xs (nI i + 1).toNatClampNeg)]) (rest := [.int r]) (ws' := (LW g s.heap.size M N)) (ok_X6_trace l g (aH (s.heap.size + 203)) aH_ij (xs (nI i + 1).toNatClampNeg) N r e2) ⟨hx, hb, hml, hown, hts⟩ (cwV 1 hts gL_law_X6_trace rfl rfl rfl (by decide +kernel) ⟨Nat.le_of_ble_eq_true rfl, Nat.le_of_ble_eq_true rfl⟩) hK (r_recv hK (LW_r hP) 0 (by decide) eN_0 (show vwCl[6]? = some (RX6, TX6, 20) from rfl)) hS (LW_r hP) (LN_A hS.1) (LN_join hP) rfl hl.1 rfl (Nat.le_of_ble_eq_true rfl) dL_law_1105 ⟨Nat.le_of_ble_eq_true rfl, Nat.le_of_ble_eq_true rfl⟩ (fun H locs hP hS => ?_)
  refine lv_icmp_eq (x := r) (y := r) (tgt := 1149) hx hb dL_law_1108 (by decide) (fun _ => ?_) (fun q => absurd rfl q)
  exact KX M N H locs ls hRR hP hS hl
set_option maxHeartbeats 4000000 in
set_option maxRecDepth 100000 in
theorem law_31 {p : Program} {l : Launch} {e : Env} {s : State} {m : MethodId} {below : List Frame} {meth : Method} {c : Code} {b L : Nat} {xs : Nat → Int32} {g : gT} (hL : L ≤ 3072) (C0 : lw_At p s m meth c b L xs) (hK : KK g s) (hZ : zT (fun q => s.heap.size ≤ q) s s.heap) (i : Nat) (hi : i + 6 ≤ L) (KX : ∀ (M N : Mem) (H : Heap) (locs : List Loc) (ls : Array Slot), RR M N → va_P g.1 vwCl (LW g s.heap.size M N) H → va_S (fun q => s.heap.size ≤ q) s.heap H locs → lv_has ls 4 [(3, .int (nI i)), (2, .ref (aH (s.heap.size + 203) 0)), (1, .ref (aH s.heap.size 0)), (0, .ref b)] → W p l e room_1 s m #[Value.ref b] below meth c H locs 217 2828 (lw_Z below #[Value.ref b] s) (F0 m 1149 ls [])) (M N : Mem) (H : Heap) (locs : List Loc) (ls : Array Slot) (hRR : RR M N) (hP : va_P g.1 vwCl (LW g s.heap.size M N) H) (hS : va_S (fun q => s.heap.size ≤ q) s.heap H locs) (hl : lv_has ls 4 [(3, .int (nI i)), (2, .ref (aH (s.heap.size + 203) 0)), (1, .ref (aH s.heap.size 0)), (0, .ref b)]) : W p l e room_1 s m #[Value.ref b] below meth c H locs 217 2828 (lw_Z below #[Value.ref b] s) (F0 m 1113 ls []) := by
  obtain ⟨hx, hb, hr, hml, hown, hts0, hX, hbl, hlk, hgv⟩ := C0
  have hown : s.vm.findClass RL = some m.cls := hown
  have hts : ∀ w ∈ wsL_law, w.before #[Value.ref b] s = true := fun w h => hts0 w (wsL_law_in w h)
  have hbA : ¬ (fun q : Nat => s.heap.size ≤ q) b := Nat.not_le.mpr hbl
  have v1 : vp_in (nI i + 1) L := by rw [show nI i + 1 = nI (i + 1) from nI_add i 1]; exact vp_in_nI (by omega) (by omega)
  obtain ⟨r, e1, e2⟩ := q_count (xs (nI i + 1).toNatClampNeg) M N hRR
  refine lv_aload_n hx hb dL_law_1113 rfl (lv_at hl 2 rfl) ?_
  refine lv_aload_n hx hb dL_law_1114 rfl (lv_at hl 3 rfl) ?_
  refine lv_iload_n hx hb dL_law_1115 rfl (lv_at hl 0 rfl) ?_
  refine lv_iconst (v := 1) hx hb dL_law_1116 (by decide) ?_
  refine lv_iadd (x := nI i) (y := 1) hx hb dL_law_1117 ?_
  refine va_sld (i := nI i + 1) hx hb hX hbl hbA hS v1 dL_law_1118 ?_
  refine r_callVi (As := [.int (xs (nI i + 1).toNatClampNeg)]) (rest := []) (ws' := (LW g s.heap.size M N)) (ok_X5_count l g (aH s.heap.size) aH_ij (xs (nI i + 1).toNatClampNeg) M r e1) ⟨hx, hb, hml, hown, hts⟩ (cwV 1 hts gL_law_X5_count rfl rfl rfl (by decide +kernel) ⟨Nat.le_of_ble_eq_true rfl, Nat.le_of_ble_eq_true rfl⟩) hK (r_recv hK (LW_l hP) 0 (by decide) eX_0 (show vwCl[5]? = some (RX5, TX5, 11) from rfl)) hS (LW_l hP) (LX_A hS.1) (LX_join hP) rfl hl.1 rfl (Nat.le_of_ble_eq_true rfl) dL_law_1119 ⟨Nat.le_of_ble_eq_true rfl, Nat.le_of_ble_eq_true rfl⟩ (fun H locs hP hS => ?_)
  refine lv_aload_n hx hb dL_law_1122 rfl (lv_at hl 1 rfl) ?_
  refine lv_aload_n hx hb dL_law_1123 rfl (lv_at hl 3 rfl) ?_
  refine lv_iload_n hx hb dL_law_1124 rfl (lv_at hl 0 rfl) ?_
  refine lv_iconst (v := 1) hx hb dL_law_1125 (by decide) ?_
  refine lv_iadd (x := nI i) (y := 1) hx hb dL_law_1126 ?_
  refine va_sld (i := nI i + 1) hx hb hX hbl hbA hS v1 dL_law_1127 ?_
  refine r_callVi (As := [.int (xs (nI i + 1).toNatClampNeg)]) (rest := [.int r]) (ws' := (LW g s.heap.size M N)) (ok_X6_count l g (aH (s.heap.size + 203)) aH_ij (xs (nI i + 1).toNatClampNeg) N r e2) ⟨hx, hb, hml, hown, hts⟩ (cwV 1 hts gL_law_X6_count rfl rfl rfl (by decide +kernel) ⟨Nat.le_of_ble_eq_true rfl, Nat.le_of_ble_eq_true rfl⟩) hK (r_recv hK (LW_r hP) 0 (by decide) eN_0 (show vwCl[6]? = some (RX6, TX6, 20) from rfl)) hS (LW_r hP) (LN_A hS.1) (LN_join hP) rfl hl.1 rfl (Nat.le_of_ble_eq_true rfl) dL_law_1128 ⟨Nat.le_of_ble_eq_true rfl, Nat.le_of_ble_eq_true rfl⟩ (fun H locs hP hS => ?_)
  refine lv_icmp_eq (x := r) (y := r) (tgt := 1149) hx hb dL_law_1131 (by decide) (fun _ => ?_) (fun q => absurd rfl q)
  exact KX M N H locs ls hRR hP hS hl
set_option maxHeartbeats 4000000 in
set_option maxRecDepth 100000 in
theorem law_32 {p : Program} {l : Launch} {e : Env} {s : State} {m : MethodId} {below : List Frame} {meth : Method} {c : Code} {b L : Nat} {xs : Nat → Int32} {g : gT} (hL : L ≤ 3072) (C0 : lw_At p s m meth c b L xs) (hK : KK g s) (hZ : zT (fun q => s.heap.size ≤ q) s s.heap) (i : Nat) (hi : i + 6 ≤ L) (KX : ∀ (M N : Mem) (H : Heap) (locs : List Loc) (ls : Array Slot), RR M N → va_P g.1 vwCl (LW g s.heap.size M N) H → va_S (fun q => s.heap.size ≤ q) s.heap H locs → lv_has ls 4 [(3, .int (nI i)), (2, .ref (aH (s.heap.size + 203) 0)), (1, .ref (aH s.heap.size 0)), (0, .ref b)] → W p l e room_1 s m #[Value.ref b] below meth c H locs 217 2828 (lw_Z below #[Value.ref b] s) (F0 m 1149 ls [])) (M N : Mem) (H : Heap) (locs : List Loc) (ls : Array Slot) (hRR : RR M N) (hP : va_P g.1 vwCl (LW g s.heap.size M N) H) (hS : va_S (fun q => s.heap.size ≤ q) s.heap H locs) (hl : lv_has ls 4 [(3, .int (nI i)), (2, .ref (aH (s.heap.size + 203) 0)), (1, .ref (aH s.heap.size 0)), (0, .ref b)]) : W p l e room_1 s m #[Value.ref b] below meth c H locs 217 2828 (lw_Z below #[Value.ref b] s) (F0 m 1136 ls []) := by
  obtain ⟨hx, hb, hr, hml, hown, hts0, hX, hbl, hlk, hgv⟩ := C0
  have hown : s.vm.findClass RL = some m.cls := hown
  have hts : ∀ w ∈ wsL_law, w.before #[Value.ref b] s = true := fun w h => hts0 w (wsL_law_in w h)
  have hbA : ¬ (fun q : Nat => s.heap.size ≤ q) b := Nat.not_le.mpr hbl
  obtain ⟨r, e1, e2⟩ := q_status M N hRR
  refine lv_aload_n hx hb dL_law_1136 rfl (lv_at hl 2 rfl) ?_
  refine r_callVi (As := []) (rest := []) (ws' := (LW g s.heap.size M N)) (ok_X5_status l g (aH s.heap.size) aH_ij M r e1) ⟨hx, hb, hml, hown, hts⟩ (cwV 0 hts gL_law_X5_status rfl rfl rfl (by decide +kernel) ⟨Nat.le_of_ble_eq_true rfl, Nat.le_of_ble_eq_true rfl⟩) hK (r_recv hK (LW_l hP) 0 (by decide) eX_0 (show vwCl[5]? = some (RX5, TX5, 11) from rfl)) hS (LW_l hP) (LX_A hS.1) (LX_join hP) rfl hl.1 rfl (Nat.le_of_ble_eq_true rfl) dL_law_1137 ⟨Nat.le_of_ble_eq_true rfl, Nat.le_of_ble_eq_true rfl⟩ (fun H locs hP hS => ?_)
  refine lv_aload_n hx hb dL_law_1140 rfl (lv_at hl 1 rfl) ?_
  refine r_callVi (As := []) (rest := [.int r]) (ws' := (LW g s.heap.size M N)) (ok_X6_status l g (aH (s.heap.size + 203)) aH_ij N r e2) ⟨hx, hb, hml, hown, hts⟩ (cwV 0 hts gL_law_X6_status rfl rfl rfl (by decide +kernel) ⟨Nat.le_of_ble_eq_true rfl, Nat.le_of_ble_eq_true rfl⟩) hK (r_recv hK (LW_r hP) 0 (by decide) eN_0 (show vwCl[6]? = some (RX6, TX6, 20) from rfl)) hS (LW_r hP) (LN_A hS.1) (LN_join hP) rfl hl.1 rfl (Nat.le_of_ble_eq_true rfl) dL_law_1141 ⟨Nat.le_of_ble_eq_true rfl, Nat.le_of_ble_eq_true rfl⟩ (fun H locs hP hS => ?_)
  refine lv_icmp_eq (x := r) (y := r) (tgt := 1149) hx hb dL_law_1144 (by decide) (fun _ => ?_) (fun q => absurd rfl q)
  exact KX M N H locs ls hRR hP hS hl
