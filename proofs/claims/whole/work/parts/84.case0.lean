set_option maxHeartbeats 4000000 in
set_option maxRecDepth 100000 in
theorem law_0 {p : Program} {l : Launch} {e : Env} {s : State} {m : MethodId} {below : List Frame} {meth : Method} {c : Code} {b L : Nat} {xs : Nat → Int32} {g : gT} (hL : L ≤ 3072) (C0 : lw_At p s m meth c b L xs) (hK : KK g s) (hZ : zT (fun q => s.heap.size ≤ q) s s.heap) (i : Nat) (hi : i + 6 ≤ L) (KX : ∀ (M N : Mem) (H : Heap) (locs : List Loc) (ls : Array Slot), RR M N → va_P g.1 vwCl (LW g s.heap.size M N) H → va_S (fun q => s.heap.size ≤ q) s.heap H locs → lv_has ls 4 [(3, .int (nI i)), (2, .ref (aH (s.heap.size + 203) 0)), (1, .ref (aH s.heap.size 0)), (0, .ref b)] → W p l e room_1 s m #[Value.ref b] below meth c H locs 217 2828 (lw_Z below #[Value.ref b] s) (F0 m 1149 ls [])) (M N : Mem) (H : Heap) (locs : List Loc) (ls : Array Slot) (hRR : RR M N) (hP : va_P g.1 vwCl (LW g s.heap.size M N) H) (hS : va_S (fun q => s.heap.size ≤ q) s.heap H locs) (hl : lv_has ls 4 [(3, .int (nI i)), (2, .ref (aH (s.heap.size + 203) 0)), (1, .ref (aH s.heap.size 0)), (0, .ref b)]) : W p l e room_1 s m #[Value.ref b] below meth c H locs 217 2828 (lw_Z below #[Value.ref b] s) (F0 m 180 ls []) := by
  obtain ⟨hx, hb, hr, hml, hown, hts0, hX, hbl, hlk, hgv⟩ := C0
  have hown : s.vm.findClass RL = some m.cls := hown
  have hts : ∀ w ∈ wsL_law, w.before #[Value.ref b] s = true := fun w h => hts0 w (wsL_law_in w h)
  have hbA : ¬ (fun q : Nat => s.heap.size ≤ q) b := Nat.not_le.mpr hbl
  have v1 : vp_in (nI i + 1) L := by rw [show nI i + 1 = nI (i + 1) from nI_add i 1]; exact vp_in_nI (by omega) (by omega)
  have v2 : vp_in (nI i + 2) L := by rw [show nI i + 2 = nI (i + 2) from nI_add i 2]; exact vp_in_nI (by omega) (by omega)
  have v3 : vp_in (nI i + 3) L := by rw [show nI i + 3 = nI (i + 3) from nI_add i 3]; exact vp_in_nI (by omega) (by omega)
  obtain ⟨r, M', N', e1, e2, hRR'⟩ := q_row (xs (nI i + 1).toNatClampNeg) (xs (nI i + 2).toNatClampNeg) (xs (nI i + 3).toNatClampNeg) M N hRR
  refine lv_aload_n hx hb dL_law_180 rfl (lv_at hl 2 rfl) ?_
  refine lv_aload_n hx hb dL_law_181 rfl (lv_at hl 3 rfl) ?_
  refine lv_iload_n hx hb dL_law_182 rfl (lv_at hl 0 rfl) ?_
  refine lv_iconst (v := 1) hx hb dL_law_183 (by decide) ?_
  refine lv_iadd (x := nI i) (y := 1) hx hb dL_law_184 ?_
  refine va_sld (i := nI i + 1) hx hb hX hbl hbA hS v1 dL_law_185 ?_
  refine lv_aload_n hx hb dL_law_186 rfl (lv_at hl 3 rfl) ?_
  refine lv_iload_n hx hb dL_law_187 rfl (lv_at hl 0 rfl) ?_
  refine lv_iconst (v := 2) hx hb dL_law_188 (by decide) ?_
  refine lv_iadd (x := nI i) (y := 2) hx hb dL_law_189 ?_
  refine va_sld (i := nI i + 2) hx hb hX hbl hbA hS v2 dL_law_190 ?_
  refine lv_aload_n hx hb dL_law_191 rfl (lv_at hl 3 rfl) ?_
  refine lv_iload_n hx hb dL_law_192 rfl (lv_at hl 0 rfl) ?_
  refine lv_iconst (v := 3) hx hb dL_law_193 (by decide) ?_
  refine lv_iadd (x := nI i) (y := 3) hx hb dL_law_194 ?_
  refine va_sld (i := nI i + 3) hx hb hX hbl hbA hS v3 dL_law_195 ?_
  refine r_callVi (As := [.int (xs (nI i + 1).toNatClampNeg), .int (xs (nI i + 2).toNatClampNeg), .int (xs (nI i + 3).toNatClampNeg)]) (rest := []) (ws' := (LW g s.heap.size M' N)) (ok_X5_row l g (aH s.heap.size) aH_ij (xs (nI i + 1).toNatClampNeg) (xs (nI i + 2).toNatClampNeg) (xs (nI i + 3).toNatClampNeg) M M' r e1) ⟨hx, hb, hml, hown, hts⟩ (cwV 3 hts gL_law_X5_row rfl rfl rfl (by decide +kernel) ⟨Nat.le_of_ble_eq_true rfl, Nat.le_of_ble_eq_true rfl⟩) hK (r_recv hK (LW_l hP) 0 (by decide) eX_0 (show vwCl[5]? = some (RX5, TX5, 11) from rfl)) hS (LW_l hP) (LX_A hS.1) (LX_join hP) rfl hl.1 rfl (Nat.le_of_ble_eq_true rfl) dL_law_196 ⟨Nat.le_of_ble_eq_true rfl, Nat.le_of_ble_eq_true rfl⟩ (fun H locs hP hS => ?_)
  refine lv_aload_n hx hb dL_law_199 rfl (lv_at hl 1 rfl) ?_
  refine lv_aload_n hx hb dL_law_200 rfl (lv_at hl 3 rfl) ?_
  refine lv_iload_n hx hb dL_law_201 rfl (lv_at hl 0 rfl) ?_
  refine lv_iconst (v := 1) hx hb dL_law_202 (by decide) ?_
  refine lv_iadd (x := nI i) (y := 1) hx hb dL_law_203 ?_
  refine va_sld (i := nI i + 1) hx hb hX hbl hbA hS v1 dL_law_204 ?_
  refine lv_aload_n hx hb dL_law_205 rfl (lv_at hl 3 rfl) ?_
  refine lv_iload_n hx hb dL_law_206 rfl (lv_at hl 0 rfl) ?_
  refine lv_iconst (v := 2) hx hb dL_law_207 (by decide) ?_
  refine lv_iadd (x := nI i) (y := 2) hx hb dL_law_208 ?_
  refine va_sld (i := nI i + 2) hx hb hX hbl hbA hS v2 dL_law_209 ?_
  refine lv_aload_n hx hb dL_law_210 rfl (lv_at hl 3 rfl) ?_
  refine lv_iload_n hx hb dL_law_211 rfl (lv_at hl 0 rfl) ?_
  refine lv_iconst (v := 3) hx hb dL_law_212 (by decide) ?_
  refine lv_iadd (x := nI i) (y := 3) hx hb dL_law_213 ?_
  refine va_sld (i := nI i + 3) hx hb hX hbl hbA hS v3 dL_law_214 ?_
  refine r_callVi (As := [.int (xs (nI i + 1).toNatClampNeg), .int (xs (nI i + 2).toNatClampNeg), .int (xs (nI i + 3).toNatClampNeg)]) (rest := [.int r]) (ws' := (LW g s.heap.size M' N')) (ok_X6_row l g (aH (s.heap.size + 203)) aH_ij (xs (nI i + 1).toNatClampNeg) (xs (nI i + 2).toNatClampNeg) (xs (nI i + 3).toNatClampNeg) N N' r e2) ⟨hx, hb, hml, hown, hts⟩ (cwV 3 hts gL_law_X6_row rfl rfl rfl (by decide +kernel) ⟨Nat.le_of_ble_eq_true rfl, Nat.le_of_ble_eq_true rfl⟩) hK (r_recv hK (LW_r hP) 0 (by decide) eN_0 (show vwCl[6]? = some (RX6, TX6, 20) from rfl)) hS (LW_r hP) (LN_A hS.1) (LN_join hP) rfl hl.1 rfl (Nat.le_of_ble_eq_true rfl) dL_law_215 ⟨Nat.le_of_ble_eq_true rfl, Nat.le_of_ble_eq_true rfl⟩ (fun H locs hP hS => ?_)
  refine lv_icmp_eq (x := r) (y := r) (tgt := 1149) hx hb dL_law_218 (by decide) (fun _ => ?_) (fun q => absurd rfl q)
  exact KX M' N' H locs ls hRR' hP hS hl
set_option maxHeartbeats 4000000 in
set_option maxRecDepth 100000 in
theorem law_1 {p : Program} {l : Launch} {e : Env} {s : State} {m : MethodId} {below : List Frame} {meth : Method} {c : Code} {b L : Nat} {xs : Nat → Int32} {g : gT} (hL : L ≤ 3072) (C0 : lw_At p s m meth c b L xs) (hK : KK g s) (hZ : zT (fun q => s.heap.size ≤ q) s s.heap) (i : Nat) (hi : i + 6 ≤ L) (KX : ∀ (M N : Mem) (H : Heap) (locs : List Loc) (ls : Array Slot), RR M N → va_P g.1 vwCl (LW g s.heap.size M N) H → va_S (fun q => s.heap.size ≤ q) s.heap H locs → lv_has ls 4 [(3, .int (nI i)), (2, .ref (aH (s.heap.size + 203) 0)), (1, .ref (aH s.heap.size 0)), (0, .ref b)] → W p l e room_1 s m #[Value.ref b] below meth c H locs 217 2828 (lw_Z below #[Value.ref b] s) (F0 m 1149 ls [])) (M N : Mem) (H : Heap) (locs : List Loc) (ls : Array Slot) (hRR : RR M N) (hP : va_P g.1 vwCl (LW g s.heap.size M N) H) (hS : va_S (fun q => s.heap.size ≤ q) s.heap H locs) (hl : lv_has ls 4 [(3, .int (nI i)), (2, .ref (aH (s.heap.size + 203) 0)), (1, .ref (aH s.heap.size 0)), (0, .ref b)]) : W p l e room_1 s m #[Value.ref b] below meth c H locs 217 2828 (lw_Z below #[Value.ref b] s) (F0 m 223 ls []) := by
  obtain ⟨hx, hb, hr, hml, hown, hts0, hX, hbl, hlk, hgv⟩ := C0
  have hown : s.vm.findClass RL = some m.cls := hown
  have hts : ∀ w ∈ wsL_law, w.before #[Value.ref b] s = true := fun w h => hts0 w (wsL_law_in w h)
  have hbA : ¬ (fun q : Nat => s.heap.size ≤ q) b := Nat.not_le.mpr hbl
  have v1 : vp_in (nI i + 1) L := by rw [show nI i + 1 = nI (i + 1) from nI_add i 1]; exact vp_in_nI (by omega) (by omega)
  have v2 : vp_in (nI i + 2) L := by rw [show nI i + 2 = nI (i + 2) from nI_add i 2]; exact vp_in_nI (by omega) (by omega)
  have v3 : vp_in (nI i + 3) L := by rw [show nI i + 3 = nI (i + 3) from nI_add i 3]; exact vp_in_nI (by omega) (by omega)
  obtain ⟨r, M', N', e1, e2, hRR'⟩ := q_set (xs (nI i + 1).toNatClampNeg) (xs (nI i + 2).toNatClampNeg) (xs (nI i + 3).toNatClampNeg) M N hRR
  refine lv_aload_n hx hb dL_law_223 rfl (lv_at hl 2 rfl) ?_
  refine lv_aload_n hx hb dL_law_224 rfl (lv_at hl 3 rfl) ?_
  refine lv_iload_n hx hb dL_law_225 rfl (lv_at hl 0 rfl) ?_
  refine lv_iconst (v := 1) hx hb dL_law_226 (by decide) ?_
  refine lv_iadd (x := nI i) (y := 1) hx hb dL_law_227 ?_
  refine va_sld (i := nI i + 1) hx hb hX hbl hbA hS v1 dL_law_228 ?_
  refine lv_aload_n hx hb dL_law_229 rfl (lv_at hl 3 rfl) ?_
  refine lv_iload_n hx hb dL_law_230 rfl (lv_at hl 0 rfl) ?_
  refine lv_iconst (v := 2) hx hb dL_law_231 (by decide) ?_
  refine lv_iadd (x := nI i) (y := 2) hx hb dL_law_232 ?_
  refine va_sld (i := nI i + 2) hx hb hX hbl hbA hS v2 dL_law_233 ?_
  refine lv_aload_n hx hb dL_law_234 rfl (lv_at hl 3 rfl) ?_
  refine lv_iload_n hx hb dL_law_235 rfl (lv_at hl 0 rfl) ?_
  refine lv_iconst (v := 3) hx hb dL_law_236 (by decide) ?_
  refine lv_iadd (x := nI i) (y := 3) hx hb dL_law_237 ?_
  refine va_sld (i := nI i + 3) hx hb hX hbl hbA hS v3 dL_law_238 ?_
  refine r_callVi (As := [.int (xs (nI i + 1).toNatClampNeg), .int (xs (nI i + 2).toNatClampNeg), .int (xs (nI i + 3).toNatClampNeg)]) (rest := []) (ws' := (LW g s.heap.size M' N)) (ok_X5_set l g (aH s.heap.size) aH_ij (xs (nI i + 1).toNatClampNeg) (xs (nI i + 2).toNatClampNeg) (xs (nI i + 3).toNatClampNeg) M M' r e1) ⟨hx, hb, hml, hown, hts⟩ (cwV 3 hts gL_law_X5_set rfl rfl rfl (by decide +kernel) ⟨Nat.le_of_ble_eq_true rfl, Nat.le_of_ble_eq_true rfl⟩) hK (r_recv hK (LW_l hP) 0 (by decide) eX_0 (show vwCl[5]? = some (RX5, TX5, 11) from rfl)) hS (LW_l hP) (LX_A hS.1) (LX_join hP) rfl hl.1 rfl (Nat.le_of_ble_eq_true rfl) dL_law_239 ⟨Nat.le_of_ble_eq_true rfl, Nat.le_of_ble_eq_true rfl⟩ (fun H locs hP hS => ?_)
  refine lv_aload_n hx hb dL_law_242 rfl (lv_at hl 1 rfl) ?_
  refine lv_aload_n hx hb dL_law_243 rfl (lv_at hl 3 rfl) ?_
  refine lv_iload_n hx hb dL_law_244 rfl (lv_at hl 0 rfl) ?_
  refine lv_iconst (v := 1) hx hb dL_law_245 (by decide) ?_
  refine lv_iadd (x := nI i) (y := 1) hx hb dL_law_246 ?_
  refine va_sld (i := nI i + 1) hx hb hX hbl hbA hS v1 dL_law_247 ?_
  refine lv_aload_n hx hb dL_law_248 rfl (lv_at hl 3 rfl) ?_
  refine lv_iload_n hx hb dL_law_249 rfl (lv_at hl 0 rfl) ?_
  refine lv_iconst (v := 2) hx hb dL_law_250 (by decide) ?_
  refine lv_iadd (x := nI i) (y := 2) hx hb dL_law_251 ?_
  refine va_sld (i := nI i + 2) hx hb hX hbl hbA hS v2 dL_law_252 ?_
  refine lv_aload_n hx hb dL_law_253 rfl (lv_at hl 3 rfl) ?_
  refine lv_iload_n hx hb dL_law_254 rfl (lv_at hl 0 rfl) ?_
  refine lv_iconst (v := 3) hx hb dL_law_255 (by decide) ?_
  refine lv_iadd (x := nI i) (y := 3) hx hb dL_law_256 ?_
  refine va_sld (i := nI i + 3) hx hb hX hbl hbA hS v3 dL_law_257 ?_
  refine r_callVi (As := [.int (xs (nI i + 1).toNatClampNeg), .int (xs (nI i + 2).toNatClampNeg), .int (xs (nI i + 3).toNatClampNeg)]) (rest := [.int r]) (ws' := (LW g s.heap.size M' N')) (ok_X6_set l g (aH (s.heap.size + 203)) aH_ij (xs (nI i + 1).toNatClampNeg) (xs (nI i + 2).toNatClampNeg) (xs (nI i + 3).toNatClampNeg) N N' r e2) ⟨hx, hb, hml, hown, hts⟩ (cwV 3 hts gL_law_X6_set rfl rfl rfl (by decide +kernel) ⟨Nat.le_of_ble_eq_true rfl, Nat.le_of_ble_eq_true rfl⟩) hK (r_recv hK (LW_r hP) 0 (by decide) eN_0 (show vwCl[6]? = some (RX6, TX6, 20) from rfl)) hS (LW_r hP) (LN_A hS.1) (LN_join hP) rfl hl.1 rfl (Nat.le_of_ble_eq_true rfl) dL_law_258 ⟨Nat.le_of_ble_eq_true rfl, Nat.le_of_ble_eq_true rfl⟩ (fun H locs hP hS => ?_)
  refine lv_icmp_eq (x := r) (y := r) (tgt := 1149) hx hb dL_law_261 (by decide) (fun _ => ?_) (fun q => absurd rfl q)
  exact KX M' N' H locs ls hRR' hP hS hl
set_option maxHeartbeats 4000000 in
set_option maxRecDepth 100000 in
theorem law_2 {p : Program} {l : Launch} {e : Env} {s : State} {m : MethodId} {below : List Frame} {meth : Method} {c : Code} {b L : Nat} {xs : Nat → Int32} {g : gT} (hL : L ≤ 3072) (C0 : lw_At p s m meth c b L xs) (hK : KK g s) (hZ : zT (fun q => s.heap.size ≤ q) s s.heap) (i : Nat) (hi : i + 6 ≤ L) (KX : ∀ (M N : Mem) (H : Heap) (locs : List Loc) (ls : Array Slot), RR M N → va_P g.1 vwCl (LW g s.heap.size M N) H → va_S (fun q => s.heap.size ≤ q) s.heap H locs → lv_has ls 4 [(3, .int (nI i)), (2, .ref (aH (s.heap.size + 203) 0)), (1, .ref (aH s.heap.size 0)), (0, .ref b)] → W p l e room_1 s m #[Value.ref b] below meth c H locs 217 2828 (lw_Z below #[Value.ref b] s) (F0 m 1149 ls [])) (M N : Mem) (H : Heap) (locs : List Loc) (ls : Array Slot) (hRR : RR M N) (hP : va_P g.1 vwCl (LW g s.heap.size M N) H) (hS : va_S (fun q => s.heap.size ≤ q) s.heap H locs) (hl : lv_has ls 4 [(3, .int (nI i)), (2, .ref (aH (s.heap.size + 203) 0)), (1, .ref (aH s.heap.size 0)), (0, .ref b)]) : W p l e room_1 s m #[Value.ref b] below meth c H locs 217 2828 (lw_Z below #[Value.ref b] s) (F0 m 266 ls []) := by
  obtain ⟨hx, hb, hr, hml, hown, hts0, hX, hbl, hlk, hgv⟩ := C0
  have hown : s.vm.findClass RL = some m.cls := hown
  have hts : ∀ w ∈ wsL_law, w.before #[Value.ref b] s = true := fun w h => hts0 w (wsL_law_in w h)
  have hbA : ¬ (fun q : Nat => s.heap.size ≤ q) b := Nat.not_le.mpr hbl
  have v1 : vp_in (nI i + 1) L := by rw [show nI i + 1 = nI (i + 1) from nI_add i 1]; exact vp_in_nI (by omega) (by omega)
  have v2 : vp_in (nI i + 2) L := by rw [show nI i + 2 = nI (i + 2) from nI_add i 2]; exact vp_in_nI (by omega) (by omega)
  have v3 : vp_in (nI i + 3) L := by rw [show nI i + 3 = nI (i + 3) from nI_add i 3]; exact vp_in_nI (by omega) (by omega)
  have v4 : vp_in (nI i + 4) L := by rw [show nI i + 4 = nI (i + 4) from nI_add i 4]; exact vp_in_nI (by omega) (by omega)
  have v5 : vp_in (nI i + 5) L := by rw [show nI i + 5 = nI (i + 5) from nI_add i 5]; exact vp_in_nI (by omega) (by omega)
  obtain ⟨r, M', N', e1, e2, hRR'⟩ := q_copy (xs (nI i + 1).toNatClampNeg) (xs (nI i + 2).toNatClampNeg) (xs (nI i + 3).toNatClampNeg) (xs (nI i + 4).toNatClampNeg) (xs (nI i + 5).toNatClampNeg) M N hRR
  refine lv_aload_n hx hb dL_law_266 rfl (lv_at hl 2 rfl) ?_
  refine lv_aload_n hx hb dL_law_267 rfl (lv_at hl 3 rfl) ?_
  refine lv_iload_n hx hb dL_law_268 rfl (lv_at hl 0 rfl) ?_
  refine lv_iconst (v := 1) hx hb dL_law_269 (by decide) ?_
  refine lv_iadd (x := nI i) (y := 1) hx hb dL_law_270 ?_
  refine va_sld (i := nI i + 1) hx hb hX hbl hbA hS v1 dL_law_271 ?_
  refine lv_aload_n hx hb dL_law_272 rfl (lv_at hl 3 rfl) ?_
  refine lv_iload_n hx hb dL_law_273 rfl (lv_at hl 0 rfl) ?_
  refine lv_iconst (v := 2) hx hb dL_law_274 (by decide) ?_
  refine lv_iadd (x := nI i) (y := 2) hx hb dL_law_275 ?_
  refine va_sld (i := nI i + 2) hx hb hX hbl hbA hS v2 dL_law_276 ?_
  refine lv_aload_n hx hb dL_law_277 rfl (lv_at hl 3 rfl) ?_
  refine lv_iload_n hx hb dL_law_278 rfl (lv_at hl 0 rfl) ?_
  refine lv_iconst (v := 3) hx hb dL_law_279 (by decide) ?_
  refine lv_iadd (x := nI i) (y := 3) hx hb dL_law_280 ?_
  refine va_sld (i := nI i + 3) hx hb hX hbl hbA hS v3 dL_law_281 ?_
  refine lv_aload_n hx hb dL_law_282 rfl (lv_at hl 3 rfl) ?_
  refine lv_iload_n hx hb dL_law_283 rfl (lv_at hl 0 rfl) ?_
  refine lv_iconst (v := 4) hx hb dL_law_284 (by decide) ?_
  refine lv_iadd (x := nI i) (y := 4) hx hb dL_law_285 ?_
  refine va_sld (i := nI i + 4) hx hb hX hbl hbA hS v4 dL_law_286 ?_
  refine lv_aload_n hx hb dL_law_287 rfl (lv_at hl 3 rfl) ?_
  refine lv_iload_n hx hb dL_law_288 rfl (lv_at hl 0 rfl) ?_
  refine lv_iconst (v := 5) hx hb dL_law_289 (by decide) ?_
  refine lv_iadd (x := nI i) (y := 5) hx hb dL_law_290 ?_
  refine va_sld (i := nI i + 5) hx hb hX hbl hbA hS v5 dL_law_291 ?_
  refine r_callVi (As := [.int (xs (nI i + 1).toNatClampNeg), .int (xs (nI i + 2).toNatClampNeg), .int (xs (nI i + 3).toNatClampNeg), .int (xs (nI i + 4).toNatClampNeg), .int (xs (nI i + 5).toNatClampNeg)]) (rest := []) (ws' := (LW g s.heap.size M' N)) (ok_X5_copy l g (aH s.heap.size) aH_ij (xs (nI i + 1).toNatClampNeg) (xs (nI i + 2).toNatClampNeg) (xs (nI i + 3).toNatClampNeg) (xs (nI i + 4).toNatClampNeg) (xs (nI i + 5).toNatClampNeg) M M' r e1) ⟨hx, hb, hml, hown, hts⟩ (cwV 5 hts gL_law_X5_copy rfl rfl rfl (by decide +kernel) ⟨Nat.le_of_ble_eq_true rfl, Nat.le_of_ble_eq_true rfl⟩) hK (r_recv hK (LW_l hP) 0 (by decide) eX_0 (show vwCl[5]? = some (RX5, TX5, 11) from rfl)) hS (LW_l hP) (LX_A hS.1) (LX_join hP) rfl hl.1 rfl (Nat.le_of_ble_eq_true rfl) dL_law_292 ⟨Nat.le_of_ble_eq_true rfl, Nat.le_of_ble_eq_true rfl⟩ (fun H locs hP hS => ?_)
  refine lv_aload_n hx hb dL_law_295 rfl (lv_at hl 1 rfl) ?_
  refine lv_aload_n hx hb dL_law_296 rfl (lv_at hl 3 rfl) ?_
  refine lv_iload_n hx hb dL_law_297 rfl (lv_at hl 0 rfl) ?_
  refine lv_iconst (v := 1) hx hb dL_law_298 (by decide) ?_
  refine lv_iadd (x := nI i) (y := 1) hx hb dL_law_299 ?_
  refine va_sld (i := nI i + 1) hx hb hX hbl hbA hS v1 dL_law_300 ?_
  refine lv_aload_n hx hb dL_law_301 rfl (lv_at hl 3 rfl) ?_
  refine lv_iload_n hx hb dL_law_302 rfl (lv_at hl 0 rfl) ?_
  refine lv_iconst (v := 2) hx hb dL_law_303 (by decide) ?_
  refine lv_iadd (x := nI i) (y := 2) hx hb dL_law_304 ?_
  refine va_sld (i := nI i + 2) hx hb hX hbl hbA hS v2 dL_law_305 ?_
  refine lv_aload_n hx hb dL_law_306 rfl (lv_at hl 3 rfl) ?_
  refine lv_iload_n hx hb dL_law_307 rfl (lv_at hl 0 rfl) ?_
  refine lv_iconst (v := 3) hx hb dL_law_308 (by decide) ?_
  refine lv_iadd (x := nI i) (y := 3) hx hb dL_law_309 ?_
  refine va_sld (i := nI i + 3) hx hb hX hbl hbA hS v3 dL_law_310 ?_
  refine lv_aload_n hx hb dL_law_311 rfl (lv_at hl 3 rfl) ?_
  refine lv_iload_n hx hb dL_law_312 rfl (lv_at hl 0 rfl) ?_
  refine lv_iconst (v := 4) hx hb dL_law_313 (by decide) ?_
  refine lv_iadd (x := nI i) (y := 4) hx hb dL_law_314 ?_
  refine va_sld (i := nI i + 4) hx hb hX hbl hbA hS v4 dL_law_315 ?_
  refine lv_aload_n hx hb dL_law_316 rfl (lv_at hl 3 rfl) ?_
  refine lv_iload_n hx hb dL_law_317 rfl (lv_at hl 0 rfl) ?_
  refine lv_iconst (v := 5) hx hb dL_law_318 (by decide) ?_
  refine lv_iadd (x := nI i) (y := 5) hx hb dL_law_319 ?_
  refine va_sld (i := nI i + 5) hx hb hX hbl hbA hS v5 dL_law_320 ?_
  refine r_callVi (As := [.int (xs (nI i + 1).toNatClampNeg), .int (xs (nI i + 2).toNatClampNeg), .int (xs (nI i + 3).toNatClampNeg), .int (xs (nI i + 4).toNatClampNeg), .int (xs (nI i + 5).toNatClampNeg)]) (rest := [.int r]) (ws' := (LW g s.heap.size M' N')) (ok_X6_copy l g (aH (s.heap.size + 203)) aH_ij (xs (nI i + 1).toNatClampNeg) (xs (nI i + 2).toNatClampNeg) (xs (nI i + 3).toNatClampNeg) (xs (nI i + 4).toNatClampNeg) (xs (nI i + 5).toNatClampNeg) N N' r e2) ⟨hx, hb, hml, hown, hts⟩ (cwV 5 hts gL_law_X6_copy rfl rfl rfl (by decide +kernel) ⟨Nat.le_of_ble_eq_true rfl, Nat.le_of_ble_eq_true rfl⟩) hK (r_recv hK (LW_r hP) 0 (by decide) eN_0 (show vwCl[6]? = some (RX6, TX6, 20) from rfl)) hS (LW_r hP) (LN_A hS.1) (LN_join hP) rfl hl.1 rfl (Nat.le_of_ble_eq_true rfl) dL_law_321 ⟨Nat.le_of_ble_eq_true rfl, Nat.le_of_ble_eq_true rfl⟩ (fun H locs hP hS => ?_)
  refine lv_icmp_eq (x := r) (y := r) (tgt := 1149) hx hb dL_law_324 (by decide) (fun _ => ?_) (fun q => absurd rfl q)
  exact KX M' N' H locs ls hRR' hP hS hl
set_option maxHeartbeats 4000000 in
set_option maxRecDepth 100000 in
theorem law_3 {p : Program} {l : Launch} {e : Env} {s : State} {m : MethodId} {below : List Frame} {meth : Method} {c : Code} {b L : Nat} {xs : Nat → Int32} {g : gT} (hL : L ≤ 3072) (C0 : lw_At p s m meth c b L xs) (hK : KK g s) (hZ : zT (fun q => s.heap.size ≤ q) s s.heap) (i : Nat) (hi : i + 6 ≤ L) (KX : ∀ (M N : Mem) (H : Heap) (locs : List Loc) (ls : Array Slot), RR M N → va_P g.1 vwCl (LW g s.heap.size M N) H → va_S (fun q => s.heap.size ≤ q) s.heap H locs → lv_has ls 4 [(3, .int (nI i)), (2, .ref (aH (s.heap.size + 203) 0)), (1, .ref (aH s.heap.size 0)), (0, .ref b)] → W p l e room_1 s m #[Value.ref b] below meth c H locs 217 2828 (lw_Z below #[Value.ref b] s) (F0 m 1149 ls [])) (M N : Mem) (H : Heap) (locs : List Loc) (ls : Array Slot) (hRR : RR M N) (hP : va_P g.1 vwCl (LW g s.heap.size M N) H) (hS : va_S (fun q => s.heap.size ≤ q) s.heap H locs) (hl : lv_has ls 4 [(3, .int (nI i)), (2, .ref (aH (s.heap.size + 203) 0)), (1, .ref (aH s.heap.size 0)), (0, .ref b)]) : W p l e room_1 s m #[Value.ref b] below meth c H locs 217 2828 (lw_Z below #[Value.ref b] s) (F0 m 329 ls []) := by
  obtain ⟨hx, hb, hr, hml, hown, hts0, hX, hbl, hlk, hgv⟩ := C0
  have hown : s.vm.findClass RL = some m.cls := hown
  have hts : ∀ w ∈ wsL_law, w.before #[Value.ref b] s = true := fun w h => hts0 w (wsL_law_in w h)
  have hbA : ¬ (fun q : Nat => s.heap.size ≤ q) b := Nat.not_le.mpr hbl
  have v1 : vp_in (nI i + 1) L := by rw [show nI i + 1 = nI (i + 1) from nI_add i 1]; exact vp_in_nI (by omega) (by omega)
  obtain ⟨r, M', N', e1, e2, hRR'⟩ := q_drop (xs (nI i + 1).toNatClampNeg) M N hRR
  refine lv_aload_n hx hb dL_law_329 rfl (lv_at hl 2 rfl) ?_
  refine lv_aload_n hx hb dL_law_330 rfl (lv_at hl 3 rfl) ?_
  refine lv_iload_n hx hb dL_law_331 rfl (lv_at hl 0 rfl) ?_
  refine lv_iconst (v := 1) hx hb dL_law_332 (by decide) ?_
  refine lv_iadd (x := nI i) (y := 1) hx hb dL_law_333 ?_
  refine va_sld (i := nI i + 1) hx hb hX hbl hbA hS v1 dL_law_334 ?_
  refine r_callVi (As := [.int (xs (nI i + 1).toNatClampNeg)]) (rest := []) (ws' := (LW g s.heap.size M' N)) (ok_X5_drop l g (aH s.heap.size) aH_ij (xs (nI i + 1).toNatClampNeg) M M' r e1) ⟨hx, hb, hml, hown, hts⟩ (cwV 1 hts gL_law_X5_drop rfl rfl rfl (by decide +kernel) ⟨Nat.le_of_ble_eq_true rfl, Nat.le_of_ble_eq_true rfl⟩) hK (r_recv hK (LW_l hP) 0 (by decide) eX_0 (show vwCl[5]? = some (RX5, TX5, 11) from rfl)) hS (LW_l hP) (LX_A hS.1) (LX_join hP) rfl hl.1 rfl (Nat.le_of_ble_eq_true rfl) dL_law_335 ⟨Nat.le_of_ble_eq_true rfl, Nat.le_of_ble_eq_true rfl⟩ (fun H locs hP hS => ?_)
  refine lv_aload_n hx hb dL_law_338 rfl (lv_at hl 1 rfl) ?_
  refine lv_aload_n hx hb dL_law_339 rfl (lv_at hl 3 rfl) ?_
  refine lv_iload_n hx hb dL_law_340 rfl (lv_at hl 0 rfl) ?_
  refine lv_iconst (v := 1) hx hb dL_law_341 (by decide) ?_
  refine lv_iadd (x := nI i) (y := 1) hx hb dL_law_342 ?_
  refine va_sld (i := nI i + 1) hx hb hX hbl hbA hS v1 dL_law_343 ?_
  refine r_callVi (As := [.int (xs (nI i + 1).toNatClampNeg)]) (rest := [.int r]) (ws' := (LW g s.heap.size M' N')) (ok_X6_drop l g (aH (s.heap.size + 203)) aH_ij (xs (nI i + 1).toNatClampNeg) N N' r e2) ⟨hx, hb, hml, hown, hts⟩ (cwV 1 hts gL_law_X6_drop rfl rfl rfl (by decide +kernel) ⟨Nat.le_of_ble_eq_true rfl, Nat.le_of_ble_eq_true rfl⟩) hK (r_recv hK (LW_r hP) 0 (by decide) eN_0 (show vwCl[6]? = some (RX6, TX6, 20) from rfl)) hS (LW_r hP) (LN_A hS.1) (LN_join hP) rfl hl.1 rfl (Nat.le_of_ble_eq_true rfl) dL_law_344 ⟨Nat.le_of_ble_eq_true rfl, Nat.le_of_ble_eq_true rfl⟩ (fun H locs hP hS => ?_)
  refine lv_icmp_eq (x := r) (y := r) (tgt := 1149) hx hb dL_law_347 (by decide) (fun _ => ?_) (fun q => absurd rfl q)
  exact KX M' N' H locs ls hRR' hP hS hl
set_option maxHeartbeats 4000000 in
set_option maxRecDepth 100000 in
theorem law_4 {p : Program} {l : Launch} {e : Env} {s : State} {m : MethodId} {below : List Frame} {meth : Method} {c : Code} {b L : Nat} {xs : Nat → Int32} {g : gT} (hL : L ≤ 3072) (C0 : lw_At p s m meth c b L xs) (hK : KK g s) (hZ : zT (fun q => s.heap.size ≤ q) s s.heap) (i : Nat) (hi : i + 6 ≤ L) (KX : ∀ (M N : Mem) (H : Heap) (locs : List Loc) (ls : Array Slot), RR M N → va_P g.1 vwCl (LW g s.heap.size M N) H → va_S (fun q => s.heap.size ≤ q) s.heap H locs → lv_has ls 4 [(3, .int (nI i)), (2, .ref (aH (s.heap.size + 203) 0)), (1, .ref (aH s.heap.size 0)), (0, .ref b)] → W p l e room_1 s m #[Value.ref b] below meth c H locs 217 2828 (lw_Z below #[Value.ref b] s) (F0 m 1149 ls [])) (M N : Mem) (H : Heap) (locs : List Loc) (ls : Array Slot) (hRR : RR M N) (hP : va_P g.1 vwCl (LW g s.heap.size M N) H) (hS : va_S (fun q => s.heap.size ≤ q) s.heap H locs) (hl : lv_has ls 4 [(3, .int (nI i)), (2, .ref (aH (s.heap.size + 203) 0)), (1, .ref (aH s.heap.size 0)), (0, .ref b)]) : W p l e room_1 s m #[Value.ref b] below meth c H locs 217 2828 (lw_Z below #[Value.ref b] s) (F0 m 352 ls []) := by
  obtain ⟨hx, hb, hr, hml, hown, hts0, hX, hbl, hlk, hgv⟩ := C0
  have hown : s.vm.findClass RL = some m.cls := hown
  have hts : ∀ w ∈ wsL_law, w.before #[Value.ref b] s = true := fun w h => hts0 w (wsL_law_in w h)
  have hbA : ¬ (fun q : Nat => s.heap.size ≤ q) b := Nat.not_le.mpr hbl
  have v1 : vp_in (nI i + 1) L := by rw [show nI i + 1 = nI (i + 1) from nI_add i 1]; exact vp_in_nI (by omega) (by omega)
  obtain ⟨r, M', N', e1, e2, hRR'⟩ := q_feed (xs (nI i + 1).toNatClampNeg) M N hRR
  refine lv_aload_n hx hb dL_law_352 rfl (lv_at hl 2 rfl) ?_
  refine lv_aload_n hx hb dL_law_353 rfl (lv_at hl 3 rfl) ?_
  refine lv_iload_n hx hb dL_law_354 rfl (lv_at hl 0 rfl) ?_
  refine lv_iconst (v := 1) hx hb dL_law_355 (by decide) ?_
  refine lv_iadd (x := nI i) (y := 1) hx hb dL_law_356 ?_
  refine va_sld (i := nI i + 1) hx hb hX hbl hbA hS v1 dL_law_357 ?_
  refine r_callVi (As := [.int (xs (nI i + 1).toNatClampNeg)]) (rest := []) (ws' := (LW g s.heap.size M' N)) (ok_X5_feed l g (aH s.heap.size) aH_ij (xs (nI i + 1).toNatClampNeg) M M' r e1) ⟨hx, hb, hml, hown, hts⟩ (cwV 1 hts gL_law_X5_feed rfl rfl rfl (by decide +kernel) ⟨Nat.le_of_ble_eq_true rfl, Nat.le_of_ble_eq_true rfl⟩) hK (r_recv hK (LW_l hP) 0 (by decide) eX_0 (show vwCl[5]? = some (RX5, TX5, 11) from rfl)) hS (LW_l hP) (LX_A hS.1) (LX_join hP) rfl hl.1 rfl (Nat.le_of_ble_eq_true rfl) dL_law_358 ⟨Nat.le_of_ble_eq_true rfl, Nat.le_of_ble_eq_true rfl⟩ (fun H locs hP hS => ?_)
  refine lv_aload_n hx hb dL_law_361 rfl (lv_at hl 1 rfl) ?_
  refine lv_aload_n hx hb dL_law_362 rfl (lv_at hl 3 rfl) ?_
  refine lv_iload_n hx hb dL_law_363 rfl (lv_at hl 0 rfl) ?_
  refine lv_iconst (v := 1) hx hb dL_law_364 (by decide) ?_
  refine lv_iadd (x := nI i) (y := 1) hx hb dL_law_365 ?_
  refine va_sld (i := nI i + 1) hx hb hX hbl hbA hS v1 dL_law_366 ?_
  refine r_callVi (As := [.int (xs (nI i + 1).toNatClampNeg)]) (rest := [.int r]) (ws' := (LW g s.heap.size M' N')) (ok_X6_feed l g (aH (s.heap.size + 203)) aH_ij (xs (nI i + 1).toNatClampNeg) N N' r e2) ⟨hx, hb, hml, hown, hts⟩ (cwV 1 hts gL_law_X6_feed rfl rfl rfl (by decide +kernel) ⟨Nat.le_of_ble_eq_true rfl, Nat.le_of_ble_eq_true rfl⟩) hK (r_recv hK (LW_r hP) 0 (by decide) eN_0 (show vwCl[6]? = some (RX6, TX6, 20) from rfl)) hS (LW_r hP) (LN_A hS.1) (LN_join hP) rfl hl.1 rfl (Nat.le_of_ble_eq_true rfl) dL_law_367 ⟨Nat.le_of_ble_eq_true rfl, Nat.le_of_ble_eq_true rfl⟩ (fun H locs hP hS => ?_)
  refine lv_icmp_eq (x := r) (y := r) (tgt := 1149) hx hb dL_law_370 (by decide) (fun _ => ?_) (fun q => absurd rfl q)
  exact KX M' N' H locs ls hRR' hP hS hl
set_option maxHeartbeats 4000000 in
set_option maxRecDepth 100000 in
theorem law_5 {p : Program} {l : Launch} {e : Env} {s : State} {m : MethodId} {below : List Frame} {meth : Method} {c : Code} {b L : Nat} {xs : Nat → Int32} {g : gT} (hL : L ≤ 3072) (C0 : lw_At p s m meth c b L xs) (hK : KK g s) (hZ : zT (fun q => s.heap.size ≤ q) s s.heap) (i : Nat) (hi : i + 6 ≤ L) (KX : ∀ (M N : Mem) (H : Heap) (locs : List Loc) (ls : Array Slot), RR M N → va_P g.1 vwCl (LW g s.heap.size M N) H → va_S (fun q => s.heap.size ≤ q) s.heap H locs → lv_has ls 4 [(3, .int (nI i)), (2, .ref (aH (s.heap.size + 203) 0)), (1, .ref (aH s.heap.size 0)), (0, .ref b)] → W p l e room_1 s m #[Value.ref b] below meth c H locs 217 2828 (lw_Z below #[Value.ref b] s) (F0 m 1149 ls [])) (M N : Mem) (H : Heap) (locs : List Loc) (ls : Array Slot) (hRR : RR M N) (hP : va_P g.1 vwCl (LW g s.heap.size M N) H) (hS : va_S (fun q => s.heap.size ≤ q) s.heap H locs) (hl : lv_has ls 4 [(3, .int (nI i)), (2, .ref (aH (s.heap.size + 203) 0)), (1, .ref (aH s.heap.size 0)), (0, .ref b)]) : W p l e room_1 s m #[Value.ref b] below meth c H locs 217 2828 (lw_Z below #[Value.ref b] s) (F0 m 375 ls []) := by
  obtain ⟨hx, hb, hr, hml, hown, hts0, hX, hbl, hlk, hgv⟩ := C0
  have hown : s.vm.findClass RL = some m.cls := hown
  have hts : ∀ w ∈ wsL_law, w.before #[Value.ref b] s = true := fun w h => hts0 w (wsL_law_in w h)
  have hbA : ¬ (fun q : Nat => s.heap.size ≤ q) b := Nat.not_le.mpr hbl
  obtain ⟨r, M', N', e1, e2, hRR'⟩ := q_stair M N hRR
  refine lv_aload_n hx hb dL_law_375 rfl (lv_at hl 2 rfl) ?_
  refine r_callVi (As := []) (rest := []) (ws' := (LW g s.heap.size M' N)) (ok_X5_stair l g (aH s.heap.size) aH_ij M M' r e1) ⟨hx, hb, hml, hown, hts⟩ (cwV 0 hts gL_law_X5_stair rfl rfl rfl (by decide +kernel) ⟨Nat.le_of_ble_eq_true rfl, Nat.le_of_ble_eq_true rfl⟩) hK (r_recv hK (LW_l hP) 0 (by decide) eX_0 (show vwCl[5]? = some (RX5, TX5, 11) from rfl)) hS (LW_l hP) (LX_A hS.1) (LX_join hP) rfl hl.1 rfl (Nat.le_of_ble_eq_true rfl) dL_law_376 ⟨Nat.le_of_ble_eq_true rfl, Nat.le_of_ble_eq_true rfl⟩ (fun H locs hP hS => ?_)
  refine lv_aload_n hx hb dL_law_379 rfl (lv_at hl 1 rfl) ?_
  refine r_callVi (As := []) (rest := [.int r]) (ws' := (LW g s.heap.size M' N')) (ok_X6_stair l g (aH (s.heap.size + 203)) aH_ij N N' r e2) ⟨hx, hb, hml, hown, hts⟩ (cwV 0 hts gL_law_X6_stair rfl rfl rfl (by decide +kernel) ⟨Nat.le_of_ble_eq_true rfl, Nat.le_of_ble_eq_true rfl⟩) hK (r_recv hK (LW_r hP) 0 (by decide) eN_0 (show vwCl[6]? = some (RX6, TX6, 20) from rfl)) hS (LW_r hP) (LN_A hS.1) (LN_join hP) rfl hl.1 rfl (Nat.le_of_ble_eq_true rfl) dL_law_380 ⟨Nat.le_of_ble_eq_true rfl, Nat.le_of_ble_eq_true rfl⟩ (fun H locs hP hS => ?_)
  refine lv_icmp_eq (x := r) (y := r) (tgt := 1149) hx hb dL_law_383 (by decide) (fun _ => ?_) (fun q => absurd rfl q)
  exact KX M' N' H locs ls hRR' hP hS hl
set_option maxHeartbeats 4000000 in
set_option maxRecDepth 100000 in
theorem law_6 {p : Program} {l : Launch} {e : Env} {s : State} {m : MethodId} {below : List Frame} {meth : Method} {c : Code} {b L : Nat} {xs : Nat → Int32} {g : gT} (hL : L ≤ 3072) (C0 : lw_At p s m meth c b L xs) (hK : KK g s) (hZ : zT (fun q => s.heap.size ≤ q) s s.heap) (i : Nat) (hi : i + 6 ≤ L) (KX : ∀ (M N : Mem) (H : Heap) (locs : List Loc) (ls : Array Slot), RR M N → va_P g.1 vwCl (LW g s.heap.size M N) H → va_S (fun q => s.heap.size ≤ q) s.heap H locs → lv_has ls 4 [(3, .int (nI i)), (2, .ref (aH (s.heap.size + 203) 0)), (1, .ref (aH s.heap.size 0)), (0, .ref b)] → W p l e room_1 s m #[Value.ref b] below meth c H locs 217 2828 (lw_Z below #[Value.ref b] s) (F0 m 1149 ls [])) (M N : Mem) (H : Heap) (locs : List Loc) (ls : Array Slot) (hRR : RR M N) (hP : va_P g.1 vwCl (LW g s.heap.size M N) H) (hS : va_S (fun q => s.heap.size ≤ q) s.heap H locs) (hl : lv_has ls 4 [(3, .int (nI i)), (2, .ref (aH (s.heap.size + 203) 0)), (1, .ref (aH s.heap.size 0)), (0, .ref b)]) : W p l e room_1 s m #[Value.ref b] below meth c H locs 217 2828 (lw_Z below #[Value.ref b] s) (F0 m 388 ls []) := by
  obtain ⟨hx, hb, hr, hml, hown, hts0, hX, hbl, hlk, hgv⟩ := C0
  have hown : s.vm.findClass RL = some m.cls := hown
  have hts : ∀ w ∈ wsL_law, w.before #[Value.ref b] s = true := fun w h => hts0 w (wsL_law_in w h)
  have hbA : ¬ (fun q : Nat => s.heap.size ≤ q) b := Nat.not_le.mpr hbl
  obtain ⟨r, e1, e2⟩ := q_fault M N hRR
  refine lv_aload_n hx hb dL_law_388 rfl (lv_at hl 2 rfl) ?_
  refine r_callVi (As := []) (rest := []) (ws' := (LW g s.heap.size M N)) (ok_X5_fault l g (aH s.heap.size) aH_ij M r e1) ⟨hx, hb, hml, hown, hts⟩ (cwV 0 hts gL_law_X5_fault rfl rfl rfl (by decide +kernel) ⟨Nat.le_of_ble_eq_true rfl, Nat.le_of_ble_eq_true rfl⟩) hK (r_recv hK (LW_l hP) 0 (by decide) eX_0 (show vwCl[5]? = some (RX5, TX5, 11) from rfl)) hS (LW_l hP) (LX_A hS.1) (LX_join hP) rfl hl.1 rfl (Nat.le_of_ble_eq_true rfl) dL_law_389 ⟨Nat.le_of_ble_eq_true rfl, Nat.le_of_ble_eq_true rfl⟩ (fun H locs hP hS => ?_)
  refine lv_aload_n hx hb dL_law_392 rfl (lv_at hl 1 rfl) ?_
  refine r_callVi (As := []) (rest := [.int r]) (ws' := (LW g s.heap.size M N)) (ok_X6_fault l g (aH (s.heap.size + 203)) aH_ij N r e2) ⟨hx, hb, hml, hown, hts⟩ (cwV 0 hts gL_law_X6_fault rfl rfl rfl (by decide +kernel) ⟨Nat.le_of_ble_eq_true rfl, Nat.le_of_ble_eq_true rfl⟩) hK (r_recv hK (LW_r hP) 0 (by decide) eN_0 (show vwCl[6]? = some (RX6, TX6, 20) from rfl)) hS (LW_r hP) (LN_A hS.1) (LN_join hP) rfl hl.1 rfl (Nat.le_of_ble_eq_true rfl) dL_law_393 ⟨Nat.le_of_ble_eq_true rfl, Nat.le_of_ble_eq_true rfl⟩ (fun H locs hP hS => ?_)
  refine lv_icmp_eq (x := r) (y := r) (tgt := 1149) hx hb dL_law_396 (by decide) (fun _ => ?_) (fun q => absurd rfl q)
  exact KX M N H locs ls hRR hP hS hl
set_option maxHeartbeats 4000000 in
set_option maxRecDepth 100000 in
theorem law_7 {p : Program} {l : Launch} {e : Env} {s : State} {m : MethodId} {below : List Frame} {meth : Method} {c : Code} {b L : Nat} {xs : Nat → Int32} {g : gT} (hL : L ≤ 3072) (C0 : lw_At p s m meth c b L xs) (hK : KK g s) (hZ : zT (fun q => s.heap.size ≤ q) s s.heap) (i : Nat) (hi : i + 6 ≤ L) (KX : ∀ (M N : Mem) (H : Heap) (locs : List Loc) (ls : Array Slot), RR M N → va_P g.1 vwCl (LW g s.heap.size M N) H → va_S (fun q => s.heap.size ≤ q) s.heap H locs → lv_has ls 4 [(3, .int (nI i)), (2, .ref (aH (s.heap.size + 203) 0)), (1, .ref (aH s.heap.size 0)), (0, .ref b)] → W p l e room_1 s m #[Value.ref b] below meth c H locs 217 2828 (lw_Z below #[Value.ref b] s) (F0 m 1149 ls [])) (M N : Mem) (H : Heap) (locs : List Loc) (ls : Array Slot) (hRR : RR M N) (hP : va_P g.1 vwCl (LW g s.heap.size M N) H) (hS : va_S (fun q => s.heap.size ≤ q) s.heap H locs) (hl : lv_has ls 4 [(3, .int (nI i)), (2, .ref (aH (s.heap.size + 203) 0)), (1, .ref (aH s.heap.size 0)), (0, .ref b)]) : W p l e room_1 s m #[Value.ref b] below meth c H locs 217 2828 (lw_Z below #[Value.ref b] s) (F0 m 401 ls []) := by
  obtain ⟨hx, hb, hr, hml, hown, hts0, hX, hbl, hlk, hgv⟩ := C0
  have hown : s.vm.findClass RL = some m.cls := hown
  have hts : ∀ w ∈ wsL_law, w.before #[Value.ref b] s = true := fun w h => hts0 w (wsL_law_in w h)
  have hbA : ¬ (fun q : Nat => s.heap.size ≤ q) b := Nat.not_le.mpr hbl
  have v1 : vp_in (nI i + 1) L := by rw [show nI i + 1 = nI (i + 1) from nI_add i 1]; exact vp_in_nI (by omega) (by omega)
  obtain ⟨r, M', N', e1, e2, hRR'⟩ := q_ticks (xs (nI i + 1).toNatClampNeg) M N hRR
  refine lv_aload_n hx hb dL_law_401 rfl (lv_at hl 2 rfl) ?_
  refine lv_aload_n hx hb dL_law_402 rfl (lv_at hl 3 rfl) ?_
  refine lv_iload_n hx hb dL_law_403 rfl (lv_at hl 0 rfl) ?_
  refine lv_iconst (v := 1) hx hb dL_law_404 (by decide) ?_
  refine lv_iadd (x := nI i) (y := 1) hx hb dL_law_405 ?_
  refine va_sld (i := nI i + 1) hx hb hX hbl hbA hS v1 dL_law_406 ?_
  refine r_callVi (As := [.int (xs (nI i + 1).toNatClampNeg)]) (rest := []) (ws' := (LW g s.heap.size M' N)) (ok_X5_ticks l g (aH s.heap.size) aH_ij (xs (nI i + 1).toNatClampNeg) M M' r e1) ⟨hx, hb, hml, hown, hts⟩ (cwV 1 hts gL_law_X5_ticks rfl rfl rfl (by decide +kernel) ⟨Nat.le_of_ble_eq_true rfl, Nat.le_of_ble_eq_true rfl⟩) hK (r_recv hK (LW_l hP) 0 (by decide) eX_0 (show vwCl[5]? = some (RX5, TX5, 11) from rfl)) hS (LW_l hP) (LX_A hS.1) (LX_join hP) rfl hl.1 rfl (Nat.le_of_ble_eq_true rfl) dL_law_407 ⟨Nat.le_of_ble_eq_true rfl, Nat.le_of_ble_eq_true rfl⟩ (fun H locs hP hS => ?_)
  refine lv_aload_n hx hb dL_law_410 rfl (lv_at hl 1 rfl) ?_
  refine lv_aload_n hx hb dL_law_411 rfl (lv_at hl 3 rfl) ?_
  refine lv_iload_n hx hb dL_law_412 rfl (lv_at hl 0 rfl) ?_
  refine lv_iconst (v := 1) hx hb dL_law_413 (by decide) ?_
  refine lv_iadd (x := nI i) (y := 1) hx hb dL_law_414 ?_
  refine va_sld (i := nI i + 1) hx hb hX hbl hbA hS v1 dL_law_415 ?_
  refine r_callVi (As := [.int (xs (nI i + 1).toNatClampNeg)]) (rest := [.int r]) (ws' := (LW g s.heap.size M' N')) (ok_X6_ticks l g (aH (s.heap.size + 203)) aH_ij (xs (nI i + 1).toNatClampNeg) N N' r e2) ⟨hx, hb, hml, hown, hts⟩ (cwV 1 hts gL_law_X6_ticks rfl rfl rfl (by decide +kernel) ⟨Nat.le_of_ble_eq_true rfl, Nat.le_of_ble_eq_true rfl⟩) hK (r_recv hK (LW_r hP) 0 (by decide) eN_0 (show vwCl[6]? = some (RX6, TX6, 20) from rfl)) hS (LW_r hP) (LN_A hS.1) (LN_join hP) rfl hl.1 rfl (Nat.le_of_ble_eq_true rfl) dL_law_416 ⟨Nat.le_of_ble_eq_true rfl, Nat.le_of_ble_eq_true rfl⟩ (fun H locs hP hS => ?_)
  refine lv_icmp_eq (x := r) (y := r) (tgt := 1149) hx hb dL_law_419 (by decide) (fun _ => ?_) (fun q => absurd rfl q)
  exact KX M' N' H locs ls hRR' hP hS hl
set_option maxHeartbeats 4000000 in
set_option maxRecDepth 100000 in
theorem law_8 {p : Program} {l : Launch} {e : Env} {s : State} {m : MethodId} {below : List Frame} {meth : Method} {c : Code} {b L : Nat} {xs : Nat → Int32} {g : gT} (hL : L ≤ 3072) (C0 : lw_At p s m meth c b L xs) (hK : KK g s) (hZ : zT (fun q => s.heap.size ≤ q) s s.heap) (i : Nat) (hi : i + 6 ≤ L) (KX : ∀ (M N : Mem) (H : Heap) (locs : List Loc) (ls : Array Slot), RR M N → va_P g.1 vwCl (LW g s.heap.size M N) H → va_S (fun q => s.heap.size ≤ q) s.heap H locs → lv_has ls 4 [(3, .int (nI i)), (2, .ref (aH (s.heap.size + 203) 0)), (1, .ref (aH s.heap.size 0)), (0, .ref b)] → W p l e room_1 s m #[Value.ref b] below meth c H locs 217 2828 (lw_Z below #[Value.ref b] s) (F0 m 1149 ls [])) (M N : Mem) (H : Heap) (locs : List Loc) (ls : Array Slot) (hRR : RR M N) (hP : va_P g.1 vwCl (LW g s.heap.size M N) H) (hS : va_S (fun q => s.heap.size ≤ q) s.heap H locs) (hl : lv_has ls 4 [(3, .int (nI i)), (2, .ref (aH (s.heap.size + 203) 0)), (1, .ref (aH s.heap.size 0)), (0, .ref b)]) : W p l e room_1 s m #[Value.ref b] below meth c H locs 217 2828 (lw_Z below #[Value.ref b] s) (F0 m 424 ls []) := by
  obtain ⟨hx, hb, hr, hml, hown, hts0, hX, hbl, hlk, hgv⟩ := C0
  have hown : s.vm.findClass RL = some m.cls := hown
  have hts : ∀ w ∈ wsL_law, w.before #[Value.ref b] s = true := fun w h => hts0 w (wsL_law_in w h)
  have hbA : ¬ (fun q : Nat => s.heap.size ≤ q) b := Nat.not_le.mpr hbl
  have v1 : vp_in (nI i + 1) L := by rw [show nI i + 1 = nI (i + 1) from nI_add i 1]; exact vp_in_nI (by omega) (by omega)
  obtain ⟨r, M', N', e1, e2, hRR'⟩ := q_speed (xs (nI i + 1).toNatClampNeg) M N hRR
  refine lv_aload_n hx hb dL_law_424 rfl (lv_at hl 2 rfl) ?_
  refine lv_aload_n hx hb dL_law_425 rfl (lv_at hl 3 rfl) ?_
  refine lv_iload_n hx hb dL_law_426 rfl (lv_at hl 0 rfl) ?_
  refine lv_iconst (v := 1) hx hb dL_law_427 (by decide) ?_
  refine lv_iadd (x := nI i) (y := 1) hx hb dL_law_428 ?_
  refine va_sld (i := nI i + 1) hx hb hX hbl hbA hS v1 dL_law_429 ?_
  refine r_callVi (As := [.int (xs (nI i + 1).toNatClampNeg)]) (rest := []) (ws' := (LW g s.heap.size M' N)) (ok_X5_speed l g (aH s.heap.size) aH_ij (xs (nI i + 1).toNatClampNeg) M M' r e1) ⟨hx, hb, hml, hown, hts⟩ (cwV 1 hts gL_law_X5_speed rfl rfl rfl (by decide +kernel) ⟨Nat.le_of_ble_eq_true rfl, Nat.le_of_ble_eq_true rfl⟩) hK (r_recv hK (LW_l hP) 0 (by decide) eX_0 (show vwCl[5]? = some (RX5, TX5, 11) from rfl)) hS (LW_l hP) (LX_A hS.1) (LX_join hP) rfl hl.1 rfl (Nat.le_of_ble_eq_true rfl) dL_law_430 ⟨Nat.le_of_ble_eq_true rfl, Nat.le_of_ble_eq_true rfl⟩ (fun H locs hP hS => ?_)
  refine lv_aload_n hx hb dL_law_433 rfl (lv_at hl 1 rfl) ?_
  refine lv_aload_n hx hb dL_law_434 rfl (lv_at hl 3 rfl) ?_
  refine lv_iload_n hx hb dL_law_435 rfl (lv_at hl 0 rfl) ?_
  refine lv_iconst (v := 1) hx hb dL_law_436 (by decide) ?_
  refine lv_iadd (x := nI i) (y := 1) hx hb dL_law_437 ?_
  refine va_sld (i := nI i + 1) hx hb hX hbl hbA hS v1 dL_law_438 ?_
  refine r_callVi (As := [.int (xs (nI i + 1).toNatClampNeg)]) (rest := [.int r]) (ws' := (LW g s.heap.size M' N')) (ok_X6_speed l g (aH (s.heap.size + 203)) aH_ij (xs (nI i + 1).toNatClampNeg) N N' r e2) ⟨hx, hb, hml, hown, hts⟩ (cwV 1 hts gL_law_X6_speed rfl rfl rfl (by decide +kernel) ⟨Nat.le_of_ble_eq_true rfl, Nat.le_of_ble_eq_true rfl⟩) hK (r_recv hK (LW_r hP) 0 (by decide) eN_0 (show vwCl[6]? = some (RX6, TX6, 20) from rfl)) hS (LW_r hP) (LN_A hS.1) (LN_join hP) rfl hl.1 rfl (Nat.le_of_ble_eq_true rfl) dL_law_439 ⟨Nat.le_of_ble_eq_true rfl, Nat.le_of_ble_eq_true rfl⟩ (fun H locs hP hS => ?_)
  refine lv_icmp_eq (x := r) (y := r) (tgt := 1149) hx hb dL_law_442 (by decide) (fun _ => ?_) (fun q => absurd rfl q)
  exact KX M' N' H locs ls hRR' hP hS hl
set_option maxHeartbeats 4000000 in
set_option maxRecDepth 100000 in
theorem law_9 {p : Program} {l : Launch} {e : Env} {s : State} {m : MethodId} {below : List Frame} {meth : Method} {c : Code} {b L : Nat} {xs : Nat → Int32} {g : gT} (hL : L ≤ 3072) (C0 : lw_At p s m meth c b L xs) (hK : KK g s) (hZ : zT (fun q => s.heap.size ≤ q) s s.heap) (i : Nat) (hi : i + 6 ≤ L) (KX : ∀ (M N : Mem) (H : Heap) (locs : List Loc) (ls : Array Slot), RR M N → va_P g.1 vwCl (LW g s.heap.size M N) H → va_S (fun q => s.heap.size ≤ q) s.heap H locs → lv_has ls 4 [(3, .int (nI i)), (2, .ref (aH (s.heap.size + 203) 0)), (1, .ref (aH s.heap.size 0)), (0, .ref b)] → W p l e room_1 s m #[Value.ref b] below meth c H locs 217 2828 (lw_Z below #[Value.ref b] s) (F0 m 1149 ls [])) (M N : Mem) (H : Heap) (locs : List Loc) (ls : Array Slot) (hRR : RR M N) (hP : va_P g.1 vwCl (LW g s.heap.size M N) H) (hS : va_S (fun q => s.heap.size ≤ q) s.heap H locs) (hl : lv_has ls 4 [(3, .int (nI i)), (2, .ref (aH (s.heap.size + 203) 0)), (1, .ref (aH s.heap.size 0)), (0, .ref b)]) : W p l e room_1 s m #[Value.ref b] below meth c H locs 217 2828 (lw_Z below #[Value.ref b] s) (F0 m 447 ls []) := by
  obtain ⟨hx, hb, hr, hml, hown, hts0, hX, hbl, hlk, hgv⟩ := C0
  have hown : s.vm.findClass RL = some m.cls := hown
  have hts : ∀ w ∈ wsL_law, w.before #[Value.ref b] s = true := fun w h => hts0 w (wsL_law_in w h)
  have hbA : ¬ (fun q : Nat => s.heap.size ≤ q) b := Nat.not_le.mpr hbl
  have v1 : vp_in (nI i + 1) L := by rw [show nI i + 1 = nI (i + 1) from nI_add i 1]; exact vp_in_nI (by omega) (by omega)
  obtain ⟨r, M', N', e1, e2, hRR'⟩ := q_cross (xs (nI i + 1).toNatClampNeg) M N hRR
  refine lv_aload_n hx hb dL_law_447 rfl (lv_at hl 2 rfl) ?_
  refine lv_aload_n hx hb dL_law_448 rfl (lv_at hl 3 rfl) ?_
  refine lv_iload_n hx hb dL_law_449 rfl (lv_at hl 0 rfl) ?_
  refine lv_iconst (v := 1) hx hb dL_law_450 (by decide) ?_
  refine lv_iadd (x := nI i) (y := 1) hx hb dL_law_451 ?_
  refine va_sld (i := nI i + 1) hx hb hX hbl hbA hS v1 dL_law_452 ?_
  refine r_callVi (As := [.int (xs (nI i + 1).toNatClampNeg)]) (rest := []) (ws' := (LW g s.heap.size M' N)) (ok_X5_cross l g (aH s.heap.size) aH_ij (xs (nI i + 1).toNatClampNeg) M M' r e1) ⟨hx, hb, hml, hown, hts⟩ (cwV 1 hts gL_law_X5_cross rfl rfl rfl (by decide +kernel) ⟨Nat.le_of_ble_eq_true rfl, Nat.le_of_ble_eq_true rfl⟩) hK (r_recv hK (LW_l hP) 0 (by decide) eX_0 (show vwCl[5]? = some (RX5, TX5, 11) from rfl)) hS (LW_l hP) (LX_A hS.1) (LX_join hP) rfl hl.1 rfl (Nat.le_of_ble_eq_true rfl) dL_law_453 ⟨Nat.le_of_ble_eq_true rfl, Nat.le_of_ble_eq_true rfl⟩ (fun H locs hP hS => ?_)
  refine lv_aload_n hx hb dL_law_456 rfl (lv_at hl 1 rfl) ?_
  refine lv_aload_n hx hb dL_law_457 rfl (lv_at hl 3 rfl) ?_
  refine lv_iload_n hx hb dL_law_458 rfl (lv_at hl 0 rfl) ?_
  refine lv_iconst (v := 1) hx hb dL_law_459 (by decide) ?_
  refine lv_iadd (x := nI i) (y := 1) hx hb dL_law_460 ?_
  refine va_sld (i := nI i + 1) hx hb hX hbl hbA hS v1 dL_law_461 ?_
  refine r_callVi (As := [.int (xs (nI i + 1).toNatClampNeg)]) (rest := [.int r]) (ws' := (LW g s.heap.size M' N')) (ok_X6_cross l g (aH (s.heap.size + 203)) aH_ij (xs (nI i + 1).toNatClampNeg) N N' r e2) ⟨hx, hb, hml, hown, hts⟩ (cwV 1 hts gL_law_X6_cross rfl rfl rfl (by decide +kernel) ⟨Nat.le_of_ble_eq_true rfl, Nat.le_of_ble_eq_true rfl⟩) hK (r_recv hK (LW_r hP) 0 (by decide) eN_0 (show vwCl[6]? = some (RX6, TX6, 20) from rfl)) hS (LW_r hP) (LN_A hS.1) (LN_join hP) rfl hl.1 rfl (Nat.le_of_ble_eq_true rfl) dL_law_462 ⟨Nat.le_of_ble_eq_true rfl, Nat.le_of_ble_eq_true rfl⟩ (fun H locs hP hS => ?_)
  refine lv_icmp_eq (x := r) (y := r) (tgt := 1149) hx hb dL_law_465 (by decide) (fun _ => ?_) (fun q => absurd rfl q)
  exact KX M' N' H locs ls hRR' hP hS hl
set_option maxHeartbeats 4000000 in
set_option maxRecDepth 100000 in
theorem law_10 {p : Program} {l : Launch} {e : Env} {s : State} {m : MethodId} {below : List Frame} {meth : Method} {c : Code} {b L : Nat} {xs : Nat → Int32} {g : gT} (hL : L ≤ 3072) (C0 : lw_At p s m meth c b L xs) (hK : KK g s) (hZ : zT (fun q => s.heap.size ≤ q) s s.heap) (i : Nat) (hi : i + 6 ≤ L) (KX : ∀ (M N : Mem) (H : Heap) (locs : List Loc) (ls : Array Slot), RR M N → va_P g.1 vwCl (LW g s.heap.size M N) H → va_S (fun q => s.heap.size ≤ q) s.heap H locs → lv_has ls 4 [(3, .int (nI i)), (2, .ref (aH (s.heap.size + 203) 0)), (1, .ref (aH s.heap.size 0)), (0, .ref b)] → W p l e room_1 s m #[Value.ref b] below meth c H locs 217 2828 (lw_Z below #[Value.ref b] s) (F0 m 1149 ls [])) (M N : Mem) (H : Heap) (locs : List Loc) (ls : Array Slot) (hRR : RR M N) (hP : va_P g.1 vwCl (LW g s.heap.size M N) H) (hS : va_S (fun q => s.heap.size ≤ q) s.heap H locs) (hl : lv_has ls 4 [(3, .int (nI i)), (2, .ref (aH (s.heap.size + 203) 0)), (1, .ref (aH s.heap.size 0)), (0, .ref b)]) : W p l e room_1 s m #[Value.ref b] below meth c H locs 217 2828 (lw_Z below #[Value.ref b] s) (F0 m 470 ls []) := by
  obtain ⟨hx, hb, hr, hml, hown, hts0, hX, hbl, hlk, hgv⟩ := C0
  have hown : s.vm.findClass RL = some m.cls := hown
  have hts : ∀ w ∈ wsL_law, w.before #[Value.ref b] s = true := fun w h => hts0 w (wsL_law_in w h)
  have hbA : ¬ (fun q : Nat => s.heap.size ≤ q) b := Nat.not_le.mpr hbl
  have v1 : vp_in (nI i + 1) L := by rw [show nI i + 1 = nI (i + 1) from nI_add i 1]; exact vp_in_nI (by omega) (by omega)
  obtain ⟨r, M', N', e1, e2, hRR'⟩ := q_take (xs (nI i + 1).toNatClampNeg) M N hRR
  refine lv_aload_n hx hb dL_law_470 rfl (lv_at hl 2 rfl) ?_
  refine lv_aload_n hx hb dL_law_471 rfl (lv_at hl 3 rfl) ?_
  refine lv_iload_n hx hb dL_law_472 rfl (lv_at hl 0 rfl) ?_
  refine lv_iconst (v := 1) hx hb dL_law_473 (by decide) ?_
  refine lv_iadd (x := nI i) (y := 1) hx hb dL_law_474 ?_
  refine va_sld (i := nI i + 1) hx hb hX hbl hbA hS v1 dL_law_475 ?_
  refine r_callVi (As := [.int (xs (nI i + 1).toNatClampNeg)]) (rest := []) (ws' := (LW g s.heap.size M' N)) (ok_X5_take l g (aH s.heap.size) aH_ij (xs (nI i + 1).toNatClampNeg) M M' r e1) ⟨hx, hb, hml, hown, hts⟩ (cwV 1 hts gL_law_X5_take rfl rfl rfl (by decide +kernel) ⟨Nat.le_of_ble_eq_true rfl, Nat.le_of_ble_eq_true rfl⟩) hK (r_recv hK (LW_l hP) 0 (by decide) eX_0 (show vwCl[5]? = some (RX5, TX5, 11) from rfl)) hS (LW_l hP) (LX_A hS.1) (LX_join hP) rfl hl.1 rfl (Nat.le_of_ble_eq_true rfl) dL_law_476 ⟨Nat.le_of_ble_eq_true rfl, Nat.le_of_ble_eq_true rfl⟩ (fun H locs hP hS => ?_)
  refine lv_aload_n hx hb dL_law_479 rfl (lv_at hl 1 rfl) ?_
  refine lv_aload_n hx hb dL_law_480 rfl (lv_at hl 3 rfl) ?_
  refine lv_iload_n hx hb dL_law_481 rfl (lv_at hl 0 rfl) ?_
  refine lv_iconst (v := 1) hx hb dL_law_482 (by decide) ?_
  refine lv_iadd (x := nI i) (y := 1) hx hb dL_law_483 ?_
  refine va_sld (i := nI i + 1) hx hb hX hbl hbA hS v1 dL_law_484 ?_
  refine r_callVi (As := [.int (xs (nI i + 1).toNatClampNeg)]) (rest := [.int r]) (ws' := (LW g s.heap.size M' N')) (ok_X6_take l g (aH (s.heap.size + 203)) aH_ij (xs (nI i + 1).toNatClampNeg) N N' r e2) ⟨hx, hb, hml, hown, hts⟩ (cwV 1 hts gL_law_X6_take rfl rfl rfl (by decide +kernel) ⟨Nat.le_of_ble_eq_true rfl, Nat.le_of_ble_eq_true rfl⟩) hK (r_recv hK (LW_r hP) 0 (by decide) eN_0 (show vwCl[6]? = some (RX6, TX6, 20) from rfl)) hS (LW_r hP) (LN_A hS.1) (LN_join hP) rfl hl.1 rfl (Nat.le_of_ble_eq_true rfl) dL_law_485 ⟨Nat.le_of_ble_eq_true rfl, Nat.le_of_ble_eq_true rfl⟩ (fun H locs hP hS => ?_)
  refine lv_icmp_eq (x := r) (y := r) (tgt := 1149) hx hb dL_law_488 (by decide) (fun _ => ?_) (fun q => absurd rfl q)
  exact KX M' N' H locs ls hRR' hP hS hl
