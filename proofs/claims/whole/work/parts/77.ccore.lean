/-! constructors: worlds that grow, cell behind cell, from the address h on -/
abbrev aH (h : Nat) : Nat → Nat := fun i => h + i
def KN (U : State) : Prop := (va_Nw (.methodLinkNest RX5 17 yX3_init "StepRiders") U ∧ va_Nw (.methodLinkNest RX5 24 yX2_init "StepRiders") U ∧ va_Nw (.methodLinkNest RX0 24 yX2_init "StepRiders") U) ∧ (va_Nw (.methodLinkNest RX5 42 yX4_init "StepRiders") U ∧ va_Nw (.methodLinkNest RX5 64 yX1_init "StepRiders") U) ∧ va_AO RX1 U ∧ va_AO RX2 U
theorem KN.warm {s U : State} (hW : s.WarmedH U.vm) (h : KN s) : KN U := ⟨⟨h.1.1.warmM hW, h.1.2.1.warmM hW, h.1.2.2.warmM hW⟩, ⟨h.2.1.1.warmM hW, h.2.1.2.warmM hW⟩, h.2.2.1.moved hW.alike, h.2.2.2.moved hW.alike⟩
theorem KN.same {s U : State} (hv : s.vm = U.vm) (h : KN s) : KN U := ⟨⟨h.1.1.same rfl hv, h.1.2.1.same rfl hv, h.1.2.2.same rfl hv⟩, ⟨h.2.1.1.same rfl hv, h.2.1.2.same rfl hv⟩, h.2.2.1.moved (by rw [← hv]; exact Vm.Alike.refl s.vm), h.2.2.2.moved (by rw [← hv]; exact Vm.Alike.refl s.vm)⟩
theorem aH_ij {h n : Nat} : ij n (aH h) := fun i j _ _ e => by
  have : h + i = h + j := e
  omega
def pN (g : gT) (h : Nat) (e0 : va_E) (U : State) : Prop := U.heap.size = h + 1 ∧ KK g U ∧ KN U ∧ va_at g.1 vwCl (h, e0) U.heap
def qN (g : gT) (n h : Nat) (f : Nat → va_E) : Array Value → State → Outcome → State → Prop := va_Qv (fun (_ : Unit) => True) (fun _ t => t.heap.size = h + n ∧ va_P g.1 vwCl (wl n (aH h) f) t.heap) (fun q => h ≤ q)
def MN (l : Launch) (y : MethodName) (wm : List Cond) (rm : Room) (g : gT) (nc ms : Nat) (e0 : va_E) (f : Nat → Nat → va_E) : Prop :=
  ∀ h : Nat, Met l y wm rm (va_Pc [.ref h] (pN g h e0)) (qN g (nc + 1) h (f h)) nc ms (fun q => h ≤ q)
theorem pN_blind {g : gT} {h : Nat} {e0 : va_E} {av : List Value} : FrameBlind (va_Pc av (pN g h e0)) := by
  intro x U fr mk q
  obtain ⟨q0, q1, qK, qN, qP⟩ := q
  exact ⟨q0, q1, KK.same (s := U) (U := U.calling fr mk x) rfl qK, KN.same (s := U) (U := U.calling fr mk x) rfl qN, qP⟩
/-- cell 0, then the rest -/
def kF (o : va_E) (r : Nat → va_E) : Nat → va_E := fun i => if i = 0 then o else r i
theorem kF_0 {o : va_E} {r : Nat → va_E} : kF o r 0 = o := rfl
theorem kF_up {o o' : va_E} {r : Nat → va_E} : va_up (kF o r) 0 o' = kF o' r := by
  funext i
  by_cases hi : i = 0
  · subst hi; rw [va_up_self]; rfl
  · rw [va_up_ne _ _ hi]; unfold kF; rw [if_neg hi, if_neg hi]
theorem kF_upr {o x : va_E} {r : Nat → va_E} {k : Nat} (hk : 0 < k) : va_up (kF o r) k x = kF o (va_up r k x) := by
  funext i
  by_cases hi : i = k
  · subst hi; rw [va_up_self]; unfold kF; rw [if_neg (by omega), va_up_self]
  · rw [va_up_ne _ _ hi]; unfold kF; rw [va_up_ne _ _ hi]
theorem kF_eta {o : va_E} {r : Nat → va_E} (h : o = r 0) : kF o r = r := by
  funext i
  unfold kF
  by_cases hi : i = 0
  · subst hi; rw [if_pos rfl, h]
  · rw [if_neg hi]
theorem gw_app {g : gT} {h k : Nat} {f : Nat → va_E} {H H1 : Heap} (hP : va_P g.1 vwCl (wl k (aH h) f) H) (hz : H.size = h + k) (ho : ∀ q : Nat, q < h + k → H1[q]? = H[q]?) (hat : va_at g.1 vwCl (h + k, f k) H1) : va_P g.1 vwCl (wl (k + 1) (aH h) f) H1 := by
  intro j q hq
  obtain ⟨h1, rfl⟩ := wl_mem hq
  by_cases hj : j < k
  · exact (hP j _ (wl_get hj)).kept (ho _ (by show h + j < h + k; omega))
  · have : j = k := by omega
    subst this
    exact hat
theorem gw_join {g : gT} {h k n : Nat} {f f' : Nat → va_E} {H H1 : Heap} (hP : va_P g.1 vwCl (wl k (aH h) f) H) (hk : ∀ q : Nat, q < H.size → ¬ h + k ≤ q → H1[q]? = H[q]?) (hP1 : va_P g.1 vwCl (wl n (aH (h + k)) f') H1) (he : ∀ i, i < n → f (k + i) = f' i) : va_P g.1 vwCl (wl (k + n) (aH h) f) H1 := by
  intro j q hq
  obtain ⟨h1, rfl⟩ := wl_mem hq
  by_cases hj : j < k
  · have h2 := hP j _ (wl_get hj)
    exact h2.kept (hk _ h2.lt (by show ¬ h + k ≤ h + j; omega))
  · obtain ⟨i, rfl⟩ : ∃ i, j = k + i := ⟨j - k, by omega⟩
    have h2 := hP1 i _ (wl_get (by omega))
    rw [he i (by omega)]
    have e : aH h (k + i) = aH (h + k) i := by show h + (k + i) = h + k + i; omega
    rw [e]
    exact h2
section CN
variable {p : Program} {l : Launch} {e : Env} {R : Room} {s : State} {m : MethodId} {args : Array Value} {below : List Frame} {meth : Method} {c : Code} {H : Heap} {locs : List Loc} {cells slots : Nat} {Q : State → Prop}
variable {cc : ByteArray} {pc h k : Nat} {ls : Array Slot} {rest : List Value} {g : gT} {f f' : Nat → va_E} {A : Nat → Prop} {own : String} {Ts : List Cond}
theorem MN_of {y : MethodName} {wm wm' : List Cond} {rm : Room} {nc ms maxL : Nat} {e0 : va_E} {ff : Nat → Nat → va_E} (hy : plainName y.cls = true) (hw : wm = Cond.code y cc maxL none :: wm') (hlen : 1 ≤ maxL)
    (body : ∀ (h : Nat) (p : Program) (e : Env) (s : State) (m : MethodId) (args : Array Value) (below : List Frame) (meth : Method) (c : Code) (ls : Array Slot), p.tables.exec = Jvm.exec → c.code = cc → c.maxLocals = maxL → meth.sig.returnType = none → meth.locks = false → meth.name = y.name → (∀ w ∈ wm, w.before args s = true) → s.vm.findClass y.cls = some m.cls → KK g s → KN s → s.heap.size = h + 1 → va_at g.1 vwCl (h, e0) s.heap → lv_has ls maxL [(0, .ref h)] →
      W p l e rm s m args below meth c s.heap [] 0 0 (MQ below (qN g (nc + 1) h (ff h)) args s nc ms (fun q => h ≤ q)) (F0 m 0 ls [])) : MN l y wm rm g nc ms e0 ff := by
  intro h
  refine Met.ofW (cc := cc) (maxL := maxL) (ret := none) hy hw ?_
  intro p e s m args below meth c s₁ B hml hv
  obtain ⟨rfl, hsz, hK, hN, hat⟩ := hv
  have hts := atoms_spec (ws := wm) B.pre
  have hown : s.vm.findClass y.cls = some m.cls := findClass_of_methodNamed B.named
  have hl := lv_entry [.ref h] (n := maxL) hlen
  rw [lg_entry_eq]
  exact body h p e s m _ below meth c _ B.exec B.bytes hml B.returns B.notSynchronized (name_of_methodNamed B.named B.method).1 hts hown hK hN hsz hat hl
theorem gw_vret (hx : p.tables.exec = Jvm.exec) (hb : c.code = cc) (hr : meth.sig.returnType = none) (hlk : meth.locks = false) {n : Nat} (hS : va_S (fun q => h ≤ q) s.heap H locs) (hz : H.size = h + n) (hP : va_P g.1 vwCl (wl n (aH h) f) H) (hdg : decode cc pc = .ok (.return_, 1)) :
    W p l e R s m args below meth c H locs cells slots (MQ below (qN g n h f) args s cells slots (fun q => h ≤ q)) (F0 m pc ls []) :=
  W.vret hx hb hr (fun t ht _ => ⟨⟨(), rfl, trivial, by show t.heap.size = h + n ∧ va_P g.1 vwCl (wl n (aH h) f) t.heap; rw [ht]; exact ⟨hz, hP⟩⟩, hS.F ht⟩) hS.2.2 hdg hlk
theorem gw_S {H0 H1 : Heap} (hS : va_S A H0 H locs) (hz : H.size = h + k) (z1 : H1.size = h + k + 1) (o1 : ∀ q : Nat, q < h + k → H1[q]? = H[q]?) : va_S A H0 H1 locs := ⟨Nat.le_trans hS.1 (by omega), fun x h1 h2 => (o1 x (by have := hS.1; omega)).trans (hS.2.1 x h1 h2), hS.2.2⟩
theorem gw_newI (hx : p.tables.exec = Jvm.exec) (hb : c.code = cc) (harr : (Cond.arrayClass (newarray.typeOf .int)).before args s = true) (hK : KK g s) (hz : H.size = h + k) (hP : va_P g.1 vwCl (wl k (aH h) f) H) {H0 : Heap} (hS : va_S A H0 H locs) {n : Int32} {N : Nat} (hn : ¬ n < 0) (hN : n.toNatClampNeg = N) (hbytes : N * componentBytes (newarray.typeOf .int) ≤ 536870912) (hf : f k = .inl (g.2.1, N, .inl (fun _ => 0))) (hcells : cells + 1 ≤ R.cells) (hslots : slots + N ≤ R.slots) (hdg : decode cc pc = .ok (.newarray .int, 2))
    (kk : ∀ H1 : Heap, H1.size = h + (k + 1) → va_P g.1 vwCl (wl (k + 1) (aH h) f) H1 → va_S A H0 H1 locs → W p l e R s m args below meth c H1 locs (cells + 1) (slots + N) Q (F0 m (pc + 2) ls (.ref (aH h k) :: rest))) : W p l e R s m args below meth c H locs cells slots Q (F0 m pc ls (.int n :: rest)) := by
  refine va_newaK (atype := .int) hx hb harr rfl hdg rfl hn hN hbytes hcells hslots hz fun H1 cA e1 z1 o1 hAr hNm => ?_
  have hcA : cA = g.2.1 := Option.some.inj (hNm.symm.trans (hK.1.2 0 _ rfl).2)
  rw [hcA] at e1
  exact kk H1 z1 (gw_app hP hz o1 (by rw [hf]; exact e1)) (gw_S hS hz z1 o1)
theorem gw_newZ (hx : p.tables.exec = Jvm.exec) (hb : c.code = cc) (harr : (Cond.arrayClass (newarray.typeOf .boolean)).before args s = true) (hK : KK g s) (hz : H.size = h + k) (hP : va_P g.1 vwCl (wl k (aH h) f) H) {H0 : Heap} (hS : va_S A H0 H locs) {n : Int32} {N : Nat} (hn : ¬ n < 0) (hN : n.toNatClampNeg = N) (hbytes : N * componentBytes (newarray.typeOf .boolean) ≤ 536870912) (hf : f k = .inl (g.2.2.1, N, .inl (fun _ => 0))) (hcells : cells + 1 ≤ R.cells) (hslots : slots + N ≤ R.slots) (hdg : decode cc pc = .ok (.newarray .boolean, 2))
    (kk : ∀ H1 : Heap, H1.size = h + (k + 1) → va_P g.1 vwCl (wl (k + 1) (aH h) f) H1 → va_S A H0 H1 locs → W p l e R s m args below meth c H1 locs (cells + 1) (slots + N) Q (F0 m (pc + 2) ls (.ref (aH h k) :: rest))) : W p l e R s m args below meth c H locs cells slots Q (F0 m pc ls (.int n :: rest)) := by
  refine va_newaK (atype := .boolean) hx hb harr rfl hdg rfl hn hN hbytes hcells hslots hz fun H1 cA e1 z1 o1 hAr hNm => ?_
  have hcA : cA = g.2.2.1 := Option.some.inj (hNm.symm.trans (hK.1.2 1 _ rfl).2)
  rw [hcA] at e1
  exact kk H1 z1 (gw_app hP hz o1 (by rw [hf]; exact e1)) (gw_S hS hz z1 o1)
theorem gw_newQ (hx : p.tables.exec = Jvm.exec) (hb : c.code = cc) {C : String} {index : Nat} (hown : s.vm.findClass own = some m.cls) (hclink : (Cond.classLink own index C).before args s = true) (hover : va_AO C s) (hK : KK g s) (t0 : Nat) {cA : ClassId} (ht : (tyl g)[t0]? = some (cA, .object C)) (hz : H.size = h + k) (hP : va_P g.1 vwCl (wl k (aH h) f) H) {H0 : Heap} (hS : va_S A H0 H locs) {n : Int32} {N : Nat} (hn : ¬ n < 0) (hN : n.toNatClampNeg = N) (hbytes : N * 4 ≤ 536870912) (hf : f k = .inl (cA, N, .inr (.inr (.inr (.inr (fun _ => none)))))) (hcells : cells + 1 ≤ R.cells) (hslots : slots + N ≤ R.slots) (hdg : decode cc pc = .ok (.anewarray index, 3))
    (kk : ∀ H1 : Heap, H1.size = h + (k + 1) → va_P g.1 vwCl (wl (k + 1) (aH h) f) H1 → va_S A H0 H1 locs → W p l e R s m args below meth c H1 locs (cells + 1) (slots + N) Q (F0 m (pc + 3) ls (.ref (aH h k) :: rest))) : W p l e R s m args below meth c H locs cells slots Q (F0 m pc ls (.int n :: rest)) := by
  subst hN
  refine W.anew hx hb hown hclink (va_AO.use hover) rfl hdg rfl hn hbytes hcells hslots fun cA' kA comp f1 f2 f3 f4 => ?_
  obtain ⟨-, kA2, comp2, -, -, -, g4⟩ := hK.1.2 t0 _ ht
  have hcA : cA' = cA := Option.some.inj (f1.symm.trans g4)
  subst hcA
  have z1 : (H.push ({ cls := cA', slots := Array.replicate n.toNatClampNeg .null, vm := .none } : Cell)).size = h + k + 1 := by rw [Array.size_push, hz]
  have e1 : (H.push ({ cls := cA', slots := Array.replicate n.toNatClampNeg .null, vm := .none } : Cell))[h + k]? = some (arrV cA' n.toNatClampNeg (fun _ => .null)) := by rw [← hz, Array.getElem?_push_size, ← arrV_new]
  have o1 : ∀ q : Nat, q < h + k → (H.push ({ cls := cA', slots := Array.replicate n.toNatClampNeg .null, vm := .none } : Cell))[q]? = H[q]? := fun q hq => by rw [Array.getElem?_push, if_neg (by omega)]
  have hg : (F0 m (pc + 3) ls (.ref (aH h k) :: rest)) = { F0 m pc ls (.int n :: rest) with pc := pc + 3, stack := .ref H.size :: rest } := by rw [hz]
  have := kk _ z1 (gw_app hP hz o1 (by rw [hf]; exact e1)) (gw_S hS hz z1 o1)
  rw [hg] at this
  exact this
theorem gw_new (hx : p.tables.exec = Jvm.exec) (hb : c.code = cc) {C : String} {T : u_T} {N ci index : Nat} (hts : ∀ w ∈ Ts, w.before args s = true) (hin : ∀ w ∈ u_ws C T N, w ∈ Ts) (ty : Nat → FieldType) (hty : ∀ k, k < N → parseFieldDescriptor (T k).2.2.1 = some (ty k)) (hown : s.vm.findClass own = some m.cls) (hcl : (Cond.classLink own index C).before args s = true) (hinst : (Cond.instantiable C N).before args s = true) (hini : (Cond.initialized C).before args s = true)
    (hK : KK g s) (hz : H.size = h + k) (hP : va_P g.1 vwCl (wl k (aH h) f) H) {H0 : Heap} (hS : va_S A H0 H locs) (hc : vwCl[ci]? = some (C, T, N)) {fs : List Value} (hfs : ∀ j, j < N → defaultValue (ty j) = vp_V fs j) (hcells : cells + 1 ≤ R.cells) (hslots : slots + N ≤ R.slots) (hdg : decode cc pc = .ok (.new index, 3))
    (kk : ∀ H1 : Heap, H1.size = h + k + 1 → va_P g.1 vwCl (wl k (aH h) f) H1 → va_at g.1 vwCl (h + k, .inr (ci, fs)) H1 → va_S A H0 H1 locs → W p l e R s m args below meth c H1 locs (cells + 1) (slots + N) Q (F0 m (pc + 3) ls (.ref (aH h k) :: rest))) : W p l e R s m args below meth c H locs cells slots Q (F0 m pc ls rest) := by
  have hKn := hK.1.1 ci _ hc
  refine W.newcK hx hb hown hcl hinst hini rfl hdg hcells hslots hKn.2.1 hz fun H1 kC hkC e1 z1 o1 => ?_
  have hk : ∀ (j : Nat) (x : Nat × va_E), (wl k (aH h) f)[j]? = some x → H1[x.1]? = H[x.1]? := fun j x hx => o1 x.1 (by have := (hP j x hx).lt; omega)
  exact kk H1 z1 (hP.kept hk) ⟨_, hc, (u_born ty hts hin hKn hkC e1 hty).to hfs⟩ (gw_S hS hz z1 o1)
variable {y : MethodName} {bytes : ByteArray} {maxL nL index nc ms : Nat} {wm : List Cond} {rm : Room} {host : String} {e0 : va_E} {ff : Nat → Nat → va_E}
theorem gw_initN (hM : MN l y wm rm g nc ms e0 ff) (S : CallFix p m c cc nL s args Ts own) (cw : va_CN R s args own index y host bytes maxL none wm rm nc ms 0 ∧ y.name = "<init>" ∧ (Cond.instanceMethod y).before args s = true) (hK : KK g s) (hN : KN s) (hz : H.size = h + k + 1) (hP : va_P g.1 vwCl (wl k (aH h) f) H) (hat : va_at g.1 vwCl (h + k, e0) H) {H0 : Heap} (hS : va_S A H0 H locs) (hA : ∀ q, h + k ≤ q → A q) (he : ∀ i, i < nc + 1 → f (k + i) = ff (h + k) i) (hsize : ls.size = nL) (hW : (rest.map fun v => v.category).sum ≤ 8) (hdg : decode cc pc = .ok (.invokespecial index, 3)) (hf : cells + nc ≤ R.cells ∧ slots + ms ≤ R.slots)
    (kk : ∀ (H1 : Heap) (locs1 : List Loc), H1.size = h + (k + (nc + 1)) → va_P g.1 vwCl (wl (k + (nc + 1)) (aH h) f) H1 → va_S A H0 H1 locs1 → W p l e R s m args below meth c H1 locs1 (cells + nc) (slots + ms) Q (F0 m (pc + 3) ls rest)) : W p l e R s m args below meth c H locs cells slots Q (F0 m pc ls (.ref (aH h k) :: rest)) := by
  refine va_callv (va_runIN (As := []) (b := h + k) (rest := rest) S (hM (h + k)) cw ⟨pN_blind, fun U hU hW => ⟨rfl, by rw [hU]; exact hz, hK.warm hW, hN.warm hW, by rw [hU]; exact hat⟩⟩ rfl rfl hsize rfl (lv_room hW) hdg hf) hS (fun q _ h => hA q h) hA (fun u t H1 locs1 ht hvm hp hB hzz hk1 hS1 => ?_)
  rw [ht] at hB
  exact kk H1 locs1 (by rw [hB.1]; omega) (gw_join hP hk1 hB.2 he) hS1
theorem gw_initI (hM : MN l y wm rm g nc ms e0 ff) (S : CallFix p m c cc nL s args Ts own) (cw : CallB R s args own index y bytes maxL none wm rm nc ms 0 ∧ y.name = "<init>" ∧ (Cond.instanceMethod y).before args s = true) (hK : KK g s) (hN : KN s) (hz : H.size = h + k + 1) (hP : va_P g.1 vwCl (wl k (aH h) f) H) (hat : va_at g.1 vwCl (h + k, e0) H) {H0 : Heap} (hS : va_S A H0 H locs) (hA : ∀ q, h + k ≤ q → A q) (he : ∀ i, i < nc + 1 → f (k + i) = ff (h + k) i) (hsize : ls.size = nL) (hW : (rest.map fun v => v.category).sum ≤ 8) (hdg : decode cc pc = .ok (.invokespecial index, 3)) (hf : cells + nc ≤ R.cells ∧ slots + ms ≤ R.slots)
    (kk : ∀ (H1 : Heap) (locs1 : List Loc), H1.size = h + (k + (nc + 1)) → va_P g.1 vwCl (wl (k + (nc + 1)) (aH h) f) H1 → va_S A H0 H1 locs1 → W p l e R s m args below meth c H1 locs1 (cells + nc) (slots + ms) Q (F0 m (pc + 3) ls rest)) : W p l e R s m args below meth c H locs cells slots Q (F0 m pc ls (.ref (aH h k) :: rest)) := by
  refine va_callv (va_runI (As := []) (b := h + k) (rest := rest) S (hM (h + k)) cw ⟨pN_blind, fun U hU hW => ⟨rfl, by rw [hU]; exact hz, hK.warm hW, hN.warm hW, by rw [hU]; exact hat⟩⟩ rfl rfl hsize rfl (lv_room hW) hdg hf) hS (fun q _ h => hA q h) hA (fun u t H1 locs1 ht hvm hp hB hzz hk1 hS1 => ?_)
  rw [ht] at hB
  exact kk H1 locs1 (by rw [hB.1]; omega) (gw_join hP hk1 hB.2 he) hS1
theorem wl_Dh {n : Nat} : va_D (fun q => h ≤ q) (wl n (aH h) f) := wl_D aH_ij (fun i _ => Nat.le_add_right h i)
theorem gw_set {n q0 : Nat} {x : va_E} {f1 : Nat → va_E} {H1 : Heap} (hP : va_P g.1 vwCl (wl n (aH h) f) H) (hq : q0 < n) (hat : va_at g.1 vwCl (aH h q0, x) H1) (oq : ∀ q : Nat, q ≠ aH h q0 → H1[q]? = H[q]?) (hup : va_up f q0 x = f1) : va_P g.1 vwCl (wl n (aH h) f1) H1 := by
  rw [← hup, ← wl_set hq]
  exact hP.set (wl_Dh (h := h)) (wl_get hq) hat oq
theorem gw_Sp {H0 H1 : Heap} {q0 j : Nat} (hS : va_S (fun q => h ≤ q) H0 H locs) (z : H1.size = H.size) (oq : ∀ q : Nat, q ≠ aH h q0 → H1[q]? = H[q]?) : va_S (fun q => h ≤ q) H0 H1 (locs ++ [⟨aH h q0, j⟩]) := hS.put z oq (Nat.le_add_right h q0)
/-- a field of cell 0 that is no final one -/
theorem gw_put (hx : p.tables.exec = Jvm.exec) (hb : c.code = cc) (hts : ∀ w ∈ Ts, w.before args s = true) {C : String} {T : u_T} {N ci index : Nat} (hin : ∀ w ∈ u_ws C T N, w ∈ Ts) (ty0 : Nat → FieldType) (hty : ∀ k, k < N → parseFieldDescriptor (T k).2.2.1 = some (ty0 k)) (hnm : ∀ a, a < N → ∀ b, b < N → a ≠ b → (T a).2.1 ≠ (T b).2.1) (hown : s.vm.findClass own = some m.cls) (hK : KK g s) {n : Nat} (hn0 : 0 < n) (hz : H.size = h + n) {fs : List Value} {r : Nat → va_E} (hP : va_P g.1 vwCl (wl n (aH h) (kF (.inr (ci, fs)) r)) H) {H0 : Heap} (hS : va_S (fun q => h ≤ q) H0 H locs) (hc : vwCl[ci]? = some (C, T, N)) (j : Nat) (hj : j < N) (hlink : (Cond.fieldLink own index (T j).1 (T j).2.1 (T j).2.2.1).before args s = true) (hfin : (T j).2.2.2 = false) {ty : FieldType} {v : Value} (hd : parseFieldDescriptor (T j).2.2.1 = some ty) (hnr : narrow ty v = v) (hfit : fits ty v = true) (hl : j < fs.length)
    (hdg : decode cc pc = .ok (.putfield index, 3)) (kk : ∀ (H1 : Heap) (locs1 : List Loc), H1.size = h + n → va_P g.1 vwCl (wl n (aH h) (kF (.inr (ci, fs.set j v)) r)) H1 → va_S (fun q => h ≤ q) H0 H1 locs1 → W p l e R s m args below meth c H1 locs1 cells slots Q (F0 m (pc + 3) ls rest)) : W p l e R s m args below meth c H locs cells slots Q (F0 m pc ls (v :: .ref (aH h 0) :: rest)) := by
  have hap := va_apart (own := own) hts hin ty0 hty hnm hK.1 hc
  have h0 : va_at g.1 vwCl (aH h 0, .inr (ci, fs)) H := hP 0 _ (wl_get hn0)
  obtain ⟨r1, h1, cell, q1, q2, q3, q4⟩ := h0
  have hr : r1 = (C, T, N) := Option.some.inj (h1.symm.trans hc)
  subst hr
  obtain ⟨hSl, hfc, kC, hkC, hkind⟩ := hK.1.1 ci _ hc
  obtain ⟨cf, kf, fi, fd, hi, hsl⟩ := hSl j hj
  have hlay := hts _ (hin _ (u_in_lay hj))
  unfold u_lay at hlay
  rw [if_neg (by rw [hfin]; decide)] at hlay
  have hst := (u_facts hfc hkC (u_lays hts hin hj) hi).1
  have h6 := u_store hfc hkC hkind hlay hi hd hnr hfit
  refine W.putK hx hb (f := fd) ⟨hown, hlink, ⟨_, _, _, hi⟩, hst⟩ (by rw [q2]; exact h6) q1 q3 (by rw [hsl]; exact k2_hasslot (q4 j hj)) rfl rfl hdg fun H' e1 e2 e3 => ?_
  rw [hsl] at e1 ⊢
  exact kk H' _ (by rw [e2, hz]) (gw_set (x := .inr (ci, fs.set j v)) hP hn0 ⟨_, hc, t_OB.to (V := updV (vp_V fs) j v) ⟨_, e1, q2, q3, t_set q4 hap hj v⟩ (fun i _ => vp_updV_set hl v i)⟩ e3 kF_up) (gw_Sp hS e2 e3)
/-- a final field of cell 0 -/
theorem gw_putF (hx : p.tables.exec = Jvm.exec) (hb : c.code = cc) (hts : ∀ w ∈ Ts, w.before args s = true) {C : String} {T : u_T} {N ci index : Nat} (hin : ∀ w ∈ u_ws C T N, w ∈ Ts) (ty0 : Nat → FieldType) (hty : ∀ k, k < N → parseFieldDescriptor (T k).2.2.1 = some (ty0 k)) (hnm : ∀ a, a < N → ∀ b, b < N → a ≠ b → (T a).2.1 ≠ (T b).2.1) (hown : s.vm.findClass own = some m.cls) (hK : KK g s) {n : Nat} (hn0 : 0 < n) (hz : H.size = h + n) {fs : List Value} {r : Nat → va_E} (hP : va_P g.1 vwCl (wl n (aH h) (kF (.inr (ci, fs)) r)) H) {H0 : Heap} (hS : va_S (fun q => h ≤ q) H0 H locs) (hc : vwCl[ci]? = some (C, T, N)) (j : Nat) (hj : j < N) (hlink : (Cond.fieldLink own index (T j).1 (T j).2.1 (T j).2.2.1).before args s = true) (hfin : (T j).2.2.2 = true) (hin2 : meth.name = "<init>") (hdecl : (T j).1 = own) {ty : FieldType} {v : Value} (hd : parseFieldDescriptor (T j).2.2.1 = some ty) (hnr : narrow ty v = v) (hfit : fits ty v = true) (hl : j < fs.length)
    (hdg : decode cc pc = .ok (.putfield index, 3)) (kk : ∀ (H1 : Heap) (locs1 : List Loc), H1.size = h + n → va_P g.1 vwCl (wl n (aH h) (kF (.inr (ci, fs.set j v)) r)) H1 → va_S (fun q => h ≤ q) H0 H1 locs1 → W p l e R s m args below meth c H1 locs1 cells slots Q (F0 m (pc + 3) ls rest)) : W p l e R s m args below meth c H locs cells slots Q (F0 m pc ls (v :: .ref (aH h 0) :: rest)) := by
  have hap := va_apart (own := own) hts hin ty0 hty hnm hK.1 hc
  have h0 : va_at g.1 vwCl (aH h 0, .inr (ci, fs)) H := hP 0 _ (wl_get hn0)
  obtain ⟨r1, h1, cell, q1, q2, q3, q4⟩ := h0
  have hr : r1 = (C, T, N) := Option.some.inj (h1.symm.trans hc)
  subst hr
  obtain ⟨hSl, hfc, kC, hkC, hkind⟩ := hK.1.1 ci _ hc
  obtain ⟨cf, kf, fi, fd, hi, hsl⟩ := hSl j hj
  have hlay := hts _ (hin _ (u_in_lay hj))
  unfold u_lay at hlay
  rw [if_pos hfin] at hlay
  have hst := (u_facts hfc hkC (u_lays hts hin hj) hi).1
  have hcf : m.cls = cf := by
    obtain ⟨_, _, c', _, _, _, -, -, hf', -, -, -, hown2, -⟩ := Cond.laysFinal_spec hlay
    have e1 : c' = cf := by have := hi.symm.trans hf'; simp at this; exact this.1.symm
    rw [hdecl] at hown2
    rw [← e1]; exact Option.some.inj (hown.symm.trans hown2)
  have h6 := u_fits hfc hkC hkind (Or.inr hlay) hi hd hnr hfit
  refine W.putFinK hx hb hown hlink hi hst hcf hin2 (by rw [q2]; exact h6) q1 q3 (by rw [hsl]; exact k2_hasslot (q4 j hj)) rfl rfl hdg fun H' e1 e2 e3 => ?_
  rw [hsl] at e1 ⊢
  exact kk H' _ (by rw [e2, hz]) (gw_set (x := .inr (ci, fs.set j v)) hP hn0 ⟨_, hc, t_OB.to (V := updV (vp_V fs) j v) ⟨_, e1, q2, q3, t_set q4 hap hj v⟩ (fun i _ => vp_updV_set hl v i)⟩ e3 kF_up) (gw_Sp hS e2 e3)
/-- a reference into a row of references -/
theorem gw_astq (hx : p.tables.exec = Jvm.exec) (hb : c.code = cc) (hK : KK g s) {n : Nat} (hz : H.size = h + n) (hP : va_P g.1 vwCl (wl n (aH h) f) H) {H0 : Heap} (hS : va_S (fun q => h ≤ q) H0 H locs) (q0 t0 qk ci : Nat) (h0 : q0 < n) (hk : qk < n) {cA : ClassId} {r : vw_C} {N : Nat} {vs : List Value} {w : Nat → Option Nat} (ha : f q0 = .inl (cA, N, .inr (.inr (.inr (.inr w))))) (ht : (tyl g)[t0]? = some (cA, .object r.1)) (hv : f qk = .inr (ci, vs)) (hc : vwCl[ci]? = some r) {i : Int32} (hin : bIn i N = true) {f1 : Nat → va_E} (hup : va_up f q0 (.inl (cA, N, .inr (.inr (.inr (.inr (va_up w i.toNatClampNeg (some (aH h qk)))))))) = f1) (hdg : decode cc pc = .ok (.aastore, 1))
    (kk : ∀ (H1 : Heap) (locs1 : List Loc), H1.size = h + n → va_P g.1 vwCl (wl n (aH h) f1) H1 → va_S (fun q => h ≤ q) H0 H1 locs1 → W p l e R s m args below meth c H1 locs1 cells slots Q (F0 m (pc + 1) ls rest)) : W p l e R s m args below meth c H locs cells slots Q (F0 m pc ls (.ref (aH h qk) :: .int i :: .ref (aH h q0) :: rest)) := by
  have hin' := bIn_ok hin
  have hlt : i.toNatClampNeg < N := Nat.not_le.mp fun q => hin' (Or.inr q)
  have hn0 : ¬ i < 0 := fun q => hin' (Or.inl q)
  have h1 : va_at g.1 vwCl (aH h q0, .inl (cA, N, .inr (.inr (.inr (.inr w))))) H := by rw [← ha]; exact hP q0 _ (wl_get h0)
  have h2 : va_at g.1 vwCl (aH h qk, .inr (ci, vs)) H := by rw [← hv]; exact hP qk _ (wl_get hk)
  obtain ⟨r', hr', cellV, g1, g2, g3, -⟩ := h2
  have hcls := (hK.1.1 ci r hc).2
  obtain ⟨kA, comp, k1, k2, k3, -⟩ := (hK.1.2 t0 _ ht).2
  have hcomp : comp = g.1.1 ci := Option.some.inj (k3.symm.trans hcls.1)
  subst hcomp
  obtain ⟨kC, hkC, -⟩ := hcls.2
  refine W.aast hx hb h1 (fun q h => by cases h) (fun h => by cases h) k1 k2 rfl hkC ⟨hn0, by show _ < (arrV _ _ _).slots.size; rw [arrV_size]; exact hlt⟩ g1 (fun q h => by rw [g3] at h; cases h) (by rw [g2]; exact hkC) (by rw [g2]; exact va_assign hcls) rfl rfl hdg fun H1 e z oq => ?_
  refine kk H1 _ (by rw [z, hz]) (gw_set hP h0 ?_ oq hup) (gw_Sp hS z oq)
  show H1[aH h q0]? = some (vp_cell _ _)
  rw [e, vp_cell_q, vp_cell_q, arrV_store]
  congr 2
  funext q
  by_cases hq : q = i.toNatClampNeg
  · subst hq
    simp [updV, va_up, va_rf]
  · simp [updV, va_up, hq]
end CN
