/-! methods that read the class's three static tables -/
def stN : Nat → Int32
  | 0 => -1
  | 1 => 0
  | 2 => 1
  | 3 => 1
  | 4 => 0
  | _ => 4
def stS : Nat → Int32
  | 0 => 10
  | 1 => 11
  | 2 => 12
  | 3 => 0
  | 4 => 13
  | _ => 14
def stM : Nat → Int32
  | 0 => 20
  | 1 => 21
  | 2 => 24
  | 3 => 22
  | 4 => 23
  | _ => 0
noncomputable def FA : Nat := Classical.choose (⟨18, rfl⟩ : ∃ n : Nat, n = 18)
theorem FA_eq : FA = 18 := Classical.choose_spec (⟨18, rfl⟩ : ∃ n : Nat, n = 18)
def zOne (nm : String) (f : Nat → Int32) (A : Nat → Prop) (U : State) (H : Heap) : Prop := ∃ t : Nat, va_Z "StepRiders" nm "[I" (.ref t) A U H ∧ va_T .int t 6 (fun j => .int (f j)) A U H
def zT (A : Nat → Prop) (U : State) (H : Heap) : Prop := zOne "NEXT_KIND" stN A U H ∧ zOne "SIZE_BODIES" stS A U H ∧ zOne "MARK_BODIES" stM A U H
theorem zOne.to {nm : String} {f : Nat → Int32} {A B : Nat → Prop} {s U : State} {H H1 : Heap} (h : zOne nm f A s H) (hv : s.vm.Alike U.vm) (hk : ∀ q : Nat, q < H.size → ¬ A q → H1[q]? = H[q]?) (hAB : ∀ q, B q → A q) : zOne nm f B U H1 := by
  obtain ⟨t, h1, h2⟩ := h
  exact ⟨t, ((h1.kept hk).moved hv).narrow hAB, ((h2.kept hk).moved hv).narrow hAB⟩
theorem zT.to {A B : Nat → Prop} {s U : State} {H H1 : Heap} (h : zT A s H) (hv : s.vm.Alike U.vm) (hk : ∀ q : Nat, q < H.size → ¬ A q → H1[q]? = H[q]?) (hAB : ∀ q, B q → A q) : zT B U H1 := ⟨h.1.to hv hk hAB, h.2.1.to hv hk hAB, h.2.2.to hv hk hAB⟩
def pZ (g : gT) (ws : va_W) (sz : Nat) (A : Nat → Prop) (U : State) : Prop := pW g ws sz U ∧ zT A U U.heap
def MIs (l : Launch) (y : MethodName) (wm : List Cond) (rm : Room) (g : gT) (n : Nat) (a : Nat → Nat) (av : List Value) (ws ws' : va_W) (r : Int32) : Prop :=
  ∀ sz : Nat, Met l y wm rm (va_Pc av (pZ g ws sz (aA n a sz))) (qI g ws' r (aA n a sz)) 0 0 (aA n a sz)
theorem pZ_blind {g : gT} {ws : va_W} {sz : Nat} {av : List Value} {A : Nat → Prop} : FrameBlind (va_Pc av (pZ g ws sz A)) := by
  intro x U fr mk q
  obtain ⟨q0, ⟨q1, qK, qP⟩, qZ⟩ := q
  exact ⟨q0, ⟨q1, KK.same (s := U) (U := U.calling fr mk x) rfl qK, qP⟩, qZ.to (U := U.calling fr mk x) (Vm.Alike.refl U.vm) (fun _ _ _ => rfl) (fun _ h => h)⟩
section ZCORE
variable {p : Program} {l : Launch} {e : Env} {R : Room} {s : State} {m : MethodId} {args : Array Value} {below : List Frame} {meth : Method} {c : Code} {H : Heap} {locs : List Loc} {cells slots : Nat} {Q : State → Prop}
variable {cc : ByteArray} {pc : Nat} {ls : Array Slot} {rest : List Value} {g : gT} {n : Nat} {a : Nat → Nat} {A : Nat → Prop} {own : String} {Ts : List Cond}
theorem MIs_of {y : MethodName} {wm wm' : List Cond} {rm : Room} {av : List Value} {ws ws' : va_W} {r : Int32} {maxL : Nat} {rt : FieldType} (hy : plainName y.cls = true) (hw : wm = Cond.code y cc maxL (some rt) :: wm') (hlen : (lg_sl av).length ≤ maxL)
    (body : ∀ (p : Program) (e : Env) (s : State) (m : MethodId) (args : Array Value) (below : List Frame) (meth : Method) (c : Code) (ls : Array Slot), p.tables.exec = Jvm.exec → c.code = cc → c.maxLocals = maxL → meth.sig.returnType = some rt → meth.locks = false → (∀ w ∈ wm, w.before args s = true) → s.vm.findClass y.cls = some m.cls → KK g s → va_P g.1 vwCl ws s.heap → lv_has ls maxL (lv_args 0 av) → zT (aA n a s.heap.size) s s.heap →
      W p l e rm s m args below meth c s.heap [] 0 0 (MQ below (qI g ws' r (aA n a s.heap.size)) args s 0 0 (aA n a s.heap.size)) (F0 m 0 ls [])) : MIs l y wm rm g n a av ws ws' r := by
  intro sz
  refine Met.ofW (cc := cc) (maxL := maxL) (ret := some rt) hy hw ?_
  intro p e s m args below meth c s₁ B hml hv
  obtain ⟨rfl, ⟨hsz, hK, hP⟩, hZ⟩ := hv
  subst hsz
  have hts := atoms_spec (ws := wm) B.pre
  have hown : s.vm.findClass y.cls = some m.cls := findClass_of_methodNamed B.named
  have hl := lv_entry av (n := maxL) hlen
  rw [lg_entry_eq]
  exact body p e s m _ below meth c _ B.exec B.bytes hml B.returns B.notSynchronized hts hown hK hP hl hZ
variable {y : MethodName} {bytes : ByteArray} {maxL nL nA index nc : Nat} {ret : Option FieldType} {wm : List Cond} {rm : Room} {C : String} {b : Addr} {As : List Value} {ac : Nat → Nat} {wc wc' ws ws' : va_W} {r : Int32}
theorem r_callSiz (hZ : zT A s s.heap) (hM : MIs l y wm rm g nc ac As wc wc' r) (S : CallFix p m c cc nL s args Ts own) (cw : CallB R s args own index y bytes maxL ret wm rm 0 0 nA ∧ (Cond.static y).before args s = true) (hK : KK g s) (hS : va_S A s.heap H locs) (hcut : va_P g.1 vwCl wc H) (hA : ∀ q, aA nc ac H.size q → A q)
    (hjoin : ∀ H1 : Heap, va_P g.1 vwCl wc' H1 → (∀ q : Nat, q < H.size → ¬ aA nc ac H.size q → H1[q]? = H[q]?) → va_P g.1 vwCl ws' H1) (hn : As.length = nA) (hsize : ls.size = nL) {st : List Value} (hstack : st = As.reverse ++ rest) (hW : (rest.map fun v => v.category).sum ≤ 8) (hdg : decode cc pc = .ok (.invokestatic index, 3)) (hf : cells ≤ R.cells ∧ slots ≤ R.slots)
    (kk : ∀ (H1 : Heap) (locs1 : List Loc), va_P g.1 vwCl ws' H1 → va_S A s.heap H1 locs1 → W p l e R s m args below meth c H1 locs1 cells slots Q (F0 m (pc + 3) ls (.int r :: rest))) : W p l e R s m args below meth c H locs cells slots Q (F0 m pc ls st) := by
  refine va_calli (va_runS (As := As) (rest := rest) S (hM H.size) cw ⟨pZ_blind, fun U hU hW => ⟨rfl, ⟨by rw [hU], hK.warm hW, by rw [hU]; exact hcut⟩, hZ.to hW.alike (fun q hq hn => by rw [hU]; exact hS.2.1 q hq hn) hA⟩⟩ rfl hn hsize hstack (lv_room hW) hdg hf) hS (fun q _ h => hA q h) hA (fun r' u t H1 locs1 ht hvm hp hB hz hk1 hS1 => ?_)
  subst hp
  rw [ht] at hB
  exact kk H1 locs1 (hjoin H1 hB hk1) hS1
end ZCORE
