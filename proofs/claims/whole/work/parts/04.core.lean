/-! the memory: every number of the system by its cell and its slot; references never change once the constructors are through -/
abbrev gT : Type := va_G × ClassId × ClassId × ClassId × ClassId
abbrev Mem : Type := Nat → Nat → Int32
def tyl (g : gT) : List (ClassId × FieldType) := [(g.2.1, .int), (g.2.2.1, .boolean), (g.2.2.2.1, .object "StepRiders$Row"), (g.2.2.2.2, .object "StepRiders$Stair")]
def KK (g : gT) (s : State) : Prop := va_K g.1 vwCl (tyl g) s ∧ va_Nw (.methodLinkNest RX3 76 yX5_outside "StepRiders") s
def mp (M : Mem) (c k : Nat) (v : Int32) : Mem := va_up M c (upd (M c) k v)
def wl (n : Nat) (a : Nat → Nat) (f : Nat → va_E) : va_W := (List.range n).map (fun i => (a i, f i))
def ij (n : Nat) (a : Nat → Nat) : Prop := ∀ i j : Nat, i < n → j < n → a i = a j → i = j
def aA (n : Nat) (a : Nat → Nat) (sz : Nat) : Nat → Prop := fun q => (∃ k, k < n ∧ q = a k) ∨ sz ≤ q
/-- the fuel of a loop: a thousand, but nothing that unfolds -/
noncomputable def FU : Nat := Classical.choose (⟨1000, rfl⟩ : ∃ n : Nat, n = 1000)
theorem FU_eq : FU = 1000 := Classical.choose_spec (⟨1000, rfl⟩ : ∃ n : Nat, n = 1000)
def chk {α : Type} (b : Bool) (k : Option α) : Option α := if b = true then k else none
def bIn (i : Int32) (n : Nat) : Bool := decide (0 ≤ i.toInt ∧ i.toInt < n)
def bdI {β : Type} (x : Option (Int32 × Mem)) (k : Int32 → Mem → Option β) : Option β := match x with
  | none => none
  | some q => k q.1 q.2
def bdV {β : Type} (x : Option Mem) (k : Mem → Option β) : Option β := match x with
  | none => none
  | some q => k q
def bdP {β : Type} (x : Option Int32) (k : Int32 → Option β) : Option β := match x with
  | none => none
  | some q => k q
theorem chk_ok {α : Type} {b : Bool} {k : Option α} {r : α} (h : chk b k = some r) : b = true ∧ k = some r := by
  unfold chk at h
  split at h
  · exact ⟨by assumption, h⟩
  · cases h
theorem bIn_ok {i : Int32} {n : Nat} (h : bIn i n = true) : vp_in i n := vp_in_iff.mpr (of_decide_eq_true h)
theorem bdI_ok {β : Type} {x : Option (Int32 × Mem)} {k : Int32 → Mem → Option β} {v : β} (h : bdI x k = some v) : ∃ (r : Int32) (M : Mem), x = some (r, M) ∧ k r M = some v := by
  cases x with
  | none => cases h
  | some q => exact ⟨q.1, q.2, rfl, h⟩
theorem bdV_ok {β : Type} {x : Option Mem} {k : Mem → Option β} {v : β} (h : bdV x k = some v) : ∃ (M : Mem), x = some M ∧ k M = some v := by
  cases x with
  | none => cases h
  | some q => exact ⟨q, rfl, h⟩
theorem bdP_ok {β : Type} {x : Option Int32} {k : Int32 → Option β} {v : β} (h : bdP x k = some v) : ∃ (r : Int32), x = some r ∧ k r = some v := by
  cases x with
  | none => cases h
  | some q => exact ⟨q, rfl, h⟩
theorem if_t {c : Prop} [Decidable c] {α : Type} {a b r : α} (hc : c) (h : (if c then a else b) = r) : a = r := by rw [if_pos hc] at h; exact h
theorem if_f {c : Prop} [Decidable c] {α : Type} {a b r : α} (hc : ¬ c) (h : (if c then a else b) = r) : b = r := by rw [if_neg hc] at h; exact h
theorem wl_len {n : Nat} {a : Nat → Nat} {f : Nat → va_E} : (wl n a f).length = n := by simp [wl]
theorem wl_get {n : Nat} {a : Nat → Nat} {f : Nat → va_E} {i : Nat} (h : i < n) : (wl n a f)[i]? = some (a i, f i) := by
  simp [wl, h]
theorem wl_mem {n : Nat} {a : Nat → Nat} {f : Nat → va_E} {k : Nat} {q : Nat × va_E} (h : (wl n a f)[k]? = some q) : k < n ∧ q = (a k, f k) := by
  have hk : k < n := by
    have := (List.getElem?_eq_some_iff.mp h).1
    rwa [wl_len] at this
  rw [wl_get hk] at h
  exact ⟨hk, (Option.some.inj h).symm⟩
theorem wl_set {n : Nat} {a : Nat → Nat} {f : Nat → va_E} {i : Nat} {e : va_E} (h : i < n) : (wl n a f).set i (a i, e) = wl n a (va_up f i e) := by
  apply List.ext_getElem?
  intro j
  by_cases hj : j = i
  · subst hj
    rw [List.getElem?_set_self (by rw [wl_len]; exact h), wl_get h, va_up_self]
  · rw [List.getElem?_set_ne (fun q => hj q.symm)]
    by_cases hn : j < n
    · rw [wl_get hn, wl_get hn, va_up_ne _ _ hj]
    · rw [List.getElem?_eq_none (by rw [wl_len]; omega), List.getElem?_eq_none (by rw [wl_len]; omega)]
theorem wl_D {A : Nat → Prop} {n : Nat} {a : Nat → Nat} {f : Nat → va_E} (hI : ij n a) (hA : ∀ i, i < n → A (a i)) : va_D A (wl n a f) := by
  refine ⟨fun i j x y hx hy hxy => ?_, fun k q hk => ?_⟩
  · obtain ⟨h1, rfl⟩ := wl_mem hx
    obtain ⟨h2, rfl⟩ := wl_mem hy
    exact hI i j h1 h2 hxy
  · obtain ⟨h1, rfl⟩ := wl_mem hk
    exact hA k h1
theorem aA_in {n : Nat} {a : Nat → Nat} {sz i : Nat} (h : i < n) : aA n a sz (a i) := Or.inl ⟨i, h, rfl⟩
theorem aA_ge {n : Nat} {a : Nat → Nat} {sz q : Nat} (h : sz ≤ q) : aA n a sz q := Or.inr h
theorem aA_mono {n : Nat} {a : Nat → Nat} {sz sz' q : Nat} (h : sz ≤ sz') (hq : aA n a sz' q) : aA n a sz q := hq.elim Or.inl (fun z => Or.inr (Nat.le_trans h z))
theorem aA_sub {n n' : Nat} {a a' : Nat → Nat} {sz sz' q : Nat} (g : Nat → Nat) (hg : ∀ i, i < n' → g i < n ∧ a' i = a (g i)) (h : sz ≤ sz') (hq : aA n' a' sz' q) : aA n a sz q := by
  rcases hq with ⟨k, hk, rfl⟩ | hq
  · rw [(hg k hk).2]; exact aA_in (hg k hk).1
  · exact aA_ge (Nat.le_trans h hq)
/-- a world within a world -/
theorem wl_cut {D : va_G} {cl : List vw_C} {n n' : Nat} {a a' : Nat → Nat} {f f' : Nat → va_E} {H : Heap} (g : Nat → Nat) (hP : va_P D cl (wl n a f) H) (hg : ∀ i, i < n' → g i < n ∧ a' i = a (g i)) (hf : ∀ i, i < n' → f' i = f (g i)) : va_P D cl (wl n' a' f') H := by
  intro k q hk
  obtain ⟨h1, rfl⟩ := wl_mem hk
  have h2 := hP (g k) (a (g k), f (g k)) (wl_get (hg k h1).1)
  rw [(hg k h1).2, hf k h1]
  exact h2
theorem wl_join {D : va_G} {cl : List vw_C} {n n' : Nat} {a a' : Nat → Nat} {f f' f1 : Nat → va_E} {H H1 : Heap} (g : Nat → Nat) (hI : ij n a) (hP : va_P D cl (wl n a f) H) (hg : ∀ i, i < n' → g i < n ∧ a' i = a (g i)) (hk : ∀ q : Nat, q < H.size → ¬ aA n' a' H.size q → H1[q]? = H[q]?) (hP1 : va_P D cl (wl n' a' f') H1)
    (hin : ∀ i, i < n' → f1 (g i) = f' i) (hout : ∀ j, j < n → (∀ i, i < n' → g i ≠ j) → f1 j = f j) : va_P D cl (wl n a f1) H1 := by
  intro k q hkq
  obtain ⟨h1, rfl⟩ := wl_mem hkq
  by_cases hc : ∃ i, i < n' ∧ g i = k
  · obtain ⟨i, hi, rfl⟩ := hc
    have h2 := hP1 i _ (wl_get hi)
    rw [(hg i hi).2] at h2
    rw [hin i hi]
    exact h2
  · have hne : ∀ i, i < n' → g i ≠ k := fun i hi e => hc ⟨i, hi, e⟩
    rw [hout k h1 hne]
    have h2 := hP k _ (wl_get h1)
    refine h2.kept (hk _ h2.lt ?_)
    rintro (⟨i, hi, e⟩ | e)
    · exact hne i hi (hI _ _ (hg i hi).1 h1 ((hg i hi).2.symm.trans e.symm))
    · exact Nat.not_le.mpr h2.lt e
theorem wl_keep {D : va_G} {cl : List vw_C} {ws : va_W} {a : Nat → Nat} {H H1 : Heap} (hP : va_P D cl ws H) (hk : ∀ q : Nat, q < H.size → ¬ aA 0 a H.size q → H1[q]? = H[q]?) : va_P D cl ws H1 := by
  refine hP.kept (fun k q h => hk _ (hP k q h).lt ?_)
  rintro (⟨i, hi, e⟩ | e)
  · omega
  · exact Nat.not_le.mpr (hP k q h).lt e
theorem wl_nil {D : va_G} {cl : List vw_C} {a : Nat → Nat} {f : Nat → va_E} {H : Heap} : va_P D cl (wl 0 a f) H := fun k q h => by simp [wl] at h
/-! contracts -/
def pW (g : gT) (ws : va_W) (sz : Nat) (U : State) : Prop := U.heap.size = sz ∧ KK g U ∧ va_P g.1 vwCl ws U.heap
def qI (g : gT) (ws' : va_W) (r : Int32) (A : Nat → Prop) : Array Value → State → Outcome → State → Prop := va_Qi (fun (r' : Int32) (_ : Unit) => r' = r) (fun _ t => va_P g.1 vwCl ws' t.heap) A
def qV (g : gT) (ws' : va_W) (A : Nat → Prop) : Array Value → State → Outcome → State → Prop := va_Qv (fun (_ : Unit) => True) (fun _ t => va_P g.1 vwCl ws' t.heap) A
def MI (l : Launch) (y : MethodName) (wm : List Cond) (rm : Room) (g : gT) (n : Nat) (a : Nat → Nat) (av : List Value) (ws ws' : va_W) (r : Int32) : Prop :=
  ∀ sz : Nat, Met l y wm rm (va_Pc av (pW g ws sz)) (qI g ws' r (aA n a sz)) 0 0 (aA n a sz)
def MV (l : Launch) (y : MethodName) (wm : List Cond) (rm : Room) (g : gT) (n : Nat) (a : Nat → Nat) (av : List Value) (ws ws' : va_W) : Prop :=
  ∀ sz : Nat, Met l y wm rm (va_Pc av (pW g ws sz)) (qV g ws' (aA n a sz)) 0 0 (aA n a sz)
theorem KK.warm {g : gT} {s U : State} (hW : s.WarmedH U.vm) (h : KK g s) : KK g U := ⟨h.1.moved hW.alike, h.2.warmM hW⟩
theorem KK.same {g : gT} {s U : State} (hv : s.vm = U.vm) (h : KK g s) : KK g U := ⟨h.1.moved (by rw [← hv]; exact Vm.Alike.refl s.vm), h.2.same rfl hv⟩
theorem pW_blind {g : gT} {ws : va_W} {sz : Nat} {av : List Value} : FrameBlind (va_Pc av (pW g ws sz)) := by
  intro x U fr mk q
  obtain ⟨q0, q1, qK, qP⟩ := q
  exact ⟨q0, q1, KK.same (s := U) (U := U.calling fr mk x) rfl qK, qP⟩
section CORE
variable {p : Program} {l : Launch} {e : Env} {R : Room} {s : State} {m : MethodId} {args : Array Value} {below : List Frame} {meth : Method} {c : Code} {H H0 : Heap} {locs : List Loc} {cells slots : Nat} {Q : State → Prop}
variable {cc : ByteArray} {pc : Nat} {ls : Array Slot} {rest : List Value} {g : gT} {n : Nat} {a : Nat → Nat} {f f' : Nat → va_E} {A : Nat → Prop} {own : String} {Ts : List Cond}
theorem MI_of {y : MethodName} {wm wm' : List Cond} {rm : Room} {av : List Value} {ws ws' : va_W} {r : Int32} {maxL : Nat} {rt : FieldType} (hy : plainName y.cls = true) (hw : wm = Cond.code y cc maxL (some rt) :: wm') (hlen : (lg_sl av).length ≤ maxL)
    (body : ∀ (p : Program) (e : Env) (s : State) (m : MethodId) (args : Array Value) (below : List Frame) (meth : Method) (c : Code) (ls : Array Slot), p.tables.exec = Jvm.exec → c.code = cc → c.maxLocals = maxL → meth.sig.returnType = some rt → meth.locks = false → (∀ w ∈ wm, w.before args s = true) → s.vm.findClass y.cls = some m.cls → KK g s → va_P g.1 vwCl ws s.heap → lv_has ls maxL (lv_args 0 av) →
      W p l e rm s m args below meth c s.heap [] 0 0 (MQ below (qI g ws' r (aA n a s.heap.size)) args s 0 0 (aA n a s.heap.size)) (F0 m 0 ls [])) : MI l y wm rm g n a av ws ws' r := by
  intro sz
  refine Met.ofW (cc := cc) (maxL := maxL) (ret := some rt) hy hw ?_
  intro p e s m args below meth c s₁ B hml hv
  obtain ⟨rfl, hsz, hK, hP⟩ := hv
  subst hsz
  have hts := atoms_spec (ws := wm) B.pre
  have hown : s.vm.findClass y.cls = some m.cls := findClass_of_methodNamed B.named
  have hl := lv_entry av (n := maxL) hlen
  rw [lg_entry_eq]
  exact body p e s m _ below meth c _ B.exec B.bytes hml B.returns B.notSynchronized hts hown hK hP hl
theorem MV_of {y : MethodName} {wm wm' : List Cond} {rm : Room} {av : List Value} {ws ws' : va_W} {maxL : Nat} (hy : plainName y.cls = true) (hw : wm = Cond.code y cc maxL none :: wm') (hlen : (lg_sl av).length ≤ maxL)
    (body : ∀ (p : Program) (e : Env) (s : State) (m : MethodId) (args : Array Value) (below : List Frame) (meth : Method) (c : Code) (ls : Array Slot), p.tables.exec = Jvm.exec → c.code = cc → c.maxLocals = maxL → meth.sig.returnType = none → meth.locks = false → (∀ w ∈ wm, w.before args s = true) → s.vm.findClass y.cls = some m.cls → KK g s → va_P g.1 vwCl ws s.heap → lv_has ls maxL (lv_args 0 av) →
      W p l e rm s m args below meth c s.heap [] 0 0 (MQ below (qV g ws' (aA n a s.heap.size)) args s 0 0 (aA n a s.heap.size)) (F0 m 0 ls [])) : MV l y wm rm g n a av ws ws' := by
  intro sz
  refine Met.ofW (cc := cc) (maxL := maxL) (ret := none) hy hw ?_
  intro p e s m args below meth c s₁ B hml hv
  obtain ⟨rfl, hsz, hK, hP⟩ := hv
  subst hsz
  have hts := atoms_spec (ws := wm) B.pre
  have hown : s.vm.findClass y.cls = some m.cls := findClass_of_methodNamed B.named
  have hl := lv_entry av (n := maxL) hlen
  rw [lg_entry_eq]
  exact body p e s m _ below meth c _ B.exec B.bytes hml B.returns B.notSynchronized hts hown hK hP hl
theorem r_iret {ws' : va_W} {r v : Int32} (hx : p.tables.exec = Jvm.exec) (hb : c.code = cc) (hr : meth.sig.returnType = some .int) (hlk : meth.locks = false) (hS : va_S A s.heap H locs) (hP : va_P g.1 vwCl ws' H) (hv : v = r) (hdg : decode cc pc = .ok (.ireturn, 1)) :
    W p l e R s m args below meth c H locs 0 0 (MQ below (qI g ws' r A) args s 0 0 A) (F0 m pc ls [.int v]) :=
  W.iret hx hb hr (fun t ht _ => ⟨⟨v, (), rfl, hv, by show va_P _ _ _ t.heap; rw [ht]; exact hP⟩, hS.F ht⟩) hS.2.2 hdg hlk
theorem r_zret {ws' : va_W} {r v : Int32} (hx : p.tables.exec = Jvm.exec) (hb : c.code = cc) (hr : meth.sig.returnType = some .boolean) (hlk : meth.locks = false) (hS : va_S A s.heap H locs) (hP : va_P g.1 vwCl ws' H) (hv : v = r) (hz : (v == 0 || v == 1) = true) (hdg : decode cc pc = .ok (.ireturn, 1)) :
    W p l e R s m args below meth c H locs 0 0 (MQ below (qI g ws' r A) args s 0 0 A) (F0 m pc ls [.int v]) :=
  W.zret hx hb hr (by
    rcases Bool.or_eq_true _ _ ▸ hz with h | h
    · rw [eq_of_beq h]; rfl
    · rw [eq_of_beq h]; rfl) (fun t ht _ => ⟨⟨v, (), rfl, hv, by show va_P _ _ _ t.heap; rw [ht]; exact hP⟩, hS.F ht⟩) hS.2.2 hdg hlk
theorem r_vret {ws' : va_W} (hx : p.tables.exec = Jvm.exec) (hb : c.code = cc) (hr : meth.sig.returnType = none) (hlk : meth.locks = false) (hS : va_S A s.heap H locs) (hP : va_P g.1 vwCl ws' H) (hdg : decode cc pc = .ok (.return_, 1)) :
    W p l e R s m args below meth c H locs 0 0 (MQ below (qV g ws' A) args s 0 0 A) (F0 m pc ls []) :=
  W.vret hx hb hr (fun t ht _ => ⟨⟨(), rfl, trivial, by show va_P _ _ _ t.heap; rw [ht]; exact hP⟩, hS.F ht⟩) hS.2.2 hdg hlk
theorem r_get (hx : p.tables.exec = Jvm.exec) (hb : c.code = cc) (hts : ∀ w ∈ Ts, w.before args s = true) {C : String} {T : u_T} {N ci index : Nat} (hin : ∀ w ∈ u_ws C T N, w ∈ Ts) (hown : s.vm.findClass own = some m.cls) (hK : KK g s) (hP : va_P g.1 vwCl (wl n a f) H) (c0 : Nat) (hc0 : c0 < n) {fs : List Value} (he : f c0 = .inr (ci, fs)) (hc : vwCl[ci]? = some (C, T, N)) (k : Nat) (hk : k < N) (hlink : (Cond.fieldLink own index (T k).1 (T k).2.1 (T k).2.2.1).before args s = true) {v : Value} (hv : fs[k]? = some v) (hdg : decode cc pc = .ok (.getfield index, 3))
    (kk : W p l e R s m args below meth c H locs cells slots Q (F0 m (pc + 3) ls (v :: rest))) : W p l e R s m args below meth c H locs cells slots Q (F0 m pc ls (.ref (a c0) :: rest)) :=
  va_get hx hb hts hin hown hK.1 hP c0 ((wl_get hc0).trans (by rw [he])) hc k hk hlink (fun _ h => h) hv hdg kk
theorem r_put (hx : p.tables.exec = Jvm.exec) (hb : c.code = cc) (hts : ∀ w ∈ Ts, w.before args s = true) {C : String} {T : u_T} {N ci index : Nat} (hin : ∀ w ∈ u_ws C T N, w ∈ Ts) (ty0 : Nat → FieldType) (hty : ∀ k, k < N → parseFieldDescriptor (T k).2.2.1 = some (ty0 k)) (hnm : ∀ a, a < N → ∀ b, b < N → a ≠ b → (T a).2.1 ≠ (T b).2.1) (hown : s.vm.findClass own = some m.cls) (hK : KK g s) (hI : ij n a) (hA : ∀ i, i < n → A (a i)) (hP : va_P g.1 vwCl (wl n a f) H) (hS : va_S A H0 H locs) (c0 : Nat) (hc0 : c0 < n) {fs : List Value} (he : f c0 = .inr (ci, fs)) (hc : vwCl[ci]? = some (C, T, N)) (k : Nat) (hk : k < N) (hlink : (Cond.fieldLink own index (T k).1 (T k).2.1 (T k).2.2.1).before args s = true) (hfin : (T k).2.2.2 = false) {ty : FieldType} {v : Value} (hd : parseFieldDescriptor (T k).2.2.1 = some ty) (hn : narrow ty v = v) (hfit : fits ty v = true) (hl : k < fs.length) (hup : va_up f c0 (.inr (ci, fs.set k v)) = f')
    (hdg : decode cc pc = .ok (.putfield index, 3)) (kk : ∀ (H1 : Heap) (locs1 : List Loc), va_P g.1 vwCl (wl n a f') H1 → va_S A H0 H1 locs1 → W p l e R s m args below meth c H1 locs1 cells slots Q (F0 m (pc + 3) ls rest)) : W p l e R s m args below meth c H locs cells slots Q (F0 m pc ls (v :: .ref (a c0) :: rest)) :=
  va_put hx hb hts hin ty0 hty hnm hown hK.1 hP (wl_D hI hA) hS c0 ((wl_get hc0).trans (by rw [he])) hc k hk hlink (fun _ h => h) hfin hd hn hfit hl hdg (fun H1 locs1 hP1 _ hS1 => kk H1 locs1 (by rw [← hup, ← wl_set hc0]; exact hP1) hS1)
theorem r_iald (hx : p.tables.exec = Jvm.exec) (hb : c.code = cc) (hK : KK g s) (hP : va_P g.1 vwCl (wl n a f) H) (c0 : Nat) (hc0 : c0 < n) {N : Nat} {h : Nat → Int32} (he : f c0 = .inl (g.2.1, N, .inl h)) {i : Int32} (hin : bIn i N = true) (hdg : decode cc pc = .ok (.iaload, 1))
    (kk : W p l e R s m args below meth c H locs cells slots Q (F0 m (pc + 1) ls (.int (h i.toNatClampNeg) :: rest))) : W p l e R s m args below meth c H locs cells slots Q (F0 m pc ls (.int i :: .ref (a c0) :: rest)) :=
  va_iald hx hb hK.1 hP c0 0 ((wl_get hc0).trans (by rw [he])) rfl (bIn_ok hin) hdg kk
theorem r_iast (hx : p.tables.exec = Jvm.exec) (hb : c.code = cc) (hK : KK g s) (hI : ij n a) (hA : ∀ i, i < n → A (a i)) (hP : va_P g.1 vwCl (wl n a f) H) (hS : va_S A H0 H locs) (c0 : Nat) (hc0 : c0 < n) {N : Nat} {h : Nat → Int32} (he : f c0 = .inl (g.2.1, N, .inl h)) {i x : Int32} (hin : bIn i N = true) (hup : va_up f c0 (.inl (g.2.1, N, .inl (upd h i.toNatClampNeg x))) = f') (hdg : decode cc pc = .ok (.iastore, 1))
    (kk : ∀ (H1 : Heap) (locs1 : List Loc), va_P g.1 vwCl (wl n a f') H1 → va_S A H0 H1 locs1 → W p l e R s m args below meth c H1 locs1 cells slots Q (F0 m (pc + 1) ls rest)) : W p l e R s m args below meth c H locs cells slots Q (F0 m pc ls (.int x :: .int i :: .ref (a c0) :: rest)) :=
  va_iast hx hb hK.1 hP (wl_D hI hA) hS c0 0 ((wl_get hc0).trans (by rw [he])) rfl (bIn_ok hin) hdg (fun H1 locs1 hP1 _ hS1 => kk H1 locs1 (by rw [← hup, ← wl_set hc0]; exact hP1) hS1)
theorem r_zald (hx : p.tables.exec = Jvm.exec) (hb : c.code = cc) (hK : KK g s) (hP : va_P g.1 vwCl (wl n a f) H) (c0 : Nat) (hc0 : c0 < n) {N : Nat} {h : Nat → Int32} (he : f c0 = .inl (g.2.2.1, N, .inl h)) {i : Int32} (hin : bIn i N = true) (hdg : decode cc pc = .ok (.baload, 1))
    (kk : W p l e R s m args below meth c H locs cells slots Q (F0 m (pc + 1) ls (.int (h i.toNatClampNeg) :: rest))) : W p l e R s m args below meth c H locs cells slots Q (F0 m pc ls (.int i :: .ref (a c0) :: rest)) :=
  va_zald hx hb hK.1 hP c0 1 ((wl_get hc0).trans (by rw [he])) rfl (bIn_ok hin) hdg kk
theorem r_zast (hx : p.tables.exec = Jvm.exec) (hb : c.code = cc) (hK : KK g s) (hI : ij n a) (hA : ∀ i, i < n → A (a i)) (hP : va_P g.1 vwCl (wl n a f) H) (hS : va_S A H0 H locs) (c0 : Nat) (hc0 : c0 < n) {N : Nat} {h : Nat → Int32} (he : f c0 = .inl (g.2.2.1, N, .inl h)) {i x : Int32} (hin : bIn i N = true) (hz : vp_nar .boolean x = x) (hup : va_up f c0 (.inl (g.2.2.1, N, .inl (upd h i.toNatClampNeg x))) = f') (hdg : decode cc pc = .ok (.bastore, 1))
    (kk : ∀ (H1 : Heap) (locs1 : List Loc), va_P g.1 vwCl (wl n a f') H1 → va_S A H0 H1 locs1 → W p l e R s m args below meth c H1 locs1 cells slots Q (F0 m (pc + 1) ls rest)) : W p l e R s m args below meth c H locs cells slots Q (F0 m pc ls (.int x :: .int i :: .ref (a c0) :: rest)) :=
  va_zast hx hb hK.1 hP (wl_D hI hA) hS c0 1 ((wl_get hc0).trans (by rw [he])) rfl (bIn_ok hin) hdg (fun H1 locs1 hP1 _ hS1 => kk H1 locs1 (by rw [← hup, ← wl_set hc0]; rw [hz] at hP1; exact hP1) hS1)
theorem r_alen (hx : p.tables.exec = Jvm.exec) (hb : c.code = cc) (hK : KK g s) (hP : va_P g.1 vwCl (wl n a f) H) (c0 : Nat) (hc0 : c0 < n) {N : Nat} {h : Nat → Int32} (he : f c0 = .inl (g.2.1, N, .inl h)) {v : Int32} (hv : Int32.ofNat N = v) (hdg : decode cc pc = .ok (.arraylength, 1))
    (kk : W p l e R s m args below meth c H locs cells slots Q (F0 m (pc + 1) ls (.int v :: rest))) : W p l e R s m args below meth c H locs cells slots Q (F0 m pc ls (.ref (a c0) :: rest)) :=
  va_alen hx hb hK.1 hP c0 0 ((wl_get hc0).trans (by rw [he])) rfl hv hdg kk
theorem r_aald (hx : p.tables.exec = Jvm.exec) (hb : c.code = cc) (hK : KK g s) (hP : va_P g.1 vwCl (wl n a f) H) (c0 t0 : Nat) (hc0 : c0 < n) {N : Nat} {cA : ClassId} {C : String} {h : Nat → Nat} (ht : (tyl g)[t0]? = some (cA, .object C)) (he : f c0 = .inl (cA, N, .inr (.inr (.inr (.inr (fun i => some (a (h i)))))))) {i : Int32} (hin : bIn i N = true) (hdg : decode cc pc = .ok (.aaload, 1))
    (kk : W p l e R s m args below meth c H locs cells slots Q (F0 m (pc + 1) ls (.ref (a (h i.toNatClampNeg)) :: rest))) : W p l e R s m args below meth c H locs cells slots Q (F0 m pc ls (.int i :: .ref (a c0) :: rest)) :=
  va_aldq (f := fun i => some (a (h i))) hx hb hK.1 hP c0 t0 ((wl_get hc0).trans (by rw [he])) ht (bIn_ok hin) hdg kk
theorem r_copy (hx : p.tables.exec = Jvm.exec) (hb : c.code = cc) (hml : c.maxLocals = ls.size) {index : Nat} (hown : s.vm.findClass own = some m.cls) (hlink : (Cond.methodLink own index arraycopyName).before args s = true) (hnat : (Cond.native arraycopyName).before args s = true) (hstat : (Cond.static arraycopyName).before args s = true) (hini : (Cond.initialized "java/lang/System").before args s = true)
    (hK : KK g s) (hI : ij n a) (hA : ∀ i, i < n → A (a i)) (hP : va_P g.1 vwCl (wl n a f) H) (hS : va_S A H0 H locs) (c0 c1 : Nat) (hc0 : c0 < n) (hc1 : c1 < n) {n0 n1 : Nat} {h h' : Nat → Int32} (he0 : f c0 = .inl (g.2.1, n0, .inl h)) (he1 : f c1 = .inl (g.2.1, n1, .inl h'))
    {sp dp k : Int32} (hq : (!decide (sp < 0) && !decide (dp < 0) && !decide (k < 0) && decide (sp.toNatClampNeg + k.toNatClampNeg ≤ n0) && decide (dp.toNatClampNeg + k.toNatClampNeg ≤ n1)) = true) (hup : va_up f c1 (.inl (g.2.1, n1, .inl (va_cpy h h' sp.toNatClampNeg dp.toNatClampNeg k.toNatClampNeg))) = f')
    (hframes : 1 ≤ R.frames) (hlocals : (rest.map fun v => v.category).sum + (nativeFrameWords "java/lang/System" "arraycopy" 5 + 11) ≤ R.locals) (hdg : decode cc pc = .ok (.invokestatic index, 3))
    (kk : ∀ (H1 : Heap) (locs1 : List Loc), va_P g.1 vwCl (wl n a f') H1 → va_S A H0 H1 locs1 → W p l e R s m args below meth c H1 locs1 cells slots Q (F0 m (pc + 3) ls rest)) : W p l e R s m args below meth c H locs cells slots Q (F0 m pc ls (.int k :: .int dp :: .ref (a c1) :: .int sp :: .ref (a c0) :: rest)) := by
  simp only [Bool.and_eq_true, Bool.not_eq_true', decide_eq_false_iff_not, decide_eq_true_eq] at hq
  obtain ⟨⟨⟨⟨q1, q2⟩, q3⟩, q4⟩, q5⟩ := hq
  exact va_copyi hx hb hml hown hlink hnat hstat hini hK.1 hP (wl_D hI hA) hS c0 c1 0 0 ((wl_get hc0).trans (by rw [he0])) ((wl_get hc1).trans (by rw [he1])) rfl rfl rfl q1 q2 q3 q4 q5 (fun _ _ => rfl) hframes hlocals hdg (fun H1 locs1 hP1 _ hS1 => kk H1 locs1 (by rw [← hup, ← wl_set hc1]; exact hP1) hS1)
/-! calls: the callee's world is cut out by 'hcut', what came back is put beside the rest by 'hjoin' -/
variable {y : MethodName} {bytes : ByteArray} {maxL nL nA index nc : Nat} {ret : Option FieldType} {wm : List Cond} {rm : Room} {C : String} {b : Addr} {As : List Value} {ac : Nat → Nat} {wc wc' ws ws' : va_W} {r : Int32}
theorem r_callVi (hM : MI l y wm rm g nc ac (.ref b :: As) wc wc' r) (S : CallFix p m c cc nL s args Ts own) (cw : CallW R s args own C index y bytes maxL ret wm rm 0 0 nA) (hK : KK g s) (hrecv : ∃ cellB : Cell, H[b]? = some cellB ∧ cellB.vm.isStatics = false ∧ s.vm.findClass C = some cellB.cls) (hS : va_S A H0 H locs) (hcut : va_P g.1 vwCl wc H) (hA : ∀ q, aA nc ac H.size q → A q)
    (hjoin : ∀ H1 : Heap, va_P g.1 vwCl wc' H1 → (∀ q : Nat, q < H.size → ¬ aA nc ac H.size q → H1[q]? = H[q]?) → va_P g.1 vwCl ws' H1) (hn : As.length = nA) (hsize : ls.size = nL) {st : List Value} (hstack : st = As.reverse ++ .ref b :: rest) (hW : (rest.map fun v => v.category).sum ≤ 8) (hdg : decode cc pc = .ok (.invokevirtual index, 3)) (hf : cells ≤ R.cells ∧ slots ≤ R.slots)
    (kk : ∀ (H1 : Heap) (locs1 : List Loc), va_P g.1 vwCl ws' H1 → va_S A H0 H1 locs1 → W p l e R s m args below meth c H1 locs1 cells slots Q (F0 m (pc + 3) ls (.int r :: rest))) : W p l e R s m args below meth c H locs cells slots Q (F0 m pc ls st) := by
  refine va_calli (va_runV (As := As) (rest := rest) S (hM H.size) cw ⟨pW_blind, hrecv, fun U hU hW => ⟨rfl, by rw [hU], hK.warm hW, by rw [hU]; exact hcut⟩⟩ rfl hn hsize hstack (lv_room hW) hdg hf) hS (fun q _ h => hA q h) hA (fun r' u t H1 locs1 ht hvm hp hB hz hk1 hS1 => ?_)
  subst hp
  rw [ht] at hB
  exact kk H1 locs1 (hjoin H1 hB hk1) hS1
theorem r_callVv (hM : MV l y wm rm g nc ac (.ref b :: As) wc wc') (S : CallFix p m c cc nL s args Ts own) (cw : CallW R s args own C index y bytes maxL ret wm rm 0 0 nA) (hK : KK g s) (hrecv : ∃ cellB : Cell, H[b]? = some cellB ∧ cellB.vm.isStatics = false ∧ s.vm.findClass C = some cellB.cls) (hS : va_S A H0 H locs) (hcut : va_P g.1 vwCl wc H) (hA : ∀ q, aA nc ac H.size q → A q)
    (hjoin : ∀ H1 : Heap, va_P g.1 vwCl wc' H1 → (∀ q : Nat, q < H.size → ¬ aA nc ac H.size q → H1[q]? = H[q]?) → va_P g.1 vwCl ws' H1) (hn : As.length = nA) (hsize : ls.size = nL) {st : List Value} (hstack : st = As.reverse ++ .ref b :: rest) (hW : (rest.map fun v => v.category).sum ≤ 8) (hdg : decode cc pc = .ok (.invokevirtual index, 3)) (hf : cells ≤ R.cells ∧ slots ≤ R.slots)
    (kk : ∀ (H1 : Heap) (locs1 : List Loc), va_P g.1 vwCl ws' H1 → va_S A H0 H1 locs1 → W p l e R s m args below meth c H1 locs1 cells slots Q (F0 m (pc + 3) ls rest)) : W p l e R s m args below meth c H locs cells slots Q (F0 m pc ls st) := by
  refine va_callv (va_runV (As := As) (rest := rest) S (hM H.size) cw ⟨pW_blind, hrecv, fun U hU hW => ⟨rfl, by rw [hU], hK.warm hW, by rw [hU]; exact hcut⟩⟩ rfl hn hsize hstack (lv_room hW) hdg hf) hS (fun q _ h => hA q h) hA (fun u t H1 locs1 ht hvm hp hB hz hk1 hS1 => ?_)
  rw [ht] at hB
  exact kk H1 locs1 (hjoin H1 hB hk1) hS1
theorem r_callSi (hM : MI l y wm rm g nc ac As wc wc' r) (S : CallFix p m c cc nL s args Ts own) (cw : CallB R s args own index y bytes maxL ret wm rm 0 0 nA ∧ (Cond.static y).before args s = true) (hK : KK g s) (hS : va_S A H0 H locs) (hcut : va_P g.1 vwCl wc H) (hA : ∀ q, aA nc ac H.size q → A q)
    (hjoin : ∀ H1 : Heap, va_P g.1 vwCl wc' H1 → (∀ q : Nat, q < H.size → ¬ aA nc ac H.size q → H1[q]? = H[q]?) → va_P g.1 vwCl ws' H1) (hn : As.length = nA) (hsize : ls.size = nL) {st : List Value} (hstack : st = As.reverse ++ rest) (hW : (rest.map fun v => v.category).sum ≤ 8) (hdg : decode cc pc = .ok (.invokestatic index, 3)) (hf : cells ≤ R.cells ∧ slots ≤ R.slots)
    (kk : ∀ (H1 : Heap) (locs1 : List Loc), va_P g.1 vwCl ws' H1 → va_S A H0 H1 locs1 → W p l e R s m args below meth c H1 locs1 cells slots Q (F0 m (pc + 3) ls (.int r :: rest))) : W p l e R s m args below meth c H locs cells slots Q (F0 m pc ls st) := by
  refine va_calli (va_runS (As := As) (rest := rest) S (hM H.size) cw ⟨pW_blind, fun U hU hW => ⟨rfl, by rw [hU], hK.warm hW, by rw [hU]; exact hcut⟩⟩ rfl hn hsize hstack (lv_room hW) hdg hf) hS (fun q _ h => hA q h) hA (fun r' u t H1 locs1 ht hvm hp hB hz hk1 hS1 => ?_)
  subst hp
  rw [ht] at hB
  exact kk H1 locs1 (hjoin H1 hB hk1) hS1
theorem r_callSv (hM : MV l y wm rm g nc ac As wc wc') (S : CallFix p m c cc nL s args Ts own) (cw : CallB R s args own index y bytes maxL ret wm rm 0 0 nA ∧ (Cond.static y).before args s = true) (hK : KK g s) (hS : va_S A H0 H locs) (hcut : va_P g.1 vwCl wc H) (hA : ∀ q, aA nc ac H.size q → A q)
    (hjoin : ∀ H1 : Heap, va_P g.1 vwCl wc' H1 → (∀ q : Nat, q < H.size → ¬ aA nc ac H.size q → H1[q]? = H[q]?) → va_P g.1 vwCl ws' H1) (hn : As.length = nA) (hsize : ls.size = nL) {st : List Value} (hstack : st = As.reverse ++ rest) (hW : (rest.map fun v => v.category).sum ≤ 8) (hdg : decode cc pc = .ok (.invokestatic index, 3)) (hf : cells ≤ R.cells ∧ slots ≤ R.slots)
    (kk : ∀ (H1 : Heap) (locs1 : List Loc), va_P g.1 vwCl ws' H1 → va_S A H0 H1 locs1 → W p l e R s m args below meth c H1 locs1 cells slots Q (F0 m (pc + 3) ls rest)) : W p l e R s m args below meth c H locs cells slots Q (F0 m pc ls st) := by
  refine va_callv (va_runS (As := As) (rest := rest) S (hM H.size) cw ⟨pW_blind, fun U hU hW => ⟨rfl, by rw [hU], hK.warm hW, by rw [hU]; exact hcut⟩⟩ rfl hn hsize hstack (lv_room hW) hdg hf) hS (fun q _ h => hA q h) hA (fun u t H1 locs1 ht hvm hp hB hz hk1 hS1 => ?_)
  rw [ht] at hB
  exact kk H1 locs1 (hjoin H1 hB hk1) hS1
theorem r_callNi {host : String} (hM : MI l y wm rm g nc ac As wc wc' r) (S : CallFix p m c cc nL s args Ts own) (cw : va_CN R s args own index y host bytes maxL ret wm rm 0 0 nA ∧ (Cond.static y).before args s = true ∧ True) (hK : KK g s) (hS : va_S A H0 H locs) (hcut : va_P g.1 vwCl wc H) (hA : ∀ q, aA nc ac H.size q → A q)
    (hjoin : ∀ H1 : Heap, va_P g.1 vwCl wc' H1 → (∀ q : Nat, q < H.size → ¬ aA nc ac H.size q → H1[q]? = H[q]?) → va_P g.1 vwCl ws' H1) (hn : As.length = nA) (hsize : ls.size = nL) {st : List Value} (hstack : st = As.reverse ++ rest) (hW : (rest.map fun v => v.category).sum ≤ 8) (hdg : decode cc pc = .ok (.invokestatic index, 3)) (hf : cells ≤ R.cells ∧ slots ≤ R.slots)
    (kk : ∀ (H1 : Heap) (locs1 : List Loc), va_P g.1 vwCl ws' H1 → va_S A H0 H1 locs1 → W p l e R s m args below meth c H1 locs1 cells slots Q (F0 m (pc + 3) ls (.int r :: rest))) : W p l e R s m args below meth c H locs cells slots Q (F0 m pc ls st) := by
  refine va_calli (va_runSN (As := As) (rest := rest) S (hM H.size) cw ⟨pW_blind, fun U hU hW => ⟨rfl, by rw [hU], hK.warm hW, by rw [hU]; exact hcut⟩⟩ rfl hn hsize hstack (lv_room hW) hdg hf) hS (fun q _ h => hA q h) hA (fun r' u t H1 locs1 ht hvm hp hB hz hk1 hS1 => ?_)
  subst hp
  rw [ht] at hB
  exact kk H1 locs1 (hjoin H1 hB hk1) hS1
end CORE
