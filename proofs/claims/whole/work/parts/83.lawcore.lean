/-! the law's world: the class's cells, then the reference's -/
def LW (g : gT) (z : Nat) (M N : Mem) : va_W := wl 203 (aH z) (eX g (aH z) M) ++ wl 14 (aH (z + 203)) (eN g (aH (z + 203)) N)
section LWS
variable {g : gT} {z : Nat} {M N M' N' : Mem} {H H1 : Heap}
theorem LW_l (h : va_P g.1 vwCl (LW g z M N) H) : va_P g.1 vwCl (wl 203 (aH z) (eX g (aH z) M)) H := fun k q hk => by
  obtain ⟨h1, -⟩ := wl_mem hk
  refine h k q ?_
  unfold LW
  rw [List.getElem?_append_left (by rw [wl_len]; exact h1)]
  exact hk
theorem LW_r (h : va_P g.1 vwCl (LW g z M N) H) : va_P g.1 vwCl (wl 14 (aH (z + 203)) (eN g (aH (z + 203)) N)) H := fun k q hk => by
  refine h (203 + k) q ?_
  unfold LW
  rw [List.getElem?_append_right (by rw [wl_len]; omega), wl_len, Nat.add_sub_cancel_left]
  exact hk
theorem LW_mk (h1 : va_P g.1 vwCl (wl 203 (aH z) (eX g (aH z) M)) H) (h2 : va_P g.1 vwCl (wl 14 (aH (z + 203)) (eN g (aH (z + 203)) N)) H) : va_P g.1 vwCl (LW g z M N) H := fun k q hk => by
  unfold LW at hk
  by_cases hl : k < 203
  · rw [List.getElem?_append_left (by rw [wl_len]; exact hl)] at hk
    exact h1 k q hk
  · rw [List.getElem?_append_right (by rw [wl_len]; omega), wl_len] at hk
    exact h2 _ q hk
theorem LX_join (hP : va_P g.1 vwCl (LW g z M N) H) (H1 : Heap) (hP1 : va_P g.1 vwCl (wl 203 (aH z) (eX g (aH z) M')) H1) (hk : ∀ q : Nat, q < H.size → ¬ aA 203 (aH z) H.size q → H1[q]? = H[q]?) : va_P g.1 vwCl (LW g z M' N) H1 := by
  refine LW_mk hP1 ((LW_r hP).kept (fun k q h => ?_))
  have hlt := (LW_r hP k q h).lt
  obtain ⟨h1, rfl⟩ := wl_mem h
  refine hk _ hlt ?_
  rintro (⟨j, hj, e⟩ | e)
  · have : z + 203 + k = z + j := e
    omega
  · exact Nat.not_le.mpr hlt e
theorem LN_join (hP : va_P g.1 vwCl (LW g z M N) H) (H1 : Heap) (hP1 : va_P g.1 vwCl (wl 14 (aH (z + 203)) (eN g (aH (z + 203)) N')) H1) (hk : ∀ q : Nat, q < H.size → ¬ aA 14 (aH (z + 203)) H.size q → H1[q]? = H[q]?) : va_P g.1 vwCl (LW g z M N') H1 := by
  refine LW_mk ((LW_l hP).kept (fun k q h => ?_)) hP1
  have hlt := (LW_l hP k q h).lt
  obtain ⟨h1, rfl⟩ := wl_mem h
  refine hk _ hlt ?_
  rintro (⟨j, hj, e⟩ | e)
  · have : z + k = z + 203 + j := e
    omega
  · exact Nat.not_le.mpr hlt e
theorem LX_A (hz : z ≤ H.size) : ∀ q, aA 203 (aH z) H.size q → z ≤ q := fun q hq => by
  rcases hq with ⟨j, hj, e⟩ | e
  · rw [e]; exact Nat.le_add_right z j
  · exact Nat.le_trans hz e
theorem LN_A (hz : z ≤ H.size) : ∀ q, aA 14 (aH (z + 203)) H.size q → z ≤ q := fun q hq => by
  rcases hq with ⟨j, hj, e⟩ | e
  · rw [e]; show z ≤ z + 203 + j; omega
  · exact Nat.le_trans hz e
end LWS
theorem law_le {L i : Nat} (hL : L ≤ 3072) (hi : i ≤ L) (h : ¬ Int32.ofNat L - 6 < nI i) : i + 6 ≤ L := by
  have e1 : (nI L - 6).toInt = (L : Int) - 6 := pk_sub_toInt (a := L) (b := 6) (by omega) (by omega)
  have h2 := Int32.not_lt.mp h
  rw [Int32.le_iff_toInt_le, nI_toInt (by omega)] at h2
  have e2 : (Int32.ofNat L - 6).toInt = (L : Int) - 6 := e1
  rw [e2] at h2
  omega
section LZ
variable {p : Program} {l : Launch} {e : Env} {R : Room} {s : State} {m : MethodId} {args : Array Value} {below : List Frame} {meth : Method} {c : Code} {H : Heap} {locs : List Loc} {cells slots : Nat} {Q : State → Prop}
variable {cc : ByteArray} {pc : Nat} {ls : Array Slot} {rest : List Value} {g : gT} {A : Nat → Prop} {own : String} {Ts : List Cond}
variable {y : MethodName} {bytes : ByteArray} {maxL nL nA index nc : Nat} {ret : Option FieldType} {wm : List Cond} {rm : Room} {C : String} {b : Addr} {As : List Value} {ac : Nat → Nat} {wc wc' ws' : va_W} {r : Int32}
theorem r_callViz (hZ : zT A s s.heap) (hM : MIs l y wm rm g nc ac (.ref b :: As) wc wc' r) (S : CallFix p m c cc nL s args Ts own) (cw : CallW R s args own C index y bytes maxL ret wm rm 0 0 nA) (hK : KK g s) (hrecv : ∃ cellB : Cell, H[b]? = some cellB ∧ cellB.vm.isStatics = false ∧ s.vm.findClass C = some cellB.cls) (hS : va_S A s.heap H locs) (hcut : va_P g.1 vwCl wc H) (hA : ∀ q, aA nc ac H.size q → A q)
    (hjoin : ∀ H1 : Heap, va_P g.1 vwCl wc' H1 → (∀ q : Nat, q < H.size → ¬ aA nc ac H.size q → H1[q]? = H[q]?) → va_P g.1 vwCl ws' H1) (hn : As.length = nA) (hsize : ls.size = nL) {st : List Value} (hstack : st = As.reverse ++ .ref b :: rest) (hW : (rest.map fun v => v.category).sum ≤ 8) (hdg : decode cc pc = .ok (.invokevirtual index, 3)) (hf : cells ≤ R.cells ∧ slots ≤ R.slots)
    (kk : ∀ (H1 : Heap) (locs1 : List Loc), va_P g.1 vwCl ws' H1 → va_S A s.heap H1 locs1 → W p l e R s m args below meth c H1 locs1 cells slots Q (F0 m (pc + 3) ls (.int r :: rest))) : W p l e R s m args below meth c H locs cells slots Q (F0 m pc ls st) := by
  refine va_calli (va_runV (As := As) (rest := rest) S (hM H.size) cw ⟨pZ_blind, hrecv, fun U hU hW => ⟨rfl, ⟨by rw [hU], hK.warm hW, by rw [hU]; exact hcut⟩, hZ.to hW.alike (fun q hq hn => by rw [hU]; exact hS.2.1 q hq hn) hA⟩⟩ rfl hn hsize hstack (lv_room hW) hdg hf) hS (fun q _ h => hA q h) hA (fun r' u t H1 locs1 ht hvm hp hB hz hk1 hS1 => ?_)
  subst hp
  rw [ht] at hB
  exact kk H1 locs1 (hjoin H1 hB hk1) hS1
end LZ
