/-! a stair of the class and a row of the reference that say the same -/
def RS (m : Mem) (row : Nat → Int32) (n s : Nat) : Prop :=
  (m 0 3 = nI n ∧ row 17 = nI n ∧ n ≤ 7) ∧ (m 0 0 = nI s ∧ row 16 = nI s ∧ s ≤ 12 ∧ (0 < n → 4 ≤ s)) ∧ (m 0 1 = row 1 ∧ (row 1 = 0 ∨ row 1 = 1 ∨ row 1 = 2)) ∧ m 0 2 = row 0 ∧
  ∀ r, r < n → (m 1 r = row (18 + r) ∧ m 2 r = row (9 + r) ∧ m 3 r = row (2 + r)) ∧ okL (row (9 + r)) ∧ okA s (row (2 + r)) ∧ ∃ k, 1 ≤ k ∧ k ≤ 5 ∧ row (18 + r) = nI k
theorem RS.okS {m : Mem} {row : Nat → Int32} {n s : Nat} (h : RS m row n s) : okS m n s := ⟨h.1.1, h.1.2.2, h.2.1.1, h.2.1.2.2.1, fun r hr => by
  obtain ⟨⟨-, e2, e3⟩, h2, h3, -⟩ := h.2.2.2.2 r hr
  rw [e2, e3]
  exact ⟨h2, h3⟩⟩
theorem RS.congr {m m' : Mem} {row row' : Nat → Int32} {n s : Nat} (h : RS m row n s) (h0 : ∀ k, k < 4 → m' 0 k = m 0 k) (h1 : ∀ i r, 1 ≤ i → i ≤ 3 → r < 7 → m' i r = m i r) (h2 : ∀ j, j < 25 → row' j = row j) : RS m' row' n s := by
  obtain ⟨⟨a1, a2, a3⟩, ⟨b1, b2, b3, b4⟩, ⟨c1, c2⟩, d, e⟩ := h
  refine ⟨⟨by rw [h0 3 (by omega)]; exact a1, by rw [h2 17 (by omega)]; exact a2, a3⟩, ⟨by rw [h0 0 (by omega)]; exact b1, by rw [h2 16 (by omega)]; exact b2, b3, b4⟩, ⟨by rw [h0 1 (by omega), h2 1 (by omega)]; exact c1, by rw [h2 1 (by omega)]; exact c2⟩, by rw [h0 2 (by omega), h2 0 (by omega)]; exact d, fun r hr => ?_⟩
  rw [h1 1 r (by omega) (by omega) (by omega), h1 2 r (by omega) (by omega) (by omega), h1 3 r (by omega) (by omega) (by omega), h2 (18 + r) (by omega), h2 (9 + r) (by omega), h2 (2 + r) (by omega)]
  exact e r hr
theorem RS.ag1 {m : Mem} {row : Nat → Int32} {n s : Nat} (h : RS m row n s) : ag n (m 1) (rK row) := fun r hr => (h.2.2.2.2 r hr).1.1
theorem RS.ag2 {m : Mem} {row : Nat → Int32} {n s : Nat} (h : RS m row n s) : ag n (m 2) (rL row) := fun r hr => (h.2.2.2.2 r hr).1.2.1
theorem RS.ag3 {m : Mem} {row : Nat → Int32} {n s : Nat} (h : RS m row n s) : ag n (m 3) (rA row) := fun r hr => (h.2.2.2.2 r hr).1.2.2
/-- the speed is another -/
theorem RS.speed {m : Mem} {row : Nat → Int32} {n s : Nat} {v : Int32} (h : RS m row n s) (hv : v = 0 ∨ v = 1 ∨ v = 2) : RS (mp m 0 1 v) (upd row 1 v) n s := by
  obtain ⟨⟨a1, a2, a3⟩, ⟨b1, b2, b3, b4⟩, ⟨c1, c2⟩, d, e⟩ := h
  have z : ∀ j, j ≠ 1 → upd row 1 v j = row j := fun j hj => upd_n _ _ hj
  refine ⟨⟨a1, by rw [z 17 (by omega)]; exact a2, a3⟩, ⟨b1, by rw [z 16 (by omega)]; exact b2, b3, b4⟩, ⟨by rw [upd_s]; rfl, by rw [upd_s]; exact hv⟩, by rw [z 0 (by omega)]; exact d, fun r hr => ?_⟩
  rw [z (18 + r) (by omega), z (9 + r) (by omega), z (2 + r) (by omega)]
  exact e r hr
/-- one is elsewhere -/
theorem RS.at {m : Mem} {row : Nat → Int32} {n s q : Nat} {v : Int32} (h : RS m row n s) (hq : q < 7) (hv : okA s v) : RS (mp m 3 q v) (upd row (2 + q) v) n s := by
  obtain ⟨⟨a1, a2, a3⟩, ⟨b1, b2, b3, b4⟩, ⟨c1, c2⟩, d, e⟩ := h
  have z : ∀ j, j ≠ 2 + q → upd row (2 + q) v j = row j := fun j hj => upd_n _ _ hj
  refine ⟨⟨a1, by rw [z 17 (by omega)]; exact a2, a3⟩, ⟨b1, by rw [z 16 (by omega)]; exact b2, b3, b4⟩, ⟨by rw [z 1 (by omega)]; exact c1, by rw [z 1 (by omega)]; exact c2⟩, by rw [z 0 (by omega)]; exact d, fun r hr => ?_⟩
  rw [z (18 + r) (by omega), z (9 + r) (by omega)]
  obtain ⟨⟨e1, e2, e3⟩, e4, e5, e6⟩ := e r hr
  by_cases hrq : r = q
  · subst hrq
    rw [upd_s]
    exact ⟨⟨e1, e2, upd_s _ _ _⟩, e4, hv, e6⟩
  · rw [z (2 + r) (by omega)]
    exact ⟨⟨e1, e2, (upd_n _ _ hrq).trans e3⟩, e4, e5, e6⟩
/-- one is in another lane -/
theorem RS.lane {m : Mem} {row : Nat → Int32} {n s q : Nat} {v : Int32} (h : RS m row n s) (hq : q < 7) (hv : okL v) : RS (mp m 2 q v) (upd row (9 + q) v) n s := by
  obtain ⟨⟨a1, a2, a3⟩, ⟨b1, b2, b3, b4⟩, ⟨c1, c2⟩, d, e⟩ := h
  have z : ∀ j, j ≠ 9 + q → upd row (9 + q) v j = row j := fun j hj => upd_n _ _ hj
  refine ⟨⟨a1, by rw [z 17 (by omega)]; exact a2, a3⟩, ⟨b1, by rw [z 16 (by omega)]; exact b2, b3, b4⟩, ⟨by rw [z 1 (by omega)]; exact c1, by rw [z 1 (by omega)]; exact c2⟩, by rw [z 0 (by omega)]; exact d, fun r hr => ?_⟩
  rw [z (18 + r) (by omega), z (2 + r) (by omega)]
  obtain ⟨⟨e1, e2, e3⟩, e4, e5, e6⟩ := e r hr
  by_cases hrq : r = q
  · subst hrq
    rw [upd_s]
    exact ⟨⟨e1, upd_s _ _ _, e3⟩, hv, e5, e6⟩
  · rw [z (9 + r) (by omega)]
    exact ⟨⟨e1, (upd_n _ _ hrq).trans e2, e3⟩, e4, e5, e6⟩
/-- one is of another kind -/
theorem RS.kind {m : Mem} {row : Nat → Int32} {n s q k : Nat} (h : RS m row n s) (hq : q < 7) (h1 : 1 ≤ k) (h5 : k ≤ 5) : RS (mp m 1 q (nI k)) (upd row (18 + q) (nI k)) n s := by
  obtain ⟨⟨a1, a2, a3⟩, ⟨b1, b2, b3, b4⟩, ⟨c1, c2⟩, d, e⟩ := h
  have z : ∀ j, j ≠ 18 + q → upd row (18 + q) (nI k) j = row j := fun j hj => upd_n _ _ hj
  refine ⟨⟨a1, by rw [z 17 (by omega)]; exact a2, a3⟩, ⟨b1, by rw [z 16 (by omega)]; exact b2, b3, b4⟩, ⟨by rw [z 1 (by omega)]; exact c1, by rw [z 1 (by omega)]; exact c2⟩, by rw [z 0 (by omega)]; exact d, fun r hr => ?_⟩
  rw [z (9 + r) (by omega), z (2 + r) (by omega)]
  obtain ⟨⟨e1, e2, e3⟩, e4, e5, e6⟩ := e r hr
  by_cases hrq : r = q
  · subst hrq
    rw [upd_s]
    exact ⟨⟨upd_s _ _ _, e2, e3⟩, e4, e5, k, h1, h5, rfl⟩
  · rw [z (18 + r) (by omega)]
    exact ⟨⟨(upd_n _ _ hrq).trans e1, e2, e3⟩, e4, e5, e6⟩
/-- a tick of both -/
theorem RS.tick {m : Mem} {row : Nat → Int32} {n s : Nat} (h : RS m row n s) {N : Mem} {c : Nat} (hc : c ≠ 12) (hN : N c = row) : ∃ (m' : Mem) (row' w' : Nat → Int32), fX2_pass m = some (nI (cN (goP (m 0 0) (m 0 1) (ph1 n s (m 0 0) (m 1) (m 2) (odB (m 0 2)) (m 3))) n), m') ∧ fX6_tick c N = some (TT N c row' w') ∧ RS m' row' n s ∧ m' 3 = tkA n s (m 0 0) (m 0 1) (m 1) (m 2) (odB (m 0 2)) (m 3) ∧ (m' 1 = m 1 ∧ m' 2 = m 2 ∧ (∀ k, k ≠ 2 → m' 0 k = m 0 k)) := by
  obtain ⟨⟨a1, a2, a3⟩, ⟨b1, b2, b3, b4⟩, ⟨c1, c2⟩, d, e⟩ := id h
  obtain ⟨T', hp⟩ := X2_pass h.okS
  obtain ⟨row', w', ht, hj, h0, hag⟩ := X6_tick (M := N) hc (by rw [hN]; exact a2) a3 (by rw [hN]; exact b2) b3
  rw [hN] at hj h0 hag
  refine ⟨_, row', w', hp, ht, ?_, rfl, rfl, rfl, fun k hk => upd_n _ _ hk⟩
  have hA : ag n (tkA n s (m 0 0) (m 0 1) (m 1) (m 2) (odB (m 0 2)) (m 3)) (rA row') := by
    refine ag_tr ?_ (ag_sy hag)
    rw [b1, ← b2, c1, d]
    exact tkA_congr h.ag1 h.ag2 h.ag3
  have hok := okA_tk (n := n) (s := s) (S := m 0 0) (sp := m 0 1) (K := m 1) (L := m 2) (A := m 3) (odd := odB (m 0 2)) b1 b3 (fun hn => by have := b4 hn; omega) (by rw [c1]; exact c2) (fun q hq => (h.okS.2.2.2.2 q hq).2)
  refine ⟨⟨a1, by rw [hj 17 (by omega) (by omega)]; exact a2, a3⟩, ⟨b1, by rw [hj 16 (by omega) (by omega)]; exact b2, b3, b4⟩, ⟨by rw [hj 1 (by omega) (by omega)]; exact c1, by rw [hj 1 (by omega) (by omega)]; exact c2⟩, ?_, fun r hr => ?_⟩
  · rw [h0]
    show m 0 2 + 1 = row 0 + 1
    rw [d]
  · obtain ⟨⟨e1, e2, e3⟩, e4, e5, e6⟩ := e r hr
    rw [hj (18 + r) (by omega) (by omega), hj (9 + r) (by omega) (by omega)]
    have h3 : row' (2 + r) = tkA n s (m 0 0) (m 0 1) (m 1) (m 2) (odB (m 0 2)) (m 3) r := (hA r hr).symm
    rw [h3]
    exact ⟨⟨e1, e2, rfl⟩, e4, hok r hr, e6⟩
/-! the class and the reference -/
def rowR (o it : Nat → Int32) (size width : Int32) (items : Nat → Int32) : Prop := (o 1 = 1 ∧ size = -1) ∨ (o 1 = 0 ∧ o 3 = size ∧ o 2 = width ∧ (∃ k, k ≤ 40 ∧ size = nI k) ∧ (width = 0 ∨ width = 1 ∨ width = 2) ∧ ∀ k, k < 40 → it k = items k)
def tapeR (o b : Nat → Int32) (typed : Int32) (tape : Nat → Int32) : Prop := ∃ k, k ≤ 90 ∧ o 1 = nI k ∧ typed = nI k ∧ ∀ j, j < k → b j = tape j ∧ ∃ x, x < 256 ∧ b j = nI x
def pastR (N : Mem) (q : Nat) : Nat → Int32 := fun i => if i < 16 then N 10 (16 * q + i) else N 6 i
def actsR (M N : Mem) (n s : Nat) : Prop := ∃ k x, k ≤ 24 ∧ x < 24 ∧ M 9 2 = nI k ∧ M 9 1 = nI x ∧ N 0 13 = nI k ∧ ∀ j, j < k → RS (gS M (11 + 5 * ((x + 23 - j) % 24))) (pastR N (k - 1 - j)) n s
def imgR (m : Mem) (row : Nat → Int32) (kept : Int32) : Prop := (m 0 3 = 0 ∧ kept = 0) ∨ (kept = 1 ∧ ∃ n s, 0 < n ∧ RS m row n s)
def traceR (o b : Nat → Int32) (traced : Int32) (traces : Nat → Int32) : Prop := ∃ k, k ≤ 16 ∧ o 1 = nI k ∧ traced = nI k ∧ ∀ j, j < k → b j = traces j
def RR (M N : Mem) : Prop :=
  (∃ n s, RS (gS M 4) (N 6) n s ∧ actsR M N n s) ∧ tapeR (M 2) (M 3) (N 0 6) (N 5) ∧ M 2 2 = N 0 7 ∧ M 0 10 = N 0 4 ∧
  (∀ i, i < 8 → rowR (M (142 + 2 * i)) (M (142 + 2 * i + 1)) (N 1 i) (N 2 i) (fun k => N 3 (40 * i + k))) ∧
  (∀ i, i < 2 → imgR (gS M (158 + 5 * i)) (fun k => N 8 (25 * i + k)) (N 9 i)) ∧ traceR (M 132) (M 133) (N 0 17) (N 13)
/-- what the class keeps from call to call is the same -/
def kpM (M M' : Mem) : Prop := ∀ i, i < 134 ∨ (142 ≤ i ∧ i < 168) → M' i = M i
def kpN (N N' : Mem) : Prop := (∀ i, i ≠ 0 → i ≠ 4 → i ≠ 7 → i ≠ 11 → i ≠ 12 → N' i = N i) ∧ ∀ k, k < 18 → N' 0 k = N 0 k
theorem kpM.rf {M : Mem} : kpM M M := fun _ _ => rfl
theorem kpN.rf {N : Mem} : kpN N N := ⟨fun _ _ _ _ _ _ => rfl, fun _ _ => rfl⟩
theorem kpM.tr {A B C : Mem} (h1 : kpM A B) (h2 : kpM B C) : kpM A C := fun i hi => (h2 i hi).trans (h1 i hi)
theorem kpN.tr {A B C : Mem} (h1 : kpN A B) (h2 : kpN B C) : kpN A C := ⟨fun i a b c d e => (h2.1 i a b c d e).trans (h1.1 i a b c d e), fun k hk => (h2.2 k hk).trans (h1.2 k hk)⟩
theorem RR.keep {M M' N N' : Mem} (h : RR M N) (hM : kpM M M') (hN : kpN N N') : RR M' N' := by
  have hg : ∀ c, c + 4 < 134 ∨ (142 ≤ c ∧ c + 4 < 168) → ∀ i, i < 5 → gS M' c i = gS M c i := fun c hc i hi => hM _ (by omega)
  have n6 : N' 6 = N 6 := hN.1 6 (by omega) (by omega) (by omega) (by omega) (by omega)
  have n10 : N' 10 = N 10 := hN.1 10 (by omega) (by omega) (by omega) (by omega) (by omega)
  have RSg : ∀ c row n s, c + 4 < 134 ∨ (142 ≤ c ∧ c + 4 < 168) → RS (gS M c) row n s → RS (gS M' c) row n s := fun c row n s hc h => h.congr (fun k _ => by rw [hg c hc 0 (by omega)]) (fun i r _ _ _ => by rw [hg c hc i (by omega)]) (fun _ _ => rfl)
  obtain ⟨⟨n, s, h1, ⟨k, x, a1, a2, a3, a4, a5, a6⟩⟩, h2, h3, h4, h5, h6, h7⟩ := h
  refine ⟨⟨n, s, by rw [n6]; exact RSg 4 _ n s (by omega) h1, k, x, a1, a2, by rw [hM 9 (by omega)]; exact a3, by rw [hM 9 (by omega)]; exact a4, by rw [hN.2 13 (by omega)]; exact a5, fun j hj => ?_⟩, ?_, ?_, ?_, fun i hi => ?_, fun i hi => ?_, ?_⟩
  · have e : pastR N' (k - 1 - j) = pastR N (k - 1 - j) := by unfold pastR; rw [n6, n10]
    rw [e]
    have : (x + 23 - j) % 24 < 24 := Nat.mod_lt _ (by omega)
    exact RSg _ _ n s (by omega) (a6 j hj)
  · rw [hM 2 (by omega), hM 3 (by omega), hN.2 6 (by omega), hN.1 5 (by omega) (by omega) (by omega) (by omega) (by omega)]; exact h2
  · rw [hM 2 (by omega), hN.2 7 (by omega)]; exact h3
  · rw [hM 0 (by omega), hN.2 4 (by omega)]; exact h4
  · rw [hM (142 + 2 * i) (by omega), hM (142 + 2 * i + 1) (by omega), hN.1 1 (by omega) (by omega) (by omega) (by omega) (by omega), hN.1 2 (by omega) (by omega) (by omega) (by omega) (by omega), hN.1 3 (by omega) (by omega) (by omega) (by omega) (by omega)]; exact h5 i hi
  · rw [hN.1 8 (by omega) (by omega) (by omega) (by omega) (by omega), hN.1 9 (by omega) (by omega) (by omega) (by omega) (by omega)]
    rcases h6 i hi with h | ⟨e, n, s, h0, h⟩
    · exact Or.inl ⟨by rw [hg _ (by omega) 0 (by omega)]; exact h.1, h.2⟩
    · exact Or.inr ⟨e, n, s, h0, RSg _ _ n s (by omega) h⟩
  · rw [hM 132 (by omega), hM 133 (by omega), hN.2 17 (by omega), hN.1 13 (by omega) (by omega) (by omega) (by omega) (by omega)]; exact h7
