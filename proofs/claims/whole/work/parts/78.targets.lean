/-! what the constructors make -/
def mX0 : Mem := fun c => if isRw c = true then (fun k => if k = 1 then 1 else 0) else fun _ => 0
def sf (i : Nat) : Nat → Int32 := fun k => if k < i then -1 else 0
def nX0 : Mem := fun c => if c = 1 then sf 8 else fun _ => 0
def fl (h K st i : Nat) : Nat → Option Nat := fun j => if j < i then some (h + (K + st * j)) else none
def ff1 (g : gT) (h : Nat) : Nat → va_E := kF (.inr (1, [.ref (aH h 1), .int 1, .int 0, .int 0])) (fun _ => .inl (g.2.1, 40, .inl (fun _ => 0)))
def ff2 (g : gT) (h : Nat) : Nat → va_E := eS g (aH h) (fun _ _ => 0)
def ff3 (g : gT) (h : Nat) : Nat → va_E := kF (.inr (3, [.ref (aH h 1), .int 0, .int 0])) (fun _ => .inl (g.2.1, 90, .inl (fun _ => 0)))
def ff4 (g : gT) (h : Nat) : Nat → va_E := kF (.inr (4, [.ref (aH h 1), .int 0])) (fun _ => .inl (g.2.1, 16, .inl (fun _ => 0)))
def ff0 (g : gT) (h : Nat) : Nat → va_E := fun i => eX g (fun j => h + j - 9) mX0 (9 + i)
def ff5 (g : gT) (h : Nat) : Nat → va_E := eX g (aH h) mX0
def ff6 (g : gT) (h : Nat) : Nat → va_E := eN g (aH h) nX0
def rX5 (g : gT) (h : Nat) (rw im lv : Nat → Option Nat) : Nat → va_E := fun i => if i = 1 then .inl (g.2.2.2.1, 8, .inr (.inr (.inr (.inr rw)))) else if i = 131 then .inl (g.2.2.2.2, 2, .inr (.inr (.inr (.inr im)))) else if i = 139 then .inl (g.2.2.2.2, 7, .inr (.inr (.inr (.inr lv)))) else eX g (aH h) mX0 i
def rX0 (g : gT) (h : Nat) (bf : Nat → Option Nat) : Nat → va_E := fun i => if i = 1 then .inl (g.2.2.2.2, 24, .inr (.inr (.inr (.inr bf)))) else eX g (fun j => h + j - 9) mX0 (9 + i)
def rX6 (g : gT) (h : Nat) (z : Nat → Int32) : Nat → va_E := fun i => if i = 1 then .inl (g.2.1, 8, .inl z) else eN g (aH h) nX0 i
theorem fl_0 {h K st : Nat} : fl h K st 0 = fun _ => none := by funext j; unfold fl; rw [if_neg (by omega)]
theorem sf_0 : sf 0 = fun _ => 0 := by funext j; unfold sf; rw [if_neg (by omega)]
theorem fl_s {h K st i : Nat} : va_up (fl h K st i) i (some (aH h (K + st * i))) = fl h K st (i + 1) := by
  funext j
  by_cases hj : j = i
  · subst hj; rw [va_up_self]; unfold fl; rw [if_pos (by omega)]
  · rw [va_up_ne _ _ hj]; unfold fl
    by_cases h2 : j < i
    · rw [if_pos h2, if_pos (by omega)]
    · rw [if_neg h2, if_neg (by omega)]
theorem sf_s {i : Nat} : upd (sf i) i (-1) = sf (i + 1) := by
  funext j
  by_cases hj : j = i
  · subst hj; rw [upd_s]; unfold sf; rw [if_pos (by omega)]
  · rw [upd_n _ _ hj]; unfold sf
    by_cases h2 : j < i
    · rw [if_pos h2, if_pos (by omega)]
    · rw [if_neg h2, if_neg (by omega)]
theorem mX0_0 {c : Nat} (h : isRw c = false) : mX0 c = fun _ => 0 := by unfold mX0; rw [h, if_neg (by decide)]
theorem mX0_1 {c : Nat} (h : isRw c = true) : mX0 c = fun k => if k = 1 then 1 else 0 := by unfold mX0; rw [if_pos h]
theorem rw_no {c : Nat} (h : kX c ≠ 1) : isRw c = false := by
  unfold isRw
  rw [show (kX c == 1) = false from by simpa using h, Bool.and_false]
theorem kF_n {o : va_E} {r : Nat → va_E} {j : Nat} (h : j ≠ 0) : kF o r j = r j := by unfold kF; rw [if_neg h]
theorem gw_one {g : gT} {h : Nat} {o : va_E} {r : Nat → va_E} {H : Heap} (hat : va_at g.1 vwCl (h, o) H) : va_P g.1 vwCl (wl 1 (aH h) (kF o r)) H := by
  intro j q hq
  obtain ⟨h1, rfl⟩ := wl_mem hq
  have : j = 0 := by omega
  subst this
  exact hat
theorem wl_at {g : gT} {n : Nat} {a : Nat → Nat} {f f' : Nat → va_E} {H : Heap} (hP : va_P g.1 vwCl (wl n a f) H) (h : ∀ i, i < n → va_at g.1 vwCl (a i, f i) H → va_at g.1 vwCl (a i, f' i) H) : va_P g.1 vwCl (wl n a f') H := by
  intro j q hq
  obtain ⟨h1, rfl⟩ := wl_mem hq
  exact h j h1 (hP j _ (wl_get h1))
theorem at_q {g : gT} {q N : Nat} {cA : ClassId} {w w' : Nat → Option Nat} {H : Heap} (h : ∀ j, j < N → w j = w' j) (hat : va_at g.1 vwCl (q, .inl (cA, N, .inr (.inr (.inr (.inr w))))) H) : va_at g.1 vwCl (q, .inl (cA, N, .inr (.inr (.inr (.inr w'))))) H := by
  have e : arrV cA N (fun j => va_rf (w j)) = arrV cA N (fun j => va_rf (w' j)) := by
    unfold arrV
    congr 2
    funext j
    show va_rf (w j.val) = va_rf (w' j.val)
    rw [h j.val j.isLt]
  show H[q]? = some (arrV cA N (fun j => va_rf (w' j)))
  rw [← e]
  exact hat
section TG
variable {g : gT} {h : Nat} {o : va_E} {rw im lv bf : Nat → Option Nat}
theorem rX5_o {j : Nat} (h1 : j ≠ 1) (h2 : j ≠ 131) (h3 : j ≠ 139) : rX5 g h rw im lv j = eX g (aH h) mX0 j := by unfold rX5; rw [if_neg h1, if_neg h2, if_neg h3]
theorem eX_st {a : Nat → Nat} {c b : Nat} (hs : isSt c = true) (ha : ∀ j, a (c + j) = b + j) : ∀ i, i < 5 → eX g a mX0 (c + i) = ff2 g b i := fun i hi => by
  rw [← eS_of hs i hi]
  have e1 : gA a c = aH b := funext ha
  rw [e1]
  unfold ff2
  refine eS_c ?_
  show mX0 (c + i) = fun _ => 0
  refine mX0_0 (rw_no ?_)
  obtain ⟨-, ⟨k1, -⟩, ⟨k2, -⟩, ⟨k3, -⟩, k4, -⟩ := st_all c (isSt_k hs).1 (isSt_k hs).2
  have : i = 0 ∨ i = 1 ∨ i = 2 ∨ i = 3 ∨ i = 4 := by omega
  rcases this with rfl | rfl | rfl | rfl | rfl
  · rw [Nat.add_zero, (isSt_k hs).2]; decide
  · rw [k1]; decide
  · rw [k2]; decide
  · rw [k3]; decide
  · rw [k4]; decide
theorem he5 {c : Nat} (hs : isSt c = true) (hr : (4 ≤ c ∧ c + 4 < 131) ∨ (134 ≤ c ∧ c + 4 < 139) ∨ 142 ≤ c) : ∀ i, i < 4 + 1 → kF o (rX5 g h rw im lv) (c + i) = ff2 g (h + c) i := fun i hi => by
  rw [kF_n (by omega), rX5_o (by omega) (by omega) (by omega)]
  exact eX_st hs (fun j => by show h + (c + j) = h + c + j; omega) i hi
theorem he_X2_4 : ∀ i, i < 4 + 1 → kF o (rX5 g h rw im lv) (4 + i) = ff2 g (h + 4) i := he5 (by decide) (by omega)
theorem he_X2_134 : ∀ i, i < 4 + 1 → kF o (rX5 g h rw im lv) (134 + i) = ff2 g (h + 134) i := he5 (by decide) (by omega)
theorem he_X5_X2_135 {i : Nat} (hi : i < 2) : ∀ j, j < 4 + 1 → kF o (rX5 g h rw im lv) (158 + 5 * i + j) = ff2 g (h + (158 + 5 * i)) j := he5 (st_i i hi) (by omega)
theorem he_X5_X2_161 {i : Nat} (hi : i < 7) : ∀ j, j < 4 + 1 → kF o (rX5 g h rw im lv) (168 + 5 * i + j) = ff2 g (h + (168 + 5 * i)) j := he5 (st_l i hi) (by omega)
theorem he_X5_X1_108 {i : Nat} (hi : i < 8) : ∀ j, j < 1 + 1 → kF o (rX5 g h rw im lv) (142 + 2 * i + j) = ff1 g (h + (142 + 2 * i)) j := fun j hj => by
  have hs := rw_r i hi
  rw [kF_n (by omega), rX5_o (by omega) (by omega) (by omega)]
  have : j = 0 ∨ j = 1 := by omega
  rcases this with rfl | rfl
  · rw [Nat.add_zero, eX_Row hs, mX0_1 hs]
    unfold ff1
    rw [kF_0]
    simp
    show h + (142 + 2 * i + 1) = h + (142 + 2 * i) + 1
    omega
  · rw [eX_Ri hs, mX0_0 (rw_no (by rw [(rw_all _ (isRw_k hs).1 (isRw_k hs).2).2.1]; decide))]
    unfold ff1
    rw [kF_n (by omega)]
theorem he_X3_2 : ∀ i, i < 1 + 1 → kF o (rX5 g h rw im lv) (2 + i) = ff3 g (h + 2) i := fun i hi => by
  have : i = 0 ∨ i = 1 := by omega
  rcases this with rfl | rfl
  · rfl
  · rfl
theorem he_X4_132 : ∀ i, i < 1 + 1 → kF o (rX5 g h rw im lv) (132 + i) = ff4 g (h + 132) i := fun i hi => by
  have : i = 0 ∨ i = 1 := by omega
  rcases this with rfl | rfl
  · rfl
  · rfl
theorem he_X0_9 : ∀ i, i < 121 + 1 → kF o (rX5 g h rw im lv) (9 + i) = ff0 g (h + 9) i := fun i hi => by
  rw [kF_n (by omega), rX5_o (by omega) (by omega) (by omega)]
  unfold ff0
  have e : (fun j => h + 9 + j - 9) = aH h := funext fun j => by show h + 9 + j - 9 = h + j; omega
  rw [e]
theorem he_X0_X2_25 {i : Nat} (hi : i < 24) : ∀ j, j < 4 + 1 → kF o (rX0 g h bf) (2 + 5 * i + j) = ff2 g (h + (2 + 5 * i)) j := fun j hj => by
  rw [kF_n (by omega)]
  unfold rX0
  rw [if_neg (by omega), show 9 + (2 + 5 * i + j) = 11 + 5 * i + j by omega]
  exact eX_st (st_b i hi) (fun q => by show h + (11 + 5 * i + q) - 9 = h + (2 + 5 * i) + q; omega) j hj
theorem hv_X5_108 {i : Nat} (hi : i < 8) : kF o (rX5 g h rw im lv) (142 + 2 * i) = .inr (1, [.ref (aH (h + (142 + 2 * i)) 1), .int 1, .int 0, .int 0]) := he_X5_X1_108 hi 0 (by omega)
theorem hv_X5_135 {i : Nat} (hi : i < 2) : kF o (rX5 g h rw im lv) (158 + 5 * i) = .inr (2, [.int 0, .int 0, .int 0, .int 0, .ref (aH (h + (158 + 5 * i)) 1), .ref (aH (h + (158 + 5 * i)) 2), .ref (aH (h + (158 + 5 * i)) 3), .ref (aH (h + (158 + 5 * i)) 4)]) := he_X5_X2_135 hi 0 (by omega)
theorem hv_X5_161 {i : Nat} (hi : i < 7) : kF o (rX5 g h rw im lv) (168 + 5 * i) = .inr (2, [.int 0, .int 0, .int 0, .int 0, .ref (aH (h + (168 + 5 * i)) 1), .ref (aH (h + (168 + 5 * i)) 2), .ref (aH (h + (168 + 5 * i)) 3), .ref (aH (h + (168 + 5 * i)) 4)]) := he_X5_X2_161 hi 0 (by omega)
theorem hv_X0_25 {i : Nat} (hi : i < 24) : kF o (rX0 g h bf) (2 + 5 * i) = .inr (2, [.int 0, .int 0, .int 0, .int 0, .ref (aH (h + (2 + 5 * i)) 1), .ref (aH (h + (2 + 5 * i)) 2), .ref (aH (h + (2 + 5 * i)) 3), .ref (aH (h + (2 + 5 * i)) 4)]) := he_X0_X2_25 hi 0 (by omega)
theorem ha_X5_108 : kF o (rX5 g h rw im lv) 1 = .inl (g.2.2.2.1, 8, .inr (.inr (.inr (.inr rw)))) := rfl
theorem ha_X5_135 : kF o (rX5 g h rw im lv) 131 = .inl (g.2.2.2.2, 2, .inr (.inr (.inr (.inr im)))) := rfl
theorem ha_X5_161 : kF o (rX5 g h rw im lv) 139 = .inl (g.2.2.2.2, 7, .inr (.inr (.inr (.inr lv)))) := rfl
theorem ha_X0_25 : kF o (rX0 g h bf) 1 = .inl (g.2.2.2.2, 24, .inr (.inr (.inr (.inr bf)))) := rfl
theorem hu_X5_108 {i : Nat} (hi : i < 1000) : va_up (kF o (rX5 g h (fl h 142 2 i) im lv)) 1 (.inl (g.2.2.2.1, 8, .inr (.inr (.inr (.inr (va_up (fl h 142 2 i) (nI i).toNatClampNeg (some (aH h (142 + 2 * i))))))))) = kF o (rX5 g h (fl h 142 2 (i + 1)) im lv) := by
  rw [nc (by omega), fl_s, kF_upr (by omega)]
  congr 1
  funext j
  by_cases hj : j = 1
  · subst hj; rw [va_up_self]; rfl
  · rw [va_up_ne _ _ hj]; unfold rX5; rw [if_neg hj, if_neg hj]
theorem hu_X5_135 {i : Nat} (hi : i < 1000) : va_up (kF o (rX5 g h rw (fl h 158 5 i) lv)) 131 (.inl (g.2.2.2.2, 2, .inr (.inr (.inr (.inr (va_up (fl h 158 5 i) (nI i).toNatClampNeg (some (aH h (158 + 5 * i))))))))) = kF o (rX5 g h rw (fl h 158 5 (i + 1)) lv) := by
  rw [nc (by omega), fl_s, kF_upr (by omega)]
  congr 1
  funext j
  by_cases hj : j = 131
  · subst hj; rw [va_up_self]; rfl
  · rw [va_up_ne _ _ hj]; unfold rX5; rw [if_neg hj, if_neg hj]
theorem hu_X5_161 {i : Nat} (hi : i < 1000) : va_up (kF o (rX5 g h rw im (fl h 168 5 i))) 139 (.inl (g.2.2.2.2, 7, .inr (.inr (.inr (.inr (va_up (fl h 168 5 i) (nI i).toNatClampNeg (some (aH h (168 + 5 * i))))))))) = kF o (rX5 g h rw im (fl h 168 5 (i + 1))) := by
  rw [nc (by omega), fl_s, kF_upr (by omega)]
  congr 1
  funext j
  by_cases hj : j = 139
  · subst hj; rw [va_up_self]; rfl
  · rw [va_up_ne _ _ hj]; unfold rX5; rw [if_neg hj, if_neg hj]
theorem hu_X0_25 {i : Nat} (hi : i < 1000) : va_up (kF o (rX0 g h (fl h 2 5 i))) 1 (.inl (g.2.2.2.2, 24, .inr (.inr (.inr (.inr (va_up (fl h 2 5 i) (nI i).toNatClampNeg (some (aH h (2 + 5 * i))))))))) = kF o (rX0 g h (fl h 2 5 (i + 1))) := by
  rw [nc (by omega), fl_s, kF_upr (by omega)]
  congr 1
  funext j
  by_cases hj : j = 1
  · subst hj; rw [va_up_self]; rfl
  · rw [va_up_ne _ _ hj]; unfold rX0; rw [if_neg hj, if_neg hj]
theorem hu_X6_111 {i : Nat} (hi : i < 1000) : va_up (kF o (rX6 g h (sf i))) 1 (.inl (g.2.1, 8, .inl (upd (sf i) (nI i).toNatClampNeg (-1)))) = kF o (rX6 g h (sf (i + 1))) := by
  rw [nc (by omega), sf_s, kF_upr (by omega)]
  congr 1
  funext j
  by_cases hj : j = 1
  · subst hj; rw [va_up_self]; rfl
  · rw [va_up_ne _ _ hj]; unfold rX6; rw [if_neg hj, if_neg hj]
variable {H : Heap}
theorem fin_of {n : Nat} {r : Nat → va_E} (ho : o = r 0) (hP : va_P g.1 vwCl (wl n (aH h) (kF o r)) H) : va_P g.1 vwCl (wl n (aH h) r) H := by rw [kF_eta ho] at hP; exact hP
theorem fin_X1 (hP : va_P g.1 vwCl (wl 2 (aH h) (kF (.inr (1, [.ref (aH h 1), .int 1, .int 0, .int 0])) (ff1 g h))) H) : va_P g.1 vwCl (wl 2 (aH h) (ff1 g h)) H := fin_of rfl hP
theorem fin_X2 (hP : va_P g.1 vwCl (wl 5 (aH h) (kF (.inr (2, [.int 0, .int 0, .int 0, .int 0, .ref (aH h 1), .ref (aH h 2), .ref (aH h 3), .ref (aH h 4)])) (ff2 g h))) H) : va_P g.1 vwCl (wl 5 (aH h) (ff2 g h)) H := fin_of rfl hP
theorem fin_X3 (hP : va_P g.1 vwCl (wl 2 (aH h) (kF (.inr (3, [.ref (aH h 1), .int 0, .int 0])) (ff3 g h))) H) : va_P g.1 vwCl (wl 2 (aH h) (ff3 g h)) H := fin_of rfl hP
theorem fin_X4 (hP : va_P g.1 vwCl (wl 2 (aH h) (kF (.inr (4, [.ref (aH h 1), .int 0])) (ff4 g h))) H) : va_P g.1 vwCl (wl 2 (aH h) (ff4 g h)) H := fin_of rfl hP
theorem fin_X0 (hP : va_P g.1 vwCl (wl 122 (aH h) (kF (.inr (0, [.ref (aH h 1), .int 0, .int 0])) (rX0 g h (fl h 2 5 24)))) H) : va_P g.1 vwCl (wl 122 (aH h) (ff0 g h)) H := by
  refine wl_at hP (fun i hi hat => ?_)
  by_cases h0 : i = 0
  · subst h0; exact hat
  · rw [kF_n h0] at hat
    unfold rX0 at hat
    by_cases h1 : i = 1
    · subst h1
      rw [if_pos rfl] at hat
      refine at_q (N := 24) (w' := fun i => some (h + (11 + 5 * i) - 9)) (fun j hj => ?_) hat
      unfold fl
      rw [if_pos hj]
      congr 1
      omega
    · rw [if_neg h1] at hat
      exact hat
theorem fin_X6 (hP : va_P g.1 vwCl (wl 14 (aH h) (kF (.inr (6, [.ref (aH h 1), .ref (aH h 2), .ref (aH h 3), .ref (aH h 4), .int 0, .ref (aH h 5), .int 0, .int 0, .ref (aH h 6), .ref (aH h 7), .ref (aH h 8), .ref (aH h 9), .ref (aH h 10), .int 0, .ref (aH h 11), .ref (aH h 12), .ref (aH h 13), .int 0, .int 0, .int 0])) (rX6 g h (sf 8)))) H) : va_P g.1 vwCl (wl 14 (aH h) (ff6 g h)) H := by
  refine wl_at hP (fun i hi hat => ?_)
  by_cases h0 : i = 0
  · subst h0; exact hat
  · rw [kF_n h0] at hat
    unfold rX6 at hat
    by_cases h1 : i = 1
    · subst h1; exact hat
    · rw [if_neg h1] at hat; exact hat
theorem fin_X5 (hP : va_P g.1 vwCl (wl 203 (aH h) (kF (.inr (5, [.ref (aH h 1), .ref (aH h 2), .ref (aH h 4), .ref (aH h 9), .ref (aH h 131), .ref (aH h 132), .ref (aH h 134), .ref (aH h 139), .ref (aH h 140), .ref (aH h 141), .int 0])) (rX5 g h (fl h 142 2 8) (fl h 158 5 2) (fl h 168 5 7)))) H) : va_P g.1 vwCl (wl 203 (aH h) (ff5 g h)) H := by
  refine wl_at hP (fun i hi hat => ?_)
  by_cases h0 : i = 0
  · subst h0; exact hat
  · rw [kF_n h0] at hat
    by_cases h1 : i = 1
    · subst h1
      refine at_q (N := 8) (w' := fun i => some (h + (142 + 2 * i))) (fun j hj => ?_) hat
      unfold fl; rw [if_pos hj]
    · by_cases h2 : i = 131
      · subst h2
        refine at_q (N := 2) (w' := fun i => some (h + (158 + 5 * i))) (fun j hj => ?_) hat
        unfold fl; rw [if_pos hj]
      · by_cases h3 : i = 139
        · subst h3
          refine at_q (N := 7) (w' := fun i => some (h + (168 + 5 * i))) (fun j hj => ?_) hat
          unfold fl; rw [if_pos hj]
        · rw [rX5_o h1 h2 h3] at hat
          exact hat
end TG
section IST
variable {p : Program} {l : Launch} {e : Env} {R : Room} {s : State} {m : MethodId} {args : Array Value} {below : List Frame} {meth : Method} {c : Code} {H : Heap} {locs : List Loc} {cells slots : Nat} {Q : State → Prop}
variable {cc : ByteArray} {pc h k : Nat} {ls : Array Slot} {rest : List Value} {g : gT} {f : Nat → va_E}
theorem gw_ist (hx : p.tables.exec = Jvm.exec) (hb : c.code = cc) (hK : KK g s) {n : Nat} (hz : H.size = h + n) (hP : va_P g.1 vwCl (wl n (aH h) f) H) {H0 : Heap} (hS : va_S (fun q => h ≤ q) H0 H locs) (q0 : Nat) (h0 : q0 < n) {N : Nat} {w : Nat → Int32} (ha : f q0 = .inl (g.2.1, N, .inl w)) {i x : Int32} (hin : bIn i N = true) {f1 : Nat → va_E} (hup : va_up f q0 (.inl (g.2.1, N, .inl (upd w i.toNatClampNeg x))) = f1) (hdg : decode cc pc = .ok (.iastore, 1))
    (kk : ∀ (H1 : Heap) (locs1 : List Loc), H1.size = h + n → va_P g.1 vwCl (wl n (aH h) f1) H1 → va_S (fun q => h ≤ q) H0 H1 locs1 → W p l e R s m args below meth c H1 locs1 cells slots Q (F0 m (pc + 1) ls rest)) : W p l e R s m args below meth c H locs cells slots Q (F0 m pc ls (.int x :: .int i :: .ref (aH h q0) :: rest)) := by
  have h1 : va_at g.1 vwCl (aH h q0, .inl (g.2.1, N, .inl w)) H := by rw [← ha]; exact hP q0 _ (wl_get h0)
  refine W.iast hx hb h1 ((hK.1.2 0 _ rfl).1 N (fun j => .int (w j))) (fun q => by cases q) (by show ¬ (i < 0 ∨ (arrV _ _ _).slots.size ≤ _); rw [arrV_size]; exact bIn_ok hin) rfl rfl hdg fun H1 e z oq => ?_
  refine kk H1 _ (by rw [z, hz]) (gw_set hP h0 ?_ oq hup) (gw_Sp hS z oq)
  show H1[aH h q0]? = some (vp_cell _ _)
  rw [e, vp_cell_i, vp_cell_i, arrV_store]
  congr 2
  funext q
  by_cases hq : q = i.toNatClampNeg
  · subst hq
    simp [updV, upd]
  · simp [updV, upd, hq]
end IST
