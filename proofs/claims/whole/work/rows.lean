section
-- ===== PART A: goes FIRST, ahead of the names: the tables' words, and 'selects' of the private methods out of them =====
/-- a private method of a class that the tables say can be made, by its rows of tables_1 -/
def lw_okq (q : MethodName × Nat) : Prop := (q.1.cls ≠ "java/lang/invoke/MethodHandle" ∧ q.1.cls ≠ "java/lang/invoke/VarHandle") ∧ Cond.instantiable q.1.cls q.2 ∈ tables_1 ∧ Cond.privateMethod q.1 ∈ tables_1 ∧ Cond.instanceMethod q.1 ∈ tables_1
theorem lw_p0 : lw_okq (⟨"StepRiders", "found", "(I)I"⟩, 11) := ⟨⟨by decide +kernel, by decide +kernel⟩, List.mem_of_getElem? (i := 12) (by decide +kernel), List.mem_of_getElem? (i := 186) (by decide +kernel), List.mem_of_getElem? (i := 187) (by decide +kernel)⟩
theorem lw_p1 : lw_okq (⟨"StepRiders", "fine", "(I)I"⟩, 11) := ⟨⟨by decide +kernel, by decide +kernel⟩, List.mem_of_getElem? (i := 12) (by decide +kernel), List.mem_of_getElem? (i := 195) (by decide +kernel), List.mem_of_getElem? (i := 196) (by decide +kernel)⟩
theorem lw_p2 : lw_okq (⟨"StepRiders", "noStair", "()Z"⟩, 11) := ⟨⟨by decide +kernel, by decide +kernel⟩, List.mem_of_getElem? (i := 12) (by decide +kernel), List.mem_of_getElem? (i := 300) (by decide +kernel), List.mem_of_getElem? (i := 301) (by decide +kernel)⟩
theorem lw_p3 : lw_okq (⟨"StepRiders", "noRider", "(I)Z"⟩, 11) := ⟨⟨by decide +kernel, by decide +kernel⟩, List.mem_of_getElem? (i := 12) (by decide +kernel), List.mem_of_getElem? (i := 376) (by decide +kernel), List.mem_of_getElem? (i := 377) (by decide +kernel)⟩
theorem lw_p4 : lw_okq (⟨"StepRiders", "tryTicks", "(I)V"⟩, 11) := ⟨⟨by decide +kernel, by decide +kernel⟩, List.mem_of_getElem? (i := 12) (by decide +kernel), List.mem_of_getElem? (i := 434) (by decide +kernel), List.mem_of_getElem? (i := 435) (by decide +kernel)⟩
theorem lw_p5 : lw_okq (⟨"StepRiders", "findPaces", "(II)I"⟩, 11) := ⟨⟨by decide +kernel, by decide +kernel⟩, List.mem_of_getElem? (i := 12) (by decide +kernel), List.mem_of_getElem? (i := 492) (by decide +kernel), List.mem_of_getElem? (i := 493) (by decide +kernel)⟩
theorem lw_p6 : lw_okq (⟨"StepRiders", "writePaces", "(II)I"⟩, 11) := ⟨⟨by decide +kernel, by decide +kernel⟩, List.mem_of_getElem? (i := 12) (by decide +kernel), List.mem_of_getElem? (i := 499) (by decide +kernel), List.mem_of_getElem? (i := 500) (by decide +kernel)⟩
theorem lw_p7 : lw_okq (⟨"StepRiders", "passLevels", "(II)V"⟩, 11) := ⟨⟨by decide +kernel, by decide +kernel⟩, List.mem_of_getElem? (i := 12) (by decide +kernel), List.mem_of_getElem? (i := 503) (by decide +kernel), List.mem_of_getElem? (i := 504) (by decide +kernel)⟩
theorem lw_p8 : lw_okq (⟨"StepRiders", "sumOfPaces", "(I)I"⟩, 11) := ⟨⟨by decide +kernel, by decide +kernel⟩, List.mem_of_getElem? (i := 12) (by decide +kernel), List.mem_of_getElem? (i := 507) (by decide +kernel), List.mem_of_getElem? (i := 508) (by decide +kernel)⟩
theorem lw_p9 : lw_okq (⟨"StepRiders", "kindsThatFit", "(ILStepRiders$Row;II)I"⟩, 11) := ⟨⟨by decide +kernel, by decide +kernel⟩, List.mem_of_getElem? (i := 12) (by decide +kernel), List.mem_of_getElem? (i := 515) (by decide +kernel), List.mem_of_getElem? (i := 516) (by decide +kernel)⟩
theorem lw_p10 : lw_okq (⟨"StepRiders", "trialFits", "(ILStepRiders$Row;II)Z"⟩, 11) := ⟨⟨by decide +kernel, by decide +kernel⟩, List.mem_of_getElem? (i := 12) (by decide +kernel), List.mem_of_getElem? (i := 519) (by decide +kernel), List.mem_of_getElem? (i := 520) (by decide +kernel)⟩
theorem lw_p11 : lw_okq (⟨"StepRiders", "lanesThatFit", "(ILStepRiders$Row;II)I"⟩, 11) := ⟨⟨by decide +kernel, by decide +kernel⟩, List.mem_of_getElem? (i := 12) (by decide +kernel), List.mem_of_getElem? (i := 523) (by decide +kernel), List.mem_of_getElem? (i := 524) (by decide +kernel)⟩
theorem lw_p12 : lw_okq (⟨"StepRiders", "speedsThatFit", "(ILStepRiders$Row;II)I"⟩, 11) := ⟨⟨by decide +kernel, by decide +kernel⟩, List.mem_of_getElem? (i := 12) (by decide +kernel), List.mem_of_getElem? (i := 527) (by decide +kernel), List.mem_of_getElem? (i := 528) (by decide +kernel)⟩
theorem lw_p13 : lw_okq (⟨"StepRiders", "startsThatFit", "(ILStepRiders$Row;II)I"⟩, 11) := ⟨⟨by decide +kernel, by decide +kernel⟩, List.mem_of_getElem? (i := 12) (by decide +kernel), List.mem_of_getElem? (i := 531) (by decide +kernel), List.mem_of_getElem? (i := 532) (by decide +kernel)⟩
theorem lw_p14 : lw_okq (⟨"StepRiders", "howManyRows", "()I"⟩, 11) := ⟨⟨by decide +kernel, by decide +kernel⟩, List.mem_of_getElem? (i := 12) (by decide +kernel), List.mem_of_getElem? (i := 605) (by decide +kernel), List.mem_of_getElem? (i := 606) (by decide +kernel)⟩
theorem lw_p15 : lw_okq (⟨"StepRidersModel", "ends", "(I)I"⟩, 20) := ⟨⟨by decide +kernel, by decide +kernel⟩, List.mem_of_getElem? (i := 613) (by decide +kernel), List.mem_of_getElem? (i := 693) (by decide +kernel), List.mem_of_getElem? (i := 694) (by decide +kernel)⟩
def lw_privs_1 : List (MethodName × Nat) := [(⟨"StepRiders", "found", "(I)I"⟩, 11), (⟨"StepRiders", "fine", "(I)I"⟩, 11), (⟨"StepRiders", "noStair", "()Z"⟩, 11), (⟨"StepRiders", "noRider", "(I)Z"⟩, 11), (⟨"StepRiders", "tryTicks", "(I)V"⟩, 11), (⟨"StepRiders", "findPaces", "(II)I"⟩, 11), (⟨"StepRiders", "writePaces", "(II)I"⟩, 11), (⟨"StepRiders", "passLevels", "(II)V"⟩, 11), (⟨"StepRiders", "sumOfPaces", "(I)I"⟩, 11), (⟨"StepRiders", "kindsThatFit", "(ILStepRiders$Row;II)I"⟩, 11), (⟨"StepRiders", "trialFits", "(ILStepRiders$Row;II)Z"⟩, 11), (⟨"StepRiders", "lanesThatFit", "(ILStepRiders$Row;II)I"⟩, 11), (⟨"StepRiders", "speedsThatFit", "(ILStepRiders$Row;II)I"⟩, 11), (⟨"StepRiders", "startsThatFit", "(ILStepRiders$Row;II)I"⟩, 11), (⟨"StepRiders", "howManyRows", "()I"⟩, 11), (⟨"StepRidersModel", "ends", "(I)I"⟩, 20)]
theorem lw_r1 : ∀ q ∈ lw_privs_1, lw_okq q := List.forall_mem_cons.mpr ⟨lw_p0, List.forall_mem_cons.mpr ⟨lw_p1, List.forall_mem_cons.mpr ⟨lw_p2, List.forall_mem_cons.mpr ⟨lw_p3, List.forall_mem_cons.mpr ⟨lw_p4, List.forall_mem_cons.mpr ⟨lw_p5, List.forall_mem_cons.mpr ⟨lw_p6, List.forall_mem_cons.mpr ⟨lw_p7, List.forall_mem_cons.mpr ⟨lw_p8, List.forall_mem_cons.mpr ⟨lw_p9, List.forall_mem_cons.mpr ⟨lw_p10, List.forall_mem_cons.mpr ⟨lw_p11, List.forall_mem_cons.mpr ⟨lw_p12, List.forall_mem_cons.mpr ⟨lw_p13, List.forall_mem_cons.mpr ⟨lw_p14, List.forall_mem_cons.mpr ⟨lw_p15, fun _ h => absurd h List.not_mem_nil⟩⟩⟩⟩⟩⟩⟩⟩⟩⟩⟩⟩⟩⟩⟩⟩
theorem lw_p16 : lw_okq (⟨"StepRidersModel", "lies", "(III)Z"⟩, 20) := ⟨⟨by decide +kernel, by decide +kernel⟩, List.mem_of_getElem? (i := 613) (by decide +kernel), List.mem_of_getElem? (i := 704) (by decide +kernel), List.mem_of_getElem? (i := 705) (by decide +kernel)⟩
theorem lw_p17 : lw_okq (⟨"StepRidersModel", "reads", "()Z"⟩, 20) := ⟨⟨by decide +kernel, by decide +kernel⟩, List.mem_of_getElem? (i := 613) (by decide +kernel), List.mem_of_getElem? (i := 729) (by decide +kernel), List.mem_of_getElem? (i := 730) (by decide +kernel)⟩
theorem lw_p18 : lw_okq (⟨"StepRidersModel", "sign", "(I)Z"⟩, 20) := ⟨⟨by decide +kernel, by decide +kernel⟩, List.mem_of_getElem? (i := 613) (by decide +kernel), List.mem_of_getElem? (i := 733) (by decide +kernel), List.mem_of_getElem? (i := 734) (by decide +kernel)⟩
theorem lw_p19 : lw_okq (⟨"StepRidersModel", "letterAt", "(I)I"⟩, 20) := ⟨⟨by decide +kernel, by decide +kernel⟩, List.mem_of_getElem? (i := 613) (by decide +kernel), List.mem_of_getElem? (i := 737) (by decide +kernel), List.mem_of_getElem? (i := 738) (by decide +kernel)⟩
theorem lw_p20 : lw_okq (⟨"StepRidersModel", "fails", "(I)Z"⟩, 20) := ⟨⟨by decide +kernel, by decide +kernel⟩, List.mem_of_getElem? (i := 613) (by decide +kernel), List.mem_of_getElem? (i := 741) (by decide +kernel), List.mem_of_getElem? (i := 742) (by decide +kernel)⟩
theorem lw_p21 : lw_okq (⟨"StepRidersModel", "number", "(III)Z"⟩, 20) := ⟨⟨by decide +kernel, by decide +kernel⟩, List.mem_of_getElem? (i := 613) (by decide +kernel), List.mem_of_getElem? (i := 745) (by decide +kernel), List.mem_of_getElem? (i := 746) (by decide +kernel)⟩
theorem lw_p22 : lw_okq (⟨"StepRidersModel", "isStair", "()Z"⟩, 20) := ⟨⟨by decide +kernel, by decide +kernel⟩, List.mem_of_getElem? (i := 613) (by decide +kernel), List.mem_of_getElem? (i := 764) (by decide +kernel), List.mem_of_getElem? (i := 765) (by decide +kernel)⟩
theorem lw_p23 : lw_okq (⟨"StepRidersModel", "keeps", "()V"⟩, 20) := ⟨⟨by decide +kernel, by decide +kernel⟩, List.mem_of_getElem? (i := 613) (by decide +kernel), List.mem_of_getElem? (i := 769) (by decide +kernel), List.mem_of_getElem? (i := 770) (by decide +kernel)⟩
theorem lw_p24 : lw_okq (⟨"StepRidersModel", "tick", "([I)V"⟩, 20) := ⟨⟨by decide +kernel, by decide +kernel⟩, List.mem_of_getElem? (i := 613) (by decide +kernel), List.mem_of_getElem? (i := 773) (by decide +kernel), List.mem_of_getElem? (i := 774) (by decide +kernel)⟩
theorem lw_p25 : lw_okq (⟨"StepRidersModel", "isRider", "(I)Z"⟩, 20) := ⟨⟨by decide +kernel, by decide +kernel⟩, List.mem_of_getElem? (i := 613) (by decide +kernel), List.mem_of_getElem? (i := 800) (by decide +kernel), List.mem_of_getElem? (i := 801) (by decide +kernel)⟩
theorem lw_p26 : lw_okq (⟨"StepRidersModel", "starts", "()V"⟩, 20) := ⟨⟨by decide +kernel, by decide +kernel⟩, List.mem_of_getElem? (i := 613) (by decide +kernel), List.mem_of_getElem? (i := 828) (by decide +kernel), List.mem_of_getElem? (i := 829) (by decide +kernel)⟩
theorem lw_p27 : lw_okq (⟨"StepRidersModel", "clears", "()I"⟩, 20) := ⟨⟨by decide +kernel, by decide +kernel⟩, List.mem_of_getElem? (i := 613) (by decide +kernel), List.mem_of_getElem? (i := 845) (by decide +kernel), List.mem_of_getElem? (i := 846) (by decide +kernel)⟩
theorem lw_p28 : lw_okq (⟨"StepRidersModel", "queued", "()I"⟩, 20) := ⟨⟨by decide +kernel, by decide +kernel⟩, List.mem_of_getElem? (i := 613) (by decide +kernel), List.mem_of_getElem? (i := 853) (by decide +kernel), List.mem_of_getElem? (i := 854) (by decide +kernel)⟩
theorem lw_p29 : lw_okq (⟨"StepRidersModel", "isSo", "(III)Z"⟩, 20) := ⟨⟨by decide +kernel, by decide +kernel⟩, List.mem_of_getElem? (i := 613) (by decide +kernel), List.mem_of_getElem? (i := 872) (by decide +kernel), List.mem_of_getElem? (i := 873) (by decide +kernel)⟩
theorem lw_p30 : lw_okq (⟨"StepRidersModel", "size", "(I)I"⟩, 20) := ⟨⟨by decide +kernel, by decide +kernel⟩, List.mem_of_getElem? (i := 613) (by decide +kernel), List.mem_of_getElem? (i := 911) (by decide +kernel), List.mem_of_getElem? (i := 912) (by decide +kernel)⟩
theorem lw_p31 : lw_okq (⟨"StepRidersModel", "begins", "(I)V"⟩, 20) := ⟨⟨by decide +kernel, by decide +kernel⟩, List.mem_of_getElem? (i := 613) (by decide +kernel), List.mem_of_getElem? (i := 915) (by decide +kernel), List.mem_of_getElem? (i := 916) (by decide +kernel)⟩
def lw_privs_2 : List (MethodName × Nat) := [(⟨"StepRidersModel", "lies", "(III)Z"⟩, 20), (⟨"StepRidersModel", "reads", "()Z"⟩, 20), (⟨"StepRidersModel", "sign", "(I)Z"⟩, 20), (⟨"StepRidersModel", "letterAt", "(I)I"⟩, 20), (⟨"StepRidersModel", "fails", "(I)Z"⟩, 20), (⟨"StepRidersModel", "number", "(III)Z"⟩, 20), (⟨"StepRidersModel", "isStair", "()Z"⟩, 20), (⟨"StepRidersModel", "keeps", "()V"⟩, 20), (⟨"StepRidersModel", "tick", "([I)V"⟩, 20), (⟨"StepRidersModel", "isRider", "(I)Z"⟩, 20), (⟨"StepRidersModel", "starts", "()V"⟩, 20), (⟨"StepRidersModel", "clears", "()I"⟩, 20), (⟨"StepRidersModel", "queued", "()I"⟩, 20), (⟨"StepRidersModel", "isSo", "(III)Z"⟩, 20), (⟨"StepRidersModel", "size", "(I)I"⟩, 20), (⟨"StepRidersModel", "begins", "(I)V"⟩, 20)]
theorem lw_r2 : ∀ q ∈ lw_privs_2, lw_okq q := List.forall_mem_cons.mpr ⟨lw_p16, List.forall_mem_cons.mpr ⟨lw_p17, List.forall_mem_cons.mpr ⟨lw_p18, List.forall_mem_cons.mpr ⟨lw_p19, List.forall_mem_cons.mpr ⟨lw_p20, List.forall_mem_cons.mpr ⟨lw_p21, List.forall_mem_cons.mpr ⟨lw_p22, List.forall_mem_cons.mpr ⟨lw_p23, List.forall_mem_cons.mpr ⟨lw_p24, List.forall_mem_cons.mpr ⟨lw_p25, List.forall_mem_cons.mpr ⟨lw_p26, List.forall_mem_cons.mpr ⟨lw_p27, List.forall_mem_cons.mpr ⟨lw_p28, List.forall_mem_cons.mpr ⟨lw_p29, List.forall_mem_cons.mpr ⟨lw_p30, List.forall_mem_cons.mpr ⟨lw_p31, fun _ h => absurd h List.not_mem_nil⟩⟩⟩⟩⟩⟩⟩⟩⟩⟩⟩⟩⟩⟩⟩⟩
theorem lw_p32 : lw_okq (⟨"StepRidersModel", "stands", "(I)I"⟩, 20) := ⟨⟨by decide +kernel, by decide +kernel⟩, List.mem_of_getElem? (i := 613) (by decide +kernel), List.mem_of_getElem? (i := 919) (by decide +kernel), List.mem_of_getElem? (i := 920) (by decide +kernel)⟩
def lw_privs_3 : List (MethodName × Nat) := [(⟨"StepRidersModel", "stands", "(I)I"⟩, 20)]
theorem lw_r3 : ∀ q ∈ lw_privs_3, lw_okq q := List.forall_mem_cons.mpr ⟨lw_p32, fun _ h => absurd h List.not_mem_nil⟩
def lw_privs : List (MethodName × Nat) := lw_privs_1 ++ (lw_privs_2 ++ (lw_privs_3))
def lw_tbl : List Cond := k2_sels lw_privs ++ tables_1
theorem lw_privs_ok : ∀ q ∈ lw_privs, lw_okq q := by
  show ∀ q ∈ lw_privs_1 ++ (lw_privs_2 ++ (lw_privs_3)), lw_okq q
  exact List.forall_mem_append.mpr ⟨lw_r1, List.forall_mem_append.mpr ⟨lw_r2, lw_r3⟩⟩
end
section
/-! ===== BEGIN words of one list among another's, by their places ===== -/
theorem goodIn_r {big : List Cond} (ws : List Cond) (ps : List Nat) (hp : ws = ps.filterMap (fun i => big[i]?)) (h : ws.all goodWord = true) : GoodIn big ws := by
  intro w hw
  have h1 := List.all_eq_true.mp h w hw
  rw [hp] at hw
  obtain ⟨i, -, hi⟩ := List.mem_filterMap.mp hw
  have hm : w ∈ big := by first | exact List.mem_of_getElem? hi | exact List.getElem?_mem hi
  exact ⟨hm, good_of_word h1⟩
theorem goodIn_app {big a b : List Cond} (ha : GoodIn big a) (hb : GoodIn big b) : GoodIn big (a ++ b) := fun w h => (List.mem_append.mp h).elim (ha w) (hb w)
theorem goodIn_ca {big a b : List Cond} {c : Cond} (ha : GoodIn big (c :: a)) (hb : GoodIn big b) : GoodIn big (c :: (a ++ b)) := fun w h => (List.mem_cons.mp h).elim (fun e => ha w (List.mem_cons.mpr (Or.inl e))) (fun h => (List.mem_append.mp h).elim (fun h => ha w (List.mem_cons.mpr (Or.inr h))) (hb w))
theorem goodIn_sub {big ws : List Cond} (hm : ∀ w ∈ ws, w ∈ big) (h : ws.all goodWord = true) : GoodIn big ws := fun w hw => ⟨hm w hw, good_of_word (List.all_eq_true.mp h w hw)⟩
/-! ===== END ===== -/

/-! ===== BEGIN printed: names, fields, word lists, decode rows ===== -/
def RX0 : String := "StepRiders$Acts"
def TX0 : u_T := fun k => match k with
  | 0 => ("StepRiders$Acts", "before", "[LStepRiders$Stair;", true)
  | 1 => ("StepRiders$Acts", "next", "I", false)
  | _ => ("StepRiders$Acts", "kept", "I", false)
def tyX0 : Nat → FieldType := fun k => match k with
  | 0 => .array (.object "StepRiders$Stair")
  | 1 => .int
  | _ => .int
abbrev wsX00 : List Cond := u_ws RX0 TX0 3
theorem nmX0 : ∀ a, a < 3 → ∀ b, b < 3 → a ≠ b → (TX0 a).2.1 ≠ (TX0 b).2.1 := by decide +kernel
theorem tyX0_ok : ∀ k, k < 3 → parseFieldDescriptor (TX0 k).2.2.1 = some (tyX0 k) := by decide +kernel
abbrev cX0_init : ByteArray := prog_2_method_1_code
def yX0_init : MethodName := ⟨RX0, "<init>", "()V"⟩
abbrev cX0_keep : ByteArray := prog_2_method_2_code
def yX0_keep : MethodName := ⟨RX0, "keep", "(LStepRiders$Stair;)V"⟩
abbrev cX0_takeBack : ByteArray := prog_2_method_3_code
def yX0_takeBack : MethodName := ⟨RX0, "takeBack", "(LStepRiders$Stair;)V"⟩
abbrev cX0_forgetAll : ByteArray := prog_2_method_4_code
def yX0_forgetAll : MethodName := ⟨RX0, "forgetAll", "()V"⟩
def RX1 : String := "StepRiders$Row"
def TX1 : u_T := fun k => match k with
  | 0 => ("StepRiders$Row", "items", "[I", true)
  | 1 => ("StepRiders$Row", "missing", "Z", false)
  | 2 => ("StepRiders$Row", "width", "I", false)
  | _ => ("StepRiders$Row", "length", "I", false)
def tyX1 : Nat → FieldType := fun k => match k with
  | 0 => .array .int
  | 1 => .boolean
  | 2 => .int
  | _ => .int
abbrev wsX10 : List Cond := u_ws RX1 TX1 4
theorem nmX1 : ∀ a, a < 4 → ∀ b, b < 4 → a ≠ b → (TX1 a).2.1 ≠ (TX1 b).2.1 := by decide +kernel
theorem tyX1_ok : ∀ k, k < 4 → parseFieldDescriptor (TX1 k).2.2.1 = some (tyX1 k) := by decide +kernel
abbrev cX1_init : ByteArray := prog_3_method_1_code
def yX1_init : MethodName := ⟨RX1, "<init>", "()V"⟩
abbrev cX1_begin : ByteArray := prog_3_method_2_code
def yX1_begin : MethodName := ⟨RX1, "begin", "(II)V"⟩
abbrev cX1_holds : ByteArray := prog_3_method_3_code
def yX1_holds : MethodName := ⟨RX1, "holds", "(II)Z"⟩
abbrev cX1_cut : ByteArray := prog_3_method_4_code
def yX1_cut : MethodName := ⟨RX1, "cut", "(I)I"⟩
def RX2 : String := "StepRiders$Stair"
def TX2 : u_T := fun k => match k with
  | 0 => ("StepRiders$Stair", "steps", "I", false)
  | 1 => ("StepRiders$Stair", "speed", "I", false)
  | 2 => ("StepRiders$Stair", "tick", "I", false)
  | 3 => ("StepRiders$Stair", "riders", "I", false)
  | 4 => ("StepRiders$Stair", "kind", "[I", true)
  | 5 => ("StepRiders$Stair", "lane", "[I", true)
  | 6 => ("StepRiders$Stair", "at", "[I", true)
  | _ => ("StepRiders$Stair", "turn", "[I", true)
def tyX2 : Nat → FieldType := fun k => match k with
  | 0 => .int
  | 1 => .int
  | 2 => .int
  | 3 => .int
  | 4 => .array .int
  | 5 => .array .int
  | 6 => .array .int
  | _ => .array .int
abbrev wsX20 : List Cond := u_ws RX2 TX2 8
theorem nmX2 : ∀ a, a < 8 → ∀ b, b < 8 → a ≠ b → (TX2 a).2.1 ≠ (TX2 b).2.1 := by decide +kernel
theorem tyX2_ok : ∀ k, k < 8 → parseFieldDescriptor (TX2 k).2.2.1 = some (tyX2 k) := by decide +kernel
abbrev cX2_init : ByteArray := prog_4_method_1_code
def yX2_init : MethodName := ⟨RX2, "<init>", "()V"⟩
abbrev cX2_empty : ByteArray := prog_4_method_2_code
def yX2_empty : MethodName := ⟨RX2, "empty", "()V"⟩
abbrev cX2_become : ByteArray := prog_4_method_3_code
def yX2_become : MethodName := ⟨RX2, "become", "(LStepRiders$Stair;)V"⟩
abbrev cX2_isOn : ByteArray := prog_4_method_4_code
def yX2_isOn : MethodName := ⟨RX2, "isOn", "(I)Z"⟩
abbrev cX2_takesBoth : ByteArray := prog_4_method_5_code
def yX2_takesBoth : MethodName := ⟨RX2, "takesBoth", "(I)Z"⟩
abbrev cX2_isFree : ByteArray := prog_4_method_6_code
def yX2_isFree : MethodName := ⟨RX2, "isFree", "(II)Z"⟩
abbrev cX2_mayGo : ByteArray := prog_4_method_7_code
def yX2_mayGo : MethodName := ⟨RX2, "mayGo", "(II)Z"⟩
abbrev cX2_mayCross : ByteArray := prog_4_method_8_code
def yX2_mayCross : MethodName := ⟨RX2, "mayCross", "(I)Z"⟩
abbrev cX2_whoTakes : ByteArray := prog_4_method_9_code
def yX2_whoTakes : MethodName := ⟨RX2, "whoTakes", "(II)I"⟩
abbrev cX2_whoIsAt : ByteArray := prog_4_method_10_code
def yX2_whoIsAt : MethodName := ⟨RX2, "whoIsAt", "(I)I"⟩
abbrev cX2_howManyAt : ByteArray := prog_4_method_11_code
def yX2_howManyAt : MethodName := ⟨RX2, "howManyAt", "(I)I"⟩
abbrev cX2_stepsTaken : ByteArray := prog_4_method_12_code
def yX2_stepsTaken : MethodName := ⟨RX2, "stepsTaken", "()I"⟩
abbrev cX2_isClear : ByteArray := prog_4_method_13_code
def yX2_isClear : MethodName := ⟨RX2, "isClear", "()Z"⟩
abbrev cX2_sendBack : ByteArray := prog_4_method_14_code
def yX2_sendBack : MethodName := ⟨RX2, "sendBack", "(II)V"⟩
abbrev cX2_putInLanes : ByteArray := prog_4_method_15_code
def yX2_putInLanes : MethodName := ⟨RX2, "putInLanes", "(II)V"⟩
abbrev cX2_takeOff : ByteArray := prog_4_method_16_code
def yX2_takeOff : MethodName := ⟨RX2, "takeOff", "(I)V"⟩
abbrev cX2_draw : ByteArray := prog_4_method_17_code
def yX2_draw : MethodName := ⟨RX2, "draw", "(I)V"⟩
abbrev cX2_pass : ByteArray := prog_4_method_18_code
def yX2_pass : MethodName := ⟨RX2, "pass", "()I"⟩
abbrev cX2_giveTurns : ByteArray := prog_4_method_19_code
def yX2_giveTurns : MethodName := ⟨RX2, "giveTurns", "()V"⟩
abbrev cX2_goes : ByteArray := prog_4_method_20_code
def yX2_goes : MethodName := ⟨RX2, "goes", "(I)Z"⟩
abbrev cX2_nextInTurn : ByteArray := prog_4_method_21_code
def yX2_nextInTurn : MethodName := ⟨RX2, "nextInTurn", "()I"⟩
abbrev cX2_go : ByteArray := prog_4_method_22_code
def yX2_go : MethodName := ⟨RX2, "go", "(I)V"⟩
abbrev cX2_carry : ByteArray := prog_4_method_23_code
def yX2_carry : MethodName := ⟨RX2, "carry", "()I"⟩
abbrev cX2_letOneOn : ByteArray := prog_4_method_24_code
def yX2_letOneOn : MethodName := ⟨RX2, "letOneOn", "()V"⟩
abbrev cX2_passUntilOff : ByteArray := prog_4_method_25_code
def yX2_passUntilOff : MethodName := ⟨RX2, "passUntilOff", "(II)I"⟩
abbrev cX2_passUntilClear : ByteArray := prog_4_method_26_code
def yX2_passUntilClear : MethodName := ⟨RX2, "passUntilClear", "(I)I"⟩
abbrev cX2_nobodyGoesOff : ByteArray := prog_4_method_27_code
def yX2_nobodyGoesOff : MethodName := ⟨RX2, "nobodyGoesOff", "()Z"⟩
def RX3 : String := "StepRiders$Tape"
def TX3 : u_T := fun k => match k with
  | 0 => ("StepRiders$Tape", "bytes", "[I", true)
  | 1 => ("StepRiders$Tape", "length", "I", false)
  | _ => ("StepRiders$Tape", "fault", "I", false)
def tyX3 : Nat → FieldType := fun k => match k with
  | 0 => .array .int
  | 1 => .int
  | _ => .int
abbrev wsX30 : List Cond := u_ws RX3 TX3 3
theorem nmX3 : ∀ a, a < 3 → ∀ b, b < 3 → a ≠ b → (TX3 a).2.1 ≠ (TX3 b).2.1 := by decide +kernel
theorem tyX3_ok : ∀ k, k < 3 → parseFieldDescriptor (TX3 k).2.2.1 = some (tyX3 k) := by decide +kernel
abbrev cX3_init : ByteArray := prog_5_method_1_code
def yX3_init : MethodName := ⟨RX3, "<init>", "()V"⟩
abbrev cX3_append : ByteArray := prog_5_method_2_code
def yX3_append : MethodName := ⟨RX3, "append", "(I)V"⟩
abbrev cX3_readInto : ByteArray := prog_5_method_3_code
def yX3_readInto : MethodName := ⟨RX3, "readInto", "(LStepRiders$Stair;)I"⟩
abbrev cX3_widthOfToken : ByteArray := prog_5_method_4_code
def yX3_widthOfToken : MethodName := ⟨RX3, "widthOfToken", "(I)I"⟩
abbrev cX3_isFigure : ByteArray := prog_5_method_5_code
def yX3_isFigure : MethodName := ⟨RX3, "isFigure", "(I)Z"⟩
abbrev cX3_accept : ByteArray := prog_5_method_6_code
def yX3_accept : MethodName := ⟨RX3, "accept", "(IIILStepRiders$Stair;)I"⟩
abbrev cX3_acceptSign : ByteArray := prog_5_method_7_code
def yX3_acceptSign : MethodName := ⟨RX3, "acceptSign", "(II)I"⟩
abbrev cX3_acceptSort : ByteArray := prog_5_method_8_code
def yX3_acceptSort : MethodName := ⟨RX3, "acceptSort", "(ILStepRiders$Stair;)I"⟩
abbrev cX3_acceptLane : ByteArray := prog_5_method_9_code
def yX3_acceptLane : MethodName := ⟨RX3, "acceptLane", "(ILStepRiders$Stair;)I"⟩
abbrev cX3_kindOf : ByteArray := prog_5_method_10_code
def yX3_kindOf : MethodName := ⟨RX3, "kindOf", "(I)I"⟩
abbrev cX3_numberAt : ByteArray := prog_5_method_11_code
def yX3_numberAt : MethodName := ⟨RX3, "numberAt", "(II)I"⟩
abbrev cX3_faultOfNumber : ByteArray := prog_5_method_12_code
def yX3_faultOfNumber : MethodName := ⟨RX3, "faultOfNumber", "(III)I"⟩
def RX4 : String := "StepRiders$Trace"
def TX4 : u_T := fun k => match k with
  | 0 => ("StepRiders$Trace", "bodies", "[I", true)
  | _ => ("StepRiders$Trace", "length", "I", false)
def tyX4 : Nat → FieldType := fun k => match k with
  | 0 => .array .int
  | _ => .int
abbrev wsX40 : List Cond := u_ws RX4 TX4 2
theorem nmX4 : ∀ a, a < 2 → ∀ b, b < 2 → a ≠ b → (TX4 a).2.1 ≠ (TX4 b).2.1 := by decide +kernel
theorem tyX4_ok : ∀ k, k < 2 → parseFieldDescriptor (TX4 k).2.2.1 = some (tyX4 k) := by decide +kernel
abbrev cX4_init : ByteArray := prog_6_method_1_code
def yX4_init : MethodName := ⟨RX4, "<init>", "()V"⟩
abbrev cX4_leave : ByteArray := prog_6_method_2_code
def yX4_leave : MethodName := ⟨RX4, "leave", "(I)V"⟩
def RX5 : String := "StepRiders"
def TX5 : u_T := fun k => match k with
  | 0 => ("StepRiders", "rows", "[LStepRiders$Row;", true)
  | 1 => ("StepRiders", "tape", "LStepRiders$Tape;", true)
  | 2 => ("StepRiders", "now", "LStepRiders$Stair;", true)
  | 3 => ("StepRiders", "acts", "LStepRiders$Acts;", true)
  | 4 => ("StepRiders", "images", "[LStepRiders$Stair;", true)
  | 5 => ("StepRiders", "traced", "LStepRiders$Trace;", true)
  | 6 => ("StepRiders", "trial", "LStepRiders$Stair;", true)
  | 7 => ("StepRiders", "levels", "[LStepRiders$Stair;", true)
  | 8 => ("StepRiders", "paces", "[I", true)
  | 9 => ("StepRiders", "bestPaces", "[I", true)
  | _ => ("StepRiders", "finding", "I", false)
def tyX5 : Nat → FieldType := fun k => match k with
  | 0 => .array (.object "StepRiders$Row")
  | 1 => .object "StepRiders$Tape"
  | 2 => .object "StepRiders$Stair"
  | 3 => .object "StepRiders$Acts"
  | 4 => .array (.object "StepRiders$Stair")
  | 5 => .object "StepRiders$Trace"
  | 6 => .object "StepRiders$Stair"
  | 7 => .array (.object "StepRiders$Stair")
  | 8 => .array .int
  | 9 => .array .int
  | _ => .int
abbrev wsX50 : List Cond := u_ws RX5 TX5 11
theorem nmX5 : ∀ a, a < 11 → ∀ b, b < 11 → a ≠ b → (TX5 a).2.1 ≠ (TX5 b).2.1 := by decide +kernel
theorem tyX5_ok : ∀ k, k < 11 → parseFieldDescriptor (TX5 k).2.2.1 = some (tyX5 k) := by decide +kernel
abbrev cX5_init : ByteArray := prog_1_method_1_code
def yX5_init : MethodName := ⟨RX5, "<init>", "()V"⟩
abbrev cX5_row : ByteArray := prog_1_method_2_code
def yX5_row : MethodName := ⟨RX5, "row", "(III)I"⟩
abbrev cX5_set : ByteArray := prog_1_method_3_code
def yX5_set : MethodName := ⟨RX5, "set", "(III)I"⟩
abbrev cX5_copy : ByteArray := prog_1_method_4_code
def yX5_copy : MethodName := ⟨RX5, "copy", "(IIIII)I"⟩
abbrev cX5_drop : ByteArray := prog_1_method_5_code
def yX5_drop : MethodName := ⟨RX5, "drop", "(I)I"⟩
abbrev cX5_feed : ByteArray := prog_1_method_6_code
def yX5_feed : MethodName := ⟨RX5, "feed", "(I)I"⟩
abbrev cX5_stair : ByteArray := prog_1_method_7_code
def yX5_stair : MethodName := ⟨RX5, "stair", "()I"⟩
abbrev cX5_fault : ByteArray := prog_1_method_8_code
def yX5_fault : MethodName := ⟨RX5, "fault", "()I"⟩
abbrev cX5_ticks : ByteArray := prog_1_method_9_code
def yX5_ticks : MethodName := ⟨RX5, "ticks", "(I)I"⟩
abbrev cX5_speed : ByteArray := prog_1_method_10_code
def yX5_speed : MethodName := ⟨RX5, "speed", "(I)I"⟩
abbrev cX5_cross : ByteArray := prog_1_method_11_code
def yX5_cross : MethodName := ⟨RX5, "cross", "(I)I"⟩
abbrev cX5_take : ByteArray := prog_1_method_12_code
def yX5_take : MethodName := ⟨RX5, "take", "(I)I"⟩
abbrev cX5_again : ByteArray := prog_1_method_13_code
def yX5_again : MethodName := ⟨RX5, "again", "(II)I"⟩
abbrev cX5_undo : ByteArray := prog_1_method_14_code
def yX5_undo : MethodName := ⟨RX5, "undo", "()I"⟩
abbrev cX5_rider : ByteArray := prog_1_method_15_code
def yX5_rider : MethodName := ⟨RX5, "rider", "(II)I"⟩
abbrev cX5_step : ByteArray := prog_1_method_16_code
def yX5_step : MethodName := ⟨RX5, "step", "(II)I"⟩
abbrev cX5_ahead : ByteArray := prog_1_method_17_code
def yX5_ahead : MethodName := ⟨RX5, "ahead", "(II)I"⟩
abbrev cX5_later : ByteArray := prog_1_method_18_code
def yX5_later : MethodName := ⟨RX5, "later", "(II)I"⟩
abbrev cX5_off : ByteArray := prog_1_method_19_code
def yX5_off : MethodName := ⟨RX5, "off", "(I)I"⟩
abbrev cX5_clear : ByteArray := prog_1_method_20_code
def yX5_clear : MethodName := ⟨RX5, "clear", "()I"⟩
abbrev cX5_sorting : ByteArray := prog_1_method_21_code
def yX5_sorting : MethodName := ⟨RX5, "sorting", "(I)I"⟩
abbrev cX5_taken : ByteArray := prog_1_method_22_code
def yX5_taken : MethodName := ⟨RX5, "taken", "(I)I"⟩
abbrev cX5_pace : ByteArray := prog_1_method_23_code
def yX5_pace : MethodName := ⟨RX5, "pace", "(III)I"⟩
abbrev cX5_fits : ByteArray := prog_1_method_24_code
def yX5_fits : MethodName := ⟨RX5, "fits", "(IIIII)I"⟩
abbrev cX5_absent : ByteArray := prog_1_method_25_code
def yX5_absent : MethodName := ⟨RX5, "absent", "(IIII)I"⟩
abbrev cX5_drawn : ByteArray := prog_1_method_26_code
def yX5_drawn : MethodName := ⟨RX5, "drawn", "(III)I"⟩
abbrev cX5_image : ByteArray := prog_1_method_27_code
def yX5_image : MethodName := ⟨RX5, "image", "(I)I"⟩
abbrev cX5_restore : ByteArray := prog_1_method_28_code
def yX5_restore : MethodName := ⟨RX5, "restore", "(I)I"⟩
abbrev cX5_kind : ByteArray := prog_1_method_29_code
def yX5_kind : MethodName := ⟨RX5, "kind", "(I)I"⟩
abbrev cX5_as : ByteArray := prog_1_method_30_code
def yX5_as : MethodName := ⟨RX5, "as", "(II)I"⟩
abbrev cX5_ask : ByteArray := prog_1_method_31_code
def yX5_ask : MethodName := ⟨RX5, "ask", "(II)I"⟩
abbrev cX5_trace : ByteArray := prog_1_method_32_code
def yX5_trace : MethodName := ⟨RX5, "trace", "(I)I"⟩
abbrev cX5_count : ByteArray := prog_1_method_33_code
def yX5_count : MethodName := ⟨RX5, "count", "(I)I"⟩
abbrev cX5_status : ByteArray := prog_1_method_34_code
def yX5_status : MethodName := ⟨RX5, "status", "()I"⟩
abbrev cX5_outside : ByteArray := prog_1_method_35_code
def yX5_outside : MethodName := ⟨RX5, "outside", "(III)Z"⟩
abbrev cX5_oneIf : ByteArray := prog_1_method_36_code
def yX5_oneIf : MethodName := ⟨RX5, "oneIf", "(Z)I"⟩
abbrev cX5_noRow : ByteArray := prog_1_method_37_code
def yX5_noRow : MethodName := ⟨RX5, "noRow", "(I)Z"⟩
abbrev cX5_noStair : ByteArray := prog_1_method_38_code
def yX5_noStair : MethodName := ⟨RX5, "noStair", "()Z"⟩
abbrev cX5_noRider : ByteArray := prog_1_method_39_code
def yX5_noRider : MethodName := ⟨RX5, "noRider", "(I)Z"⟩
abbrev cX5_found : ByteArray := prog_1_method_40_code
def yX5_found : MethodName := ⟨RX5, "found", "(I)I"⟩
abbrev cX5_fine : ByteArray := prog_1_method_41_code
def yX5_fine : MethodName := ⟨RX5, "fine", "(I)I"⟩
abbrev cX5_howManyRows : ByteArray := prog_1_method_42_code
def yX5_howManyRows : MethodName := ⟨RX5, "howManyRows", "()I"⟩
abbrev cX5_tryTicks : ByteArray := prog_1_method_43_code
def yX5_tryTicks : MethodName := ⟨RX5, "tryTicks", "(I)V"⟩
abbrev cX5_nextSubset : ByteArray := prog_1_method_44_code
def yX5_nextSubset : MethodName := ⟨RX5, "nextSubset", "(II)I"⟩
abbrev cX5_power : ByteArray := prog_1_method_45_code
def yX5_power : MethodName := ⟨RX5, "power", "(II)I"⟩
abbrev cX5_greatestDivisor : ByteArray := prog_1_method_46_code
def yX5_greatestDivisor : MethodName := ⟨RX5, "greatestDivisor", "(II)I"⟩
abbrev cX5_findPaces : ByteArray := prog_1_method_47_code
def yX5_findPaces : MethodName := ⟨RX5, "findPaces", "(II)I"⟩
abbrev cX5_writePaces : ByteArray := prog_1_method_48_code
def yX5_writePaces : MethodName := ⟨RX5, "writePaces", "(II)I"⟩
abbrev cX5_passLevels : ByteArray := prog_1_method_49_code
def yX5_passLevels : MethodName := ⟨RX5, "passLevels", "(II)V"⟩
abbrev cX5_sumOfPaces : ByteArray := prog_1_method_50_code
def yX5_sumOfPaces : MethodName := ⟨RX5, "sumOfPaces", "(I)I"⟩
abbrev cX5_kindsThatFit : ByteArray := prog_1_method_51_code
def yX5_kindsThatFit : MethodName := ⟨RX5, "kindsThatFit", "(ILStepRiders$Row;II)I"⟩
abbrev cX5_lanesThatFit : ByteArray := prog_1_method_52_code
def yX5_lanesThatFit : MethodName := ⟨RX5, "lanesThatFit", "(ILStepRiders$Row;II)I"⟩
abbrev cX5_speedsThatFit : ByteArray := prog_1_method_53_code
def yX5_speedsThatFit : MethodName := ⟨RX5, "speedsThatFit", "(ILStepRiders$Row;II)I"⟩
abbrev cX5_startsThatFit : ByteArray := prog_1_method_54_code
def yX5_startsThatFit : MethodName := ⟨RX5, "startsThatFit", "(ILStepRiders$Row;II)I"⟩
abbrev cX5_trialFits : ByteArray := prog_1_method_55_code
def yX5_trialFits : MethodName := ⟨RX5, "trialFits", "(ILStepRiders$Row;II)Z"⟩
abbrev cX5_bodyFor : ByteArray := prog_1_method_56_code
def yX5_bodyFor : MethodName := ⟨RX5, "bodyFor", "(II)I"⟩
abbrev cX5_answerOf : ByteArray := prog_1_method_57_code
def yX5_answerOf : MethodName := ⟨RX5, "answerOf", "(ILStepRiders$Stair;ILStepRiders$Trace;I)I"⟩
def RX6 : String := "StepRidersModel"
def TX6 : u_T := fun k => match k with
  | 0 => ("StepRidersModel", "sizes", "[I", true)
  | 1 => ("StepRidersModel", "widths", "[I", true)
  | 2 => ("StepRidersModel", "items", "[I", true)
  | 3 => ("StepRidersModel", "moved", "[I", true)
  | 4 => ("StepRidersModel", "status", "I", false)
  | 5 => ("StepRidersModel", "tape", "[I", true)
  | 6 => ("StepRidersModel", "typed", "I", false)
  | 7 => ("StepRidersModel", "fault", "I", false)
  | 8 => ("StepRidersModel", "s", "[I", true)
  | 9 => ("StepRidersModel", "draft", "[I", true)
  | 10 => ("StepRidersModel", "images", "[I", true)
  | 11 => ("StepRidersModel", "kept", "[Z", true)
  | 12 => ("StepRidersModel", "past", "[I", true)
  | 13 => ("StepRidersModel", "known", "I", false)
  | 14 => ("StepRidersModel", "then", "[I", true)
  | 15 => ("StepRidersModel", "went", "[I", true)
  | 16 => ("StepRidersModel", "traces", "[I", true)
  | 17 => ("StepRidersModel", "traced", "I", false)
  | 18 => ("StepRidersModel", "at", "I", false)
  | _ => ("StepRidersModel", "wrong", "I", false)
def tyX6 : Nat → FieldType := fun k => match k with
  | 0 => .array .int
  | 1 => .array .int
  | 2 => .array .int
  | 3 => .array .int
  | 4 => .int
  | 5 => .array .int
  | 6 => .int
  | 7 => .int
  | 8 => .array .int
  | 9 => .array .int
  | 10 => .array .int
  | 11 => .array .boolean
  | 12 => .array .int
  | 13 => .int
  | 14 => .array .int
  | 15 => .array .int
  | 16 => .array .int
  | 17 => .int
  | 18 => .int
  | _ => .int
abbrev wsX60 : List Cond := u_ws RX6 TX6 20
theorem nmX6 : ∀ a, a < 20 → ∀ b, b < 20 → a ≠ b → (TX6 a).2.1 ≠ (TX6 b).2.1 := by decide +kernel
theorem tyX6_ok : ∀ k, k < 20 → parseFieldDescriptor (TX6 k).2.2.1 = some (tyX6 k) := by decide +kernel
abbrev cX6_init : ByteArray := prog_8_method_1_code
def yX6_init : MethodName := ⟨RX6, "<init>", "()V"⟩
abbrev cX6_in : ByteArray := prog_8_method_3_code
def yX6_in : MethodName := ⟨RX6, "in", "(III)Z"⟩
abbrev cX6_isRow : ByteArray := prog_8_method_4_code
def yX6_isRow : MethodName := ⟨RX6, "isRow", "(I)Z"⟩
abbrev cX6_ends : ByteArray := prog_8_method_5_code
def yX6_ends : MethodName := ⟨RX6, "ends", "(I)I"⟩
abbrev cX6_cut : ByteArray := prog_8_method_6_code
def yX6_cut : MethodName := ⟨RX6, "cut", "(II)I"⟩
abbrev cX6_row : ByteArray := prog_8_method_7_code
def yX6_row : MethodName := ⟨RX6, "row", "(III)I"⟩
abbrev cX6_lies : ByteArray := prog_8_method_8_code
def yX6_lies : MethodName := ⟨RX6, "lies", "(III)Z"⟩
abbrev cX6_set : ByteArray := prog_8_method_9_code
def yX6_set : MethodName := ⟨RX6, "set", "(III)I"⟩
abbrev cX6_copy : ByteArray := prog_8_method_10_code
def yX6_copy : MethodName := ⟨RX6, "copy", "(IIIII)I"⟩
abbrev cX6_drop : ByteArray := prog_8_method_11_code
def yX6_drop : MethodName := ⟨RX6, "drop", "(I)I"⟩
abbrev cX6_feed : ByteArray := prog_8_method_12_code
def yX6_feed : MethodName := ⟨RX6, "feed", "(I)I"⟩
abbrev cX6_letterAt : ByteArray := prog_8_method_13_code
def yX6_letterAt : MethodName := ⟨RX6, "letterAt", "(I)I"⟩
abbrev cX6_isDigit : ByteArray := prog_8_method_14_code
def yX6_isDigit : MethodName := ⟨RX6, "isDigit", "(I)Z"⟩
abbrev cX6_fails : ByteArray := prog_8_method_15_code
def yX6_fails : MethodName := ⟨RX6, "fails", "(I)Z"⟩
abbrev cX6_sign : ByteArray := prog_8_method_16_code
def yX6_sign : MethodName := ⟨RX6, "sign", "(I)Z"⟩
abbrev cX6_number : ByteArray := prog_8_method_17_code
def yX6_number : MethodName := ⟨RX6, "number", "(III)Z"⟩
abbrev cX6_kindBy : ByteArray := prog_8_method_18_code
def yX6_kindBy : MethodName := ⟨RX6, "kindBy", "(I)I"⟩
abbrev cX6_reads : ByteArray := prog_8_method_19_code
def yX6_reads : MethodName := ⟨RX6, "reads", "()Z"⟩
abbrev cX6_stair : ByteArray := prog_8_method_20_code
def yX6_stair : MethodName := ⟨RX6, "stair", "()I"⟩
abbrev cX6_fault : ByteArray := prog_8_method_21_code
def yX6_fault : MethodName := ⟨RX6, "fault", "()I"⟩
abbrev cX6_isStair : ByteArray := prog_8_method_22_code
def yX6_isStair : MethodName := ⟨RX6, "isStair", "()Z"⟩
abbrev cX6_isRider : ByteArray := prog_8_method_23_code
def yX6_isRider : MethodName := ⟨RX6, "isRider", "(I)Z"⟩
abbrev cX6_keeps : ByteArray := prog_8_method_24_code
def yX6_keeps : MethodName := ⟨RX6, "keeps", "()V"⟩
abbrev cX6_isOn : ByteArray := prog_8_method_25_code
def yX6_isOn : MethodName := ⟨RX6, "isOn", "(I)Z"⟩
abbrev cX6_isFree : ByteArray := prog_8_method_26_code
def yX6_isFree : MethodName := ⟨RX6, "isFree", "([IIII)Z"⟩
abbrev cX6_goes : ByteArray := prog_8_method_27_code
def yX6_goes : MethodName := ⟨RX6, "goes", "([III)Z"⟩
abbrev cX6_moves : ByteArray := prog_8_method_28_code
def yX6_moves : MethodName := ⟨RX6, "moves", "([II)V"⟩
abbrev cX6_tick : ByteArray := prog_8_method_29_code
def yX6_tick : MethodName := ⟨RX6, "tick", "([I)V"⟩
abbrev cX6_offIn : ByteArray := prog_8_method_30_code
def yX6_offIn : MethodName := ⟨RX6, "offIn", "([I)I"⟩
abbrev cX6_ticks : ByteArray := prog_8_method_31_code
def yX6_ticks : MethodName := ⟨RX6, "ticks", "(I)I"⟩
abbrev cX6_speed : ByteArray := prog_8_method_32_code
def yX6_speed : MethodName := ⟨RX6, "speed", "(I)I"⟩
abbrev cX6_cross : ByteArray := prog_8_method_33_code
def yX6_cross : MethodName := ⟨RX6, "cross", "(I)I"⟩
abbrev cX6_take : ByteArray := prog_8_method_34_code
def yX6_take : MethodName := ⟨RX6, "take", "(I)I"⟩
abbrev cX6_again : ByteArray := prog_8_method_35_code
def yX6_again : MethodName := ⟨RX6, "again", "(II)I"⟩
abbrev cX6_undo : ByteArray := prog_8_method_36_code
def yX6_undo : MethodName := ⟨RX6, "undo", "()I"⟩
abbrev cX6_rider : ByteArray := prog_8_method_37_code
def yX6_rider : MethodName := ⟨RX6, "rider", "(II)I"⟩
abbrev cX6_step : ByteArray := prog_8_method_38_code
def yX6_step : MethodName := ⟨RX6, "step", "(II)I"⟩
abbrev cX6_starts : ByteArray := prog_8_method_39_code
def yX6_starts : MethodName := ⟨RX6, "starts", "()V"⟩
abbrev cX6_ahead : ByteArray := prog_8_method_40_code
def yX6_ahead : MethodName := ⟨RX6, "ahead", "(II)I"⟩
abbrev cX6_later : ByteArray := prog_8_method_41_code
def yX6_later : MethodName := ⟨RX6, "later", "(II)I"⟩
abbrev cX6_off : ByteArray := prog_8_method_42_code
def yX6_off : MethodName := ⟨RX6, "off", "(I)I"⟩
abbrev cX6_clears : ByteArray := prog_8_method_43_code
def yX6_clears : MethodName := ⟨RX6, "clears", "()I"⟩
abbrev cX6_clear : ByteArray := prog_8_method_44_code
def yX6_clear : MethodName := ⟨RX6, "clear", "()I"⟩
abbrev cX6_queued : ByteArray := prog_8_method_45_code
def yX6_queued : MethodName := ⟨RX6, "queued", "()I"⟩
abbrev cX6_has : ByteArray := prog_8_method_46_code
def yX6_has : MethodName := ⟨RX6, "has", "(II)Z"⟩
abbrev cX6_sorting : ByteArray := prog_8_method_47_code
def yX6_sorting : MethodName := ⟨RX6, "sorting", "(I)I"⟩
abbrev cX6_taken : ByteArray := prog_8_method_48_code
def yX6_taken : MethodName := ⟨RX6, "taken", "(I)I"⟩
abbrev cX6_pace : ByteArray := prog_8_method_49_code
def yX6_pace : MethodName := ⟨RX6, "pace", "(III)I"⟩
abbrev cX6_isSo : ByteArray := prog_8_method_50_code
def yX6_isSo : MethodName := ⟨RX6, "isSo", "(III)Z"⟩
abbrev cX6_fits : ByteArray := prog_8_method_51_code
def yX6_fits : MethodName := ⟨RX6, "fits", "(IIIII)I"⟩
abbrev cX6_absent : ByteArray := prog_8_method_52_code
def yX6_absent : MethodName := ⟨RX6, "absent", "(IIII)I"⟩
abbrev cX6_drawn : ByteArray := prog_8_method_53_code
def yX6_drawn : MethodName := ⟨RX6, "drawn", "(III)I"⟩
abbrev cX6_image : ByteArray := prog_8_method_54_code
def yX6_image : MethodName := ⟨RX6, "image", "(I)I"⟩
abbrev cX6_restore : ByteArray := prog_8_method_55_code
def yX6_restore : MethodName := ⟨RX6, "restore", "(I)I"⟩
abbrev cX6_kind : ByteArray := prog_8_method_56_code
def yX6_kind : MethodName := ⟨RX6, "kind", "(I)I"⟩
abbrev cX6_as : ByteArray := prog_8_method_57_code
def yX6_as : MethodName := ⟨RX6, "as", "(II)I"⟩
abbrev cX6_begins : ByteArray := prog_8_method_58_code
def yX6_begins : MethodName := ⟨RX6, "begins", "(I)V"⟩
abbrev cX6_size : ByteArray := prog_8_method_59_code
def yX6_size : MethodName := ⟨RX6, "size", "(I)I"⟩
abbrev cX6_stands : ByteArray := prog_8_method_60_code
def yX6_stands : MethodName := ⟨RX6, "stands", "(I)I"⟩
abbrev cX6_ask : ByteArray := prog_8_method_61_code
def yX6_ask : MethodName := ⟨RX6, "ask", "(II)I"⟩
abbrev cX6_trace : ByteArray := prog_8_method_62_code
def yX6_trace : MethodName := ⟨RX6, "trace", "(I)I"⟩
abbrev cX6_count : ByteArray := prog_8_method_63_code
def yX6_count : MethodName := ⟨RX6, "count", "(I)I"⟩
abbrev cX6_status : ByteArray := prog_8_method_64_code
def yX6_status : MethodName := ⟨RX6, "status", "()I"⟩
def RJ6 : String := "java/lang/Integer"
def TJ6 : u_T := fun k => match k with
  | _ => ("", "", "", false)
def tyJ6 : Nat → FieldType := fun k => match k with
  | _ => .int
abbrev wsJ60 : List Cond := u_ws RJ6 TJ6 0
theorem nmJ6 : ∀ a, a < 0 → ∀ b, b < 0 → a ≠ b → (TJ6 a).2.1 ≠ (TJ6 b).2.1 := by decide +kernel
theorem tyJ6_ok : ∀ k, k < 0 → parseFieldDescriptor (TJ6 k).2.2.1 = some (tyJ6 k) := by decide +kernel
abbrev cJ6_bitCount_0f7a4 : ByteArray := prog_9_method_49_code
def yJ6_bitCount_0f7a4 : MethodName := ⟨RJ6, "bitCount", "(I)I"⟩
def RJ9 : String := "java/lang/Math"
def TJ9 : u_T := fun k => match k with
  | _ => ("", "", "", false)
def tyJ9 : Nat → FieldType := fun k => match k with
  | _ => .int
abbrev wsJ90 : List Cond := u_ws RJ9 TJ9 0
theorem nmJ9 : ∀ a, a < 0 → ∀ b, b < 0 → a ≠ b → (TJ9 a).2.1 ≠ (TJ9 b).2.1 := by decide +kernel
theorem tyJ9_ok : ∀ k, k < 0 → parseFieldDescriptor (TJ9 k).2.2.1 = some (tyJ9 k) := by decide +kernel
abbrev cJ9_max_7cf53 : ByteArray := prog_10_method_65_code
def yJ9_max_7cf53 : MethodName := ⟨RJ9, "max", "(II)I"⟩
abbrev cJ9_min_7cf53 : ByteArray := prog_10_method_69_code
def yJ9_min_7cf53 : MethodName := ⟨RJ9, "min", "(II)I"⟩
def RJ10 : String := "java/lang/System"
def TJ10 : u_T := fun k => match k with
  | _ => ("", "", "", false)
def tyJ10 : Nat → FieldType := fun k => match k with
  | _ => .int
abbrev wsJ100 : List Cond := u_ws RJ10 TJ10 0
theorem nmJ10 : ∀ a, a < 0 → ∀ b, b < 0 → a ≠ b → (TJ10 a).2.1 ≠ (TJ10 b).2.1 := by decide +kernel
theorem tyJ10_ok : ∀ k, k < 0 → parseFieldDescriptor (TJ10 k).2.2.1 = some (tyJ10 k) := by decide +kernel
def RL : String := "StepRidersLaw"
abbrev cL_law : ByteArray := code
def yL_law : MethodName := ⟨RL, "law", "([I)Z"⟩
def wsX2_init : List Cond := .code yX2_init cX2_init 1 none :: ([.methodLink RX2 3 objectInit, .instanceMethod objectInit, .code objectInit ⟨#[0xb1]⟩ 1 none, .fieldLink RX2 9 "StepRiders$Stair" "steps" "I", .fieldLink RX2 15 "StepRiders$Stair" "speed" "I", .fieldLink RX2 18 "StepRiders$Stair" "tick" "I", .fieldLink RX2 21 "StepRiders$Stair" "riders" "I", .arrayClass .int, .fieldLink RX2 24 "StepRiders$Stair" "kind" "[I", .fieldLink RX2 28 "StepRiders$Stair" "lane" "[I", .fieldLink RX2 31 "StepRiders$Stair" "at" "[I", .fieldLink RX2 34 "StepRiders$Stair" "turn" "[I"] ++ wsX20)
def wsX0_init : List Cond := .code yX0_init cX0_init 2 none :: ([.methodLink RX0 3 objectInit, .instanceMethod objectInit, .code objectInit ⟨#[0xb1]⟩ 1 none, .classLink RX0 9 RX2, .fieldLink RX0 11 "StepRiders$Acts" "before" "[LStepRiders$Stair;", .fieldLink RX0 17 "StepRiders$Acts" "next" "I", .fieldLink RX0 21 "StepRiders$Acts" "kept" "I", .instantiable RX2 8, .initialized RX2, .instanceMethod yX2_init, .code yX2_init cX2_init 1 none, .methodLink RX2 3 objectInit, .fieldLink RX2 9 "StepRiders$Stair" "steps" "I", .fieldLink RX2 15 "StepRiders$Stair" "speed" "I", .fieldLink RX2 18 "StepRiders$Stair" "tick" "I", .fieldLink RX2 21 "StepRiders$Stair" "riders" "I", .arrayClass .int, .fieldLink RX2 24 "StepRiders$Stair" "kind" "[I", .fieldLink RX2 28 "StepRiders$Stair" "lane" "[I", .fieldLink RX2 31 "StepRiders$Stair" "at" "[I", .fieldLink RX2 34 "StepRiders$Stair" "turn" "[I"] ++ wsX00 ++ wsX20)
def wsX2_become : List Cond := .code yX2_become cX2_become 2 none :: ([.fieldLink RX2 9 "StepRiders$Stair" "steps" "I", .fieldLink RX2 15 "StepRiders$Stair" "speed" "I", .fieldLink RX2 18 "StepRiders$Stair" "tick" "I", .fieldLink RX2 21 "StepRiders$Stair" "riders" "I", .fieldLink RX2 24 "StepRiders$Stair" "kind" "[I", .methodLink RX2 37 arraycopyName, .native arraycopyName, .static arraycopyName, .initialized "java/lang/System", .fieldLink RX2 28 "StepRiders$Stair" "lane" "[I", .fieldLink RX2 31 "StepRiders$Stair" "at" "[I"] ++ wsX20)
def wsX0_keep : List Cond := .code yX0_keep cX0_keep 2 none :: ([.fieldLink RX0 11 "StepRiders$Acts" "before" "[LStepRiders$Stair;", .fieldLink RX0 17 "StepRiders$Acts" "next" "I", .fieldLink RX0 21 "StepRiders$Acts" "kept" "I", .methodLink RX0 29 Lib.Math.min.name, .static Lib.Math.min.name, .initialized "java/lang/Math", .code Lib.Math.min.name Lib.Math.min.code 2 (some .int), .methodLink RX0 25 yX2_become, .instanceMethod yX2_become, .selects RX2 yX2_become yX2_become, .initialized RX2, .code yX2_become cX2_become 2 none, .fieldLink RX2 9 "StepRiders$Stair" "steps" "I", .fieldLink RX2 15 "StepRiders$Stair" "speed" "I", .fieldLink RX2 18 "StepRiders$Stair" "tick" "I", .fieldLink RX2 21 "StepRiders$Stair" "riders" "I", .fieldLink RX2 24 "StepRiders$Stair" "kind" "[I", .methodLink RX2 37 arraycopyName, .native arraycopyName, .static arraycopyName, .initialized "java/lang/System", .fieldLink RX2 28 "StepRiders$Stair" "lane" "[I", .fieldLink RX2 31 "StepRiders$Stair" "at" "[I"] ++ wsX00 ++ wsX20)
def wsX0_takeBack : List Cond := .code yX0_takeBack cX0_takeBack 2 none :: ([.fieldLink RX0 17 "StepRiders$Acts" "next" "I", .fieldLink RX0 11 "StepRiders$Acts" "before" "[LStepRiders$Stair;", .fieldLink RX0 21 "StepRiders$Acts" "kept" "I", .methodLink RX0 35 Lib.Math.max.name, .static Lib.Math.max.name, .initialized "java/lang/Math", .code Lib.Math.max.name Lib.Math.max.code 2 (some .int), .methodLink RX0 25 yX2_become, .instanceMethod yX2_become, .selects RX2 yX2_become yX2_become, .initialized RX2, .code yX2_become cX2_become 2 none, .fieldLink RX2 9 "StepRiders$Stair" "steps" "I", .fieldLink RX2 15 "StepRiders$Stair" "speed" "I", .fieldLink RX2 18 "StepRiders$Stair" "tick" "I", .fieldLink RX2 21 "StepRiders$Stair" "riders" "I", .fieldLink RX2 24 "StepRiders$Stair" "kind" "[I", .methodLink RX2 37 arraycopyName, .native arraycopyName, .static arraycopyName, .initialized "java/lang/System", .fieldLink RX2 28 "StepRiders$Stair" "lane" "[I", .fieldLink RX2 31 "StepRiders$Stair" "at" "[I"] ++ wsX00 ++ wsX20)
def wsX0_forgetAll : List Cond := .code yX0_forgetAll cX0_forgetAll 1 none :: ([.fieldLink RX0 21 "StepRiders$Acts" "kept" "I"] ++ wsX00)
def wsX1_init : List Cond := .code yX1_init cX1_init 1 none :: ([.methodLink RX1 3 objectInit, .instanceMethod objectInit, .code objectInit ⟨#[0xb1]⟩ 1 none, .arrayClass .int, .fieldLink RX1 9 "StepRiders$Row" "items" "[I", .fieldLink RX1 15 "StepRiders$Row" "missing" "Z", .fieldLink RX1 19 "StepRiders$Row" "width" "I", .fieldLink RX1 23 "StepRiders$Row" "length" "I"] ++ wsX10)
def wsX1_begin : List Cond := .code yX1_begin cX1_begin 4 none :: ([.fieldLink RX1 15 "StepRiders$Row" "missing" "Z", .fieldLink RX1 19 "StepRiders$Row" "width" "I", .fieldLink RX1 23 "StepRiders$Row" "length" "I", .fieldLink RX1 9 "StepRiders$Row" "items" "[I"] ++ wsX10)
def wsX1_holds : List Cond := .code yX1_holds cX1_holds 3 (some .boolean) :: ([.fieldLink RX1 23 "StepRiders$Row" "length" "I"] ++ wsX10)
def wsX1_cut : List Cond := .code yX1_cut cX1_cut 2 (some .int) :: ([.fieldLink RX1 19 "StepRiders$Row" "width" "I"] ++ wsX10)
def wsX2_empty : List Cond := .code yX2_empty cX2_empty 2 none :: ([.fieldLink RX2 9 "StepRiders$Stair" "steps" "I", .fieldLink RX2 15 "StepRiders$Stair" "speed" "I", .fieldLink RX2 18 "StepRiders$Stair" "tick" "I", .fieldLink RX2 21 "StepRiders$Stair" "riders" "I", .fieldLink RX2 31 "StepRiders$Stair" "at" "[I"] ++ wsX20)
def wsX2_isOn : List Cond := .code yX2_isOn cX2_isOn 2 (some .boolean) :: ([.fieldLink RX2 31 "StepRiders$Stair" "at" "[I", .fieldLink RX2 9 "StepRiders$Stair" "steps" "I"] ++ wsX20)
def wsX2_takesBoth : List Cond := .code yX2_takesBoth cX2_takesBoth 2 (some .boolean) :: ([.fieldLink RX2 24 "StepRiders$Stair" "kind" "[I"] ++ wsX20)
def wsX2_isFree : List Cond := .code yX2_isFree cX2_isFree 5 (some .boolean) :: ([.fieldLink RX2 24 "StepRiders$Stair" "kind" "[I", .fieldLink RX2 21 "StepRiders$Stair" "riders" "I", .fieldLink RX2 31 "StepRiders$Stair" "at" "[I", .fieldLink RX2 28 "StepRiders$Stair" "lane" "[I"] ++ wsX20)
def wsX2_mayGo : List Cond := .code yX2_mayGo cX2_mayGo 3 (some .boolean) :: ([.fieldLink RX2 9 "StepRiders$Stair" "steps" "I", .methodLink RX2 43 yX2_isFree, .instanceMethod yX2_isFree, .selects RX2 yX2_isFree yX2_isFree, .initialized RX2, .code yX2_isFree cX2_isFree 5 (some .boolean), .fieldLink RX2 24 "StepRiders$Stair" "kind" "[I", .fieldLink RX2 21 "StepRiders$Stair" "riders" "I", .fieldLink RX2 31 "StepRiders$Stair" "at" "[I", .fieldLink RX2 28 "StepRiders$Stair" "lane" "[I"] ++ wsX20)
def wsX2_whoTakes : List Cond := .code yX2_whoTakes cX2_whoTakes 5 (some .int) :: ([.fieldLink RX2 21 "StepRiders$Stair" "riders" "I", .fieldLink RX2 31 "StepRiders$Stair" "at" "[I", .fieldLink RX2 28 "StepRiders$Stair" "lane" "[I", .methodLink RX2 51 yX2_takesBoth, .instanceMethod yX2_takesBoth, .selects RX2 yX2_takesBoth yX2_takesBoth, .initialized RX2, .code yX2_takesBoth cX2_takesBoth 2 (some .boolean), .fieldLink RX2 24 "StepRiders$Stair" "kind" "[I"] ++ wsX20)
def wsX2_mayCross : List Cond := .code yX2_mayCross cX2_mayCross 2 (some .boolean) :: ([.fieldLink RX2 31 "StepRiders$Stair" "at" "[I", .fieldLink RX2 28 "StepRiders$Stair" "lane" "[I", .methodLink RX2 47 yX2_isOn, .instanceMethod yX2_isOn, .selects RX2 yX2_isOn yX2_isOn, .initialized RX2, .code yX2_isOn cX2_isOn 2 (some .boolean), .fieldLink RX2 9 "StepRiders$Stair" "steps" "I", .methodLink RX2 51 yX2_takesBoth, .instanceMethod yX2_takesBoth, .selects RX2 yX2_takesBoth yX2_takesBoth, .code yX2_takesBoth cX2_takesBoth 2 (some .boolean), .fieldLink RX2 24 "StepRiders$Stair" "kind" "[I", .methodLink RX2 54 yX2_whoTakes, .instanceMethod yX2_whoTakes, .selects RX2 yX2_whoTakes yX2_whoTakes, .code yX2_whoTakes cX2_whoTakes 5 (some .int), .fieldLink RX2 21 "StepRiders$Stair" "riders" "I"] ++ wsX20)
def wsX2_whoIsAt : List Cond := .code yX2_whoIsAt cX2_whoIsAt 4 (some .int) :: ([.fieldLink RX2 21 "StepRiders$Stair" "riders" "I", .fieldLink RX2 31 "StepRiders$Stair" "at" "[I"] ++ wsX20)
def wsJ6_bitCount_0f7a4 : List Cond := .code yJ6_bitCount_0f7a4 cJ6_bitCount_0f7a4 1 (some .int) :: ([.constant RJ6 265 (1431655765), .constant RJ6 266 (858993459), .constant RJ6 267 (252645135)])
def wsX2_howManyAt : List Cond := .code yX2_howManyAt cX2_howManyAt 2 (some .int) :: ([.methodLink RX2 58 yX2_whoIsAt, .instanceMethod yX2_whoIsAt, .selects RX2 yX2_whoIsAt yX2_whoIsAt, .initialized RX2, .code yX2_whoIsAt cX2_whoIsAt 4 (some .int), .fieldLink RX2 21 "StepRiders$Stair" "riders" "I", .fieldLink RX2 31 "StepRiders$Stair" "at" "[I", .methodLink RX2 62 yJ6_bitCount_0f7a4, .static yJ6_bitCount_0f7a4, .initialized RJ6, .code yJ6_bitCount_0f7a4 cJ6_bitCount_0f7a4 1 (some .int), .constant RJ6 265 (1431655765), .constant RJ6 266 (858993459), .constant RJ6 267 (252645135)] ++ wsX20)
def wsX2_stepsTaken : List Cond := .code yX2_stepsTaken cX2_stepsTaken 3 (some .int) :: ([.fieldLink RX2 21 "StepRiders$Stair" "riders" "I", .fieldLink RX2 31 "StepRiders$Stair" "at" "[I", .methodLink RX2 47 yX2_isOn, .instanceMethod yX2_isOn, .selects RX2 yX2_isOn yX2_isOn, .initialized RX2, .code yX2_isOn cX2_isOn 2 (some .boolean), .fieldLink RX2 9 "StepRiders$Stair" "steps" "I"] ++ wsX20)
def wsX2_isClear : List Cond := .code yX2_isClear cX2_isClear 1 (some .boolean) :: ([.fieldLink RX2 21 "StepRiders$Stair" "riders" "I", .methodLink RX2 67 yX2_howManyAt, .instanceMethod yX2_howManyAt, .selects RX2 yX2_howManyAt yX2_howManyAt, .initialized RX2, .code yX2_howManyAt cX2_howManyAt 2 (some .int), .methodLink RX2 58 yX2_whoIsAt, .instanceMethod yX2_whoIsAt, .selects RX2 yX2_whoIsAt yX2_whoIsAt, .code yX2_whoIsAt cX2_whoIsAt 4 (some .int), .fieldLink RX2 31 "StepRiders$Stair" "at" "[I", .methodLink RX2 62 yJ6_bitCount_0f7a4, .static yJ6_bitCount_0f7a4, .initialized RJ6, .code yJ6_bitCount_0f7a4 cJ6_bitCount_0f7a4 1 (some .int), .constant RJ6 265 (1431655765), .constant RJ6 266 (858993459), .constant RJ6 267 (252645135)] ++ wsX20)
def wsX2_sendBack : List Cond := .code yX2_sendBack cX2_sendBack 3 none :: ([.fieldLink RX2 31 "StepRiders$Stair" "at" "[I", .fieldLink RX2 28 "StepRiders$Stair" "lane" "[I"] ++ wsX20)
def wsX2_putInLanes : List Cond := .code yX2_putInLanes cX2_putInLanes 4 none :: ([.fieldLink RX2 21 "StepRiders$Stair" "riders" "I", .fieldLink RX2 28 "StepRiders$Stair" "lane" "[I"] ++ wsX20)
def wsX2_takeOff : List Cond := .code yX2_takeOff cX2_takeOff 3 none :: ([.fieldLink RX2 21 "StepRiders$Stair" "riders" "I", .fieldLink RX2 31 "StepRiders$Stair" "at" "[I"] ++ wsX20)
def wsX2_draw : List Cond := .code yX2_draw cX2_draw 2 none :: ([.fieldLink RX2 21 "StepRiders$Stair" "riders" "I", .fieldLink RX2 15 "StepRiders$Stair" "speed" "I", .fieldLink RX2 31 "StepRiders$Stair" "at" "[I", .methodLink RX2 70 yX2_sendBack, .instanceMethod yX2_sendBack, .selects RX2 yX2_sendBack yX2_sendBack, .initialized RX2, .code yX2_sendBack cX2_sendBack 3 none, .fieldLink RX2 28 "StepRiders$Stair" "lane" "[I"] ++ wsX20)
def wsX2_goes : List Cond := .code yX2_goes cX2_goes 3 (some .boolean) :: ([.fieldLink RX2 24 "StepRiders$Stair" "kind" "[I", .fieldLink RX2 18 "StepRiders$Stair" "tick" "I", .methodLink RX2 47 yX2_isOn, .instanceMethod yX2_isOn, .selects RX2 yX2_isOn yX2_isOn, .initialized RX2, .code yX2_isOn cX2_isOn 2 (some .boolean), .fieldLink RX2 31 "StepRiders$Stair" "at" "[I", .fieldLink RX2 9 "StepRiders$Stair" "steps" "I"] ++ wsX20)
def wsX2_giveTurns : List Cond := .code yX2_giveTurns cX2_giveTurns 2 none :: ([.fieldLink RX2 21 "StepRiders$Stair" "riders" "I", .fieldLink RX2 34 "StepRiders$Stair" "turn" "[I", .fieldLink RX2 31 "StepRiders$Stair" "at" "[I", .fieldLink RX2 28 "StepRiders$Stair" "lane" "[I", .methodLink RX2 92 yX2_goes, .instanceMethod yX2_goes, .selects RX2 yX2_goes yX2_goes, .initialized RX2, .code yX2_goes cX2_goes 3 (some .boolean), .fieldLink RX2 24 "StepRiders$Stair" "kind" "[I", .fieldLink RX2 18 "StepRiders$Stair" "tick" "I", .methodLink RX2 47 yX2_isOn, .instanceMethod yX2_isOn, .selects RX2 yX2_isOn yX2_isOn, .code yX2_isOn cX2_isOn 2 (some .boolean), .fieldLink RX2 9 "StepRiders$Stair" "steps" "I"] ++ wsX20)
def wsX2_nextInTurn : List Cond := .code yX2_nextInTurn cX2_nextInTurn 4 (some .int) :: ([.constant RX2 81 (-1000000), .fieldLink RX2 21 "StepRiders$Stair" "riders" "I", .fieldLink RX2 34 "StepRiders$Stair" "turn" "[I"] ++ wsX20)
def wsX2_go : List Cond := .code yX2_go cX2_go 5 none :: ([.fieldLink RX2 24 "StepRiders$Stair" "kind" "[I", .fieldLink RX2 31 "StepRiders$Stair" "at" "[I", .methodLink RX2 95 yX2_mayGo, .instanceMethod yX2_mayGo, .selects RX2 yX2_mayGo yX2_mayGo, .initialized RX2, .code yX2_mayGo cX2_mayGo 3 (some .boolean), .fieldLink RX2 9 "StepRiders$Stair" "steps" "I", .methodLink RX2 43 yX2_isFree, .instanceMethod yX2_isFree, .selects RX2 yX2_isFree yX2_isFree, .code yX2_isFree cX2_isFree 5 (some .boolean), .fieldLink RX2 21 "StepRiders$Stair" "riders" "I", .fieldLink RX2 28 "StepRiders$Stair" "lane" "[I"] ++ wsX20)
def wsX2_carry : List Cond := .code yX2_carry cX2_carry 3 (some .int) :: ([.fieldLink RX2 21 "StepRiders$Stair" "riders" "I", .fieldLink RX2 31 "StepRiders$Stair" "at" "[I", .fieldLink RX2 15 "StepRiders$Stair" "speed" "I", .fieldLink RX2 9 "StepRiders$Stair" "steps" "I", .methodLink RX2 47 yX2_isOn, .instanceMethod yX2_isOn, .selects RX2 yX2_isOn yX2_isOn, .initialized RX2, .code yX2_isOn cX2_isOn 2 (some .boolean)] ++ wsX20)
def wsX2_letOneOn : List Cond := .code yX2_letOneOn cX2_letOneOn 2 none :: ([.fieldLink RX2 21 "StepRiders$Stair" "riders" "I", .fieldLink RX2 31 "StepRiders$Stair" "at" "[I", .methodLink RX2 43 yX2_isFree, .instanceMethod yX2_isFree, .selects RX2 yX2_isFree yX2_isFree, .initialized RX2, .code yX2_isFree cX2_isFree 5 (some .boolean), .fieldLink RX2 24 "StepRiders$Stair" "kind" "[I", .fieldLink RX2 28 "StepRiders$Stair" "lane" "[I"] ++ wsX20)
def wsX2_pass_r1 : List Cond := [Cond.fieldLink RX2 21 "StepRiders$Stair" "riders" "I", Cond.constant RX2 81 (-1000000), Cond.fieldLink RX2 34 "StepRiders$Stair" "turn" "[I", Cond.fieldLink RX2 18 "StepRiders$Stair" "tick" "I", Cond.methodLink RX2 74 yX2_giveTurns, Cond.instanceMethod yX2_giveTurns, Cond.selects RX2 yX2_giveTurns yX2_giveTurns, Cond.initialized RX2, Cond.code yX2_giveTurns cX2_giveTurns 2 none, Cond.fieldLink RX2 31 "StepRiders$Stair" "at" "[I", Cond.fieldLink RX2 28 "StepRiders$Stair" "lane" "[I", Cond.methodLink RX2 92 yX2_goes, Cond.instanceMethod yX2_goes, Cond.selects RX2 yX2_goes yX2_goes, Cond.code yX2_goes cX2_goes 3 (some .boolean), Cond.fieldLink RX2 24 "StepRiders$Stair" "kind" "[I", Cond.methodLink RX2 47 yX2_isOn, Cond.instanceMethod yX2_isOn, Cond.selects RX2 yX2_isOn yX2_isOn, Cond.code yX2_isOn cX2_isOn 2 (some .boolean), Cond.fieldLink RX2 9 "StepRiders$Stair" "steps" "I", Cond.methodLink RX2 77 yX2_nextInTurn, Cond.instanceMethod yX2_nextInTurn, Cond.selects RX2 yX2_nextInTurn yX2_nextInTurn]
def wsX2_pass_r2 : List Cond := [Cond.code yX2_nextInTurn cX2_nextInTurn 4 (some .int), Cond.methodLink RX2 82 yX2_go, Cond.instanceMethod yX2_go, Cond.selects RX2 yX2_go yX2_go, Cond.code yX2_go cX2_go 5 none, Cond.methodLink RX2 95 yX2_mayGo, Cond.instanceMethod yX2_mayGo, Cond.selects RX2 yX2_mayGo yX2_mayGo, Cond.code yX2_mayGo cX2_mayGo 3 (some .boolean), Cond.methodLink RX2 43 yX2_isFree, Cond.instanceMethod yX2_isFree, Cond.selects RX2 yX2_isFree yX2_isFree, Cond.code yX2_isFree cX2_isFree 5 (some .boolean), Cond.methodLink RX2 86 yX2_carry, Cond.instanceMethod yX2_carry, Cond.selects RX2 yX2_carry yX2_carry, Cond.code yX2_carry cX2_carry 3 (some .int), Cond.fieldLink RX2 15 "StepRiders$Stair" "speed" "I", Cond.methodLink RX2 89 yX2_letOneOn, Cond.instanceMethod yX2_letOneOn, Cond.selects RX2 yX2_letOneOn yX2_letOneOn, Cond.code yX2_letOneOn cX2_letOneOn 2 none]
def wsX2_pass : List Cond := .code yX2_pass cX2_pass 3 (some .int) :: ((wsX2_pass_r1 ++ wsX2_pass_r2) ++ wsX20)
def wsX2_nobodyGoesOff : List Cond := .code yX2_nobodyGoesOff cX2_nobodyGoesOff 1 (some .boolean) :: ([.fieldLink RX2 15 "StepRiders$Stair" "speed" "I"] ++ wsX20)
def wsX2_passUntilOff_r1 : List Cond := [Cond.fieldLink RX2 31 "StepRiders$Stair" "at" "[I", Cond.constant RX2 81 (-1000000), Cond.methodLink RX2 98 yX2_nobodyGoesOff, Cond.instanceMethod yX2_nobodyGoesOff, Cond.selects RX2 yX2_nobodyGoesOff yX2_nobodyGoesOff, Cond.initialized RX2, Cond.code yX2_nobodyGoesOff cX2_nobodyGoesOff 1 (some .boolean), Cond.fieldLink RX2 15 "StepRiders$Stair" "speed" "I", Cond.methodLink RX2 102 yX2_pass, Cond.instanceMethod yX2_pass, Cond.selects RX2 yX2_pass yX2_pass, Cond.code yX2_pass cX2_pass 3 (some .int), Cond.fieldLink RX2 21 "StepRiders$Stair" "riders" "I", Cond.fieldLink RX2 34 "StepRiders$Stair" "turn" "[I", Cond.fieldLink RX2 18 "StepRiders$Stair" "tick" "I", Cond.methodLink RX2 74 yX2_giveTurns, Cond.instanceMethod yX2_giveTurns, Cond.selects RX2 yX2_giveTurns yX2_giveTurns, Cond.code yX2_giveTurns cX2_giveTurns 2 none, Cond.fieldLink RX2 28 "StepRiders$Stair" "lane" "[I", Cond.methodLink RX2 92 yX2_goes, Cond.instanceMethod yX2_goes, Cond.selects RX2 yX2_goes yX2_goes, Cond.code yX2_goes cX2_goes 3 (some .boolean)]
def wsX2_passUntilOff_r2 : List Cond := [Cond.fieldLink RX2 24 "StepRiders$Stair" "kind" "[I", Cond.methodLink RX2 47 yX2_isOn, Cond.instanceMethod yX2_isOn, Cond.selects RX2 yX2_isOn yX2_isOn, Cond.code yX2_isOn cX2_isOn 2 (some .boolean), Cond.fieldLink RX2 9 "StepRiders$Stair" "steps" "I", Cond.methodLink RX2 77 yX2_nextInTurn, Cond.instanceMethod yX2_nextInTurn, Cond.selects RX2 yX2_nextInTurn yX2_nextInTurn, Cond.code yX2_nextInTurn cX2_nextInTurn 4 (some .int), Cond.methodLink RX2 82 yX2_go, Cond.instanceMethod yX2_go, Cond.selects RX2 yX2_go yX2_go, Cond.code yX2_go cX2_go 5 none, Cond.methodLink RX2 95 yX2_mayGo, Cond.instanceMethod yX2_mayGo, Cond.selects RX2 yX2_mayGo yX2_mayGo, Cond.code yX2_mayGo cX2_mayGo 3 (some .boolean), Cond.methodLink RX2 43 yX2_isFree, Cond.instanceMethod yX2_isFree, Cond.selects RX2 yX2_isFree yX2_isFree, Cond.code yX2_isFree cX2_isFree 5 (some .boolean), Cond.methodLink RX2 86 yX2_carry, Cond.instanceMethod yX2_carry]
def wsX2_passUntilOff_r3 : List Cond := [Cond.selects RX2 yX2_carry yX2_carry, Cond.code yX2_carry cX2_carry 3 (some .int), Cond.methodLink RX2 89 yX2_letOneOn, Cond.instanceMethod yX2_letOneOn, Cond.selects RX2 yX2_letOneOn yX2_letOneOn, Cond.code yX2_letOneOn cX2_letOneOn 2 none]
def wsX2_passUntilOff : List Cond := .code yX2_passUntilOff cX2_passUntilOff 4 (some .int) :: ((wsX2_passUntilOff_r1 ++ (wsX2_passUntilOff_r2 ++ wsX2_passUntilOff_r3)) ++ wsX20)
def wsX2_passUntilClear_r1 : List Cond := [Cond.constant RX2 81 (-1000000), Cond.methodLink RX2 105 yX2_isClear, Cond.instanceMethod yX2_isClear, Cond.selects RX2 yX2_isClear yX2_isClear, Cond.initialized RX2, Cond.code yX2_isClear cX2_isClear 1 (some .boolean), Cond.fieldLink RX2 21 "StepRiders$Stair" "riders" "I", Cond.methodLink RX2 67 yX2_howManyAt, Cond.instanceMethod yX2_howManyAt, Cond.selects RX2 yX2_howManyAt yX2_howManyAt, Cond.code yX2_howManyAt cX2_howManyAt 2 (some .int), Cond.methodLink RX2 58 yX2_whoIsAt, Cond.instanceMethod yX2_whoIsAt, Cond.selects RX2 yX2_whoIsAt yX2_whoIsAt, Cond.code yX2_whoIsAt cX2_whoIsAt 4 (some .int), Cond.fieldLink RX2 31 "StepRiders$Stair" "at" "[I", Cond.methodLink RX2 62 yJ6_bitCount_0f7a4, Cond.static yJ6_bitCount_0f7a4, Cond.initialized RJ6, Cond.code yJ6_bitCount_0f7a4 cJ6_bitCount_0f7a4 1 (some .int), Cond.constant RJ6 265 (1431655765), Cond.constant RJ6 266 (858993459), Cond.constant RJ6 267 (252645135), Cond.methodLink RX2 98 yX2_nobodyGoesOff]
def wsX2_passUntilClear_r2 : List Cond := [Cond.instanceMethod yX2_nobodyGoesOff, Cond.selects RX2 yX2_nobodyGoesOff yX2_nobodyGoesOff, Cond.code yX2_nobodyGoesOff cX2_nobodyGoesOff 1 (some .boolean), Cond.fieldLink RX2 15 "StepRiders$Stair" "speed" "I", Cond.methodLink RX2 102 yX2_pass, Cond.instanceMethod yX2_pass, Cond.selects RX2 yX2_pass yX2_pass, Cond.code yX2_pass cX2_pass 3 (some .int), Cond.fieldLink RX2 34 "StepRiders$Stair" "turn" "[I", Cond.fieldLink RX2 18 "StepRiders$Stair" "tick" "I", Cond.methodLink RX2 74 yX2_giveTurns, Cond.instanceMethod yX2_giveTurns, Cond.selects RX2 yX2_giveTurns yX2_giveTurns, Cond.code yX2_giveTurns cX2_giveTurns 2 none, Cond.fieldLink RX2 28 "StepRiders$Stair" "lane" "[I", Cond.methodLink RX2 92 yX2_goes, Cond.instanceMethod yX2_goes, Cond.selects RX2 yX2_goes yX2_goes, Cond.code yX2_goes cX2_goes 3 (some .boolean), Cond.fieldLink RX2 24 "StepRiders$Stair" "kind" "[I", Cond.methodLink RX2 47 yX2_isOn, Cond.instanceMethod yX2_isOn, Cond.selects RX2 yX2_isOn yX2_isOn, Cond.code yX2_isOn cX2_isOn 2 (some .boolean)]
def wsX2_passUntilClear_r3 : List Cond := [Cond.fieldLink RX2 9 "StepRiders$Stair" "steps" "I", Cond.methodLink RX2 77 yX2_nextInTurn, Cond.instanceMethod yX2_nextInTurn, Cond.selects RX2 yX2_nextInTurn yX2_nextInTurn, Cond.code yX2_nextInTurn cX2_nextInTurn 4 (some .int), Cond.methodLink RX2 82 yX2_go, Cond.instanceMethod yX2_go, Cond.selects RX2 yX2_go yX2_go, Cond.code yX2_go cX2_go 5 none, Cond.methodLink RX2 95 yX2_mayGo, Cond.instanceMethod yX2_mayGo, Cond.selects RX2 yX2_mayGo yX2_mayGo, Cond.code yX2_mayGo cX2_mayGo 3 (some .boolean), Cond.methodLink RX2 43 yX2_isFree, Cond.instanceMethod yX2_isFree, Cond.selects RX2 yX2_isFree yX2_isFree, Cond.code yX2_isFree cX2_isFree 5 (some .boolean), Cond.methodLink RX2 86 yX2_carry, Cond.instanceMethod yX2_carry, Cond.selects RX2 yX2_carry yX2_carry, Cond.code yX2_carry cX2_carry 3 (some .int), Cond.methodLink RX2 89 yX2_letOneOn, Cond.instanceMethod yX2_letOneOn, Cond.selects RX2 yX2_letOneOn yX2_letOneOn]
def wsX2_passUntilClear_r4 : List Cond := [Cond.code yX2_letOneOn cX2_letOneOn 2 none]
def wsX2_passUntilClear : List Cond := .code yX2_passUntilClear cX2_passUntilClear 3 (some .int) :: ((wsX2_passUntilClear_r1 ++ (wsX2_passUntilClear_r2 ++ (wsX2_passUntilClear_r3 ++ wsX2_passUntilClear_r4))) ++ wsX20)
def wsX3_init : List Cond := .code yX3_init cX3_init 1 none :: ([.methodLink RX3 3 objectInit, .instanceMethod objectInit, .code objectInit ⟨#[0xb1]⟩ 1 none, .arrayClass .int, .fieldLink RX3 9 "StepRiders$Tape" "bytes" "[I", .fieldLink RX3 15 "StepRiders$Tape" "length" "I", .fieldLink RX3 19 "StepRiders$Tape" "fault" "I"] ++ wsX30)
def wsX3_append : List Cond := .code yX3_append cX3_append 2 none :: ([.fieldLink RX3 15 "StepRiders$Tape" "length" "I", .fieldLink RX3 9 "StepRiders$Tape" "bytes" "[I"] ++ wsX30)
def wsX3_isFigure : List Cond := .code yX3_isFigure cX3_isFigure 2 (some .boolean) :: ([.fieldLink RX3 15 "StepRiders$Tape" "length" "I", .fieldLink RX3 9 "StepRiders$Tape" "bytes" "[I"] ++ wsX30)
def wsX3_widthOfToken : List Cond := .code yX3_widthOfToken cX3_widthOfToken 4 (some .int) :: ([.fieldLink RX3 9 "StepRiders$Tape" "bytes" "[I", .methodLink RX3 39 yX3_isFigure, .instanceMethod yX3_isFigure, .selects RX3 yX3_isFigure yX3_isFigure, .initialized RX3, .code yX3_isFigure cX3_isFigure 2 (some .boolean), .fieldLink RX3 15 "StepRiders$Tape" "length" "I"] ++ wsX30)
def wsX3_acceptSign : List Cond := .code yX3_acceptSign cX3_acceptSign 3 (some .int) :: ([.fieldLink RX3 9 "StepRiders$Tape" "bytes" "[I"] ++ wsX30)
def wsX3_numberAt : List Cond := .code yX3_numberAt cX3_numberAt 4 (some .int) :: ([.constant RX3 38 (-1000000), .fieldLink RX3 9 "StepRiders$Tape" "bytes" "[I", .methodLink RX3 39 yX3_isFigure, .instanceMethod yX3_isFigure, .selects RX3 yX3_isFigure yX3_isFigure, .initialized RX3, .code yX3_isFigure cX3_isFigure 2 (some .boolean), .fieldLink RX3 15 "StepRiders$Tape" "length" "I"] ++ wsX30)
def wsX5_outside : List Cond := .code yX5_outside cX5_outside 3 (some .boolean) :: ([])
def wsX3_faultOfNumber : List Cond := .code yX3_faultOfNumber cX3_faultOfNumber 4 (some .int) :: ([.constant RX3 38 (-1000000), .static yX5_outside, .initialized RX5, .code yX5_outside cX5_outside 3 (some .boolean)])
def wsX3_kindOf : List Cond := .code yX3_kindOf cX3_kindOf 2 (some .int) :: ([.constant RX3 38 (-1000000)])
def wsX3_acceptSort : List Cond := .code yX3_acceptSort cX3_acceptSort 4 (some .int) :: ([.fieldLink RX3 9 "StepRiders$Tape" "bytes" "[I", .constant RX3 38 (-1000000), .fieldLink RX3 35 "StepRiders$Stair" "riders" "I", .fieldLink RX3 70 "StepRiders$Stair" "kind" "[I", .methodLink RX3 67 yX3_kindOf, .instanceMethod yX3_kindOf, .selects RX3 yX3_kindOf yX3_kindOf, .initialized RX3, .code yX3_kindOf cX3_kindOf 2 (some .int)] ++ wsX30 ++ wsX20)
def wsX3_acceptLane : List Cond := .code yX3_acceptLane cX3_acceptLane 4 (some .int) :: ([.fieldLink RX3 35 "StepRiders$Stair" "riders" "I", .fieldLink RX3 73 "StepRiders$Stair" "lane" "[I", .methodLink RX3 53 yX3_faultOfNumber, .instanceMethod yX3_faultOfNumber, .selects RX3 yX3_faultOfNumber yX3_faultOfNumber, .initialized RX3, .code yX3_faultOfNumber cX3_faultOfNumber 4 (some .int), .constant RX3 38 (-1000000), .static yX5_outside, .initialized RX5, .code yX5_outside cX5_outside 3 (some .boolean)] ++ wsX20)
def wsX3_accept_r1 : List Cond := [Cond.fieldLink RX3 50 "StepRiders$Stair" "steps" "I", Cond.fieldLink RX3 57 "StepRiders$Stair" "speed" "I", Cond.methodLink RX3 43 yX3_acceptSign, Cond.instanceMethod yX3_acceptSign, Cond.selects RX3 yX3_acceptSign yX3_acceptSign, Cond.initialized RX3, Cond.code yX3_acceptSign cX3_acceptSign 3 (some .int), Cond.fieldLink RX3 9 "StepRiders$Tape" "bytes" "[I", Cond.methodLink RX3 47 yX3_numberAt, Cond.instanceMethod yX3_numberAt, Cond.selects RX3 yX3_numberAt yX3_numberAt, Cond.code yX3_numberAt cX3_numberAt 4 (some .int), Cond.constant RX3 38 (-1000000), Cond.methodLink RX3 39 yX3_isFigure, Cond.instanceMethod yX3_isFigure, Cond.selects RX3 yX3_isFigure yX3_isFigure, Cond.code yX3_isFigure cX3_isFigure 2 (some .boolean), Cond.fieldLink RX3 15 "StepRiders$Tape" "length" "I", Cond.methodLink RX3 53 yX3_faultOfNumber, Cond.instanceMethod yX3_faultOfNumber, Cond.selects RX3 yX3_faultOfNumber yX3_faultOfNumber, Cond.code yX3_faultOfNumber cX3_faultOfNumber 4 (some .int), Cond.static yX5_outside, Cond.initialized RX5]
def wsX3_accept_r2 : List Cond := [Cond.code yX5_outside cX5_outside 3 (some .boolean), Cond.methodLink RX3 60 yX3_acceptSort, Cond.instanceMethod yX3_acceptSort, Cond.selects RX3 yX3_acceptSort yX3_acceptSort, Cond.code yX3_acceptSort cX3_acceptSort 4 (some .int), Cond.fieldLink RX3 35 "StepRiders$Stair" "riders" "I", Cond.fieldLink RX3 70 "StepRiders$Stair" "kind" "[I", Cond.methodLink RX3 67 yX3_kindOf, Cond.instanceMethod yX3_kindOf, Cond.selects RX3 yX3_kindOf yX3_kindOf, Cond.code yX3_kindOf cX3_kindOf 2 (some .int), Cond.methodLink RX3 64 yX3_acceptLane, Cond.instanceMethod yX3_acceptLane, Cond.selects RX3 yX3_acceptLane yX3_acceptLane, Cond.code yX3_acceptLane cX3_acceptLane 4 (some .int), Cond.fieldLink RX3 73 "StepRiders$Stair" "lane" "[I"]
def wsX3_accept : List Cond := .code yX3_accept cX3_accept 5 (some .int) :: ((wsX3_accept_r1 ++ wsX3_accept_r2) ++ wsX20 ++ wsX30)
def wsX3_readInto_r1 : List Cond := [Cond.fieldLink RX3 15 "StepRiders$Tape" "length" "I", Cond.fieldLink RX3 19 "StepRiders$Tape" "fault" "I", Cond.fieldLink RX3 35 "StepRiders$Stair" "riders" "I", Cond.constant RX3 38 (-1000000), Cond.methodLink RX3 22 yX2_empty, Cond.instanceMethod yX2_empty, Cond.selects RX2 yX2_empty yX2_empty, Cond.initialized RX2, Cond.code yX2_empty cX2_empty 2 none, Cond.fieldLink RX2 9 "StepRiders$Stair" "steps" "I", Cond.fieldLink RX2 15 "StepRiders$Stair" "speed" "I", Cond.fieldLink RX2 18 "StepRiders$Stair" "tick" "I", Cond.fieldLink RX2 21 "StepRiders$Stair" "riders" "I", Cond.fieldLink RX2 31 "StepRiders$Stair" "at" "[I", Cond.methodLink RX3 27 yX3_widthOfToken, Cond.instanceMethod yX3_widthOfToken, Cond.selects RX3 yX3_widthOfToken yX3_widthOfToken, Cond.initialized RX3, Cond.code yX3_widthOfToken cX3_widthOfToken 4 (some .int), Cond.fieldLink RX3 9 "StepRiders$Tape" "bytes" "[I", Cond.methodLink RX3 39 yX3_isFigure, Cond.instanceMethod yX3_isFigure, Cond.selects RX3 yX3_isFigure yX3_isFigure, Cond.code yX3_isFigure cX3_isFigure 2 (some .boolean)]
def wsX3_readInto_r2 : List Cond := [Cond.methodLink RX3 31 yX3_accept, Cond.instanceMethod yX3_accept, Cond.selects RX3 yX3_accept yX3_accept, Cond.code yX3_accept cX3_accept 5 (some .int), Cond.fieldLink RX3 50 "StepRiders$Stair" "steps" "I", Cond.fieldLink RX3 57 "StepRiders$Stair" "speed" "I", Cond.methodLink RX3 43 yX3_acceptSign, Cond.instanceMethod yX3_acceptSign, Cond.selects RX3 yX3_acceptSign yX3_acceptSign, Cond.code yX3_acceptSign cX3_acceptSign 3 (some .int), Cond.methodLink RX3 47 yX3_numberAt, Cond.instanceMethod yX3_numberAt, Cond.selects RX3 yX3_numberAt yX3_numberAt, Cond.code yX3_numberAt cX3_numberAt 4 (some .int), Cond.methodLink RX3 53 yX3_faultOfNumber, Cond.instanceMethod yX3_faultOfNumber, Cond.selects RX3 yX3_faultOfNumber yX3_faultOfNumber, Cond.code yX3_faultOfNumber cX3_faultOfNumber 4 (some .int), Cond.static yX5_outside, Cond.initialized RX5, Cond.code yX5_outside cX5_outside 3 (some .boolean), Cond.methodLink RX3 60 yX3_acceptSort, Cond.instanceMethod yX3_acceptSort, Cond.selects RX3 yX3_acceptSort yX3_acceptSort]
def wsX3_readInto_r3 : List Cond := [Cond.code yX3_acceptSort cX3_acceptSort 4 (some .int), Cond.fieldLink RX3 70 "StepRiders$Stair" "kind" "[I", Cond.methodLink RX3 67 yX3_kindOf, Cond.instanceMethod yX3_kindOf, Cond.selects RX3 yX3_kindOf yX3_kindOf, Cond.code yX3_kindOf cX3_kindOf 2 (some .int), Cond.methodLink RX3 64 yX3_acceptLane, Cond.instanceMethod yX3_acceptLane, Cond.selects RX3 yX3_acceptLane yX3_acceptLane, Cond.code yX3_acceptLane cX3_acceptLane 4 (some .int), Cond.fieldLink RX3 73 "StepRiders$Stair" "lane" "[I"]
def wsX3_readInto : List Cond := .code yX3_readInto cX3_readInto 7 (some .int) :: ((wsX3_readInto_r1 ++ (wsX3_readInto_r2 ++ wsX3_readInto_r3)) ++ wsX30 ++ wsX20)
def wsX4_init : List Cond := .code yX4_init cX4_init 1 none :: ([.methodLink RX4 1 objectInit, .instanceMethod objectInit, .code objectInit ⟨#[0xb1]⟩ 1 none, .arrayClass .int, .fieldLink RX4 9 "StepRiders$Trace" "bodies" "[I", .fieldLink RX4 13 "StepRiders$Trace" "length" "I"] ++ wsX40)
def wsX4_leave : List Cond := .code yX4_leave cX4_leave 2 none :: ([.fieldLink RX4 13 "StepRiders$Trace" "length" "I", .fieldLink RX4 9 "StepRiders$Trace" "bodies" "[I"] ++ wsX40)
def wsX5_init_r1 : List Cond := [Cond.methodLink RX5 1 objectInit, Cond.instanceMethod objectInit, Cond.code objectInit ⟨#[0xb1]⟩ 1 none, Cond.classLink RX5 9 RX1, Cond.fieldLink RX5 11 "StepRiders" "rows" "[LStepRiders$Row;", Cond.classLink RX5 15 RX3, Cond.instantiable RX3 3, Cond.initialized RX3, Cond.fieldLink RX5 18 "StepRiders" "tape" "LStepRiders$Tape;", Cond.classLink RX5 22 RX2, Cond.instantiable RX2 8, Cond.initialized RX2, Cond.fieldLink RX5 25 "StepRiders" "now" "LStepRiders$Stair;", Cond.classLink RX5 29 RX0, Cond.instantiable RX0 3, Cond.initialized RX0, Cond.fieldLink RX5 32 "StepRiders" "acts" "LStepRiders$Acts;", Cond.fieldLink RX5 36 "StepRiders" "images" "[LStepRiders$Stair;", Cond.classLink RX5 40 RX4, Cond.instantiable RX4 2, Cond.initialized RX4, Cond.fieldLink RX5 43 "StepRiders" "traced" "LStepRiders$Trace;", Cond.fieldLink RX5 47 "StepRiders" "trial" "LStepRiders$Stair;", Cond.fieldLink RX5 50 "StepRiders" "levels" "[LStepRiders$Stair;"]
def wsX5_init_r2 : List Cond := [Cond.arrayClass .int, Cond.fieldLink RX5 53 "StepRiders" "paces" "[I", Cond.fieldLink RX5 57 "StepRiders" "bestPaces" "[I", Cond.fieldLink RX5 60 "StepRiders" "finding" "I", Cond.instantiable RX1 4, Cond.initialized RX1, Cond.instanceMethod yX3_init, Cond.code yX3_init cX3_init 1 none, Cond.methodLink RX3 3 objectInit, Cond.fieldLink RX3 9 "StepRiders$Tape" "bytes" "[I", Cond.fieldLink RX3 15 "StepRiders$Tape" "length" "I", Cond.fieldLink RX3 19 "StepRiders$Tape" "fault" "I", Cond.instanceMethod yX2_init, Cond.code yX2_init cX2_init 1 none, Cond.methodLink RX2 3 objectInit, Cond.fieldLink RX2 9 "StepRiders$Stair" "steps" "I", Cond.fieldLink RX2 15 "StepRiders$Stair" "speed" "I", Cond.fieldLink RX2 18 "StepRiders$Stair" "tick" "I", Cond.fieldLink RX2 21 "StepRiders$Stair" "riders" "I", Cond.fieldLink RX2 24 "StepRiders$Stair" "kind" "[I", Cond.fieldLink RX2 28 "StepRiders$Stair" "lane" "[I", Cond.fieldLink RX2 31 "StepRiders$Stair" "at" "[I", Cond.fieldLink RX2 34 "StepRiders$Stair" "turn" "[I", Cond.methodLink RX5 31 yX0_init]
def wsX5_init_r3 : List Cond := [Cond.instanceMethod yX0_init, Cond.code yX0_init cX0_init 2 none, Cond.methodLink RX0 3 objectInit, Cond.classLink RX0 9 RX2, Cond.fieldLink RX0 11 "StepRiders$Acts" "before" "[LStepRiders$Stair;", Cond.fieldLink RX0 17 "StepRiders$Acts" "next" "I", Cond.fieldLink RX0 21 "StepRiders$Acts" "kept" "I", Cond.instanceMethod yX4_init, Cond.code yX4_init cX4_init 1 none, Cond.methodLink RX4 1 objectInit, Cond.fieldLink RX4 9 "StepRiders$Trace" "bodies" "[I", Cond.fieldLink RX4 13 "StepRiders$Trace" "length" "I", Cond.instanceMethod yX1_init, Cond.code yX1_init cX1_init 1 none, Cond.methodLink RX1 3 objectInit, Cond.fieldLink RX1 9 "StepRiders$Row" "items" "[I", Cond.fieldLink RX1 15 "StepRiders$Row" "missing" "Z", Cond.fieldLink RX1 19 "StepRiders$Row" "width" "I", Cond.fieldLink RX1 23 "StepRiders$Row" "length" "I"]
def wsX5_init : List Cond := .code yX5_init cX5_init 2 none :: ((wsX5_init_r1 ++ (wsX5_init_r2 ++ wsX5_init_r3)) ++ wsX50 ++ wsX30 ++ wsX20 ++ wsX00 ++ wsX40 ++ wsX10)
def wsX5_noRow : List Cond := .code yX5_noRow cX5_noRow 1 (some .boolean) :: ([.methodLink RX5 69 yX5_outside, .static yX5_outside, .initialized RX5, .code yX5_outside cX5_outside 3 (some .boolean)])
def wsX5_found : List Cond := .code yX5_found cX5_found 2 (some .int) :: ([.fieldLink RX5 60 "StepRiders" "finding" "I", .constant RX5 277 (-1000010)] ++ wsX50)
def wsX5_fine : List Cond := .code yX5_fine cX5_fine 2 (some .int) :: ([.fieldLink RX5 60 "StepRiders" "finding" "I"] ++ wsX50)
def wsX5_row_r1 : List Cond := [Cond.constant RX5 73 (-1000001), Cond.fieldLink RX5 11 "StepRiders" "rows" "[LStepRiders$Row;", Cond.methodLink RX5 65 yX5_noRow, Cond.static yX5_noRow, Cond.initialized RX5, Cond.code yX5_noRow cX5_noRow 1 (some .boolean), Cond.methodLink RX5 69 yX5_outside, Cond.static yX5_outside, Cond.code yX5_outside cX5_outside 3 (some .boolean), Cond.methodLink RX5 74 yX5_found, Cond.instanceMethod yX5_found, Cond.selects RX5 yX5_found yX5_found, Cond.code yX5_found cX5_found 2 (some .int), Cond.fieldLink RX5 60 "StepRiders" "finding" "I", Cond.constant RX5 277 (-1000010), Cond.methodLink RX5 78 yX1_begin, Cond.instanceMethod yX1_begin, Cond.selects RX1 yX1_begin yX1_begin, Cond.initialized RX1, Cond.code yX1_begin cX1_begin 4 none, Cond.fieldLink RX1 15 "StepRiders$Row" "missing" "Z", Cond.fieldLink RX1 19 "StepRiders$Row" "width" "I", Cond.fieldLink RX1 23 "StepRiders$Row" "length" "I", Cond.fieldLink RX1 9 "StepRiders$Row" "items" "[I"]
def wsX5_row_r2 : List Cond := [Cond.methodLink RX5 82 yX5_fine, Cond.instanceMethod yX5_fine, Cond.selects RX5 yX5_fine yX5_fine, Cond.code yX5_fine cX5_fine 2 (some .int)]
def wsX5_row : List Cond := .code yX5_row cX5_row 4 (some .int) :: ((wsX5_row_r1 ++ wsX5_row_r2) ++ wsX50 ++ wsX10)
def wsX5_set_r1 : List Cond := [Cond.constant RX5 73 (-1000001), Cond.fieldLink RX5 11 "StepRiders" "rows" "[LStepRiders$Row;", Cond.fieldLink RX5 85 "StepRiders$Row" "missing" "Z", Cond.fieldLink RX5 93 "StepRiders$Row" "items" "[I", Cond.methodLink RX5 65 yX5_noRow, Cond.static yX5_noRow, Cond.initialized RX5, Cond.code yX5_noRow cX5_noRow 1 (some .boolean), Cond.methodLink RX5 69 yX5_outside, Cond.static yX5_outside, Cond.code yX5_outside cX5_outside 3 (some .boolean), Cond.methodLink RX5 74 yX5_found, Cond.instanceMethod yX5_found, Cond.selects RX5 yX5_found yX5_found, Cond.code yX5_found cX5_found 2 (some .int), Cond.fieldLink RX5 60 "StepRiders" "finding" "I", Cond.constant RX5 277 (-1000010), Cond.methodLink RX5 89 yX1_holds, Cond.instanceMethod yX1_holds, Cond.selects RX1 yX1_holds yX1_holds, Cond.initialized RX1, Cond.code yX1_holds cX1_holds 3 (some .boolean), Cond.fieldLink RX1 23 "StepRiders$Row" "length" "I", Cond.methodLink RX5 96 yX1_cut]
def wsX5_set_r2 : List Cond := [Cond.instanceMethod yX1_cut, Cond.selects RX1 yX1_cut yX1_cut, Cond.code yX1_cut cX1_cut 2 (some .int), Cond.fieldLink RX1 19 "StepRiders$Row" "width" "I", Cond.methodLink RX5 82 yX5_fine, Cond.instanceMethod yX5_fine, Cond.selects RX5 yX5_fine yX5_fine, Cond.code yX5_fine cX5_fine 2 (some .int)]
def wsX5_set : List Cond := .code yX5_set cX5_set 5 (some .int) :: ((wsX5_set_r1 ++ wsX5_set_r2) ++ wsX50 ++ wsX10)
def wsX5_copy_r1 : List Cond := [Cond.constant RX5 73 (-1000001), Cond.fieldLink RX5 11 "StepRiders" "rows" "[LStepRiders$Row;", Cond.fieldLink RX5 85 "StepRiders$Row" "missing" "Z", Cond.fieldLink RX5 99 "StepRiders$Row" "width" "I", Cond.fieldLink RX5 93 "StepRiders$Row" "items" "[I", Cond.methodLink RX5 102 arraycopyName, Cond.native arraycopyName, Cond.static arraycopyName, Cond.initialized "java/lang/System", Cond.methodLink RX5 65 yX5_noRow, Cond.static yX5_noRow, Cond.initialized RX5, Cond.code yX5_noRow cX5_noRow 1 (some .boolean), Cond.methodLink RX5 69 yX5_outside, Cond.static yX5_outside, Cond.code yX5_outside cX5_outside 3 (some .boolean), Cond.methodLink RX5 74 yX5_found, Cond.instanceMethod yX5_found, Cond.selects RX5 yX5_found yX5_found, Cond.code yX5_found cX5_found 2 (some .int), Cond.fieldLink RX5 60 "StepRiders" "finding" "I", Cond.constant RX5 277 (-1000010), Cond.methodLink RX5 89 yX1_holds, Cond.instanceMethod yX1_holds]
def wsX5_copy_r2 : List Cond := [Cond.selects RX1 yX1_holds yX1_holds, Cond.initialized RX1, Cond.code yX1_holds cX1_holds 3 (some .boolean), Cond.fieldLink RX1 23 "StepRiders$Row" "length" "I", Cond.methodLink RX5 82 yX5_fine, Cond.instanceMethod yX5_fine, Cond.selects RX5 yX5_fine yX5_fine, Cond.code yX5_fine cX5_fine 2 (some .int)]
def wsX5_copy : List Cond := .code yX5_copy cX5_copy 8 (some .int) :: ((wsX5_copy_r1 ++ wsX5_copy_r2) ++ wsX50 ++ wsX10)
def wsX5_drop : List Cond := .code yX5_drop cX5_drop 2 (some .int) :: ([.constant RX5 73 (-1000001), .fieldLink RX5 11 "StepRiders" "rows" "[LStepRiders$Row;", .fieldLink RX5 85 "StepRiders$Row" "missing" "Z", .fieldLink RX5 108 "StepRiders$Row" "length" "I", .methodLink RX5 65 yX5_noRow, .static yX5_noRow, .initialized RX5, .code yX5_noRow cX5_noRow 1 (some .boolean), .methodLink RX5 69 yX5_outside, .static yX5_outside, .code yX5_outside cX5_outside 3 (some .boolean), .methodLink RX5 74 yX5_found, .instanceMethod yX5_found, .selects RX5 yX5_found yX5_found, .code yX5_found cX5_found 2 (some .int), .fieldLink RX5 60 "StepRiders" "finding" "I", .constant RX5 277 (-1000010), .methodLink RX5 82 yX5_fine, .instanceMethod yX5_fine, .selects RX5 yX5_fine yX5_fine, .code yX5_fine cX5_fine 2 (some .int)] ++ wsX50 ++ wsX10)
def wsX5_feed : List Cond := .code yX5_feed cX5_feed 2 (some .int) :: ([.constant RX5 73 (-1000001), .fieldLink RX5 18 "StepRiders" "tape" "LStepRiders$Tape;", .fieldLink RX5 111 "StepRiders$Tape" "length" "I", .constant RX5 112 (-1000003), .methodLink RX5 69 yX5_outside, .static yX5_outside, .initialized RX5, .code yX5_outside cX5_outside 3 (some .boolean), .methodLink RX5 113 yX3_append, .instanceMethod yX3_append, .selects RX3 yX3_append yX3_append, .initialized RX3, .code yX3_append cX3_append 2 none, .fieldLink RX3 15 "StepRiders$Tape" "length" "I", .fieldLink RX3 9 "StepRiders$Tape" "bytes" "[I"] ++ wsX50 ++ wsX30)
def wsX5_stair_r1 : List Cond := [Cond.fieldLink RX5 18 "StepRiders" "tape" "LStepRiders$Tape;", Cond.fieldLink RX5 47 "StepRiders" "trial" "LStepRiders$Stair;", Cond.fieldLink RX5 111 "StepRiders$Tape" "length" "I", Cond.constant RX5 121 (-1000000), Cond.constant RX5 122 (-1000100), Cond.fieldLink RX5 25 "StepRiders" "now" "LStepRiders$Stair;", Cond.fieldLink RX5 32 "StepRiders" "acts" "LStepRiders$Acts;", Cond.fieldLink RX5 130 "StepRiders$Stair" "riders" "I", Cond.methodLink RX5 117 yX3_readInto, Cond.instanceMethod yX3_readInto, Cond.selects RX3 yX3_readInto yX3_readInto, Cond.initialized RX3, Cond.code yX3_readInto cX3_readInto 7 (some .int), Cond.fieldLink RX3 15 "StepRiders$Tape" "length" "I", Cond.fieldLink RX3 19 "StepRiders$Tape" "fault" "I", Cond.fieldLink RX3 35 "StepRiders$Stair" "riders" "I", Cond.constant RX3 38 (-1000000), Cond.methodLink RX3 22 yX2_empty, Cond.instanceMethod yX2_empty, Cond.selects RX2 yX2_empty yX2_empty, Cond.initialized RX2, Cond.code yX2_empty cX2_empty 2 none, Cond.fieldLink RX2 9 "StepRiders$Stair" "steps" "I", Cond.fieldLink RX2 15 "StepRiders$Stair" "speed" "I"]
def wsX5_stair_r2 : List Cond := [Cond.fieldLink RX2 18 "StepRiders$Stair" "tick" "I", Cond.fieldLink RX2 21 "StepRiders$Stair" "riders" "I", Cond.fieldLink RX2 31 "StepRiders$Stair" "at" "[I", Cond.methodLink RX3 27 yX3_widthOfToken, Cond.instanceMethod yX3_widthOfToken, Cond.selects RX3 yX3_widthOfToken yX3_widthOfToken, Cond.code yX3_widthOfToken cX3_widthOfToken 4 (some .int), Cond.fieldLink RX3 9 "StepRiders$Tape" "bytes" "[I", Cond.methodLink RX3 39 yX3_isFigure, Cond.instanceMethod yX3_isFigure, Cond.selects RX3 yX3_isFigure yX3_isFigure, Cond.code yX3_isFigure cX3_isFigure 2 (some .boolean), Cond.methodLink RX3 31 yX3_accept, Cond.instanceMethod yX3_accept, Cond.selects RX3 yX3_accept yX3_accept, Cond.code yX3_accept cX3_accept 5 (some .int), Cond.fieldLink RX3 50 "StepRiders$Stair" "steps" "I", Cond.fieldLink RX3 57 "StepRiders$Stair" "speed" "I", Cond.methodLink RX3 43 yX3_acceptSign, Cond.instanceMethod yX3_acceptSign, Cond.selects RX3 yX3_acceptSign yX3_acceptSign, Cond.code yX3_acceptSign cX3_acceptSign 3 (some .int), Cond.methodLink RX3 47 yX3_numberAt, Cond.instanceMethod yX3_numberAt]
def wsX5_stair_r3 : List Cond := [Cond.selects RX3 yX3_numberAt yX3_numberAt, Cond.code yX3_numberAt cX3_numberAt 4 (some .int), Cond.methodLink RX3 53 yX3_faultOfNumber, Cond.instanceMethod yX3_faultOfNumber, Cond.selects RX3 yX3_faultOfNumber yX3_faultOfNumber, Cond.code yX3_faultOfNumber cX3_faultOfNumber 4 (some .int), Cond.static yX5_outside, Cond.initialized RX5, Cond.code yX5_outside cX5_outside 3 (some .boolean), Cond.methodLink RX3 60 yX3_acceptSort, Cond.instanceMethod yX3_acceptSort, Cond.selects RX3 yX3_acceptSort yX3_acceptSort, Cond.code yX3_acceptSort cX3_acceptSort 4 (some .int), Cond.fieldLink RX3 70 "StepRiders$Stair" "kind" "[I", Cond.methodLink RX3 67 yX3_kindOf, Cond.instanceMethod yX3_kindOf, Cond.selects RX3 yX3_kindOf yX3_kindOf, Cond.code yX3_kindOf cX3_kindOf 2 (some .int), Cond.methodLink RX3 64 yX3_acceptLane, Cond.instanceMethod yX3_acceptLane, Cond.selects RX3 yX3_acceptLane yX3_acceptLane, Cond.code yX3_acceptLane cX3_acceptLane 4 (some .int), Cond.fieldLink RX3 73 "StepRiders$Stair" "lane" "[I", Cond.methodLink RX5 123 yX2_become]
def wsX5_stair_r4 : List Cond := [Cond.instanceMethod yX2_become, Cond.selects RX2 yX2_become yX2_become, Cond.code yX2_become cX2_become 2 none, Cond.fieldLink RX2 24 "StepRiders$Stair" "kind" "[I", Cond.methodLink RX2 37 arraycopyName, Cond.native arraycopyName, Cond.static arraycopyName, Cond.initialized "java/lang/System", Cond.fieldLink RX2 28 "StepRiders$Stair" "lane" "[I", Cond.methodLink RX5 127 yX0_forgetAll, Cond.instanceMethod yX0_forgetAll, Cond.selects RX0 yX0_forgetAll yX0_forgetAll, Cond.initialized RX0, Cond.code yX0_forgetAll cX0_forgetAll 1 none, Cond.fieldLink RX0 21 "StepRiders$Acts" "kept" "I"]
def wsX5_stair : List Cond := .code yX5_stair cX5_stair 2 (some .int) :: ((wsX5_stair_r1 ++ (wsX5_stair_r2 ++ (wsX5_stair_r3 ++ wsX5_stair_r4))) ++ wsX50 ++ wsX30 ++ wsX20 ++ wsX00)
def wsX5_fault : List Cond := .code yX5_fault cX5_fault 1 (some .int) :: ([.fieldLink RX5 18 "StepRiders" "tape" "LStepRiders$Tape;", .fieldLink RX5 133 "StepRiders$Tape" "fault" "I"] ++ wsX50 ++ wsX30)
def wsX5_noStair : List Cond := .code yX5_noStair cX5_noStair 1 (some .boolean) :: ([.fieldLink RX5 25 "StepRiders" "now" "LStepRiders$Stair;", .fieldLink RX5 130 "StepRiders$Stair" "riders" "I"] ++ wsX50 ++ wsX20)
def wsX5_ticks_r1 : List Cond := [Cond.constant RX5 140 (-1000002), Cond.constant RX5 73 (-1000001), Cond.fieldLink RX5 25 "StepRiders" "now" "LStepRiders$Stair;", Cond.fieldLink RX5 141 "StepRiders$Stair" "tick" "I", Cond.constant RX5 112 (-1000003), Cond.fieldLink RX5 32 "StepRiders" "acts" "LStepRiders$Acts;", Cond.methodLink RX5 136 yX5_noStair, Cond.instanceMethod yX5_noStair, Cond.selects RX5 yX5_noStair yX5_noStair, Cond.initialized RX5, Cond.code yX5_noStair cX5_noStair 1 (some .boolean), Cond.fieldLink RX5 130 "StepRiders$Stair" "riders" "I", Cond.methodLink RX5 69 yX5_outside, Cond.static yX5_outside, Cond.code yX5_outside cX5_outside 3 (some .boolean), Cond.methodLink RX5 144 yX0_keep, Cond.instanceMethod yX0_keep, Cond.selects RX0 yX0_keep yX0_keep, Cond.initialized RX0, Cond.code yX0_keep cX0_keep 2 none, Cond.fieldLink RX0 11 "StepRiders$Acts" "before" "[LStepRiders$Stair;", Cond.fieldLink RX0 17 "StepRiders$Acts" "next" "I", Cond.fieldLink RX0 21 "StepRiders$Acts" "kept" "I", Cond.methodLink RX0 29 Lib.Math.min.name]
def wsX5_ticks_r2 : List Cond := [Cond.static Lib.Math.min.name, Cond.initialized "java/lang/Math", Cond.code Lib.Math.min.name Lib.Math.min.code 2 (some .int), Cond.methodLink RX0 25 yX2_become, Cond.instanceMethod yX2_become, Cond.selects RX2 yX2_become yX2_become, Cond.initialized RX2, Cond.code yX2_become cX2_become 2 none, Cond.fieldLink RX2 9 "StepRiders$Stair" "steps" "I", Cond.fieldLink RX2 15 "StepRiders$Stair" "speed" "I", Cond.fieldLink RX2 18 "StepRiders$Stair" "tick" "I", Cond.fieldLink RX2 21 "StepRiders$Stair" "riders" "I", Cond.fieldLink RX2 24 "StepRiders$Stair" "kind" "[I", Cond.methodLink RX2 37 arraycopyName, Cond.native arraycopyName, Cond.static arraycopyName, Cond.initialized "java/lang/System", Cond.fieldLink RX2 28 "StepRiders$Stair" "lane" "[I", Cond.fieldLink RX2 31 "StepRiders$Stair" "at" "[I", Cond.methodLink RX5 147 yX2_pass, Cond.instanceMethod yX2_pass, Cond.selects RX2 yX2_pass yX2_pass, Cond.code yX2_pass cX2_pass 3 (some .int), Cond.constant RX2 81 (-1000000)]
def wsX5_ticks_r3 : List Cond := [Cond.fieldLink RX2 34 "StepRiders$Stair" "turn" "[I", Cond.methodLink RX2 74 yX2_giveTurns, Cond.instanceMethod yX2_giveTurns, Cond.selects RX2 yX2_giveTurns yX2_giveTurns, Cond.code yX2_giveTurns cX2_giveTurns 2 none, Cond.methodLink RX2 92 yX2_goes, Cond.instanceMethod yX2_goes, Cond.selects RX2 yX2_goes yX2_goes, Cond.code yX2_goes cX2_goes 3 (some .boolean), Cond.methodLink RX2 47 yX2_isOn, Cond.instanceMethod yX2_isOn, Cond.selects RX2 yX2_isOn yX2_isOn, Cond.code yX2_isOn cX2_isOn 2 (some .boolean), Cond.methodLink RX2 77 yX2_nextInTurn, Cond.instanceMethod yX2_nextInTurn, Cond.selects RX2 yX2_nextInTurn yX2_nextInTurn, Cond.code yX2_nextInTurn cX2_nextInTurn 4 (some .int), Cond.methodLink RX2 82 yX2_go, Cond.instanceMethod yX2_go, Cond.selects RX2 yX2_go yX2_go, Cond.code yX2_go cX2_go 5 none, Cond.methodLink RX2 95 yX2_mayGo, Cond.instanceMethod yX2_mayGo, Cond.selects RX2 yX2_mayGo yX2_mayGo]
def wsX5_ticks_r4 : List Cond := [Cond.code yX2_mayGo cX2_mayGo 3 (some .boolean), Cond.methodLink RX2 43 yX2_isFree, Cond.instanceMethod yX2_isFree, Cond.selects RX2 yX2_isFree yX2_isFree, Cond.code yX2_isFree cX2_isFree 5 (some .boolean), Cond.methodLink RX2 86 yX2_carry, Cond.instanceMethod yX2_carry, Cond.selects RX2 yX2_carry yX2_carry, Cond.code yX2_carry cX2_carry 3 (some .int), Cond.methodLink RX2 89 yX2_letOneOn, Cond.instanceMethod yX2_letOneOn, Cond.selects RX2 yX2_letOneOn yX2_letOneOn, Cond.code yX2_letOneOn cX2_letOneOn 2 none, Cond.methodLink RX5 151 yX2_howManyAt, Cond.instanceMethod yX2_howManyAt, Cond.selects RX2 yX2_howManyAt yX2_howManyAt, Cond.code yX2_howManyAt cX2_howManyAt 2 (some .int), Cond.methodLink RX2 58 yX2_whoIsAt, Cond.instanceMethod yX2_whoIsAt, Cond.selects RX2 yX2_whoIsAt yX2_whoIsAt, Cond.code yX2_whoIsAt cX2_whoIsAt 4 (some .int), Cond.methodLink RX2 62 yJ6_bitCount_0f7a4, Cond.static yJ6_bitCount_0f7a4, Cond.initialized RJ6]
def wsX5_ticks_r5 : List Cond := [Cond.code yJ6_bitCount_0f7a4 cJ6_bitCount_0f7a4 1 (some .int), Cond.constant RJ6 265 (1431655765), Cond.constant RJ6 266 (858993459), Cond.constant RJ6 267 (252645135)]
def wsX5_ticks : List Cond := .code yX5_ticks cX5_ticks 3 (some .int) :: ((wsX5_ticks_r1 ++ (wsX5_ticks_r2 ++ (wsX5_ticks_r3 ++ (wsX5_ticks_r4 ++ wsX5_ticks_r5)))) ++ wsX50 ++ wsX20 ++ wsX00)
def wsX5_speed_r1 : List Cond := [Cond.constant RX5 140 (-1000002), Cond.constant RX5 73 (-1000001), Cond.fieldLink RX5 25 "StepRiders" "now" "LStepRiders$Stair;", Cond.fieldLink RX5 154 "StepRiders$Stair" "speed" "I", Cond.fieldLink RX5 32 "StepRiders" "acts" "LStepRiders$Acts;", Cond.methodLink RX5 136 yX5_noStair, Cond.instanceMethod yX5_noStair, Cond.selects RX5 yX5_noStair yX5_noStair, Cond.initialized RX5, Cond.code yX5_noStair cX5_noStair 1 (some .boolean), Cond.fieldLink RX5 130 "StepRiders$Stair" "riders" "I", Cond.methodLink RX5 69 yX5_outside, Cond.static yX5_outside, Cond.code yX5_outside cX5_outside 3 (some .boolean), Cond.methodLink RX5 144 yX0_keep, Cond.instanceMethod yX0_keep, Cond.selects RX0 yX0_keep yX0_keep, Cond.initialized RX0, Cond.code yX0_keep cX0_keep 2 none, Cond.fieldLink RX0 11 "StepRiders$Acts" "before" "[LStepRiders$Stair;", Cond.fieldLink RX0 17 "StepRiders$Acts" "next" "I", Cond.fieldLink RX0 21 "StepRiders$Acts" "kept" "I", Cond.methodLink RX0 29 Lib.Math.min.name, Cond.static Lib.Math.min.name]
def wsX5_speed_r2 : List Cond := [Cond.initialized "java/lang/Math", Cond.code Lib.Math.min.name Lib.Math.min.code 2 (some .int), Cond.methodLink RX0 25 yX2_become, Cond.instanceMethod yX2_become, Cond.selects RX2 yX2_become yX2_become, Cond.initialized RX2, Cond.code yX2_become cX2_become 2 none, Cond.fieldLink RX2 9 "StepRiders$Stair" "steps" "I", Cond.fieldLink RX2 15 "StepRiders$Stair" "speed" "I", Cond.fieldLink RX2 18 "StepRiders$Stair" "tick" "I", Cond.fieldLink RX2 21 "StepRiders$Stair" "riders" "I", Cond.fieldLink RX2 24 "StepRiders$Stair" "kind" "[I", Cond.methodLink RX2 37 arraycopyName, Cond.native arraycopyName, Cond.static arraycopyName, Cond.initialized "java/lang/System", Cond.fieldLink RX2 28 "StepRiders$Stair" "lane" "[I", Cond.fieldLink RX2 31 "StepRiders$Stair" "at" "[I"]
def wsX5_speed : List Cond := .code yX5_speed cX5_speed 3 (some .int) :: ((wsX5_speed_r1 ++ wsX5_speed_r2) ++ wsX50 ++ wsX20 ++ wsX00)
def wsX5_noRider : List Cond := .code yX5_noRider cX5_noRider 2 (some .boolean) :: ([.fieldLink RX5 25 "StepRiders" "now" "LStepRiders$Stair;", .fieldLink RX5 130 "StepRiders$Stair" "riders" "I", .methodLink RX5 69 yX5_outside, .static yX5_outside, .initialized RX5, .code yX5_outside cX5_outside 3 (some .boolean)] ++ wsX50 ++ wsX20)
def wsX5_cross_r1 : List Cond := [Cond.constant RX5 73 (-1000001), Cond.fieldLink RX5 25 "StepRiders" "now" "LStepRiders$Stair;", Cond.fieldLink RX5 160 "StepRiders$Stair" "at" "[I", Cond.constant RX5 140 (-1000002), Cond.fieldLink RX5 32 "StepRiders" "acts" "LStepRiders$Acts;", Cond.fieldLink RX5 166 "StepRiders$Stair" "lane" "[I", Cond.methodLink RX5 157 yX5_noRider, Cond.instanceMethod yX5_noRider, Cond.selects RX5 yX5_noRider yX5_noRider, Cond.initialized RX5, Cond.code yX5_noRider cX5_noRider 2 (some .boolean), Cond.fieldLink RX5 130 "StepRiders$Stair" "riders" "I", Cond.methodLink RX5 69 yX5_outside, Cond.static yX5_outside, Cond.code yX5_outside cX5_outside 3 (some .boolean), Cond.methodLink RX5 163 yX2_mayCross, Cond.instanceMethod yX2_mayCross, Cond.selects RX2 yX2_mayCross yX2_mayCross, Cond.initialized RX2, Cond.code yX2_mayCross cX2_mayCross 2 (some .boolean), Cond.fieldLink RX2 31 "StepRiders$Stair" "at" "[I", Cond.fieldLink RX2 28 "StepRiders$Stair" "lane" "[I", Cond.methodLink RX2 47 yX2_isOn, Cond.instanceMethod yX2_isOn]
def wsX5_cross_r2 : List Cond := [Cond.selects RX2 yX2_isOn yX2_isOn, Cond.code yX2_isOn cX2_isOn 2 (some .boolean), Cond.fieldLink RX2 9 "StepRiders$Stair" "steps" "I", Cond.methodLink RX2 51 yX2_takesBoth, Cond.instanceMethod yX2_takesBoth, Cond.selects RX2 yX2_takesBoth yX2_takesBoth, Cond.code yX2_takesBoth cX2_takesBoth 2 (some .boolean), Cond.fieldLink RX2 24 "StepRiders$Stair" "kind" "[I", Cond.methodLink RX2 54 yX2_whoTakes, Cond.instanceMethod yX2_whoTakes, Cond.selects RX2 yX2_whoTakes yX2_whoTakes, Cond.code yX2_whoTakes cX2_whoTakes 5 (some .int), Cond.fieldLink RX2 21 "StepRiders$Stair" "riders" "I", Cond.methodLink RX5 144 yX0_keep, Cond.instanceMethod yX0_keep, Cond.selects RX0 yX0_keep yX0_keep, Cond.initialized RX0, Cond.code yX0_keep cX0_keep 2 none, Cond.fieldLink RX0 11 "StepRiders$Acts" "before" "[LStepRiders$Stair;", Cond.fieldLink RX0 17 "StepRiders$Acts" "next" "I", Cond.fieldLink RX0 21 "StepRiders$Acts" "kept" "I", Cond.methodLink RX0 29 Lib.Math.min.name, Cond.static Lib.Math.min.name, Cond.initialized "java/lang/Math"]
def wsX5_cross_r3 : List Cond := [Cond.code Lib.Math.min.name Lib.Math.min.code 2 (some .int), Cond.methodLink RX0 25 yX2_become, Cond.instanceMethod yX2_become, Cond.selects RX2 yX2_become yX2_become, Cond.code yX2_become cX2_become 2 none, Cond.fieldLink RX2 15 "StepRiders$Stair" "speed" "I", Cond.fieldLink RX2 18 "StepRiders$Stair" "tick" "I", Cond.methodLink RX2 37 arraycopyName, Cond.native arraycopyName, Cond.static arraycopyName, Cond.initialized "java/lang/System"]
def wsX5_cross : List Cond := .code yX5_cross cX5_cross 2 (some .int) :: ((wsX5_cross_r1 ++ (wsX5_cross_r2 ++ wsX5_cross_r3)) ++ wsX50 ++ wsX20 ++ wsX00)
def wsX5_take_r1 : List Cond := [Cond.constant RX5 73 (-1000001), Cond.fieldLink RX5 25 "StepRiders" "now" "LStepRiders$Stair;", Cond.fieldLink RX5 160 "StepRiders$Stair" "at" "[I", Cond.constant RX5 140 (-1000002), Cond.fieldLink RX5 32 "StepRiders" "acts" "LStepRiders$Acts;", Cond.methodLink RX5 157 yX5_noRider, Cond.instanceMethod yX5_noRider, Cond.selects RX5 yX5_noRider yX5_noRider, Cond.initialized RX5, Cond.code yX5_noRider cX5_noRider 2 (some .boolean), Cond.fieldLink RX5 130 "StepRiders$Stair" "riders" "I", Cond.methodLink RX5 69 yX5_outside, Cond.static yX5_outside, Cond.code yX5_outside cX5_outside 3 (some .boolean), Cond.methodLink RX5 144 yX0_keep, Cond.instanceMethod yX0_keep, Cond.selects RX0 yX0_keep yX0_keep, Cond.initialized RX0, Cond.code yX0_keep cX0_keep 2 none, Cond.fieldLink RX0 11 "StepRiders$Acts" "before" "[LStepRiders$Stair;", Cond.fieldLink RX0 17 "StepRiders$Acts" "next" "I", Cond.fieldLink RX0 21 "StepRiders$Acts" "kept" "I", Cond.methodLink RX0 29 Lib.Math.min.name, Cond.static Lib.Math.min.name]
def wsX5_take_r2 : List Cond := [Cond.initialized "java/lang/Math", Cond.code Lib.Math.min.name Lib.Math.min.code 2 (some .int), Cond.methodLink RX0 25 yX2_become, Cond.instanceMethod yX2_become, Cond.selects RX2 yX2_become yX2_become, Cond.initialized RX2, Cond.code yX2_become cX2_become 2 none, Cond.fieldLink RX2 9 "StepRiders$Stair" "steps" "I", Cond.fieldLink RX2 15 "StepRiders$Stair" "speed" "I", Cond.fieldLink RX2 18 "StepRiders$Stair" "tick" "I", Cond.fieldLink RX2 21 "StepRiders$Stair" "riders" "I", Cond.fieldLink RX2 24 "StepRiders$Stair" "kind" "[I", Cond.methodLink RX2 37 arraycopyName, Cond.native arraycopyName, Cond.static arraycopyName, Cond.initialized "java/lang/System", Cond.fieldLink RX2 28 "StepRiders$Stair" "lane" "[I", Cond.fieldLink RX2 31 "StepRiders$Stair" "at" "[I"]
def wsX5_take : List Cond := .code yX5_take cX5_take 3 (some .int) :: ((wsX5_take_r1 ++ wsX5_take_r2) ++ wsX50 ++ wsX20 ++ wsX00)
def wsX5_again_r1 : List Cond := [Cond.constant RX5 73 (-1000001), Cond.fieldLink RX5 25 "StepRiders" "now" "LStepRiders$Stair;", Cond.fieldLink RX5 160 "StepRiders$Stair" "at" "[I", Cond.constant RX5 140 (-1000002), Cond.fieldLink RX5 32 "StepRiders" "acts" "LStepRiders$Acts;", Cond.methodLink RX5 157 yX5_noRider, Cond.instanceMethod yX5_noRider, Cond.selects RX5 yX5_noRider yX5_noRider, Cond.initialized RX5, Cond.code yX5_noRider cX5_noRider 2 (some .boolean), Cond.fieldLink RX5 130 "StepRiders$Stair" "riders" "I", Cond.methodLink RX5 69 yX5_outside, Cond.static yX5_outside, Cond.code yX5_outside cX5_outside 3 (some .boolean), Cond.methodLink RX5 144 yX0_keep, Cond.instanceMethod yX0_keep, Cond.selects RX0 yX0_keep yX0_keep, Cond.initialized RX0, Cond.code yX0_keep cX0_keep 2 none, Cond.fieldLink RX0 11 "StepRiders$Acts" "before" "[LStepRiders$Stair;", Cond.fieldLink RX0 17 "StepRiders$Acts" "next" "I", Cond.fieldLink RX0 21 "StepRiders$Acts" "kept" "I", Cond.methodLink RX0 29 Lib.Math.min.name, Cond.static Lib.Math.min.name]
def wsX5_again_r2 : List Cond := [Cond.initialized "java/lang/Math", Cond.code Lib.Math.min.name Lib.Math.min.code 2 (some .int), Cond.methodLink RX0 25 yX2_become, Cond.instanceMethod yX2_become, Cond.selects RX2 yX2_become yX2_become, Cond.initialized RX2, Cond.code yX2_become cX2_become 2 none, Cond.fieldLink RX2 9 "StepRiders$Stair" "steps" "I", Cond.fieldLink RX2 15 "StepRiders$Stair" "speed" "I", Cond.fieldLink RX2 18 "StepRiders$Stair" "tick" "I", Cond.fieldLink RX2 21 "StepRiders$Stair" "riders" "I", Cond.fieldLink RX2 24 "StepRiders$Stair" "kind" "[I", Cond.methodLink RX2 37 arraycopyName, Cond.native arraycopyName, Cond.static arraycopyName, Cond.initialized "java/lang/System", Cond.fieldLink RX2 28 "StepRiders$Stair" "lane" "[I", Cond.fieldLink RX2 31 "StepRiders$Stair" "at" "[I", Cond.methodLink RX5 169 yX2_sendBack, Cond.instanceMethod yX2_sendBack, Cond.selects RX2 yX2_sendBack yX2_sendBack, Cond.code yX2_sendBack cX2_sendBack 3 none, Cond.methodLink RX5 151 yX2_howManyAt, Cond.instanceMethod yX2_howManyAt]
def wsX5_again_r3 : List Cond := [Cond.selects RX2 yX2_howManyAt yX2_howManyAt, Cond.code yX2_howManyAt cX2_howManyAt 2 (some .int), Cond.methodLink RX2 58 yX2_whoIsAt, Cond.instanceMethod yX2_whoIsAt, Cond.selects RX2 yX2_whoIsAt yX2_whoIsAt, Cond.code yX2_whoIsAt cX2_whoIsAt 4 (some .int), Cond.methodLink RX2 62 yJ6_bitCount_0f7a4, Cond.static yJ6_bitCount_0f7a4, Cond.initialized RJ6, Cond.code yJ6_bitCount_0f7a4 cJ6_bitCount_0f7a4 1 (some .int), Cond.constant RJ6 265 (1431655765), Cond.constant RJ6 266 (858993459), Cond.constant RJ6 267 (252645135)]
def wsX5_again : List Cond := .code yX5_again cX5_again 3 (some .int) :: ((wsX5_again_r1 ++ (wsX5_again_r2 ++ wsX5_again_r3)) ++ wsX50 ++ wsX20 ++ wsX00)
def wsX5_undo_r1 : List Cond := [Cond.fieldLink RX5 32 "StepRiders" "acts" "LStepRiders$Acts;", Cond.fieldLink RX5 172 "StepRiders$Acts" "kept" "I", Cond.constant RX5 140 (-1000002), Cond.fieldLink RX5 25 "StepRiders" "now" "LStepRiders$Stair;", Cond.methodLink RX5 175 yX0_takeBack, Cond.instanceMethod yX0_takeBack, Cond.selects RX0 yX0_takeBack yX0_takeBack, Cond.initialized RX0, Cond.code yX0_takeBack cX0_takeBack 2 none, Cond.fieldLink RX0 17 "StepRiders$Acts" "next" "I", Cond.fieldLink RX0 11 "StepRiders$Acts" "before" "[LStepRiders$Stair;", Cond.fieldLink RX0 21 "StepRiders$Acts" "kept" "I", Cond.methodLink RX0 35 Lib.Math.max.name, Cond.static Lib.Math.max.name, Cond.initialized "java/lang/Math", Cond.code Lib.Math.max.name Lib.Math.max.code 2 (some .int), Cond.methodLink RX0 25 yX2_become, Cond.instanceMethod yX2_become, Cond.selects RX2 yX2_become yX2_become, Cond.initialized RX2, Cond.code yX2_become cX2_become 2 none, Cond.fieldLink RX2 9 "StepRiders$Stair" "steps" "I", Cond.fieldLink RX2 15 "StepRiders$Stair" "speed" "I", Cond.fieldLink RX2 18 "StepRiders$Stair" "tick" "I"]
def wsX5_undo_r2 : List Cond := [Cond.fieldLink RX2 21 "StepRiders$Stair" "riders" "I", Cond.fieldLink RX2 24 "StepRiders$Stair" "kind" "[I", Cond.methodLink RX2 37 arraycopyName, Cond.native arraycopyName, Cond.static arraycopyName, Cond.initialized "java/lang/System", Cond.fieldLink RX2 28 "StepRiders$Stair" "lane" "[I", Cond.fieldLink RX2 31 "StepRiders$Stair" "at" "[I"]
def wsX5_undo : List Cond := .code yX5_undo cX5_undo 1 (some .int) :: ((wsX5_undo_r1 ++ wsX5_undo_r2) ++ wsX50 ++ wsX00 ++ wsX20)
def wsX5_oneIf : List Cond := .code yX5_oneIf cX5_oneIf 1 (some .int) :: ([])
def wsX5_rider_r1 : List Cond := [Cond.constant RX5 73 (-1000001), Cond.fieldLink RX5 25 "StepRiders" "now" "LStepRiders$Stair;", Cond.fieldLink RX5 160 "StepRiders$Stair" "at" "[I", Cond.fieldLink RX5 166 "StepRiders$Stair" "lane" "[I", Cond.methodLink RX5 157 yX5_noRider, Cond.instanceMethod yX5_noRider, Cond.selects RX5 yX5_noRider yX5_noRider, Cond.initialized RX5, Cond.code yX5_noRider cX5_noRider 2 (some .boolean), Cond.fieldLink RX5 130 "StepRiders$Stair" "riders" "I", Cond.methodLink RX5 69 yX5_outside, Cond.static yX5_outside, Cond.code yX5_outside cX5_outside 3 (some .boolean), Cond.methodLink RX5 178 yX2_takesBoth, Cond.instanceMethod yX2_takesBoth, Cond.selects RX2 yX2_takesBoth yX2_takesBoth, Cond.initialized RX2, Cond.code yX2_takesBoth cX2_takesBoth 2 (some .boolean), Cond.fieldLink RX2 24 "StepRiders$Stair" "kind" "[I", Cond.methodLink RX5 181 yX5_oneIf, Cond.static yX5_oneIf, Cond.code yX5_oneIf cX5_oneIf 1 (some .int), Cond.methodLink RX5 185 yX2_isOn, Cond.instanceMethod yX2_isOn]
def wsX5_rider_r2 : List Cond := [Cond.selects RX2 yX2_isOn yX2_isOn, Cond.code yX2_isOn cX2_isOn 2 (some .boolean), Cond.fieldLink RX2 31 "StepRiders$Stair" "at" "[I", Cond.fieldLink RX2 9 "StepRiders$Stair" "steps" "I", Cond.methodLink RX5 188 yX2_mayGo, Cond.instanceMethod yX2_mayGo, Cond.selects RX2 yX2_mayGo yX2_mayGo, Cond.code yX2_mayGo cX2_mayGo 3 (some .boolean), Cond.methodLink RX2 43 yX2_isFree, Cond.instanceMethod yX2_isFree, Cond.selects RX2 yX2_isFree yX2_isFree, Cond.code yX2_isFree cX2_isFree 5 (some .boolean), Cond.fieldLink RX2 21 "StepRiders$Stair" "riders" "I", Cond.fieldLink RX2 28 "StepRiders$Stair" "lane" "[I"]
def wsX5_rider : List Cond := .code yX5_rider cX5_rider 3 (some .int) :: ((wsX5_rider_r1 ++ wsX5_rider_r2) ++ wsX50 ++ wsX20)
def wsX5_step : List Cond := .code yX5_step cX5_step 3 (some .int) :: ([.fieldLink RX5 25 "StepRiders" "now" "LStepRiders$Stair;", .fieldLink RX5 191 "StepRiders$Stair" "steps" "I", .constant RX5 73 (-1000001), .methodLink RX5 69 yX5_outside, .static yX5_outside, .initialized RX5, .code yX5_outside cX5_outside 3 (some .boolean), .methodLink RX5 194 yX2_whoTakes, .instanceMethod yX2_whoTakes, .selects RX2 yX2_whoTakes yX2_whoTakes, .initialized RX2, .code yX2_whoTakes cX2_whoTakes 5 (some .int), .fieldLink RX2 21 "StepRiders$Stair" "riders" "I", .fieldLink RX2 31 "StepRiders$Stair" "at" "[I", .fieldLink RX2 28 "StepRiders$Stair" "lane" "[I", .methodLink RX2 51 yX2_takesBoth, .instanceMethod yX2_takesBoth, .selects RX2 yX2_takesBoth yX2_takesBoth, .code yX2_takesBoth cX2_takesBoth 2 (some .boolean), .fieldLink RX2 24 "StepRiders$Stair" "kind" "[I"] ++ wsX50 ++ wsX20)
def wsX5_tryTicks_r1 : List Cond := [Cond.fieldLink RX5 47 "StepRiders" "trial" "LStepRiders$Stair;", Cond.fieldLink RX5 25 "StepRiders" "now" "LStepRiders$Stair;", Cond.methodLink RX5 123 yX2_become, Cond.instanceMethod yX2_become, Cond.selects RX2 yX2_become yX2_become, Cond.initialized RX2, Cond.code yX2_become cX2_become 2 none, Cond.fieldLink RX2 9 "StepRiders$Stair" "steps" "I", Cond.fieldLink RX2 15 "StepRiders$Stair" "speed" "I", Cond.fieldLink RX2 18 "StepRiders$Stair" "tick" "I", Cond.fieldLink RX2 21 "StepRiders$Stair" "riders" "I", Cond.fieldLink RX2 24 "StepRiders$Stair" "kind" "[I", Cond.methodLink RX2 37 arraycopyName, Cond.native arraycopyName, Cond.static arraycopyName, Cond.initialized "java/lang/System", Cond.fieldLink RX2 28 "StepRiders$Stair" "lane" "[I", Cond.fieldLink RX2 31 "StepRiders$Stair" "at" "[I", Cond.methodLink RX5 147 yX2_pass, Cond.instanceMethod yX2_pass, Cond.selects RX2 yX2_pass yX2_pass, Cond.code yX2_pass cX2_pass 3 (some .int), Cond.constant RX2 81 (-1000000), Cond.fieldLink RX2 34 "StepRiders$Stair" "turn" "[I"]
def wsX5_tryTicks_r2 : List Cond := [Cond.methodLink RX2 74 yX2_giveTurns, Cond.instanceMethod yX2_giveTurns, Cond.selects RX2 yX2_giveTurns yX2_giveTurns, Cond.code yX2_giveTurns cX2_giveTurns 2 none, Cond.methodLink RX2 92 yX2_goes, Cond.instanceMethod yX2_goes, Cond.selects RX2 yX2_goes yX2_goes, Cond.code yX2_goes cX2_goes 3 (some .boolean), Cond.methodLink RX2 47 yX2_isOn, Cond.instanceMethod yX2_isOn, Cond.selects RX2 yX2_isOn yX2_isOn, Cond.code yX2_isOn cX2_isOn 2 (some .boolean), Cond.methodLink RX2 77 yX2_nextInTurn, Cond.instanceMethod yX2_nextInTurn, Cond.selects RX2 yX2_nextInTurn yX2_nextInTurn, Cond.code yX2_nextInTurn cX2_nextInTurn 4 (some .int), Cond.methodLink RX2 82 yX2_go, Cond.instanceMethod yX2_go, Cond.selects RX2 yX2_go yX2_go, Cond.code yX2_go cX2_go 5 none, Cond.methodLink RX2 95 yX2_mayGo, Cond.instanceMethod yX2_mayGo, Cond.selects RX2 yX2_mayGo yX2_mayGo, Cond.code yX2_mayGo cX2_mayGo 3 (some .boolean)]
def wsX5_tryTicks_r3 : List Cond := [Cond.methodLink RX2 43 yX2_isFree, Cond.instanceMethod yX2_isFree, Cond.selects RX2 yX2_isFree yX2_isFree, Cond.code yX2_isFree cX2_isFree 5 (some .boolean), Cond.methodLink RX2 86 yX2_carry, Cond.instanceMethod yX2_carry, Cond.selects RX2 yX2_carry yX2_carry, Cond.code yX2_carry cX2_carry 3 (some .int), Cond.methodLink RX2 89 yX2_letOneOn, Cond.instanceMethod yX2_letOneOn, Cond.selects RX2 yX2_letOneOn yX2_letOneOn, Cond.code yX2_letOneOn cX2_letOneOn 2 none]
def wsX5_tryTicks : List Cond := .code yX5_tryTicks cX5_tryTicks 3 none :: ((wsX5_tryTicks_r1 ++ (wsX5_tryTicks_r2 ++ wsX5_tryTicks_r3)) ++ wsX50 ++ wsX20)
def wsX5_ahead_r1 : List Cond := [Cond.constant RX5 73 (-1000001), Cond.fieldLink RX5 47 "StepRiders" "trial" "LStepRiders$Stair;", Cond.fieldLink RX5 160 "StepRiders$Stair" "at" "[I", Cond.methodLink RX5 157 yX5_noRider, Cond.instanceMethod yX5_noRider, Cond.selects RX5 yX5_noRider yX5_noRider, Cond.initialized RX5, Cond.code yX5_noRider cX5_noRider 2 (some .boolean), Cond.fieldLink RX5 25 "StepRiders" "now" "LStepRiders$Stair;", Cond.fieldLink RX5 130 "StepRiders$Stair" "riders" "I", Cond.methodLink RX5 69 yX5_outside, Cond.static yX5_outside, Cond.code yX5_outside cX5_outside 3 (some .boolean), Cond.methodLink RX5 198 yX5_tryTicks, Cond.instanceMethod yX5_tryTicks, Cond.selects RX5 yX5_tryTicks yX5_tryTicks, Cond.code yX5_tryTicks cX5_tryTicks 3 none, Cond.methodLink RX5 123 yX2_become, Cond.instanceMethod yX2_become, Cond.selects RX2 yX2_become yX2_become, Cond.initialized RX2, Cond.code yX2_become cX2_become 2 none, Cond.fieldLink RX2 9 "StepRiders$Stair" "steps" "I", Cond.fieldLink RX2 15 "StepRiders$Stair" "speed" "I"]
def wsX5_ahead_r2 : List Cond := [Cond.fieldLink RX2 18 "StepRiders$Stair" "tick" "I", Cond.fieldLink RX2 21 "StepRiders$Stair" "riders" "I", Cond.fieldLink RX2 24 "StepRiders$Stair" "kind" "[I", Cond.methodLink RX2 37 arraycopyName, Cond.native arraycopyName, Cond.static arraycopyName, Cond.initialized "java/lang/System", Cond.fieldLink RX2 28 "StepRiders$Stair" "lane" "[I", Cond.fieldLink RX2 31 "StepRiders$Stair" "at" "[I", Cond.methodLink RX5 147 yX2_pass, Cond.instanceMethod yX2_pass, Cond.selects RX2 yX2_pass yX2_pass, Cond.code yX2_pass cX2_pass 3 (some .int), Cond.constant RX2 81 (-1000000), Cond.fieldLink RX2 34 "StepRiders$Stair" "turn" "[I", Cond.methodLink RX2 74 yX2_giveTurns, Cond.instanceMethod yX2_giveTurns, Cond.selects RX2 yX2_giveTurns yX2_giveTurns, Cond.code yX2_giveTurns cX2_giveTurns 2 none, Cond.methodLink RX2 92 yX2_goes, Cond.instanceMethod yX2_goes, Cond.selects RX2 yX2_goes yX2_goes, Cond.code yX2_goes cX2_goes 3 (some .boolean), Cond.methodLink RX2 47 yX2_isOn]
def wsX5_ahead_r3 : List Cond := [Cond.instanceMethod yX2_isOn, Cond.selects RX2 yX2_isOn yX2_isOn, Cond.code yX2_isOn cX2_isOn 2 (some .boolean), Cond.methodLink RX2 77 yX2_nextInTurn, Cond.instanceMethod yX2_nextInTurn, Cond.selects RX2 yX2_nextInTurn yX2_nextInTurn, Cond.code yX2_nextInTurn cX2_nextInTurn 4 (some .int), Cond.methodLink RX2 82 yX2_go, Cond.instanceMethod yX2_go, Cond.selects RX2 yX2_go yX2_go, Cond.code yX2_go cX2_go 5 none, Cond.methodLink RX2 95 yX2_mayGo, Cond.instanceMethod yX2_mayGo, Cond.selects RX2 yX2_mayGo yX2_mayGo, Cond.code yX2_mayGo cX2_mayGo 3 (some .boolean), Cond.methodLink RX2 43 yX2_isFree, Cond.instanceMethod yX2_isFree, Cond.selects RX2 yX2_isFree yX2_isFree, Cond.code yX2_isFree cX2_isFree 5 (some .boolean), Cond.methodLink RX2 86 yX2_carry, Cond.instanceMethod yX2_carry, Cond.selects RX2 yX2_carry yX2_carry, Cond.code yX2_carry cX2_carry 3 (some .int), Cond.methodLink RX2 89 yX2_letOneOn]
def wsX5_ahead_r4 : List Cond := [Cond.instanceMethod yX2_letOneOn, Cond.selects RX2 yX2_letOneOn yX2_letOneOn, Cond.code yX2_letOneOn cX2_letOneOn 2 none]
def wsX5_ahead : List Cond := .code yX5_ahead cX5_ahead 3 (some .int) :: ((wsX5_ahead_r1 ++ (wsX5_ahead_r2 ++ (wsX5_ahead_r3 ++ wsX5_ahead_r4))) ++ wsX50 ++ wsX20)
def wsX5_later_r1 : List Cond := [Cond.constant RX5 140 (-1000002), Cond.constant RX5 73 (-1000001), Cond.fieldLink RX5 47 "StepRiders" "trial" "LStepRiders$Stair;", Cond.methodLink RX5 136 yX5_noStair, Cond.instanceMethod yX5_noStair, Cond.selects RX5 yX5_noStair yX5_noStair, Cond.initialized RX5, Cond.code yX5_noStair cX5_noStair 1 (some .boolean), Cond.fieldLink RX5 25 "StepRiders" "now" "LStepRiders$Stair;", Cond.fieldLink RX5 130 "StepRiders$Stair" "riders" "I", Cond.methodLink RX5 69 yX5_outside, Cond.static yX5_outside, Cond.code yX5_outside cX5_outside 3 (some .boolean), Cond.methodLink RX5 198 yX5_tryTicks, Cond.instanceMethod yX5_tryTicks, Cond.selects RX5 yX5_tryTicks yX5_tryTicks, Cond.code yX5_tryTicks cX5_tryTicks 3 none, Cond.methodLink RX5 123 yX2_become, Cond.instanceMethod yX2_become, Cond.selects RX2 yX2_become yX2_become, Cond.initialized RX2, Cond.code yX2_become cX2_become 2 none, Cond.fieldLink RX2 9 "StepRiders$Stair" "steps" "I", Cond.fieldLink RX2 15 "StepRiders$Stair" "speed" "I"]
def wsX5_later_r2 : List Cond := [Cond.fieldLink RX2 18 "StepRiders$Stair" "tick" "I", Cond.fieldLink RX2 21 "StepRiders$Stair" "riders" "I", Cond.fieldLink RX2 24 "StepRiders$Stair" "kind" "[I", Cond.methodLink RX2 37 arraycopyName, Cond.native arraycopyName, Cond.static arraycopyName, Cond.initialized "java/lang/System", Cond.fieldLink RX2 28 "StepRiders$Stair" "lane" "[I", Cond.fieldLink RX2 31 "StepRiders$Stair" "at" "[I", Cond.methodLink RX5 147 yX2_pass, Cond.instanceMethod yX2_pass, Cond.selects RX2 yX2_pass yX2_pass, Cond.code yX2_pass cX2_pass 3 (some .int), Cond.constant RX2 81 (-1000000), Cond.fieldLink RX2 34 "StepRiders$Stair" "turn" "[I", Cond.methodLink RX2 74 yX2_giveTurns, Cond.instanceMethod yX2_giveTurns, Cond.selects RX2 yX2_giveTurns yX2_giveTurns, Cond.code yX2_giveTurns cX2_giveTurns 2 none, Cond.methodLink RX2 92 yX2_goes, Cond.instanceMethod yX2_goes, Cond.selects RX2 yX2_goes yX2_goes, Cond.code yX2_goes cX2_goes 3 (some .boolean), Cond.methodLink RX2 47 yX2_isOn]
def wsX5_later_r3 : List Cond := [Cond.instanceMethod yX2_isOn, Cond.selects RX2 yX2_isOn yX2_isOn, Cond.code yX2_isOn cX2_isOn 2 (some .boolean), Cond.methodLink RX2 77 yX2_nextInTurn, Cond.instanceMethod yX2_nextInTurn, Cond.selects RX2 yX2_nextInTurn yX2_nextInTurn, Cond.code yX2_nextInTurn cX2_nextInTurn 4 (some .int), Cond.methodLink RX2 82 yX2_go, Cond.instanceMethod yX2_go, Cond.selects RX2 yX2_go yX2_go, Cond.code yX2_go cX2_go 5 none, Cond.methodLink RX2 95 yX2_mayGo, Cond.instanceMethod yX2_mayGo, Cond.selects RX2 yX2_mayGo yX2_mayGo, Cond.code yX2_mayGo cX2_mayGo 3 (some .boolean), Cond.methodLink RX2 43 yX2_isFree, Cond.instanceMethod yX2_isFree, Cond.selects RX2 yX2_isFree yX2_isFree, Cond.code yX2_isFree cX2_isFree 5 (some .boolean), Cond.methodLink RX2 86 yX2_carry, Cond.instanceMethod yX2_carry, Cond.selects RX2 yX2_carry yX2_carry, Cond.code yX2_carry cX2_carry 3 (some .int), Cond.methodLink RX2 89 yX2_letOneOn]
def wsX5_later_r4 : List Cond := [Cond.instanceMethod yX2_letOneOn, Cond.selects RX2 yX2_letOneOn yX2_letOneOn, Cond.code yX2_letOneOn cX2_letOneOn 2 none, Cond.methodLink RX5 151 yX2_howManyAt, Cond.instanceMethod yX2_howManyAt, Cond.selects RX2 yX2_howManyAt yX2_howManyAt, Cond.code yX2_howManyAt cX2_howManyAt 2 (some .int), Cond.methodLink RX2 58 yX2_whoIsAt, Cond.instanceMethod yX2_whoIsAt, Cond.selects RX2 yX2_whoIsAt yX2_whoIsAt, Cond.code yX2_whoIsAt cX2_whoIsAt 4 (some .int), Cond.methodLink RX2 62 yJ6_bitCount_0f7a4, Cond.static yJ6_bitCount_0f7a4, Cond.initialized RJ6, Cond.code yJ6_bitCount_0f7a4 cJ6_bitCount_0f7a4 1 (some .int), Cond.constant RJ6 265 (1431655765), Cond.constant RJ6 266 (858993459), Cond.constant RJ6 267 (252645135), Cond.methodLink RX5 201 yX2_stepsTaken, Cond.instanceMethod yX2_stepsTaken, Cond.selects RX2 yX2_stepsTaken yX2_stepsTaken, Cond.code yX2_stepsTaken cX2_stepsTaken 3 (some .int)]
def wsX5_later : List Cond := .code yX5_later cX5_later 3 (some .int) :: ((wsX5_later_r1 ++ (wsX5_later_r2 ++ (wsX5_later_r3 ++ wsX5_later_r4))) ++ wsX50 ++ wsX20)
def wsX5_off_r1 : List Cond := [Cond.constant RX5 73 (-1000001), Cond.fieldLink RX5 47 "StepRiders" "trial" "LStepRiders$Stair;", Cond.fieldLink RX5 25 "StepRiders" "now" "LStepRiders$Stair;", Cond.methodLink RX5 157 yX5_noRider, Cond.instanceMethod yX5_noRider, Cond.selects RX5 yX5_noRider yX5_noRider, Cond.initialized RX5, Cond.code yX5_noRider cX5_noRider 2 (some .boolean), Cond.fieldLink RX5 130 "StepRiders$Stair" "riders" "I", Cond.methodLink RX5 69 yX5_outside, Cond.static yX5_outside, Cond.code yX5_outside cX5_outside 3 (some .boolean), Cond.methodLink RX5 123 yX2_become, Cond.instanceMethod yX2_become, Cond.selects RX2 yX2_become yX2_become, Cond.initialized RX2, Cond.code yX2_become cX2_become 2 none, Cond.fieldLink RX2 9 "StepRiders$Stair" "steps" "I", Cond.fieldLink RX2 15 "StepRiders$Stair" "speed" "I", Cond.fieldLink RX2 18 "StepRiders$Stair" "tick" "I", Cond.fieldLink RX2 21 "StepRiders$Stair" "riders" "I", Cond.fieldLink RX2 24 "StepRiders$Stair" "kind" "[I", Cond.methodLink RX2 37 arraycopyName, Cond.native arraycopyName]
def wsX5_off_r2 : List Cond := [Cond.static arraycopyName, Cond.initialized "java/lang/System", Cond.fieldLink RX2 28 "StepRiders$Stair" "lane" "[I", Cond.fieldLink RX2 31 "StepRiders$Stair" "at" "[I", Cond.methodLink RX5 204 yX2_passUntilOff, Cond.instanceMethod yX2_passUntilOff, Cond.selects RX2 yX2_passUntilOff yX2_passUntilOff, Cond.code yX2_passUntilOff cX2_passUntilOff 4 (some .int), Cond.constant RX2 81 (-1000000), Cond.methodLink RX2 98 yX2_nobodyGoesOff, Cond.instanceMethod yX2_nobodyGoesOff, Cond.selects RX2 yX2_nobodyGoesOff yX2_nobodyGoesOff, Cond.code yX2_nobodyGoesOff cX2_nobodyGoesOff 1 (some .boolean), Cond.methodLink RX2 102 yX2_pass, Cond.instanceMethod yX2_pass, Cond.selects RX2 yX2_pass yX2_pass, Cond.code yX2_pass cX2_pass 3 (some .int), Cond.fieldLink RX2 34 "StepRiders$Stair" "turn" "[I", Cond.methodLink RX2 74 yX2_giveTurns, Cond.instanceMethod yX2_giveTurns, Cond.selects RX2 yX2_giveTurns yX2_giveTurns, Cond.code yX2_giveTurns cX2_giveTurns 2 none, Cond.methodLink RX2 92 yX2_goes, Cond.instanceMethod yX2_goes]
def wsX5_off_r3 : List Cond := [Cond.selects RX2 yX2_goes yX2_goes, Cond.code yX2_goes cX2_goes 3 (some .boolean), Cond.methodLink RX2 47 yX2_isOn, Cond.instanceMethod yX2_isOn, Cond.selects RX2 yX2_isOn yX2_isOn, Cond.code yX2_isOn cX2_isOn 2 (some .boolean), Cond.methodLink RX2 77 yX2_nextInTurn, Cond.instanceMethod yX2_nextInTurn, Cond.selects RX2 yX2_nextInTurn yX2_nextInTurn, Cond.code yX2_nextInTurn cX2_nextInTurn 4 (some .int), Cond.methodLink RX2 82 yX2_go, Cond.instanceMethod yX2_go, Cond.selects RX2 yX2_go yX2_go, Cond.code yX2_go cX2_go 5 none, Cond.methodLink RX2 95 yX2_mayGo, Cond.instanceMethod yX2_mayGo, Cond.selects RX2 yX2_mayGo yX2_mayGo, Cond.code yX2_mayGo cX2_mayGo 3 (some .boolean), Cond.methodLink RX2 43 yX2_isFree, Cond.instanceMethod yX2_isFree, Cond.selects RX2 yX2_isFree yX2_isFree, Cond.code yX2_isFree cX2_isFree 5 (some .boolean), Cond.methodLink RX2 86 yX2_carry, Cond.instanceMethod yX2_carry]
def wsX5_off_r4 : List Cond := [Cond.selects RX2 yX2_carry yX2_carry, Cond.code yX2_carry cX2_carry 3 (some .int), Cond.methodLink RX2 89 yX2_letOneOn, Cond.instanceMethod yX2_letOneOn, Cond.selects RX2 yX2_letOneOn yX2_letOneOn, Cond.code yX2_letOneOn cX2_letOneOn 2 none]
def wsX5_off : List Cond := .code yX5_off cX5_off 2 (some .int) :: ((wsX5_off_r1 ++ (wsX5_off_r2 ++ (wsX5_off_r3 ++ wsX5_off_r4))) ++ wsX50 ++ wsX20)
def wsX5_clear_r1 : List Cond := [Cond.constant RX5 140 (-1000002), Cond.fieldLink RX5 47 "StepRiders" "trial" "LStepRiders$Stair;", Cond.fieldLink RX5 25 "StepRiders" "now" "LStepRiders$Stair;", Cond.methodLink RX5 136 yX5_noStair, Cond.instanceMethod yX5_noStair, Cond.selects RX5 yX5_noStair yX5_noStair, Cond.initialized RX5, Cond.code yX5_noStair cX5_noStair 1 (some .boolean), Cond.fieldLink RX5 130 "StepRiders$Stair" "riders" "I", Cond.methodLink RX5 123 yX2_become, Cond.instanceMethod yX2_become, Cond.selects RX2 yX2_become yX2_become, Cond.initialized RX2, Cond.code yX2_become cX2_become 2 none, Cond.fieldLink RX2 9 "StepRiders$Stair" "steps" "I", Cond.fieldLink RX2 15 "StepRiders$Stair" "speed" "I", Cond.fieldLink RX2 18 "StepRiders$Stair" "tick" "I", Cond.fieldLink RX2 21 "StepRiders$Stair" "riders" "I", Cond.fieldLink RX2 24 "StepRiders$Stair" "kind" "[I", Cond.methodLink RX2 37 arraycopyName, Cond.native arraycopyName, Cond.static arraycopyName, Cond.initialized "java/lang/System", Cond.fieldLink RX2 28 "StepRiders$Stair" "lane" "[I"]
def wsX5_clear_r2 : List Cond := [Cond.fieldLink RX2 31 "StepRiders$Stair" "at" "[I", Cond.methodLink RX5 207 yX2_passUntilClear, Cond.instanceMethod yX2_passUntilClear, Cond.selects RX2 yX2_passUntilClear yX2_passUntilClear, Cond.code yX2_passUntilClear cX2_passUntilClear 3 (some .int), Cond.constant RX2 81 (-1000000), Cond.methodLink RX2 105 yX2_isClear, Cond.instanceMethod yX2_isClear, Cond.selects RX2 yX2_isClear yX2_isClear, Cond.code yX2_isClear cX2_isClear 1 (some .boolean), Cond.methodLink RX2 67 yX2_howManyAt, Cond.instanceMethod yX2_howManyAt, Cond.selects RX2 yX2_howManyAt yX2_howManyAt, Cond.code yX2_howManyAt cX2_howManyAt 2 (some .int), Cond.methodLink RX2 58 yX2_whoIsAt, Cond.instanceMethod yX2_whoIsAt, Cond.selects RX2 yX2_whoIsAt yX2_whoIsAt, Cond.code yX2_whoIsAt cX2_whoIsAt 4 (some .int), Cond.methodLink RX2 62 yJ6_bitCount_0f7a4, Cond.static yJ6_bitCount_0f7a4, Cond.initialized RJ6, Cond.code yJ6_bitCount_0f7a4 cJ6_bitCount_0f7a4 1 (some .int), Cond.constant RJ6 265 (1431655765), Cond.constant RJ6 266 (858993459)]
def wsX5_clear_r3 : List Cond := [Cond.constant RJ6 267 (252645135), Cond.methodLink RX2 98 yX2_nobodyGoesOff, Cond.instanceMethod yX2_nobodyGoesOff, Cond.selects RX2 yX2_nobodyGoesOff yX2_nobodyGoesOff, Cond.code yX2_nobodyGoesOff cX2_nobodyGoesOff 1 (some .boolean), Cond.methodLink RX2 102 yX2_pass, Cond.instanceMethod yX2_pass, Cond.selects RX2 yX2_pass yX2_pass, Cond.code yX2_pass cX2_pass 3 (some .int), Cond.fieldLink RX2 34 "StepRiders$Stair" "turn" "[I", Cond.methodLink RX2 74 yX2_giveTurns, Cond.instanceMethod yX2_giveTurns, Cond.selects RX2 yX2_giveTurns yX2_giveTurns, Cond.code yX2_giveTurns cX2_giveTurns 2 none, Cond.methodLink RX2 92 yX2_goes, Cond.instanceMethod yX2_goes, Cond.selects RX2 yX2_goes yX2_goes, Cond.code yX2_goes cX2_goes 3 (some .boolean), Cond.methodLink RX2 47 yX2_isOn, Cond.instanceMethod yX2_isOn, Cond.selects RX2 yX2_isOn yX2_isOn, Cond.code yX2_isOn cX2_isOn 2 (some .boolean), Cond.methodLink RX2 77 yX2_nextInTurn, Cond.instanceMethod yX2_nextInTurn]
def wsX5_clear_r4 : List Cond := [Cond.selects RX2 yX2_nextInTurn yX2_nextInTurn, Cond.code yX2_nextInTurn cX2_nextInTurn 4 (some .int), Cond.methodLink RX2 82 yX2_go, Cond.instanceMethod yX2_go, Cond.selects RX2 yX2_go yX2_go, Cond.code yX2_go cX2_go 5 none, Cond.methodLink RX2 95 yX2_mayGo, Cond.instanceMethod yX2_mayGo, Cond.selects RX2 yX2_mayGo yX2_mayGo, Cond.code yX2_mayGo cX2_mayGo 3 (some .boolean), Cond.methodLink RX2 43 yX2_isFree, Cond.instanceMethod yX2_isFree, Cond.selects RX2 yX2_isFree yX2_isFree, Cond.code yX2_isFree cX2_isFree 5 (some .boolean), Cond.methodLink RX2 86 yX2_carry, Cond.instanceMethod yX2_carry, Cond.selects RX2 yX2_carry yX2_carry, Cond.code yX2_carry cX2_carry 3 (some .int), Cond.methodLink RX2 89 yX2_letOneOn, Cond.instanceMethod yX2_letOneOn, Cond.selects RX2 yX2_letOneOn yX2_letOneOn, Cond.code yX2_letOneOn cX2_letOneOn 2 none]
def wsX5_clear : List Cond := .code yX5_clear cX5_clear 1 (some .int) :: ((wsX5_clear_r1 ++ (wsX5_clear_r2 ++ (wsX5_clear_r3 ++ wsX5_clear_r4))) ++ wsX50 ++ wsX20)
def wsX5_nextSubset : List Cond := .code yX5_nextSubset cX5_nextSubset 2 (some .int) :: ([])
def wsX5_sorting_r1 : List Cond := [Cond.constant RX5 140 (-1000002), Cond.constant RX5 73 (-1000001), Cond.fieldLink RX5 25 "StepRiders" "now" "LStepRiders$Stair;", Cond.constant RX5 121 (-1000000), Cond.fieldLink RX5 47 "StepRiders" "trial" "LStepRiders$Stair;", Cond.methodLink RX5 136 yX5_noStair, Cond.instanceMethod yX5_noStair, Cond.selects RX5 yX5_noStair yX5_noStair, Cond.initialized RX5, Cond.code yX5_noStair cX5_noStair 1 (some .boolean), Cond.fieldLink RX5 130 "StepRiders$Stair" "riders" "I", Cond.methodLink RX5 69 yX5_outside, Cond.static yX5_outside, Cond.code yX5_outside cX5_outside 3 (some .boolean), Cond.methodLink RX5 210 yX2_whoIsAt, Cond.instanceMethod yX2_whoIsAt, Cond.selects RX2 yX2_whoIsAt yX2_whoIsAt, Cond.initialized RX2, Cond.code yX2_whoIsAt cX2_whoIsAt 4 (some .int), Cond.fieldLink RX2 21 "StepRiders$Stair" "riders" "I", Cond.fieldLink RX2 31 "StepRiders$Stair" "at" "[I", Cond.methodLink RX5 123 yX2_become, Cond.instanceMethod yX2_become, Cond.selects RX2 yX2_become yX2_become]
def wsX5_sorting_r2 : List Cond := [Cond.code yX2_become cX2_become 2 none, Cond.fieldLink RX2 9 "StepRiders$Stair" "steps" "I", Cond.fieldLink RX2 15 "StepRiders$Stair" "speed" "I", Cond.fieldLink RX2 18 "StepRiders$Stair" "tick" "I", Cond.fieldLink RX2 24 "StepRiders$Stair" "kind" "[I", Cond.methodLink RX2 37 arraycopyName, Cond.native arraycopyName, Cond.static arraycopyName, Cond.initialized "java/lang/System", Cond.fieldLink RX2 28 "StepRiders$Stair" "lane" "[I", Cond.methodLink RX5 213 yX2_putInLanes, Cond.instanceMethod yX2_putInLanes, Cond.selects RX2 yX2_putInLanes yX2_putInLanes, Cond.code yX2_putInLanes cX2_putInLanes 4 none, Cond.methodLink RX5 207 yX2_passUntilClear, Cond.instanceMethod yX2_passUntilClear, Cond.selects RX2 yX2_passUntilClear yX2_passUntilClear, Cond.code yX2_passUntilClear cX2_passUntilClear 3 (some .int), Cond.constant RX2 81 (-1000000), Cond.methodLink RX2 105 yX2_isClear, Cond.instanceMethod yX2_isClear, Cond.selects RX2 yX2_isClear yX2_isClear, Cond.code yX2_isClear cX2_isClear 1 (some .boolean), Cond.methodLink RX2 67 yX2_howManyAt]
def wsX5_sorting_r3 : List Cond := [Cond.instanceMethod yX2_howManyAt, Cond.selects RX2 yX2_howManyAt yX2_howManyAt, Cond.code yX2_howManyAt cX2_howManyAt 2 (some .int), Cond.methodLink RX2 58 yX2_whoIsAt, Cond.methodLink RX2 62 yJ6_bitCount_0f7a4, Cond.static yJ6_bitCount_0f7a4, Cond.initialized RJ6, Cond.code yJ6_bitCount_0f7a4 cJ6_bitCount_0f7a4 1 (some .int), Cond.constant RJ6 265 (1431655765), Cond.constant RJ6 266 (858993459), Cond.constant RJ6 267 (252645135), Cond.methodLink RX2 98 yX2_nobodyGoesOff, Cond.instanceMethod yX2_nobodyGoesOff, Cond.selects RX2 yX2_nobodyGoesOff yX2_nobodyGoesOff, Cond.code yX2_nobodyGoesOff cX2_nobodyGoesOff 1 (some .boolean), Cond.methodLink RX2 102 yX2_pass, Cond.instanceMethod yX2_pass, Cond.selects RX2 yX2_pass yX2_pass, Cond.code yX2_pass cX2_pass 3 (some .int), Cond.fieldLink RX2 34 "StepRiders$Stair" "turn" "[I", Cond.methodLink RX2 74 yX2_giveTurns, Cond.instanceMethod yX2_giveTurns, Cond.selects RX2 yX2_giveTurns yX2_giveTurns, Cond.code yX2_giveTurns cX2_giveTurns 2 none]
def wsX5_sorting_r4 : List Cond := [Cond.methodLink RX2 92 yX2_goes, Cond.instanceMethod yX2_goes, Cond.selects RX2 yX2_goes yX2_goes, Cond.code yX2_goes cX2_goes 3 (some .boolean), Cond.methodLink RX2 47 yX2_isOn, Cond.instanceMethod yX2_isOn, Cond.selects RX2 yX2_isOn yX2_isOn, Cond.code yX2_isOn cX2_isOn 2 (some .boolean), Cond.methodLink RX2 77 yX2_nextInTurn, Cond.instanceMethod yX2_nextInTurn, Cond.selects RX2 yX2_nextInTurn yX2_nextInTurn, Cond.code yX2_nextInTurn cX2_nextInTurn 4 (some .int), Cond.methodLink RX2 82 yX2_go, Cond.instanceMethod yX2_go, Cond.selects RX2 yX2_go yX2_go, Cond.code yX2_go cX2_go 5 none, Cond.methodLink RX2 95 yX2_mayGo, Cond.instanceMethod yX2_mayGo, Cond.selects RX2 yX2_mayGo yX2_mayGo, Cond.code yX2_mayGo cX2_mayGo 3 (some .boolean), Cond.methodLink RX2 43 yX2_isFree, Cond.instanceMethod yX2_isFree, Cond.selects RX2 yX2_isFree yX2_isFree, Cond.code yX2_isFree cX2_isFree 5 (some .boolean)]
def wsX5_sorting_r5 : List Cond := [Cond.methodLink RX2 86 yX2_carry, Cond.instanceMethod yX2_carry, Cond.selects RX2 yX2_carry yX2_carry, Cond.code yX2_carry cX2_carry 3 (some .int), Cond.methodLink RX2 89 yX2_letOneOn, Cond.instanceMethod yX2_letOneOn, Cond.selects RX2 yX2_letOneOn yX2_letOneOn, Cond.code yX2_letOneOn cX2_letOneOn 2 none, Cond.methodLink RX5 216 yX5_nextSubset, Cond.static yX5_nextSubset, Cond.code yX5_nextSubset cX5_nextSubset 2 (some .int)]
def wsX5_sorting : List Cond := .code yX5_sorting cX5_sorting 8 (some .int) :: ((wsX5_sorting_r1 ++ (wsX5_sorting_r2 ++ (wsX5_sorting_r3 ++ (wsX5_sorting_r4 ++ wsX5_sorting_r5)))) ++ wsX50 ++ wsX20)
def wsX5_taken_r1 : List Cond := [Cond.constant RX5 140 (-1000002), Cond.constant RX5 73 (-1000001), Cond.fieldLink RX5 47 "StepRiders" "trial" "LStepRiders$Stair;", Cond.fieldLink RX5 25 "StepRiders" "now" "LStepRiders$Stair;", Cond.constant RX5 121 (-1000000), Cond.fieldLink RX5 130 "StepRiders$Stair" "riders" "I", Cond.fieldLink RX5 160 "StepRiders$Stair" "at" "[I", Cond.methodLink RX5 136 yX5_noStair, Cond.instanceMethod yX5_noStair, Cond.selects RX5 yX5_noStair yX5_noStair, Cond.initialized RX5, Cond.code yX5_noStair cX5_noStair 1 (some .boolean), Cond.methodLink RX5 69 yX5_outside, Cond.static yX5_outside, Cond.code yX5_outside cX5_outside 3 (some .boolean), Cond.methodLink RX5 123 yX2_become, Cond.instanceMethod yX2_become, Cond.selects RX2 yX2_become yX2_become, Cond.initialized RX2, Cond.code yX2_become cX2_become 2 none, Cond.fieldLink RX2 9 "StepRiders$Stair" "steps" "I", Cond.fieldLink RX2 15 "StepRiders$Stair" "speed" "I", Cond.fieldLink RX2 18 "StepRiders$Stair" "tick" "I", Cond.fieldLink RX2 21 "StepRiders$Stair" "riders" "I"]
def wsX5_taken_r2 : List Cond := [Cond.fieldLink RX2 24 "StepRiders$Stair" "kind" "[I", Cond.methodLink RX2 37 arraycopyName, Cond.native arraycopyName, Cond.static arraycopyName, Cond.initialized "java/lang/System", Cond.fieldLink RX2 28 "StepRiders$Stair" "lane" "[I", Cond.fieldLink RX2 31 "StepRiders$Stair" "at" "[I", Cond.methodLink RX5 207 yX2_passUntilClear, Cond.instanceMethod yX2_passUntilClear, Cond.selects RX2 yX2_passUntilClear yX2_passUntilClear, Cond.code yX2_passUntilClear cX2_passUntilClear 3 (some .int), Cond.constant RX2 81 (-1000000), Cond.methodLink RX2 105 yX2_isClear, Cond.instanceMethod yX2_isClear, Cond.selects RX2 yX2_isClear yX2_isClear, Cond.code yX2_isClear cX2_isClear 1 (some .boolean), Cond.methodLink RX2 67 yX2_howManyAt, Cond.instanceMethod yX2_howManyAt, Cond.selects RX2 yX2_howManyAt yX2_howManyAt, Cond.code yX2_howManyAt cX2_howManyAt 2 (some .int), Cond.methodLink RX2 58 yX2_whoIsAt, Cond.instanceMethod yX2_whoIsAt, Cond.selects RX2 yX2_whoIsAt yX2_whoIsAt, Cond.code yX2_whoIsAt cX2_whoIsAt 4 (some .int)]
def wsX5_taken_r3 : List Cond := [Cond.methodLink RX2 62 yJ6_bitCount_0f7a4, Cond.static yJ6_bitCount_0f7a4, Cond.initialized RJ6, Cond.code yJ6_bitCount_0f7a4 cJ6_bitCount_0f7a4 1 (some .int), Cond.constant RJ6 265 (1431655765), Cond.constant RJ6 266 (858993459), Cond.constant RJ6 267 (252645135), Cond.methodLink RX2 98 yX2_nobodyGoesOff, Cond.instanceMethod yX2_nobodyGoesOff, Cond.selects RX2 yX2_nobodyGoesOff yX2_nobodyGoesOff, Cond.code yX2_nobodyGoesOff cX2_nobodyGoesOff 1 (some .boolean), Cond.methodLink RX2 102 yX2_pass, Cond.instanceMethod yX2_pass, Cond.selects RX2 yX2_pass yX2_pass, Cond.code yX2_pass cX2_pass 3 (some .int), Cond.fieldLink RX2 34 "StepRiders$Stair" "turn" "[I", Cond.methodLink RX2 74 yX2_giveTurns, Cond.instanceMethod yX2_giveTurns, Cond.selects RX2 yX2_giveTurns yX2_giveTurns, Cond.code yX2_giveTurns cX2_giveTurns 2 none, Cond.methodLink RX2 92 yX2_goes, Cond.instanceMethod yX2_goes, Cond.selects RX2 yX2_goes yX2_goes, Cond.code yX2_goes cX2_goes 3 (some .boolean)]
def wsX5_taken_r4 : List Cond := [Cond.methodLink RX2 47 yX2_isOn, Cond.instanceMethod yX2_isOn, Cond.selects RX2 yX2_isOn yX2_isOn, Cond.code yX2_isOn cX2_isOn 2 (some .boolean), Cond.methodLink RX2 77 yX2_nextInTurn, Cond.instanceMethod yX2_nextInTurn, Cond.selects RX2 yX2_nextInTurn yX2_nextInTurn, Cond.code yX2_nextInTurn cX2_nextInTurn 4 (some .int), Cond.methodLink RX2 82 yX2_go, Cond.instanceMethod yX2_go, Cond.selects RX2 yX2_go yX2_go, Cond.code yX2_go cX2_go 5 none, Cond.methodLink RX2 95 yX2_mayGo, Cond.instanceMethod yX2_mayGo, Cond.selects RX2 yX2_mayGo yX2_mayGo, Cond.code yX2_mayGo cX2_mayGo 3 (some .boolean), Cond.methodLink RX2 43 yX2_isFree, Cond.instanceMethod yX2_isFree, Cond.selects RX2 yX2_isFree yX2_isFree, Cond.code yX2_isFree cX2_isFree 5 (some .boolean), Cond.methodLink RX2 86 yX2_carry, Cond.instanceMethod yX2_carry, Cond.selects RX2 yX2_carry yX2_carry, Cond.code yX2_carry cX2_carry 3 (some .int)]
def wsX5_taken_r5 : List Cond := [Cond.methodLink RX2 89 yX2_letOneOn, Cond.instanceMethod yX2_letOneOn, Cond.selects RX2 yX2_letOneOn yX2_letOneOn, Cond.code yX2_letOneOn cX2_letOneOn 2 none]
def wsX5_taken : List Cond := .code yX5_taken cX5_taken 7 (some .int) :: ((wsX5_taken_r1 ++ (wsX5_taken_r2 ++ (wsX5_taken_r3 ++ (wsX5_taken_r4 ++ wsX5_taken_r5)))) ++ wsX50 ++ wsX20)
def wsX5_power : List Cond := .code yX5_power cX5_power 4 (some .int) :: ([])
def wsX5_writePaces : List Cond := .code yX5_writePaces cX5_writePaces 7 (some .int) :: ([.fieldLink RX5 53 "StepRiders" "paces" "[I"] ++ wsX50)
def wsX5_passLevels_r1 : List Cond := [Cond.fieldLink RX5 50 "StepRiders" "levels" "[LStepRiders$Stair;", Cond.fieldLink RX5 53 "StepRiders" "paces" "[I", Cond.fieldLink RX5 154 "StepRiders$Stair" "speed" "I", Cond.methodLink RX5 123 yX2_become, Cond.instanceMethod yX2_become, Cond.selects RX2 yX2_become yX2_become, Cond.initialized RX2, Cond.code yX2_become cX2_become 2 none, Cond.fieldLink RX2 9 "StepRiders$Stair" "steps" "I", Cond.fieldLink RX2 15 "StepRiders$Stair" "speed" "I", Cond.fieldLink RX2 18 "StepRiders$Stair" "tick" "I", Cond.fieldLink RX2 21 "StepRiders$Stair" "riders" "I", Cond.fieldLink RX2 24 "StepRiders$Stair" "kind" "[I", Cond.methodLink RX2 37 arraycopyName, Cond.native arraycopyName, Cond.static arraycopyName, Cond.initialized "java/lang/System", Cond.fieldLink RX2 28 "StepRiders$Stair" "lane" "[I", Cond.fieldLink RX2 31 "StepRiders$Stair" "at" "[I", Cond.methodLink RX5 147 yX2_pass, Cond.instanceMethod yX2_pass, Cond.selects RX2 yX2_pass yX2_pass, Cond.code yX2_pass cX2_pass 3 (some .int), Cond.constant RX2 81 (-1000000)]
def wsX5_passLevels_r2 : List Cond := [Cond.fieldLink RX2 34 "StepRiders$Stair" "turn" "[I", Cond.methodLink RX2 74 yX2_giveTurns, Cond.instanceMethod yX2_giveTurns, Cond.selects RX2 yX2_giveTurns yX2_giveTurns, Cond.code yX2_giveTurns cX2_giveTurns 2 none, Cond.methodLink RX2 92 yX2_goes, Cond.instanceMethod yX2_goes, Cond.selects RX2 yX2_goes yX2_goes, Cond.code yX2_goes cX2_goes 3 (some .boolean), Cond.methodLink RX2 47 yX2_isOn, Cond.instanceMethod yX2_isOn, Cond.selects RX2 yX2_isOn yX2_isOn, Cond.code yX2_isOn cX2_isOn 2 (some .boolean), Cond.methodLink RX2 77 yX2_nextInTurn, Cond.instanceMethod yX2_nextInTurn, Cond.selects RX2 yX2_nextInTurn yX2_nextInTurn, Cond.code yX2_nextInTurn cX2_nextInTurn 4 (some .int), Cond.methodLink RX2 82 yX2_go, Cond.instanceMethod yX2_go, Cond.selects RX2 yX2_go yX2_go, Cond.code yX2_go cX2_go 5 none, Cond.methodLink RX2 95 yX2_mayGo, Cond.instanceMethod yX2_mayGo, Cond.selects RX2 yX2_mayGo yX2_mayGo]
def wsX5_passLevels_r3 : List Cond := [Cond.code yX2_mayGo cX2_mayGo 3 (some .boolean), Cond.methodLink RX2 43 yX2_isFree, Cond.instanceMethod yX2_isFree, Cond.selects RX2 yX2_isFree yX2_isFree, Cond.code yX2_isFree cX2_isFree 5 (some .boolean), Cond.methodLink RX2 86 yX2_carry, Cond.instanceMethod yX2_carry, Cond.selects RX2 yX2_carry yX2_carry, Cond.code yX2_carry cX2_carry 3 (some .int), Cond.methodLink RX2 89 yX2_letOneOn, Cond.instanceMethod yX2_letOneOn, Cond.selects RX2 yX2_letOneOn yX2_letOneOn, Cond.code yX2_letOneOn cX2_letOneOn 2 none]
def wsX5_passLevels : List Cond := .code yX5_passLevels cX5_passLevels 5 none :: ((wsX5_passLevels_r1 ++ (wsX5_passLevels_r2 ++ wsX5_passLevels_r3)) ++ wsX50 ++ wsX20)
def wsX5_sumOfPaces : List Cond := .code yX5_sumOfPaces cX5_sumOfPaces 4 (some .int) :: ([.fieldLink RX5 53 "StepRiders" "paces" "[I"] ++ wsX50)
def wsX5_findPaces_r1 : List Cond := [Cond.constant RX5 121 (-1000000), Cond.fieldLink RX5 50 "StepRiders" "levels" "[LStepRiders$Stair;", Cond.fieldLink RX5 25 "StepRiders" "now" "LStepRiders$Stair;", Cond.fieldLink RX5 160 "StepRiders$Stair" "at" "[I", Cond.fieldLink RX5 53 "StepRiders" "paces" "[I", Cond.fieldLink RX5 57 "StepRiders" "bestPaces" "[I", Cond.methodLink RX5 102 arraycopyName, Cond.native arraycopyName, Cond.static arraycopyName, Cond.initialized "java/lang/System", Cond.methodLink RX5 243 yX5_power, Cond.static yX5_power, Cond.initialized RX5, Cond.code yX5_power cX5_power 4 (some .int), Cond.methodLink RX5 123 yX2_become, Cond.instanceMethod yX2_become, Cond.selects RX2 yX2_become yX2_become, Cond.initialized RX2, Cond.code yX2_become cX2_become 2 none, Cond.fieldLink RX2 9 "StepRiders$Stair" "steps" "I", Cond.fieldLink RX2 15 "StepRiders$Stair" "speed" "I", Cond.fieldLink RX2 18 "StepRiders$Stair" "tick" "I", Cond.fieldLink RX2 21 "StepRiders$Stair" "riders" "I", Cond.fieldLink RX2 24 "StepRiders$Stair" "kind" "[I"]
def wsX5_findPaces_r2 : List Cond := [Cond.methodLink RX2 37 arraycopyName, Cond.fieldLink RX2 28 "StepRiders$Stair" "lane" "[I", Cond.fieldLink RX2 31 "StepRiders$Stair" "at" "[I", Cond.methodLink RX5 283 yX5_writePaces, Cond.instanceMethod yX5_writePaces, Cond.selects RX5 yX5_writePaces yX5_writePaces, Cond.code yX5_writePaces cX5_writePaces 7 (some .int), Cond.methodLink RX5 286 yX5_passLevels, Cond.instanceMethod yX5_passLevels, Cond.selects RX5 yX5_passLevels yX5_passLevels, Cond.code yX5_passLevels cX5_passLevels 5 none, Cond.fieldLink RX5 154 "StepRiders$Stair" "speed" "I", Cond.methodLink RX5 147 yX2_pass, Cond.instanceMethod yX2_pass, Cond.selects RX2 yX2_pass yX2_pass, Cond.code yX2_pass cX2_pass 3 (some .int), Cond.constant RX2 81 (-1000000), Cond.fieldLink RX2 34 "StepRiders$Stair" "turn" "[I", Cond.methodLink RX2 74 yX2_giveTurns, Cond.instanceMethod yX2_giveTurns, Cond.selects RX2 yX2_giveTurns yX2_giveTurns, Cond.code yX2_giveTurns cX2_giveTurns 2 none, Cond.methodLink RX2 92 yX2_goes, Cond.instanceMethod yX2_goes]
def wsX5_findPaces_r3 : List Cond := [Cond.selects RX2 yX2_goes yX2_goes, Cond.code yX2_goes cX2_goes 3 (some .boolean), Cond.methodLink RX2 47 yX2_isOn, Cond.instanceMethod yX2_isOn, Cond.selects RX2 yX2_isOn yX2_isOn, Cond.code yX2_isOn cX2_isOn 2 (some .boolean), Cond.methodLink RX2 77 yX2_nextInTurn, Cond.instanceMethod yX2_nextInTurn, Cond.selects RX2 yX2_nextInTurn yX2_nextInTurn, Cond.code yX2_nextInTurn cX2_nextInTurn 4 (some .int), Cond.methodLink RX2 82 yX2_go, Cond.instanceMethod yX2_go, Cond.selects RX2 yX2_go yX2_go, Cond.code yX2_go cX2_go 5 none, Cond.methodLink RX2 95 yX2_mayGo, Cond.instanceMethod yX2_mayGo, Cond.selects RX2 yX2_mayGo yX2_mayGo, Cond.code yX2_mayGo cX2_mayGo 3 (some .boolean), Cond.methodLink RX2 43 yX2_isFree, Cond.instanceMethod yX2_isFree, Cond.selects RX2 yX2_isFree yX2_isFree, Cond.code yX2_isFree cX2_isFree 5 (some .boolean), Cond.methodLink RX2 86 yX2_carry, Cond.instanceMethod yX2_carry]
def wsX5_findPaces_r4 : List Cond := [Cond.selects RX2 yX2_carry yX2_carry, Cond.code yX2_carry cX2_carry 3 (some .int), Cond.methodLink RX2 89 yX2_letOneOn, Cond.instanceMethod yX2_letOneOn, Cond.selects RX2 yX2_letOneOn yX2_letOneOn, Cond.code yX2_letOneOn cX2_letOneOn 2 none, Cond.methodLink RX5 289 yX5_sumOfPaces, Cond.instanceMethod yX5_sumOfPaces, Cond.selects RX5 yX5_sumOfPaces yX5_sumOfPaces, Cond.code yX5_sumOfPaces cX5_sumOfPaces 4 (some .int)]
def wsX5_findPaces : List Cond := .code yX5_findPaces cX5_findPaces 7 (some .int) :: ((wsX5_findPaces_r1 ++ (wsX5_findPaces_r2 ++ (wsX5_findPaces_r3 ++ wsX5_findPaces_r4))) ++ wsX50 ++ wsX20)
def wsX5_pace_r1 : List Cond := [Cond.constant RX5 73 (-1000001), Cond.constant RX5 121 (-1000000), Cond.fieldLink RX5 57 "StepRiders" "bestPaces" "[I", Cond.methodLink RX5 157 yX5_noRider, Cond.instanceMethod yX5_noRider, Cond.selects RX5 yX5_noRider yX5_noRider, Cond.initialized RX5, Cond.code yX5_noRider cX5_noRider 2 (some .boolean), Cond.fieldLink RX5 25 "StepRiders" "now" "LStepRiders$Stair;", Cond.fieldLink RX5 130 "StepRiders$Stair" "riders" "I", Cond.methodLink RX5 69 yX5_outside, Cond.static yX5_outside, Cond.code yX5_outside cX5_outside 3 (some .boolean), Cond.methodLink RX5 219 yX5_findPaces, Cond.instanceMethod yX5_findPaces, Cond.selects RX5 yX5_findPaces yX5_findPaces, Cond.code yX5_findPaces cX5_findPaces 7 (some .int), Cond.fieldLink RX5 50 "StepRiders" "levels" "[LStepRiders$Stair;", Cond.fieldLink RX5 160 "StepRiders$Stair" "at" "[I", Cond.fieldLink RX5 53 "StepRiders" "paces" "[I", Cond.methodLink RX5 102 arraycopyName, Cond.native arraycopyName, Cond.static arraycopyName, Cond.initialized "java/lang/System"]
def wsX5_pace_r2 : List Cond := [Cond.methodLink RX5 243 yX5_power, Cond.static yX5_power, Cond.code yX5_power cX5_power 4 (some .int), Cond.methodLink RX5 123 yX2_become, Cond.instanceMethod yX2_become, Cond.selects RX2 yX2_become yX2_become, Cond.initialized RX2, Cond.code yX2_become cX2_become 2 none, Cond.fieldLink RX2 9 "StepRiders$Stair" "steps" "I", Cond.fieldLink RX2 15 "StepRiders$Stair" "speed" "I", Cond.fieldLink RX2 18 "StepRiders$Stair" "tick" "I", Cond.fieldLink RX2 21 "StepRiders$Stair" "riders" "I", Cond.fieldLink RX2 24 "StepRiders$Stair" "kind" "[I", Cond.methodLink RX2 37 arraycopyName, Cond.fieldLink RX2 28 "StepRiders$Stair" "lane" "[I", Cond.fieldLink RX2 31 "StepRiders$Stair" "at" "[I", Cond.methodLink RX5 283 yX5_writePaces, Cond.instanceMethod yX5_writePaces, Cond.selects RX5 yX5_writePaces yX5_writePaces, Cond.code yX5_writePaces cX5_writePaces 7 (some .int), Cond.methodLink RX5 286 yX5_passLevels, Cond.instanceMethod yX5_passLevels, Cond.selects RX5 yX5_passLevels yX5_passLevels, Cond.code yX5_passLevels cX5_passLevels 5 none]
def wsX5_pace_r3 : List Cond := [Cond.fieldLink RX5 154 "StepRiders$Stair" "speed" "I", Cond.methodLink RX5 147 yX2_pass, Cond.instanceMethod yX2_pass, Cond.selects RX2 yX2_pass yX2_pass, Cond.code yX2_pass cX2_pass 3 (some .int), Cond.constant RX2 81 (-1000000), Cond.fieldLink RX2 34 "StepRiders$Stair" "turn" "[I", Cond.methodLink RX2 74 yX2_giveTurns, Cond.instanceMethod yX2_giveTurns, Cond.selects RX2 yX2_giveTurns yX2_giveTurns, Cond.code yX2_giveTurns cX2_giveTurns 2 none, Cond.methodLink RX2 92 yX2_goes, Cond.instanceMethod yX2_goes, Cond.selects RX2 yX2_goes yX2_goes, Cond.code yX2_goes cX2_goes 3 (some .boolean), Cond.methodLink RX2 47 yX2_isOn, Cond.instanceMethod yX2_isOn, Cond.selects RX2 yX2_isOn yX2_isOn, Cond.code yX2_isOn cX2_isOn 2 (some .boolean), Cond.methodLink RX2 77 yX2_nextInTurn, Cond.instanceMethod yX2_nextInTurn, Cond.selects RX2 yX2_nextInTurn yX2_nextInTurn, Cond.code yX2_nextInTurn cX2_nextInTurn 4 (some .int), Cond.methodLink RX2 82 yX2_go]
def wsX5_pace_r4 : List Cond := [Cond.instanceMethod yX2_go, Cond.selects RX2 yX2_go yX2_go, Cond.code yX2_go cX2_go 5 none, Cond.methodLink RX2 95 yX2_mayGo, Cond.instanceMethod yX2_mayGo, Cond.selects RX2 yX2_mayGo yX2_mayGo, Cond.code yX2_mayGo cX2_mayGo 3 (some .boolean), Cond.methodLink RX2 43 yX2_isFree, Cond.instanceMethod yX2_isFree, Cond.selects RX2 yX2_isFree yX2_isFree, Cond.code yX2_isFree cX2_isFree 5 (some .boolean), Cond.methodLink RX2 86 yX2_carry, Cond.instanceMethod yX2_carry, Cond.selects RX2 yX2_carry yX2_carry, Cond.code yX2_carry cX2_carry 3 (some .int), Cond.methodLink RX2 89 yX2_letOneOn, Cond.instanceMethod yX2_letOneOn, Cond.selects RX2 yX2_letOneOn yX2_letOneOn, Cond.code yX2_letOneOn cX2_letOneOn 2 none, Cond.methodLink RX5 289 yX5_sumOfPaces, Cond.instanceMethod yX5_sumOfPaces, Cond.selects RX5 yX5_sumOfPaces yX5_sumOfPaces, Cond.code yX5_sumOfPaces cX5_sumOfPaces 4 (some .int)]
def wsX5_pace : List Cond := .code yX5_pace cX5_pace 5 (some .int) :: ((wsX5_pace_r1 ++ (wsX5_pace_r2 ++ (wsX5_pace_r3 ++ wsX5_pace_r4))) ++ wsX50 ++ wsX20)
def wsX5_trialFits_r1 : List Cond := [Cond.fieldLink RX5 47 "StepRiders" "trial" "LStepRiders$Stair;", Cond.fieldLink RX5 160 "StepRiders$Stair" "at" "[I", Cond.fieldLink RX5 93 "StepRiders$Row" "items" "[I", Cond.methodLink RX5 147 yX2_pass, Cond.instanceMethod yX2_pass, Cond.selects RX2 yX2_pass yX2_pass, Cond.initialized RX2, Cond.code yX2_pass cX2_pass 3 (some .int), Cond.fieldLink RX2 21 "StepRiders$Stair" "riders" "I", Cond.constant RX2 81 (-1000000), Cond.fieldLink RX2 34 "StepRiders$Stair" "turn" "[I", Cond.fieldLink RX2 18 "StepRiders$Stair" "tick" "I", Cond.methodLink RX2 74 yX2_giveTurns, Cond.instanceMethod yX2_giveTurns, Cond.selects RX2 yX2_giveTurns yX2_giveTurns, Cond.code yX2_giveTurns cX2_giveTurns 2 none, Cond.fieldLink RX2 31 "StepRiders$Stair" "at" "[I", Cond.fieldLink RX2 28 "StepRiders$Stair" "lane" "[I", Cond.methodLink RX2 92 yX2_goes, Cond.instanceMethod yX2_goes, Cond.selects RX2 yX2_goes yX2_goes, Cond.code yX2_goes cX2_goes 3 (some .boolean), Cond.fieldLink RX2 24 "StepRiders$Stair" "kind" "[I", Cond.methodLink RX2 47 yX2_isOn]
def wsX5_trialFits_r2 : List Cond := [Cond.instanceMethod yX2_isOn, Cond.selects RX2 yX2_isOn yX2_isOn, Cond.code yX2_isOn cX2_isOn 2 (some .boolean), Cond.fieldLink RX2 9 "StepRiders$Stair" "steps" "I", Cond.methodLink RX2 77 yX2_nextInTurn, Cond.instanceMethod yX2_nextInTurn, Cond.selects RX2 yX2_nextInTurn yX2_nextInTurn, Cond.code yX2_nextInTurn cX2_nextInTurn 4 (some .int), Cond.methodLink RX2 82 yX2_go, Cond.instanceMethod yX2_go, Cond.selects RX2 yX2_go yX2_go, Cond.code yX2_go cX2_go 5 none, Cond.methodLink RX2 95 yX2_mayGo, Cond.instanceMethod yX2_mayGo, Cond.selects RX2 yX2_mayGo yX2_mayGo, Cond.code yX2_mayGo cX2_mayGo 3 (some .boolean), Cond.methodLink RX2 43 yX2_isFree, Cond.instanceMethod yX2_isFree, Cond.selects RX2 yX2_isFree yX2_isFree, Cond.code yX2_isFree cX2_isFree 5 (some .boolean), Cond.methodLink RX2 86 yX2_carry, Cond.instanceMethod yX2_carry, Cond.selects RX2 yX2_carry yX2_carry, Cond.code yX2_carry cX2_carry 3 (some .int)]
def wsX5_trialFits_r3 : List Cond := [Cond.fieldLink RX2 15 "StepRiders$Stair" "speed" "I", Cond.methodLink RX2 89 yX2_letOneOn, Cond.instanceMethod yX2_letOneOn, Cond.selects RX2 yX2_letOneOn yX2_letOneOn, Cond.code yX2_letOneOn cX2_letOneOn 2 none]
def wsX5_trialFits : List Cond := .code yX5_trialFits cX5_trialFits 6 (some .boolean) :: ((wsX5_trialFits_r1 ++ (wsX5_trialFits_r2 ++ wsX5_trialFits_r3)) ++ wsX50 ++ wsX20 ++ wsX10)
def wsX5_kindsThatFit_r1 : List Cond := [Cond.fieldLink RX5 47 "StepRiders" "trial" "LStepRiders$Stair;", Cond.fieldLink RX5 25 "StepRiders" "now" "LStepRiders$Stair;", Cond.fieldLink RX5 257 "StepRiders$Stair" "kind" "[I", Cond.methodLink RX5 123 yX2_become, Cond.instanceMethod yX2_become, Cond.selects RX2 yX2_become yX2_become, Cond.initialized RX2, Cond.code yX2_become cX2_become 2 none, Cond.fieldLink RX2 9 "StepRiders$Stair" "steps" "I", Cond.fieldLink RX2 15 "StepRiders$Stair" "speed" "I", Cond.fieldLink RX2 18 "StepRiders$Stair" "tick" "I", Cond.fieldLink RX2 21 "StepRiders$Stair" "riders" "I", Cond.fieldLink RX2 24 "StepRiders$Stair" "kind" "[I", Cond.methodLink RX2 37 arraycopyName, Cond.native arraycopyName, Cond.static arraycopyName, Cond.initialized "java/lang/System", Cond.fieldLink RX2 28 "StepRiders$Stair" "lane" "[I", Cond.fieldLink RX2 31 "StepRiders$Stair" "at" "[I", Cond.methodLink RX5 292 yX5_trialFits, Cond.instanceMethod yX5_trialFits, Cond.selects RX5 yX5_trialFits yX5_trialFits, Cond.initialized RX5, Cond.code yX5_trialFits cX5_trialFits 6 (some .boolean)]
def wsX5_kindsThatFit_r2 : List Cond := [Cond.fieldLink RX5 160 "StepRiders$Stair" "at" "[I", Cond.fieldLink RX5 93 "StepRiders$Row" "items" "[I", Cond.methodLink RX5 147 yX2_pass, Cond.instanceMethod yX2_pass, Cond.selects RX2 yX2_pass yX2_pass, Cond.code yX2_pass cX2_pass 3 (some .int), Cond.constant RX2 81 (-1000000), Cond.fieldLink RX2 34 "StepRiders$Stair" "turn" "[I", Cond.methodLink RX2 74 yX2_giveTurns, Cond.instanceMethod yX2_giveTurns, Cond.selects RX2 yX2_giveTurns yX2_giveTurns, Cond.code yX2_giveTurns cX2_giveTurns 2 none, Cond.methodLink RX2 92 yX2_goes, Cond.instanceMethod yX2_goes, Cond.selects RX2 yX2_goes yX2_goes, Cond.code yX2_goes cX2_goes 3 (some .boolean), Cond.methodLink RX2 47 yX2_isOn, Cond.instanceMethod yX2_isOn, Cond.selects RX2 yX2_isOn yX2_isOn, Cond.code yX2_isOn cX2_isOn 2 (some .boolean), Cond.methodLink RX2 77 yX2_nextInTurn, Cond.instanceMethod yX2_nextInTurn, Cond.selects RX2 yX2_nextInTurn yX2_nextInTurn, Cond.code yX2_nextInTurn cX2_nextInTurn 4 (some .int)]
def wsX5_kindsThatFit_r3 : List Cond := [Cond.methodLink RX2 82 yX2_go, Cond.instanceMethod yX2_go, Cond.selects RX2 yX2_go yX2_go, Cond.code yX2_go cX2_go 5 none, Cond.methodLink RX2 95 yX2_mayGo, Cond.instanceMethod yX2_mayGo, Cond.selects RX2 yX2_mayGo yX2_mayGo, Cond.code yX2_mayGo cX2_mayGo 3 (some .boolean), Cond.methodLink RX2 43 yX2_isFree, Cond.instanceMethod yX2_isFree, Cond.selects RX2 yX2_isFree yX2_isFree, Cond.code yX2_isFree cX2_isFree 5 (some .boolean), Cond.methodLink RX2 86 yX2_carry, Cond.instanceMethod yX2_carry, Cond.selects RX2 yX2_carry yX2_carry, Cond.code yX2_carry cX2_carry 3 (some .int), Cond.methodLink RX2 89 yX2_letOneOn, Cond.instanceMethod yX2_letOneOn, Cond.selects RX2 yX2_letOneOn yX2_letOneOn, Cond.code yX2_letOneOn cX2_letOneOn 2 none, Cond.methodLink RX5 181 yX5_oneIf, Cond.static yX5_oneIf, Cond.code yX5_oneIf cX5_oneIf 1 (some .int)]
def wsX5_kindsThatFit : List Cond := .code yX5_kindsThatFit cX5_kindsThatFit 7 (some .int) :: ((wsX5_kindsThatFit_r1 ++ (wsX5_kindsThatFit_r2 ++ wsX5_kindsThatFit_r3)) ++ wsX50 ++ wsX20 ++ wsX10)
def wsX5_lanesThatFit_r1 : List Cond := [Cond.fieldLink RX5 47 "StepRiders" "trial" "LStepRiders$Stair;", Cond.fieldLink RX5 25 "StepRiders" "now" "LStepRiders$Stair;", Cond.fieldLink RX5 166 "StepRiders$Stair" "lane" "[I", Cond.methodLink RX5 123 yX2_become, Cond.instanceMethod yX2_become, Cond.selects RX2 yX2_become yX2_become, Cond.initialized RX2, Cond.code yX2_become cX2_become 2 none, Cond.fieldLink RX2 9 "StepRiders$Stair" "steps" "I", Cond.fieldLink RX2 15 "StepRiders$Stair" "speed" "I", Cond.fieldLink RX2 18 "StepRiders$Stair" "tick" "I", Cond.fieldLink RX2 21 "StepRiders$Stair" "riders" "I", Cond.fieldLink RX2 24 "StepRiders$Stair" "kind" "[I", Cond.methodLink RX2 37 arraycopyName, Cond.native arraycopyName, Cond.static arraycopyName, Cond.initialized "java/lang/System", Cond.fieldLink RX2 28 "StepRiders$Stair" "lane" "[I", Cond.fieldLink RX2 31 "StepRiders$Stair" "at" "[I", Cond.methodLink RX5 292 yX5_trialFits, Cond.instanceMethod yX5_trialFits, Cond.selects RX5 yX5_trialFits yX5_trialFits, Cond.initialized RX5, Cond.code yX5_trialFits cX5_trialFits 6 (some .boolean)]
def wsX5_lanesThatFit_r2 : List Cond := [Cond.fieldLink RX5 160 "StepRiders$Stair" "at" "[I", Cond.fieldLink RX5 93 "StepRiders$Row" "items" "[I", Cond.methodLink RX5 147 yX2_pass, Cond.instanceMethod yX2_pass, Cond.selects RX2 yX2_pass yX2_pass, Cond.code yX2_pass cX2_pass 3 (some .int), Cond.constant RX2 81 (-1000000), Cond.fieldLink RX2 34 "StepRiders$Stair" "turn" "[I", Cond.methodLink RX2 74 yX2_giveTurns, Cond.instanceMethod yX2_giveTurns, Cond.selects RX2 yX2_giveTurns yX2_giveTurns, Cond.code yX2_giveTurns cX2_giveTurns 2 none, Cond.methodLink RX2 92 yX2_goes, Cond.instanceMethod yX2_goes, Cond.selects RX2 yX2_goes yX2_goes, Cond.code yX2_goes cX2_goes 3 (some .boolean), Cond.methodLink RX2 47 yX2_isOn, Cond.instanceMethod yX2_isOn, Cond.selects RX2 yX2_isOn yX2_isOn, Cond.code yX2_isOn cX2_isOn 2 (some .boolean), Cond.methodLink RX2 77 yX2_nextInTurn, Cond.instanceMethod yX2_nextInTurn, Cond.selects RX2 yX2_nextInTurn yX2_nextInTurn, Cond.code yX2_nextInTurn cX2_nextInTurn 4 (some .int)]
def wsX5_lanesThatFit_r3 : List Cond := [Cond.methodLink RX2 82 yX2_go, Cond.instanceMethod yX2_go, Cond.selects RX2 yX2_go yX2_go, Cond.code yX2_go cX2_go 5 none, Cond.methodLink RX2 95 yX2_mayGo, Cond.instanceMethod yX2_mayGo, Cond.selects RX2 yX2_mayGo yX2_mayGo, Cond.code yX2_mayGo cX2_mayGo 3 (some .boolean), Cond.methodLink RX2 43 yX2_isFree, Cond.instanceMethod yX2_isFree, Cond.selects RX2 yX2_isFree yX2_isFree, Cond.code yX2_isFree cX2_isFree 5 (some .boolean), Cond.methodLink RX2 86 yX2_carry, Cond.instanceMethod yX2_carry, Cond.selects RX2 yX2_carry yX2_carry, Cond.code yX2_carry cX2_carry 3 (some .int), Cond.methodLink RX2 89 yX2_letOneOn, Cond.instanceMethod yX2_letOneOn, Cond.selects RX2 yX2_letOneOn yX2_letOneOn, Cond.code yX2_letOneOn cX2_letOneOn 2 none, Cond.methodLink RX5 181 yX5_oneIf, Cond.static yX5_oneIf, Cond.code yX5_oneIf cX5_oneIf 1 (some .int)]
def wsX5_lanesThatFit : List Cond := .code yX5_lanesThatFit cX5_lanesThatFit 7 (some .int) :: ((wsX5_lanesThatFit_r1 ++ (wsX5_lanesThatFit_r2 ++ wsX5_lanesThatFit_r3)) ++ wsX50 ++ wsX20 ++ wsX10)
def wsX5_speedsThatFit_r1 : List Cond := [Cond.fieldLink RX5 47 "StepRiders" "trial" "LStepRiders$Stair;", Cond.fieldLink RX5 25 "StepRiders" "now" "LStepRiders$Stair;", Cond.fieldLink RX5 154 "StepRiders$Stair" "speed" "I", Cond.methodLink RX5 123 yX2_become, Cond.instanceMethod yX2_become, Cond.selects RX2 yX2_become yX2_become, Cond.initialized RX2, Cond.code yX2_become cX2_become 2 none, Cond.fieldLink RX2 9 "StepRiders$Stair" "steps" "I", Cond.fieldLink RX2 15 "StepRiders$Stair" "speed" "I", Cond.fieldLink RX2 18 "StepRiders$Stair" "tick" "I", Cond.fieldLink RX2 21 "StepRiders$Stair" "riders" "I", Cond.fieldLink RX2 24 "StepRiders$Stair" "kind" "[I", Cond.methodLink RX2 37 arraycopyName, Cond.native arraycopyName, Cond.static arraycopyName, Cond.initialized "java/lang/System", Cond.fieldLink RX2 28 "StepRiders$Stair" "lane" "[I", Cond.fieldLink RX2 31 "StepRiders$Stair" "at" "[I", Cond.methodLink RX5 292 yX5_trialFits, Cond.instanceMethod yX5_trialFits, Cond.selects RX5 yX5_trialFits yX5_trialFits, Cond.initialized RX5, Cond.code yX5_trialFits cX5_trialFits 6 (some .boolean)]
def wsX5_speedsThatFit_r2 : List Cond := [Cond.fieldLink RX5 160 "StepRiders$Stair" "at" "[I", Cond.fieldLink RX5 93 "StepRiders$Row" "items" "[I", Cond.methodLink RX5 147 yX2_pass, Cond.instanceMethod yX2_pass, Cond.selects RX2 yX2_pass yX2_pass, Cond.code yX2_pass cX2_pass 3 (some .int), Cond.constant RX2 81 (-1000000), Cond.fieldLink RX2 34 "StepRiders$Stair" "turn" "[I", Cond.methodLink RX2 74 yX2_giveTurns, Cond.instanceMethod yX2_giveTurns, Cond.selects RX2 yX2_giveTurns yX2_giveTurns, Cond.code yX2_giveTurns cX2_giveTurns 2 none, Cond.methodLink RX2 92 yX2_goes, Cond.instanceMethod yX2_goes, Cond.selects RX2 yX2_goes yX2_goes, Cond.code yX2_goes cX2_goes 3 (some .boolean), Cond.methodLink RX2 47 yX2_isOn, Cond.instanceMethod yX2_isOn, Cond.selects RX2 yX2_isOn yX2_isOn, Cond.code yX2_isOn cX2_isOn 2 (some .boolean), Cond.methodLink RX2 77 yX2_nextInTurn, Cond.instanceMethod yX2_nextInTurn, Cond.selects RX2 yX2_nextInTurn yX2_nextInTurn, Cond.code yX2_nextInTurn cX2_nextInTurn 4 (some .int)]
def wsX5_speedsThatFit_r3 : List Cond := [Cond.methodLink RX2 82 yX2_go, Cond.instanceMethod yX2_go, Cond.selects RX2 yX2_go yX2_go, Cond.code yX2_go cX2_go 5 none, Cond.methodLink RX2 95 yX2_mayGo, Cond.instanceMethod yX2_mayGo, Cond.selects RX2 yX2_mayGo yX2_mayGo, Cond.code yX2_mayGo cX2_mayGo 3 (some .boolean), Cond.methodLink RX2 43 yX2_isFree, Cond.instanceMethod yX2_isFree, Cond.selects RX2 yX2_isFree yX2_isFree, Cond.code yX2_isFree cX2_isFree 5 (some .boolean), Cond.methodLink RX2 86 yX2_carry, Cond.instanceMethod yX2_carry, Cond.selects RX2 yX2_carry yX2_carry, Cond.code yX2_carry cX2_carry 3 (some .int), Cond.methodLink RX2 89 yX2_letOneOn, Cond.instanceMethod yX2_letOneOn, Cond.selects RX2 yX2_letOneOn yX2_letOneOn, Cond.code yX2_letOneOn cX2_letOneOn 2 none, Cond.methodLink RX5 181 yX5_oneIf, Cond.static yX5_oneIf, Cond.code yX5_oneIf cX5_oneIf 1 (some .int)]
def wsX5_speedsThatFit : List Cond := .code yX5_speedsThatFit cX5_speedsThatFit 7 (some .int) :: ((wsX5_speedsThatFit_r1 ++ (wsX5_speedsThatFit_r2 ++ wsX5_speedsThatFit_r3)) ++ wsX50 ++ wsX20 ++ wsX10)
def wsX5_startsThatFit_r1 : List Cond := [Cond.fieldLink RX5 25 "StepRiders" "now" "LStepRiders$Stair;", Cond.fieldLink RX5 191 "StepRiders$Stair" "steps" "I", Cond.fieldLink RX5 47 "StepRiders" "trial" "LStepRiders$Stair;", Cond.fieldLink RX5 160 "StepRiders$Stair" "at" "[I", Cond.methodLink RX5 185 yX2_isOn, Cond.instanceMethod yX2_isOn, Cond.selects RX2 yX2_isOn yX2_isOn, Cond.initialized RX2, Cond.code yX2_isOn cX2_isOn 2 (some .boolean), Cond.fieldLink RX2 31 "StepRiders$Stair" "at" "[I", Cond.fieldLink RX2 9 "StepRiders$Stair" "steps" "I", Cond.methodLink RX5 296 yX2_isFree, Cond.instanceMethod yX2_isFree, Cond.selects RX2 yX2_isFree yX2_isFree, Cond.code yX2_isFree cX2_isFree 5 (some .boolean), Cond.fieldLink RX2 24 "StepRiders$Stair" "kind" "[I", Cond.fieldLink RX2 21 "StepRiders$Stair" "riders" "I", Cond.fieldLink RX2 28 "StepRiders$Stair" "lane" "[I", Cond.methodLink RX5 123 yX2_become, Cond.instanceMethod yX2_become, Cond.selects RX2 yX2_become yX2_become, Cond.code yX2_become cX2_become 2 none, Cond.fieldLink RX2 15 "StepRiders$Stair" "speed" "I", Cond.fieldLink RX2 18 "StepRiders$Stair" "tick" "I"]
def wsX5_startsThatFit_r2 : List Cond := [Cond.methodLink RX2 37 arraycopyName, Cond.native arraycopyName, Cond.static arraycopyName, Cond.initialized "java/lang/System", Cond.methodLink RX5 292 yX5_trialFits, Cond.instanceMethod yX5_trialFits, Cond.selects RX5 yX5_trialFits yX5_trialFits, Cond.initialized RX5, Cond.code yX5_trialFits cX5_trialFits 6 (some .boolean), Cond.fieldLink RX5 93 "StepRiders$Row" "items" "[I", Cond.methodLink RX5 147 yX2_pass, Cond.instanceMethod yX2_pass, Cond.selects RX2 yX2_pass yX2_pass, Cond.code yX2_pass cX2_pass 3 (some .int), Cond.constant RX2 81 (-1000000), Cond.fieldLink RX2 34 "StepRiders$Stair" "turn" "[I", Cond.methodLink RX2 74 yX2_giveTurns, Cond.instanceMethod yX2_giveTurns, Cond.selects RX2 yX2_giveTurns yX2_giveTurns, Cond.code yX2_giveTurns cX2_giveTurns 2 none, Cond.methodLink RX2 92 yX2_goes, Cond.instanceMethod yX2_goes, Cond.selects RX2 yX2_goes yX2_goes, Cond.code yX2_goes cX2_goes 3 (some .boolean)]
def wsX5_startsThatFit_r3 : List Cond := [Cond.methodLink RX2 47 yX2_isOn, Cond.methodLink RX2 77 yX2_nextInTurn, Cond.instanceMethod yX2_nextInTurn, Cond.selects RX2 yX2_nextInTurn yX2_nextInTurn, Cond.code yX2_nextInTurn cX2_nextInTurn 4 (some .int), Cond.methodLink RX2 82 yX2_go, Cond.instanceMethod yX2_go, Cond.selects RX2 yX2_go yX2_go, Cond.code yX2_go cX2_go 5 none, Cond.methodLink RX2 95 yX2_mayGo, Cond.instanceMethod yX2_mayGo, Cond.selects RX2 yX2_mayGo yX2_mayGo, Cond.code yX2_mayGo cX2_mayGo 3 (some .boolean), Cond.methodLink RX2 43 yX2_isFree, Cond.methodLink RX2 86 yX2_carry, Cond.instanceMethod yX2_carry, Cond.selects RX2 yX2_carry yX2_carry, Cond.code yX2_carry cX2_carry 3 (some .int), Cond.methodLink RX2 89 yX2_letOneOn, Cond.instanceMethod yX2_letOneOn, Cond.selects RX2 yX2_letOneOn yX2_letOneOn, Cond.code yX2_letOneOn cX2_letOneOn 2 none, Cond.methodLink RX5 181 yX5_oneIf, Cond.static yX5_oneIf]
def wsX5_startsThatFit_r4 : List Cond := [Cond.code yX5_oneIf cX5_oneIf 1 (some .int)]
def wsX5_startsThatFit : List Cond := .code yX5_startsThatFit cX5_startsThatFit 7 (some .int) :: ((wsX5_startsThatFit_r1 ++ (wsX5_startsThatFit_r2 ++ (wsX5_startsThatFit_r3 ++ wsX5_startsThatFit_r4))) ++ wsX50 ++ wsX20 ++ wsX10)
def wsX5_fits_r1 : List Cond := [Cond.constant RX5 73 (-1000001), Cond.fieldLink RX5 11 "StepRiders" "rows" "[LStepRiders$Row;", Cond.fieldLink RX5 85 "StepRiders$Row" "missing" "Z", Cond.methodLink RX5 157 yX5_noRider, Cond.instanceMethod yX5_noRider, Cond.selects RX5 yX5_noRider yX5_noRider, Cond.initialized RX5, Cond.code yX5_noRider cX5_noRider 2 (some .boolean), Cond.fieldLink RX5 25 "StepRiders" "now" "LStepRiders$Stair;", Cond.fieldLink RX5 130 "StepRiders$Stair" "riders" "I", Cond.methodLink RX5 69 yX5_outside, Cond.static yX5_outside, Cond.code yX5_outside cX5_outside 3 (some .boolean), Cond.methodLink RX5 65 yX5_noRow, Cond.static yX5_noRow, Cond.code yX5_noRow cX5_noRow 1 (some .boolean), Cond.methodLink RX5 74 yX5_found, Cond.instanceMethod yX5_found, Cond.selects RX5 yX5_found yX5_found, Cond.code yX5_found cX5_found 2 (some .int), Cond.fieldLink RX5 60 "StepRiders" "finding" "I", Cond.constant RX5 277 (-1000010), Cond.methodLink RX5 89 yX1_holds, Cond.instanceMethod yX1_holds]
def wsX5_fits_r2 : List Cond := [Cond.selects RX1 yX1_holds yX1_holds, Cond.initialized RX1, Cond.code yX1_holds cX1_holds 3 (some .boolean), Cond.fieldLink RX1 23 "StepRiders$Row" "length" "I", Cond.methodLink RX5 222 yX5_kindsThatFit, Cond.instanceMethod yX5_kindsThatFit, Cond.selects RX5 yX5_kindsThatFit yX5_kindsThatFit, Cond.code yX5_kindsThatFit cX5_kindsThatFit 7 (some .int), Cond.fieldLink RX5 47 "StepRiders" "trial" "LStepRiders$Stair;", Cond.fieldLink RX5 257 "StepRiders$Stair" "kind" "[I", Cond.methodLink RX5 123 yX2_become, Cond.instanceMethod yX2_become, Cond.selects RX2 yX2_become yX2_become, Cond.initialized RX2, Cond.code yX2_become cX2_become 2 none, Cond.fieldLink RX2 9 "StepRiders$Stair" "steps" "I", Cond.fieldLink RX2 15 "StepRiders$Stair" "speed" "I", Cond.fieldLink RX2 18 "StepRiders$Stair" "tick" "I", Cond.fieldLink RX2 21 "StepRiders$Stair" "riders" "I", Cond.fieldLink RX2 24 "StepRiders$Stair" "kind" "[I", Cond.methodLink RX2 37 arraycopyName, Cond.native arraycopyName, Cond.static arraycopyName, Cond.initialized "java/lang/System"]
def wsX5_fits_r3 : List Cond := [Cond.fieldLink RX2 28 "StepRiders$Stair" "lane" "[I", Cond.fieldLink RX2 31 "StepRiders$Stair" "at" "[I", Cond.methodLink RX5 292 yX5_trialFits, Cond.instanceMethod yX5_trialFits, Cond.selects RX5 yX5_trialFits yX5_trialFits, Cond.code yX5_trialFits cX5_trialFits 6 (some .boolean), Cond.fieldLink RX5 160 "StepRiders$Stair" "at" "[I", Cond.fieldLink RX5 93 "StepRiders$Row" "items" "[I", Cond.methodLink RX5 147 yX2_pass, Cond.instanceMethod yX2_pass, Cond.selects RX2 yX2_pass yX2_pass, Cond.code yX2_pass cX2_pass 3 (some .int), Cond.constant RX2 81 (-1000000), Cond.fieldLink RX2 34 "StepRiders$Stair" "turn" "[I", Cond.methodLink RX2 74 yX2_giveTurns, Cond.instanceMethod yX2_giveTurns, Cond.selects RX2 yX2_giveTurns yX2_giveTurns, Cond.code yX2_giveTurns cX2_giveTurns 2 none, Cond.methodLink RX2 92 yX2_goes, Cond.instanceMethod yX2_goes, Cond.selects RX2 yX2_goes yX2_goes, Cond.code yX2_goes cX2_goes 3 (some .boolean), Cond.methodLink RX2 47 yX2_isOn, Cond.instanceMethod yX2_isOn]
def wsX5_fits_r4 : List Cond := [Cond.selects RX2 yX2_isOn yX2_isOn, Cond.code yX2_isOn cX2_isOn 2 (some .boolean), Cond.methodLink RX2 77 yX2_nextInTurn, Cond.instanceMethod yX2_nextInTurn, Cond.selects RX2 yX2_nextInTurn yX2_nextInTurn, Cond.code yX2_nextInTurn cX2_nextInTurn 4 (some .int), Cond.methodLink RX2 82 yX2_go, Cond.instanceMethod yX2_go, Cond.selects RX2 yX2_go yX2_go, Cond.code yX2_go cX2_go 5 none, Cond.methodLink RX2 95 yX2_mayGo, Cond.instanceMethod yX2_mayGo, Cond.selects RX2 yX2_mayGo yX2_mayGo, Cond.code yX2_mayGo cX2_mayGo 3 (some .boolean), Cond.methodLink RX2 43 yX2_isFree, Cond.instanceMethod yX2_isFree, Cond.selects RX2 yX2_isFree yX2_isFree, Cond.code yX2_isFree cX2_isFree 5 (some .boolean), Cond.methodLink RX2 86 yX2_carry, Cond.instanceMethod yX2_carry, Cond.selects RX2 yX2_carry yX2_carry, Cond.code yX2_carry cX2_carry 3 (some .int), Cond.methodLink RX2 89 yX2_letOneOn, Cond.instanceMethod yX2_letOneOn]
def wsX5_fits_r5 : List Cond := [Cond.selects RX2 yX2_letOneOn yX2_letOneOn, Cond.code yX2_letOneOn cX2_letOneOn 2 none, Cond.methodLink RX5 181 yX5_oneIf, Cond.static yX5_oneIf, Cond.code yX5_oneIf cX5_oneIf 1 (some .int), Cond.methodLink RX5 82 yX5_fine, Cond.instanceMethod yX5_fine, Cond.selects RX5 yX5_fine yX5_fine, Cond.code yX5_fine cX5_fine 2 (some .int), Cond.methodLink RX5 226 yX5_lanesThatFit, Cond.instanceMethod yX5_lanesThatFit, Cond.selects RX5 yX5_lanesThatFit yX5_lanesThatFit, Cond.code yX5_lanesThatFit cX5_lanesThatFit 7 (some .int), Cond.fieldLink RX5 166 "StepRiders$Stair" "lane" "[I", Cond.methodLink RX5 229 yX5_speedsThatFit, Cond.instanceMethod yX5_speedsThatFit, Cond.selects RX5 yX5_speedsThatFit yX5_speedsThatFit, Cond.code yX5_speedsThatFit cX5_speedsThatFit 7 (some .int), Cond.fieldLink RX5 154 "StepRiders$Stair" "speed" "I", Cond.methodLink RX5 232 yX5_startsThatFit, Cond.instanceMethod yX5_startsThatFit, Cond.selects RX5 yX5_startsThatFit yX5_startsThatFit, Cond.code yX5_startsThatFit cX5_startsThatFit 7 (some .int), Cond.fieldLink RX5 191 "StepRiders$Stair" "steps" "I"]
def wsX5_fits_r6 : List Cond := [Cond.methodLink RX5 185 yX2_isOn, Cond.methodLink RX5 296 yX2_isFree]
def wsX5_fits : List Cond := .code yX5_fits cX5_fits 7 (some .int) :: ((wsX5_fits_r1 ++ (wsX5_fits_r2 ++ (wsX5_fits_r3 ++ (wsX5_fits_r4 ++ (wsX5_fits_r5 ++ wsX5_fits_r6))))) ++ wsX50 ++ wsX10 ++ wsX20)
def wsX5_greatestDivisor : List Cond := .code yX5_greatestDivisor cX5_greatestDivisor 6 (some .int) :: ([.methodLink RX5 278 Lib.Math.max.name, .static Lib.Math.max.name, .initialized "java/lang/Math", .code Lib.Math.max.name Lib.Math.max.code 2 (some .int)])
def wsX5_absent_r1 : List Cond := [Cond.constant RX5 73 (-1000001), Cond.fieldLink RX5 25 "StepRiders" "now" "LStepRiders$Stair;", Cond.fieldLink RX5 47 "StepRiders" "trial" "LStepRiders$Stair;", Cond.constant RX5 121 (-1000000), Cond.methodLink RX5 157 yX5_noRider, Cond.instanceMethod yX5_noRider, Cond.selects RX5 yX5_noRider yX5_noRider, Cond.initialized RX5, Cond.code yX5_noRider cX5_noRider 2 (some .boolean), Cond.fieldLink RX5 130 "StepRiders$Stair" "riders" "I", Cond.methodLink RX5 69 yX5_outside, Cond.static yX5_outside, Cond.code yX5_outside cX5_outside 3 (some .boolean), Cond.methodLink RX5 210 yX2_whoIsAt, Cond.instanceMethod yX2_whoIsAt, Cond.selects RX2 yX2_whoIsAt yX2_whoIsAt, Cond.initialized RX2, Cond.code yX2_whoIsAt cX2_whoIsAt 4 (some .int), Cond.fieldLink RX2 21 "StepRiders$Stair" "riders" "I", Cond.fieldLink RX2 31 "StepRiders$Stair" "at" "[I", Cond.methodLink RX5 235 yJ6_bitCount_0f7a4, Cond.static yJ6_bitCount_0f7a4, Cond.initialized RJ6, Cond.code yJ6_bitCount_0f7a4 cJ6_bitCount_0f7a4 1 (some .int)]
def wsX5_absent_r2 : List Cond := [Cond.constant RJ6 265 (1431655765), Cond.constant RJ6 266 (858993459), Cond.constant RJ6 267 (252645135), Cond.methodLink RX5 123 yX2_become, Cond.instanceMethod yX2_become, Cond.selects RX2 yX2_become yX2_become, Cond.code yX2_become cX2_become 2 none, Cond.fieldLink RX2 9 "StepRiders$Stair" "steps" "I", Cond.fieldLink RX2 15 "StepRiders$Stair" "speed" "I", Cond.fieldLink RX2 18 "StepRiders$Stair" "tick" "I", Cond.fieldLink RX2 24 "StepRiders$Stair" "kind" "[I", Cond.methodLink RX2 37 arraycopyName, Cond.native arraycopyName, Cond.static arraycopyName, Cond.initialized "java/lang/System", Cond.fieldLink RX2 28 "StepRiders$Stair" "lane" "[I", Cond.methodLink RX5 240 yX2_takeOff, Cond.instanceMethod yX2_takeOff, Cond.selects RX2 yX2_takeOff yX2_takeOff, Cond.code yX2_takeOff cX2_takeOff 3 none, Cond.methodLink RX5 204 yX2_passUntilOff, Cond.instanceMethod yX2_passUntilOff, Cond.selects RX2 yX2_passUntilOff yX2_passUntilOff, Cond.code yX2_passUntilOff cX2_passUntilOff 4 (some .int)]
def wsX5_absent_r3 : List Cond := [Cond.constant RX2 81 (-1000000), Cond.methodLink RX2 98 yX2_nobodyGoesOff, Cond.instanceMethod yX2_nobodyGoesOff, Cond.selects RX2 yX2_nobodyGoesOff yX2_nobodyGoesOff, Cond.code yX2_nobodyGoesOff cX2_nobodyGoesOff 1 (some .boolean), Cond.methodLink RX2 102 yX2_pass, Cond.instanceMethod yX2_pass, Cond.selects RX2 yX2_pass yX2_pass, Cond.code yX2_pass cX2_pass 3 (some .int), Cond.fieldLink RX2 34 "StepRiders$Stair" "turn" "[I", Cond.methodLink RX2 74 yX2_giveTurns, Cond.instanceMethod yX2_giveTurns, Cond.selects RX2 yX2_giveTurns yX2_giveTurns, Cond.code yX2_giveTurns cX2_giveTurns 2 none, Cond.methodLink RX2 92 yX2_goes, Cond.instanceMethod yX2_goes, Cond.selects RX2 yX2_goes yX2_goes, Cond.code yX2_goes cX2_goes 3 (some .boolean), Cond.methodLink RX2 47 yX2_isOn, Cond.instanceMethod yX2_isOn, Cond.selects RX2 yX2_isOn yX2_isOn, Cond.code yX2_isOn cX2_isOn 2 (some .boolean), Cond.methodLink RX2 77 yX2_nextInTurn, Cond.instanceMethod yX2_nextInTurn]
def wsX5_absent_r4 : List Cond := [Cond.selects RX2 yX2_nextInTurn yX2_nextInTurn, Cond.code yX2_nextInTurn cX2_nextInTurn 4 (some .int), Cond.methodLink RX2 82 yX2_go, Cond.instanceMethod yX2_go, Cond.selects RX2 yX2_go yX2_go, Cond.code yX2_go cX2_go 5 none, Cond.methodLink RX2 95 yX2_mayGo, Cond.instanceMethod yX2_mayGo, Cond.selects RX2 yX2_mayGo yX2_mayGo, Cond.code yX2_mayGo cX2_mayGo 3 (some .boolean), Cond.methodLink RX2 43 yX2_isFree, Cond.instanceMethod yX2_isFree, Cond.selects RX2 yX2_isFree yX2_isFree, Cond.code yX2_isFree cX2_isFree 5 (some .boolean), Cond.methodLink RX2 86 yX2_carry, Cond.instanceMethod yX2_carry, Cond.selects RX2 yX2_carry yX2_carry, Cond.code yX2_carry cX2_carry 3 (some .int), Cond.methodLink RX2 89 yX2_letOneOn, Cond.instanceMethod yX2_letOneOn, Cond.selects RX2 yX2_letOneOn yX2_letOneOn, Cond.code yX2_letOneOn cX2_letOneOn 2 none, Cond.methodLink RX5 243 yX5_power, Cond.static yX5_power]
def wsX5_absent_r5 : List Cond := [Cond.code yX5_power cX5_power 4 (some .int), Cond.methodLink RX5 216 yX5_nextSubset, Cond.static yX5_nextSubset, Cond.code yX5_nextSubset cX5_nextSubset 2 (some .int), Cond.methodLink RX5 246 yX5_greatestDivisor, Cond.static yX5_greatestDivisor, Cond.code yX5_greatestDivisor cX5_greatestDivisor 6 (some .int), Cond.methodLink RX5 278 Lib.Math.max.name, Cond.static Lib.Math.max.name, Cond.initialized "java/lang/Math", Cond.code Lib.Math.max.name Lib.Math.max.code 2 (some .int)]
def wsX5_absent : List Cond := .code yX5_absent cX5_absent 11 (some .int) :: ((wsX5_absent_r1 ++ (wsX5_absent_r2 ++ (wsX5_absent_r3 ++ (wsX5_absent_r4 ++ wsX5_absent_r5)))) ++ wsX50 ++ wsX20)
def wsX5_drawn_r1 : List Cond := [Cond.constant RX5 140 (-1000002), Cond.constant RX5 249 (999999), Cond.constant RX5 73 (-1000001), Cond.fieldLink RX5 47 "StepRiders" "trial" "LStepRiders$Stair;", Cond.fieldLink RX5 25 "StepRiders" "now" "LStepRiders$Stair;", Cond.constantLong RX5 250 (16807), Cond.constantLong RX5 252 (2147483647), Cond.methodLink RX5 136 yX5_noStair, Cond.instanceMethod yX5_noStair, Cond.selects RX5 yX5_noStair yX5_noStair, Cond.initialized RX5, Cond.code yX5_noStair cX5_noStair 1 (some .boolean), Cond.fieldLink RX5 130 "StepRiders$Stair" "riders" "I", Cond.methodLink RX5 69 yX5_outside, Cond.static yX5_outside, Cond.code yX5_outside cX5_outside 3 (some .boolean), Cond.methodLink RX5 123 yX2_become, Cond.instanceMethod yX2_become, Cond.selects RX2 yX2_become yX2_become, Cond.initialized RX2, Cond.code yX2_become cX2_become 2 none, Cond.fieldLink RX2 9 "StepRiders$Stair" "steps" "I", Cond.fieldLink RX2 15 "StepRiders$Stair" "speed" "I", Cond.fieldLink RX2 18 "StepRiders$Stair" "tick" "I"]
def wsX5_drawn_r2 : List Cond := [Cond.fieldLink RX2 21 "StepRiders$Stair" "riders" "I", Cond.fieldLink RX2 24 "StepRiders$Stair" "kind" "[I", Cond.methodLink RX2 37 arraycopyName, Cond.native arraycopyName, Cond.static arraycopyName, Cond.initialized "java/lang/System", Cond.fieldLink RX2 28 "StepRiders$Stair" "lane" "[I", Cond.fieldLink RX2 31 "StepRiders$Stair" "at" "[I", Cond.methodLink RX5 254 yX2_draw, Cond.instanceMethod yX2_draw, Cond.selects RX2 yX2_draw yX2_draw, Cond.code yX2_draw cX2_draw 2 none, Cond.methodLink RX2 70 yX2_sendBack, Cond.instanceMethod yX2_sendBack, Cond.selects RX2 yX2_sendBack yX2_sendBack, Cond.code yX2_sendBack cX2_sendBack 3 none, Cond.methodLink RX5 147 yX2_pass, Cond.instanceMethod yX2_pass, Cond.selects RX2 yX2_pass yX2_pass, Cond.code yX2_pass cX2_pass 3 (some .int), Cond.constant RX2 81 (-1000000), Cond.fieldLink RX2 34 "StepRiders$Stair" "turn" "[I", Cond.methodLink RX2 74 yX2_giveTurns, Cond.instanceMethod yX2_giveTurns]
def wsX5_drawn_r3 : List Cond := [Cond.selects RX2 yX2_giveTurns yX2_giveTurns, Cond.code yX2_giveTurns cX2_giveTurns 2 none, Cond.methodLink RX2 92 yX2_goes, Cond.instanceMethod yX2_goes, Cond.selects RX2 yX2_goes yX2_goes, Cond.code yX2_goes cX2_goes 3 (some .boolean), Cond.methodLink RX2 47 yX2_isOn, Cond.instanceMethod yX2_isOn, Cond.selects RX2 yX2_isOn yX2_isOn, Cond.code yX2_isOn cX2_isOn 2 (some .boolean), Cond.methodLink RX2 77 yX2_nextInTurn, Cond.instanceMethod yX2_nextInTurn, Cond.selects RX2 yX2_nextInTurn yX2_nextInTurn, Cond.code yX2_nextInTurn cX2_nextInTurn 4 (some .int), Cond.methodLink RX2 82 yX2_go, Cond.instanceMethod yX2_go, Cond.selects RX2 yX2_go yX2_go, Cond.code yX2_go cX2_go 5 none, Cond.methodLink RX2 95 yX2_mayGo, Cond.instanceMethod yX2_mayGo, Cond.selects RX2 yX2_mayGo yX2_mayGo, Cond.code yX2_mayGo cX2_mayGo 3 (some .boolean), Cond.methodLink RX2 43 yX2_isFree, Cond.instanceMethod yX2_isFree]
def wsX5_drawn_r4 : List Cond := [Cond.selects RX2 yX2_isFree yX2_isFree, Cond.code yX2_isFree cX2_isFree 5 (some .boolean), Cond.methodLink RX2 86 yX2_carry, Cond.instanceMethod yX2_carry, Cond.selects RX2 yX2_carry yX2_carry, Cond.code yX2_carry cX2_carry 3 (some .int), Cond.methodLink RX2 89 yX2_letOneOn, Cond.instanceMethod yX2_letOneOn, Cond.selects RX2 yX2_letOneOn yX2_letOneOn, Cond.code yX2_letOneOn cX2_letOneOn 2 none, Cond.methodLink RX5 151 yX2_howManyAt, Cond.instanceMethod yX2_howManyAt, Cond.selects RX2 yX2_howManyAt yX2_howManyAt, Cond.code yX2_howManyAt cX2_howManyAt 2 (some .int), Cond.methodLink RX2 58 yX2_whoIsAt, Cond.instanceMethod yX2_whoIsAt, Cond.selects RX2 yX2_whoIsAt yX2_whoIsAt, Cond.code yX2_whoIsAt cX2_whoIsAt 4 (some .int), Cond.methodLink RX2 62 yJ6_bitCount_0f7a4, Cond.static yJ6_bitCount_0f7a4, Cond.initialized RJ6, Cond.code yJ6_bitCount_0f7a4 cJ6_bitCount_0f7a4 1 (some .int), Cond.constant RJ6 265 (1431655765), Cond.constant RJ6 266 (858993459)]
def wsX5_drawn_r5 : List Cond := [Cond.constant RJ6 267 (252645135)]
def wsX5_drawn : List Cond := .code yX5_drawn cX5_drawn 8 (some .int) :: ((wsX5_drawn_r1 ++ (wsX5_drawn_r2 ++ (wsX5_drawn_r3 ++ (wsX5_drawn_r4 ++ wsX5_drawn_r5)))) ++ wsX50 ++ wsX20)
def wsX5_image_r1 : List Cond := [Cond.constant RX5 73 (-1000001), Cond.constant RX5 140 (-1000002), Cond.fieldLink RX5 36 "StepRiders" "images" "[LStepRiders$Stair;", Cond.fieldLink RX5 25 "StepRiders" "now" "LStepRiders$Stair;", Cond.methodLink RX5 69 yX5_outside, Cond.static yX5_outside, Cond.initialized RX5, Cond.code yX5_outside cX5_outside 3 (some .boolean), Cond.methodLink RX5 136 yX5_noStair, Cond.instanceMethod yX5_noStair, Cond.selects RX5 yX5_noStair yX5_noStair, Cond.code yX5_noStair cX5_noStair 1 (some .boolean), Cond.fieldLink RX5 130 "StepRiders$Stair" "riders" "I", Cond.methodLink RX5 123 yX2_become, Cond.instanceMethod yX2_become, Cond.selects RX2 yX2_become yX2_become, Cond.initialized RX2, Cond.code yX2_become cX2_become 2 none, Cond.fieldLink RX2 9 "StepRiders$Stair" "steps" "I", Cond.fieldLink RX2 15 "StepRiders$Stair" "speed" "I", Cond.fieldLink RX2 18 "StepRiders$Stair" "tick" "I", Cond.fieldLink RX2 21 "StepRiders$Stair" "riders" "I", Cond.fieldLink RX2 24 "StepRiders$Stair" "kind" "[I", Cond.methodLink RX2 37 arraycopyName]
def wsX5_image_r2 : List Cond := [Cond.native arraycopyName, Cond.static arraycopyName, Cond.initialized "java/lang/System", Cond.fieldLink RX2 28 "StepRiders$Stair" "lane" "[I", Cond.fieldLink RX2 31 "StepRiders$Stair" "at" "[I"]
def wsX5_image : List Cond := .code yX5_image cX5_image 2 (some .int) :: ((wsX5_image_r1 ++ wsX5_image_r2) ++ wsX50 ++ wsX20)
def wsX5_restore_r1 : List Cond := [Cond.constant RX5 73 (-1000001), Cond.fieldLink RX5 36 "StepRiders" "images" "[LStepRiders$Stair;", Cond.fieldLink RX5 130 "StepRiders$Stair" "riders" "I", Cond.constant RX5 140 (-1000002), Cond.fieldLink RX5 25 "StepRiders" "now" "LStepRiders$Stair;", Cond.fieldLink RX5 32 "StepRiders" "acts" "LStepRiders$Acts;", Cond.methodLink RX5 69 yX5_outside, Cond.static yX5_outside, Cond.initialized RX5, Cond.code yX5_outside cX5_outside 3 (some .boolean), Cond.methodLink RX5 123 yX2_become, Cond.instanceMethod yX2_become, Cond.selects RX2 yX2_become yX2_become, Cond.initialized RX2, Cond.code yX2_become cX2_become 2 none, Cond.fieldLink RX2 9 "StepRiders$Stair" "steps" "I", Cond.fieldLink RX2 15 "StepRiders$Stair" "speed" "I", Cond.fieldLink RX2 18 "StepRiders$Stair" "tick" "I", Cond.fieldLink RX2 21 "StepRiders$Stair" "riders" "I", Cond.fieldLink RX2 24 "StepRiders$Stair" "kind" "[I", Cond.methodLink RX2 37 arraycopyName, Cond.native arraycopyName, Cond.static arraycopyName, Cond.initialized "java/lang/System"]
def wsX5_restore_r2 : List Cond := [Cond.fieldLink RX2 28 "StepRiders$Stair" "lane" "[I", Cond.fieldLink RX2 31 "StepRiders$Stair" "at" "[I", Cond.methodLink RX5 127 yX0_forgetAll, Cond.instanceMethod yX0_forgetAll, Cond.selects RX0 yX0_forgetAll yX0_forgetAll, Cond.initialized RX0, Cond.code yX0_forgetAll cX0_forgetAll 1 none, Cond.fieldLink RX0 21 "StepRiders$Acts" "kept" "I"]
def wsX5_restore : List Cond := .code yX5_restore cX5_restore 2 (some .int) :: ((wsX5_restore_r1 ++ wsX5_restore_r2) ++ wsX50 ++ wsX20 ++ wsX00)
def wsX5_kind : List Cond := .code yX5_kind cX5_kind 2 (some .int) :: ([.constant RX5 73 (-1000001), .fieldLink RX5 25 "StepRiders" "now" "LStepRiders$Stair;", .fieldLink RX5 257 "StepRiders$Stair" "kind" "[I", .methodLink RX5 157 yX5_noRider, .instanceMethod yX5_noRider, .selects RX5 yX5_noRider yX5_noRider, .initialized RX5, .code yX5_noRider cX5_noRider 2 (some .boolean), .fieldLink RX5 130 "StepRiders$Stair" "riders" "I", .methodLink RX5 69 yX5_outside, .static yX5_outside, .code yX5_outside cX5_outside 3 (some .boolean)] ++ wsX50 ++ wsX20)
def wsX5_as : List Cond := .code yX5_as cX5_as 5 (some .int) :: ([.constant RX5 73 (-1000001), .fieldLink RX5 25 "StepRiders" "now" "LStepRiders$Stair;", .fieldLink RX5 257 "StepRiders$Stair" "kind" "[I", .fieldLink RX5 260 "StepRiders" "NEXT_KIND" "[I", .methodLink RX5 157 yX5_noRider, .instanceMethod yX5_noRider, .selects RX5 yX5_noRider yX5_noRider, .initialized RX5, .code yX5_noRider cX5_noRider 2 (some .boolean), .fieldLink RX5 130 "StepRiders$Stair" "riders" "I", .methodLink RX5 69 yX5_outside, .static yX5_outside, .code yX5_outside cX5_outside 3 (some .boolean), .methodLink RX5 82 yX5_fine, .instanceMethod yX5_fine, .selects RX5 yX5_fine yX5_fine, .code yX5_fine cX5_fine 2 (some .int), .fieldLink RX5 60 "StepRiders" "finding" "I", .methodLink RX5 74 yX5_found, .instanceMethod yX5_found, .selects RX5 yX5_found yX5_found, .code yX5_found cX5_found 2 (some .int), .constant RX5 277 (-1000010)] ++ wsX50 ++ wsX20)
def wsX5_bodyFor : List Cond := .code yX5_bodyFor cX5_bodyFor 5 (some .int) :: ([.fieldLink RX5 299 "StepRiders" "SIZE_BODIES" "[I", .fieldLink RX5 302 "StepRiders" "MARK_BODIES" "[I", .fieldLink RX5 260 "StepRiders" "NEXT_KIND" "[I"])
def wsX5_answerOf : List Cond := .code yX5_answerOf cX5_answerOf 6 (some .int) :: ([.fieldLink RX5 160 "StepRiders$Stair" "at" "[I", .fieldLink RX5 257 "StepRiders$Stair" "kind" "[I", .fieldLink RX5 166 "StepRiders$Stair" "lane" "[I", .methodLink RX5 305 yX4_leave, .instanceMethod yX4_leave, .selects RX4 yX4_leave yX4_leave, .initialized RX4, .code yX4_leave cX4_leave 2 none, .fieldLink RX4 13 "StepRiders$Trace" "length" "I", .fieldLink RX4 9 "StepRiders$Trace" "bodies" "[I", .methodLink RX5 267 yX5_answerOf, .static yX5_answerOf, .initialized RX5, .methodLink RX5 264 yX5_bodyFor, .static yX5_bodyFor, .code yX5_bodyFor cX5_bodyFor 5 (some .int), .fieldLink RX5 299 "StepRiders" "SIZE_BODIES" "[I", .fieldLink RX5 302 "StepRiders" "MARK_BODIES" "[I", .fieldLink RX5 260 "StepRiders" "NEXT_KIND" "[I"] ++ wsX20 ++ wsX40)
def wsX5_ask_r1 : List Cond := [Cond.constant RX5 73 (-1000001), Cond.fieldLink RX5 43 "StepRiders" "traced" "LStepRiders$Trace;", Cond.fieldLink RX5 263 "StepRiders$Trace" "length" "I", Cond.fieldLink RX5 25 "StepRiders" "now" "LStepRiders$Stair;", Cond.fieldLink RX5 257 "StepRiders$Stair" "kind" "[I", Cond.methodLink RX5 157 yX5_noRider, Cond.instanceMethod yX5_noRider, Cond.selects RX5 yX5_noRider yX5_noRider, Cond.initialized RX5, Cond.code yX5_noRider cX5_noRider 2 (some .boolean), Cond.fieldLink RX5 130 "StepRiders$Stair" "riders" "I", Cond.methodLink RX5 69 yX5_outside, Cond.static yX5_outside, Cond.code yX5_outside cX5_outside 3 (some .boolean), Cond.methodLink RX5 264 yX5_bodyFor, Cond.static yX5_bodyFor, Cond.code yX5_bodyFor cX5_bodyFor 5 (some .int), Cond.fieldLink RX5 299 "StepRiders" "SIZE_BODIES" "[I", Cond.fieldLink RX5 302 "StepRiders" "MARK_BODIES" "[I", Cond.fieldLink RX5 260 "StepRiders" "NEXT_KIND" "[I", Cond.methodLink RX5 267 yX5_answerOf, Cond.static yX5_answerOf, Cond.code yX5_answerOf cX5_answerOf 6 (some .int), Cond.fieldLink RX5 160 "StepRiders$Stair" "at" "[I"]
def wsX5_ask_r2 : List Cond := [Cond.fieldLink RX5 166 "StepRiders$Stair" "lane" "[I", Cond.methodLink RX5 305 yX4_leave, Cond.instanceMethod yX4_leave, Cond.selects RX4 yX4_leave yX4_leave, Cond.initialized RX4, Cond.code yX4_leave cX4_leave 2 none, Cond.fieldLink RX4 13 "StepRiders$Trace" "length" "I", Cond.fieldLink RX4 9 "StepRiders$Trace" "bodies" "[I"]
def wsX5_ask : List Cond := .code yX5_ask cX5_ask 3 (some .int) :: ((wsX5_ask_r1 ++ wsX5_ask_r2) ++ wsX50 ++ wsX40 ++ wsX20)
def wsX5_trace : List Cond := .code yX5_trace cX5_trace 2 (some .int) :: ([.fieldLink RX5 43 "StepRiders" "traced" "LStepRiders$Trace;", .fieldLink RX5 263 "StepRiders$Trace" "length" "I", .constant RX5 121 (-1000000), .fieldLink RX5 271 "StepRiders$Trace" "bodies" "[I", .methodLink RX5 69 yX5_outside, .static yX5_outside, .initialized RX5, .code yX5_outside cX5_outside 3 (some .boolean)] ++ wsX50 ++ wsX40)
def wsX5_howManyRows : List Cond := .code yX5_howManyRows cX5_howManyRows 3 (some .int) :: ([.fieldLink RX5 11 "StepRiders" "rows" "[LStepRiders$Row;", .fieldLink RX5 85 "StepRiders$Row" "missing" "Z", .methodLink RX5 181 yX5_oneIf, .static yX5_oneIf, .initialized RX5, .code yX5_oneIf cX5_oneIf 1 (some .int)] ++ wsX50 ++ wsX10)
def wsX5_count_r1 : List Cond := [Cond.fieldLink RX5 25 "StepRiders" "now" "LStepRiders$Stair;", Cond.fieldLink RX5 130 "StepRiders$Stair" "riders" "I", Cond.fieldLink RX5 191 "StepRiders$Stair" "steps" "I", Cond.fieldLink RX5 141 "StepRiders$Stair" "tick" "I", Cond.fieldLink RX5 154 "StepRiders$Stair" "speed" "I", Cond.fieldLink RX5 32 "StepRiders" "acts" "LStepRiders$Acts;", Cond.fieldLink RX5 172 "StepRiders$Acts" "kept" "I", Cond.fieldLink RX5 18 "StepRiders" "tape" "LStepRiders$Tape;", Cond.fieldLink RX5 111 "StepRiders$Tape" "length" "I", Cond.constant RX5 73 (-1000001), Cond.methodLink RX5 274 yX5_howManyRows, Cond.instanceMethod yX5_howManyRows, Cond.selects RX5 yX5_howManyRows yX5_howManyRows, Cond.initialized RX5, Cond.code yX5_howManyRows cX5_howManyRows 3 (some .int), Cond.fieldLink RX5 11 "StepRiders" "rows" "[LStepRiders$Row;", Cond.fieldLink RX5 85 "StepRiders$Row" "missing" "Z", Cond.methodLink RX5 181 yX5_oneIf, Cond.static yX5_oneIf, Cond.code yX5_oneIf cX5_oneIf 1 (some .int), Cond.methodLink RX5 151 yX2_howManyAt, Cond.instanceMethod yX2_howManyAt, Cond.selects RX2 yX2_howManyAt yX2_howManyAt, Cond.initialized RX2]
def wsX5_count_r2 : List Cond := [Cond.code yX2_howManyAt cX2_howManyAt 2 (some .int), Cond.methodLink RX2 58 yX2_whoIsAt, Cond.instanceMethod yX2_whoIsAt, Cond.selects RX2 yX2_whoIsAt yX2_whoIsAt, Cond.code yX2_whoIsAt cX2_whoIsAt 4 (some .int), Cond.fieldLink RX2 21 "StepRiders$Stair" "riders" "I", Cond.fieldLink RX2 31 "StepRiders$Stair" "at" "[I", Cond.methodLink RX2 62 yJ6_bitCount_0f7a4, Cond.static yJ6_bitCount_0f7a4, Cond.initialized RJ6, Cond.code yJ6_bitCount_0f7a4 cJ6_bitCount_0f7a4 1 (some .int), Cond.constant RJ6 265 (1431655765), Cond.constant RJ6 266 (858993459), Cond.constant RJ6 267 (252645135)]
def wsX5_count : List Cond := .code yX5_count cX5_count 2 (some .int) :: ((wsX5_count_r1 ++ wsX5_count_r2) ++ wsX50 ++ wsX20 ++ wsX00 ++ wsX30 ++ wsX10)
def wsX5_status : List Cond := .code yX5_status cX5_status 1 (some .int) :: ([.fieldLink RX5 60 "StepRiders" "finding" "I"] ++ wsX50)
def wsX6_init : List Cond := .code yX6_init cX6_init 2 none :: ([.methodLink RX6 1 objectInit, .instanceMethod objectInit, .code objectInit ⟨#[0xb1]⟩ 1 none, .arrayClass .int, .fieldLink RX6 7 "StepRidersModel" "sizes" "[I", .fieldLink RX6 13 "StepRidersModel" "widths" "[I", .fieldLink RX6 16 "StepRidersModel" "items" "[I", .fieldLink RX6 19 "StepRidersModel" "moved" "[I", .fieldLink RX6 22 "StepRidersModel" "tape" "[I", .fieldLink RX6 25 "StepRidersModel" "s" "[I", .fieldLink RX6 28 "StepRidersModel" "draft" "[I", .fieldLink RX6 31 "StepRidersModel" "images" "[I", .arrayClass .boolean, .fieldLink RX6 34 "StepRidersModel" "kept" "[Z", .fieldLink RX6 38 "StepRidersModel" "past" "[I", .fieldLink RX6 41 "StepRidersModel" "then" "[I", .fieldLink RX6 44 "StepRidersModel" "went" "[I", .fieldLink RX6 47 "StepRidersModel" "traces" "[I"] ++ wsX60)
def wsX6_in : List Cond := .code yX6_in cX6_in 3 (some .boolean) :: ([])
def wsX6_isRow : List Cond := .code yX6_isRow cX6_isRow 1 (some .boolean) :: ([.methodLink RX6 50 yX6_in, .static yX6_in, .initialized RX6, .code yX6_in cX6_in 3 (some .boolean)])
def wsX6_ends : List Cond := .code yX6_ends cX6_ends 2 (some .int) :: ([.constant RX6 54 (-1000015), .constant RX6 55 (-1000011), .constant RX6 56 (-1000010), .fieldLink RX6 57 "StepRidersModel" "status" "I", .methodLink RX6 50 yX6_in, .static yX6_in, .initialized RX6, .code yX6_in cX6_in 3 (some .boolean)] ++ wsX60)
def wsX6_cut : List Cond := .code yX6_cut cX6_cut 2 (some .int) :: ([])
def wsX6_row : List Cond := .code yX6_row cX6_row 5 (some .int) :: ([.constant RX6 65 (-1000001), .constant RX6 66 (-1000014), .fieldLink RX6 7 "StepRidersModel" "sizes" "[I", .fieldLink RX6 13 "StepRidersModel" "widths" "[I", .fieldLink RX6 16 "StepRidersModel" "items" "[I", .methodLink RX6 61 yX6_isRow, .static yX6_isRow, .initialized RX6, .code yX6_isRow cX6_isRow 1 (some .boolean), .methodLink RX6 50 yX6_in, .static yX6_in, .code yX6_in cX6_in 3 (some .boolean), .methodLink RX6 67 yX6_ends, .instanceMethod yX6_ends, .selects RX6 yX6_ends yX6_ends, .code yX6_ends cX6_ends 2 (some .int), .constant RX6 54 (-1000015), .constant RX6 55 (-1000011), .constant RX6 56 (-1000010), .fieldLink RX6 57 "StepRidersModel" "status" "I"] ++ wsX60)
def wsX6_lies : List Cond := .code yX6_lies cX6_lies 4 (some .boolean) :: ([.fieldLink RX6 7 "StepRidersModel" "sizes" "[I"] ++ wsX60)
def wsX6_set_r1 : List Cond := [Cond.constant RX6 65 (-1000001), Cond.fieldLink RX6 7 "StepRidersModel" "sizes" "[I", Cond.constant RX6 55 (-1000011), Cond.constant RX6 74 (-1000012), Cond.fieldLink RX6 13 "StepRidersModel" "widths" "[I", Cond.fieldLink RX6 16 "StepRidersModel" "items" "[I", Cond.fieldLink RX6 57 "StepRidersModel" "status" "I", Cond.methodLink RX6 61 yX6_isRow, Cond.static yX6_isRow, Cond.initialized RX6, Cond.code yX6_isRow cX6_isRow 1 (some .boolean), Cond.methodLink RX6 50 yX6_in, Cond.static yX6_in, Cond.code yX6_in cX6_in 3 (some .boolean), Cond.methodLink RX6 67 yX6_ends, Cond.instanceMethod yX6_ends, Cond.selects RX6 yX6_ends yX6_ends, Cond.code yX6_ends cX6_ends 2 (some .int), Cond.constant RX6 54 (-1000015), Cond.constant RX6 56 (-1000010), Cond.methodLink RX6 71 yX6_lies, Cond.instanceMethod yX6_lies, Cond.selects RX6 yX6_lies yX6_lies, Cond.code yX6_lies cX6_lies 4 (some .boolean)]
def wsX6_set_r2 : List Cond := [Cond.methodLink RX6 75 yX6_cut, Cond.static yX6_cut, Cond.code yX6_cut cX6_cut 2 (some .int)]
def wsX6_set : List Cond := .code yX6_set cX6_set 5 (some .int) :: ((wsX6_set_r1 ++ wsX6_set_r2) ++ wsX60)
def wsX6_copy_r1 : List Cond := [Cond.constant RX6 65 (-1000001), Cond.fieldLink RX6 7 "StepRidersModel" "sizes" "[I", Cond.constant RX6 55 (-1000011), Cond.fieldLink RX6 13 "StepRidersModel" "widths" "[I", Cond.constant RX6 54 (-1000015), Cond.constant RX6 74 (-1000012), Cond.fieldLink RX6 19 "StepRidersModel" "moved" "[I", Cond.fieldLink RX6 16 "StepRidersModel" "items" "[I", Cond.methodLink RX6 61 yX6_isRow, Cond.static yX6_isRow, Cond.initialized RX6, Cond.code yX6_isRow cX6_isRow 1 (some .boolean), Cond.methodLink RX6 50 yX6_in, Cond.static yX6_in, Cond.code yX6_in cX6_in 3 (some .boolean), Cond.methodLink RX6 67 yX6_ends, Cond.instanceMethod yX6_ends, Cond.selects RX6 yX6_ends yX6_ends, Cond.code yX6_ends cX6_ends 2 (some .int), Cond.constant RX6 56 (-1000010), Cond.fieldLink RX6 57 "StepRidersModel" "status" "I", Cond.methodLink RX6 71 yX6_lies, Cond.instanceMethod yX6_lies, Cond.selects RX6 yX6_lies yX6_lies]
def wsX6_copy_r2 : List Cond := [Cond.code yX6_lies cX6_lies 4 (some .boolean)]
def wsX6_copy : List Cond := .code yX6_copy cX6_copy 7 (some .int) :: ((wsX6_copy_r1 ++ wsX6_copy_r2) ++ wsX60)
def wsX6_drop : List Cond := .code yX6_drop cX6_drop 3 (some .int) :: ([.constant RX6 65 (-1000001), .fieldLink RX6 7 "StepRidersModel" "sizes" "[I", .constant RX6 55 (-1000011), .methodLink RX6 61 yX6_isRow, .static yX6_isRow, .initialized RX6, .code yX6_isRow cX6_isRow 1 (some .boolean), .methodLink RX6 50 yX6_in, .static yX6_in, .code yX6_in cX6_in 3 (some .boolean), .methodLink RX6 67 yX6_ends, .instanceMethod yX6_ends, .selects RX6 yX6_ends yX6_ends, .code yX6_ends cX6_ends 2 (some .int), .constant RX6 54 (-1000015), .constant RX6 56 (-1000010), .fieldLink RX6 57 "StepRidersModel" "status" "I"] ++ wsX60)
def wsX6_feed : List Cond := .code yX6_feed cX6_feed 2 (some .int) :: ([.constant RX6 65 (-1000001), .fieldLink RX6 79 "StepRidersModel" "typed" "I", .constant RX6 82 (-1000003), .fieldLink RX6 22 "StepRidersModel" "tape" "[I", .methodLink RX6 50 yX6_in, .static yX6_in, .initialized RX6, .code yX6_in cX6_in 3 (some .boolean)] ++ wsX60)
def wsX6_letterAt : List Cond := .code yX6_letterAt cX6_letterAt 2 (some .int) :: ([.fieldLink RX6 79 "StepRidersModel" "typed" "I", .fieldLink RX6 22 "StepRidersModel" "tape" "[I"] ++ wsX60)
def wsX6_isDigit : List Cond := .code yX6_isDigit cX6_isDigit 1 (some .boolean) :: ([.methodLink RX6 50 yX6_in, .static yX6_in, .initialized RX6, .code yX6_in cX6_in 3 (some .boolean)])
def wsX6_fails : List Cond := .code yX6_fails cX6_fails 2 (some .boolean) :: ([.fieldLink RX6 83 "StepRidersModel" "wrong" "I"] ++ wsX60)
def wsX6_sign : List Cond := .code yX6_sign cX6_sign 2 (some .boolean) :: ([.fieldLink RX6 86 "StepRidersModel" "at" "I", .methodLink RX6 89 yX6_letterAt, .instanceMethod yX6_letterAt, .selects RX6 yX6_letterAt yX6_letterAt, .initialized RX6, .code yX6_letterAt cX6_letterAt 2 (some .int), .fieldLink RX6 79 "StepRidersModel" "typed" "I", .fieldLink RX6 22 "StepRidersModel" "tape" "[I", .methodLink RX6 92 yX6_fails, .instanceMethod yX6_fails, .selects RX6 yX6_fails yX6_fails, .code yX6_fails cX6_fails 2 (some .boolean), .fieldLink RX6 83 "StepRidersModel" "wrong" "I"] ++ wsX60)
def wsX6_number : List Cond := .code yX6_number cX6_number 6 (some .boolean) :: ([.fieldLink RX6 86 "StepRidersModel" "at" "I", .fieldLink RX6 22 "StepRidersModel" "tape" "[I", .fieldLink RX6 28 "StepRidersModel" "draft" "[I", .methodLink RX6 89 yX6_letterAt, .instanceMethod yX6_letterAt, .selects RX6 yX6_letterAt yX6_letterAt, .initialized RX6, .code yX6_letterAt cX6_letterAt 2 (some .int), .fieldLink RX6 79 "StepRidersModel" "typed" "I", .methodLink RX6 95 yX6_isDigit, .static yX6_isDigit, .code yX6_isDigit cX6_isDigit 1 (some .boolean), .methodLink RX6 50 yX6_in, .static yX6_in, .code yX6_in cX6_in 3 (some .boolean), .methodLink RX6 92 yX6_fails, .instanceMethod yX6_fails, .selects RX6 yX6_fails yX6_fails, .code yX6_fails cX6_fails 2 (some .boolean), .fieldLink RX6 83 "StepRidersModel" "wrong" "I"] ++ wsX60)
def wsX6_kindBy : List Cond := .code yX6_kindBy cX6_kindBy 1 (some .int) :: ([])
def wsX6_reads_r1 : List Cond := [Cond.fieldLink RX6 86 "StepRidersModel" "at" "I", Cond.fieldLink RX6 79 "StepRidersModel" "typed" "I", Cond.fieldLink RX6 28 "StepRidersModel" "draft" "[I", Cond.methodLink RX6 98 yX6_sign, Cond.instanceMethod yX6_sign, Cond.selects RX6 yX6_sign yX6_sign, Cond.initialized RX6, Cond.code yX6_sign cX6_sign 2 (some .boolean), Cond.methodLink RX6 89 yX6_letterAt, Cond.instanceMethod yX6_letterAt, Cond.selects RX6 yX6_letterAt yX6_letterAt, Cond.code yX6_letterAt cX6_letterAt 2 (some .int), Cond.fieldLink RX6 22 "StepRidersModel" "tape" "[I", Cond.methodLink RX6 92 yX6_fails, Cond.instanceMethod yX6_fails, Cond.selects RX6 yX6_fails yX6_fails, Cond.code yX6_fails cX6_fails 2 (some .boolean), Cond.fieldLink RX6 83 "StepRidersModel" "wrong" "I", Cond.methodLink RX6 101 yX6_number, Cond.instanceMethod yX6_number, Cond.selects RX6 yX6_number yX6_number, Cond.code yX6_number cX6_number 6 (some .boolean), Cond.methodLink RX6 95 yX6_isDigit, Cond.static yX6_isDigit]
def wsX6_reads_r2 : List Cond := [Cond.code yX6_isDigit cX6_isDigit 1 (some .boolean), Cond.methodLink RX6 50 yX6_in, Cond.static yX6_in, Cond.code yX6_in cX6_in 3 (some .boolean), Cond.methodLink RX6 104 yX6_kindBy, Cond.static yX6_kindBy, Cond.code yX6_kindBy cX6_kindBy 1 (some .int)]
def wsX6_reads : List Cond := .code yX6_reads cX6_reads 3 (some .boolean) :: ((wsX6_reads_r1 ++ wsX6_reads_r2) ++ wsX60)
def wsX6_stair_r1 : List Cond := [Cond.fieldLink RX6 28 "StepRidersModel" "draft" "[I", Cond.fieldLink RX6 79 "StepRidersModel" "typed" "I", Cond.fieldLink RX6 83 "StepRidersModel" "wrong" "I", Cond.fieldLink RX6 111 "StepRidersModel" "fault" "I", Cond.constant RX6 114 (-1000100), Cond.fieldLink RX6 86 "StepRidersModel" "at" "I", Cond.fieldLink RX6 25 "StepRidersModel" "s" "[I", Cond.fieldLink RX6 115 "StepRidersModel" "known" "I", Cond.methodLink RX6 107 yX6_reads, Cond.instanceMethod yX6_reads, Cond.selects RX6 yX6_reads yX6_reads, Cond.initialized RX6, Cond.code yX6_reads cX6_reads 3 (some .boolean), Cond.methodLink RX6 98 yX6_sign, Cond.instanceMethod yX6_sign, Cond.selects RX6 yX6_sign yX6_sign, Cond.code yX6_sign cX6_sign 2 (some .boolean), Cond.methodLink RX6 89 yX6_letterAt, Cond.instanceMethod yX6_letterAt, Cond.selects RX6 yX6_letterAt yX6_letterAt, Cond.code yX6_letterAt cX6_letterAt 2 (some .int), Cond.fieldLink RX6 22 "StepRidersModel" "tape" "[I", Cond.methodLink RX6 92 yX6_fails, Cond.instanceMethod yX6_fails]
def wsX6_stair_r2 : List Cond := [Cond.selects RX6 yX6_fails yX6_fails, Cond.code yX6_fails cX6_fails 2 (some .boolean), Cond.methodLink RX6 101 yX6_number, Cond.instanceMethod yX6_number, Cond.selects RX6 yX6_number yX6_number, Cond.code yX6_number cX6_number 6 (some .boolean), Cond.methodLink RX6 95 yX6_isDigit, Cond.static yX6_isDigit, Cond.code yX6_isDigit cX6_isDigit 1 (some .boolean), Cond.methodLink RX6 50 yX6_in, Cond.static yX6_in, Cond.code yX6_in cX6_in 3 (some .boolean), Cond.methodLink RX6 104 yX6_kindBy, Cond.static yX6_kindBy, Cond.code yX6_kindBy cX6_kindBy 1 (some .int)]
def wsX6_stair : List Cond := .code yX6_stair cX6_stair 3 (some .int) :: ((wsX6_stair_r1 ++ wsX6_stair_r2) ++ wsX60)
def wsX6_fault : List Cond := .code yX6_fault cX6_fault 1 (some .int) :: ([.fieldLink RX6 111 "StepRidersModel" "fault" "I"] ++ wsX60)
def wsX6_isStair : List Cond := .code yX6_isStair cX6_isStair 1 (some .boolean) :: ([.fieldLink RX6 25 "StepRidersModel" "s" "[I"] ++ wsX60)
def wsX6_isRider : List Cond := .code yX6_isRider cX6_isRider 2 (some .boolean) :: ([.fieldLink RX6 25 "StepRidersModel" "s" "[I", .methodLink RX6 50 yX6_in, .static yX6_in, .initialized RX6, .code yX6_in cX6_in 3 (some .boolean)] ++ wsX60)
def wsX6_keeps : List Cond := .code yX6_keeps cX6_keeps 2 none :: ([.fieldLink RX6 115 "StepRidersModel" "known" "I", .fieldLink RX6 38 "StepRidersModel" "past" "[I", .fieldLink RX6 25 "StepRidersModel" "s" "[I"] ++ wsX60)
def wsX6_isOn : List Cond := .code yX6_isOn cX6_isOn 1 (some .boolean) :: ([])
def wsX6_isFree : List Cond := .code yX6_isFree cX6_isFree 7 (some .boolean) :: ([])
def wsX6_goes : List Cond := .code yX6_goes cX6_goes 5 (some .boolean) :: ([.methodLink RX6 50 yX6_in, .static yX6_in, .initialized RX6, .code yX6_in cX6_in 3 (some .boolean), .methodLink RX6 118 yX6_isFree, .static yX6_isFree, .code yX6_isFree cX6_isFree 7 (some .boolean)])
def wsX6_moves : List Cond := .code yX6_moves cX6_moves 4 none :: ([.methodLink RX6 122 yX6_goes, .static yX6_goes, .initialized RX6, .code yX6_goes cX6_goes 5 (some .boolean), .methodLink RX6 50 yX6_in, .static yX6_in, .code yX6_in cX6_in 3 (some .boolean), .methodLink RX6 118 yX6_isFree, .static yX6_isFree, .code yX6_isFree cX6_isFree 7 (some .boolean)])
def wsX6_tick : List Cond := .code yX6_tick cX6_tick 5 none :: ([.fieldLink RX6 44 "StepRidersModel" "went" "[I", .methodLink RX6 126 yX6_moves, .static yX6_moves, .initialized RX6, .code yX6_moves cX6_moves 4 none, .methodLink RX6 122 yX6_goes, .static yX6_goes, .code yX6_goes cX6_goes 5 (some .boolean), .methodLink RX6 50 yX6_in, .static yX6_in, .code yX6_in cX6_in 3 (some .boolean), .methodLink RX6 118 yX6_isFree, .static yX6_isFree, .code yX6_isFree cX6_isFree 7 (some .boolean), .methodLink RX6 130 yX6_isOn, .static yX6_isOn, .code yX6_isOn cX6_isOn 1 (some .boolean)] ++ wsX60)
def wsX6_offIn : List Cond := .code yX6_offIn cX6_offIn 3 (some .int) :: ([])
def wsX6_ticks_r1 : List Cond := [Cond.constant RX6 136 (-1000002), Cond.constant RX6 65 (-1000001), Cond.fieldLink RX6 25 "StepRidersModel" "s" "[I", Cond.constant RX6 82 (-1000003), Cond.methodLink RX6 133 yX6_isStair, Cond.instanceMethod yX6_isStair, Cond.selects RX6 yX6_isStair yX6_isStair, Cond.initialized RX6, Cond.code yX6_isStair cX6_isStair 1 (some .boolean), Cond.methodLink RX6 50 yX6_in, Cond.static yX6_in, Cond.code yX6_in cX6_in 3 (some .boolean), Cond.methodLink RX6 137 yX6_keeps, Cond.instanceMethod yX6_keeps, Cond.selects RX6 yX6_keeps yX6_keeps, Cond.code yX6_keeps cX6_keeps 2 none, Cond.fieldLink RX6 115 "StepRidersModel" "known" "I", Cond.fieldLink RX6 38 "StepRidersModel" "past" "[I", Cond.methodLink RX6 140 yX6_tick, Cond.instanceMethod yX6_tick, Cond.selects RX6 yX6_tick yX6_tick, Cond.code yX6_tick cX6_tick 5 none, Cond.fieldLink RX6 44 "StepRidersModel" "went" "[I", Cond.methodLink RX6 126 yX6_moves]
def wsX6_ticks_r2 : List Cond := [Cond.static yX6_moves, Cond.code yX6_moves cX6_moves 4 none, Cond.methodLink RX6 122 yX6_goes, Cond.static yX6_goes, Cond.code yX6_goes cX6_goes 5 (some .boolean), Cond.methodLink RX6 118 yX6_isFree, Cond.static yX6_isFree, Cond.code yX6_isFree cX6_isFree 7 (some .boolean), Cond.methodLink RX6 130 yX6_isOn, Cond.static yX6_isOn, Cond.code yX6_isOn cX6_isOn 1 (some .boolean), Cond.methodLink RX6 144 yX6_offIn, Cond.static yX6_offIn, Cond.code yX6_offIn cX6_offIn 3 (some .int)]
def wsX6_ticks : List Cond := .code yX6_ticks cX6_ticks 3 (some .int) :: ((wsX6_ticks_r1 ++ wsX6_ticks_r2) ++ wsX60)
def wsX6_speed : List Cond := .code yX6_speed cX6_speed 3 (some .int) :: ([.constant RX6 136 (-1000002), .constant RX6 65 (-1000001), .fieldLink RX6 25 "StepRidersModel" "s" "[I", .methodLink RX6 133 yX6_isStair, .instanceMethod yX6_isStair, .selects RX6 yX6_isStair yX6_isStair, .initialized RX6, .code yX6_isStair cX6_isStair 1 (some .boolean), .methodLink RX6 50 yX6_in, .static yX6_in, .code yX6_in cX6_in 3 (some .boolean), .methodLink RX6 137 yX6_keeps, .instanceMethod yX6_keeps, .selects RX6 yX6_keeps yX6_keeps, .code yX6_keeps cX6_keeps 2 none, .fieldLink RX6 115 "StepRidersModel" "known" "I", .fieldLink RX6 38 "StepRidersModel" "past" "[I"] ++ wsX60)
def wsX6_cross : List Cond := .code yX6_cross cX6_cross 4 (some .int) :: ([.constant RX6 65 (-1000001), .fieldLink RX6 25 "StepRidersModel" "s" "[I", .constant RX6 136 (-1000002), .methodLink RX6 148 yX6_isRider, .instanceMethod yX6_isRider, .selects RX6 yX6_isRider yX6_isRider, .initialized RX6, .code yX6_isRider cX6_isRider 2 (some .boolean), .methodLink RX6 50 yX6_in, .static yX6_in, .code yX6_in cX6_in 3 (some .boolean), .methodLink RX6 130 yX6_isOn, .static yX6_isOn, .code yX6_isOn cX6_isOn 1 (some .boolean), .methodLink RX6 118 yX6_isFree, .static yX6_isFree, .code yX6_isFree cX6_isFree 7 (some .boolean), .methodLink RX6 137 yX6_keeps, .instanceMethod yX6_keeps, .selects RX6 yX6_keeps yX6_keeps, .code yX6_keeps cX6_keeps 2 none, .fieldLink RX6 115 "StepRidersModel" "known" "I", .fieldLink RX6 38 "StepRidersModel" "past" "[I"] ++ wsX60)
def wsX6_take : List Cond := .code yX6_take cX6_take 3 (some .int) :: ([.constant RX6 65 (-1000001), .fieldLink RX6 25 "StepRidersModel" "s" "[I", .constant RX6 136 (-1000002), .methodLink RX6 148 yX6_isRider, .instanceMethod yX6_isRider, .selects RX6 yX6_isRider yX6_isRider, .initialized RX6, .code yX6_isRider cX6_isRider 2 (some .boolean), .methodLink RX6 50 yX6_in, .static yX6_in, .code yX6_in cX6_in 3 (some .boolean), .methodLink RX6 137 yX6_keeps, .instanceMethod yX6_keeps, .selects RX6 yX6_keeps yX6_keeps, .code yX6_keeps cX6_keeps 2 none, .fieldLink RX6 115 "StepRidersModel" "known" "I", .fieldLink RX6 38 "StepRidersModel" "past" "[I"] ++ wsX60)
def wsX6_again : List Cond := .code yX6_again cX6_again 3 (some .int) :: ([.constant RX6 65 (-1000001), .fieldLink RX6 25 "StepRidersModel" "s" "[I", .constant RX6 136 (-1000002), .methodLink RX6 148 yX6_isRider, .instanceMethod yX6_isRider, .selects RX6 yX6_isRider yX6_isRider, .initialized RX6, .code yX6_isRider cX6_isRider 2 (some .boolean), .methodLink RX6 50 yX6_in, .static yX6_in, .code yX6_in cX6_in 3 (some .boolean), .methodLink RX6 137 yX6_keeps, .instanceMethod yX6_keeps, .selects RX6 yX6_keeps yX6_keeps, .code yX6_keeps cX6_keeps 2 none, .fieldLink RX6 115 "StepRidersModel" "known" "I", .fieldLink RX6 38 "StepRidersModel" "past" "[I", .methodLink RX6 144 yX6_offIn, .static yX6_offIn, .code yX6_offIn cX6_offIn 3 (some .int)] ++ wsX60)
def wsX6_undo : List Cond := .code yX6_undo cX6_undo 2 (some .int) :: ([.fieldLink RX6 115 "StepRidersModel" "known" "I", .constant RX6 136 (-1000002), .fieldLink RX6 25 "StepRidersModel" "s" "[I", .fieldLink RX6 38 "StepRidersModel" "past" "[I"] ++ wsX60)
def wsX6_rider : List Cond := .code yX6_rider cX6_rider 4 (some .int) :: ([.constant RX6 65 (-1000001), .fieldLink RX6 25 "StepRidersModel" "s" "[I", .methodLink RX6 148 yX6_isRider, .instanceMethod yX6_isRider, .selects RX6 yX6_isRider yX6_isRider, .initialized RX6, .code yX6_isRider cX6_isRider 2 (some .boolean), .methodLink RX6 50 yX6_in, .static yX6_in, .code yX6_in cX6_in 3 (some .boolean), .methodLink RX6 130 yX6_isOn, .static yX6_isOn, .code yX6_isOn cX6_isOn 1 (some .boolean), .methodLink RX6 118 yX6_isFree, .static yX6_isFree, .code yX6_isFree cX6_isFree 7 (some .boolean)] ++ wsX60)
def wsX6_step : List Cond := .code yX6_step cX6_step 6 (some .int) :: ([.fieldLink RX6 25 "StepRidersModel" "s" "[I", .constant RX6 65 (-1000001), .methodLink RX6 50 yX6_in, .static yX6_in, .initialized RX6, .code yX6_in cX6_in 3 (some .boolean)] ++ wsX60)
def wsX6_starts : List Cond := .code yX6_starts cX6_starts 2 none :: ([.fieldLink RX6 41 "StepRidersModel" "then" "[I", .fieldLink RX6 25 "StepRidersModel" "s" "[I"] ++ wsX60)
def wsX6_ahead_r1 : List Cond := [Cond.constant RX6 65 (-1000001), Cond.fieldLink RX6 41 "StepRidersModel" "then" "[I", Cond.methodLink RX6 148 yX6_isRider, Cond.instanceMethod yX6_isRider, Cond.selects RX6 yX6_isRider yX6_isRider, Cond.initialized RX6, Cond.code yX6_isRider cX6_isRider 2 (some .boolean), Cond.fieldLink RX6 25 "StepRidersModel" "s" "[I", Cond.methodLink RX6 50 yX6_in, Cond.static yX6_in, Cond.code yX6_in cX6_in 3 (some .boolean), Cond.methodLink RX6 151 yX6_starts, Cond.instanceMethod yX6_starts, Cond.selects RX6 yX6_starts yX6_starts, Cond.code yX6_starts cX6_starts 2 none, Cond.methodLink RX6 140 yX6_tick, Cond.instanceMethod yX6_tick, Cond.selects RX6 yX6_tick yX6_tick, Cond.code yX6_tick cX6_tick 5 none, Cond.fieldLink RX6 44 "StepRidersModel" "went" "[I", Cond.methodLink RX6 126 yX6_moves, Cond.static yX6_moves, Cond.code yX6_moves cX6_moves 4 none, Cond.methodLink RX6 122 yX6_goes]
def wsX6_ahead_r2 : List Cond := [Cond.static yX6_goes, Cond.code yX6_goes cX6_goes 5 (some .boolean), Cond.methodLink RX6 118 yX6_isFree, Cond.static yX6_isFree, Cond.code yX6_isFree cX6_isFree 7 (some .boolean), Cond.methodLink RX6 130 yX6_isOn, Cond.static yX6_isOn, Cond.code yX6_isOn cX6_isOn 1 (some .boolean)]
def wsX6_ahead : List Cond := .code yX6_ahead cX6_ahead 4 (some .int) :: ((wsX6_ahead_r1 ++ wsX6_ahead_r2) ++ wsX60)
def wsX6_later_r1 : List Cond := [Cond.constant RX6 136 (-1000002), Cond.constant RX6 65 (-1000001), Cond.fieldLink RX6 41 "StepRidersModel" "then" "[I", Cond.fieldLink RX6 25 "StepRidersModel" "s" "[I", Cond.methodLink RX6 133 yX6_isStair, Cond.instanceMethod yX6_isStair, Cond.selects RX6 yX6_isStair yX6_isStair, Cond.initialized RX6, Cond.code yX6_isStair cX6_isStair 1 (some .boolean), Cond.methodLink RX6 50 yX6_in, Cond.static yX6_in, Cond.code yX6_in cX6_in 3 (some .boolean), Cond.methodLink RX6 151 yX6_starts, Cond.instanceMethod yX6_starts, Cond.selects RX6 yX6_starts yX6_starts, Cond.code yX6_starts cX6_starts 2 none, Cond.methodLink RX6 140 yX6_tick, Cond.instanceMethod yX6_tick, Cond.selects RX6 yX6_tick yX6_tick, Cond.code yX6_tick cX6_tick 5 none, Cond.fieldLink RX6 44 "StepRidersModel" "went" "[I", Cond.methodLink RX6 126 yX6_moves, Cond.static yX6_moves, Cond.code yX6_moves cX6_moves 4 none]
def wsX6_later_r2 : List Cond := [Cond.methodLink RX6 122 yX6_goes, Cond.static yX6_goes, Cond.code yX6_goes cX6_goes 5 (some .boolean), Cond.methodLink RX6 118 yX6_isFree, Cond.static yX6_isFree, Cond.code yX6_isFree cX6_isFree 7 (some .boolean), Cond.methodLink RX6 130 yX6_isOn, Cond.static yX6_isOn, Cond.code yX6_isOn cX6_isOn 1 (some .boolean), Cond.methodLink RX6 144 yX6_offIn, Cond.static yX6_offIn, Cond.code yX6_offIn cX6_offIn 3 (some .int)]
def wsX6_later : List Cond := .code yX6_later cX6_later 5 (some .int) :: ((wsX6_later_r1 ++ wsX6_later_r2) ++ wsX60)
def wsX6_off_r1 : List Cond := [Cond.constant RX6 65 (-1000001), Cond.fieldLink RX6 41 "StepRidersModel" "then" "[I", Cond.constant RX6 154 (-1000000), Cond.methodLink RX6 148 yX6_isRider, Cond.instanceMethod yX6_isRider, Cond.selects RX6 yX6_isRider yX6_isRider, Cond.initialized RX6, Cond.code yX6_isRider cX6_isRider 2 (some .boolean), Cond.fieldLink RX6 25 "StepRidersModel" "s" "[I", Cond.methodLink RX6 50 yX6_in, Cond.static yX6_in, Cond.code yX6_in cX6_in 3 (some .boolean), Cond.methodLink RX6 151 yX6_starts, Cond.instanceMethod yX6_starts, Cond.selects RX6 yX6_starts yX6_starts, Cond.code yX6_starts cX6_starts 2 none, Cond.methodLink RX6 140 yX6_tick, Cond.instanceMethod yX6_tick, Cond.selects RX6 yX6_tick yX6_tick, Cond.code yX6_tick cX6_tick 5 none, Cond.fieldLink RX6 44 "StepRidersModel" "went" "[I", Cond.methodLink RX6 126 yX6_moves, Cond.static yX6_moves, Cond.code yX6_moves cX6_moves 4 none]
def wsX6_off_r2 : List Cond := [Cond.methodLink RX6 122 yX6_goes, Cond.static yX6_goes, Cond.code yX6_goes cX6_goes 5 (some .boolean), Cond.methodLink RX6 118 yX6_isFree, Cond.static yX6_isFree, Cond.code yX6_isFree cX6_isFree 7 (some .boolean), Cond.methodLink RX6 130 yX6_isOn, Cond.static yX6_isOn, Cond.code yX6_isOn cX6_isOn 1 (some .boolean)]
def wsX6_off : List Cond := .code yX6_off cX6_off 3 (some .int) :: ((wsX6_off_r1 ++ wsX6_off_r2) ++ wsX60)
def wsX6_clears_r1 : List Cond := [Cond.fieldLink RX6 41 "StepRidersModel" "then" "[I", Cond.constant RX6 154 (-1000000), Cond.methodLink RX6 144 yX6_offIn, Cond.static yX6_offIn, Cond.initialized RX6, Cond.code yX6_offIn cX6_offIn 3 (some .int), Cond.methodLink RX6 140 yX6_tick, Cond.instanceMethod yX6_tick, Cond.selects RX6 yX6_tick yX6_tick, Cond.code yX6_tick cX6_tick 5 none, Cond.fieldLink RX6 44 "StepRidersModel" "went" "[I", Cond.methodLink RX6 126 yX6_moves, Cond.static yX6_moves, Cond.code yX6_moves cX6_moves 4 none, Cond.methodLink RX6 122 yX6_goes, Cond.static yX6_goes, Cond.code yX6_goes cX6_goes 5 (some .boolean), Cond.methodLink RX6 50 yX6_in, Cond.static yX6_in, Cond.code yX6_in cX6_in 3 (some .boolean), Cond.methodLink RX6 118 yX6_isFree, Cond.static yX6_isFree, Cond.code yX6_isFree cX6_isFree 7 (some .boolean), Cond.methodLink RX6 130 yX6_isOn]
def wsX6_clears_r2 : List Cond := [Cond.static yX6_isOn, Cond.code yX6_isOn cX6_isOn 1 (some .boolean)]
def wsX6_clears : List Cond := .code yX6_clears cX6_clears 2 (some .int) :: ((wsX6_clears_r1 ++ wsX6_clears_r2) ++ wsX60)
def wsX6_clear_r1 : List Cond := [Cond.constant RX6 136 (-1000002), Cond.methodLink RX6 133 yX6_isStair, Cond.instanceMethod yX6_isStair, Cond.selects RX6 yX6_isStair yX6_isStair, Cond.initialized RX6, Cond.code yX6_isStair cX6_isStair 1 (some .boolean), Cond.fieldLink RX6 25 "StepRidersModel" "s" "[I", Cond.methodLink RX6 151 yX6_starts, Cond.instanceMethod yX6_starts, Cond.selects RX6 yX6_starts yX6_starts, Cond.code yX6_starts cX6_starts 2 none, Cond.fieldLink RX6 41 "StepRidersModel" "then" "[I", Cond.methodLink RX6 155 yX6_clears, Cond.instanceMethod yX6_clears, Cond.selects RX6 yX6_clears yX6_clears, Cond.code yX6_clears cX6_clears 2 (some .int), Cond.constant RX6 154 (-1000000), Cond.methodLink RX6 144 yX6_offIn, Cond.static yX6_offIn, Cond.code yX6_offIn cX6_offIn 3 (some .int), Cond.methodLink RX6 140 yX6_tick, Cond.instanceMethod yX6_tick, Cond.selects RX6 yX6_tick yX6_tick, Cond.code yX6_tick cX6_tick 5 none]
def wsX6_clear_r2 : List Cond := [Cond.fieldLink RX6 44 "StepRidersModel" "went" "[I", Cond.methodLink RX6 126 yX6_moves, Cond.static yX6_moves, Cond.code yX6_moves cX6_moves 4 none, Cond.methodLink RX6 122 yX6_goes, Cond.static yX6_goes, Cond.code yX6_goes cX6_goes 5 (some .boolean), Cond.methodLink RX6 50 yX6_in, Cond.static yX6_in, Cond.code yX6_in cX6_in 3 (some .boolean), Cond.methodLink RX6 118 yX6_isFree, Cond.static yX6_isFree, Cond.code yX6_isFree cX6_isFree 7 (some .boolean), Cond.methodLink RX6 130 yX6_isOn, Cond.static yX6_isOn, Cond.code yX6_isOn cX6_isOn 1 (some .boolean)]
def wsX6_clear : List Cond := .code yX6_clear cX6_clear 1 (some .int) :: ((wsX6_clear_r1 ++ wsX6_clear_r2) ++ wsX60)
def wsX6_queued : List Cond := .code yX6_queued cX6_queued 3 (some .int) :: ([.fieldLink RX6 25 "StepRidersModel" "s" "[I"] ++ wsX60)
def wsX6_has : List Cond := .code yX6_has cX6_has 2 (some .boolean) :: ([])
def wsX6_sorting_r1 : List Cond := [Cond.constant RX6 136 (-1000002), Cond.constant RX6 65 (-1000001), Cond.constant RX6 154 (-1000000), Cond.fieldLink RX6 25 "StepRidersModel" "s" "[I", Cond.fieldLink RX6 41 "StepRidersModel" "then" "[I", Cond.methodLink RX6 133 yX6_isStair, Cond.instanceMethod yX6_isStair, Cond.selects RX6 yX6_isStair yX6_isStair, Cond.initialized RX6, Cond.code yX6_isStair cX6_isStair 1 (some .boolean), Cond.methodLink RX6 50 yX6_in, Cond.static yX6_in, Cond.code yX6_in cX6_in 3 (some .boolean), Cond.methodLink RX6 159 yX6_queued, Cond.instanceMethod yX6_queued, Cond.selects RX6 yX6_queued yX6_queued, Cond.code yX6_queued cX6_queued 3 (some .int), Cond.methodLink RX6 151 yX6_starts, Cond.instanceMethod yX6_starts, Cond.selects RX6 yX6_starts yX6_starts, Cond.code yX6_starts cX6_starts 2 none, Cond.methodLink RX6 162 yX6_has, Cond.static yX6_has, Cond.code yX6_has cX6_has 2 (some .boolean)]
def wsX6_sorting_r2 : List Cond := [Cond.methodLink RX6 155 yX6_clears, Cond.instanceMethod yX6_clears, Cond.selects RX6 yX6_clears yX6_clears, Cond.code yX6_clears cX6_clears 2 (some .int), Cond.methodLink RX6 144 yX6_offIn, Cond.static yX6_offIn, Cond.code yX6_offIn cX6_offIn 3 (some .int), Cond.methodLink RX6 140 yX6_tick, Cond.instanceMethod yX6_tick, Cond.selects RX6 yX6_tick yX6_tick, Cond.code yX6_tick cX6_tick 5 none, Cond.fieldLink RX6 44 "StepRidersModel" "went" "[I", Cond.methodLink RX6 126 yX6_moves, Cond.static yX6_moves, Cond.code yX6_moves cX6_moves 4 none, Cond.methodLink RX6 122 yX6_goes, Cond.static yX6_goes, Cond.code yX6_goes cX6_goes 5 (some .boolean), Cond.methodLink RX6 118 yX6_isFree, Cond.static yX6_isFree, Cond.code yX6_isFree cX6_isFree 7 (some .boolean), Cond.methodLink RX6 130 yX6_isOn, Cond.static yX6_isOn, Cond.code yX6_isOn cX6_isOn 1 (some .boolean)]
def wsX6_sorting : List Cond := .code yX6_sorting cX6_sorting 8 (some .int) :: ((wsX6_sorting_r1 ++ wsX6_sorting_r2) ++ wsX60)
def wsX6_taken_r1 : List Cond := [Cond.constant RX6 136 (-1000002), Cond.constant RX6 65 (-1000001), Cond.constant RX6 154 (-1000000), Cond.fieldLink RX6 25 "StepRidersModel" "s" "[I", Cond.fieldLink RX6 41 "StepRidersModel" "then" "[I", Cond.methodLink RX6 133 yX6_isStair, Cond.instanceMethod yX6_isStair, Cond.selects RX6 yX6_isStair yX6_isStair, Cond.initialized RX6, Cond.code yX6_isStair cX6_isStair 1 (some .boolean), Cond.methodLink RX6 50 yX6_in, Cond.static yX6_in, Cond.code yX6_in cX6_in 3 (some .boolean), Cond.methodLink RX6 151 yX6_starts, Cond.instanceMethod yX6_starts, Cond.selects RX6 yX6_starts yX6_starts, Cond.code yX6_starts cX6_starts 2 none, Cond.methodLink RX6 155 yX6_clears, Cond.instanceMethod yX6_clears, Cond.selects RX6 yX6_clears yX6_clears, Cond.code yX6_clears cX6_clears 2 (some .int), Cond.methodLink RX6 144 yX6_offIn, Cond.static yX6_offIn, Cond.code yX6_offIn cX6_offIn 3 (some .int)]
def wsX6_taken_r2 : List Cond := [Cond.methodLink RX6 140 yX6_tick, Cond.instanceMethod yX6_tick, Cond.selects RX6 yX6_tick yX6_tick, Cond.code yX6_tick cX6_tick 5 none, Cond.fieldLink RX6 44 "StepRidersModel" "went" "[I", Cond.methodLink RX6 126 yX6_moves, Cond.static yX6_moves, Cond.code yX6_moves cX6_moves 4 none, Cond.methodLink RX6 122 yX6_goes, Cond.static yX6_goes, Cond.code yX6_goes cX6_goes 5 (some .boolean), Cond.methodLink RX6 118 yX6_isFree, Cond.static yX6_isFree, Cond.code yX6_isFree cX6_isFree 7 (some .boolean), Cond.methodLink RX6 130 yX6_isOn, Cond.static yX6_isOn, Cond.code yX6_isOn cX6_isOn 1 (some .boolean)]
def wsX6_taken : List Cond := .code yX6_taken cX6_taken 6 (some .int) :: ((wsX6_taken_r1 ++ wsX6_taken_r2) ++ wsX60)
def wsX6_pace_r1 : List Cond := [Cond.constant RX6 65 (-1000001), Cond.constant RX6 154 (-1000000), Cond.fieldLink RX6 41 "StepRidersModel" "then" "[I", Cond.methodLink RX6 148 yX6_isRider, Cond.instanceMethod yX6_isRider, Cond.selects RX6 yX6_isRider yX6_isRider, Cond.initialized RX6, Cond.code yX6_isRider cX6_isRider 2 (some .boolean), Cond.fieldLink RX6 25 "StepRidersModel" "s" "[I", Cond.methodLink RX6 50 yX6_in, Cond.static yX6_in, Cond.code yX6_in cX6_in 3 (some .boolean), Cond.methodLink RX6 151 yX6_starts, Cond.instanceMethod yX6_starts, Cond.selects RX6 yX6_starts yX6_starts, Cond.code yX6_starts cX6_starts 2 none, Cond.methodLink RX6 140 yX6_tick, Cond.instanceMethod yX6_tick, Cond.selects RX6 yX6_tick yX6_tick, Cond.code yX6_tick cX6_tick 5 none, Cond.fieldLink RX6 44 "StepRidersModel" "went" "[I", Cond.methodLink RX6 126 yX6_moves, Cond.static yX6_moves, Cond.code yX6_moves cX6_moves 4 none]
def wsX6_pace_r2 : List Cond := [Cond.methodLink RX6 122 yX6_goes, Cond.static yX6_goes, Cond.code yX6_goes cX6_goes 5 (some .boolean), Cond.methodLink RX6 118 yX6_isFree, Cond.static yX6_isFree, Cond.code yX6_isFree cX6_isFree 7 (some .boolean), Cond.methodLink RX6 130 yX6_isOn, Cond.static yX6_isOn, Cond.code yX6_isOn cX6_isOn 1 (some .boolean)]
def wsX6_pace : List Cond := .code yX6_pace cX6_pace 11 (some .int) :: ((wsX6_pace_r1 ++ wsX6_pace_r2) ++ wsX60)
def wsX6_isSo : List Cond := .code yX6_isSo cX6_isSo 6 (some .boolean) :: ([.fieldLink RX6 41 "StepRidersModel" "then" "[I", .fieldLink RX6 16 "StepRidersModel" "items" "[I", .methodLink RX6 140 yX6_tick, .instanceMethod yX6_tick, .selects RX6 yX6_tick yX6_tick, .initialized RX6, .code yX6_tick cX6_tick 5 none, .fieldLink RX6 44 "StepRidersModel" "went" "[I", .methodLink RX6 126 yX6_moves, .static yX6_moves, .code yX6_moves cX6_moves 4 none, .methodLink RX6 122 yX6_goes, .static yX6_goes, .code yX6_goes cX6_goes 5 (some .boolean), .methodLink RX6 50 yX6_in, .static yX6_in, .code yX6_in cX6_in 3 (some .boolean), .methodLink RX6 118 yX6_isFree, .static yX6_isFree, .code yX6_isFree cX6_isFree 7 (some .boolean), .methodLink RX6 130 yX6_isOn, .static yX6_isOn, .code yX6_isOn cX6_isOn 1 (some .boolean)] ++ wsX60)
def wsX6_fits_r1 : List Cond := [Cond.constant RX6 65 (-1000001), Cond.fieldLink RX6 7 "StepRidersModel" "sizes" "[I", Cond.constant RX6 55 (-1000011), Cond.constant RX6 74 (-1000012), Cond.fieldLink RX6 25 "StepRidersModel" "s" "[I", Cond.fieldLink RX6 41 "StepRidersModel" "then" "[I", Cond.methodLink RX6 148 yX6_isRider, Cond.instanceMethod yX6_isRider, Cond.selects RX6 yX6_isRider yX6_isRider, Cond.initialized RX6, Cond.code yX6_isRider cX6_isRider 2 (some .boolean), Cond.methodLink RX6 50 yX6_in, Cond.static yX6_in, Cond.code yX6_in cX6_in 3 (some .boolean), Cond.methodLink RX6 61 yX6_isRow, Cond.static yX6_isRow, Cond.code yX6_isRow cX6_isRow 1 (some .boolean), Cond.methodLink RX6 67 yX6_ends, Cond.instanceMethod yX6_ends, Cond.selects RX6 yX6_ends yX6_ends, Cond.code yX6_ends cX6_ends 2 (some .int), Cond.constant RX6 54 (-1000015), Cond.constant RX6 56 (-1000010), Cond.fieldLink RX6 57 "StepRidersModel" "status" "I"]
def wsX6_fits_r2 : List Cond := [Cond.methodLink RX6 71 yX6_lies, Cond.instanceMethod yX6_lies, Cond.selects RX6 yX6_lies yX6_lies, Cond.code yX6_lies cX6_lies 4 (some .boolean), Cond.methodLink RX6 130 yX6_isOn, Cond.static yX6_isOn, Cond.code yX6_isOn cX6_isOn 1 (some .boolean), Cond.methodLink RX6 151 yX6_starts, Cond.instanceMethod yX6_starts, Cond.selects RX6 yX6_starts yX6_starts, Cond.code yX6_starts cX6_starts 2 none, Cond.methodLink RX6 118 yX6_isFree, Cond.static yX6_isFree, Cond.code yX6_isFree cX6_isFree 7 (some .boolean), Cond.methodLink RX6 166 yX6_isSo, Cond.instanceMethod yX6_isSo, Cond.selects RX6 yX6_isSo yX6_isSo, Cond.code yX6_isSo cX6_isSo 6 (some .boolean), Cond.fieldLink RX6 16 "StepRidersModel" "items" "[I", Cond.methodLink RX6 140 yX6_tick, Cond.instanceMethod yX6_tick, Cond.selects RX6 yX6_tick yX6_tick, Cond.code yX6_tick cX6_tick 5 none, Cond.fieldLink RX6 44 "StepRidersModel" "went" "[I"]
def wsX6_fits_r3 : List Cond := [Cond.methodLink RX6 126 yX6_moves, Cond.static yX6_moves, Cond.code yX6_moves cX6_moves 4 none, Cond.methodLink RX6 122 yX6_goes, Cond.static yX6_goes, Cond.code yX6_goes cX6_goes 5 (some .boolean)]
def wsX6_fits : List Cond := .code yX6_fits cX6_fits 14 (some .int) :: ((wsX6_fits_r1 ++ (wsX6_fits_r2 ++ wsX6_fits_r3)) ++ wsX60)
def wsX6_absent_r1 : List Cond := [Cond.constant RX6 65 (-1000001), Cond.fieldLink RX6 25 "StepRidersModel" "s" "[I", Cond.fieldLink RX6 41 "StepRidersModel" "then" "[I", Cond.methodLink RX6 148 yX6_isRider, Cond.instanceMethod yX6_isRider, Cond.selects RX6 yX6_isRider yX6_isRider, Cond.initialized RX6, Cond.code yX6_isRider cX6_isRider 2 (some .boolean), Cond.methodLink RX6 50 yX6_in, Cond.static yX6_in, Cond.code yX6_in cX6_in 3 (some .boolean), Cond.methodLink RX6 159 yX6_queued, Cond.instanceMethod yX6_queued, Cond.selects RX6 yX6_queued yX6_queued, Cond.code yX6_queued cX6_queued 3 (some .int), Cond.methodLink RX6 151 yX6_starts, Cond.instanceMethod yX6_starts, Cond.selects RX6 yX6_starts yX6_starts, Cond.code yX6_starts cX6_starts 2 none, Cond.methodLink RX6 162 yX6_has, Cond.static yX6_has, Cond.code yX6_has cX6_has 2 (some .boolean), Cond.methodLink RX6 140 yX6_tick, Cond.instanceMethod yX6_tick]
def wsX6_absent_r2 : List Cond := [Cond.selects RX6 yX6_tick yX6_tick, Cond.code yX6_tick cX6_tick 5 none, Cond.fieldLink RX6 44 "StepRidersModel" "went" "[I", Cond.methodLink RX6 126 yX6_moves, Cond.static yX6_moves, Cond.code yX6_moves cX6_moves 4 none, Cond.methodLink RX6 122 yX6_goes, Cond.static yX6_goes, Cond.code yX6_goes cX6_goes 5 (some .boolean), Cond.methodLink RX6 118 yX6_isFree, Cond.static yX6_isFree, Cond.code yX6_isFree cX6_isFree 7 (some .boolean), Cond.methodLink RX6 130 yX6_isOn, Cond.static yX6_isOn, Cond.code yX6_isOn cX6_isOn 1 (some .boolean)]
def wsX6_absent : List Cond := .code yX6_absent cX6_absent 11 (some .int) :: ((wsX6_absent_r1 ++ wsX6_absent_r2) ++ wsX60)
def wsX6_drawn_r1 : List Cond := [Cond.constant RX6 136 (-1000002), Cond.constant RX6 169 (999999), Cond.constant RX6 65 (-1000001), Cond.constantLong RX6 170 (16807), Cond.constantLong RX6 172 (2147483647), Cond.fieldLink RX6 41 "StepRidersModel" "then" "[I", Cond.constantLong RX6 174 (4), Cond.constantLong RX6 176 (3), Cond.constantLong RX6 178 (2), Cond.methodLink RX6 133 yX6_isStair, Cond.instanceMethod yX6_isStair, Cond.selects RX6 yX6_isStair yX6_isStair, Cond.initialized RX6, Cond.code yX6_isStair cX6_isStair 1 (some .boolean), Cond.fieldLink RX6 25 "StepRidersModel" "s" "[I", Cond.methodLink RX6 50 yX6_in, Cond.static yX6_in, Cond.code yX6_in cX6_in 3 (some .boolean), Cond.methodLink RX6 151 yX6_starts, Cond.instanceMethod yX6_starts, Cond.selects RX6 yX6_starts yX6_starts, Cond.code yX6_starts cX6_starts 2 none, Cond.methodLink RX6 144 yX6_offIn, Cond.static yX6_offIn]
def wsX6_drawn_r2 : List Cond := [Cond.code yX6_offIn cX6_offIn 3 (some .int), Cond.methodLink RX6 140 yX6_tick, Cond.instanceMethod yX6_tick, Cond.selects RX6 yX6_tick yX6_tick, Cond.code yX6_tick cX6_tick 5 none, Cond.fieldLink RX6 44 "StepRidersModel" "went" "[I", Cond.methodLink RX6 126 yX6_moves, Cond.static yX6_moves, Cond.code yX6_moves cX6_moves 4 none, Cond.methodLink RX6 122 yX6_goes, Cond.static yX6_goes, Cond.code yX6_goes cX6_goes 5 (some .boolean), Cond.methodLink RX6 118 yX6_isFree, Cond.static yX6_isFree, Cond.code yX6_isFree cX6_isFree 7 (some .boolean), Cond.methodLink RX6 130 yX6_isOn, Cond.static yX6_isOn, Cond.code yX6_isOn cX6_isOn 1 (some .boolean)]
def wsX6_drawn : List Cond := .code yX6_drawn cX6_drawn 10 (some .int) :: ((wsX6_drawn_r1 ++ wsX6_drawn_r2) ++ wsX60)
def wsX6_image : List Cond := .code yX6_image cX6_image 3 (some .int) :: ([.constant RX6 65 (-1000001), .constant RX6 136 (-1000002), .fieldLink RX6 31 "StepRidersModel" "images" "[I", .fieldLink RX6 25 "StepRidersModel" "s" "[I", .fieldLink RX6 34 "StepRidersModel" "kept" "[Z", .methodLink RX6 50 yX6_in, .static yX6_in, .initialized RX6, .code yX6_in cX6_in 3 (some .boolean), .methodLink RX6 133 yX6_isStair, .instanceMethod yX6_isStair, .selects RX6 yX6_isStair yX6_isStair, .code yX6_isStair cX6_isStair 1 (some .boolean)] ++ wsX60)
def wsX6_restore : List Cond := .code yX6_restore cX6_restore 3 (some .int) :: ([.constant RX6 65 (-1000001), .fieldLink RX6 34 "StepRidersModel" "kept" "[Z", .constant RX6 136 (-1000002), .fieldLink RX6 25 "StepRidersModel" "s" "[I", .fieldLink RX6 31 "StepRidersModel" "images" "[I", .fieldLink RX6 115 "StepRidersModel" "known" "I", .methodLink RX6 50 yX6_in, .static yX6_in, .initialized RX6, .code yX6_in cX6_in 3 (some .boolean)] ++ wsX60)
def wsX6_kind : List Cond := .code yX6_kind cX6_kind 2 (some .int) :: ([.fieldLink RX6 25 "StepRidersModel" "s" "[I", .constant RX6 65 (-1000001), .methodLink RX6 148 yX6_isRider, .instanceMethod yX6_isRider, .selects RX6 yX6_isRider yX6_isRider, .initialized RX6, .code yX6_isRider cX6_isRider 2 (some .boolean), .methodLink RX6 50 yX6_in, .static yX6_in, .code yX6_in cX6_in 3 (some .boolean)] ++ wsX60)
def wsX6_as : List Cond := .code yX6_as cX6_as 5 (some .int) :: ([.constant RX6 65 (-1000001), .fieldLink RX6 25 "StepRidersModel" "s" "[I", .constant RX6 180 (-1000013), .methodLink RX6 148 yX6_isRider, .instanceMethod yX6_isRider, .selects RX6 yX6_isRider yX6_isRider, .initialized RX6, .code yX6_isRider cX6_isRider 2 (some .boolean), .methodLink RX6 50 yX6_in, .static yX6_in, .code yX6_in cX6_in 3 (some .boolean), .methodLink RX6 67 yX6_ends, .instanceMethod yX6_ends, .selects RX6 yX6_ends yX6_ends, .code yX6_ends cX6_ends 2 (some .int), .constant RX6 54 (-1000015), .constant RX6 55 (-1000011), .constant RX6 56 (-1000010), .fieldLink RX6 57 "StepRidersModel" "status" "I"] ++ wsX60)
def wsX6_begins : List Cond := .code yX6_begins cX6_begins 2 none :: ([.fieldLink RX6 181 "StepRidersModel" "traced" "I", .fieldLink RX6 47 "StepRidersModel" "traces" "[I"] ++ wsX60)
def wsX6_stands : List Cond := .code yX6_stands cX6_stands 4 (some .int) :: ([.fieldLink RX6 25 "StepRidersModel" "s" "[I", .methodLink RX6 184 yX6_begins, .instanceMethod yX6_begins, .selects RX6 yX6_begins yX6_begins, .initialized RX6, .code yX6_begins cX6_begins 2 none, .fieldLink RX6 181 "StepRidersModel" "traced" "I", .fieldLink RX6 47 "StepRidersModel" "traces" "[I"] ++ wsX60)
def wsX6_size : List Cond := .code yX6_size cX6_size 5 (some .int) :: ([.fieldLink RX6 25 "StepRidersModel" "s" "[I", .methodLink RX6 184 yX6_begins, .instanceMethod yX6_begins, .selects RX6 yX6_begins yX6_begins, .initialized RX6, .code yX6_begins cX6_begins 2 none, .fieldLink RX6 181 "StepRidersModel" "traced" "I", .fieldLink RX6 47 "StepRidersModel" "traces" "[I", .methodLink RX6 188 yX6_stands, .instanceMethod yX6_stands, .selects RX6 yX6_stands yX6_stands, .code yX6_stands cX6_stands 4 (some .int)] ++ wsX60)
def wsX6_ask : List Cond := .code yX6_ask cX6_ask 3 (some .int) :: ([.constant RX6 65 (-1000001), .fieldLink RX6 181 "StepRidersModel" "traced" "I", .fieldLink RX6 25 "StepRidersModel" "s" "[I", .methodLink RX6 148 yX6_isRider, .instanceMethod yX6_isRider, .selects RX6 yX6_isRider yX6_isRider, .initialized RX6, .code yX6_isRider cX6_isRider 2 (some .boolean), .methodLink RX6 50 yX6_in, .static yX6_in, .code yX6_in cX6_in 3 (some .boolean), .methodLink RX6 191 yX6_size, .instanceMethod yX6_size, .selects RX6 yX6_size yX6_size, .code yX6_size cX6_size 5 (some .int), .methodLink RX6 184 yX6_begins, .instanceMethod yX6_begins, .selects RX6 yX6_begins yX6_begins, .code yX6_begins cX6_begins 2 none, .fieldLink RX6 47 "StepRidersModel" "traces" "[I", .methodLink RX6 188 yX6_stands, .instanceMethod yX6_stands, .selects RX6 yX6_stands yX6_stands, .code yX6_stands cX6_stands 4 (some .int)] ++ wsX60)
def wsX6_trace : List Cond := .code yX6_trace cX6_trace 2 (some .int) :: ([.fieldLink RX6 181 "StepRidersModel" "traced" "I", .fieldLink RX6 47 "StepRidersModel" "traces" "[I", .constant RX6 154 (-1000000), .methodLink RX6 50 yX6_in, .static yX6_in, .initialized RX6, .code yX6_in cX6_in 3 (some .boolean)] ++ wsX60)
def wsX6_count : List Cond := .code yX6_count cX6_count 4 (some .int) :: ([.fieldLink RX6 7 "StepRidersModel" "sizes" "[I", .fieldLink RX6 25 "StepRidersModel" "s" "[I", .fieldLink RX6 115 "StepRidersModel" "known" "I", .fieldLink RX6 79 "StepRidersModel" "typed" "I", .constant RX6 65 (-1000001), .methodLink RX6 130 yX6_isOn, .static yX6_isOn, .initialized RX6, .code yX6_isOn cX6_isOn 1 (some .boolean), .methodLink RX6 144 yX6_offIn, .static yX6_offIn, .code yX6_offIn cX6_offIn 3 (some .int)] ++ wsX60)
def wsX6_status : List Cond := .code yX6_status cX6_status 1 (some .int) :: ([.fieldLink RX6 57 "StepRidersModel" "status" "I"] ++ wsX60)
def wsJ9_max_7cf53 : List Cond := .code yJ9_max_7cf53 cJ9_max_7cf53 2 (some .int) :: ([])
def wsJ9_min_7cf53 : List Cond := .code yJ9_min_7cf53 cJ9_min_7cf53 2 (some .int) :: ([])
def wsL_law_r1 : List Cond := [Cond.classLink RL 7 RX5, Cond.instantiable RX5 11, Cond.initialized RX5, Cond.classLink RL 10 RX6, Cond.instantiable RX6 20, Cond.initialized RX6, Cond.methodLink RL 9 yX5_init, Cond.instanceMethod yX5_init, Cond.code yX5_init cX5_init 2 none, Cond.methodLink RX5 1 objectInit, Cond.instanceMethod objectInit, Cond.code objectInit ⟨#[0xb1]⟩ 1 none, Cond.classLink RX5 9 RX1, Cond.fieldLink RX5 11 "StepRiders" "rows" "[LStepRiders$Row;", Cond.classLink RX5 15 RX3, Cond.instantiable RX3 3, Cond.initialized RX3, Cond.fieldLink RX5 18 "StepRiders" "tape" "LStepRiders$Tape;", Cond.classLink RX5 22 RX2, Cond.instantiable RX2 8, Cond.initialized RX2, Cond.fieldLink RX5 25 "StepRiders" "now" "LStepRiders$Stair;", Cond.classLink RX5 29 RX0, Cond.instantiable RX0 3]
def wsL_law_r2 : List Cond := [Cond.initialized RX0, Cond.fieldLink RX5 32 "StepRiders" "acts" "LStepRiders$Acts;", Cond.fieldLink RX5 36 "StepRiders" "images" "[LStepRiders$Stair;", Cond.classLink RX5 40 RX4, Cond.instantiable RX4 2, Cond.initialized RX4, Cond.fieldLink RX5 43 "StepRiders" "traced" "LStepRiders$Trace;", Cond.fieldLink RX5 47 "StepRiders" "trial" "LStepRiders$Stair;", Cond.fieldLink RX5 50 "StepRiders" "levels" "[LStepRiders$Stair;", Cond.arrayClass .int, Cond.fieldLink RX5 53 "StepRiders" "paces" "[I", Cond.fieldLink RX5 57 "StepRiders" "bestPaces" "[I", Cond.fieldLink RX5 60 "StepRiders" "finding" "I", Cond.instantiable RX1 4, Cond.initialized RX1, Cond.instanceMethod yX3_init, Cond.code yX3_init cX3_init 1 none, Cond.methodLink RX3 3 objectInit, Cond.fieldLink RX3 9 "StepRiders$Tape" "bytes" "[I", Cond.fieldLink RX3 15 "StepRiders$Tape" "length" "I", Cond.fieldLink RX3 19 "StepRiders$Tape" "fault" "I", Cond.instanceMethod yX2_init, Cond.code yX2_init cX2_init 1 none, Cond.methodLink RX2 3 objectInit]
def wsL_law_r3 : List Cond := [Cond.fieldLink RX2 9 "StepRiders$Stair" "steps" "I", Cond.fieldLink RX2 15 "StepRiders$Stair" "speed" "I", Cond.fieldLink RX2 18 "StepRiders$Stair" "tick" "I", Cond.fieldLink RX2 21 "StepRiders$Stair" "riders" "I", Cond.fieldLink RX2 24 "StepRiders$Stair" "kind" "[I", Cond.fieldLink RX2 28 "StepRiders$Stair" "lane" "[I", Cond.fieldLink RX2 31 "StepRiders$Stair" "at" "[I", Cond.fieldLink RX2 34 "StepRiders$Stair" "turn" "[I", Cond.methodLink RX5 31 yX0_init, Cond.instanceMethod yX0_init, Cond.code yX0_init cX0_init 2 none, Cond.methodLink RX0 3 objectInit, Cond.classLink RX0 9 RX2, Cond.fieldLink RX0 11 "StepRiders$Acts" "before" "[LStepRiders$Stair;", Cond.fieldLink RX0 17 "StepRiders$Acts" "next" "I", Cond.fieldLink RX0 21 "StepRiders$Acts" "kept" "I", Cond.instanceMethod yX4_init, Cond.code yX4_init cX4_init 1 none, Cond.methodLink RX4 1 objectInit, Cond.fieldLink RX4 9 "StepRiders$Trace" "bodies" "[I", Cond.fieldLink RX4 13 "StepRiders$Trace" "length" "I", Cond.instanceMethod yX1_init, Cond.code yX1_init cX1_init 1 none, Cond.methodLink RX1 3 objectInit]
def wsL_law_r4 : List Cond := [Cond.fieldLink RX1 9 "StepRiders$Row" "items" "[I", Cond.fieldLink RX1 15 "StepRiders$Row" "missing" "Z", Cond.fieldLink RX1 19 "StepRiders$Row" "width" "I", Cond.fieldLink RX1 23 "StepRiders$Row" "length" "I", Cond.methodLink RL 12 yX6_init, Cond.instanceMethod yX6_init, Cond.code yX6_init cX6_init 2 none, Cond.methodLink RX6 1 objectInit, Cond.fieldLink RX6 7 "StepRidersModel" "sizes" "[I", Cond.fieldLink RX6 13 "StepRidersModel" "widths" "[I", Cond.fieldLink RX6 16 "StepRidersModel" "items" "[I", Cond.fieldLink RX6 19 "StepRidersModel" "moved" "[I", Cond.fieldLink RX6 22 "StepRidersModel" "tape" "[I", Cond.fieldLink RX6 25 "StepRidersModel" "s" "[I", Cond.fieldLink RX6 28 "StepRidersModel" "draft" "[I", Cond.fieldLink RX6 31 "StepRidersModel" "images" "[I", Cond.arrayClass .boolean, Cond.fieldLink RX6 34 "StepRidersModel" "kept" "[Z", Cond.fieldLink RX6 38 "StepRidersModel" "past" "[I", Cond.fieldLink RX6 41 "StepRidersModel" "then" "[I", Cond.fieldLink RX6 44 "StepRidersModel" "went" "[I", Cond.fieldLink RX6 47 "StepRidersModel" "traces" "[I", Cond.methodLink RL 13 yX5_row, Cond.instanceMethod yX5_row]
def wsL_law_r5 : List Cond := [Cond.selects RX5 yX5_row yX5_row, Cond.code yX5_row cX5_row 4 (some .int), Cond.constant RX5 73 (-1000001), Cond.methodLink RX5 65 yX5_noRow, Cond.static yX5_noRow, Cond.code yX5_noRow cX5_noRow 1 (some .boolean), Cond.methodLink RX5 69 yX5_outside, Cond.static yX5_outside, Cond.code yX5_outside cX5_outside 3 (some .boolean), Cond.methodLink RX5 74 yX5_found, Cond.instanceMethod yX5_found, Cond.selects RX5 yX5_found yX5_found, Cond.code yX5_found cX5_found 2 (some .int), Cond.constant RX5 277 (-1000010), Cond.methodLink RX5 78 yX1_begin, Cond.instanceMethod yX1_begin, Cond.selects RX1 yX1_begin yX1_begin, Cond.code yX1_begin cX1_begin 4 none, Cond.methodLink RX5 82 yX5_fine, Cond.instanceMethod yX5_fine, Cond.selects RX5 yX5_fine yX5_fine, Cond.code yX5_fine cX5_fine 2 (some .int), Cond.methodLink RL 17 yX6_row, Cond.instanceMethod yX6_row]
def wsL_law_r6 : List Cond := [Cond.selects RX6 yX6_row yX6_row, Cond.code yX6_row cX6_row 5 (some .int), Cond.constant RX6 65 (-1000001), Cond.constant RX6 66 (-1000014), Cond.methodLink RX6 61 yX6_isRow, Cond.static yX6_isRow, Cond.code yX6_isRow cX6_isRow 1 (some .boolean), Cond.methodLink RX6 50 yX6_in, Cond.static yX6_in, Cond.code yX6_in cX6_in 3 (some .boolean), Cond.methodLink RX6 67 yX6_ends, Cond.instanceMethod yX6_ends, Cond.selects RX6 yX6_ends yX6_ends, Cond.code yX6_ends cX6_ends 2 (some .int), Cond.constant RX6 54 (-1000015), Cond.constant RX6 55 (-1000011), Cond.constant RX6 56 (-1000010), Cond.fieldLink RX6 57 "StepRidersModel" "status" "I", Cond.methodLink RL 18 yX5_set, Cond.instanceMethod yX5_set, Cond.selects RX5 yX5_set yX5_set, Cond.code yX5_set cX5_set 5 (some .int), Cond.fieldLink RX5 85 "StepRiders$Row" "missing" "Z", Cond.fieldLink RX5 93 "StepRiders$Row" "items" "[I"]
def wsL_law_r7 : List Cond := [Cond.methodLink RX5 89 yX1_holds, Cond.instanceMethod yX1_holds, Cond.selects RX1 yX1_holds yX1_holds, Cond.code yX1_holds cX1_holds 3 (some .boolean), Cond.methodLink RX5 96 yX1_cut, Cond.instanceMethod yX1_cut, Cond.selects RX1 yX1_cut yX1_cut, Cond.code yX1_cut cX1_cut 2 (some .int), Cond.methodLink RL 21 yX6_set, Cond.instanceMethod yX6_set, Cond.selects RX6 yX6_set yX6_set, Cond.code yX6_set cX6_set 5 (some .int), Cond.constant RX6 74 (-1000012), Cond.methodLink RX6 71 yX6_lies, Cond.instanceMethod yX6_lies, Cond.selects RX6 yX6_lies yX6_lies, Cond.code yX6_lies cX6_lies 4 (some .boolean), Cond.methodLink RX6 75 yX6_cut, Cond.static yX6_cut, Cond.code yX6_cut cX6_cut 2 (some .int), Cond.methodLink RL 22 yX5_copy, Cond.instanceMethod yX5_copy, Cond.selects RX5 yX5_copy yX5_copy, Cond.code yX5_copy cX5_copy 8 (some .int)]
def wsL_law_r8 : List Cond := [Cond.fieldLink RX5 99 "StepRiders$Row" "width" "I", Cond.methodLink RX5 102 arraycopyName, Cond.native arraycopyName, Cond.static arraycopyName, Cond.initialized "java/lang/System", Cond.methodLink RL 26 yX6_copy, Cond.instanceMethod yX6_copy, Cond.selects RX6 yX6_copy yX6_copy, Cond.code yX6_copy cX6_copy 7 (some .int), Cond.methodLink RL 27 yX5_drop, Cond.instanceMethod yX5_drop, Cond.selects RX5 yX5_drop yX5_drop, Cond.code yX5_drop cX5_drop 2 (some .int), Cond.fieldLink RX5 108 "StepRiders$Row" "length" "I", Cond.methodLink RL 31 yX6_drop, Cond.instanceMethod yX6_drop, Cond.selects RX6 yX6_drop yX6_drop, Cond.code yX6_drop cX6_drop 3 (some .int), Cond.methodLink RL 32 yX5_feed, Cond.instanceMethod yX5_feed, Cond.selects RX5 yX5_feed yX5_feed, Cond.code yX5_feed cX5_feed 2 (some .int), Cond.fieldLink RX5 111 "StepRiders$Tape" "length" "I", Cond.constant RX5 112 (-1000003)]
def wsL_law_r9 : List Cond := [Cond.methodLink RX5 113 yX3_append, Cond.instanceMethod yX3_append, Cond.selects RX3 yX3_append yX3_append, Cond.code yX3_append cX3_append 2 none, Cond.methodLink RL 35 yX6_feed, Cond.instanceMethod yX6_feed, Cond.selects RX6 yX6_feed yX6_feed, Cond.code yX6_feed cX6_feed 2 (some .int), Cond.fieldLink RX6 79 "StepRidersModel" "typed" "I", Cond.constant RX6 82 (-1000003), Cond.methodLink RL 36 yX5_stair, Cond.instanceMethod yX5_stair, Cond.selects RX5 yX5_stair yX5_stair, Cond.code yX5_stair cX5_stair 2 (some .int), Cond.constant RX5 121 (-1000000), Cond.constant RX5 122 (-1000100), Cond.fieldLink RX5 130 "StepRiders$Stair" "riders" "I", Cond.methodLink RX5 117 yX3_readInto, Cond.instanceMethod yX3_readInto, Cond.selects RX3 yX3_readInto yX3_readInto, Cond.code yX3_readInto cX3_readInto 7 (some .int), Cond.fieldLink RX3 35 "StepRiders$Stair" "riders" "I", Cond.constant RX3 38 (-1000000), Cond.methodLink RX3 22 yX2_empty]
def wsL_law_r10 : List Cond := [Cond.instanceMethod yX2_empty, Cond.selects RX2 yX2_empty yX2_empty, Cond.code yX2_empty cX2_empty 2 none, Cond.methodLink RX3 27 yX3_widthOfToken, Cond.instanceMethod yX3_widthOfToken, Cond.selects RX3 yX3_widthOfToken yX3_widthOfToken, Cond.code yX3_widthOfToken cX3_widthOfToken 4 (some .int), Cond.methodLink RX3 39 yX3_isFigure, Cond.instanceMethod yX3_isFigure, Cond.selects RX3 yX3_isFigure yX3_isFigure, Cond.code yX3_isFigure cX3_isFigure 2 (some .boolean), Cond.methodLink RX3 31 yX3_accept, Cond.instanceMethod yX3_accept, Cond.selects RX3 yX3_accept yX3_accept, Cond.code yX3_accept cX3_accept 5 (some .int), Cond.fieldLink RX3 50 "StepRiders$Stair" "steps" "I", Cond.fieldLink RX3 57 "StepRiders$Stair" "speed" "I", Cond.methodLink RX3 43 yX3_acceptSign, Cond.instanceMethod yX3_acceptSign, Cond.selects RX3 yX3_acceptSign yX3_acceptSign, Cond.code yX3_acceptSign cX3_acceptSign 3 (some .int), Cond.methodLink RX3 47 yX3_numberAt, Cond.instanceMethod yX3_numberAt, Cond.selects RX3 yX3_numberAt yX3_numberAt]
def wsL_law_r11 : List Cond := [Cond.code yX3_numberAt cX3_numberAt 4 (some .int), Cond.methodLink RX3 53 yX3_faultOfNumber, Cond.instanceMethod yX3_faultOfNumber, Cond.selects RX3 yX3_faultOfNumber yX3_faultOfNumber, Cond.code yX3_faultOfNumber cX3_faultOfNumber 4 (some .int), Cond.methodLink RX3 60 yX3_acceptSort, Cond.instanceMethod yX3_acceptSort, Cond.selects RX3 yX3_acceptSort yX3_acceptSort, Cond.code yX3_acceptSort cX3_acceptSort 4 (some .int), Cond.fieldLink RX3 70 "StepRiders$Stair" "kind" "[I", Cond.methodLink RX3 67 yX3_kindOf, Cond.instanceMethod yX3_kindOf, Cond.selects RX3 yX3_kindOf yX3_kindOf, Cond.code yX3_kindOf cX3_kindOf 2 (some .int), Cond.methodLink RX3 64 yX3_acceptLane, Cond.instanceMethod yX3_acceptLane, Cond.selects RX3 yX3_acceptLane yX3_acceptLane, Cond.code yX3_acceptLane cX3_acceptLane 4 (some .int), Cond.fieldLink RX3 73 "StepRiders$Stair" "lane" "[I", Cond.methodLink RX5 123 yX2_become, Cond.instanceMethod yX2_become, Cond.selects RX2 yX2_become yX2_become, Cond.code yX2_become cX2_become 2 none, Cond.methodLink RX2 37 arraycopyName]
def wsL_law_r12 : List Cond := [Cond.methodLink RX5 127 yX0_forgetAll, Cond.instanceMethod yX0_forgetAll, Cond.selects RX0 yX0_forgetAll yX0_forgetAll, Cond.code yX0_forgetAll cX0_forgetAll 1 none, Cond.methodLink RL 40 yX6_stair, Cond.instanceMethod yX6_stair, Cond.selects RX6 yX6_stair yX6_stair, Cond.code yX6_stair cX6_stair 3 (some .int), Cond.fieldLink RX6 83 "StepRidersModel" "wrong" "I", Cond.fieldLink RX6 111 "StepRidersModel" "fault" "I", Cond.constant RX6 114 (-1000100), Cond.fieldLink RX6 86 "StepRidersModel" "at" "I", Cond.fieldLink RX6 115 "StepRidersModel" "known" "I", Cond.methodLink RX6 107 yX6_reads, Cond.instanceMethod yX6_reads, Cond.selects RX6 yX6_reads yX6_reads, Cond.code yX6_reads cX6_reads 3 (some .boolean), Cond.methodLink RX6 98 yX6_sign, Cond.instanceMethod yX6_sign, Cond.selects RX6 yX6_sign yX6_sign, Cond.code yX6_sign cX6_sign 2 (some .boolean), Cond.methodLink RX6 89 yX6_letterAt, Cond.instanceMethod yX6_letterAt, Cond.selects RX6 yX6_letterAt yX6_letterAt]
def wsL_law_r13 : List Cond := [Cond.code yX6_letterAt cX6_letterAt 2 (some .int), Cond.methodLink RX6 92 yX6_fails, Cond.instanceMethod yX6_fails, Cond.selects RX6 yX6_fails yX6_fails, Cond.code yX6_fails cX6_fails 2 (some .boolean), Cond.methodLink RX6 101 yX6_number, Cond.instanceMethod yX6_number, Cond.selects RX6 yX6_number yX6_number, Cond.code yX6_number cX6_number 6 (some .boolean), Cond.methodLink RX6 95 yX6_isDigit, Cond.static yX6_isDigit, Cond.code yX6_isDigit cX6_isDigit 1 (some .boolean), Cond.methodLink RX6 104 yX6_kindBy, Cond.static yX6_kindBy, Cond.code yX6_kindBy cX6_kindBy 1 (some .int), Cond.methodLink RL 41 yX5_fault, Cond.instanceMethod yX5_fault, Cond.selects RX5 yX5_fault yX5_fault, Cond.code yX5_fault cX5_fault 1 (some .int), Cond.fieldLink RX5 133 "StepRiders$Tape" "fault" "I", Cond.methodLink RL 44 yX6_fault, Cond.instanceMethod yX6_fault, Cond.selects RX6 yX6_fault yX6_fault, Cond.code yX6_fault cX6_fault 1 (some .int)]
def wsL_law_r14 : List Cond := [Cond.methodLink RL 45 yX5_ticks, Cond.instanceMethod yX5_ticks, Cond.selects RX5 yX5_ticks yX5_ticks, Cond.code yX5_ticks cX5_ticks 3 (some .int), Cond.constant RX5 140 (-1000002), Cond.fieldLink RX5 141 "StepRiders$Stair" "tick" "I", Cond.methodLink RX5 136 yX5_noStair, Cond.instanceMethod yX5_noStair, Cond.selects RX5 yX5_noStair yX5_noStair, Cond.code yX5_noStair cX5_noStair 1 (some .boolean), Cond.methodLink RX5 144 yX0_keep, Cond.instanceMethod yX0_keep, Cond.selects RX0 yX0_keep yX0_keep, Cond.code yX0_keep cX0_keep 2 none, Cond.methodLink RX0 29 Lib.Math.min.name, Cond.static Lib.Math.min.name, Cond.initialized "java/lang/Math", Cond.code Lib.Math.min.name Lib.Math.min.code 2 (some .int), Cond.methodLink RX0 25 yX2_become, Cond.methodLink RX5 147 yX2_pass, Cond.instanceMethod yX2_pass, Cond.selects RX2 yX2_pass yX2_pass, Cond.code yX2_pass cX2_pass 3 (some .int), Cond.constant RX2 81 (-1000000)]
def wsL_law_r15 : List Cond := [Cond.methodLink RX2 74 yX2_giveTurns, Cond.instanceMethod yX2_giveTurns, Cond.selects RX2 yX2_giveTurns yX2_giveTurns, Cond.code yX2_giveTurns cX2_giveTurns 2 none, Cond.methodLink RX2 92 yX2_goes, Cond.instanceMethod yX2_goes, Cond.selects RX2 yX2_goes yX2_goes, Cond.code yX2_goes cX2_goes 3 (some .boolean), Cond.methodLink RX2 47 yX2_isOn, Cond.instanceMethod yX2_isOn, Cond.selects RX2 yX2_isOn yX2_isOn, Cond.code yX2_isOn cX2_isOn 2 (some .boolean), Cond.methodLink RX2 77 yX2_nextInTurn, Cond.instanceMethod yX2_nextInTurn, Cond.selects RX2 yX2_nextInTurn yX2_nextInTurn, Cond.code yX2_nextInTurn cX2_nextInTurn 4 (some .int), Cond.methodLink RX2 82 yX2_go, Cond.instanceMethod yX2_go, Cond.selects RX2 yX2_go yX2_go, Cond.code yX2_go cX2_go 5 none, Cond.methodLink RX2 95 yX2_mayGo, Cond.instanceMethod yX2_mayGo, Cond.selects RX2 yX2_mayGo yX2_mayGo, Cond.code yX2_mayGo cX2_mayGo 3 (some .boolean)]
def wsL_law_r16 : List Cond := [Cond.methodLink RX2 43 yX2_isFree, Cond.instanceMethod yX2_isFree, Cond.selects RX2 yX2_isFree yX2_isFree, Cond.code yX2_isFree cX2_isFree 5 (some .boolean), Cond.methodLink RX2 86 yX2_carry, Cond.instanceMethod yX2_carry, Cond.selects RX2 yX2_carry yX2_carry, Cond.code yX2_carry cX2_carry 3 (some .int), Cond.methodLink RX2 89 yX2_letOneOn, Cond.instanceMethod yX2_letOneOn, Cond.selects RX2 yX2_letOneOn yX2_letOneOn, Cond.code yX2_letOneOn cX2_letOneOn 2 none, Cond.methodLink RX5 151 yX2_howManyAt, Cond.instanceMethod yX2_howManyAt, Cond.selects RX2 yX2_howManyAt yX2_howManyAt, Cond.code yX2_howManyAt cX2_howManyAt 2 (some .int), Cond.methodLink RX2 58 yX2_whoIsAt, Cond.instanceMethod yX2_whoIsAt, Cond.selects RX2 yX2_whoIsAt yX2_whoIsAt, Cond.code yX2_whoIsAt cX2_whoIsAt 4 (some .int), Cond.methodLink RX2 62 yJ6_bitCount_0f7a4, Cond.static yJ6_bitCount_0f7a4, Cond.initialized RJ6, Cond.code yJ6_bitCount_0f7a4 cJ6_bitCount_0f7a4 1 (some .int)]
def wsL_law_r17 : List Cond := [Cond.constant RJ6 265 (1431655765), Cond.constant RJ6 266 (858993459), Cond.constant RJ6 267 (252645135), Cond.methodLink RL 48 yX6_ticks, Cond.instanceMethod yX6_ticks, Cond.selects RX6 yX6_ticks yX6_ticks, Cond.code yX6_ticks cX6_ticks 3 (some .int), Cond.constant RX6 136 (-1000002), Cond.methodLink RX6 133 yX6_isStair, Cond.instanceMethod yX6_isStair, Cond.selects RX6 yX6_isStair yX6_isStair, Cond.code yX6_isStair cX6_isStair 1 (some .boolean), Cond.methodLink RX6 137 yX6_keeps, Cond.instanceMethod yX6_keeps, Cond.selects RX6 yX6_keeps yX6_keeps, Cond.code yX6_keeps cX6_keeps 2 none, Cond.methodLink RX6 140 yX6_tick, Cond.instanceMethod yX6_tick, Cond.selects RX6 yX6_tick yX6_tick, Cond.code yX6_tick cX6_tick 5 none, Cond.methodLink RX6 126 yX6_moves, Cond.static yX6_moves, Cond.code yX6_moves cX6_moves 4 none, Cond.methodLink RX6 122 yX6_goes]
def wsL_law_r18 : List Cond := [Cond.static yX6_goes, Cond.code yX6_goes cX6_goes 5 (some .boolean), Cond.methodLink RX6 118 yX6_isFree, Cond.static yX6_isFree, Cond.code yX6_isFree cX6_isFree 7 (some .boolean), Cond.methodLink RX6 130 yX6_isOn, Cond.static yX6_isOn, Cond.code yX6_isOn cX6_isOn 1 (some .boolean), Cond.methodLink RX6 144 yX6_offIn, Cond.static yX6_offIn, Cond.code yX6_offIn cX6_offIn 3 (some .int), Cond.methodLink RL 49 yX5_speed, Cond.instanceMethod yX5_speed, Cond.selects RX5 yX5_speed yX5_speed, Cond.code yX5_speed cX5_speed 3 (some .int), Cond.fieldLink RX5 154 "StepRiders$Stair" "speed" "I", Cond.methodLink RL 52 yX6_speed, Cond.instanceMethod yX6_speed, Cond.selects RX6 yX6_speed yX6_speed, Cond.code yX6_speed cX6_speed 3 (some .int), Cond.methodLink RL 53 yX5_cross, Cond.instanceMethod yX5_cross, Cond.selects RX5 yX5_cross yX5_cross, Cond.code yX5_cross cX5_cross 2 (some .int)]
def wsL_law_r19 : List Cond := [Cond.fieldLink RX5 160 "StepRiders$Stair" "at" "[I", Cond.fieldLink RX5 166 "StepRiders$Stair" "lane" "[I", Cond.methodLink RX5 157 yX5_noRider, Cond.instanceMethod yX5_noRider, Cond.selects RX5 yX5_noRider yX5_noRider, Cond.code yX5_noRider cX5_noRider 2 (some .boolean), Cond.methodLink RX5 163 yX2_mayCross, Cond.instanceMethod yX2_mayCross, Cond.selects RX2 yX2_mayCross yX2_mayCross, Cond.code yX2_mayCross cX2_mayCross 2 (some .boolean), Cond.methodLink RX2 51 yX2_takesBoth, Cond.instanceMethod yX2_takesBoth, Cond.selects RX2 yX2_takesBoth yX2_takesBoth, Cond.code yX2_takesBoth cX2_takesBoth 2 (some .boolean), Cond.methodLink RX2 54 yX2_whoTakes, Cond.instanceMethod yX2_whoTakes, Cond.selects RX2 yX2_whoTakes yX2_whoTakes, Cond.code yX2_whoTakes cX2_whoTakes 5 (some .int), Cond.methodLink RL 56 yX6_cross, Cond.instanceMethod yX6_cross, Cond.selects RX6 yX6_cross yX6_cross, Cond.code yX6_cross cX6_cross 4 (some .int), Cond.methodLink RX6 148 yX6_isRider, Cond.instanceMethod yX6_isRider]
def wsL_law_r20 : List Cond := [Cond.selects RX6 yX6_isRider yX6_isRider, Cond.code yX6_isRider cX6_isRider 2 (some .boolean), Cond.methodLink RL 57 yX5_take, Cond.instanceMethod yX5_take, Cond.selects RX5 yX5_take yX5_take, Cond.code yX5_take cX5_take 3 (some .int), Cond.methodLink RL 60 yX6_take, Cond.instanceMethod yX6_take, Cond.selects RX6 yX6_take yX6_take, Cond.code yX6_take cX6_take 3 (some .int), Cond.methodLink RL 61 yX5_again, Cond.instanceMethod yX5_again, Cond.selects RX5 yX5_again yX5_again, Cond.code yX5_again cX5_again 3 (some .int), Cond.methodLink RX5 169 yX2_sendBack, Cond.instanceMethod yX2_sendBack, Cond.selects RX2 yX2_sendBack yX2_sendBack, Cond.code yX2_sendBack cX2_sendBack 3 none, Cond.methodLink RL 65 yX6_again, Cond.instanceMethod yX6_again, Cond.selects RX6 yX6_again yX6_again, Cond.code yX6_again cX6_again 3 (some .int), Cond.methodLink RL 66 yX5_undo, Cond.instanceMethod yX5_undo]
def wsL_law_r21 : List Cond := [Cond.selects RX5 yX5_undo yX5_undo, Cond.code yX5_undo cX5_undo 1 (some .int), Cond.fieldLink RX5 172 "StepRiders$Acts" "kept" "I", Cond.methodLink RX5 175 yX0_takeBack, Cond.instanceMethod yX0_takeBack, Cond.selects RX0 yX0_takeBack yX0_takeBack, Cond.code yX0_takeBack cX0_takeBack 2 none, Cond.methodLink RX0 35 Lib.Math.max.name, Cond.static Lib.Math.max.name, Cond.code Lib.Math.max.name Lib.Math.max.code 2 (some .int), Cond.methodLink RL 69 yX6_undo, Cond.instanceMethod yX6_undo, Cond.selects RX6 yX6_undo yX6_undo, Cond.code yX6_undo cX6_undo 2 (some .int), Cond.methodLink RL 70 yX5_rider, Cond.instanceMethod yX5_rider, Cond.selects RX5 yX5_rider yX5_rider, Cond.code yX5_rider cX5_rider 3 (some .int), Cond.methodLink RX5 178 yX2_takesBoth, Cond.methodLink RX5 181 yX5_oneIf, Cond.static yX5_oneIf, Cond.code yX5_oneIf cX5_oneIf 1 (some .int), Cond.methodLink RX5 185 yX2_isOn, Cond.methodLink RX5 188 yX2_mayGo]
def wsL_law_r22 : List Cond := [Cond.methodLink RL 73 yX6_rider, Cond.instanceMethod yX6_rider, Cond.selects RX6 yX6_rider yX6_rider, Cond.code yX6_rider cX6_rider 4 (some .int), Cond.methodLink RL 74 yX5_step, Cond.instanceMethod yX5_step, Cond.selects RX5 yX5_step yX5_step, Cond.code yX5_step cX5_step 3 (some .int), Cond.fieldLink RX5 191 "StepRiders$Stair" "steps" "I", Cond.methodLink RX5 194 yX2_whoTakes, Cond.methodLink RL 77 yX6_step, Cond.instanceMethod yX6_step, Cond.selects RX6 yX6_step yX6_step, Cond.code yX6_step cX6_step 6 (some .int), Cond.methodLink RL 78 yX5_ahead, Cond.instanceMethod yX5_ahead, Cond.selects RX5 yX5_ahead yX5_ahead, Cond.code yX5_ahead cX5_ahead 3 (some .int), Cond.methodLink RX5 198 yX5_tryTicks, Cond.instanceMethod yX5_tryTicks, Cond.selects RX5 yX5_tryTicks yX5_tryTicks, Cond.code yX5_tryTicks cX5_tryTicks 3 none, Cond.methodLink RL 81 yX6_ahead, Cond.instanceMethod yX6_ahead]
def wsL_law_r23 : List Cond := [Cond.selects RX6 yX6_ahead yX6_ahead, Cond.code yX6_ahead cX6_ahead 4 (some .int), Cond.methodLink RX6 151 yX6_starts, Cond.instanceMethod yX6_starts, Cond.selects RX6 yX6_starts yX6_starts, Cond.code yX6_starts cX6_starts 2 none, Cond.methodLink RL 82 yX5_later, Cond.instanceMethod yX5_later, Cond.selects RX5 yX5_later yX5_later, Cond.code yX5_later cX5_later 3 (some .int), Cond.methodLink RX5 201 yX2_stepsTaken, Cond.instanceMethod yX2_stepsTaken, Cond.selects RX2 yX2_stepsTaken yX2_stepsTaken, Cond.code yX2_stepsTaken cX2_stepsTaken 3 (some .int), Cond.methodLink RL 85 yX6_later, Cond.instanceMethod yX6_later, Cond.selects RX6 yX6_later yX6_later, Cond.code yX6_later cX6_later 5 (some .int), Cond.methodLink RL 86 yX5_off, Cond.instanceMethod yX5_off, Cond.selects RX5 yX5_off yX5_off, Cond.code yX5_off cX5_off 2 (some .int), Cond.methodLink RX5 204 yX2_passUntilOff, Cond.instanceMethod yX2_passUntilOff]
def wsL_law_r24 : List Cond := [Cond.selects RX2 yX2_passUntilOff yX2_passUntilOff, Cond.code yX2_passUntilOff cX2_passUntilOff 4 (some .int), Cond.methodLink RX2 98 yX2_nobodyGoesOff, Cond.instanceMethod yX2_nobodyGoesOff, Cond.selects RX2 yX2_nobodyGoesOff yX2_nobodyGoesOff, Cond.code yX2_nobodyGoesOff cX2_nobodyGoesOff 1 (some .boolean), Cond.methodLink RX2 102 yX2_pass, Cond.methodLink RL 89 yX6_off, Cond.instanceMethod yX6_off, Cond.selects RX6 yX6_off yX6_off, Cond.code yX6_off cX6_off 3 (some .int), Cond.constant RX6 154 (-1000000), Cond.methodLink RL 90 yX5_clear, Cond.instanceMethod yX5_clear, Cond.selects RX5 yX5_clear yX5_clear, Cond.code yX5_clear cX5_clear 1 (some .int), Cond.methodLink RX5 207 yX2_passUntilClear, Cond.instanceMethod yX2_passUntilClear, Cond.selects RX2 yX2_passUntilClear yX2_passUntilClear, Cond.code yX2_passUntilClear cX2_passUntilClear 3 (some .int), Cond.methodLink RX2 105 yX2_isClear, Cond.instanceMethod yX2_isClear, Cond.selects RX2 yX2_isClear yX2_isClear, Cond.code yX2_isClear cX2_isClear 1 (some .boolean)]
def wsL_law_r25 : List Cond := [Cond.methodLink RX2 67 yX2_howManyAt, Cond.methodLink RL 93 yX6_clear, Cond.instanceMethod yX6_clear, Cond.selects RX6 yX6_clear yX6_clear, Cond.code yX6_clear cX6_clear 1 (some .int), Cond.methodLink RX6 155 yX6_clears, Cond.instanceMethod yX6_clears, Cond.selects RX6 yX6_clears yX6_clears, Cond.code yX6_clears cX6_clears 2 (some .int), Cond.methodLink RL 94 yX5_sorting, Cond.instanceMethod yX5_sorting, Cond.selects RX5 yX5_sorting yX5_sorting, Cond.code yX5_sorting cX5_sorting 8 (some .int), Cond.methodLink RX5 210 yX2_whoIsAt, Cond.methodLink RX5 213 yX2_putInLanes, Cond.instanceMethod yX2_putInLanes, Cond.selects RX2 yX2_putInLanes yX2_putInLanes, Cond.code yX2_putInLanes cX2_putInLanes 4 none, Cond.methodLink RX5 216 yX5_nextSubset, Cond.static yX5_nextSubset, Cond.code yX5_nextSubset cX5_nextSubset 2 (some .int), Cond.methodLink RL 97 yX6_sorting, Cond.instanceMethod yX6_sorting, Cond.selects RX6 yX6_sorting yX6_sorting]
def wsL_law_r26 : List Cond := [Cond.code yX6_sorting cX6_sorting 8 (some .int), Cond.methodLink RX6 159 yX6_queued, Cond.instanceMethod yX6_queued, Cond.selects RX6 yX6_queued yX6_queued, Cond.code yX6_queued cX6_queued 3 (some .int), Cond.methodLink RX6 162 yX6_has, Cond.static yX6_has, Cond.code yX6_has cX6_has 2 (some .boolean), Cond.methodLink RL 98 yX5_taken, Cond.instanceMethod yX5_taken, Cond.selects RX5 yX5_taken yX5_taken, Cond.code yX5_taken cX5_taken 7 (some .int), Cond.methodLink RL 101 yX6_taken, Cond.instanceMethod yX6_taken, Cond.selects RX6 yX6_taken yX6_taken, Cond.code yX6_taken cX6_taken 6 (some .int), Cond.methodLink RL 102 yX5_pace, Cond.instanceMethod yX5_pace, Cond.selects RX5 yX5_pace yX5_pace, Cond.code yX5_pace cX5_pace 5 (some .int), Cond.methodLink RX5 219 yX5_findPaces, Cond.instanceMethod yX5_findPaces, Cond.selects RX5 yX5_findPaces yX5_findPaces, Cond.code yX5_findPaces cX5_findPaces 7 (some .int)]
def wsL_law_r27 : List Cond := [Cond.methodLink RX5 243 yX5_power, Cond.static yX5_power, Cond.code yX5_power cX5_power 4 (some .int), Cond.methodLink RX5 283 yX5_writePaces, Cond.instanceMethod yX5_writePaces, Cond.selects RX5 yX5_writePaces yX5_writePaces, Cond.code yX5_writePaces cX5_writePaces 7 (some .int), Cond.methodLink RX5 286 yX5_passLevels, Cond.instanceMethod yX5_passLevels, Cond.selects RX5 yX5_passLevels yX5_passLevels, Cond.code yX5_passLevels cX5_passLevels 5 none, Cond.methodLink RX5 289 yX5_sumOfPaces, Cond.instanceMethod yX5_sumOfPaces, Cond.selects RX5 yX5_sumOfPaces yX5_sumOfPaces, Cond.code yX5_sumOfPaces cX5_sumOfPaces 4 (some .int), Cond.methodLink RL 105 yX6_pace, Cond.instanceMethod yX6_pace, Cond.selects RX6 yX6_pace yX6_pace, Cond.code yX6_pace cX6_pace 11 (some .int), Cond.methodLink RL 106 yX5_fits, Cond.instanceMethod yX5_fits, Cond.selects RX5 yX5_fits yX5_fits, Cond.code yX5_fits cX5_fits 7 (some .int), Cond.methodLink RX5 222 yX5_kindsThatFit]
def wsL_law_r28 : List Cond := [Cond.instanceMethod yX5_kindsThatFit, Cond.selects RX5 yX5_kindsThatFit yX5_kindsThatFit, Cond.code yX5_kindsThatFit cX5_kindsThatFit 7 (some .int), Cond.fieldLink RX5 257 "StepRiders$Stair" "kind" "[I", Cond.methodLink RX5 292 yX5_trialFits, Cond.instanceMethod yX5_trialFits, Cond.selects RX5 yX5_trialFits yX5_trialFits, Cond.code yX5_trialFits cX5_trialFits 6 (some .boolean), Cond.methodLink RX5 226 yX5_lanesThatFit, Cond.instanceMethod yX5_lanesThatFit, Cond.selects RX5 yX5_lanesThatFit yX5_lanesThatFit, Cond.code yX5_lanesThatFit cX5_lanesThatFit 7 (some .int), Cond.methodLink RX5 229 yX5_speedsThatFit, Cond.instanceMethod yX5_speedsThatFit, Cond.selects RX5 yX5_speedsThatFit yX5_speedsThatFit, Cond.code yX5_speedsThatFit cX5_speedsThatFit 7 (some .int), Cond.methodLink RX5 232 yX5_startsThatFit, Cond.instanceMethod yX5_startsThatFit, Cond.selects RX5 yX5_startsThatFit yX5_startsThatFit, Cond.code yX5_startsThatFit cX5_startsThatFit 7 (some .int), Cond.methodLink RX5 296 yX2_isFree, Cond.methodLink RL 109 yX6_fits, Cond.instanceMethod yX6_fits, Cond.selects RX6 yX6_fits yX6_fits]
def wsL_law_r29 : List Cond := [Cond.code yX6_fits cX6_fits 14 (some .int), Cond.methodLink RX6 166 yX6_isSo, Cond.instanceMethod yX6_isSo, Cond.selects RX6 yX6_isSo yX6_isSo, Cond.code yX6_isSo cX6_isSo 6 (some .boolean), Cond.methodLink RL 110 yX5_absent, Cond.instanceMethod yX5_absent, Cond.selects RX5 yX5_absent yX5_absent, Cond.code yX5_absent cX5_absent 11 (some .int), Cond.methodLink RX5 235 yJ6_bitCount_0f7a4, Cond.methodLink RX5 240 yX2_takeOff, Cond.instanceMethod yX2_takeOff, Cond.selects RX2 yX2_takeOff yX2_takeOff, Cond.code yX2_takeOff cX2_takeOff 3 none, Cond.methodLink RX5 246 yX5_greatestDivisor, Cond.static yX5_greatestDivisor, Cond.code yX5_greatestDivisor cX5_greatestDivisor 6 (some .int), Cond.methodLink RX5 278 Lib.Math.max.name, Cond.methodLink RL 114 yX6_absent, Cond.instanceMethod yX6_absent, Cond.selects RX6 yX6_absent yX6_absent, Cond.code yX6_absent cX6_absent 11 (some .int), Cond.methodLink RL 115 yX5_drawn, Cond.instanceMethod yX5_drawn]
def wsL_law_r30 : List Cond := [Cond.selects RX5 yX5_drawn yX5_drawn, Cond.code yX5_drawn cX5_drawn 8 (some .int), Cond.constant RX5 249 (999999), Cond.constantLong RX5 250 (16807), Cond.constantLong RX5 252 (2147483647), Cond.methodLink RX5 254 yX2_draw, Cond.instanceMethod yX2_draw, Cond.selects RX2 yX2_draw yX2_draw, Cond.code yX2_draw cX2_draw 2 none, Cond.methodLink RX2 70 yX2_sendBack, Cond.methodLink RL 118 yX6_drawn, Cond.instanceMethod yX6_drawn, Cond.selects RX6 yX6_drawn yX6_drawn, Cond.code yX6_drawn cX6_drawn 10 (some .int), Cond.constant RX6 169 (999999), Cond.constantLong RX6 170 (16807), Cond.constantLong RX6 172 (2147483647), Cond.constantLong RX6 174 (4), Cond.constantLong RX6 176 (3), Cond.constantLong RX6 178 (2), Cond.methodLink RL 119 yX5_image, Cond.instanceMethod yX5_image, Cond.selects RX5 yX5_image yX5_image, Cond.code yX5_image cX5_image 2 (some .int)]
def wsL_law_r31 : List Cond := [Cond.methodLink RL 122 yX6_image, Cond.instanceMethod yX6_image, Cond.selects RX6 yX6_image yX6_image, Cond.code yX6_image cX6_image 3 (some .int), Cond.methodLink RL 123 yX5_restore, Cond.instanceMethod yX5_restore, Cond.selects RX5 yX5_restore yX5_restore, Cond.code yX5_restore cX5_restore 2 (some .int), Cond.methodLink RL 126 yX6_restore, Cond.instanceMethod yX6_restore, Cond.selects RX6 yX6_restore yX6_restore, Cond.code yX6_restore cX6_restore 3 (some .int), Cond.methodLink RL 127 yX5_kind, Cond.instanceMethod yX5_kind, Cond.selects RX5 yX5_kind yX5_kind, Cond.code yX5_kind cX5_kind 2 (some .int), Cond.methodLink RL 130 yX6_kind, Cond.instanceMethod yX6_kind, Cond.selects RX6 yX6_kind yX6_kind, Cond.code yX6_kind cX6_kind 2 (some .int), Cond.methodLink RL 131 yX5_as, Cond.instanceMethod yX5_as, Cond.selects RX5 yX5_as yX5_as, Cond.code yX5_as cX5_as 5 (some .int)]
def wsL_law_r32 : List Cond := [Cond.fieldLink RX5 260 "StepRiders" "NEXT_KIND" "[I", Cond.methodLink RL 134 yX6_as, Cond.instanceMethod yX6_as, Cond.selects RX6 yX6_as yX6_as, Cond.code yX6_as cX6_as 5 (some .int), Cond.constant RX6 180 (-1000013), Cond.methodLink RL 135 yX5_ask, Cond.instanceMethod yX5_ask, Cond.selects RX5 yX5_ask yX5_ask, Cond.code yX5_ask cX5_ask 3 (some .int), Cond.fieldLink RX5 263 "StepRiders$Trace" "length" "I", Cond.methodLink RX5 264 yX5_bodyFor, Cond.static yX5_bodyFor, Cond.code yX5_bodyFor cX5_bodyFor 5 (some .int), Cond.fieldLink RX5 299 "StepRiders" "SIZE_BODIES" "[I", Cond.fieldLink RX5 302 "StepRiders" "MARK_BODIES" "[I", Cond.methodLink RX5 267 yX5_answerOf, Cond.static yX5_answerOf, Cond.code yX5_answerOf cX5_answerOf 6 (some .int), Cond.methodLink RX5 305 yX4_leave, Cond.instanceMethod yX4_leave, Cond.selects RX4 yX4_leave yX4_leave, Cond.code yX4_leave cX4_leave 2 none, Cond.methodLink RL 138 yX6_ask]
def wsL_law_r33 : List Cond := [Cond.instanceMethod yX6_ask, Cond.selects RX6 yX6_ask yX6_ask, Cond.code yX6_ask cX6_ask 3 (some .int), Cond.fieldLink RX6 181 "StepRidersModel" "traced" "I", Cond.methodLink RX6 191 yX6_size, Cond.instanceMethod yX6_size, Cond.selects RX6 yX6_size yX6_size, Cond.code yX6_size cX6_size 5 (some .int), Cond.methodLink RX6 184 yX6_begins, Cond.instanceMethod yX6_begins, Cond.selects RX6 yX6_begins yX6_begins, Cond.code yX6_begins cX6_begins 2 none, Cond.methodLink RX6 188 yX6_stands, Cond.instanceMethod yX6_stands, Cond.selects RX6 yX6_stands yX6_stands, Cond.code yX6_stands cX6_stands 4 (some .int), Cond.methodLink RL 139 yX5_trace, Cond.instanceMethod yX5_trace, Cond.selects RX5 yX5_trace yX5_trace, Cond.code yX5_trace cX5_trace 2 (some .int), Cond.fieldLink RX5 271 "StepRiders$Trace" "bodies" "[I", Cond.methodLink RL 142 yX6_trace, Cond.instanceMethod yX6_trace, Cond.selects RX6 yX6_trace yX6_trace]
def wsL_law_r34 : List Cond := [Cond.code yX6_trace cX6_trace 2 (some .int), Cond.methodLink RL 143 yX5_count, Cond.instanceMethod yX5_count, Cond.selects RX5 yX5_count yX5_count, Cond.code yX5_count cX5_count 2 (some .int), Cond.methodLink RX5 274 yX5_howManyRows, Cond.instanceMethod yX5_howManyRows, Cond.selects RX5 yX5_howManyRows yX5_howManyRows, Cond.code yX5_howManyRows cX5_howManyRows 3 (some .int), Cond.methodLink RL 146 yX6_count, Cond.instanceMethod yX6_count, Cond.selects RX6 yX6_count yX6_count, Cond.code yX6_count cX6_count 4 (some .int), Cond.methodLink RL 147 yX5_status, Cond.instanceMethod yX5_status, Cond.selects RX5 yX5_status yX5_status, Cond.code yX5_status cX5_status 1 (some .int), Cond.methodLink RL 150 yX6_status, Cond.instanceMethod yX6_status, Cond.selects RX6 yX6_status yX6_status, Cond.code yX6_status cX6_status 1 (some .int)]
def wsL_law : List Cond := (wsL_law_r1 ++ (wsL_law_r2 ++ (wsL_law_r3 ++ (wsL_law_r4 ++ (wsL_law_r5 ++ (wsL_law_r6 ++ (wsL_law_r7 ++ (wsL_law_r8 ++ (wsL_law_r9 ++ (wsL_law_r10 ++ (wsL_law_r11 ++ (wsL_law_r12 ++ (wsL_law_r13 ++ (wsL_law_r14 ++ (wsL_law_r15 ++ (wsL_law_r16 ++ (wsL_law_r17 ++ (wsL_law_r18 ++ (wsL_law_r19 ++ (wsL_law_r20 ++ (wsL_law_r21 ++ (wsL_law_r22 ++ (wsL_law_r23 ++ (wsL_law_r24 ++ (wsL_law_r25 ++ (wsL_law_r26 ++ (wsL_law_r27 ++ (wsL_law_r28 ++ (wsL_law_r29 ++ (wsL_law_r30 ++ (wsL_law_r31 ++ (wsL_law_r32 ++ (wsL_law_r33 ++ wsL_law_r34))))))))))))))))))))))))))))))))) ++ wsX50 ++ wsX60 ++ wsX30 ++ wsX20 ++ wsX00 ++ wsX40 ++ wsX10 ++ ([] : List Cond)
end
section
abbrev vwCl : List vw_C := [(RX0, TX0, 3), (RX1, TX1, 4), (RX2, TX2, 8), (RX3, TX3, 3), (RX4, TX4, 2), (RX5, TX5, 11), (RX6, TX6, 20)]
end
section
set_option maxRecDepth 20000 in
theorem ggX0_init_X2_init : GoodIn wsX0_init wsX2_init := goodIn_r _ [11, 12, 2, 3, 13, 14, 15, 16, 17, 18, 19, 20, 21, 25, 26, 27, 28, 29, 30, 31, 32] (by decide +kernel) (by decide +kernel)
set_option maxRecDepth 20000 in
theorem gX0_init_X2_init_n24 : GoodIn wsX0_init (wsX2_init) := ggX0_init_X2_init
set_option maxRecDepth 20000 in
theorem ggX0_keep_X2_become : GoodIn wsX0_keep wsX2_become := goodIn_r _ [12, 13, 14, 15, 16, 17, 18, 19, 20, 21, 22, 23, 27, 28, 29, 30, 31, 32, 33, 34] (by decide +kernel) (by decide +kernel)
set_option maxRecDepth 20000 in
theorem gX0_keep_X2_become : GoodIn wsX0_keep (wsV RX0 25 RX2 yX2_become wsX2_become) := goodIn_app (goodIn_of _ (by decide +kernel)) ggX0_keep_X2_become
set_option maxRecDepth 20000 in
theorem ggX0_takeBack_X2_become : GoodIn wsX0_takeBack wsX2_become := goodIn_r _ [12, 13, 14, 15, 16, 17, 18, 19, 20, 21, 22, 23, 27, 28, 29, 30, 31, 32, 33, 34] (by decide +kernel) (by decide +kernel)
set_option maxRecDepth 20000 in
theorem gX0_takeBack_X2_become : GoodIn wsX0_takeBack (wsV RX0 25 RX2 yX2_become wsX2_become) := goodIn_app (goodIn_of _ (by decide +kernel)) ggX0_takeBack_X2_become
set_option maxRecDepth 20000 in
theorem ggX2_mayGo_X2_isFree : GoodIn wsX2_mayGo wsX2_isFree := goodIn_r _ [6, 7, 8, 9, 10, 11, 12, 13, 14, 15, 16, 17, 18] (by decide +kernel) (by decide +kernel)
set_option maxRecDepth 20000 in
theorem gX2_mayGo_X2_isFree : GoodIn wsX2_mayGo (wsV RX2 43 RX2 yX2_isFree wsX2_isFree) := goodIn_app (goodIn_of _ (by decide +kernel)) ggX2_mayGo_X2_isFree
set_option maxRecDepth 20000 in
theorem ggX2_mayCross_X2_isOn : GoodIn wsX2_mayCross wsX2_isOn := goodIn_r _ [7, 1, 8, 19, 20, 21, 22, 23, 24, 25, 26] (by decide +kernel) (by decide +kernel)
set_option maxRecDepth 20000 in
theorem gX2_mayCross_X2_isOn : GoodIn wsX2_mayCross (wsV RX2 47 RX2 yX2_isOn wsX2_isOn) := goodIn_app (goodIn_of _ (by decide +kernel)) ggX2_mayCross_X2_isOn
set_option maxRecDepth 20000 in
theorem ggX2_mayCross_X2_takesBoth : GoodIn wsX2_mayCross wsX2_takesBoth := goodIn_r _ [12, 13, 19, 20, 21, 22, 23, 24, 25, 26] (by decide +kernel) (by decide +kernel)
set_option maxRecDepth 20000 in
theorem gX2_mayCross_X2_takesBoth : GoodIn wsX2_mayCross (wsV RX2 51 RX2 yX2_takesBoth wsX2_takesBoth) := goodIn_app (goodIn_of _ (by decide +kernel)) ggX2_mayCross_X2_takesBoth
set_option maxRecDepth 20000 in
theorem ggX2_mayCross_X2_whoTakes : GoodIn wsX2_mayCross wsX2_whoTakes := goodIn_r _ [17, 18, 1, 2, 9, 10, 11, 6, 12, 13, 19, 20, 21, 22, 23, 24, 25, 26] (by decide +kernel) (by decide +kernel)
set_option maxRecDepth 20000 in
theorem gX2_mayCross_X2_whoTakes : GoodIn wsX2_mayCross (wsV RX2 54 RX2 yX2_whoTakes wsX2_whoTakes) := goodIn_app (goodIn_of _ (by decide +kernel)) ggX2_mayCross_X2_whoTakes
set_option maxRecDepth 20000 in
theorem ggX2_whoTakes_X2_takesBoth : GoodIn wsX2_whoTakes wsX2_takesBoth := goodIn_r _ [8, 9, 10, 11, 12, 13, 14, 15, 16, 17] (by decide +kernel) (by decide +kernel)
set_option maxRecDepth 20000 in
theorem gX2_whoTakes_X2_takesBoth : GoodIn wsX2_whoTakes (wsV RX2 51 RX2 yX2_takesBoth wsX2_takesBoth) := goodIn_app (goodIn_of _ (by decide +kernel)) ggX2_whoTakes_X2_takesBoth
set_option maxRecDepth 20000 in
theorem ggX2_howManyAt_X2_whoIsAt : GoodIn wsX2_howManyAt wsX2_whoIsAt := goodIn_r _ [5, 6, 7, 15, 16, 17, 18, 19, 20, 21, 22] (by decide +kernel) (by decide +kernel)
set_option maxRecDepth 20000 in
theorem gX2_howManyAt_X2_whoIsAt : GoodIn wsX2_howManyAt (wsV RX2 58 RX2 yX2_whoIsAt wsX2_whoIsAt) := goodIn_app (goodIn_of _ (by decide +kernel)) ggX2_howManyAt_X2_whoIsAt
set_option maxRecDepth 20000 in
theorem ggX2_howManyAt_J6_bitCount_0f7a4 : GoodIn wsX2_howManyAt wsJ6_bitCount_0f7a4 := goodIn_r _ [11, 12, 13, 14] (by decide +kernel) (by decide +kernel)
set_option maxRecDepth 20000 in
theorem gX2_howManyAt_J6_bitCount_0f7a4 : GoodIn wsX2_howManyAt (va_wsS RX2 62 yJ6_bitCount_0f7a4 wsJ6_bitCount_0f7a4) := goodIn_app (goodIn_of _ (by decide +kernel)) ggX2_howManyAt_J6_bitCount_0f7a4
set_option maxRecDepth 20000 in
theorem ggX2_stepsTaken_X2_isOn : GoodIn wsX2_stepsTaken wsX2_isOn := goodIn_r _ [7, 2, 8, 9, 10, 11, 12, 13, 14, 15, 16] (by decide +kernel) (by decide +kernel)
set_option maxRecDepth 20000 in
theorem gX2_stepsTaken_X2_isOn : GoodIn wsX2_stepsTaken (wsV RX2 47 RX2 yX2_isOn wsX2_isOn) := goodIn_app (goodIn_of _ (by decide +kernel)) ggX2_stepsTaken_X2_isOn
set_option maxRecDepth 20000 in
theorem ggX2_isClear_X2_howManyAt : GoodIn wsX2_isClear wsX2_howManyAt := goodIn_r _ [6, 7, 8, 9, 5, 10, 1, 11, 12, 13, 14, 15, 16, 17, 18, 19, 20, 21, 22, 23, 24, 25, 26] (by decide +kernel) (by decide +kernel)
set_option maxRecDepth 20000 in
theorem gX2_isClear_X2_howManyAt : GoodIn wsX2_isClear (wsV RX2 67 RX2 yX2_howManyAt wsX2_howManyAt) := goodIn_app (goodIn_of _ (by decide +kernel)) ggX2_isClear_X2_howManyAt
set_option maxRecDepth 20000 in
theorem ggX2_draw_X2_sendBack : GoodIn wsX2_draw wsX2_sendBack := goodIn_r _ [8, 3, 9, 10, 11, 12, 13, 14, 15, 16, 17] (by decide +kernel) (by decide +kernel)
set_option maxRecDepth 20000 in
theorem gX2_draw_X2_sendBack : GoodIn wsX2_draw (wsV RX2 70 RX2 yX2_sendBack wsX2_sendBack) := goodIn_app (goodIn_of _ (by decide +kernel)) ggX2_draw_X2_sendBack
set_option maxRecDepth 20000 in
theorem ggX2_pass_X2_giveTurns : GoodIn wsX2_pass wsX2_giveTurns := goodIn_r _ [9, 1, 3, 10, 11, 12, 13, 14, 8, 15, 16, 4, 17, 18, 19, 20, 21, 47, 48, 49, 50, 51, 52, 53, 54] (by decide +kernel) (by decide +kernel)
set_option maxRecDepth 20000 in
theorem gX2_pass_X2_giveTurns : GoodIn wsX2_pass (wsV RX2 74 RX2 yX2_giveTurns wsX2_giveTurns) := goodIn_app (goodIn_of _ (by decide +kernel)) ggX2_pass_X2_giveTurns
set_option maxRecDepth 20000 in
theorem ggX2_pass_X2_nextInTurn : GoodIn wsX2_pass wsX2_nextInTurn := goodIn_r _ [25, 2, 1, 3, 47, 48, 49, 50, 51, 52, 53, 54] (by decide +kernel) (by decide +kernel)
set_option maxRecDepth 20000 in
theorem gX2_pass_X2_nextInTurn : GoodIn wsX2_pass (wsV RX2 77 RX2 yX2_nextInTurn wsX2_nextInTurn) := goodIn_app (goodIn_of _ (by decide +kernel)) ggX2_pass_X2_nextInTurn
set_option maxRecDepth 20000 in
theorem ggX2_pass_X2_go : GoodIn wsX2_pass wsX2_go := goodIn_r _ [29, 16, 10, 30, 31, 32, 8, 33, 21, 34, 35, 36, 37, 1, 11, 47, 48, 49, 50, 51, 52, 53, 54] (by decide +kernel) (by decide +kernel)
set_option maxRecDepth 20000 in
theorem gX2_pass_X2_go : GoodIn wsX2_pass (wsV RX2 82 RX2 yX2_go wsX2_go) := goodIn_app (goodIn_of _ (by decide +kernel)) ggX2_pass_X2_go
set_option maxRecDepth 20000 in
theorem ggX2_pass_X2_carry : GoodIn wsX2_pass wsX2_carry := goodIn_r _ [41, 1, 10, 42, 21, 17, 18, 19, 8, 20, 47, 48, 49, 50, 51, 52, 53, 54] (by decide +kernel) (by decide +kernel)
set_option maxRecDepth 20000 in
theorem gX2_pass_X2_carry : GoodIn wsX2_pass (wsV RX2 86 RX2 yX2_carry wsX2_carry) := goodIn_app (goodIn_of _ (by decide +kernel)) ggX2_pass_X2_carry
set_option maxRecDepth 20000 in
theorem ggX2_pass_X2_letOneOn : GoodIn wsX2_pass wsX2_letOneOn := goodIn_r _ [46, 1, 10, 34, 35, 36, 8, 37, 16, 11, 47, 48, 49, 50, 51, 52, 53, 54] (by decide +kernel) (by decide +kernel)
set_option maxRecDepth 20000 in
theorem gX2_pass_X2_letOneOn : GoodIn wsX2_pass (wsV RX2 89 RX2 yX2_letOneOn wsX2_letOneOn) := goodIn_app (goodIn_of _ (by decide +kernel)) ggX2_pass_X2_letOneOn
set_option maxRecDepth 20000 in
theorem ggX2_giveTurns_X2_goes : GoodIn wsX2_giveTurns wsX2_goes := goodIn_r _ [9, 10, 11, 12, 13, 14, 8, 15, 3, 16, 17, 18, 19, 20, 21, 22, 23, 24] (by decide +kernel) (by decide +kernel)
set_option maxRecDepth 20000 in
theorem gX2_giveTurns_X2_goes : GoodIn wsX2_giveTurns (wsV RX2 92 RX2 yX2_goes wsX2_goes) := goodIn_app (goodIn_of _ (by decide +kernel)) ggX2_giveTurns_X2_goes
set_option maxRecDepth 20000 in
theorem ggX2_goes_X2_isOn : GoodIn wsX2_goes wsX2_isOn := goodIn_r _ [7, 8, 9, 10, 11, 12, 13, 14, 15, 16, 17] (by decide +kernel) (by decide +kernel)
set_option maxRecDepth 20000 in
theorem gX2_goes_X2_isOn : GoodIn wsX2_goes (wsV RX2 47 RX2 yX2_isOn wsX2_isOn) := goodIn_app (goodIn_of _ (by decide +kernel)) ggX2_goes_X2_isOn
set_option maxRecDepth 20000 in
theorem ggX2_go_X2_mayGo : GoodIn wsX2_go wsX2_mayGo := goodIn_r _ [7, 8, 9, 10, 11, 6, 12, 1, 13, 2, 14, 15, 16, 17, 18, 19, 20, 21, 22] (by decide +kernel) (by decide +kernel)
set_option maxRecDepth 20000 in
theorem gX2_go_X2_mayGo : GoodIn wsX2_go (wsV RX2 95 RX2 yX2_mayGo wsX2_mayGo) := goodIn_app (goodIn_of _ (by decide +kernel)) ggX2_go_X2_mayGo
set_option maxRecDepth 20000 in
theorem ggX2_carry_X2_isOn : GoodIn wsX2_carry wsX2_isOn := goodIn_r _ [9, 2, 4, 10, 11, 12, 13, 14, 15, 16, 17] (by decide +kernel) (by decide +kernel)
set_option maxRecDepth 20000 in
theorem gX2_carry_X2_isOn : GoodIn wsX2_carry (wsV RX2 47 RX2 yX2_isOn wsX2_isOn) := goodIn_app (goodIn_of _ (by decide +kernel)) ggX2_carry_X2_isOn
set_option maxRecDepth 20000 in
theorem ggX2_letOneOn_X2_isFree : GoodIn wsX2_letOneOn wsX2_isFree := goodIn_r _ [7, 8, 1, 2, 9, 10, 11, 12, 13, 14, 15, 16, 17] (by decide +kernel) (by decide +kernel)
set_option maxRecDepth 20000 in
theorem gX2_letOneOn_X2_isFree : GoodIn wsX2_letOneOn (wsV RX2 43 RX2 yX2_isFree wsX2_isFree) := goodIn_app (goodIn_of _ (by decide +kernel)) ggX2_letOneOn_X2_isFree
set_option maxRecDepth 20000 in
theorem ggX2_passUntilOff_X2_nobodyGoesOff : GoodIn wsX2_passUntilOff wsX2_nobodyGoesOff := goodIn_r _ [7, 8, 55, 56, 57, 58, 59, 60, 61, 62] (by decide +kernel) (by decide +kernel)
set_option maxRecDepth 20000 in
theorem gX2_passUntilOff_X2_nobodyGoesOff : GoodIn wsX2_passUntilOff (wsV RX2 98 RX2 yX2_nobodyGoesOff wsX2_nobodyGoesOff) := goodIn_app (goodIn_of _ (by decide +kernel)) ggX2_passUntilOff_X2_nobodyGoesOff
set_option maxRecDepth 20000 in
theorem ggX2_passUntilOff_X2_pass : GoodIn wsX2_passUntilOff wsX2_pass := goodIn_r _ [12, 13, 2, 14, 15, 16, 17, 18, 6, 19, 1, 20, 21, 22, 23, 24, 25, 26, 27, 28, 29, 30, 31, 32, 33, 34, 35, 36, 37, 38, 39, 40, 41, 42, 43, 44, 45, 46, 47, 48, 49, 50, 8, 51, 52, 53, 54, 55, 56, 57, 58, 59, 60, 61, 62] (by decide +kernel) (by decide +kernel)
set_option maxRecDepth 20000 in
theorem gX2_passUntilOff_X2_pass : GoodIn wsX2_passUntilOff (wsV RX2 102 RX2 yX2_pass wsX2_pass) := goodIn_app (goodIn_of _ (by decide +kernel)) ggX2_passUntilOff_X2_pass
set_option maxRecDepth 20000 in
theorem ggX2_passUntilClear_X2_isClear : GoodIn wsX2_passUntilClear wsX2_isClear := goodIn_r _ [6, 7, 8, 9, 10, 5, 11, 12, 13, 14, 15, 16, 17, 18, 19, 20, 21, 22, 23, 74, 75, 76, 77, 78, 79, 80, 81] (by decide +kernel) (by decide +kernel)
set_option maxRecDepth 20000 in
theorem gX2_passUntilClear_X2_isClear : GoodIn wsX2_passUntilClear (wsV RX2 105 RX2 yX2_isClear wsX2_isClear) := goodIn_app (goodIn_of _ (by decide +kernel)) ggX2_passUntilClear_X2_isClear
set_option maxRecDepth 20000 in
theorem ggX2_passUntilClear_X2_nobodyGoesOff : GoodIn wsX2_passUntilClear wsX2_nobodyGoesOff := goodIn_r _ [27, 28, 74, 75, 76, 77, 78, 79, 80, 81] (by decide +kernel) (by decide +kernel)
set_option maxRecDepth 20000 in
theorem gX2_passUntilClear_X2_nobodyGoesOff : GoodIn wsX2_passUntilClear (wsV RX2 98 RX2 yX2_nobodyGoesOff wsX2_nobodyGoesOff) := goodIn_app (goodIn_of _ (by decide +kernel)) ggX2_passUntilClear_X2_nobodyGoesOff
set_option maxRecDepth 20000 in
theorem ggX2_passUntilClear_X2_pass : GoodIn wsX2_passUntilClear wsX2_pass := goodIn_r _ [32, 7, 1, 33, 34, 35, 36, 37, 5, 38, 16, 39, 40, 41, 42, 43, 44, 45, 46, 47, 48, 49, 50, 51, 52, 53, 54, 55, 56, 57, 58, 59, 60, 61, 62, 63, 64, 65, 66, 67, 68, 69, 28, 70, 71, 72, 73, 74, 75, 76, 77, 78, 79, 80, 81] (by decide +kernel) (by decide +kernel)
set_option maxRecDepth 20000 in
theorem gX2_passUntilClear_X2_pass : GoodIn wsX2_passUntilClear (wsV RX2 102 RX2 yX2_pass wsX2_pass) := goodIn_app (goodIn_of _ (by decide +kernel)) ggX2_passUntilClear_X2_pass
set_option maxRecDepth 20000 in
theorem ggX3_readInto_X2_empty : GoodIn wsX3_readInto wsX2_empty := goodIn_r _ [9, 10, 11, 12, 13, 14, 63, 64, 65, 66, 67, 68, 69, 70] (by decide +kernel) (by decide +kernel)
set_option maxRecDepth 20000 in
theorem gX3_readInto_X2_empty : GoodIn wsX3_readInto (wsV RX3 22 RX2 yX2_empty wsX2_empty) := goodIn_app (goodIn_of _ (by decide +kernel)) ggX3_readInto_X2_empty
set_option maxRecDepth 20000 in
theorem ggX3_readInto_X3_widthOfToken : GoodIn wsX3_readInto wsX3_widthOfToken := goodIn_r _ [19, 20, 21, 22, 23, 18, 24, 1, 60, 61, 62] (by decide +kernel) (by decide +kernel)
set_option maxRecDepth 20000 in
theorem gX3_readInto_X3_widthOfToken : GoodIn wsX3_readInto (wsV RX3 27 RX3 yX3_widthOfToken wsX3_widthOfToken) := goodIn_app (goodIn_of _ (by decide +kernel)) ggX3_readInto_X3_widthOfToken
set_option maxRecDepth 20000 in
theorem ggX3_readInto_X3_accept : GoodIn wsX3_readInto wsX3_accept := goodIn_r _ [28, 29, 30, 31, 32, 33, 18, 34, 20, 35, 36, 37, 38, 4, 21, 22, 23, 24, 1, 39, 40, 41, 42, 43, 44, 45, 46, 47, 48, 49, 3, 50, 51, 52, 53, 54, 55, 56, 57, 58, 59, 63, 64, 65, 66, 67, 68, 69, 70, 60, 61, 62] (by decide +kernel) (by decide +kernel)
set_option maxRecDepth 20000 in
theorem gX3_readInto_X3_accept : GoodIn wsX3_readInto (wsV RX3 31 RX3 yX3_accept wsX3_accept) := goodIn_app (goodIn_of _ (by decide +kernel)) ggX3_readInto_X3_accept
set_option maxRecDepth 20000 in
theorem ggX3_widthOfToken_X3_isFigure : GoodIn wsX3_widthOfToken wsX3_isFigure := goodIn_r _ [6, 7, 1, 8, 9, 10] (by decide +kernel) (by decide +kernel)
set_option maxRecDepth 20000 in
theorem gX3_widthOfToken_X3_isFigure : GoodIn wsX3_widthOfToken (wsV RX3 39 RX3 yX3_isFigure wsX3_isFigure) := goodIn_app (goodIn_of _ (by decide +kernel)) ggX3_widthOfToken_X3_isFigure
set_option maxRecDepth 20000 in
theorem ggX3_accept_X3_acceptSign : GoodIn wsX3_accept wsX3_acceptSign := goodIn_r _ [7, 8, 49, 50, 51] (by decide +kernel) (by decide +kernel)
set_option maxRecDepth 20000 in
theorem gX3_accept_X3_acceptSign : GoodIn wsX3_accept (wsV RX3 43 RX3 yX3_acceptSign wsX3_acceptSign) := goodIn_app (goodIn_of _ (by decide +kernel)) ggX3_accept_X3_acceptSign
set_option maxRecDepth 20000 in
theorem ggX3_accept_X3_numberAt : GoodIn wsX3_accept wsX3_numberAt := goodIn_r _ [12, 13, 8, 14, 15, 16, 6, 17, 18, 49, 50, 51] (by decide +kernel) (by decide +kernel)
set_option maxRecDepth 20000 in
theorem gX3_accept_X3_numberAt : GoodIn wsX3_accept (wsV RX3 47 RX3 yX3_numberAt wsX3_numberAt) := goodIn_app (goodIn_of _ (by decide +kernel)) ggX3_accept_X3_numberAt
set_option maxRecDepth 20000 in
theorem ggX3_accept_X3_faultOfNumber : GoodIn wsX3_accept wsX3_faultOfNumber := goodIn_r _ [22, 13, 23, 24, 25] (by decide +kernel) (by decide +kernel)
set_option maxRecDepth 20000 in
theorem gX3_accept_X3_faultOfNumber : GoodIn wsX3_accept (wsV RX3 53 RX3 yX3_faultOfNumber wsX3_faultOfNumber) := goodIn_app (goodIn_of _ (by decide +kernel)) ggX3_accept_X3_faultOfNumber
set_option maxRecDepth 20000 in
theorem ggX3_accept_X3_acceptSort : GoodIn wsX3_accept wsX3_acceptSort := goodIn_r _ [29, 8, 13, 30, 31, 32, 33, 34, 6, 35, 49, 50, 51, 41, 42, 43, 44, 45, 46, 47, 48] (by decide +kernel) (by decide +kernel)
set_option maxRecDepth 20000 in
theorem gX3_accept_X3_acceptSort : GoodIn wsX3_accept (wsV RX3 60 RX3 yX3_acceptSort wsX3_acceptSort) := goodIn_app (goodIn_of _ (by decide +kernel)) ggX3_accept_X3_acceptSort
set_option maxRecDepth 20000 in
theorem ggX3_accept_X3_acceptLane : GoodIn wsX3_accept wsX3_acceptLane := goodIn_r _ [39, 30, 40, 19, 20, 21, 6, 22, 13, 23, 24, 25, 41, 42, 43, 44, 45, 46, 47, 48] (by decide +kernel) (by decide +kernel)
set_option maxRecDepth 20000 in
theorem gX3_accept_X3_acceptLane : GoodIn wsX3_accept (wsV RX3 64 RX3 yX3_acceptLane wsX3_acceptLane) := goodIn_app (goodIn_of _ (by decide +kernel)) ggX3_accept_X3_acceptLane
set_option maxRecDepth 20000 in
theorem ggX3_acceptSort_X3_kindOf : GoodIn wsX3_acceptSort wsX3_kindOf := goodIn_r _ [9, 2] (by decide +kernel) (by decide +kernel)
set_option maxRecDepth 20000 in
theorem gX3_acceptSort_X3_kindOf : GoodIn wsX3_acceptSort (wsV RX3 67 RX3 yX3_kindOf wsX3_kindOf) := goodIn_app (goodIn_of _ (by decide +kernel)) ggX3_acceptSort_X3_kindOf
set_option maxRecDepth 20000 in
theorem ggX3_acceptLane_X3_faultOfNumber : GoodIn wsX3_acceptLane wsX3_faultOfNumber := goodIn_r _ [7, 8, 9, 10, 11] (by decide +kernel) (by decide +kernel)
set_option maxRecDepth 20000 in
theorem gX3_acceptLane_X3_faultOfNumber : GoodIn wsX3_acceptLane (wsV RX3 53 RX3 yX3_faultOfNumber wsX3_faultOfNumber) := goodIn_app (goodIn_of _ (by decide +kernel)) ggX3_acceptLane_X3_faultOfNumber
set_option maxRecDepth 20000 in
theorem ggX3_numberAt_X3_isFigure : GoodIn wsX3_numberAt wsX3_isFigure := goodIn_r _ [7, 8, 2, 9, 10, 11] (by decide +kernel) (by decide +kernel)
set_option maxRecDepth 20000 in
theorem gX3_numberAt_X3_isFigure : GoodIn wsX3_numberAt (wsV RX3 39 RX3 yX3_isFigure wsX3_isFigure) := goodIn_app (goodIn_of _ (by decide +kernel)) ggX3_numberAt_X3_isFigure
set_option maxRecDepth 20000 in
theorem ggX3_faultOfNumber_X5_outside : GoodIn wsX3_faultOfNumber wsX5_outside := goodIn_r _ [4] (by decide +kernel) (by decide +kernel)
set_option maxRecDepth 20000 in
theorem gX3_faultOfNumber_X5_outside_n76 : GoodIn wsX3_faultOfNumber (wsX5_outside) := ggX3_faultOfNumber_X5_outside
set_option maxRecDepth 20000 in
theorem ggX5_init_X3_init : GoodIn wsX5_init wsX3_init := goodIn_r _ [32, 33, 2, 3, 25, 34, 35, 36, 79, 80, 81] (by decide +kernel) (by decide +kernel)
set_option maxRecDepth 20000 in
theorem gX5_init_X3_init_n17 : GoodIn wsX5_init (wsX3_init) := ggX5_init_X3_init
set_option maxRecDepth 20000 in
theorem ggX5_init_X2_init : GoodIn wsX5_init wsX2_init := goodIn_r _ [38, 39, 2, 3, 40, 41, 42, 43, 25, 44, 45, 46, 47, 82, 83, 84, 85, 86, 87, 88, 89] (by decide +kernel) (by decide +kernel)
set_option maxRecDepth 20000 in
theorem gX5_init_X2_init_n24 : GoodIn wsX5_init (wsX2_init) := ggX5_init_X2_init
set_option maxRecDepth 20000 in
theorem ggX5_init_X0_init : GoodIn wsX5_init wsX0_init := goodIn_r _ [50, 51, 2, 3, 52, 53, 54, 55, 11, 12, 37, 38, 39, 40, 41, 42, 43, 25, 44, 45, 46, 47, 90, 91, 92, 82, 83, 84, 85, 86, 87, 88, 89] (by decide +kernel) (by decide +kernel)
set_option maxRecDepth 20000 in
theorem gX5_init_X0_init : GoodIn wsX5_init (wsX0_init) := ggX5_init_X0_init
set_option maxRecDepth 20000 in
theorem ggX5_init_X4_init : GoodIn wsX5_init wsX4_init := goodIn_r _ [57, 58, 2, 3, 25, 59, 60, 93, 94] (by decide +kernel) (by decide +kernel)
set_option maxRecDepth 20000 in
theorem gX5_init_X4_init_n42 : GoodIn wsX5_init (wsX4_init) := ggX5_init_X4_init
set_option maxRecDepth 20000 in
theorem ggX5_init_X1_init : GoodIn wsX5_init wsX1_init := goodIn_r _ [62, 63, 2, 3, 25, 64, 65, 66, 67, 95, 96, 97, 98] (by decide +kernel) (by decide +kernel)
set_option maxRecDepth 20000 in
theorem gX5_init_X1_init_n64 : GoodIn wsX5_init (wsX1_init) := ggX5_init_X1_init
set_option maxRecDepth 20000 in
theorem ggX5_row_X5_noRow : GoodIn wsX5_row wsX5_noRow := goodIn_r _ [6, 7, 8, 5, 9] (by decide +kernel) (by decide +kernel)
set_option maxRecDepth 20000 in
theorem gX5_row_X5_noRow : GoodIn wsX5_row (va_wsS RX5 65 yX5_noRow wsX5_noRow) := goodIn_app (goodIn_of _ (by decide +kernel)) ggX5_row_X5_noRow
set_option maxRecDepth 20000 in
theorem ggX5_row_X5_outside : GoodIn wsX5_row wsX5_outside := goodIn_r _ [9] (by decide +kernel) (by decide +kernel)
set_option maxRecDepth 20000 in
theorem gX5_row_X5_outside : GoodIn wsX5_row (va_wsS RX5 69 yX5_outside wsX5_outside) := goodIn_app (goodIn_of _ (by decide +kernel)) ggX5_row_X5_outside
set_option maxRecDepth 20000 in
theorem ggX5_row_X5_found : GoodIn wsX5_row wsX5_found := goodIn_r _ [13, 14, 15, 29, 30, 31, 32, 33, 34, 35, 36, 37, 38, 39] (by decide +kernel) (by decide +kernel)
set_option maxRecDepth 20000 in
theorem gX5_row_X5_found : GoodIn wsX5_row (wsV RX5 74 RX5 yX5_found wsX5_found) := goodIn_app (goodIn_of _ (by decide +kernel)) ggX5_row_X5_found
set_option maxRecDepth 20000 in
theorem ggX5_row_X1_begin : GoodIn wsX5_row wsX1_begin := goodIn_r _ [20, 21, 22, 23, 24, 40, 41, 42, 43] (by decide +kernel) (by decide +kernel)
set_option maxRecDepth 20000 in
theorem gX5_row_X1_begin : GoodIn wsX5_row (wsV RX5 78 RX1 yX1_begin wsX1_begin) := goodIn_app (goodIn_of _ (by decide +kernel)) ggX5_row_X1_begin
set_option maxRecDepth 20000 in
theorem ggX5_row_X5_fine : GoodIn wsX5_row wsX5_fine := goodIn_r _ [28, 14, 29, 30, 31, 32, 33, 34, 35, 36, 37, 38, 39] (by decide +kernel) (by decide +kernel)
set_option maxRecDepth 20000 in
theorem gX5_row_X5_fine : GoodIn wsX5_row (wsV RX5 82 RX5 yX5_fine wsX5_fine) := goodIn_app (goodIn_of _ (by decide +kernel)) ggX5_row_X5_fine
set_option maxRecDepth 20000 in
theorem ggX5_set_X5_noRow : GoodIn wsX5_set wsX5_noRow := goodIn_r _ [8, 9, 10, 7, 11] (by decide +kernel) (by decide +kernel)
set_option maxRecDepth 20000 in
theorem gX5_set_X5_noRow : GoodIn wsX5_set (va_wsS RX5 65 yX5_noRow wsX5_noRow) := goodIn_app (goodIn_of _ (by decide +kernel)) ggX5_set_X5_noRow
set_option maxRecDepth 20000 in
theorem ggX5_set_X5_found : GoodIn wsX5_set wsX5_found := goodIn_r _ [15, 16, 17, 33, 34, 35, 36, 37, 38, 39, 40, 41, 42, 43] (by decide +kernel) (by decide +kernel)
set_option maxRecDepth 20000 in
theorem gX5_set_X5_found : GoodIn wsX5_set (wsV RX5 74 RX5 yX5_found wsX5_found) := goodIn_app (goodIn_of _ (by decide +kernel)) ggX5_set_X5_found
set_option maxRecDepth 20000 in
theorem ggX5_set_X1_holds : GoodIn wsX5_set wsX1_holds := goodIn_r _ [22, 23, 44, 45, 46, 47] (by decide +kernel) (by decide +kernel)
set_option maxRecDepth 20000 in
theorem gX5_set_X1_holds : GoodIn wsX5_set (wsV RX5 89 RX1 yX1_holds wsX1_holds) := goodIn_app (goodIn_of _ (by decide +kernel)) ggX5_set_X1_holds
set_option maxRecDepth 20000 in
theorem ggX5_set_X1_cut : GoodIn wsX5_set wsX1_cut := goodIn_r _ [27, 28, 44, 45, 46, 47] (by decide +kernel) (by decide +kernel)
set_option maxRecDepth 20000 in
theorem gX5_set_X1_cut : GoodIn wsX5_set (wsV RX5 96 RX1 yX1_cut wsX1_cut) := goodIn_app (goodIn_of _ (by decide +kernel)) ggX5_set_X1_cut
set_option maxRecDepth 20000 in
theorem ggX5_set_X5_fine : GoodIn wsX5_set wsX5_fine := goodIn_r _ [32, 16, 33, 34, 35, 36, 37, 38, 39, 40, 41, 42, 43] (by decide +kernel) (by decide +kernel)
set_option maxRecDepth 20000 in
theorem gX5_set_X5_fine : GoodIn wsX5_set (wsV RX5 82 RX5 yX5_fine wsX5_fine) := goodIn_app (goodIn_of _ (by decide +kernel)) ggX5_set_X5_fine
set_option maxRecDepth 20000 in
theorem ggX5_copy_X5_noRow : GoodIn wsX5_copy wsX5_noRow := goodIn_r _ [13, 14, 15, 12, 16] (by decide +kernel) (by decide +kernel)
set_option maxRecDepth 20000 in
theorem gX5_copy_X5_noRow : GoodIn wsX5_copy (va_wsS RX5 65 yX5_noRow wsX5_noRow) := goodIn_app (goodIn_of _ (by decide +kernel)) ggX5_copy_X5_noRow
set_option maxRecDepth 20000 in
theorem ggX5_copy_X5_found : GoodIn wsX5_copy wsX5_found := goodIn_r _ [20, 21, 22, 33, 34, 35, 36, 37, 38, 39, 40, 41, 42, 43] (by decide +kernel) (by decide +kernel)
set_option maxRecDepth 20000 in
theorem gX5_copy_X5_found : GoodIn wsX5_copy (wsV RX5 74 RX5 yX5_found wsX5_found) := goodIn_app (goodIn_of _ (by decide +kernel)) ggX5_copy_X5_found
set_option maxRecDepth 20000 in
theorem ggX5_copy_X1_holds : GoodIn wsX5_copy wsX1_holds := goodIn_r _ [27, 28, 44, 45, 46, 47] (by decide +kernel) (by decide +kernel)
set_option maxRecDepth 20000 in
theorem gX5_copy_X1_holds : GoodIn wsX5_copy (wsV RX5 89 RX1 yX1_holds wsX1_holds) := goodIn_app (goodIn_of _ (by decide +kernel)) ggX5_copy_X1_holds
set_option maxRecDepth 20000 in
theorem ggX5_copy_X5_fine : GoodIn wsX5_copy wsX5_fine := goodIn_r _ [32, 21, 33, 34, 35, 36, 37, 38, 39, 40, 41, 42, 43] (by decide +kernel) (by decide +kernel)
set_option maxRecDepth 20000 in
theorem gX5_copy_X5_fine : GoodIn wsX5_copy (wsV RX5 82 RX5 yX5_fine wsX5_fine) := goodIn_app (goodIn_of _ (by decide +kernel)) ggX5_copy_X5_fine
set_option maxRecDepth 20000 in
theorem ggX5_drop_X5_noRow : GoodIn wsX5_drop wsX5_noRow := goodIn_r _ [8, 9, 10, 7, 11] (by decide +kernel) (by decide +kernel)
set_option maxRecDepth 20000 in
theorem gX5_drop_X5_noRow : GoodIn wsX5_drop (va_wsS RX5 65 yX5_noRow wsX5_noRow) := goodIn_app (goodIn_of _ (by decide +kernel)) ggX5_drop_X5_noRow
set_option maxRecDepth 20000 in
theorem ggX5_drop_X5_found : GoodIn wsX5_drop wsX5_found := goodIn_r _ [15, 16, 17, 22, 23, 24, 25, 26, 27, 28, 29, 30, 31, 32] (by decide +kernel) (by decide +kernel)
set_option maxRecDepth 20000 in
theorem gX5_drop_X5_found : GoodIn wsX5_drop (wsV RX5 74 RX5 yX5_found wsX5_found) := goodIn_app (goodIn_of _ (by decide +kernel)) ggX5_drop_X5_found
set_option maxRecDepth 20000 in
theorem ggX5_drop_X5_fine : GoodIn wsX5_drop wsX5_fine := goodIn_r _ [21, 16, 22, 23, 24, 25, 26, 27, 28, 29, 30, 31, 32] (by decide +kernel) (by decide +kernel)
set_option maxRecDepth 20000 in
theorem gX5_drop_X5_fine : GoodIn wsX5_drop (wsV RX5 82 RX5 yX5_fine wsX5_fine) := goodIn_app (goodIn_of _ (by decide +kernel)) ggX5_drop_X5_fine
set_option maxRecDepth 20000 in
theorem ggX5_feed_X5_outside : GoodIn wsX5_feed wsX5_outside := goodIn_r _ [8] (by decide +kernel) (by decide +kernel)
set_option maxRecDepth 20000 in
theorem gX5_feed_X5_outside : GoodIn wsX5_feed (va_wsS RX5 69 yX5_outside wsX5_outside) := goodIn_app (goodIn_of _ (by decide +kernel)) ggX5_feed_X5_outside
set_option maxRecDepth 20000 in
theorem ggX5_feed_X3_append : GoodIn wsX5_feed wsX3_append := goodIn_r _ [13, 14, 15, 27, 28, 29] (by decide +kernel) (by decide +kernel)
set_option maxRecDepth 20000 in
theorem gX5_feed_X3_append : GoodIn wsX5_feed (wsV RX5 113 RX3 yX3_append wsX3_append) := goodIn_app (goodIn_of _ (by decide +kernel)) ggX5_feed_X3_append
set_option maxRecDepth 20000 in
theorem ggX5_stair_X3_readInto : GoodIn wsX5_stair wsX3_readInto := goodIn_r _ [13, 14, 15, 16, 17, 18, 19, 20, 21, 22, 23, 24, 25, 26, 27, 28, 29, 30, 12, 31, 32, 33, 34, 35, 36, 37, 38, 39, 40, 41, 42, 43, 44, 45, 46, 47, 48, 49, 50, 51, 52, 53, 54, 55, 56, 57, 58, 59, 60, 61, 62, 63, 64, 65, 66, 67, 68, 69, 70, 71, 99, 100, 101, 102, 103, 104, 105, 106, 107, 108, 109] (by decide +kernel) (by decide +kernel)
set_option maxRecDepth 20000 in
theorem gX5_stair_X3_readInto : GoodIn wsX5_stair (wsV RX5 117 RX3 yX3_readInto wsX3_readInto) := goodIn_app (goodIn_of _ (by decide +kernel)) ggX5_stair_X3_readInto
set_option maxRecDepth 20000 in
theorem ggX5_stair_X2_become : GoodIn wsX5_stair wsX2_become := goodIn_r _ [75, 23, 24, 25, 26, 76, 77, 78, 79, 80, 81, 27, 102, 103, 104, 105, 106, 107, 108, 109] (by decide +kernel) (by decide +kernel)
set_option maxRecDepth 20000 in
theorem gX5_stair_X2_become : GoodIn wsX5_stair (wsV RX5 123 RX2 yX2_become wsX2_become) := goodIn_app (goodIn_of _ (by decide +kernel)) ggX5_stair_X2_become
set_option maxRecDepth 20000 in
theorem ggX5_stair_X0_forgetAll : GoodIn wsX5_stair wsX0_forgetAll := goodIn_r _ [86, 87, 110, 111, 112] (by decide +kernel) (by decide +kernel)
set_option maxRecDepth 20000 in
theorem gX5_stair_X0_forgetAll : GoodIn wsX5_stair (wsV RX5 127 RX0 yX0_forgetAll wsX0_forgetAll) := goodIn_app (goodIn_of _ (by decide +kernel)) ggX5_stair_X0_forgetAll
set_option maxRecDepth 20000 in
theorem ggX5_ticks_X5_noStair : GoodIn wsX5_ticks wsX5_noStair := goodIn_r _ [11, 3, 12, 101, 102, 103, 104, 105, 106, 107, 108, 109, 110, 111, 112, 113, 114, 115, 116, 117, 118, 119] (by decide +kernel) (by decide +kernel)
set_option maxRecDepth 20000 in
theorem gX5_ticks_X5_noStair : GoodIn wsX5_ticks (wsV RX5 136 RX5 yX5_noStair wsX5_noStair) := goodIn_app (goodIn_of _ (by decide +kernel)) ggX5_ticks_X5_noStair
set_option maxRecDepth 20000 in
theorem ggX5_ticks_X5_outside : GoodIn wsX5_ticks wsX5_outside := goodIn_r _ [15] (by decide +kernel) (by decide +kernel)
set_option maxRecDepth 20000 in
theorem gX5_ticks_X5_outside : GoodIn wsX5_ticks (va_wsS RX5 69 yX5_outside wsX5_outside) := goodIn_app (goodIn_of _ (by decide +kernel)) ggX5_ticks_X5_outside
set_option maxRecDepth 20000 in
theorem ggX5_ticks_X0_keep : GoodIn wsX5_ticks wsX0_keep := goodIn_r _ [20, 21, 22, 23, 24, 25, 26, 27, 28, 29, 30, 31, 32, 33, 34, 35, 36, 37, 38, 39, 40, 41, 42, 43, 120, 121, 122, 112, 113, 114, 115, 116, 117, 118, 119] (by decide +kernel) (by decide +kernel)
set_option maxRecDepth 20000 in
theorem gX5_ticks_X0_keep : GoodIn wsX5_ticks (wsV RX5 144 RX0 yX0_keep wsX0_keep) := goodIn_app (goodIn_of _ (by decide +kernel)) ggX5_ticks_X0_keep
set_option maxRecDepth 20000 in
theorem ggX5_ticks_X2_pass : GoodIn wsX5_ticks wsX2_pass := goodIn_r _ [47, 36, 48, 49, 35, 50, 51, 52, 31, 53, 43, 42, 54, 55, 56, 57, 37, 58, 59, 60, 61, 33, 62, 63, 64, 65, 66, 67, 68, 69, 70, 71, 72, 73, 74, 75, 76, 77, 78, 79, 80, 81, 34, 82, 83, 84, 85, 112, 113, 114, 115, 116, 117, 118, 119] (by decide +kernel) (by decide +kernel)
set_option maxRecDepth 20000 in
theorem gX5_ticks_X2_pass : GoodIn wsX5_ticks (wsV RX5 147 RX2 yX2_pass wsX2_pass) := goodIn_app (goodIn_of _ (by decide +kernel)) ggX5_ticks_X2_pass
set_option maxRecDepth 20000 in
theorem ggX5_ticks_X2_howManyAt : GoodIn wsX5_ticks wsX2_howManyAt := goodIn_r _ [89, 90, 91, 92, 31, 93, 36, 43, 94, 95, 96, 97, 98, 99, 100, 112, 113, 114, 115, 116, 117, 118, 119] (by decide +kernel) (by decide +kernel)
set_option maxRecDepth 20000 in
theorem gX5_ticks_X2_howManyAt : GoodIn wsX5_ticks (wsV RX5 151 RX2 yX2_howManyAt wsX2_howManyAt) := goodIn_app (goodIn_of _ (by decide +kernel)) ggX5_ticks_X2_howManyAt
set_option maxRecDepth 20000 in
theorem ggX5_speed_X5_noStair : GoodIn wsX5_speed wsX5_noStair := goodIn_r _ [10, 3, 11, 43, 44, 45, 46, 47, 48, 49, 50, 51, 52, 53, 54, 55, 56, 57, 58, 59, 60, 61] (by decide +kernel) (by decide +kernel)
set_option maxRecDepth 20000 in
theorem gX5_speed_X5_noStair : GoodIn wsX5_speed (wsV RX5 136 RX5 yX5_noStair wsX5_noStair) := goodIn_app (goodIn_of _ (by decide +kernel)) ggX5_speed_X5_noStair
set_option maxRecDepth 20000 in
theorem ggX5_speed_X5_outside : GoodIn wsX5_speed wsX5_outside := goodIn_r _ [14] (by decide +kernel) (by decide +kernel)
set_option maxRecDepth 20000 in
theorem gX5_speed_X5_outside : GoodIn wsX5_speed (va_wsS RX5 69 yX5_outside wsX5_outside) := goodIn_app (goodIn_of _ (by decide +kernel)) ggX5_speed_X5_outside
set_option maxRecDepth 20000 in
theorem ggX5_speed_X0_keep : GoodIn wsX5_speed wsX0_keep := goodIn_r _ [19, 20, 21, 22, 23, 24, 25, 26, 27, 28, 29, 30, 31, 32, 33, 34, 35, 36, 37, 38, 39, 40, 41, 42, 62, 63, 64, 54, 55, 56, 57, 58, 59, 60, 61] (by decide +kernel) (by decide +kernel)
set_option maxRecDepth 20000 in
theorem gX5_speed_X0_keep : GoodIn wsX5_speed (wsV RX5 144 RX0 yX0_keep wsX0_keep) := goodIn_app (goodIn_of _ (by decide +kernel)) ggX5_speed_X0_keep
set_option maxRecDepth 20000 in
theorem ggX5_cross_X5_noRider : GoodIn wsX5_cross wsX5_noRider := goodIn_r _ [11, 2, 12, 13, 14, 10, 15, 60, 61, 62, 63, 64, 65, 66, 67, 68, 69, 70, 71, 72, 73, 74, 75, 76, 77, 78] (by decide +kernel) (by decide +kernel)
set_option maxRecDepth 20000 in
theorem gX5_cross_X5_noRider : GoodIn wsX5_cross (wsV RX5 157 RX5 yX5_noRider wsX5_noRider) := goodIn_app (goodIn_of _ (by decide +kernel)) ggX5_cross_X5_noRider
set_option maxRecDepth 20000 in
theorem ggX5_cross_X2_mayCross : GoodIn wsX5_cross wsX2_mayCross := goodIn_r _ [20, 21, 22, 23, 24, 25, 19, 26, 27, 28, 29, 30, 31, 32, 33, 34, 35, 36, 37, 71, 72, 73, 74, 75, 76, 77, 78] (by decide +kernel) (by decide +kernel)
set_option maxRecDepth 20000 in
theorem gX5_cross_X2_mayCross : GoodIn wsX5_cross (wsV RX5 163 RX2 yX2_mayCross wsX2_mayCross) := goodIn_app (goodIn_of _ (by decide +kernel)) ggX5_cross_X2_mayCross
set_option maxRecDepth 20000 in
theorem ggX5_cross_X0_keep : GoodIn wsX5_cross wsX0_keep := goodIn_r _ [42, 43, 44, 45, 46, 47, 48, 49, 50, 51, 52, 19, 53, 27, 54, 55, 37, 32, 56, 57, 58, 59, 22, 21, 79, 80, 81, 71, 72, 73, 74, 75, 76, 77, 78] (by decide +kernel) (by decide +kernel)
set_option maxRecDepth 20000 in
theorem gX5_cross_X0_keep : GoodIn wsX5_cross (wsV RX5 144 RX0 yX0_keep wsX0_keep) := goodIn_app (goodIn_of _ (by decide +kernel)) ggX5_cross_X0_keep
set_option maxRecDepth 20000 in
theorem ggX5_take_X5_noRider : GoodIn wsX5_take wsX5_noRider := goodIn_r _ [10, 2, 11, 12, 13, 9, 14, 43, 44, 45, 46, 47, 48, 49, 50, 51, 52, 53, 54, 55, 56, 57, 58, 59, 60, 61] (by decide +kernel) (by decide +kernel)
set_option maxRecDepth 20000 in
theorem gX5_take_X5_noRider : GoodIn wsX5_take (wsV RX5 157 RX5 yX5_noRider wsX5_noRider) := goodIn_app (goodIn_of _ (by decide +kernel)) ggX5_take_X5_noRider
set_option maxRecDepth 20000 in
theorem ggX5_take_X0_keep : GoodIn wsX5_take wsX0_keep := goodIn_r _ [19, 20, 21, 22, 23, 24, 25, 26, 27, 28, 29, 30, 31, 32, 33, 34, 35, 36, 37, 38, 39, 40, 41, 42, 62, 63, 64, 54, 55, 56, 57, 58, 59, 60, 61] (by decide +kernel) (by decide +kernel)
set_option maxRecDepth 20000 in
theorem gX5_take_X0_keep : GoodIn wsX5_take (wsV RX5 144 RX0 yX0_keep wsX0_keep) := goodIn_app (goodIn_of _ (by decide +kernel)) ggX5_take_X0_keep
set_option maxRecDepth 20000 in
theorem ggX5_again_X5_noRider : GoodIn wsX5_again wsX5_noRider := goodIn_r _ [10, 2, 11, 12, 13, 9, 14, 62, 63, 64, 65, 66, 67, 68, 69, 70, 71, 72, 73, 74, 75, 76, 77, 78, 79, 80] (by decide +kernel) (by decide +kernel)
set_option maxRecDepth 20000 in
theorem gX5_again_X5_noRider : GoodIn wsX5_again (wsV RX5 157 RX5 yX5_noRider wsX5_noRider) := goodIn_app (goodIn_of _ (by decide +kernel)) ggX5_again_X5_noRider
set_option maxRecDepth 20000 in
theorem ggX5_again_X5_outside : GoodIn wsX5_again wsX5_outside := goodIn_r _ [14] (by decide +kernel) (by decide +kernel)
set_option maxRecDepth 20000 in
theorem gX5_again_X5_outside : GoodIn wsX5_again (va_wsS RX5 69 yX5_outside wsX5_outside) := goodIn_app (goodIn_of _ (by decide +kernel)) ggX5_again_X5_outside
set_option maxRecDepth 20000 in
theorem ggX5_again_X0_keep : GoodIn wsX5_again wsX0_keep := goodIn_r _ [19, 20, 21, 22, 23, 24, 25, 26, 27, 28, 29, 30, 31, 32, 33, 34, 35, 36, 37, 38, 39, 40, 41, 42, 81, 82, 83, 73, 74, 75, 76, 77, 78, 79, 80] (by decide +kernel) (by decide +kernel)
set_option maxRecDepth 20000 in
theorem gX5_again_X0_keep : GoodIn wsX5_again (wsV RX5 144 RX0 yX0_keep wsX0_keep) := goodIn_app (goodIn_of _ (by decide +kernel)) ggX5_again_X0_keep
set_option maxRecDepth 20000 in
theorem ggX5_again_X2_sendBack : GoodIn wsX5_again wsX2_sendBack := goodIn_r _ [46, 42, 41, 73, 74, 75, 76, 77, 78, 79, 80] (by decide +kernel) (by decide +kernel)
set_option maxRecDepth 20000 in
theorem gX5_again_X2_sendBack : GoodIn wsX5_again (wsV RX5 169 RX2 yX2_sendBack wsX2_sendBack) := goodIn_app (goodIn_of _ (by decide +kernel)) ggX5_again_X2_sendBack
end
section
set_option maxRecDepth 20000 in
theorem ggX5_again_X2_howManyAt : GoodIn wsX5_again wsX2_howManyAt := goodIn_r _ [50, 51, 52, 53, 30, 54, 35, 42, 55, 56, 57, 58, 59, 60, 61, 73, 74, 75, 76, 77, 78, 79, 80] (by decide +kernel) (by decide +kernel)
set_option maxRecDepth 20000 in
theorem gX5_again_X2_howManyAt : GoodIn wsX5_again (wsV RX5 151 RX2 yX2_howManyAt wsX2_howManyAt) := goodIn_app (goodIn_of _ (by decide +kernel)) ggX5_again_X2_howManyAt
set_option maxRecDepth 20000 in
theorem ggX5_undo_X0_takeBack : GoodIn wsX5_undo wsX0_takeBack := goodIn_r _ [9, 10, 11, 12, 13, 14, 15, 16, 17, 18, 19, 20, 21, 22, 23, 24, 25, 26, 27, 28, 29, 30, 31, 32, 44, 45, 46, 47, 48, 49, 50, 51, 52, 53, 54] (by decide +kernel) (by decide +kernel)
set_option maxRecDepth 20000 in
theorem gX5_undo_X0_takeBack : GoodIn wsX5_undo (wsV RX5 175 RX0 yX0_takeBack wsX0_takeBack) := goodIn_app (goodIn_of _ (by decide +kernel)) ggX5_undo_X0_takeBack
set_option maxRecDepth 20000 in
theorem ggX5_rider_X5_noRider : GoodIn wsX5_rider wsX5_noRider := goodIn_r _ [9, 2, 10, 11, 12, 8, 13, 39, 40, 41, 42, 43, 44, 45, 46, 47, 48, 49, 50, 51, 52, 53, 54, 55, 56, 57] (by decide +kernel) (by decide +kernel)
set_option maxRecDepth 20000 in
theorem gX5_rider_X5_noRider : GoodIn wsX5_rider (wsV RX5 157 RX5 yX5_noRider wsX5_noRider) := goodIn_app (goodIn_of _ (by decide +kernel)) ggX5_rider_X5_noRider
set_option maxRecDepth 20000 in
theorem ggX5_rider_X2_takesBoth : GoodIn wsX5_rider wsX2_takesBoth := goodIn_r _ [18, 19, 50, 51, 52, 53, 54, 55, 56, 57] (by decide +kernel) (by decide +kernel)
set_option maxRecDepth 20000 in
theorem gX5_rider_X2_takesBoth : GoodIn wsX5_rider (wsV RX5 178 RX2 yX2_takesBoth wsX2_takesBoth) := goodIn_app (goodIn_of _ (by decide +kernel)) ggX5_rider_X2_takesBoth
set_option maxRecDepth 20000 in
theorem ggX5_rider_X5_oneIf : GoodIn wsX5_rider wsX5_oneIf := goodIn_r _ [22] (by decide +kernel) (by decide +kernel)
set_option maxRecDepth 20000 in
theorem gX5_rider_X5_oneIf : GoodIn wsX5_rider (va_wsS RX5 181 yX5_oneIf wsX5_oneIf) := goodIn_app (goodIn_of _ (by decide +kernel)) ggX5_rider_X5_oneIf
set_option maxRecDepth 20000 in
theorem ggX5_rider_X2_isOn : GoodIn wsX5_rider wsX2_isOn := goodIn_r _ [26, 27, 28, 50, 51, 52, 53, 54, 55, 56, 57] (by decide +kernel) (by decide +kernel)
set_option maxRecDepth 20000 in
theorem gX5_rider_X2_isOn : GoodIn wsX5_rider (wsV RX5 185 RX2 yX2_isOn wsX2_isOn) := goodIn_app (goodIn_of _ (by decide +kernel)) ggX5_rider_X2_isOn
set_option maxRecDepth 20000 in
theorem ggX5_rider_X2_mayGo : GoodIn wsX5_rider wsX2_mayGo := goodIn_r _ [32, 28, 33, 34, 35, 17, 36, 19, 37, 27, 38, 50, 51, 52, 53, 54, 55, 56, 57] (by decide +kernel) (by decide +kernel)
set_option maxRecDepth 20000 in
theorem gX5_rider_X2_mayGo : GoodIn wsX5_rider (wsV RX5 188 RX2 yX2_mayGo wsX2_mayGo) := goodIn_app (goodIn_of _ (by decide +kernel)) ggX5_rider_X2_mayGo
set_option maxRecDepth 20000 in
theorem ggX5_step_X5_outside : GoodIn wsX5_step wsX5_outside := goodIn_r _ [7] (by decide +kernel) (by decide +kernel)
set_option maxRecDepth 20000 in
theorem gX5_step_X5_outside : GoodIn wsX5_step (va_wsS RX5 69 yX5_outside wsX5_outside) := goodIn_app (goodIn_of _ (by decide +kernel)) ggX5_step_X5_outside
set_option maxRecDepth 20000 in
theorem ggX5_step_X2_whoTakes : GoodIn wsX5_step wsX2_whoTakes := goodIn_r _ [12, 13, 14, 15, 16, 17, 18, 11, 19, 20, 32, 33, 34, 35, 36, 37, 38, 39] (by decide +kernel) (by decide +kernel)
set_option maxRecDepth 20000 in
theorem gX5_step_X2_whoTakes : GoodIn wsX5_step (wsV RX5 194 RX2 yX2_whoTakes wsX2_whoTakes) := goodIn_app (goodIn_of _ (by decide +kernel)) ggX5_step_X2_whoTakes
set_option maxRecDepth 20000 in
theorem ggX5_ahead_X5_noRider : GoodIn wsX5_ahead wsX5_noRider := goodIn_r _ [8, 9, 10, 11, 12, 7, 13, 76, 77, 78, 79, 80, 81, 82, 83, 84, 85, 86, 87, 88, 89, 90, 91, 92, 93, 94] (by decide +kernel) (by decide +kernel)
set_option maxRecDepth 20000 in
theorem gX5_ahead_X5_noRider : GoodIn wsX5_ahead (wsV RX5 157 RX5 yX5_noRider wsX5_noRider) := goodIn_app (goodIn_of _ (by decide +kernel)) ggX5_ahead_X5_noRider
set_option maxRecDepth 20000 in
theorem ggX5_ahead_X5_outside : GoodIn wsX5_ahead wsX5_outside := goodIn_r _ [13] (by decide +kernel) (by decide +kernel)
set_option maxRecDepth 20000 in
theorem gX5_ahead_X5_outside : GoodIn wsX5_ahead (va_wsS RX5 69 yX5_outside wsX5_outside) := goodIn_app (goodIn_of _ (by decide +kernel)) ggX5_ahead_X5_outside
set_option maxRecDepth 20000 in
theorem ggX5_ahead_X5_tryTicks : GoodIn wsX5_ahead wsX5_tryTicks := goodIn_r _ [17, 2, 9, 18, 19, 20, 21, 22, 23, 24, 25, 26, 27, 28, 29, 30, 31, 32, 33, 34, 35, 36, 37, 38, 39, 40, 41, 42, 43, 44, 45, 46, 47, 48, 49, 50, 51, 52, 53, 54, 55, 56, 57, 58, 59, 60, 61, 62, 63, 64, 65, 66, 67, 68, 69, 70, 71, 72, 73, 74, 75, 76, 77, 78, 79, 80, 81, 82, 83, 84, 85, 86, 87, 88, 89, 90, 91, 92, 93, 94] (by decide +kernel) (by decide +kernel)
set_option maxRecDepth 20000 in
theorem gX5_ahead_X5_tryTicks : GoodIn wsX5_ahead (wsV RX5 198 RX5 yX5_tryTicks wsX5_tryTicks) := goodIn_app (goodIn_of _ (by decide +kernel)) ggX5_ahead_X5_tryTicks
set_option maxRecDepth 20000 in
theorem ggX5_later_X5_noStair : GoodIn wsX5_later wsX5_noStair := goodIn_r _ [8, 9, 10, 95, 96, 97, 98, 99, 100, 101, 102, 103, 104, 105, 106, 107, 108, 109, 110, 111, 112, 113] (by decide +kernel) (by decide +kernel)
set_option maxRecDepth 20000 in
theorem gX5_later_X5_noStair : GoodIn wsX5_later (wsV RX5 136 RX5 yX5_noStair wsX5_noStair) := goodIn_app (goodIn_of _ (by decide +kernel)) ggX5_later_X5_noStair
set_option maxRecDepth 20000 in
theorem ggX5_later_X5_outside : GoodIn wsX5_later wsX5_outside := goodIn_r _ [13] (by decide +kernel) (by decide +kernel)
set_option maxRecDepth 20000 in
theorem gX5_later_X5_outside : GoodIn wsX5_later (va_wsS RX5 69 yX5_outside wsX5_outside) := goodIn_app (goodIn_of _ (by decide +kernel)) ggX5_later_X5_outside
set_option maxRecDepth 20000 in
theorem ggX5_later_X5_tryTicks : GoodIn wsX5_later wsX5_tryTicks := goodIn_r _ [17, 3, 9, 18, 19, 20, 21, 22, 23, 24, 25, 26, 27, 28, 29, 30, 31, 32, 33, 34, 35, 36, 37, 38, 39, 40, 41, 42, 43, 44, 45, 46, 47, 48, 49, 50, 51, 52, 53, 54, 55, 56, 57, 58, 59, 60, 61, 62, 63, 64, 65, 66, 67, 68, 69, 70, 71, 72, 73, 74, 75, 95, 96, 97, 98, 99, 100, 101, 102, 103, 104, 105, 106, 107, 108, 109, 110, 111, 112, 113] (by decide +kernel) (by decide +kernel)
set_option maxRecDepth 20000 in
theorem gX5_later_X5_tryTicks : GoodIn wsX5_later (wsV RX5 198 RX5 yX5_tryTicks wsX5_tryTicks) := goodIn_app (goodIn_of _ (by decide +kernel)) ggX5_later_X5_tryTicks
set_option maxRecDepth 20000 in
theorem ggX5_later_X2_howManyAt : GoodIn wsX5_later wsX2_howManyAt := goodIn_r _ [79, 80, 81, 82, 21, 83, 26, 33, 84, 85, 86, 87, 88, 89, 90, 106, 107, 108, 109, 110, 111, 112, 113] (by decide +kernel) (by decide +kernel)
set_option maxRecDepth 20000 in
theorem gX5_later_X2_howManyAt : GoodIn wsX5_later (wsV RX5 151 RX2 yX2_howManyAt wsX2_howManyAt) := goodIn_app (goodIn_of _ (by decide +kernel)) ggX5_later_X2_howManyAt
set_option maxRecDepth 20000 in
theorem ggX5_later_X2_stepsTaken : GoodIn wsX5_later wsX2_stepsTaken := goodIn_r _ [94, 26, 33, 48, 49, 50, 21, 51, 23, 106, 107, 108, 109, 110, 111, 112, 113] (by decide +kernel) (by decide +kernel)
set_option maxRecDepth 20000 in
theorem gX5_later_X2_stepsTaken : GoodIn wsX5_later (wsV RX5 201 RX2 yX2_stepsTaken wsX2_stepsTaken) := goodIn_app (goodIn_of _ (by decide +kernel)) ggX5_later_X2_stepsTaken
set_option maxRecDepth 20000 in
theorem ggX5_off_X5_noRider : GoodIn wsX5_off wsX5_noRider := goodIn_r _ [8, 3, 9, 10, 11, 7, 12, 79, 80, 81, 82, 83, 84, 85, 86, 87, 88, 89, 90, 91, 92, 93, 94, 95, 96, 97] (by decide +kernel) (by decide +kernel)
set_option maxRecDepth 20000 in
theorem gX5_off_X5_noRider : GoodIn wsX5_off (wsV RX5 157 RX5 yX5_noRider wsX5_noRider) := goodIn_app (goodIn_of _ (by decide +kernel)) ggX5_off_X5_noRider
set_option maxRecDepth 20000 in
theorem ggX5_off_X2_become : GoodIn wsX5_off wsX2_become := goodIn_r _ [17, 18, 19, 20, 21, 22, 23, 24, 25, 26, 27, 28, 90, 91, 92, 93, 94, 95, 96, 97] (by decide +kernel) (by decide +kernel)
set_option maxRecDepth 20000 in
theorem gX5_off_X2_become : GoodIn wsX5_off (wsV RX5 123 RX2 yX2_become wsX2_become) := goodIn_app (goodIn_of _ (by decide +kernel)) ggX5_off_X2_become
set_option maxRecDepth 20000 in
theorem ggX5_off_X2_passUntilOff : GoodIn wsX5_off wsX2_passUntilOff := goodIn_r _ [32, 28, 33, 34, 35, 36, 16, 37, 19, 38, 39, 40, 41, 21, 42, 20, 43, 44, 45, 46, 27, 47, 48, 49, 50, 22, 51, 52, 53, 54, 18, 55, 56, 57, 58, 59, 60, 61, 62, 63, 64, 65, 66, 67, 68, 69, 70, 71, 72, 73, 74, 75, 76, 77, 78, 90, 91, 92, 93, 94, 95, 96, 97] (by decide +kernel) (by decide +kernel)
set_option maxRecDepth 20000 in
theorem gX5_off_X2_passUntilOff : GoodIn wsX5_off (wsV RX5 204 RX2 yX2_passUntilOff wsX2_passUntilOff) := goodIn_app (goodIn_of _ (by decide +kernel)) ggX5_off_X2_passUntilOff
set_option maxRecDepth 20000 in
theorem ggX5_clear_X5_noStair : GoodIn wsX5_clear wsX5_noStair := goodIn_r _ [8, 3, 9, 95, 96, 97, 98, 99, 100, 101, 102, 103, 104, 105, 106, 107, 108, 109, 110, 111, 112, 113] (by decide +kernel) (by decide +kernel)
set_option maxRecDepth 20000 in
theorem gX5_clear_X5_noStair : GoodIn wsX5_clear (wsV RX5 136 RX5 yX5_noStair wsX5_noStair) := goodIn_app (goodIn_of _ (by decide +kernel)) ggX5_clear_X5_noStair
set_option maxRecDepth 20000 in
theorem ggX5_clear_X2_become : GoodIn wsX5_clear wsX2_become := goodIn_r _ [14, 15, 16, 17, 18, 19, 20, 21, 22, 23, 24, 25, 106, 107, 108, 109, 110, 111, 112, 113] (by decide +kernel) (by decide +kernel)
set_option maxRecDepth 20000 in
theorem gX5_clear_X2_become : GoodIn wsX5_clear (wsV RX5 123 RX2 yX2_become wsX2_become) := goodIn_app (goodIn_of _ (by decide +kernel)) ggX5_clear_X2_become
set_option maxRecDepth 20000 in
theorem ggX5_clear_X2_passUntilClear : GoodIn wsX5_clear wsX2_passUntilClear := goodIn_r _ [29, 30, 31, 32, 33, 13, 34, 18, 35, 36, 37, 38, 39, 40, 41, 42, 25, 43, 44, 45, 46, 47, 48, 49, 50, 51, 52, 53, 16, 54, 55, 56, 57, 58, 17, 59, 60, 61, 62, 24, 63, 64, 65, 66, 19, 67, 68, 69, 70, 15, 71, 72, 73, 74, 75, 76, 77, 78, 79, 80, 81, 82, 83, 84, 85, 86, 87, 88, 89, 90, 91, 92, 93, 94, 106, 107, 108, 109, 110, 111, 112, 113] (by decide +kernel) (by decide +kernel)
set_option maxRecDepth 20000 in
theorem gX5_clear_X2_passUntilClear : GoodIn wsX5_clear (wsV RX5 207 RX2 yX2_passUntilClear wsX2_passUntilClear) := goodIn_app (goodIn_of _ (by decide +kernel)) ggX5_clear_X2_passUntilClear
set_option maxRecDepth 20000 in
theorem ggX5_sorting_X5_noStair : GoodIn wsX5_sorting wsX5_noStair := goodIn_r _ [10, 3, 11, 108, 109, 110, 111, 112, 113, 114, 115, 116, 117, 118, 119, 120, 121, 122, 123, 124, 125, 126] (by decide +kernel) (by decide +kernel)
set_option maxRecDepth 20000 in
theorem gX5_sorting_X5_noStair : GoodIn wsX5_sorting (wsV RX5 136 RX5 yX5_noStair wsX5_noStair) := goodIn_app (goodIn_of _ (by decide +kernel)) ggX5_sorting_X5_noStair
set_option maxRecDepth 20000 in
theorem ggX5_sorting_X5_outside : GoodIn wsX5_sorting wsX5_outside := goodIn_r _ [14] (by decide +kernel) (by decide +kernel)
set_option maxRecDepth 20000 in
theorem gX5_sorting_X5_outside : GoodIn wsX5_sorting (va_wsS RX5 69 yX5_outside wsX5_outside) := goodIn_app (goodIn_of _ (by decide +kernel)) ggX5_sorting_X5_outside
set_option maxRecDepth 20000 in
theorem ggX5_sorting_X2_whoIsAt : GoodIn wsX5_sorting wsX2_whoIsAt := goodIn_r _ [19, 20, 21, 119, 120, 121, 122, 123, 124, 125, 126] (by decide +kernel) (by decide +kernel)
set_option maxRecDepth 20000 in
theorem gX5_sorting_X2_whoIsAt : GoodIn wsX5_sorting (wsV RX5 210 RX2 yX2_whoIsAt wsX2_whoIsAt) := goodIn_app (goodIn_of _ (by decide +kernel)) ggX5_sorting_X2_whoIsAt
set_option maxRecDepth 20000 in
theorem ggX5_sorting_X2_become : GoodIn wsX5_sorting wsX2_become := goodIn_r _ [25, 26, 27, 28, 20, 29, 30, 31, 32, 33, 34, 21, 119, 120, 121, 122, 123, 124, 125, 126] (by decide +kernel) (by decide +kernel)
set_option maxRecDepth 20000 in
theorem gX5_sorting_X2_become : GoodIn wsX5_sorting (wsV RX5 123 RX2 yX2_become wsX2_become) := goodIn_app (goodIn_of _ (by decide +kernel)) ggX5_sorting_X2_become
set_option maxRecDepth 20000 in
theorem ggX5_sorting_X2_putInLanes : GoodIn wsX5_sorting wsX2_putInLanes := goodIn_r _ [38, 20, 34, 119, 120, 121, 122, 123, 124, 125, 126] (by decide +kernel) (by decide +kernel)
set_option maxRecDepth 20000 in
theorem gX5_sorting_X2_putInLanes : GoodIn wsX5_sorting (wsV RX5 213 RX2 yX2_putInLanes wsX2_putInLanes) := goodIn_app (goodIn_of _ (by decide +kernel)) ggX5_sorting_X2_putInLanes
set_option maxRecDepth 20000 in
theorem ggX5_sorting_X2_passUntilClear : GoodIn wsX5_sorting wsX2_passUntilClear := goodIn_r _ [42, 43, 44, 45, 46, 18, 47, 20, 48, 49, 50, 51, 52, 16, 17, 19, 21, 53, 54, 55, 56, 57, 58, 59, 60, 61, 62, 63, 27, 64, 65, 66, 67, 68, 28, 69, 70, 71, 72, 34, 73, 74, 75, 76, 29, 77, 78, 79, 80, 26, 81, 82, 83, 84, 85, 86, 87, 88, 89, 90, 91, 92, 93, 94, 95, 96, 97, 98, 99, 100, 101, 102, 103, 104, 119, 120, 121, 122, 123, 124, 125, 126] (by decide +kernel) (by decide +kernel)
set_option maxRecDepth 20000 in
theorem gX5_sorting_X2_passUntilClear : GoodIn wsX5_sorting (wsV RX5 207 RX2 yX2_passUntilClear wsX2_passUntilClear) := goodIn_app (goodIn_of _ (by decide +kernel)) ggX5_sorting_X2_passUntilClear
set_option maxRecDepth 20000 in
theorem ggX5_sorting_X5_nextSubset : GoodIn wsX5_sorting wsX5_nextSubset := goodIn_r _ [107] (by decide +kernel) (by decide +kernel)
set_option maxRecDepth 20000 in
theorem gX5_sorting_X5_nextSubset : GoodIn wsX5_sorting (va_wsS RX5 216 yX5_nextSubset wsX5_nextSubset) := goodIn_app (goodIn_of _ (by decide +kernel)) ggX5_sorting_X5_nextSubset
set_option maxRecDepth 20000 in
theorem ggX5_taken_X5_noStair : GoodIn wsX5_taken wsX5_noStair := goodIn_r _ [12, 4, 6, 101, 102, 103, 104, 105, 106, 107, 108, 109, 110, 111, 112, 113, 114, 115, 116, 117, 118, 119] (by decide +kernel) (by decide +kernel)
set_option maxRecDepth 20000 in
theorem gX5_taken_X5_noStair : GoodIn wsX5_taken (wsV RX5 136 RX5 yX5_noStair wsX5_noStair) := goodIn_app (goodIn_of _ (by decide +kernel)) ggX5_taken_X5_noStair
set_option maxRecDepth 20000 in
theorem ggX5_taken_X5_outside : GoodIn wsX5_taken wsX5_outside := goodIn_r _ [15] (by decide +kernel) (by decide +kernel)
set_option maxRecDepth 20000 in
theorem gX5_taken_X5_outside : GoodIn wsX5_taken (va_wsS RX5 69 yX5_outside wsX5_outside) := goodIn_app (goodIn_of _ (by decide +kernel)) ggX5_taken_X5_outside
set_option maxRecDepth 20000 in
theorem ggX5_taken_X2_become : GoodIn wsX5_taken wsX2_become := goodIn_r _ [20, 21, 22, 23, 24, 25, 26, 27, 28, 29, 30, 31, 112, 113, 114, 115, 116, 117, 118, 119] (by decide +kernel) (by decide +kernel)
set_option maxRecDepth 20000 in
theorem gX5_taken_X2_become : GoodIn wsX5_taken (wsV RX5 123 RX2 yX2_become wsX2_become) := goodIn_app (goodIn_of _ (by decide +kernel)) ggX5_taken_X2_become
set_option maxRecDepth 20000 in
theorem ggX5_taken_X2_passUntilClear : GoodIn wsX5_taken wsX2_passUntilClear := goodIn_r _ [35, 36, 37, 38, 39, 19, 40, 24, 41, 42, 43, 44, 45, 46, 47, 48, 31, 49, 50, 51, 52, 53, 54, 55, 56, 57, 58, 59, 22, 60, 61, 62, 63, 64, 23, 65, 66, 67, 68, 30, 69, 70, 71, 72, 25, 73, 74, 75, 76, 21, 77, 78, 79, 80, 81, 82, 83, 84, 85, 86, 87, 88, 89, 90, 91, 92, 93, 94, 95, 96, 97, 98, 99, 100, 112, 113, 114, 115, 116, 117, 118, 119] (by decide +kernel) (by decide +kernel)
set_option maxRecDepth 20000 in
theorem gX5_taken_X2_passUntilClear : GoodIn wsX5_taken (wsV RX5 207 RX2 yX2_passUntilClear wsX2_passUntilClear) := goodIn_app (goodIn_of _ (by decide +kernel)) ggX5_taken_X2_passUntilClear
set_option maxRecDepth 20000 in
theorem ggX5_pace_X5_noRider : GoodIn wsX5_pace wsX5_noRider := goodIn_r _ [8, 9, 10, 11, 12, 7, 13, 96, 97, 98, 99, 100, 101, 102, 103, 104, 105, 106, 107, 108, 109, 110, 111, 112, 113, 114] (by decide +kernel) (by decide +kernel)
set_option maxRecDepth 20000 in
theorem gX5_pace_X5_noRider : GoodIn wsX5_pace (wsV RX5 157 RX5 yX5_noRider wsX5_noRider) := goodIn_app (goodIn_of _ (by decide +kernel)) ggX5_pace_X5_noRider
set_option maxRecDepth 20000 in
theorem ggX5_pace_X5_outside : GoodIn wsX5_pace wsX5_outside := goodIn_r _ [13] (by decide +kernel) (by decide +kernel)
set_option maxRecDepth 20000 in
theorem gX5_pace_X5_outside : GoodIn wsX5_pace (va_wsS RX5 69 yX5_outside wsX5_outside) := goodIn_app (goodIn_of _ (by decide +kernel)) ggX5_pace_X5_outside
set_option maxRecDepth 20000 in
theorem ggX5_pace_X5_findPaces : GoodIn wsX5_pace wsX5_findPaces := goodIn_r _ [17, 2, 18, 9, 19, 20, 3, 21, 22, 23, 24, 25, 26, 7, 27, 28, 29, 30, 31, 32, 33, 34, 35, 36, 37, 38, 39, 40, 41, 42, 43, 44, 45, 46, 47, 48, 49, 50, 51, 52, 53, 54, 55, 56, 57, 58, 59, 60, 61, 62, 63, 64, 65, 66, 67, 68, 69, 70, 71, 72, 73, 74, 75, 76, 77, 78, 79, 80, 81, 82, 83, 84, 85, 86, 87, 88, 89, 90, 91, 92, 93, 94, 95, 96, 97, 98, 99, 100, 101, 102, 103, 104, 105, 106, 107, 108, 109, 110, 111, 112, 113, 114] (by decide +kernel) (by decide +kernel)
set_option maxRecDepth 20000 in
theorem gX5_pace_X5_findPaces : GoodIn wsX5_pace (wsV RX5 219 RX5 yX5_findPaces wsX5_findPaces) := goodIn_app (goodIn_of _ (by decide +kernel)) ggX5_pace_X5_findPaces
set_option maxRecDepth 20000 in
theorem ggX5_fits_X5_noRider : GoodIn wsX5_fits wsX5_noRider := goodIn_r _ [8, 9, 10, 11, 12, 7, 13, 123, 124, 125, 126, 127, 128, 129, 130, 131, 132, 133, 138, 139, 140, 141, 142, 143, 144, 145] (by decide +kernel) (by decide +kernel)
set_option maxRecDepth 20000 in
theorem gX5_fits_X5_noRider : GoodIn wsX5_fits (wsV RX5 157 RX5 yX5_noRider wsX5_noRider) := goodIn_app (goodIn_of _ (by decide +kernel)) ggX5_fits_X5_noRider
set_option maxRecDepth 20000 in
theorem ggX5_fits_X5_noRow : GoodIn wsX5_fits wsX5_noRow := goodIn_r _ [16, 11, 12, 7, 13] (by decide +kernel) (by decide +kernel)
set_option maxRecDepth 20000 in
theorem gX5_fits_X5_noRow : GoodIn wsX5_fits (va_wsS RX5 65 yX5_noRow wsX5_noRow) := goodIn_app (goodIn_of _ (by decide +kernel)) ggX5_fits_X5_noRow
set_option maxRecDepth 20000 in
theorem ggX5_fits_X5_outside : GoodIn wsX5_fits wsX5_outside := goodIn_r _ [13] (by decide +kernel) (by decide +kernel)
set_option maxRecDepth 20000 in
theorem gX5_fits_X5_outside : GoodIn wsX5_fits (va_wsS RX5 69 yX5_outside wsX5_outside) := goodIn_app (goodIn_of _ (by decide +kernel)) ggX5_fits_X5_outside
set_option maxRecDepth 20000 in
theorem ggX5_fits_X5_found : GoodIn wsX5_fits wsX5_found := goodIn_r _ [20, 21, 22, 123, 124, 125, 126, 127, 128, 129, 130, 131, 132, 133] (by decide +kernel) (by decide +kernel)
set_option maxRecDepth 20000 in
theorem gX5_fits_X5_found : GoodIn wsX5_fits (wsV RX5 74 RX5 yX5_found wsX5_found) := goodIn_app (goodIn_of _ (by decide +kernel)) ggX5_fits_X5_found
set_option maxRecDepth 20000 in
theorem ggX5_fits_X1_holds : GoodIn wsX5_fits wsX1_holds := goodIn_r _ [27, 28, 134, 135, 136, 137] (by decide +kernel) (by decide +kernel)
set_option maxRecDepth 20000 in
theorem gX5_fits_X1_holds : GoodIn wsX5_fits (wsV RX5 89 RX1 yX1_holds wsX1_holds) := goodIn_app (goodIn_of _ (by decide +kernel)) ggX5_fits_X1_holds
set_option maxRecDepth 20000 in
theorem ggX5_fits_X5_kindsThatFit : GoodIn wsX5_fits wsX5_kindsThatFit := goodIn_r _ [32, 33, 9, 34, 35, 36, 37, 38, 39, 40, 41, 42, 43, 44, 45, 46, 47, 48, 49, 50, 51, 52, 53, 7, 54, 55, 56, 57, 58, 59, 60, 61, 62, 63, 64, 65, 66, 67, 68, 69, 70, 71, 72, 73, 74, 75, 76, 77, 78, 79, 80, 81, 82, 83, 84, 85, 86, 87, 88, 89, 90, 91, 92, 93, 94, 95, 96, 97, 98, 99, 100, 101, 123, 124, 125, 126, 127, 128, 129, 130, 131, 132, 133, 138, 139, 140, 141, 142, 143, 144, 145, 134, 135, 136, 137] (by decide +kernel) (by decide +kernel)
set_option maxRecDepth 20000 in
theorem gX5_fits_X5_kindsThatFit : GoodIn wsX5_fits (wsV RX5 222 RX5 yX5_kindsThatFit wsX5_kindsThatFit) := goodIn_app (goodIn_of _ (by decide +kernel)) ggX5_fits_X5_kindsThatFit
set_option maxRecDepth 20000 in
theorem ggX5_fits_X5_fine : GoodIn wsX5_fits wsX5_fine := goodIn_r _ [105, 21, 123, 124, 125, 126, 127, 128, 129, 130, 131, 132, 133] (by decide +kernel) (by decide +kernel)
set_option maxRecDepth 20000 in
theorem gX5_fits_X5_fine : GoodIn wsX5_fits (wsV RX5 82 RX5 yX5_fine wsX5_fine) := goodIn_app (goodIn_of _ (by decide +kernel)) ggX5_fits_X5_fine
set_option maxRecDepth 20000 in
theorem ggX5_fits_X5_lanesThatFit : GoodIn wsX5_fits wsX5_lanesThatFit := goodIn_r _ [109, 33, 9, 110, 35, 36, 37, 38, 39, 40, 41, 42, 43, 44, 45, 46, 47, 48, 49, 50, 51, 52, 53, 7, 54, 55, 56, 57, 58, 59, 60, 61, 62, 63, 64, 65, 66, 67, 68, 69, 70, 71, 72, 73, 74, 75, 76, 77, 78, 79, 80, 81, 82, 83, 84, 85, 86, 87, 88, 89, 90, 91, 92, 93, 94, 95, 96, 97, 98, 99, 100, 101, 123, 124, 125, 126, 127, 128, 129, 130, 131, 132, 133, 138, 139, 140, 141, 142, 143, 144, 145, 134, 135, 136, 137] (by decide +kernel) (by decide +kernel)
set_option maxRecDepth 20000 in
theorem gX5_fits_X5_lanesThatFit : GoodIn wsX5_fits (wsV RX5 226 RX5 yX5_lanesThatFit wsX5_lanesThatFit) := goodIn_app (goodIn_of _ (by decide +kernel)) ggX5_fits_X5_lanesThatFit
set_option maxRecDepth 20000 in
theorem ggX5_fits_X5_speedsThatFit : GoodIn wsX5_fits wsX5_speedsThatFit := goodIn_r _ [114, 33, 9, 115, 35, 36, 37, 38, 39, 40, 41, 42, 43, 44, 45, 46, 47, 48, 49, 50, 51, 52, 53, 7, 54, 55, 56, 57, 58, 59, 60, 61, 62, 63, 64, 65, 66, 67, 68, 69, 70, 71, 72, 73, 74, 75, 76, 77, 78, 79, 80, 81, 82, 83, 84, 85, 86, 87, 88, 89, 90, 91, 92, 93, 94, 95, 96, 97, 98, 99, 100, 101, 123, 124, 125, 126, 127, 128, 129, 130, 131, 132, 133, 138, 139, 140, 141, 142, 143, 144, 145, 134, 135, 136, 137] (by decide +kernel) (by decide +kernel)
set_option maxRecDepth 20000 in
theorem gX5_fits_X5_speedsThatFit : GoodIn wsX5_fits (wsV RX5 229 RX5 yX5_speedsThatFit wsX5_speedsThatFit) := goodIn_app (goodIn_of _ (by decide +kernel)) ggX5_fits_X5_speedsThatFit
set_option maxRecDepth 20000 in
theorem ggX5_fits_X5_startsThatFit : GoodIn wsX5_fits wsX5_startsThatFit := goodIn_r _ [119, 9, 120, 33, 55, 121, 72, 73, 38, 74, 50, 40, 122, 88, 89, 90, 44, 43, 49, 35, 36, 37, 39, 41, 42, 45, 46, 47, 48, 51, 52, 53, 7, 54, 56, 57, 58, 59, 60, 61, 62, 63, 64, 65, 66, 67, 68, 69, 70, 71, 75, 76, 77, 78, 79, 80, 81, 82, 83, 84, 85, 86, 87, 91, 92, 93, 94, 95, 96, 97, 98, 99, 100, 101, 123, 124, 125, 126, 127, 128, 129, 130, 131, 132, 133, 138, 139, 140, 141, 142, 143, 144, 145, 134, 135, 136, 137] (by decide +kernel) (by decide +kernel)
set_option maxRecDepth 20000 in
theorem gX5_fits_X5_startsThatFit : GoodIn wsX5_fits (wsV RX5 232 RX5 yX5_startsThatFit wsX5_startsThatFit) := goodIn_app (goodIn_of _ (by decide +kernel)) ggX5_fits_X5_startsThatFit
set_option maxRecDepth 20000 in
theorem ggX5_absent_X5_noRider : GoodIn wsX5_absent wsX5_noRider := goodIn_r _ [9, 2, 10, 11, 12, 8, 13, 108, 109, 110, 111, 112, 113, 114, 115, 116, 117, 118, 119, 120, 121, 122, 123, 124, 125, 126] (by decide +kernel) (by decide +kernel)
set_option maxRecDepth 20000 in
theorem gX5_absent_X5_noRider : GoodIn wsX5_absent (wsV RX5 157 RX5 yX5_noRider wsX5_noRider) := goodIn_app (goodIn_of _ (by decide +kernel)) ggX5_absent_X5_noRider
set_option maxRecDepth 20000 in
theorem ggX5_absent_X5_outside : GoodIn wsX5_absent wsX5_outside := goodIn_r _ [13] (by decide +kernel) (by decide +kernel)
set_option maxRecDepth 20000 in
theorem gX5_absent_X5_outside : GoodIn wsX5_absent (va_wsS RX5 69 yX5_outside wsX5_outside) := goodIn_app (goodIn_of _ (by decide +kernel)) ggX5_absent_X5_outside
set_option maxRecDepth 20000 in
theorem ggX5_absent_X2_whoIsAt : GoodIn wsX5_absent wsX2_whoIsAt := goodIn_r _ [18, 19, 20, 119, 120, 121, 122, 123, 124, 125, 126] (by decide +kernel) (by decide +kernel)
set_option maxRecDepth 20000 in
theorem gX5_absent_X2_whoIsAt : GoodIn wsX5_absent (wsV RX5 210 RX2 yX2_whoIsAt wsX2_whoIsAt) := goodIn_app (goodIn_of _ (by decide +kernel)) ggX5_absent_X2_whoIsAt
set_option maxRecDepth 20000 in
theorem ggX5_absent_J6_bitCount_0f7a4 : GoodIn wsX5_absent wsJ6_bitCount_0f7a4 := goodIn_r _ [24, 25, 26, 27] (by decide +kernel) (by decide +kernel)
set_option maxRecDepth 20000 in
theorem gX5_absent_J6_bitCount_0f7a4 : GoodIn wsX5_absent (va_wsS RX5 235 yJ6_bitCount_0f7a4 wsJ6_bitCount_0f7a4) := goodIn_app (goodIn_of _ (by decide +kernel)) ggX5_absent_J6_bitCount_0f7a4
set_option maxRecDepth 20000 in
theorem ggX5_absent_X2_become : GoodIn wsX5_absent wsX2_become := goodIn_r _ [31, 32, 33, 34, 19, 35, 36, 37, 38, 39, 40, 20, 119, 120, 121, 122, 123, 124, 125, 126] (by decide +kernel) (by decide +kernel)
set_option maxRecDepth 20000 in
theorem gX5_absent_X2_become : GoodIn wsX5_absent (wsV RX5 123 RX2 yX2_become wsX2_become) := goodIn_app (goodIn_of _ (by decide +kernel)) ggX5_absent_X2_become
set_option maxRecDepth 20000 in
theorem ggX5_absent_X2_takeOff : GoodIn wsX5_absent wsX2_takeOff := goodIn_r _ [44, 19, 20, 119, 120, 121, 122, 123, 124, 125, 126] (by decide +kernel) (by decide +kernel)
set_option maxRecDepth 20000 in
theorem gX5_absent_X2_takeOff : GoodIn wsX5_absent (wsV RX5 240 RX2 yX2_takeOff wsX2_takeOff) := goodIn_app (goodIn_of _ (by decide +kernel)) ggX5_absent_X2_takeOff
set_option maxRecDepth 20000 in
theorem ggX5_absent_X2_passUntilOff : GoodIn wsX5_absent wsX2_passUntilOff := goodIn_r _ [48, 20, 49, 50, 51, 52, 17, 53, 33, 54, 55, 56, 57, 19, 58, 34, 59, 60, 61, 62, 40, 63, 64, 65, 66, 35, 67, 68, 69, 70, 32, 71, 72, 73, 74, 75, 76, 77, 78, 79, 80, 81, 82, 83, 84, 85, 86, 87, 88, 89, 90, 91, 92, 93, 94, 119, 120, 121, 122, 123, 124, 125, 126] (by decide +kernel) (by decide +kernel)
set_option maxRecDepth 20000 in
theorem gX5_absent_X2_passUntilOff : GoodIn wsX5_absent (wsV RX5 204 RX2 yX2_passUntilOff wsX2_passUntilOff) := goodIn_app (goodIn_of _ (by decide +kernel)) ggX5_absent_X2_passUntilOff
set_option maxRecDepth 20000 in
theorem ggX5_absent_X5_power : GoodIn wsX5_absent wsX5_power := goodIn_r _ [97] (by decide +kernel) (by decide +kernel)
set_option maxRecDepth 20000 in
theorem gX5_absent_X5_power : GoodIn wsX5_absent (va_wsS RX5 243 yX5_power wsX5_power) := goodIn_app (goodIn_of _ (by decide +kernel)) ggX5_absent_X5_power
set_option maxRecDepth 20000 in
theorem ggX5_absent_X5_nextSubset : GoodIn wsX5_absent wsX5_nextSubset := goodIn_r _ [100] (by decide +kernel) (by decide +kernel)
set_option maxRecDepth 20000 in
theorem gX5_absent_X5_nextSubset : GoodIn wsX5_absent (va_wsS RX5 216 yX5_nextSubset wsX5_nextSubset) := goodIn_app (goodIn_of _ (by decide +kernel)) ggX5_absent_X5_nextSubset
set_option maxRecDepth 20000 in
theorem ggX5_absent_X5_greatestDivisor : GoodIn wsX5_absent wsX5_greatestDivisor := goodIn_r _ [103, 104, 105, 106, 107] (by decide +kernel) (by decide +kernel)
set_option maxRecDepth 20000 in
theorem gX5_absent_X5_greatestDivisor : GoodIn wsX5_absent (va_wsS RX5 246 yX5_greatestDivisor wsX5_greatestDivisor) := goodIn_app (goodIn_of _ (by decide +kernel)) ggX5_absent_X5_greatestDivisor
set_option maxRecDepth 20000 in
theorem ggX5_drawn_X5_noStair : GoodIn wsX5_drawn wsX5_noStair := goodIn_r _ [12, 5, 13, 98, 99, 100, 101, 102, 103, 104, 105, 106, 107, 108, 109, 110, 111, 112, 113, 114, 115, 116] (by decide +kernel) (by decide +kernel)
set_option maxRecDepth 20000 in
theorem gX5_drawn_X5_noStair : GoodIn wsX5_drawn (wsV RX5 136 RX5 yX5_noStair wsX5_noStair) := goodIn_app (goodIn_of _ (by decide +kernel)) ggX5_drawn_X5_noStair
set_option maxRecDepth 20000 in
theorem ggX5_drawn_X5_outside : GoodIn wsX5_drawn wsX5_outside := goodIn_r _ [16] (by decide +kernel) (by decide +kernel)
set_option maxRecDepth 20000 in
theorem gX5_drawn_X5_outside : GoodIn wsX5_drawn (va_wsS RX5 69 yX5_outside wsX5_outside) := goodIn_app (goodIn_of _ (by decide +kernel)) ggX5_drawn_X5_outside
set_option maxRecDepth 20000 in
theorem ggX5_drawn_X2_become : GoodIn wsX5_drawn wsX2_become := goodIn_r _ [21, 22, 23, 24, 25, 26, 27, 28, 29, 30, 31, 32, 109, 110, 111, 112, 113, 114, 115, 116] (by decide +kernel) (by decide +kernel)
set_option maxRecDepth 20000 in
theorem gX5_drawn_X2_become : GoodIn wsX5_drawn (wsV RX5 123 RX2 yX2_become wsX2_become) := goodIn_app (goodIn_of _ (by decide +kernel)) ggX5_drawn_X2_become
set_option maxRecDepth 20000 in
theorem ggX5_drawn_X2_draw : GoodIn wsX5_drawn wsX2_draw := goodIn_r _ [36, 25, 23, 32, 37, 38, 39, 20, 40, 31, 109, 110, 111, 112, 113, 114, 115, 116] (by decide +kernel) (by decide +kernel)
set_option maxRecDepth 20000 in
theorem gX5_drawn_X2_draw : GoodIn wsX5_drawn (wsV RX5 254 RX2 yX2_draw wsX2_draw) := goodIn_app (goodIn_of _ (by decide +kernel)) ggX5_drawn_X2_draw
set_option maxRecDepth 20000 in
theorem ggX5_drawn_X2_pass : GoodIn wsX5_drawn wsX2_pass := goodIn_r _ [44, 25, 45, 46, 24, 47, 48, 49, 20, 50, 32, 31, 51, 52, 53, 54, 26, 55, 56, 57, 58, 22, 59, 60, 61, 62, 63, 64, 65, 66, 67, 68, 69, 70, 71, 72, 73, 74, 75, 76, 77, 78, 23, 79, 80, 81, 82, 109, 110, 111, 112, 113, 114, 115, 116] (by decide +kernel) (by decide +kernel)
set_option maxRecDepth 20000 in
theorem gX5_drawn_X2_pass : GoodIn wsX5_drawn (wsV RX5 147 RX2 yX2_pass wsX2_pass) := goodIn_app (goodIn_of _ (by decide +kernel)) ggX5_drawn_X2_pass
set_option maxRecDepth 20000 in
theorem ggX5_drawn_X2_howManyAt : GoodIn wsX5_drawn wsX2_howManyAt := goodIn_r _ [86, 87, 88, 89, 20, 90, 25, 32, 91, 92, 93, 94, 95, 96, 97, 109, 110, 111, 112, 113, 114, 115, 116] (by decide +kernel) (by decide +kernel)
set_option maxRecDepth 20000 in
theorem gX5_drawn_X2_howManyAt : GoodIn wsX5_drawn (wsV RX5 151 RX2 yX2_howManyAt wsX2_howManyAt) := goodIn_app (goodIn_of _ (by decide +kernel)) ggX5_drawn_X2_howManyAt
set_option maxRecDepth 20000 in
theorem ggX5_image_X5_outside : GoodIn wsX5_image wsX5_outside := goodIn_r _ [8] (by decide +kernel) (by decide +kernel)
set_option maxRecDepth 20000 in
theorem gX5_image_X5_outside : GoodIn wsX5_image (va_wsS RX5 69 yX5_outside wsX5_outside) := goodIn_app (goodIn_of _ (by decide +kernel)) ggX5_image_X5_outside
set_option maxRecDepth 20000 in
theorem ggX5_image_X5_noStair : GoodIn wsX5_image wsX5_noStair := goodIn_r _ [12, 4, 13, 30, 31, 32, 33, 34, 35, 36, 37, 38, 39, 40, 41, 42, 43, 44, 45, 46, 47, 48] (by decide +kernel) (by decide +kernel)
set_option maxRecDepth 20000 in
theorem gX5_image_X5_noStair : GoodIn wsX5_image (wsV RX5 136 RX5 yX5_noStair wsX5_noStair) := goodIn_app (goodIn_of _ (by decide +kernel)) ggX5_image_X5_noStair
set_option maxRecDepth 20000 in
theorem ggX5_image_X2_become : GoodIn wsX5_image wsX2_become := goodIn_r _ [18, 19, 20, 21, 22, 23, 24, 25, 26, 27, 28, 29, 41, 42, 43, 44, 45, 46, 47, 48] (by decide +kernel) (by decide +kernel)
set_option maxRecDepth 20000 in
theorem gX5_image_X2_become : GoodIn wsX5_image (wsV RX5 123 RX2 yX2_become wsX2_become) := goodIn_app (goodIn_of _ (by decide +kernel)) ggX5_image_X2_become
set_option maxRecDepth 20000 in
theorem ggX5_restore_X5_outside : GoodIn wsX5_restore wsX5_outside := goodIn_r _ [10] (by decide +kernel) (by decide +kernel)
set_option maxRecDepth 20000 in
theorem gX5_restore_X5_outside : GoodIn wsX5_restore (va_wsS RX5 69 yX5_outside wsX5_outside) := goodIn_app (goodIn_of _ (by decide +kernel)) ggX5_restore_X5_outside
set_option maxRecDepth 20000 in
theorem ggX5_restore_X2_become : GoodIn wsX5_restore wsX2_become := goodIn_r _ [15, 16, 17, 18, 19, 20, 21, 22, 23, 24, 25, 26, 44, 45, 46, 47, 48, 49, 50, 51] (by decide +kernel) (by decide +kernel)
set_option maxRecDepth 20000 in
theorem gX5_restore_X2_become : GoodIn wsX5_restore (wsV RX5 123 RX2 yX2_become wsX2_become) := goodIn_app (goodIn_of _ (by decide +kernel)) ggX5_restore_X2_become
set_option maxRecDepth 20000 in
theorem ggX5_restore_X0_forgetAll : GoodIn wsX5_restore wsX0_forgetAll := goodIn_r _ [31, 32, 52, 53, 54] (by decide +kernel) (by decide +kernel)
set_option maxRecDepth 20000 in
theorem gX5_restore_X0_forgetAll : GoodIn wsX5_restore (wsV RX5 127 RX0 yX0_forgetAll wsX0_forgetAll) := goodIn_app (goodIn_of _ (by decide +kernel)) ggX5_restore_X0_forgetAll
set_option maxRecDepth 20000 in
theorem ggX5_kind_X5_noRider : GoodIn wsX5_kind wsX5_noRider := goodIn_r _ [8, 2, 9, 10, 11, 7, 12, 13, 14, 15, 16, 17, 18, 19, 20, 21, 22, 23, 24, 25, 26, 27, 28, 29, 30, 31] (by decide +kernel) (by decide +kernel)
set_option maxRecDepth 20000 in
theorem gX5_kind_X5_noRider : GoodIn wsX5_kind (wsV RX5 157 RX5 yX5_noRider wsX5_noRider) := goodIn_app (goodIn_of _ (by decide +kernel)) ggX5_kind_X5_noRider
set_option maxRecDepth 20000 in
theorem ggX5_as_X5_noRider : GoodIn wsX5_as wsX5_noRider := goodIn_r _ [9, 2, 10, 11, 12, 8, 13, 24, 25, 26, 27, 28, 29, 30, 31, 32, 33, 34, 35, 36, 37, 38, 39, 40, 41, 42] (by decide +kernel) (by decide +kernel)
set_option maxRecDepth 20000 in
theorem gX5_as_X5_noRider : GoodIn wsX5_as (wsV RX5 157 RX5 yX5_noRider wsX5_noRider) := goodIn_app (goodIn_of _ (by decide +kernel)) ggX5_as_X5_noRider
set_option maxRecDepth 20000 in
theorem ggX5_as_X5_outside : GoodIn wsX5_as wsX5_outside := goodIn_r _ [13] (by decide +kernel) (by decide +kernel)
set_option maxRecDepth 20000 in
theorem gX5_as_X5_outside : GoodIn wsX5_as (va_wsS RX5 69 yX5_outside wsX5_outside) := goodIn_app (goodIn_of _ (by decide +kernel)) ggX5_as_X5_outside
set_option maxRecDepth 20000 in
theorem ggX5_as_X5_fine : GoodIn wsX5_as wsX5_fine := goodIn_r _ [17, 18, 24, 25, 26, 27, 28, 29, 30, 31, 32, 33, 34] (by decide +kernel) (by decide +kernel)
set_option maxRecDepth 20000 in
theorem gX5_as_X5_fine : GoodIn wsX5_as (wsV RX5 82 RX5 yX5_fine wsX5_fine) := goodIn_app (goodIn_of _ (by decide +kernel)) ggX5_as_X5_fine
set_option maxRecDepth 20000 in
theorem ggX5_as_X5_found : GoodIn wsX5_as wsX5_found := goodIn_r _ [22, 18, 23, 24, 25, 26, 27, 28, 29, 30, 31, 32, 33, 34] (by decide +kernel) (by decide +kernel)
set_option maxRecDepth 20000 in
theorem gX5_as_X5_found : GoodIn wsX5_as (wsV RX5 74 RX5 yX5_found wsX5_found) := goodIn_app (goodIn_of _ (by decide +kernel)) ggX5_as_X5_found
set_option maxRecDepth 20000 in
theorem ggX5_ask_X5_noRider : GoodIn wsX5_ask wsX5_noRider := goodIn_r _ [10, 4, 11, 12, 13, 9, 14, 33, 34, 35, 36, 37, 38, 39, 40, 41, 42, 43, 46, 47, 48, 49, 50, 51, 52, 53] (by decide +kernel) (by decide +kernel)
set_option maxRecDepth 20000 in
theorem gX5_ask_X5_noRider : GoodIn wsX5_ask (wsV RX5 157 RX5 yX5_noRider wsX5_noRider) := goodIn_app (goodIn_of _ (by decide +kernel)) ggX5_ask_X5_noRider
set_option maxRecDepth 20000 in
theorem ggX5_ask_X5_outside : GoodIn wsX5_ask wsX5_outside := goodIn_r _ [14] (by decide +kernel) (by decide +kernel)
set_option maxRecDepth 20000 in
theorem gX5_ask_X5_outside : GoodIn wsX5_ask (va_wsS RX5 69 yX5_outside wsX5_outside) := goodIn_app (goodIn_of _ (by decide +kernel)) ggX5_ask_X5_outside
set_option maxRecDepth 20000 in
theorem ggX5_ask_X5_bodyFor : GoodIn wsX5_ask wsX5_bodyFor := goodIn_r _ [17, 18, 19, 20] (by decide +kernel) (by decide +kernel)
set_option maxRecDepth 20000 in
theorem gX5_ask_X5_bodyFor : GoodIn wsX5_ask (va_wsS RX5 264 yX5_bodyFor wsX5_bodyFor) := goodIn_app (goodIn_of _ (by decide +kernel)) ggX5_ask_X5_bodyFor
set_option maxRecDepth 20000 in
theorem ggX5_ask_X5_answerOf : GoodIn wsX5_ask wsX5_answerOf := goodIn_r _ [23, 24, 5, 25, 26, 27, 28, 29, 30, 31, 32, 21, 22, 9, 15, 16, 17, 18, 19, 20, 46, 47, 48, 49, 50, 51, 52, 53, 44, 45] (by decide +kernel) (by decide +kernel)
set_option maxRecDepth 20000 in
theorem gX5_ask_X5_answerOf : GoodIn wsX5_ask (va_wsS RX5 267 yX5_answerOf wsX5_answerOf) := goodIn_app (goodIn_of _ (by decide +kernel)) ggX5_ask_X5_answerOf
set_option maxRecDepth 20000 in
theorem ggX5_trace_X5_outside : GoodIn wsX5_trace wsX5_outside := goodIn_r _ [8] (by decide +kernel) (by decide +kernel)
set_option maxRecDepth 20000 in
theorem gX5_trace_X5_outside : GoodIn wsX5_trace (va_wsS RX5 69 yX5_outside wsX5_outside) := goodIn_app (goodIn_of _ (by decide +kernel)) ggX5_trace_X5_outside
set_option maxRecDepth 20000 in
theorem ggX5_count_X5_howManyRows : GoodIn wsX5_count wsX5_howManyRows := goodIn_r _ [15, 16, 17, 18, 19, 14, 20, 39, 40, 41, 42, 43, 44, 45, 46, 47, 48, 49, 64, 65, 66, 67] (by decide +kernel) (by decide +kernel)
set_option maxRecDepth 20000 in
theorem gX5_count_X5_howManyRows : GoodIn wsX5_count (wsV RX5 274 RX5 yX5_howManyRows wsX5_howManyRows) := goodIn_app (goodIn_of _ (by decide +kernel)) ggX5_count_X5_howManyRows
set_option maxRecDepth 20000 in
theorem ggX5_count_X2_howManyAt : GoodIn wsX5_count wsX2_howManyAt := goodIn_r _ [25, 26, 27, 28, 24, 29, 30, 31, 32, 33, 34, 35, 36, 37, 38, 50, 51, 52, 53, 54, 55, 56, 57] (by decide +kernel) (by decide +kernel)
set_option maxRecDepth 20000 in
theorem gX5_count_X2_howManyAt : GoodIn wsX5_count (wsV RX5 151 RX2 yX2_howManyAt wsX2_howManyAt) := goodIn_app (goodIn_of _ (by decide +kernel)) ggX5_count_X2_howManyAt
set_option maxRecDepth 20000 in
theorem ggX5_noRow_X5_outside : GoodIn wsX5_noRow wsX5_outside := goodIn_r _ [4] (by decide +kernel) (by decide +kernel)
set_option maxRecDepth 20000 in
theorem gX5_noRow_X5_outside : GoodIn wsX5_noRow (va_wsS RX5 69 yX5_outside wsX5_outside) := goodIn_app (goodIn_of _ (by decide +kernel)) ggX5_noRow_X5_outside
set_option maxRecDepth 20000 in
theorem ggX5_noRider_X5_outside : GoodIn wsX5_noRider wsX5_outside := goodIn_r _ [6] (by decide +kernel) (by decide +kernel)
set_option maxRecDepth 20000 in
theorem gX5_noRider_X5_outside : GoodIn wsX5_noRider (va_wsS RX5 69 yX5_outside wsX5_outside) := goodIn_app (goodIn_of _ (by decide +kernel)) ggX5_noRider_X5_outside
set_option maxRecDepth 20000 in
theorem ggX5_howManyRows_X5_oneIf : GoodIn wsX5_howManyRows wsX5_oneIf := goodIn_r _ [6] (by decide +kernel) (by decide +kernel)
set_option maxRecDepth 20000 in
theorem gX5_howManyRows_X5_oneIf : GoodIn wsX5_howManyRows (va_wsS RX5 181 yX5_oneIf wsX5_oneIf) := goodIn_app (goodIn_of _ (by decide +kernel)) ggX5_howManyRows_X5_oneIf
set_option maxRecDepth 20000 in
theorem ggX5_tryTicks_X2_become : GoodIn wsX5_tryTicks wsX2_become := goodIn_r _ [7, 8, 9, 10, 11, 12, 13, 14, 15, 16, 17, 18, 72, 73, 74, 75, 76, 77, 78, 79] (by decide +kernel) (by decide +kernel)
set_option maxRecDepth 20000 in
theorem gX5_tryTicks_X2_become : GoodIn wsX5_tryTicks (wsV RX5 123 RX2 yX2_become wsX2_become) := goodIn_app (goodIn_of _ (by decide +kernel)) ggX5_tryTicks_X2_become
end
section
set_option maxRecDepth 20000 in
theorem ggX5_tryTicks_X2_pass : GoodIn wsX5_tryTicks wsX2_pass := goodIn_r _ [22, 11, 23, 24, 10, 25, 26, 27, 6, 28, 18, 17, 29, 30, 31, 32, 12, 33, 34, 35, 36, 8, 37, 38, 39, 40, 41, 42, 43, 44, 45, 46, 47, 48, 49, 50, 51, 52, 53, 54, 55, 56, 9, 57, 58, 59, 60, 72, 73, 74, 75, 76, 77, 78, 79] (by decide +kernel) (by decide +kernel)
set_option maxRecDepth 20000 in
theorem gX5_tryTicks_X2_pass : GoodIn wsX5_tryTicks (wsV RX5 147 RX2 yX2_pass wsX2_pass) := goodIn_app (goodIn_of _ (by decide +kernel)) ggX5_tryTicks_X2_pass
set_option maxRecDepth 20000 in
theorem ggX5_findPaces_X5_power : GoodIn wsX5_findPaces wsX5_power := goodIn_r _ [14] (by decide +kernel) (by decide +kernel)
set_option maxRecDepth 20000 in
theorem gX5_findPaces_X5_power : GoodIn wsX5_findPaces (va_wsS RX5 243 yX5_power wsX5_power) := goodIn_app (goodIn_of _ (by decide +kernel)) ggX5_findPaces_X5_power
set_option maxRecDepth 20000 in
theorem ggX5_findPaces_X2_become : GoodIn wsX5_findPaces wsX2_become := goodIn_r _ [19, 20, 21, 22, 23, 24, 25, 8, 9, 10, 26, 27, 94, 95, 96, 97, 98, 99, 100, 101] (by decide +kernel) (by decide +kernel)
set_option maxRecDepth 20000 in
theorem gX5_findPaces_X2_become : GoodIn wsX5_findPaces (wsV RX5 123 RX2 yX2_become wsX2_become) := goodIn_app (goodIn_of _ (by decide +kernel)) ggX5_findPaces_X2_become
set_option maxRecDepth 20000 in
theorem ggX5_findPaces_X5_writePaces : GoodIn wsX5_findPaces wsX5_writePaces := goodIn_r _ [31, 5, 83, 84, 85, 86, 87, 88, 89, 90, 91, 92, 93] (by decide +kernel) (by decide +kernel)
set_option maxRecDepth 20000 in
theorem gX5_findPaces_X5_writePaces : GoodIn wsX5_findPaces (wsV RX5 283 RX5 yX5_writePaces wsX5_writePaces) := goodIn_app (goodIn_of _ (by decide +kernel)) ggX5_findPaces_X5_writePaces
set_option maxRecDepth 20000 in
theorem ggX5_findPaces_X5_passLevels : GoodIn wsX5_findPaces wsX5_passLevels := goodIn_r _ [35, 2, 5, 36, 15, 16, 17, 18, 19, 20, 21, 22, 23, 24, 25, 8, 9, 10, 26, 27, 37, 38, 39, 40, 41, 42, 43, 44, 45, 46, 47, 48, 49, 50, 51, 52, 53, 54, 55, 56, 57, 58, 59, 60, 61, 62, 63, 64, 65, 66, 67, 68, 69, 70, 71, 72, 73, 74, 75, 76, 77, 78, 83, 84, 85, 86, 87, 88, 89, 90, 91, 92, 93, 94, 95, 96, 97, 98, 99, 100, 101] (by decide +kernel) (by decide +kernel)
set_option maxRecDepth 20000 in
theorem gX5_findPaces_X5_passLevels : GoodIn wsX5_findPaces (wsV RX5 286 RX5 yX5_passLevels wsX5_passLevels) := goodIn_app (goodIn_of _ (by decide +kernel)) ggX5_findPaces_X5_passLevels
set_option maxRecDepth 20000 in
theorem ggX5_findPaces_X5_sumOfPaces : GoodIn wsX5_findPaces wsX5_sumOfPaces := goodIn_r _ [82, 5, 83, 84, 85, 86, 87, 88, 89, 90, 91, 92, 93] (by decide +kernel) (by decide +kernel)
set_option maxRecDepth 20000 in
theorem gX5_findPaces_X5_sumOfPaces : GoodIn wsX5_findPaces (wsV RX5 289 RX5 yX5_sumOfPaces wsX5_sumOfPaces) := goodIn_app (goodIn_of _ (by decide +kernel)) ggX5_findPaces_X5_sumOfPaces
set_option maxRecDepth 20000 in
theorem ggX5_passLevels_X2_become : GoodIn wsX5_passLevels wsX2_become := goodIn_r _ [8, 9, 10, 11, 12, 13, 14, 15, 16, 17, 18, 19, 73, 74, 75, 76, 77, 78, 79, 80] (by decide +kernel) (by decide +kernel)
set_option maxRecDepth 20000 in
theorem gX5_passLevels_X2_become : GoodIn wsX5_passLevels (wsV RX5 123 RX2 yX2_become wsX2_become) := goodIn_app (goodIn_of _ (by decide +kernel)) ggX5_passLevels_X2_become
set_option maxRecDepth 20000 in
theorem ggX5_passLevels_X2_pass : GoodIn wsX5_passLevels wsX2_pass := goodIn_r _ [23, 12, 24, 25, 11, 26, 27, 28, 7, 29, 19, 18, 30, 31, 32, 33, 13, 34, 35, 36, 37, 9, 38, 39, 40, 41, 42, 43, 44, 45, 46, 47, 48, 49, 50, 51, 52, 53, 54, 55, 56, 57, 10, 58, 59, 60, 61, 73, 74, 75, 76, 77, 78, 79, 80] (by decide +kernel) (by decide +kernel)
set_option maxRecDepth 20000 in
theorem gX5_passLevels_X2_pass : GoodIn wsX5_passLevels (wsV RX5 147 RX2 yX2_pass wsX2_pass) := goodIn_app (goodIn_of _ (by decide +kernel)) ggX5_passLevels_X2_pass
set_option maxRecDepth 20000 in
theorem ggX5_kindsThatFit_X2_become : GoodIn wsX5_kindsThatFit wsX2_become := goodIn_r _ [8, 9, 10, 11, 12, 13, 14, 15, 16, 17, 18, 19, 83, 84, 85, 86, 87, 88, 89, 90] (by decide +kernel) (by decide +kernel)
set_option maxRecDepth 20000 in
theorem gX5_kindsThatFit_X2_become : GoodIn wsX5_kindsThatFit (wsV RX5 123 RX2 yX2_become wsX2_become) := goodIn_app (goodIn_of _ (by decide +kernel)) ggX5_kindsThatFit_X2_become
set_option maxRecDepth 20000 in
theorem ggX5_kindsThatFit_X5_trialFits : GoodIn wsX5_kindsThatFit wsX5_trialFits := goodIn_r _ [24, 1, 25, 26, 27, 28, 29, 7, 30, 12, 31, 32, 11, 33, 34, 35, 36, 19, 18, 37, 38, 39, 40, 13, 41, 42, 43, 44, 9, 45, 46, 47, 48, 49, 50, 51, 52, 53, 54, 55, 56, 57, 58, 59, 60, 61, 62, 63, 64, 10, 65, 66, 67, 68, 72, 73, 74, 75, 76, 77, 78, 79, 80, 81, 82, 83, 84, 85, 86, 87, 88, 89, 90, 91, 92, 93, 94] (by decide +kernel) (by decide +kernel)
set_option maxRecDepth 20000 in
theorem gX5_kindsThatFit_X5_trialFits : GoodIn wsX5_kindsThatFit (wsV RX5 292 RX5 yX5_trialFits wsX5_trialFits) := goodIn_app (goodIn_of _ (by decide +kernel)) ggX5_kindsThatFit_X5_trialFits
set_option maxRecDepth 20000 in
theorem ggX5_kindsThatFit_X5_oneIf : GoodIn wsX5_kindsThatFit wsX5_oneIf := goodIn_r _ [71] (by decide +kernel) (by decide +kernel)
set_option maxRecDepth 20000 in
theorem gX5_kindsThatFit_X5_oneIf : GoodIn wsX5_kindsThatFit (va_wsS RX5 181 yX5_oneIf wsX5_oneIf) := goodIn_app (goodIn_of _ (by decide +kernel)) ggX5_kindsThatFit_X5_oneIf
set_option maxRecDepth 20000 in
theorem ggX5_lanesThatFit_X2_become : GoodIn wsX5_lanesThatFit wsX2_become := goodIn_r _ [8, 9, 10, 11, 12, 13, 14, 15, 16, 17, 18, 19, 83, 84, 85, 86, 87, 88, 89, 90] (by decide +kernel) (by decide +kernel)
set_option maxRecDepth 20000 in
theorem gX5_lanesThatFit_X2_become : GoodIn wsX5_lanesThatFit (wsV RX5 123 RX2 yX2_become wsX2_become) := goodIn_app (goodIn_of _ (by decide +kernel)) ggX5_lanesThatFit_X2_become
set_option maxRecDepth 20000 in
theorem ggX5_lanesThatFit_X5_trialFits : GoodIn wsX5_lanesThatFit wsX5_trialFits := goodIn_r _ [24, 1, 25, 26, 27, 28, 29, 7, 30, 12, 31, 32, 11, 33, 34, 35, 36, 19, 18, 37, 38, 39, 40, 13, 41, 42, 43, 44, 9, 45, 46, 47, 48, 49, 50, 51, 52, 53, 54, 55, 56, 57, 58, 59, 60, 61, 62, 63, 64, 10, 65, 66, 67, 68, 72, 73, 74, 75, 76, 77, 78, 79, 80, 81, 82, 83, 84, 85, 86, 87, 88, 89, 90, 91, 92, 93, 94] (by decide +kernel) (by decide +kernel)
set_option maxRecDepth 20000 in
theorem gX5_lanesThatFit_X5_trialFits : GoodIn wsX5_lanesThatFit (wsV RX5 292 RX5 yX5_trialFits wsX5_trialFits) := goodIn_app (goodIn_of _ (by decide +kernel)) ggX5_lanesThatFit_X5_trialFits
set_option maxRecDepth 20000 in
theorem ggX5_lanesThatFit_X5_oneIf : GoodIn wsX5_lanesThatFit wsX5_oneIf := goodIn_r _ [71] (by decide +kernel) (by decide +kernel)
set_option maxRecDepth 20000 in
theorem gX5_lanesThatFit_X5_oneIf : GoodIn wsX5_lanesThatFit (va_wsS RX5 181 yX5_oneIf wsX5_oneIf) := goodIn_app (goodIn_of _ (by decide +kernel)) ggX5_lanesThatFit_X5_oneIf
set_option maxRecDepth 20000 in
theorem ggX5_speedsThatFit_X2_become : GoodIn wsX5_speedsThatFit wsX2_become := goodIn_r _ [8, 9, 10, 11, 12, 13, 14, 15, 16, 17, 18, 19, 83, 84, 85, 86, 87, 88, 89, 90] (by decide +kernel) (by decide +kernel)
set_option maxRecDepth 20000 in
theorem gX5_speedsThatFit_X2_become : GoodIn wsX5_speedsThatFit (wsV RX5 123 RX2 yX2_become wsX2_become) := goodIn_app (goodIn_of _ (by decide +kernel)) ggX5_speedsThatFit_X2_become
set_option maxRecDepth 20000 in
theorem ggX5_speedsThatFit_X5_trialFits : GoodIn wsX5_speedsThatFit wsX5_trialFits := goodIn_r _ [24, 1, 25, 26, 27, 28, 29, 7, 30, 12, 31, 32, 11, 33, 34, 35, 36, 19, 18, 37, 38, 39, 40, 13, 41, 42, 43, 44, 9, 45, 46, 47, 48, 49, 50, 51, 52, 53, 54, 55, 56, 57, 58, 59, 60, 61, 62, 63, 64, 10, 65, 66, 67, 68, 72, 73, 74, 75, 76, 77, 78, 79, 80, 81, 82, 83, 84, 85, 86, 87, 88, 89, 90, 91, 92, 93, 94] (by decide +kernel) (by decide +kernel)
set_option maxRecDepth 20000 in
theorem gX5_speedsThatFit_X5_trialFits : GoodIn wsX5_speedsThatFit (wsV RX5 292 RX5 yX5_trialFits wsX5_trialFits) := goodIn_app (goodIn_of _ (by decide +kernel)) ggX5_speedsThatFit_X5_trialFits
set_option maxRecDepth 20000 in
theorem ggX5_speedsThatFit_X5_oneIf : GoodIn wsX5_speedsThatFit wsX5_oneIf := goodIn_r _ [71] (by decide +kernel) (by decide +kernel)
set_option maxRecDepth 20000 in
theorem gX5_speedsThatFit_X5_oneIf : GoodIn wsX5_speedsThatFit (va_wsS RX5 181 yX5_oneIf wsX5_oneIf) := goodIn_app (goodIn_of _ (by decide +kernel)) ggX5_speedsThatFit_X5_oneIf
set_option maxRecDepth 20000 in
theorem ggX5_startsThatFit_X2_isOn : GoodIn wsX5_startsThatFit wsX2_isOn := goodIn_r _ [9, 10, 11, 85, 86, 87, 88, 89, 90, 91, 92] (by decide +kernel) (by decide +kernel)
set_option maxRecDepth 20000 in
theorem gX5_startsThatFit_X2_isOn : GoodIn wsX5_startsThatFit (wsV RX5 185 RX2 yX2_isOn wsX2_isOn) := goodIn_app (goodIn_of _ (by decide +kernel)) ggX5_startsThatFit_X2_isOn
set_option maxRecDepth 20000 in
theorem ggX5_startsThatFit_X2_isFree : GoodIn wsX5_startsThatFit wsX2_isFree := goodIn_r _ [15, 16, 17, 10, 18, 85, 86, 87, 88, 89, 90, 91, 92] (by decide +kernel) (by decide +kernel)
set_option maxRecDepth 20000 in
theorem gX5_startsThatFit_X2_isFree : GoodIn wsX5_startsThatFit (wsV RX5 296 RX2 yX2_isFree wsX2_isFree) := goodIn_app (goodIn_of _ (by decide +kernel)) ggX5_startsThatFit_X2_isFree
set_option maxRecDepth 20000 in
theorem ggX5_startsThatFit_X2_become : GoodIn wsX5_startsThatFit wsX2_become := goodIn_r _ [22, 11, 23, 24, 17, 16, 25, 26, 27, 28, 18, 10, 85, 86, 87, 88, 89, 90, 91, 92] (by decide +kernel) (by decide +kernel)
set_option maxRecDepth 20000 in
theorem gX5_startsThatFit_X2_become : GoodIn wsX5_startsThatFit (wsV RX5 123 RX2 yX2_become wsX2_become) := goodIn_app (goodIn_of _ (by decide +kernel)) ggX5_startsThatFit_X2_become
set_option maxRecDepth 20000 in
theorem ggX5_startsThatFit_X5_trialFits : GoodIn wsX5_startsThatFit wsX5_trialFits := goodIn_r _ [33, 3, 4, 34, 35, 36, 37, 8, 38, 17, 39, 40, 24, 41, 42, 43, 44, 10, 18, 45, 46, 47, 48, 16, 49, 6, 7, 9, 11, 50, 51, 52, 53, 54, 55, 56, 57, 58, 59, 60, 61, 62, 13, 14, 15, 63, 64, 65, 66, 23, 67, 68, 69, 70, 74, 75, 76, 77, 78, 79, 80, 81, 82, 83, 84, 85, 86, 87, 88, 89, 90, 91, 92, 93, 94, 95, 96] (by decide +kernel) (by decide +kernel)
set_option maxRecDepth 20000 in
theorem gX5_startsThatFit_X5_trialFits : GoodIn wsX5_startsThatFit (wsV RX5 292 RX5 yX5_trialFits wsX5_trialFits) := goodIn_app (goodIn_of _ (by decide +kernel)) ggX5_startsThatFit_X5_trialFits
set_option maxRecDepth 20000 in
theorem ggX5_startsThatFit_X5_oneIf : GoodIn wsX5_startsThatFit wsX5_oneIf := goodIn_r _ [73] (by decide +kernel) (by decide +kernel)
set_option maxRecDepth 20000 in
theorem gX5_startsThatFit_X5_oneIf : GoodIn wsX5_startsThatFit (va_wsS RX5 181 yX5_oneIf wsX5_oneIf) := goodIn_app (goodIn_of _ (by decide +kernel)) ggX5_startsThatFit_X5_oneIf
set_option maxRecDepth 20000 in
theorem ggX5_trialFits_X2_pass : GoodIn wsX5_trialFits wsX2_pass := goodIn_r _ [8, 9, 10, 11, 12, 13, 14, 15, 7, 16, 17, 18, 19, 20, 21, 22, 23, 24, 25, 26, 27, 28, 29, 30, 31, 32, 33, 34, 35, 36, 37, 38, 39, 40, 41, 42, 43, 44, 45, 46, 47, 48, 49, 50, 51, 52, 53, 65, 66, 67, 68, 69, 70, 71, 72] (by decide +kernel) (by decide +kernel)
set_option maxRecDepth 20000 in
theorem gX5_trialFits_X2_pass : GoodIn wsX5_trialFits (wsV RX5 147 RX2 yX2_pass wsX2_pass) := goodIn_app (goodIn_of _ (by decide +kernel)) ggX5_trialFits_X2_pass
set_option maxRecDepth 20000 in
theorem ggX5_answerOf_X4_leave : GoodIn wsX5_answerOf wsX4_leave := goodIn_r _ [8, 9, 10, 28, 29] (by decide +kernel) (by decide +kernel)
set_option maxRecDepth 20000 in
theorem gX5_answerOf_X4_leave : GoodIn wsX5_answerOf (wsV RX5 305 RX4 yX4_leave wsX4_leave) := goodIn_app (goodIn_of _ (by decide +kernel)) ggX5_answerOf_X4_leave
set_option maxRecDepth 20000 in
theorem ggX5_answerOf_X5_answerOf : GoodIn wsX5_answerOf wsX5_answerOf := goodIn_r _ [0, 1, 2, 3, 4, 5, 6, 7, 8, 9, 10, 11, 12, 13, 14, 15, 16, 17, 18, 19, 20, 21, 22, 23, 24, 25, 26, 27, 28, 29] (by decide +kernel) (by decide +kernel)
set_option maxRecDepth 20000 in
theorem gX5_answerOf_X5_answerOf : GoodIn wsX5_answerOf (va_wsS RX5 267 yX5_answerOf wsX5_answerOf) := goodIn_app (goodIn_of _ (by decide +kernel)) ggX5_answerOf_X5_answerOf
set_option maxRecDepth 20000 in
theorem ggX5_answerOf_X5_bodyFor : GoodIn wsX5_answerOf wsX5_bodyFor := goodIn_r _ [16, 17, 18, 19] (by decide +kernel) (by decide +kernel)
set_option maxRecDepth 20000 in
theorem gX5_answerOf_X5_bodyFor : GoodIn wsX5_answerOf (va_wsS RX5 264 yX5_bodyFor wsX5_bodyFor) := goodIn_app (goodIn_of _ (by decide +kernel)) ggX5_answerOf_X5_bodyFor
set_option maxRecDepth 20000 in
theorem ggX6_isRow_X6_in : GoodIn wsX6_isRow wsX6_in := goodIn_r _ [4] (by decide +kernel) (by decide +kernel)
set_option maxRecDepth 20000 in
theorem gX6_isRow_X6_in : GoodIn wsX6_isRow (va_wsS RX6 50 yX6_in wsX6_in) := goodIn_app (goodIn_of _ (by decide +kernel)) ggX6_isRow_X6_in
set_option maxRecDepth 20000 in
theorem ggX6_ends_X6_in : GoodIn wsX6_ends wsX6_in := goodIn_r _ [8] (by decide +kernel) (by decide +kernel)
set_option maxRecDepth 20000 in
theorem gX6_ends_X6_in : GoodIn wsX6_ends (va_wsS RX6 50 yX6_in wsX6_in) := goodIn_app (goodIn_of _ (by decide +kernel)) ggX6_ends_X6_in
set_option maxRecDepth 20000 in
theorem ggX6_row_X6_isRow : GoodIn wsX6_row wsX6_isRow := goodIn_r _ [9, 10, 11, 8, 12] (by decide +kernel) (by decide +kernel)
set_option maxRecDepth 20000 in
theorem gX6_row_X6_isRow : GoodIn wsX6_row (va_wsS RX6 61 yX6_isRow wsX6_isRow) := goodIn_app (goodIn_of _ (by decide +kernel)) ggX6_row_X6_isRow
set_option maxRecDepth 20000 in
theorem ggX6_row_X6_in : GoodIn wsX6_row wsX6_in := goodIn_r _ [12] (by decide +kernel) (by decide +kernel)
set_option maxRecDepth 20000 in
theorem gX6_row_X6_in : GoodIn wsX6_row (va_wsS RX6 50 yX6_in wsX6_in) := goodIn_app (goodIn_of _ (by decide +kernel)) ggX6_row_X6_in
set_option maxRecDepth 20000 in
theorem ggX6_row_X6_ends : GoodIn wsX6_row wsX6_ends := goodIn_r _ [16, 17, 18, 19, 20, 10, 11, 8, 12, 21, 22, 23, 24, 25, 26, 27, 28, 29, 30, 31, 32, 33, 34, 35, 36, 37, 38, 39, 40] (by decide +kernel) (by decide +kernel)
set_option maxRecDepth 20000 in
theorem gX6_row_X6_ends : GoodIn wsX6_row (wsV RX6 67 RX6 yX6_ends wsX6_ends) := goodIn_app (goodIn_of _ (by decide +kernel)) ggX6_row_X6_ends
set_option maxRecDepth 20000 in
theorem ggX6_set_X6_isRow : GoodIn wsX6_set wsX6_isRow := goodIn_r _ [11, 12, 13, 10, 14] (by decide +kernel) (by decide +kernel)
set_option maxRecDepth 20000 in
theorem gX6_set_X6_isRow : GoodIn wsX6_set (va_wsS RX6 61 yX6_isRow wsX6_isRow) := goodIn_app (goodIn_of _ (by decide +kernel)) ggX6_set_X6_isRow
set_option maxRecDepth 20000 in
theorem ggX6_set_X6_ends : GoodIn wsX6_set wsX6_ends := goodIn_r _ [18, 19, 3, 20, 7, 12, 13, 10, 14, 28, 29, 30, 31, 32, 33, 34, 35, 36, 37, 38, 39, 40, 41, 42, 43, 44, 45, 46, 47] (by decide +kernel) (by decide +kernel)
set_option maxRecDepth 20000 in
theorem gX6_set_X6_ends : GoodIn wsX6_set (wsV RX6 67 RX6 yX6_ends wsX6_ends) := goodIn_app (goodIn_of _ (by decide +kernel)) ggX6_set_X6_ends
set_option maxRecDepth 20000 in
theorem ggX6_set_X6_lies : GoodIn wsX6_set wsX6_lies := goodIn_r _ [24, 2, 28, 29, 30, 31, 32, 33, 34, 35, 36, 37, 38, 39, 40, 41, 42, 43, 44, 45, 46, 47] (by decide +kernel) (by decide +kernel)
set_option maxRecDepth 20000 in
theorem gX6_set_X6_lies : GoodIn wsX6_set (wsV RX6 71 RX6 yX6_lies wsX6_lies) := goodIn_app (goodIn_of _ (by decide +kernel)) ggX6_set_X6_lies
set_option maxRecDepth 20000 in
theorem ggX6_set_X6_cut : GoodIn wsX6_set wsX6_cut := goodIn_r _ [27] (by decide +kernel) (by decide +kernel)
set_option maxRecDepth 20000 in
theorem gX6_set_X6_cut : GoodIn wsX6_set (va_wsS RX6 75 yX6_cut wsX6_cut) := goodIn_app (goodIn_of _ (by decide +kernel)) ggX6_set_X6_cut
set_option maxRecDepth 20000 in
theorem ggX6_copy_X6_isRow : GoodIn wsX6_copy wsX6_isRow := goodIn_r _ [12, 13, 14, 11, 15] (by decide +kernel) (by decide +kernel)
set_option maxRecDepth 20000 in
theorem gX6_copy_X6_isRow : GoodIn wsX6_copy (va_wsS RX6 61 yX6_isRow wsX6_isRow) := goodIn_app (goodIn_of _ (by decide +kernel)) ggX6_copy_X6_isRow
set_option maxRecDepth 20000 in
theorem ggX6_copy_X6_ends : GoodIn wsX6_copy wsX6_ends := goodIn_r _ [19, 5, 3, 20, 21, 13, 14, 11, 15, 26, 27, 28, 29, 30, 31, 32, 33, 34, 35, 36, 37, 38, 39, 40, 41, 42, 43, 44, 45] (by decide +kernel) (by decide +kernel)
set_option maxRecDepth 20000 in
theorem gX6_copy_X6_ends : GoodIn wsX6_copy (wsV RX6 67 RX6 yX6_ends wsX6_ends) := goodIn_app (goodIn_of _ (by decide +kernel)) ggX6_copy_X6_ends
set_option maxRecDepth 20000 in
theorem ggX6_copy_X6_lies : GoodIn wsX6_copy wsX6_lies := goodIn_r _ [25, 2, 26, 27, 28, 29, 30, 31, 32, 33, 34, 35, 36, 37, 38, 39, 40, 41, 42, 43, 44, 45] (by decide +kernel) (by decide +kernel)
set_option maxRecDepth 20000 in
theorem gX6_copy_X6_lies : GoodIn wsX6_copy (wsV RX6 71 RX6 yX6_lies wsX6_lies) := goodIn_app (goodIn_of _ (by decide +kernel)) ggX6_copy_X6_lies
set_option maxRecDepth 20000 in
theorem ggX6_drop_X6_isRow : GoodIn wsX6_drop wsX6_isRow := goodIn_r _ [7, 8, 9, 6, 10] (by decide +kernel) (by decide +kernel)
set_option maxRecDepth 20000 in
theorem gX6_drop_X6_isRow : GoodIn wsX6_drop (va_wsS RX6 61 yX6_isRow wsX6_isRow) := goodIn_app (goodIn_of _ (by decide +kernel)) ggX6_drop_X6_isRow
set_option maxRecDepth 20000 in
theorem ggX6_drop_X6_ends : GoodIn wsX6_drop wsX6_ends := goodIn_r _ [14, 15, 3, 16, 17, 8, 9, 6, 10, 18, 19, 20, 21, 22, 23, 24, 25, 26, 27, 28, 29, 30, 31, 32, 33, 34, 35, 36, 37] (by decide +kernel) (by decide +kernel)
set_option maxRecDepth 20000 in
theorem gX6_drop_X6_ends : GoodIn wsX6_drop (wsV RX6 67 RX6 yX6_ends wsX6_ends) := goodIn_app (goodIn_of _ (by decide +kernel)) ggX6_drop_X6_ends
set_option maxRecDepth 20000 in
theorem ggX6_feed_X6_in : GoodIn wsX6_feed wsX6_in := goodIn_r _ [8] (by decide +kernel) (by decide +kernel)
set_option maxRecDepth 20000 in
theorem gX6_feed_X6_in : GoodIn wsX6_feed (va_wsS RX6 50 yX6_in wsX6_in) := goodIn_app (goodIn_of _ (by decide +kernel)) ggX6_feed_X6_in
set_option maxRecDepth 20000 in
theorem ggX6_isDigit_X6_in : GoodIn wsX6_isDigit wsX6_in := goodIn_r _ [4] (by decide +kernel) (by decide +kernel)
set_option maxRecDepth 20000 in
theorem gX6_isDigit_X6_in : GoodIn wsX6_isDigit (va_wsS RX6 50 yX6_in wsX6_in) := goodIn_app (goodIn_of _ (by decide +kernel)) ggX6_isDigit_X6_in
set_option maxRecDepth 20000 in
theorem ggX6_sign_X6_letterAt : GoodIn wsX6_sign wsX6_letterAt := goodIn_r _ [6, 7, 8, 14, 15, 16, 17, 18, 19, 20, 21, 22, 23, 24, 25, 26, 27, 28, 29, 30, 31, 32, 33] (by decide +kernel) (by decide +kernel)
set_option maxRecDepth 20000 in
theorem gX6_sign_X6_letterAt : GoodIn wsX6_sign (wsV RX6 89 RX6 yX6_letterAt wsX6_letterAt) := goodIn_app (goodIn_of _ (by decide +kernel)) ggX6_sign_X6_letterAt
set_option maxRecDepth 20000 in
theorem ggX6_sign_X6_fails : GoodIn wsX6_sign wsX6_fails := goodIn_r _ [12, 13, 14, 15, 16, 17, 18, 19, 20, 21, 22, 23, 24, 25, 26, 27, 28, 29, 30, 31, 32, 33] (by decide +kernel) (by decide +kernel)
set_option maxRecDepth 20000 in
theorem gX6_sign_X6_fails : GoodIn wsX6_sign (wsV RX6 92 RX6 yX6_fails wsX6_fails) := goodIn_app (goodIn_of _ (by decide +kernel)) ggX6_sign_X6_fails
set_option maxRecDepth 20000 in
theorem ggX6_number_X6_letterAt : GoodIn wsX6_number wsX6_letterAt := goodIn_r _ [8, 9, 2, 21, 22, 23, 24, 25, 26, 27, 28, 29, 30, 31, 32, 33, 34, 35, 36, 37, 38, 39, 40] (by decide +kernel) (by decide +kernel)
set_option maxRecDepth 20000 in
theorem gX6_number_X6_letterAt : GoodIn wsX6_number (wsV RX6 89 RX6 yX6_letterAt wsX6_letterAt) := goodIn_app (goodIn_of _ (by decide +kernel)) ggX6_number_X6_letterAt
set_option maxRecDepth 20000 in
theorem ggX6_number_X6_isDigit : GoodIn wsX6_number wsX6_isDigit := goodIn_r _ [12, 13, 14, 7, 15] (by decide +kernel) (by decide +kernel)
set_option maxRecDepth 20000 in
theorem gX6_number_X6_isDigit : GoodIn wsX6_number (va_wsS RX6 95 yX6_isDigit wsX6_isDigit) := goodIn_app (goodIn_of _ (by decide +kernel)) ggX6_number_X6_isDigit
set_option maxRecDepth 20000 in
theorem ggX6_number_X6_fails : GoodIn wsX6_number wsX6_fails := goodIn_r _ [19, 20, 21, 22, 23, 24, 25, 26, 27, 28, 29, 30, 31, 32, 33, 34, 35, 36, 37, 38, 39, 40] (by decide +kernel) (by decide +kernel)
set_option maxRecDepth 20000 in
theorem gX6_number_X6_fails : GoodIn wsX6_number (wsV RX6 92 RX6 yX6_fails wsX6_fails) := goodIn_app (goodIn_of _ (by decide +kernel)) ggX6_number_X6_fails
set_option maxRecDepth 20000 in
theorem ggX6_number_X6_in : GoodIn wsX6_number wsX6_in := goodIn_r _ [15] (by decide +kernel) (by decide +kernel)
set_option maxRecDepth 20000 in
theorem gX6_number_X6_in : GoodIn wsX6_number (va_wsS RX6 50 yX6_in wsX6_in) := goodIn_app (goodIn_of _ (by decide +kernel)) ggX6_number_X6_in
set_option maxRecDepth 20000 in
theorem ggX6_reads_X6_sign : GoodIn wsX6_reads wsX6_sign := goodIn_r _ [8, 1, 9, 10, 11, 7, 12, 2, 13, 14, 15, 16, 17, 18, 32, 33, 34, 35, 36, 37, 38, 39, 40, 41, 42, 43, 44, 45, 46, 47, 48, 49, 50, 51] (by decide +kernel) (by decide +kernel)
set_option maxRecDepth 20000 in
theorem gX6_reads_X6_sign : GoodIn wsX6_reads (wsV RX6 98 RX6 yX6_sign wsX6_sign) := goodIn_app (goodIn_of _ (by decide +kernel)) ggX6_reads_X6_sign
set_option maxRecDepth 20000 in
theorem ggX6_reads_X6_number : GoodIn wsX6_reads wsX6_number := goodIn_r _ [22, 1, 13, 3, 9, 10, 11, 7, 12, 2, 23, 24, 25, 26, 27, 28, 14, 15, 16, 17, 18, 32, 33, 34, 35, 36, 37, 38, 39, 40, 41, 42, 43, 44, 45, 46, 47, 48, 49, 50, 51] (by decide +kernel) (by decide +kernel)
set_option maxRecDepth 20000 in
theorem gX6_reads_X6_number : GoodIn wsX6_reads (wsV RX6 101 RX6 yX6_number wsX6_number) := goodIn_app (goodIn_of _ (by decide +kernel)) ggX6_reads_X6_number
set_option maxRecDepth 20000 in
theorem ggX6_reads_X6_letterAt : GoodIn wsX6_reads wsX6_letterAt := goodIn_r _ [12, 2, 13, 32, 33, 34, 35, 36, 37, 38, 39, 40, 41, 42, 43, 44, 45, 46, 47, 48, 49, 50, 51] (by decide +kernel) (by decide +kernel)
set_option maxRecDepth 20000 in
theorem gX6_reads_X6_letterAt : GoodIn wsX6_reads (wsV RX6 89 RX6 yX6_letterAt wsX6_letterAt) := goodIn_app (goodIn_of _ (by decide +kernel)) ggX6_reads_X6_letterAt
set_option maxRecDepth 20000 in
theorem ggX6_reads_X6_kindBy : GoodIn wsX6_reads wsX6_kindBy := goodIn_r _ [31] (by decide +kernel) (by decide +kernel)
set_option maxRecDepth 20000 in
theorem gX6_reads_X6_kindBy : GoodIn wsX6_reads (va_wsS RX6 104 yX6_kindBy wsX6_kindBy) := goodIn_app (goodIn_of _ (by decide +kernel)) ggX6_reads_X6_kindBy
set_option maxRecDepth 20000 in
theorem ggX6_reads_X6_fails : GoodIn wsX6_reads wsX6_fails := goodIn_r _ [17, 18, 32, 33, 34, 35, 36, 37, 38, 39, 40, 41, 42, 43, 44, 45, 46, 47, 48, 49, 50, 51] (by decide +kernel) (by decide +kernel)
set_option maxRecDepth 20000 in
theorem gX6_reads_X6_fails : GoodIn wsX6_reads (wsV RX6 92 RX6 yX6_fails wsX6_fails) := goodIn_app (goodIn_of _ (by decide +kernel)) ggX6_reads_X6_fails
set_option maxRecDepth 20000 in
theorem ggX6_stair_X6_reads : GoodIn wsX6_stair wsX6_reads := goodIn_r _ [13, 6, 2, 1, 14, 15, 16, 12, 17, 18, 19, 20, 21, 22, 23, 24, 25, 26, 3, 27, 28, 29, 30, 31, 32, 33, 34, 35, 36, 37, 38, 39, 40, 41, 42, 43, 44, 45, 46, 47, 48, 49, 50, 51, 52, 53, 54, 55, 56, 57, 58, 59] (by decide +kernel) (by decide +kernel)
set_option maxRecDepth 20000 in
theorem gX6_stair_X6_reads : GoodIn wsX6_stair (wsV RX6 107 RX6 yX6_reads wsX6_reads) := goodIn_app (goodIn_of _ (by decide +kernel)) ggX6_stair_X6_reads
set_option maxRecDepth 20000 in
theorem ggX6_isRider_X6_in : GoodIn wsX6_isRider wsX6_in := goodIn_r _ [5] (by decide +kernel) (by decide +kernel)
set_option maxRecDepth 20000 in
theorem gX6_isRider_X6_in : GoodIn wsX6_isRider (va_wsS RX6 50 yX6_in wsX6_in) := goodIn_app (goodIn_of _ (by decide +kernel)) ggX6_isRider_X6_in
set_option maxRecDepth 20000 in
theorem ggX6_goes_X6_in : GoodIn wsX6_goes wsX6_in := goodIn_r _ [4] (by decide +kernel) (by decide +kernel)
set_option maxRecDepth 20000 in
theorem gX6_goes_X6_in : GoodIn wsX6_goes (va_wsS RX6 50 yX6_in wsX6_in) := goodIn_app (goodIn_of _ (by decide +kernel)) ggX6_goes_X6_in
set_option maxRecDepth 20000 in
theorem ggX6_goes_X6_isFree : GoodIn wsX6_goes wsX6_isFree := goodIn_r _ [7] (by decide +kernel) (by decide +kernel)
set_option maxRecDepth 20000 in
theorem gX6_goes_X6_isFree : GoodIn wsX6_goes (va_wsS RX6 118 yX6_isFree wsX6_isFree) := goodIn_app (goodIn_of _ (by decide +kernel)) ggX6_goes_X6_isFree
set_option maxRecDepth 20000 in
theorem ggX6_moves_X6_goes : GoodIn wsX6_moves wsX6_goes := goodIn_r _ [4, 5, 6, 3, 7, 8, 9, 10] (by decide +kernel) (by decide +kernel)
set_option maxRecDepth 20000 in
theorem gX6_moves_X6_goes : GoodIn wsX6_moves (va_wsS RX6 122 yX6_goes wsX6_goes) := goodIn_app (goodIn_of _ (by decide +kernel)) ggX6_moves_X6_goes
set_option maxRecDepth 20000 in
theorem ggX6_tick_X6_moves : GoodIn wsX6_tick wsX6_moves := goodIn_r _ [5, 6, 7, 4, 8, 9, 10, 11, 12, 13, 14] (by decide +kernel) (by decide +kernel)
set_option maxRecDepth 20000 in
theorem gX6_tick_X6_moves : GoodIn wsX6_tick (va_wsS RX6 126 yX6_moves wsX6_moves) := goodIn_app (goodIn_of _ (by decide +kernel)) ggX6_tick_X6_moves
set_option maxRecDepth 20000 in
theorem ggX6_tick_X6_isOn : GoodIn wsX6_tick wsX6_isOn := goodIn_r _ [17] (by decide +kernel) (by decide +kernel)
set_option maxRecDepth 20000 in
theorem gX6_tick_X6_isOn : GoodIn wsX6_tick (va_wsS RX6 130 yX6_isOn wsX6_isOn) := goodIn_app (goodIn_of _ (by decide +kernel)) ggX6_tick_X6_isOn
set_option maxRecDepth 20000 in
theorem ggX6_tick_X6_isFree : GoodIn wsX6_tick wsX6_isFree := goodIn_r _ [14] (by decide +kernel) (by decide +kernel)
set_option maxRecDepth 20000 in
theorem gX6_tick_X6_isFree : GoodIn wsX6_tick (va_wsS RX6 118 yX6_isFree wsX6_isFree) := goodIn_app (goodIn_of _ (by decide +kernel)) ggX6_tick_X6_isFree
set_option maxRecDepth 20000 in
theorem ggX6_ticks_X6_isStair : GoodIn wsX6_ticks wsX6_isStair := goodIn_r _ [9, 3, 39, 40, 41, 42, 43, 44, 45, 46, 47, 48, 49, 50, 51, 52, 53, 54, 55, 56, 57, 58] (by decide +kernel) (by decide +kernel)
set_option maxRecDepth 20000 in
theorem gX6_ticks_X6_isStair : GoodIn wsX6_ticks (wsV RX6 133 RX6 yX6_isStair wsX6_isStair) := goodIn_app (goodIn_of _ (by decide +kernel)) ggX6_ticks_X6_isStair
set_option maxRecDepth 20000 in
theorem ggX6_ticks_X6_in : GoodIn wsX6_ticks wsX6_in := goodIn_r _ [12] (by decide +kernel) (by decide +kernel)
set_option maxRecDepth 20000 in
theorem gX6_ticks_X6_in : GoodIn wsX6_ticks (va_wsS RX6 50 yX6_in wsX6_in) := goodIn_app (goodIn_of _ (by decide +kernel)) ggX6_ticks_X6_in
set_option maxRecDepth 20000 in
theorem ggX6_ticks_X6_keeps : GoodIn wsX6_ticks wsX6_keeps := goodIn_r _ [16, 17, 18, 3, 39, 40, 41, 42, 43, 44, 45, 46, 47, 48, 49, 50, 51, 52, 53, 54, 55, 56, 57, 58] (by decide +kernel) (by decide +kernel)
set_option maxRecDepth 20000 in
theorem gX6_ticks_X6_keeps : GoodIn wsX6_ticks (wsV RX6 137 RX6 yX6_keeps wsX6_keeps) := goodIn_app (goodIn_of _ (by decide +kernel)) ggX6_ticks_X6_keeps
set_option maxRecDepth 20000 in
theorem ggX6_ticks_X6_tick : GoodIn wsX6_ticks wsX6_tick := goodIn_r _ [22, 23, 24, 25, 8, 26, 27, 28, 29, 10, 11, 12, 30, 31, 32, 33, 34, 35, 39, 40, 41, 42, 43, 44, 45, 46, 47, 48, 49, 50, 51, 52, 53, 54, 55, 56, 57, 58] (by decide +kernel) (by decide +kernel)
set_option maxRecDepth 20000 in
theorem gX6_ticks_X6_tick : GoodIn wsX6_ticks (wsV RX6 140 RX6 yX6_tick wsX6_tick) := goodIn_app (goodIn_of _ (by decide +kernel)) ggX6_ticks_X6_tick
set_option maxRecDepth 20000 in
theorem ggX6_ticks_X6_offIn : GoodIn wsX6_ticks wsX6_offIn := goodIn_r _ [38] (by decide +kernel) (by decide +kernel)
set_option maxRecDepth 20000 in
theorem gX6_ticks_X6_offIn : GoodIn wsX6_ticks (va_wsS RX6 144 yX6_offIn wsX6_offIn) := goodIn_app (goodIn_of _ (by decide +kernel)) ggX6_ticks_X6_offIn
set_option maxRecDepth 20000 in
theorem ggX6_speed_X6_isStair : GoodIn wsX6_speed wsX6_isStair := goodIn_r _ [8, 3, 18, 19, 20, 21, 22, 23, 24, 25, 26, 27, 28, 29, 30, 31, 32, 33, 34, 35, 36, 37] (by decide +kernel) (by decide +kernel)
set_option maxRecDepth 20000 in
theorem gX6_speed_X6_isStair : GoodIn wsX6_speed (wsV RX6 133 RX6 yX6_isStair wsX6_isStair) := goodIn_app (goodIn_of _ (by decide +kernel)) ggX6_speed_X6_isStair
set_option maxRecDepth 20000 in
theorem ggX6_speed_X6_in : GoodIn wsX6_speed wsX6_in := goodIn_r _ [11] (by decide +kernel) (by decide +kernel)
set_option maxRecDepth 20000 in
theorem gX6_speed_X6_in : GoodIn wsX6_speed (va_wsS RX6 50 yX6_in wsX6_in) := goodIn_app (goodIn_of _ (by decide +kernel)) ggX6_speed_X6_in
set_option maxRecDepth 20000 in
theorem ggX6_speed_X6_keeps : GoodIn wsX6_speed wsX6_keeps := goodIn_r _ [15, 16, 17, 3, 18, 19, 20, 21, 22, 23, 24, 25, 26, 27, 28, 29, 30, 31, 32, 33, 34, 35, 36, 37] (by decide +kernel) (by decide +kernel)
set_option maxRecDepth 20000 in
theorem gX6_speed_X6_keeps : GoodIn wsX6_speed (wsV RX6 137 RX6 yX6_keeps wsX6_keeps) := goodIn_app (goodIn_of _ (by decide +kernel)) ggX6_speed_X6_keeps
set_option maxRecDepth 20000 in
theorem ggX6_cross_X6_isRider : GoodIn wsX6_cross wsX6_isRider := goodIn_r _ [8, 2, 9, 10, 7, 11, 24, 25, 26, 27, 28, 29, 30, 31, 32, 33, 34, 35, 36, 37, 38, 39, 40, 41, 42, 43] (by decide +kernel) (by decide +kernel)
set_option maxRecDepth 20000 in
theorem gX6_cross_X6_isRider : GoodIn wsX6_cross (wsV RX6 148 RX6 yX6_isRider wsX6_isRider) := goodIn_app (goodIn_of _ (by decide +kernel)) ggX6_cross_X6_isRider
set_option maxRecDepth 20000 in
theorem ggX6_cross_X6_isOn : GoodIn wsX6_cross wsX6_isOn := goodIn_r _ [14] (by decide +kernel) (by decide +kernel)
set_option maxRecDepth 20000 in
theorem gX6_cross_X6_isOn : GoodIn wsX6_cross (va_wsS RX6 130 yX6_isOn wsX6_isOn) := goodIn_app (goodIn_of _ (by decide +kernel)) ggX6_cross_X6_isOn
set_option maxRecDepth 20000 in
theorem ggX6_cross_X6_isFree : GoodIn wsX6_cross wsX6_isFree := goodIn_r _ [17] (by decide +kernel) (by decide +kernel)
set_option maxRecDepth 20000 in
theorem gX6_cross_X6_isFree : GoodIn wsX6_cross (va_wsS RX6 118 yX6_isFree wsX6_isFree) := goodIn_app (goodIn_of _ (by decide +kernel)) ggX6_cross_X6_isFree
set_option maxRecDepth 20000 in
theorem ggX6_cross_X6_keeps : GoodIn wsX6_cross wsX6_keeps := goodIn_r _ [21, 22, 23, 2, 24, 25, 26, 27, 28, 29, 30, 31, 32, 33, 34, 35, 36, 37, 38, 39, 40, 41, 42, 43] (by decide +kernel) (by decide +kernel)
set_option maxRecDepth 20000 in
theorem gX6_cross_X6_keeps : GoodIn wsX6_cross (wsV RX6 137 RX6 yX6_keeps wsX6_keeps) := goodIn_app (goodIn_of _ (by decide +kernel)) ggX6_cross_X6_keeps
set_option maxRecDepth 20000 in
theorem ggX6_take_X6_isRider : GoodIn wsX6_take wsX6_isRider := goodIn_r _ [8, 2, 9, 10, 7, 11, 18, 19, 20, 21, 22, 23, 24, 25, 26, 27, 28, 29, 30, 31, 32, 33, 34, 35, 36, 37] (by decide +kernel) (by decide +kernel)
set_option maxRecDepth 20000 in
theorem gX6_take_X6_isRider : GoodIn wsX6_take (wsV RX6 148 RX6 yX6_isRider wsX6_isRider) := goodIn_app (goodIn_of _ (by decide +kernel)) ggX6_take_X6_isRider
set_option maxRecDepth 20000 in
theorem ggX6_take_X6_keeps : GoodIn wsX6_take wsX6_keeps := goodIn_r _ [15, 16, 17, 2, 18, 19, 20, 21, 22, 23, 24, 25, 26, 27, 28, 29, 30, 31, 32, 33, 34, 35, 36, 37] (by decide +kernel) (by decide +kernel)
set_option maxRecDepth 20000 in
theorem gX6_take_X6_keeps : GoodIn wsX6_take (wsV RX6 137 RX6 yX6_keeps wsX6_keeps) := goodIn_app (goodIn_of _ (by decide +kernel)) ggX6_take_X6_keeps
set_option maxRecDepth 20000 in
theorem ggX6_again_X6_isRider : GoodIn wsX6_again wsX6_isRider := goodIn_r _ [8, 2, 9, 10, 7, 11, 21, 22, 23, 24, 25, 26, 27, 28, 29, 30, 31, 32, 33, 34, 35, 36, 37, 38, 39, 40] (by decide +kernel) (by decide +kernel)
set_option maxRecDepth 20000 in
theorem gX6_again_X6_isRider : GoodIn wsX6_again (wsV RX6 148 RX6 yX6_isRider wsX6_isRider) := goodIn_app (goodIn_of _ (by decide +kernel)) ggX6_again_X6_isRider
set_option maxRecDepth 20000 in
theorem ggX6_again_X6_in : GoodIn wsX6_again wsX6_in := goodIn_r _ [11] (by decide +kernel) (by decide +kernel)
set_option maxRecDepth 20000 in
theorem gX6_again_X6_in : GoodIn wsX6_again (va_wsS RX6 50 yX6_in wsX6_in) := goodIn_app (goodIn_of _ (by decide +kernel)) ggX6_again_X6_in
set_option maxRecDepth 20000 in
theorem ggX6_again_X6_keeps : GoodIn wsX6_again wsX6_keeps := goodIn_r _ [15, 16, 17, 2, 21, 22, 23, 24, 25, 26, 27, 28, 29, 30, 31, 32, 33, 34, 35, 36, 37, 38, 39, 40] (by decide +kernel) (by decide +kernel)
set_option maxRecDepth 20000 in
theorem gX6_again_X6_keeps : GoodIn wsX6_again (wsV RX6 137 RX6 yX6_keeps wsX6_keeps) := goodIn_app (goodIn_of _ (by decide +kernel)) ggX6_again_X6_keeps
set_option maxRecDepth 20000 in
theorem ggX6_again_X6_offIn : GoodIn wsX6_again wsX6_offIn := goodIn_r _ [20] (by decide +kernel) (by decide +kernel)
set_option maxRecDepth 20000 in
theorem gX6_again_X6_offIn : GoodIn wsX6_again (va_wsS RX6 144 yX6_offIn wsX6_offIn) := goodIn_app (goodIn_of _ (by decide +kernel)) ggX6_again_X6_offIn
set_option maxRecDepth 20000 in
theorem ggX6_rider_X6_isRider : GoodIn wsX6_rider wsX6_isRider := goodIn_r _ [7, 2, 8, 9, 6, 10, 17, 18, 19, 20, 21, 22, 23, 24, 25, 26, 27, 28, 29, 30, 31, 32, 33, 34, 35, 36] (by decide +kernel) (by decide +kernel)
set_option maxRecDepth 20000 in
theorem gX6_rider_X6_isRider : GoodIn wsX6_rider (wsV RX6 148 RX6 yX6_isRider wsX6_isRider) := goodIn_app (goodIn_of _ (by decide +kernel)) ggX6_rider_X6_isRider
set_option maxRecDepth 20000 in
theorem ggX6_rider_X6_isOn : GoodIn wsX6_rider wsX6_isOn := goodIn_r _ [13] (by decide +kernel) (by decide +kernel)
set_option maxRecDepth 20000 in
theorem gX6_rider_X6_isOn : GoodIn wsX6_rider (va_wsS RX6 130 yX6_isOn wsX6_isOn) := goodIn_app (goodIn_of _ (by decide +kernel)) ggX6_rider_X6_isOn
set_option maxRecDepth 20000 in
theorem ggX6_rider_X6_isFree : GoodIn wsX6_rider wsX6_isFree := goodIn_r _ [16] (by decide +kernel) (by decide +kernel)
set_option maxRecDepth 20000 in
theorem gX6_rider_X6_isFree : GoodIn wsX6_rider (va_wsS RX6 118 yX6_isFree wsX6_isFree) := goodIn_app (goodIn_of _ (by decide +kernel)) ggX6_rider_X6_isFree
set_option maxRecDepth 20000 in
theorem ggX6_step_X6_in : GoodIn wsX6_step wsX6_in := goodIn_r _ [6] (by decide +kernel) (by decide +kernel)
set_option maxRecDepth 20000 in
theorem gX6_step_X6_in : GoodIn wsX6_step (va_wsS RX6 50 yX6_in wsX6_in) := goodIn_app (goodIn_of _ (by decide +kernel)) ggX6_step_X6_in
set_option maxRecDepth 20000 in
theorem ggX6_ahead_X6_isRider : GoodIn wsX6_ahead wsX6_isRider := goodIn_r _ [7, 8, 9, 10, 6, 11, 33, 34, 35, 36, 37, 38, 39, 40, 41, 42, 43, 44, 45, 46, 47, 48, 49, 50, 51, 52] (by decide +kernel) (by decide +kernel)
set_option maxRecDepth 20000 in
theorem gX6_ahead_X6_isRider : GoodIn wsX6_ahead (wsV RX6 148 RX6 yX6_isRider wsX6_isRider) := goodIn_app (goodIn_of _ (by decide +kernel)) ggX6_ahead_X6_isRider
set_option maxRecDepth 20000 in
theorem ggX6_ahead_X6_in : GoodIn wsX6_ahead wsX6_in := goodIn_r _ [11] (by decide +kernel) (by decide +kernel)
set_option maxRecDepth 20000 in
theorem gX6_ahead_X6_in : GoodIn wsX6_ahead (va_wsS RX6 50 yX6_in wsX6_in) := goodIn_app (goodIn_of _ (by decide +kernel)) ggX6_ahead_X6_in
end
section
set_option maxRecDepth 20000 in
theorem ggX6_ahead_X6_starts : GoodIn wsX6_ahead wsX6_starts := goodIn_r _ [15, 2, 8, 33, 34, 35, 36, 37, 38, 39, 40, 41, 42, 43, 44, 45, 46, 47, 48, 49, 50, 51, 52] (by decide +kernel) (by decide +kernel)
set_option maxRecDepth 20000 in
theorem gX6_ahead_X6_starts : GoodIn wsX6_ahead (wsV RX6 151 RX6 yX6_starts wsX6_starts) := goodIn_app (goodIn_of _ (by decide +kernel)) ggX6_ahead_X6_starts
set_option maxRecDepth 20000 in
theorem ggX6_ahead_X6_tick : GoodIn wsX6_ahead wsX6_tick := goodIn_r _ [19, 20, 21, 22, 6, 23, 24, 25, 26, 9, 10, 11, 27, 28, 29, 30, 31, 32, 33, 34, 35, 36, 37, 38, 39, 40, 41, 42, 43, 44, 45, 46, 47, 48, 49, 50, 51, 52] (by decide +kernel) (by decide +kernel)
set_option maxRecDepth 20000 in
theorem gX6_ahead_X6_tick : GoodIn wsX6_ahead (wsV RX6 140 RX6 yX6_tick wsX6_tick) := goodIn_app (goodIn_of _ (by decide +kernel)) ggX6_ahead_X6_tick
set_option maxRecDepth 20000 in
theorem ggX6_later_X6_isStair : GoodIn wsX6_later wsX6_isStair := goodIn_r _ [9, 4, 37, 38, 39, 40, 41, 42, 43, 44, 45, 46, 47, 48, 49, 50, 51, 52, 53, 54, 55, 56] (by decide +kernel) (by decide +kernel)
set_option maxRecDepth 20000 in
theorem gX6_later_X6_isStair : GoodIn wsX6_later (wsV RX6 133 RX6 yX6_isStair wsX6_isStair) := goodIn_app (goodIn_of _ (by decide +kernel)) ggX6_later_X6_isStair
set_option maxRecDepth 20000 in
theorem ggX6_later_X6_in : GoodIn wsX6_later wsX6_in := goodIn_r _ [12] (by decide +kernel) (by decide +kernel)
set_option maxRecDepth 20000 in
theorem gX6_later_X6_in : GoodIn wsX6_later (va_wsS RX6 50 yX6_in wsX6_in) := goodIn_app (goodIn_of _ (by decide +kernel)) ggX6_later_X6_in
set_option maxRecDepth 20000 in
theorem ggX6_later_X6_starts : GoodIn wsX6_later wsX6_starts := goodIn_r _ [16, 3, 4, 37, 38, 39, 40, 41, 42, 43, 44, 45, 46, 47, 48, 49, 50, 51, 52, 53, 54, 55, 56] (by decide +kernel) (by decide +kernel)
set_option maxRecDepth 20000 in
theorem gX6_later_X6_starts : GoodIn wsX6_later (wsV RX6 151 RX6 yX6_starts wsX6_starts) := goodIn_app (goodIn_of _ (by decide +kernel)) ggX6_later_X6_starts
set_option maxRecDepth 20000 in
theorem ggX6_later_X6_tick : GoodIn wsX6_later wsX6_tick := goodIn_r _ [20, 21, 22, 23, 8, 24, 25, 26, 27, 10, 11, 12, 28, 29, 30, 31, 32, 33, 37, 38, 39, 40, 41, 42, 43, 44, 45, 46, 47, 48, 49, 50, 51, 52, 53, 54, 55, 56] (by decide +kernel) (by decide +kernel)
set_option maxRecDepth 20000 in
theorem gX6_later_X6_tick : GoodIn wsX6_later (wsV RX6 140 RX6 yX6_tick wsX6_tick) := goodIn_app (goodIn_of _ (by decide +kernel)) ggX6_later_X6_tick
set_option maxRecDepth 20000 in
theorem ggX6_later_X6_isOn : GoodIn wsX6_later wsX6_isOn := goodIn_r _ [33] (by decide +kernel) (by decide +kernel)
set_option maxRecDepth 20000 in
theorem gX6_later_X6_isOn : GoodIn wsX6_later (va_wsS RX6 130 yX6_isOn wsX6_isOn) := goodIn_app (goodIn_of _ (by decide +kernel)) ggX6_later_X6_isOn
set_option maxRecDepth 20000 in
theorem ggX6_later_X6_offIn : GoodIn wsX6_later wsX6_offIn := goodIn_r _ [36] (by decide +kernel) (by decide +kernel)
set_option maxRecDepth 20000 in
theorem gX6_later_X6_offIn : GoodIn wsX6_later (va_wsS RX6 144 yX6_offIn wsX6_offIn) := goodIn_app (goodIn_of _ (by decide +kernel)) ggX6_later_X6_offIn
set_option maxRecDepth 20000 in
theorem ggX6_off_X6_isRider : GoodIn wsX6_off wsX6_isRider := goodIn_r _ [8, 9, 10, 11, 7, 12, 34, 35, 36, 37, 38, 39, 40, 41, 42, 43, 44, 45, 46, 47, 48, 49, 50, 51, 52, 53] (by decide +kernel) (by decide +kernel)
set_option maxRecDepth 20000 in
theorem gX6_off_X6_isRider : GoodIn wsX6_off (wsV RX6 148 RX6 yX6_isRider wsX6_isRider) := goodIn_app (goodIn_of _ (by decide +kernel)) ggX6_off_X6_isRider
set_option maxRecDepth 20000 in
theorem ggX6_off_X6_starts : GoodIn wsX6_off wsX6_starts := goodIn_r _ [16, 2, 9, 34, 35, 36, 37, 38, 39, 40, 41, 42, 43, 44, 45, 46, 47, 48, 49, 50, 51, 52, 53] (by decide +kernel) (by decide +kernel)
set_option maxRecDepth 20000 in
theorem gX6_off_X6_starts : GoodIn wsX6_off (wsV RX6 151 RX6 yX6_starts wsX6_starts) := goodIn_app (goodIn_of _ (by decide +kernel)) ggX6_off_X6_starts
set_option maxRecDepth 20000 in
theorem ggX6_off_X6_tick : GoodIn wsX6_off wsX6_tick := goodIn_r _ [20, 21, 22, 23, 7, 24, 25, 26, 27, 10, 11, 12, 28, 29, 30, 31, 32, 33, 34, 35, 36, 37, 38, 39, 40, 41, 42, 43, 44, 45, 46, 47, 48, 49, 50, 51, 52, 53] (by decide +kernel) (by decide +kernel)
set_option maxRecDepth 20000 in
theorem gX6_off_X6_tick : GoodIn wsX6_off (wsV RX6 140 RX6 yX6_tick wsX6_tick) := goodIn_app (goodIn_of _ (by decide +kernel)) ggX6_off_X6_tick
set_option maxRecDepth 20000 in
theorem ggX6_clears_X6_offIn : GoodIn wsX6_clears wsX6_offIn := goodIn_r _ [6] (by decide +kernel) (by decide +kernel)
set_option maxRecDepth 20000 in
theorem gX6_clears_X6_offIn : GoodIn wsX6_clears (va_wsS RX6 144 yX6_offIn wsX6_offIn) := goodIn_app (goodIn_of _ (by decide +kernel)) ggX6_clears_X6_offIn
set_option maxRecDepth 20000 in
theorem ggX6_clears_X6_tick : GoodIn wsX6_clears wsX6_tick := goodIn_r _ [10, 11, 12, 13, 5, 14, 15, 16, 17, 18, 19, 20, 21, 22, 23, 24, 25, 26, 27, 28, 29, 30, 31, 32, 33, 34, 35, 36, 37, 38, 39, 40, 41, 42, 43, 44, 45, 46] (by decide +kernel) (by decide +kernel)
set_option maxRecDepth 20000 in
theorem gX6_clears_X6_tick : GoodIn wsX6_clears (wsV RX6 140 RX6 yX6_tick wsX6_tick) := goodIn_app (goodIn_of _ (by decide +kernel)) ggX6_clears_X6_tick
set_option maxRecDepth 20000 in
theorem ggX6_clear_X6_isStair : GoodIn wsX6_clear wsX6_isStair := goodIn_r _ [6, 7, 41, 42, 43, 44, 45, 46, 47, 48, 49, 50, 51, 52, 53, 54, 55, 56, 57, 58, 59, 60] (by decide +kernel) (by decide +kernel)
set_option maxRecDepth 20000 in
theorem gX6_clear_X6_isStair : GoodIn wsX6_clear (wsV RX6 133 RX6 yX6_isStair wsX6_isStair) := goodIn_app (goodIn_of _ (by decide +kernel)) ggX6_clear_X6_isStair
set_option maxRecDepth 20000 in
theorem ggX6_clear_X6_starts : GoodIn wsX6_clear wsX6_starts := goodIn_r _ [11, 12, 7, 41, 42, 43, 44, 45, 46, 47, 48, 49, 50, 51, 52, 53, 54, 55, 56, 57, 58, 59, 60] (by decide +kernel) (by decide +kernel)
set_option maxRecDepth 20000 in
theorem gX6_clear_X6_starts : GoodIn wsX6_clear (wsV RX6 151 RX6 yX6_starts wsX6_starts) := goodIn_app (goodIn_of _ (by decide +kernel)) ggX6_clear_X6_starts
set_option maxRecDepth 20000 in
theorem ggX6_clear_X6_clears : GoodIn wsX6_clear wsX6_clears := goodIn_r _ [16, 12, 17, 18, 19, 5, 20, 21, 22, 23, 24, 25, 26, 27, 28, 29, 30, 31, 32, 33, 34, 35, 36, 37, 38, 39, 40, 41, 42, 43, 44, 45, 46, 47, 48, 49, 50, 51, 52, 53, 54, 55, 56, 57, 58, 59, 60] (by decide +kernel) (by decide +kernel)
set_option maxRecDepth 20000 in
theorem gX6_clear_X6_clears : GoodIn wsX6_clear (wsV RX6 155 RX6 yX6_clears wsX6_clears) := goodIn_app (goodIn_of _ (by decide +kernel)) ggX6_clear_X6_clears
set_option maxRecDepth 20000 in
theorem ggX6_sorting_X6_isStair : GoodIn wsX6_sorting wsX6_isStair := goodIn_r _ [10, 4, 49, 50, 51, 52, 53, 54, 55, 56, 57, 58, 59, 60, 61, 62, 63, 64, 65, 66, 67, 68] (by decide +kernel) (by decide +kernel)
set_option maxRecDepth 20000 in
theorem gX6_sorting_X6_isStair : GoodIn wsX6_sorting (wsV RX6 133 RX6 yX6_isStair wsX6_isStair) := goodIn_app (goodIn_of _ (by decide +kernel)) ggX6_sorting_X6_isStair
set_option maxRecDepth 20000 in
theorem ggX6_sorting_X6_in : GoodIn wsX6_sorting wsX6_in := goodIn_r _ [13] (by decide +kernel) (by decide +kernel)
set_option maxRecDepth 20000 in
theorem gX6_sorting_X6_in : GoodIn wsX6_sorting (va_wsS RX6 50 yX6_in wsX6_in) := goodIn_app (goodIn_of _ (by decide +kernel)) ggX6_sorting_X6_in
set_option maxRecDepth 20000 in
theorem ggX6_sorting_X6_queued : GoodIn wsX6_sorting wsX6_queued := goodIn_r _ [17, 4, 49, 50, 51, 52, 53, 54, 55, 56, 57, 58, 59, 60, 61, 62, 63, 64, 65, 66, 67, 68] (by decide +kernel) (by decide +kernel)
set_option maxRecDepth 20000 in
theorem gX6_sorting_X6_queued : GoodIn wsX6_sorting (wsV RX6 159 RX6 yX6_queued wsX6_queued) := goodIn_app (goodIn_of _ (by decide +kernel)) ggX6_sorting_X6_queued
set_option maxRecDepth 20000 in
theorem ggX6_sorting_X6_starts : GoodIn wsX6_sorting wsX6_starts := goodIn_r _ [21, 5, 4, 49, 50, 51, 52, 53, 54, 55, 56, 57, 58, 59, 60, 61, 62, 63, 64, 65, 66, 67, 68] (by decide +kernel) (by decide +kernel)
set_option maxRecDepth 20000 in
theorem gX6_sorting_X6_starts : GoodIn wsX6_sorting (wsV RX6 151 RX6 yX6_starts wsX6_starts) := goodIn_app (goodIn_of _ (by decide +kernel)) ggX6_sorting_X6_starts
set_option maxRecDepth 20000 in
theorem ggX6_sorting_X6_has : GoodIn wsX6_sorting wsX6_has := goodIn_r _ [24] (by decide +kernel) (by decide +kernel)
set_option maxRecDepth 20000 in
theorem gX6_sorting_X6_has : GoodIn wsX6_sorting (va_wsS RX6 162 yX6_has wsX6_has) := goodIn_app (goodIn_of _ (by decide +kernel)) ggX6_sorting_X6_has
set_option maxRecDepth 20000 in
theorem ggX6_sorting_X6_clears : GoodIn wsX6_sorting wsX6_clears := goodIn_r _ [28, 5, 3, 29, 30, 9, 31, 32, 33, 34, 35, 36, 37, 38, 39, 40, 41, 42, 11, 12, 13, 43, 44, 45, 46, 47, 48, 49, 50, 51, 52, 53, 54, 55, 56, 57, 58, 59, 60, 61, 62, 63, 64, 65, 66, 67, 68] (by decide +kernel) (by decide +kernel)
set_option maxRecDepth 20000 in
theorem gX6_sorting_X6_clears : GoodIn wsX6_sorting (wsV RX6 155 RX6 yX6_clears wsX6_clears) := goodIn_app (goodIn_of _ (by decide +kernel)) ggX6_sorting_X6_clears
set_option maxRecDepth 20000 in
theorem ggX6_taken_X6_isStair : GoodIn wsX6_taken wsX6_isStair := goodIn_r _ [10, 4, 42, 43, 44, 45, 46, 47, 48, 49, 50, 51, 52, 53, 54, 55, 56, 57, 58, 59, 60, 61] (by decide +kernel) (by decide +kernel)
set_option maxRecDepth 20000 in
theorem gX6_taken_X6_isStair : GoodIn wsX6_taken (wsV RX6 133 RX6 yX6_isStair wsX6_isStair) := goodIn_app (goodIn_of _ (by decide +kernel)) ggX6_taken_X6_isStair
set_option maxRecDepth 20000 in
theorem ggX6_taken_X6_in : GoodIn wsX6_taken wsX6_in := goodIn_r _ [13] (by decide +kernel) (by decide +kernel)
set_option maxRecDepth 20000 in
theorem gX6_taken_X6_in : GoodIn wsX6_taken (va_wsS RX6 50 yX6_in wsX6_in) := goodIn_app (goodIn_of _ (by decide +kernel)) ggX6_taken_X6_in
set_option maxRecDepth 20000 in
theorem ggX6_taken_X6_starts : GoodIn wsX6_taken wsX6_starts := goodIn_r _ [17, 5, 4, 42, 43, 44, 45, 46, 47, 48, 49, 50, 51, 52, 53, 54, 55, 56, 57, 58, 59, 60, 61] (by decide +kernel) (by decide +kernel)
set_option maxRecDepth 20000 in
theorem gX6_taken_X6_starts : GoodIn wsX6_taken (wsV RX6 151 RX6 yX6_starts wsX6_starts) := goodIn_app (goodIn_of _ (by decide +kernel)) ggX6_taken_X6_starts
set_option maxRecDepth 20000 in
theorem ggX6_taken_X6_clears : GoodIn wsX6_taken wsX6_clears := goodIn_r _ [21, 5, 3, 22, 23, 9, 24, 25, 26, 27, 28, 29, 30, 31, 32, 33, 34, 35, 11, 12, 13, 36, 37, 38, 39, 40, 41, 42, 43, 44, 45, 46, 47, 48, 49, 50, 51, 52, 53, 54, 55, 56, 57, 58, 59, 60, 61] (by decide +kernel) (by decide +kernel)
set_option maxRecDepth 20000 in
theorem gX6_taken_X6_clears : GoodIn wsX6_taken (wsV RX6 155 RX6 yX6_clears wsX6_clears) := goodIn_app (goodIn_of _ (by decide +kernel)) ggX6_taken_X6_clears
set_option maxRecDepth 20000 in
theorem ggX6_pace_X6_isRider : GoodIn wsX6_pace wsX6_isRider := goodIn_r _ [8, 9, 10, 11, 7, 12, 34, 35, 36, 37, 38, 39, 40, 41, 42, 43, 44, 45, 46, 47, 48, 49, 50, 51, 52, 53] (by decide +kernel) (by decide +kernel)
set_option maxRecDepth 20000 in
theorem gX6_pace_X6_isRider : GoodIn wsX6_pace (wsV RX6 148 RX6 yX6_isRider wsX6_isRider) := goodIn_app (goodIn_of _ (by decide +kernel)) ggX6_pace_X6_isRider
set_option maxRecDepth 20000 in
theorem ggX6_pace_X6_in : GoodIn wsX6_pace wsX6_in := goodIn_r _ [12] (by decide +kernel) (by decide +kernel)
set_option maxRecDepth 20000 in
theorem gX6_pace_X6_in : GoodIn wsX6_pace (va_wsS RX6 50 yX6_in wsX6_in) := goodIn_app (goodIn_of _ (by decide +kernel)) ggX6_pace_X6_in
set_option maxRecDepth 20000 in
theorem ggX6_pace_X6_starts : GoodIn wsX6_pace wsX6_starts := goodIn_r _ [16, 3, 9, 34, 35, 36, 37, 38, 39, 40, 41, 42, 43, 44, 45, 46, 47, 48, 49, 50, 51, 52, 53] (by decide +kernel) (by decide +kernel)
set_option maxRecDepth 20000 in
theorem gX6_pace_X6_starts : GoodIn wsX6_pace (wsV RX6 151 RX6 yX6_starts wsX6_starts) := goodIn_app (goodIn_of _ (by decide +kernel)) ggX6_pace_X6_starts
set_option maxRecDepth 20000 in
theorem ggX6_pace_X6_tick : GoodIn wsX6_pace wsX6_tick := goodIn_r _ [20, 21, 22, 23, 7, 24, 25, 26, 27, 10, 11, 12, 28, 29, 30, 31, 32, 33, 34, 35, 36, 37, 38, 39, 40, 41, 42, 43, 44, 45, 46, 47, 48, 49, 50, 51, 52, 53] (by decide +kernel) (by decide +kernel)
set_option maxRecDepth 20000 in
theorem gX6_pace_X6_tick : GoodIn wsX6_pace (wsV RX6 140 RX6 yX6_tick wsX6_tick) := goodIn_app (goodIn_of _ (by decide +kernel)) ggX6_pace_X6_tick
set_option maxRecDepth 20000 in
theorem ggX6_isSo_X6_tick : GoodIn wsX6_isSo wsX6_tick := goodIn_r _ [7, 8, 9, 10, 6, 11, 12, 13, 14, 15, 16, 17, 18, 19, 20, 21, 22, 23, 24, 25, 26, 27, 28, 29, 30, 31, 32, 33, 34, 35, 36, 37, 38, 39, 40, 41, 42, 43] (by decide +kernel) (by decide +kernel)
set_option maxRecDepth 20000 in
theorem gX6_isSo_X6_tick : GoodIn wsX6_isSo (wsV RX6 140 RX6 yX6_tick wsX6_tick) := goodIn_app (goodIn_of _ (by decide +kernel)) ggX6_isSo_X6_tick
set_option maxRecDepth 20000 in
theorem ggX6_fits_X6_isRider : GoodIn wsX6_fits wsX6_isRider := goodIn_r _ [11, 5, 12, 13, 10, 14, 55, 56, 57, 58, 59, 60, 61, 62, 63, 64, 65, 66, 67, 68, 69, 70, 71, 72, 73, 74] (by decide +kernel) (by decide +kernel)
set_option maxRecDepth 20000 in
theorem gX6_fits_X6_isRider : GoodIn wsX6_fits (wsV RX6 148 RX6 yX6_isRider wsX6_isRider) := goodIn_app (goodIn_of _ (by decide +kernel)) ggX6_fits_X6_isRider
set_option maxRecDepth 20000 in
theorem ggX6_fits_X6_isRow : GoodIn wsX6_fits wsX6_isRow := goodIn_r _ [17, 12, 13, 10, 14] (by decide +kernel) (by decide +kernel)
set_option maxRecDepth 20000 in
theorem gX6_fits_X6_isRow : GoodIn wsX6_fits (va_wsS RX6 61 yX6_isRow wsX6_isRow) := goodIn_app (goodIn_of _ (by decide +kernel)) ggX6_fits_X6_isRow
set_option maxRecDepth 20000 in
theorem ggX6_fits_X6_in : GoodIn wsX6_fits wsX6_in := goodIn_r _ [14] (by decide +kernel) (by decide +kernel)
set_option maxRecDepth 20000 in
theorem gX6_fits_X6_in : GoodIn wsX6_fits (va_wsS RX6 50 yX6_in wsX6_in) := goodIn_app (goodIn_of _ (by decide +kernel)) ggX6_fits_X6_in
set_option maxRecDepth 20000 in
theorem ggX6_fits_X6_ends : GoodIn wsX6_fits wsX6_ends := goodIn_r _ [21, 22, 3, 23, 24, 12, 13, 10, 14, 55, 56, 57, 58, 59, 60, 61, 62, 63, 64, 65, 66, 67, 68, 69, 70, 71, 72, 73, 74] (by decide +kernel) (by decide +kernel)
set_option maxRecDepth 20000 in
theorem gX6_fits_X6_ends : GoodIn wsX6_fits (wsV RX6 67 RX6 yX6_ends wsX6_ends) := goodIn_app (goodIn_of _ (by decide +kernel)) ggX6_fits_X6_ends
set_option maxRecDepth 20000 in
theorem ggX6_fits_X6_lies : GoodIn wsX6_fits wsX6_lies := goodIn_r _ [28, 2, 55, 56, 57, 58, 59, 60, 61, 62, 63, 64, 65, 66, 67, 68, 69, 70, 71, 72, 73, 74] (by decide +kernel) (by decide +kernel)
set_option maxRecDepth 20000 in
theorem gX6_fits_X6_lies : GoodIn wsX6_fits (wsV RX6 71 RX6 yX6_lies wsX6_lies) := goodIn_app (goodIn_of _ (by decide +kernel)) ggX6_fits_X6_lies
set_option maxRecDepth 20000 in
theorem ggX6_fits_X6_isOn : GoodIn wsX6_fits wsX6_isOn := goodIn_r _ [31] (by decide +kernel) (by decide +kernel)
set_option maxRecDepth 20000 in
theorem gX6_fits_X6_isOn : GoodIn wsX6_fits (va_wsS RX6 130 yX6_isOn wsX6_isOn) := goodIn_app (goodIn_of _ (by decide +kernel)) ggX6_fits_X6_isOn
set_option maxRecDepth 20000 in
theorem ggX6_fits_X6_starts : GoodIn wsX6_fits wsX6_starts := goodIn_r _ [35, 6, 5, 55, 56, 57, 58, 59, 60, 61, 62, 63, 64, 65, 66, 67, 68, 69, 70, 71, 72, 73, 74] (by decide +kernel) (by decide +kernel)
set_option maxRecDepth 20000 in
theorem gX6_fits_X6_starts : GoodIn wsX6_fits (wsV RX6 151 RX6 yX6_starts wsX6_starts) := goodIn_app (goodIn_of _ (by decide +kernel)) ggX6_fits_X6_starts
set_option maxRecDepth 20000 in
theorem ggX6_fits_X6_isFree : GoodIn wsX6_fits wsX6_isFree := goodIn_r _ [38] (by decide +kernel) (by decide +kernel)
set_option maxRecDepth 20000 in
theorem gX6_fits_X6_isFree : GoodIn wsX6_fits (va_wsS RX6 118 yX6_isFree wsX6_isFree) := goodIn_app (goodIn_of _ (by decide +kernel)) ggX6_fits_X6_isFree
set_option maxRecDepth 20000 in
theorem ggX6_fits_X6_isSo : GoodIn wsX6_fits wsX6_isSo := goodIn_r _ [42, 6, 43, 44, 45, 46, 10, 47, 48, 49, 50, 51, 52, 53, 54, 12, 13, 14, 36, 37, 38, 29, 30, 31, 55, 56, 57, 58, 59, 60, 61, 62, 63, 64, 65, 66, 67, 68, 69, 70, 71, 72, 73, 74] (by decide +kernel) (by decide +kernel)
set_option maxRecDepth 20000 in
theorem gX6_fits_X6_isSo : GoodIn wsX6_fits (wsV RX6 166 RX6 yX6_isSo wsX6_isSo) := goodIn_app (goodIn_of _ (by decide +kernel)) ggX6_fits_X6_isSo
set_option maxRecDepth 20000 in
theorem ggX6_absent_X6_isRider : GoodIn wsX6_absent wsX6_isRider := goodIn_r _ [8, 2, 9, 10, 7, 11, 40, 41, 42, 43, 44, 45, 46, 47, 48, 49, 50, 51, 52, 53, 54, 55, 56, 57, 58, 59] (by decide +kernel) (by decide +kernel)
set_option maxRecDepth 20000 in
theorem gX6_absent_X6_isRider : GoodIn wsX6_absent (wsV RX6 148 RX6 yX6_isRider wsX6_isRider) := goodIn_app (goodIn_of _ (by decide +kernel)) ggX6_absent_X6_isRider
set_option maxRecDepth 20000 in
theorem ggX6_absent_X6_in : GoodIn wsX6_absent wsX6_in := goodIn_r _ [11] (by decide +kernel) (by decide +kernel)
set_option maxRecDepth 20000 in
theorem gX6_absent_X6_in : GoodIn wsX6_absent (va_wsS RX6 50 yX6_in wsX6_in) := goodIn_app (goodIn_of _ (by decide +kernel)) ggX6_absent_X6_in
set_option maxRecDepth 20000 in
theorem ggX6_absent_X6_queued : GoodIn wsX6_absent wsX6_queued := goodIn_r _ [15, 2, 40, 41, 42, 43, 44, 45, 46, 47, 48, 49, 50, 51, 52, 53, 54, 55, 56, 57, 58, 59] (by decide +kernel) (by decide +kernel)
set_option maxRecDepth 20000 in
theorem gX6_absent_X6_queued : GoodIn wsX6_absent (wsV RX6 159 RX6 yX6_queued wsX6_queued) := goodIn_app (goodIn_of _ (by decide +kernel)) ggX6_absent_X6_queued
set_option maxRecDepth 20000 in
theorem ggX6_absent_X6_starts : GoodIn wsX6_absent wsX6_starts := goodIn_r _ [19, 3, 2, 40, 41, 42, 43, 44, 45, 46, 47, 48, 49, 50, 51, 52, 53, 54, 55, 56, 57, 58, 59] (by decide +kernel) (by decide +kernel)
set_option maxRecDepth 20000 in
theorem gX6_absent_X6_starts : GoodIn wsX6_absent (wsV RX6 151 RX6 yX6_starts wsX6_starts) := goodIn_app (goodIn_of _ (by decide +kernel)) ggX6_absent_X6_starts
set_option maxRecDepth 20000 in
theorem ggX6_absent_X6_has : GoodIn wsX6_absent wsX6_has := goodIn_r _ [22] (by decide +kernel) (by decide +kernel)
set_option maxRecDepth 20000 in
theorem gX6_absent_X6_has : GoodIn wsX6_absent (va_wsS RX6 162 yX6_has wsX6_has) := goodIn_app (goodIn_of _ (by decide +kernel)) ggX6_absent_X6_has
set_option maxRecDepth 20000 in
theorem ggX6_absent_X6_tick : GoodIn wsX6_absent wsX6_tick := goodIn_r _ [26, 27, 28, 29, 7, 30, 31, 32, 33, 9, 10, 11, 34, 35, 36, 37, 38, 39, 40, 41, 42, 43, 44, 45, 46, 47, 48, 49, 50, 51, 52, 53, 54, 55, 56, 57, 58, 59] (by decide +kernel) (by decide +kernel)
set_option maxRecDepth 20000 in
theorem gX6_absent_X6_tick : GoodIn wsX6_absent (wsV RX6 140 RX6 yX6_tick wsX6_tick) := goodIn_app (goodIn_of _ (by decide +kernel)) ggX6_absent_X6_tick
set_option maxRecDepth 20000 in
theorem ggX6_drawn_X6_isStair : GoodIn wsX6_drawn wsX6_isStair := goodIn_r _ [14, 15, 43, 44, 45, 46, 47, 48, 49, 50, 51, 52, 53, 54, 55, 56, 57, 58, 59, 60, 61, 62] (by decide +kernel) (by decide +kernel)
set_option maxRecDepth 20000 in
theorem gX6_drawn_X6_isStair : GoodIn wsX6_drawn (wsV RX6 133 RX6 yX6_isStair wsX6_isStair) := goodIn_app (goodIn_of _ (by decide +kernel)) ggX6_drawn_X6_isStair
set_option maxRecDepth 20000 in
theorem ggX6_drawn_X6_in : GoodIn wsX6_drawn wsX6_in := goodIn_r _ [18] (by decide +kernel) (by decide +kernel)
set_option maxRecDepth 20000 in
theorem gX6_drawn_X6_in : GoodIn wsX6_drawn (va_wsS RX6 50 yX6_in wsX6_in) := goodIn_app (goodIn_of _ (by decide +kernel)) ggX6_drawn_X6_in
set_option maxRecDepth 20000 in
theorem ggX6_drawn_X6_starts : GoodIn wsX6_drawn wsX6_starts := goodIn_r _ [22, 6, 15, 43, 44, 45, 46, 47, 48, 49, 50, 51, 52, 53, 54, 55, 56, 57, 58, 59, 60, 61, 62] (by decide +kernel) (by decide +kernel)
set_option maxRecDepth 20000 in
theorem gX6_drawn_X6_starts : GoodIn wsX6_drawn (wsV RX6 151 RX6 yX6_starts wsX6_starts) := goodIn_app (goodIn_of _ (by decide +kernel)) ggX6_drawn_X6_starts
set_option maxRecDepth 20000 in
theorem ggX6_drawn_X6_offIn : GoodIn wsX6_drawn wsX6_offIn := goodIn_r _ [25] (by decide +kernel) (by decide +kernel)
set_option maxRecDepth 20000 in
theorem gX6_drawn_X6_offIn : GoodIn wsX6_drawn (va_wsS RX6 144 yX6_offIn wsX6_offIn) := goodIn_app (goodIn_of _ (by decide +kernel)) ggX6_drawn_X6_offIn
set_option maxRecDepth 20000 in
theorem ggX6_drawn_X6_tick : GoodIn wsX6_drawn wsX6_tick := goodIn_r _ [29, 30, 31, 32, 13, 33, 34, 35, 36, 16, 17, 18, 37, 38, 39, 40, 41, 42, 43, 44, 45, 46, 47, 48, 49, 50, 51, 52, 53, 54, 55, 56, 57, 58, 59, 60, 61, 62] (by decide +kernel) (by decide +kernel)
set_option maxRecDepth 20000 in
theorem gX6_drawn_X6_tick : GoodIn wsX6_drawn (wsV RX6 140 RX6 yX6_tick wsX6_tick) := goodIn_app (goodIn_of _ (by decide +kernel)) ggX6_drawn_X6_tick
set_option maxRecDepth 20000 in
theorem ggX6_image_X6_in : GoodIn wsX6_image wsX6_in := goodIn_r _ [9] (by decide +kernel) (by decide +kernel)
set_option maxRecDepth 20000 in
theorem gX6_image_X6_in : GoodIn wsX6_image (va_wsS RX6 50 yX6_in wsX6_in) := goodIn_app (goodIn_of _ (by decide +kernel)) ggX6_image_X6_in
set_option maxRecDepth 20000 in
theorem ggX6_image_X6_isStair : GoodIn wsX6_image wsX6_isStair := goodIn_r _ [13, 4, 14, 15, 16, 17, 18, 19, 20, 21, 22, 23, 24, 25, 26, 27, 28, 29, 30, 31, 32, 33] (by decide +kernel) (by decide +kernel)
set_option maxRecDepth 20000 in
theorem gX6_image_X6_isStair : GoodIn wsX6_image (wsV RX6 133 RX6 yX6_isStair wsX6_isStair) := goodIn_app (goodIn_of _ (by decide +kernel)) ggX6_image_X6_isStair
set_option maxRecDepth 20000 in
theorem ggX6_restore_X6_in : GoodIn wsX6_restore wsX6_in := goodIn_r _ [10] (by decide +kernel) (by decide +kernel)
set_option maxRecDepth 20000 in
theorem gX6_restore_X6_in : GoodIn wsX6_restore (va_wsS RX6 50 yX6_in wsX6_in) := goodIn_app (goodIn_of _ (by decide +kernel)) ggX6_restore_X6_in
set_option maxRecDepth 20000 in
theorem ggX6_kind_X6_isRider : GoodIn wsX6_kind wsX6_isRider := goodIn_r _ [7, 1, 8, 9, 6, 10, 11, 12, 13, 14, 15, 16, 17, 18, 19, 20, 21, 22, 23, 24, 25, 26, 27, 28, 29, 30] (by decide +kernel) (by decide +kernel)
set_option maxRecDepth 20000 in
theorem gX6_kind_X6_isRider : GoodIn wsX6_kind (wsV RX6 148 RX6 yX6_isRider wsX6_isRider) := goodIn_app (goodIn_of _ (by decide +kernel)) ggX6_kind_X6_isRider
set_option maxRecDepth 20000 in
theorem ggX6_as_X6_isRider : GoodIn wsX6_as wsX6_isRider := goodIn_r _ [8, 2, 9, 10, 7, 11, 20, 21, 22, 23, 24, 25, 26, 27, 28, 29, 30, 31, 32, 33, 34, 35, 36, 37, 38, 39] (by decide +kernel) (by decide +kernel)
set_option maxRecDepth 20000 in
theorem gX6_as_X6_isRider : GoodIn wsX6_as (wsV RX6 148 RX6 yX6_isRider wsX6_isRider) := goodIn_app (goodIn_of _ (by decide +kernel)) ggX6_as_X6_isRider
set_option maxRecDepth 20000 in
theorem ggX6_as_X6_in : GoodIn wsX6_as wsX6_in := goodIn_r _ [11] (by decide +kernel) (by decide +kernel)
set_option maxRecDepth 20000 in
theorem gX6_as_X6_in : GoodIn wsX6_as (va_wsS RX6 50 yX6_in wsX6_in) := goodIn_app (goodIn_of _ (by decide +kernel)) ggX6_as_X6_in
set_option maxRecDepth 20000 in
theorem ggX6_as_X6_ends : GoodIn wsX6_as wsX6_ends := goodIn_r _ [15, 16, 17, 18, 19, 9, 10, 7, 11, 20, 21, 22, 23, 24, 25, 26, 27, 28, 29, 30, 31, 32, 33, 34, 35, 36, 37, 38, 39] (by decide +kernel) (by decide +kernel)
set_option maxRecDepth 20000 in
theorem gX6_as_X6_ends : GoodIn wsX6_as (wsV RX6 67 RX6 yX6_ends wsX6_ends) := goodIn_app (goodIn_of _ (by decide +kernel)) ggX6_as_X6_ends
set_option maxRecDepth 20000 in
theorem ggX6_size_X6_begins : GoodIn wsX6_size wsX6_begins := goodIn_r _ [6, 7, 8, 13, 14, 15, 16, 17, 18, 19, 20, 21, 22, 23, 24, 25, 26, 27, 28, 29, 30, 31, 32] (by decide +kernel) (by decide +kernel)
set_option maxRecDepth 20000 in
theorem gX6_size_X6_begins : GoodIn wsX6_size (wsV RX6 184 RX6 yX6_begins wsX6_begins) := goodIn_app (goodIn_of _ (by decide +kernel)) ggX6_size_X6_begins
set_option maxRecDepth 20000 in
theorem ggX6_size_X6_stands : GoodIn wsX6_size wsX6_stands := goodIn_r _ [12, 1, 2, 3, 4, 5, 6, 7, 8, 13, 14, 15, 16, 17, 18, 19, 20, 21, 22, 23, 24, 25, 26, 27, 28, 29, 30, 31, 32] (by decide +kernel) (by decide +kernel)
set_option maxRecDepth 20000 in
theorem gX6_size_X6_stands : GoodIn wsX6_size (wsV RX6 188 RX6 yX6_stands wsX6_stands) := goodIn_app (goodIn_of _ (by decide +kernel)) ggX6_size_X6_stands
set_option maxRecDepth 20000 in
theorem ggX6_stands_X6_begins : GoodIn wsX6_stands wsX6_begins := goodIn_r _ [6, 7, 8, 9, 10, 11, 12, 13, 14, 15, 16, 17, 18, 19, 20, 21, 22, 23, 24, 25, 26, 27, 28] (by decide +kernel) (by decide +kernel)
set_option maxRecDepth 20000 in
theorem gX6_stands_X6_begins : GoodIn wsX6_stands (wsV RX6 184 RX6 yX6_begins wsX6_begins) := goodIn_app (goodIn_of _ (by decide +kernel)) ggX6_stands_X6_begins
set_option maxRecDepth 20000 in
theorem ggX6_ask_X6_isRider : GoodIn wsX6_ask wsX6_isRider := goodIn_r _ [8, 3, 9, 10, 7, 11, 25, 26, 27, 28, 29, 30, 31, 32, 33, 34, 35, 36, 37, 38, 39, 40, 41, 42, 43, 44] (by decide +kernel) (by decide +kernel)
set_option maxRecDepth 20000 in
theorem gX6_ask_X6_isRider : GoodIn wsX6_ask (wsV RX6 148 RX6 yX6_isRider wsX6_isRider) := goodIn_app (goodIn_of _ (by decide +kernel)) ggX6_ask_X6_isRider
set_option maxRecDepth 20000 in
theorem ggX6_ask_X6_in : GoodIn wsX6_ask wsX6_in := goodIn_r _ [11] (by decide +kernel) (by decide +kernel)
set_option maxRecDepth 20000 in
theorem gX6_ask_X6_in : GoodIn wsX6_ask (va_wsS RX6 50 yX6_in wsX6_in) := goodIn_app (goodIn_of _ (by decide +kernel)) ggX6_ask_X6_in
set_option maxRecDepth 20000 in
theorem ggX6_ask_X6_size : GoodIn wsX6_ask wsX6_size := goodIn_r _ [15, 3, 16, 17, 18, 7, 19, 2, 20, 21, 22, 23, 24, 25, 26, 27, 28, 29, 30, 31, 32, 33, 34, 35, 36, 37, 38, 39, 40, 41, 42, 43, 44] (by decide +kernel) (by decide +kernel)
set_option maxRecDepth 20000 in
theorem gX6_ask_X6_size : GoodIn wsX6_ask (wsV RX6 191 RX6 yX6_size wsX6_size) := goodIn_app (goodIn_of _ (by decide +kernel)) ggX6_ask_X6_size
set_option maxRecDepth 20000 in
theorem ggX6_ask_X6_stands : GoodIn wsX6_ask wsX6_stands := goodIn_r _ [24, 3, 16, 17, 18, 7, 19, 2, 20, 25, 26, 27, 28, 29, 30, 31, 32, 33, 34, 35, 36, 37, 38, 39, 40, 41, 42, 43, 44] (by decide +kernel) (by decide +kernel)
set_option maxRecDepth 20000 in
theorem gX6_ask_X6_stands : GoodIn wsX6_ask (wsV RX6 188 RX6 yX6_stands wsX6_stands) := goodIn_app (goodIn_of _ (by decide +kernel)) ggX6_ask_X6_stands
set_option maxRecDepth 20000 in
theorem ggX6_ask_X6_begins : GoodIn wsX6_ask wsX6_begins := goodIn_r _ [19, 2, 20, 25, 26, 27, 28, 29, 30, 31, 32, 33, 34, 35, 36, 37, 38, 39, 40, 41, 42, 43, 44] (by decide +kernel) (by decide +kernel)
set_option maxRecDepth 20000 in
theorem gX6_ask_X6_begins : GoodIn wsX6_ask (wsV RX6 184 RX6 yX6_begins wsX6_begins) := goodIn_app (goodIn_of _ (by decide +kernel)) ggX6_ask_X6_begins
set_option maxRecDepth 20000 in
theorem ggX6_trace_X6_in : GoodIn wsX6_trace wsX6_in := goodIn_r _ [7] (by decide +kernel) (by decide +kernel)
set_option maxRecDepth 20000 in
theorem gX6_trace_X6_in : GoodIn wsX6_trace (va_wsS RX6 50 yX6_in wsX6_in) := goodIn_app (goodIn_of _ (by decide +kernel)) ggX6_trace_X6_in
set_option maxRecDepth 20000 in
theorem ggX6_count_X6_isOn : GoodIn wsX6_count wsX6_isOn := goodIn_r _ [9] (by decide +kernel) (by decide +kernel)
set_option maxRecDepth 20000 in
theorem gX6_count_X6_isOn : GoodIn wsX6_count (va_wsS RX6 130 yX6_isOn wsX6_isOn) := goodIn_app (goodIn_of _ (by decide +kernel)) ggX6_count_X6_isOn
set_option maxRecDepth 20000 in
theorem ggX6_count_X6_offIn : GoodIn wsX6_count wsX6_offIn := goodIn_r _ [12] (by decide +kernel) (by decide +kernel)
set_option maxRecDepth 20000 in
theorem gX6_count_X6_offIn : GoodIn wsX6_count (va_wsS RX6 144 yX6_offIn wsX6_offIn) := goodIn_app (goodIn_of _ (by decide +kernel)) ggX6_count_X6_offIn
end
section
theorem dX0_init_0 : decode cX0_init 0 = .ok (.aload_n 0, 1) := by decide +kernel
theorem dX0_init_1 : decode cX0_init 1 = .ok (.invokespecial 3, 3) := by decide +kernel
theorem dX0_init_4 : decode cX0_init 4 = .ok (.aload_n 0, 1) := by decide +kernel
theorem dX0_init_5 : decode cX0_init 5 = .ok (.bipush 24, 2) := by decide +kernel
theorem dX0_init_7 : decode cX0_init 7 = .ok (.anewarray 9, 3) := by decide +kernel
theorem dX0_init_10 : decode cX0_init 10 = .ok (.putfield 11, 3) := by decide +kernel
theorem dX0_init_13 : decode cX0_init 13 = .ok (.aload_n 0, 1) := by decide +kernel
theorem dX0_init_14 : decode cX0_init 14 = .ok (.iconst 0, 1) := by decide +kernel
theorem dX0_init_15 : decode cX0_init 15 = .ok (.putfield 17, 3) := by decide +kernel
theorem dX0_init_18 : decode cX0_init 18 = .ok (.aload_n 0, 1) := by decide +kernel
theorem dX0_init_19 : decode cX0_init 19 = .ok (.iconst 0, 1) := by decide +kernel
theorem dX0_init_20 : decode cX0_init 20 = .ok (.putfield 21, 3) := by decide +kernel
theorem dX0_init_23 : decode cX0_init 23 = .ok (.iconst 0, 1) := by decide +kernel
theorem dX0_init_24 : decode cX0_init 24 = .ok (.istore_n 1, 1) := by decide +kernel
theorem dX0_init_25 : decode cX0_init 25 = .ok (.iload_n 1, 1) := by decide +kernel
theorem dX0_init_26 : decode cX0_init 26 = .ok (.bipush 24, 2) := by decide +kernel
theorem dX0_init_28 : decode cX0_init 28 = .ok (.if_icmp .ge 22, 3) := by decide +kernel
theorem dX0_init_31 : decode cX0_init 31 = .ok (.aload_n 0, 1) := by decide +kernel
theorem dX0_init_32 : decode cX0_init 32 = .ok (.getfield 11, 3) := by decide +kernel
theorem dX0_init_35 : decode cX0_init 35 = .ok (.iload_n 1, 1) := by decide +kernel
theorem dX0_init_36 : decode cX0_init 36 = .ok (.new 9, 3) := by decide +kernel
theorem dX0_init_39 : decode cX0_init 39 = .ok (.dup, 1) := by decide +kernel
theorem dX0_init_40 : decode cX0_init 40 = .ok (.invokespecial 24, 3) := by decide +kernel
theorem dX0_init_43 : decode cX0_init 43 = .ok (.aastore, 1) := by decide +kernel
theorem dX0_init_44 : decode cX0_init 44 = .ok (.iinc 1 1, 3) := by decide +kernel
theorem dX0_init_47 : decode cX0_init 47 = .ok (.goto (-22), 3) := by decide +kernel
theorem dX0_init_50 : decode cX0_init 50 = .ok (.return_, 1) := by decide +kernel
theorem dX0_keep_0 : decode cX0_keep 0 = .ok (.aload_n 0, 1) := by decide +kernel
theorem dX0_keep_1 : decode cX0_keep 1 = .ok (.getfield 11, 3) := by decide +kernel
theorem dX0_keep_4 : decode cX0_keep 4 = .ok (.aload_n 0, 1) := by decide +kernel
theorem dX0_keep_5 : decode cX0_keep 5 = .ok (.getfield 17, 3) := by decide +kernel
theorem dX0_keep_8 : decode cX0_keep 8 = .ok (.aaload, 1) := by decide +kernel
theorem dX0_keep_9 : decode cX0_keep 9 = .ok (.aload_n 1, 1) := by decide +kernel
theorem dX0_keep_10 : decode cX0_keep 10 = .ok (.invokevirtual 25, 3) := by decide +kernel
theorem dX0_keep_13 : decode cX0_keep 13 = .ok (.aload_n 0, 1) := by decide +kernel
theorem dX0_keep_14 : decode cX0_keep 14 = .ok (.aload_n 0, 1) := by decide +kernel
theorem dX0_keep_15 : decode cX0_keep 15 = .ok (.getfield 17, 3) := by decide +kernel
theorem dX0_keep_18 : decode cX0_keep 18 = .ok (.iconst 1, 1) := by decide +kernel
theorem dX0_keep_19 : decode cX0_keep 19 = .ok (.iadd, 1) := by decide +kernel
theorem dX0_keep_20 : decode cX0_keep 20 = .ok (.bipush 24, 2) := by decide +kernel
theorem dX0_keep_22 : decode cX0_keep 22 = .ok (.irem, 1) := by decide +kernel
theorem dX0_keep_23 : decode cX0_keep 23 = .ok (.putfield 17, 3) := by decide +kernel
theorem dX0_keep_26 : decode cX0_keep 26 = .ok (.aload_n 0, 1) := by decide +kernel
theorem dX0_keep_27 : decode cX0_keep 27 = .ok (.aload_n 0, 1) := by decide +kernel
theorem dX0_keep_28 : decode cX0_keep 28 = .ok (.getfield 21, 3) := by decide +kernel
theorem dX0_keep_31 : decode cX0_keep 31 = .ok (.iconst 1, 1) := by decide +kernel
theorem dX0_keep_32 : decode cX0_keep 32 = .ok (.iadd, 1) := by decide +kernel
theorem dX0_keep_33 : decode cX0_keep 33 = .ok (.bipush 24, 2) := by decide +kernel
theorem dX0_keep_35 : decode cX0_keep 35 = .ok (.invokestatic 29, 3) := by decide +kernel
theorem dX0_keep_38 : decode cX0_keep 38 = .ok (.putfield 21, 3) := by decide +kernel
theorem dX0_keep_41 : decode cX0_keep 41 = .ok (.return_, 1) := by decide +kernel
theorem dX0_takeBack_0 : decode cX0_takeBack 0 = .ok (.aload_n 0, 1) := by decide +kernel
theorem dX0_takeBack_1 : decode cX0_takeBack 1 = .ok (.aload_n 0, 1) := by decide +kernel
theorem dX0_takeBack_2 : decode cX0_takeBack 2 = .ok (.getfield 17, 3) := by decide +kernel
theorem dX0_takeBack_5 : decode cX0_takeBack 5 = .ok (.bipush 24, 2) := by decide +kernel
theorem dX0_takeBack_7 : decode cX0_takeBack 7 = .ok (.iadd, 1) := by decide +kernel
theorem dX0_takeBack_8 : decode cX0_takeBack 8 = .ok (.iconst 1, 1) := by decide +kernel
theorem dX0_takeBack_9 : decode cX0_takeBack 9 = .ok (.isub, 1) := by decide +kernel
theorem dX0_takeBack_10 : decode cX0_takeBack 10 = .ok (.bipush 24, 2) := by decide +kernel
theorem dX0_takeBack_12 : decode cX0_takeBack 12 = .ok (.irem, 1) := by decide +kernel
theorem dX0_takeBack_13 : decode cX0_takeBack 13 = .ok (.putfield 17, 3) := by decide +kernel
theorem dX0_takeBack_16 : decode cX0_takeBack 16 = .ok (.aload_n 1, 1) := by decide +kernel
theorem dX0_takeBack_17 : decode cX0_takeBack 17 = .ok (.aload_n 0, 1) := by decide +kernel
theorem dX0_takeBack_18 : decode cX0_takeBack 18 = .ok (.getfield 11, 3) := by decide +kernel
theorem dX0_takeBack_21 : decode cX0_takeBack 21 = .ok (.aload_n 0, 1) := by decide +kernel
theorem dX0_takeBack_22 : decode cX0_takeBack 22 = .ok (.getfield 17, 3) := by decide +kernel
theorem dX0_takeBack_25 : decode cX0_takeBack 25 = .ok (.aaload, 1) := by decide +kernel
theorem dX0_takeBack_26 : decode cX0_takeBack 26 = .ok (.invokevirtual 25, 3) := by decide +kernel
theorem dX0_takeBack_29 : decode cX0_takeBack 29 = .ok (.aload_n 0, 1) := by decide +kernel
theorem dX0_takeBack_30 : decode cX0_takeBack 30 = .ok (.aload_n 0, 1) := by decide +kernel
theorem dX0_takeBack_31 : decode cX0_takeBack 31 = .ok (.getfield 21, 3) := by decide +kernel
theorem dX0_takeBack_34 : decode cX0_takeBack 34 = .ok (.iconst 1, 1) := by decide +kernel
theorem dX0_takeBack_35 : decode cX0_takeBack 35 = .ok (.isub, 1) := by decide +kernel
theorem dX0_takeBack_36 : decode cX0_takeBack 36 = .ok (.iconst 0, 1) := by decide +kernel
theorem dX0_takeBack_37 : decode cX0_takeBack 37 = .ok (.invokestatic 35, 3) := by decide +kernel
theorem dX0_takeBack_40 : decode cX0_takeBack 40 = .ok (.putfield 21, 3) := by decide +kernel
theorem dX0_takeBack_43 : decode cX0_takeBack 43 = .ok (.return_, 1) := by decide +kernel
theorem dX0_forgetAll_0 : decode cX0_forgetAll 0 = .ok (.aload_n 0, 1) := by decide +kernel
theorem dX0_forgetAll_1 : decode cX0_forgetAll 1 = .ok (.iconst 0, 1) := by decide +kernel
theorem dX0_forgetAll_2 : decode cX0_forgetAll 2 = .ok (.putfield 21, 3) := by decide +kernel
theorem dX0_forgetAll_5 : decode cX0_forgetAll 5 = .ok (.return_, 1) := by decide +kernel
theorem dX1_init_0 : decode cX1_init 0 = .ok (.aload_n 0, 1) := by decide +kernel
theorem dX1_init_1 : decode cX1_init 1 = .ok (.invokespecial 3, 3) := by decide +kernel
theorem dX1_init_4 : decode cX1_init 4 = .ok (.aload_n 0, 1) := by decide +kernel
theorem dX1_init_5 : decode cX1_init 5 = .ok (.bipush 40, 2) := by decide +kernel
theorem dX1_init_7 : decode cX1_init 7 = .ok (.newarray .int, 2) := by decide +kernel
theorem dX1_init_9 : decode cX1_init 9 = .ok (.putfield 9, 3) := by decide +kernel
theorem dX1_init_12 : decode cX1_init 12 = .ok (.aload_n 0, 1) := by decide +kernel
theorem dX1_init_13 : decode cX1_init 13 = .ok (.iconst 1, 1) := by decide +kernel
theorem dX1_init_14 : decode cX1_init 14 = .ok (.putfield 15, 3) := by decide +kernel
theorem dX1_init_17 : decode cX1_init 17 = .ok (.aload_n 0, 1) := by decide +kernel
theorem dX1_init_18 : decode cX1_init 18 = .ok (.iconst 0, 1) := by decide +kernel
theorem dX1_init_19 : decode cX1_init 19 = .ok (.putfield 19, 3) := by decide +kernel
theorem dX1_init_22 : decode cX1_init 22 = .ok (.aload_n 0, 1) := by decide +kernel
theorem dX1_init_23 : decode cX1_init 23 = .ok (.iconst 0, 1) := by decide +kernel
theorem dX1_init_24 : decode cX1_init 24 = .ok (.putfield 23, 3) := by decide +kernel
theorem dX1_init_27 : decode cX1_init 27 = .ok (.return_, 1) := by decide +kernel
theorem dX1_begin_0 : decode cX1_begin 0 = .ok (.aload_n 0, 1) := by decide +kernel
theorem dX1_begin_1 : decode cX1_begin 1 = .ok (.iconst 0, 1) := by decide +kernel
theorem dX1_begin_2 : decode cX1_begin 2 = .ok (.putfield 15, 3) := by decide +kernel
theorem dX1_begin_5 : decode cX1_begin 5 = .ok (.aload_n 0, 1) := by decide +kernel
theorem dX1_begin_6 : decode cX1_begin 6 = .ok (.iload_n 1, 1) := by decide +kernel
theorem dX1_begin_7 : decode cX1_begin 7 = .ok (.putfield 19, 3) := by decide +kernel
theorem dX1_begin_10 : decode cX1_begin 10 = .ok (.aload_n 0, 1) := by decide +kernel
theorem dX1_begin_11 : decode cX1_begin 11 = .ok (.iload_n 2, 1) := by decide +kernel
theorem dX1_begin_12 : decode cX1_begin 12 = .ok (.putfield 23, 3) := by decide +kernel
theorem dX1_begin_15 : decode cX1_begin 15 = .ok (.iconst 0, 1) := by decide +kernel
theorem dX1_begin_16 : decode cX1_begin 16 = .ok (.istore_n 3, 1) := by decide +kernel
theorem dX1_begin_17 : decode cX1_begin 17 = .ok (.iload_n 3, 1) := by decide +kernel
theorem dX1_begin_18 : decode cX1_begin 18 = .ok (.bipush 40, 2) := by decide +kernel
theorem dX1_begin_20 : decode cX1_begin 20 = .ok (.if_icmp .ge 16, 3) := by decide +kernel
theorem dX1_begin_23 : decode cX1_begin 23 = .ok (.aload_n 0, 1) := by decide +kernel
theorem dX1_begin_24 : decode cX1_begin 24 = .ok (.getfield 9, 3) := by decide +kernel
theorem dX1_begin_27 : decode cX1_begin 27 = .ok (.iload_n 3, 1) := by decide +kernel
theorem dX1_begin_28 : decode cX1_begin 28 = .ok (.iconst 0, 1) := by decide +kernel
theorem dX1_begin_29 : decode cX1_begin 29 = .ok (.iastore, 1) := by decide +kernel
theorem dX1_begin_30 : decode cX1_begin 30 = .ok (.iinc 3 1, 3) := by decide +kernel
theorem dX1_begin_33 : decode cX1_begin 33 = .ok (.goto (-16), 3) := by decide +kernel
theorem dX1_begin_36 : decode cX1_begin 36 = .ok (.return_, 1) := by decide +kernel
theorem dX1_holds_0 : decode cX1_holds 0 = .ok (.iload_n 1, 1) := by decide +kernel
theorem dX1_holds_1 : decode cX1_holds 1 = .ok (.ifCond .lt 29, 3) := by decide +kernel
theorem dX1_holds_4 : decode cX1_holds 4 = .ok (.iload_n 2, 1) := by decide +kernel
theorem dX1_holds_5 : decode cX1_holds 5 = .ok (.ifCond .lt 25, 3) := by decide +kernel
theorem dX1_holds_8 : decode cX1_holds 8 = .ok (.iload_n 1, 1) := by decide +kernel
theorem dX1_holds_9 : decode cX1_holds 9 = .ok (.aload_n 0, 1) := by decide +kernel
theorem dX1_holds_10 : decode cX1_holds 10 = .ok (.getfield 23, 3) := by decide +kernel
theorem dX1_holds_13 : decode cX1_holds 13 = .ok (.if_icmp .gt 17, 3) := by decide +kernel
theorem dX1_holds_16 : decode cX1_holds 16 = .ok (.iload_n 2, 1) := by decide +kernel
theorem dX1_holds_17 : decode cX1_holds 17 = .ok (.aload_n 0, 1) := by decide +kernel
theorem dX1_holds_18 : decode cX1_holds 18 = .ok (.getfield 23, 3) := by decide +kernel
theorem dX1_holds_21 : decode cX1_holds 21 = .ok (.iload_n 1, 1) := by decide +kernel
theorem dX1_holds_22 : decode cX1_holds 22 = .ok (.isub, 1) := by decide +kernel
theorem dX1_holds_23 : decode cX1_holds 23 = .ok (.if_icmp .gt 7, 3) := by decide +kernel
theorem dX1_holds_26 : decode cX1_holds 26 = .ok (.iconst 1, 1) := by decide +kernel
theorem dX1_holds_27 : decode cX1_holds 27 = .ok (.goto 4, 3) := by decide +kernel
theorem dX1_holds_30 : decode cX1_holds 30 = .ok (.iconst 0, 1) := by decide +kernel
theorem dX1_holds_31 : decode cX1_holds 31 = .ok (.ireturn, 1) := by decide +kernel
theorem dX1_cut_0 : decode cX1_cut 0 = .ok (.aload_n 0, 1) := by decide +kernel
theorem dX1_cut_1 : decode cX1_cut 1 = .ok (.getfield 19, 3) := by decide +kernel
theorem dX1_cut_4 : decode cX1_cut 4 = .ok (.lookupswitch 34 #[(0, 28), (1, 31)], 28) := by decide +kernel
theorem dX1_cut_32 : decode cX1_cut 32 = .ok (.iload_n 1, 1) := by decide +kernel
theorem dX1_cut_33 : decode cX1_cut 33 = .ok (.i2b, 1) := by decide +kernel
theorem dX1_cut_34 : decode cX1_cut 34 = .ok (.ireturn, 1) := by decide +kernel
theorem dX1_cut_35 : decode cX1_cut 35 = .ok (.iload_n 1, 1) := by decide +kernel
theorem dX1_cut_36 : decode cX1_cut 36 = .ok (.i2s, 1) := by decide +kernel
theorem dX1_cut_37 : decode cX1_cut 37 = .ok (.ireturn, 1) := by decide +kernel
theorem dX1_cut_38 : decode cX1_cut 38 = .ok (.iload_n 1, 1) := by decide +kernel
theorem dX1_cut_39 : decode cX1_cut 39 = .ok (.ireturn, 1) := by decide +kernel
theorem dX2_init_0 : decode cX2_init 0 = .ok (.aload_n 0, 1) := by decide +kernel
theorem dX2_init_1 : decode cX2_init 1 = .ok (.invokespecial 3, 3) := by decide +kernel
theorem dX2_init_4 : decode cX2_init 4 = .ok (.aload_n 0, 1) := by decide +kernel
theorem dX2_init_5 : decode cX2_init 5 = .ok (.iconst 0, 1) := by decide +kernel
theorem dX2_init_6 : decode cX2_init 6 = .ok (.putfield 9, 3) := by decide +kernel
theorem dX2_init_9 : decode cX2_init 9 = .ok (.aload_n 0, 1) := by decide +kernel
theorem dX2_init_10 : decode cX2_init 10 = .ok (.iconst 0, 1) := by decide +kernel
theorem dX2_init_11 : decode cX2_init 11 = .ok (.putfield 15, 3) := by decide +kernel
theorem dX2_init_14 : decode cX2_init 14 = .ok (.aload_n 0, 1) := by decide +kernel
theorem dX2_init_15 : decode cX2_init 15 = .ok (.iconst 0, 1) := by decide +kernel
theorem dX2_init_16 : decode cX2_init 16 = .ok (.putfield 18, 3) := by decide +kernel
theorem dX2_init_19 : decode cX2_init 19 = .ok (.aload_n 0, 1) := by decide +kernel
theorem dX2_init_20 : decode cX2_init 20 = .ok (.iconst 0, 1) := by decide +kernel
theorem dX2_init_21 : decode cX2_init 21 = .ok (.putfield 21, 3) := by decide +kernel
theorem dX2_init_24 : decode cX2_init 24 = .ok (.aload_n 0, 1) := by decide +kernel
theorem dX2_init_25 : decode cX2_init 25 = .ok (.bipush 7, 2) := by decide +kernel
theorem dX2_init_27 : decode cX2_init 27 = .ok (.newarray .int, 2) := by decide +kernel
theorem dX2_init_29 : decode cX2_init 29 = .ok (.putfield 24, 3) := by decide +kernel
theorem dX2_init_32 : decode cX2_init 32 = .ok (.aload_n 0, 1) := by decide +kernel
theorem dX2_init_33 : decode cX2_init 33 = .ok (.bipush 7, 2) := by decide +kernel
theorem dX2_init_35 : decode cX2_init 35 = .ok (.newarray .int, 2) := by decide +kernel
theorem dX2_init_37 : decode cX2_init 37 = .ok (.putfield 28, 3) := by decide +kernel
theorem dX2_init_40 : decode cX2_init 40 = .ok (.aload_n 0, 1) := by decide +kernel
theorem dX2_init_41 : decode cX2_init 41 = .ok (.bipush 7, 2) := by decide +kernel
theorem dX2_init_43 : decode cX2_init 43 = .ok (.newarray .int, 2) := by decide +kernel
theorem dX2_init_45 : decode cX2_init 45 = .ok (.putfield 31, 3) := by decide +kernel
theorem dX2_init_48 : decode cX2_init 48 = .ok (.aload_n 0, 1) := by decide +kernel
theorem dX2_init_49 : decode cX2_init 49 = .ok (.bipush 7, 2) := by decide +kernel
theorem dX2_init_51 : decode cX2_init 51 = .ok (.newarray .int, 2) := by decide +kernel
theorem dX2_init_53 : decode cX2_init 53 = .ok (.putfield 34, 3) := by decide +kernel
theorem dX2_init_56 : decode cX2_init 56 = .ok (.return_, 1) := by decide +kernel
theorem dX2_empty_0 : decode cX2_empty 0 = .ok (.aload_n 0, 1) := by decide +kernel
theorem dX2_empty_1 : decode cX2_empty 1 = .ok (.iconst 0, 1) := by decide +kernel
theorem dX2_empty_2 : decode cX2_empty 2 = .ok (.putfield 9, 3) := by decide +kernel
theorem dX2_empty_5 : decode cX2_empty 5 = .ok (.aload_n 0, 1) := by decide +kernel
theorem dX2_empty_6 : decode cX2_empty 6 = .ok (.iconst 0, 1) := by decide +kernel
theorem dX2_empty_7 : decode cX2_empty 7 = .ok (.putfield 15, 3) := by decide +kernel
theorem dX2_empty_10 : decode cX2_empty 10 = .ok (.aload_n 0, 1) := by decide +kernel
theorem dX2_empty_11 : decode cX2_empty 11 = .ok (.iconst 0, 1) := by decide +kernel
theorem dX2_empty_12 : decode cX2_empty 12 = .ok (.putfield 18, 3) := by decide +kernel
theorem dX2_empty_15 : decode cX2_empty 15 = .ok (.aload_n 0, 1) := by decide +kernel
theorem dX2_empty_16 : decode cX2_empty 16 = .ok (.iconst 0, 1) := by decide +kernel
theorem dX2_empty_17 : decode cX2_empty 17 = .ok (.putfield 21, 3) := by decide +kernel
theorem dX2_empty_20 : decode cX2_empty 20 = .ok (.iconst 0, 1) := by decide +kernel
theorem dX2_empty_21 : decode cX2_empty 21 = .ok (.istore_n 1, 1) := by decide +kernel
theorem dX2_empty_22 : decode cX2_empty 22 = .ok (.iload_n 1, 1) := by decide +kernel
theorem dX2_empty_23 : decode cX2_empty 23 = .ok (.bipush 7, 2) := by decide +kernel
theorem dX2_empty_25 : decode cX2_empty 25 = .ok (.if_icmp .ge 16, 3) := by decide +kernel
theorem dX2_empty_28 : decode cX2_empty 28 = .ok (.aload_n 0, 1) := by decide +kernel
theorem dX2_empty_29 : decode cX2_empty 29 = .ok (.getfield 31, 3) := by decide +kernel
theorem dX2_empty_32 : decode cX2_empty 32 = .ok (.iload_n 1, 1) := by decide +kernel
theorem dX2_empty_33 : decode cX2_empty 33 = .ok (.iconst (-1), 1) := by decide +kernel
theorem dX2_empty_34 : decode cX2_empty 34 = .ok (.iastore, 1) := by decide +kernel
theorem dX2_empty_35 : decode cX2_empty 35 = .ok (.iinc 1 1, 3) := by decide +kernel
theorem dX2_empty_38 : decode cX2_empty 38 = .ok (.goto (-16), 3) := by decide +kernel
theorem dX2_empty_41 : decode cX2_empty 41 = .ok (.return_, 1) := by decide +kernel
theorem dX2_become_0 : decode cX2_become 0 = .ok (.aload_n 0, 1) := by decide +kernel
theorem dX2_become_1 : decode cX2_become 1 = .ok (.aload_n 1, 1) := by decide +kernel
theorem dX2_become_2 : decode cX2_become 2 = .ok (.getfield 9, 3) := by decide +kernel
theorem dX2_become_5 : decode cX2_become 5 = .ok (.putfield 9, 3) := by decide +kernel
theorem dX2_become_8 : decode cX2_become 8 = .ok (.aload_n 0, 1) := by decide +kernel
theorem dX2_become_9 : decode cX2_become 9 = .ok (.aload_n 1, 1) := by decide +kernel
theorem dX2_become_10 : decode cX2_become 10 = .ok (.getfield 15, 3) := by decide +kernel
theorem dX2_become_13 : decode cX2_become 13 = .ok (.putfield 15, 3) := by decide +kernel
theorem dX2_become_16 : decode cX2_become 16 = .ok (.aload_n 0, 1) := by decide +kernel
theorem dX2_become_17 : decode cX2_become 17 = .ok (.aload_n 1, 1) := by decide +kernel
theorem dX2_become_18 : decode cX2_become 18 = .ok (.getfield 18, 3) := by decide +kernel
theorem dX2_become_21 : decode cX2_become 21 = .ok (.putfield 18, 3) := by decide +kernel
theorem dX2_become_24 : decode cX2_become 24 = .ok (.aload_n 0, 1) := by decide +kernel
theorem dX2_become_25 : decode cX2_become 25 = .ok (.aload_n 1, 1) := by decide +kernel
theorem dX2_become_26 : decode cX2_become 26 = .ok (.getfield 21, 3) := by decide +kernel
theorem dX2_become_29 : decode cX2_become 29 = .ok (.putfield 21, 3) := by decide +kernel
theorem dX2_become_32 : decode cX2_become 32 = .ok (.aload_n 1, 1) := by decide +kernel
theorem dX2_become_33 : decode cX2_become 33 = .ok (.getfield 24, 3) := by decide +kernel
theorem dX2_become_36 : decode cX2_become 36 = .ok (.iconst 0, 1) := by decide +kernel
theorem dX2_become_37 : decode cX2_become 37 = .ok (.aload_n 0, 1) := by decide +kernel
theorem dX2_become_38 : decode cX2_become 38 = .ok (.getfield 24, 3) := by decide +kernel
theorem dX2_become_41 : decode cX2_become 41 = .ok (.iconst 0, 1) := by decide +kernel
theorem dX2_become_42 : decode cX2_become 42 = .ok (.bipush 7, 2) := by decide +kernel
theorem dX2_become_44 : decode cX2_become 44 = .ok (.invokestatic 37, 3) := by decide +kernel
theorem dX2_become_47 : decode cX2_become 47 = .ok (.aload_n 1, 1) := by decide +kernel
theorem dX2_become_48 : decode cX2_become 48 = .ok (.getfield 28, 3) := by decide +kernel
theorem dX2_become_51 : decode cX2_become 51 = .ok (.iconst 0, 1) := by decide +kernel
theorem dX2_become_52 : decode cX2_become 52 = .ok (.aload_n 0, 1) := by decide +kernel
theorem dX2_become_53 : decode cX2_become 53 = .ok (.getfield 28, 3) := by decide +kernel
theorem dX2_become_56 : decode cX2_become 56 = .ok (.iconst 0, 1) := by decide +kernel
theorem dX2_become_57 : decode cX2_become 57 = .ok (.bipush 7, 2) := by decide +kernel
theorem dX2_become_59 : decode cX2_become 59 = .ok (.invokestatic 37, 3) := by decide +kernel
theorem dX2_become_62 : decode cX2_become 62 = .ok (.aload_n 1, 1) := by decide +kernel
theorem dX2_become_63 : decode cX2_become 63 = .ok (.getfield 31, 3) := by decide +kernel
theorem dX2_become_66 : decode cX2_become 66 = .ok (.iconst 0, 1) := by decide +kernel
theorem dX2_become_67 : decode cX2_become 67 = .ok (.aload_n 0, 1) := by decide +kernel
theorem dX2_become_68 : decode cX2_become 68 = .ok (.getfield 31, 3) := by decide +kernel
theorem dX2_become_71 : decode cX2_become 71 = .ok (.iconst 0, 1) := by decide +kernel
theorem dX2_become_72 : decode cX2_become 72 = .ok (.bipush 7, 2) := by decide +kernel
theorem dX2_become_74 : decode cX2_become 74 = .ok (.invokestatic 37, 3) := by decide +kernel
theorem dX2_become_77 : decode cX2_become 77 = .ok (.return_, 1) := by decide +kernel
theorem dX2_isOn_0 : decode cX2_isOn 0 = .ok (.aload_n 0, 1) := by decide +kernel
theorem dX2_isOn_1 : decode cX2_isOn 1 = .ok (.getfield 31, 3) := by decide +kernel
theorem dX2_isOn_4 : decode cX2_isOn 4 = .ok (.iload_n 1, 1) := by decide +kernel
theorem dX2_isOn_5 : decode cX2_isOn 5 = .ok (.iaload, 1) := by decide +kernel
theorem dX2_isOn_6 : decode cX2_isOn 6 = .ok (.ifCond .lt 20, 3) := by decide +kernel
theorem dX2_isOn_9 : decode cX2_isOn 9 = .ok (.aload_n 0, 1) := by decide +kernel
theorem dX2_isOn_10 : decode cX2_isOn 10 = .ok (.getfield 31, 3) := by decide +kernel
theorem dX2_isOn_13 : decode cX2_isOn 13 = .ok (.iload_n 1, 1) := by decide +kernel
theorem dX2_isOn_14 : decode cX2_isOn 14 = .ok (.iaload, 1) := by decide +kernel
theorem dX2_isOn_15 : decode cX2_isOn 15 = .ok (.aload_n 0, 1) := by decide +kernel
theorem dX2_isOn_16 : decode cX2_isOn 16 = .ok (.getfield 9, 3) := by decide +kernel
theorem dX2_isOn_19 : decode cX2_isOn 19 = .ok (.if_icmp .ge 7, 3) := by decide +kernel
theorem dX2_isOn_22 : decode cX2_isOn 22 = .ok (.iconst 1, 1) := by decide +kernel
theorem dX2_isOn_23 : decode cX2_isOn 23 = .ok (.goto 4, 3) := by decide +kernel
theorem dX2_isOn_26 : decode cX2_isOn 26 = .ok (.iconst 0, 1) := by decide +kernel
theorem dX2_isOn_27 : decode cX2_isOn 27 = .ok (.ireturn, 1) := by decide +kernel
theorem dX2_takesBoth_0 : decode cX2_takesBoth 0 = .ok (.aload_n 0, 1) := by decide +kernel
theorem dX2_takesBoth_1 : decode cX2_takesBoth 1 = .ok (.getfield 24, 3) := by decide +kernel
theorem dX2_takesBoth_4 : decode cX2_takesBoth 4 = .ok (.iload_n 1, 1) := by decide +kernel
theorem dX2_takesBoth_5 : decode cX2_takesBoth 5 = .ok (.iaload, 1) := by decide +kernel
theorem dX2_takesBoth_6 : decode cX2_takesBoth 6 = .ok (.iconst 4, 1) := by decide +kernel
theorem dX2_takesBoth_7 : decode cX2_takesBoth 7 = .ok (.if_icmp .lt 7, 3) := by decide +kernel
theorem dX2_takesBoth_10 : decode cX2_takesBoth 10 = .ok (.iconst 1, 1) := by decide +kernel
theorem dX2_takesBoth_11 : decode cX2_takesBoth 11 = .ok (.goto 4, 3) := by decide +kernel
theorem dX2_takesBoth_14 : decode cX2_takesBoth 14 = .ok (.iconst 0, 1) := by decide +kernel
theorem dX2_takesBoth_15 : decode cX2_takesBoth 15 = .ok (.ireturn, 1) := by decide +kernel
theorem dX2_isFree_0 : decode cX2_isFree 0 = .ok (.aload_n 0, 1) := by decide +kernel
theorem dX2_isFree_1 : decode cX2_isFree 1 = .ok (.getfield 24, 3) := by decide +kernel
theorem dX2_isFree_4 : decode cX2_isFree 4 = .ok (.iload_n 1, 1) := by decide +kernel
theorem dX2_isFree_5 : decode cX2_isFree 5 = .ok (.iaload, 1) := by decide +kernel
theorem dX2_isFree_6 : decode cX2_isFree 6 = .ok (.iconst 4, 1) := by decide +kernel
theorem dX2_isFree_7 : decode cX2_isFree 7 = .ok (.if_icmp .lt 7, 3) := by decide +kernel
theorem dX2_isFree_10 : decode cX2_isFree 10 = .ok (.iconst 1, 1) := by decide +kernel
theorem dX2_isFree_11 : decode cX2_isFree 11 = .ok (.goto 4, 3) := by decide +kernel
theorem dX2_isFree_14 : decode cX2_isFree 14 = .ok (.iconst 0, 1) := by decide +kernel
theorem dX2_isFree_15 : decode cX2_isFree 15 = .ok (.istore_n 3, 1) := by decide +kernel
theorem dX2_isFree_16 : decode cX2_isFree 16 = .ok (.iconst 0, 1) := by decide +kernel
theorem dX2_isFree_17 : decode cX2_isFree 17 = .ok (.istore 4, 2) := by decide +kernel
theorem dX2_isFree_19 : decode cX2_isFree 19 = .ok (.iload 4, 2) := by decide +kernel
theorem dX2_isFree_21 : decode cX2_isFree 21 = .ok (.aload_n 0, 1) := by decide +kernel
theorem dX2_isFree_22 : decode cX2_isFree 22 = .ok (.getfield 21, 3) := by decide +kernel
theorem dX2_isFree_25 : decode cX2_isFree 25 = .ok (.if_icmp .ge 59, 3) := by decide +kernel
theorem dX2_isFree_28 : decode cX2_isFree 28 = .ok (.iload 4, 2) := by decide +kernel
theorem dX2_isFree_30 : decode cX2_isFree 30 = .ok (.iload_n 1, 1) := by decide +kernel
theorem dX2_isFree_31 : decode cX2_isFree 31 = .ok (.if_icmp .eq 47, 3) := by decide +kernel
theorem dX2_isFree_34 : decode cX2_isFree 34 = .ok (.aload_n 0, 1) := by decide +kernel
theorem dX2_isFree_35 : decode cX2_isFree 35 = .ok (.getfield 31, 3) := by decide +kernel
theorem dX2_isFree_38 : decode cX2_isFree 38 = .ok (.iload 4, 2) := by decide +kernel
theorem dX2_isFree_40 : decode cX2_isFree 40 = .ok (.iaload, 1) := by decide +kernel
theorem dX2_isFree_41 : decode cX2_isFree 41 = .ok (.iload_n 2, 1) := by decide +kernel
theorem dX2_isFree_42 : decode cX2_isFree 42 = .ok (.if_icmp .ne 36, 3) := by decide +kernel
theorem dX2_isFree_45 : decode cX2_isFree 45 = .ok (.iload_n 3, 1) := by decide +kernel
theorem dX2_isFree_46 : decode cX2_isFree 46 = .ok (.ifCond .ne 30, 3) := by decide +kernel
theorem dX2_isFree_49 : decode cX2_isFree 49 = .ok (.aload_n 0, 1) := by decide +kernel
theorem dX2_isFree_50 : decode cX2_isFree 50 = .ok (.getfield 24, 3) := by decide +kernel
theorem dX2_isFree_53 : decode cX2_isFree 53 = .ok (.iload 4, 2) := by decide +kernel
theorem dX2_isFree_55 : decode cX2_isFree 55 = .ok (.iaload, 1) := by decide +kernel
theorem dX2_isFree_56 : decode cX2_isFree 56 = .ok (.iconst 4, 1) := by decide +kernel
theorem dX2_isFree_57 : decode cX2_isFree 57 = .ok (.if_icmp .ge 19, 3) := by decide +kernel
theorem dX2_isFree_60 : decode cX2_isFree 60 = .ok (.aload_n 0, 1) := by decide +kernel
theorem dX2_isFree_61 : decode cX2_isFree 61 = .ok (.getfield 28, 3) := by decide +kernel
theorem dX2_isFree_64 : decode cX2_isFree 64 = .ok (.iload 4, 2) := by decide +kernel
theorem dX2_isFree_66 : decode cX2_isFree 66 = .ok (.iaload, 1) := by decide +kernel
theorem dX2_isFree_67 : decode cX2_isFree 67 = .ok (.aload_n 0, 1) := by decide +kernel
theorem dX2_isFree_68 : decode cX2_isFree 68 = .ok (.getfield 28, 3) := by decide +kernel
theorem dX2_isFree_71 : decode cX2_isFree 71 = .ok (.iload_n 1, 1) := by decide +kernel
theorem dX2_isFree_72 : decode cX2_isFree 72 = .ok (.iaload, 1) := by decide +kernel
theorem dX2_isFree_73 : decode cX2_isFree 73 = .ok (.if_icmp .ne 5, 3) := by decide +kernel
theorem dX2_isFree_76 : decode cX2_isFree 76 = .ok (.iconst 0, 1) := by decide +kernel
theorem dX2_isFree_77 : decode cX2_isFree 77 = .ok (.ireturn, 1) := by decide +kernel
theorem dX2_isFree_78 : decode cX2_isFree 78 = .ok (.iinc 4 1, 3) := by decide +kernel
theorem dX2_isFree_81 : decode cX2_isFree 81 = .ok (.goto (-62), 3) := by decide +kernel
theorem dX2_isFree_84 : decode cX2_isFree 84 = .ok (.iconst 1, 1) := by decide +kernel
theorem dX2_isFree_85 : decode cX2_isFree 85 = .ok (.ireturn, 1) := by decide +kernel
theorem dX2_mayGo_0 : decode cX2_mayGo 0 = .ok (.iload_n 2, 1) := by decide +kernel
theorem dX2_mayGo_1 : decode cX2_mayGo 1 = .ok (.ifCond .lt 24, 3) := by decide +kernel
theorem dX2_mayGo_4 : decode cX2_mayGo 4 = .ok (.iload_n 2, 1) := by decide +kernel
theorem dX2_mayGo_5 : decode cX2_mayGo 5 = .ok (.aload_n 0, 1) := by decide +kernel
theorem dX2_mayGo_6 : decode cX2_mayGo 6 = .ok (.getfield 9, 3) := by decide +kernel
theorem dX2_mayGo_9 : decode cX2_mayGo 9 = .ok (.if_icmp .ge 16, 3) := by decide +kernel
theorem dX2_mayGo_12 : decode cX2_mayGo 12 = .ok (.aload_n 0, 1) := by decide +kernel
theorem dX2_mayGo_13 : decode cX2_mayGo 13 = .ok (.iload_n 1, 1) := by decide +kernel
theorem dX2_mayGo_14 : decode cX2_mayGo 14 = .ok (.iload_n 2, 1) := by decide +kernel
theorem dX2_mayGo_15 : decode cX2_mayGo 15 = .ok (.invokevirtual 43, 3) := by decide +kernel
theorem dX2_mayGo_18 : decode cX2_mayGo 18 = .ok (.ifCond .eq 7, 3) := by decide +kernel
theorem dX2_mayGo_21 : decode cX2_mayGo 21 = .ok (.iconst 1, 1) := by decide +kernel
theorem dX2_mayGo_22 : decode cX2_mayGo 22 = .ok (.goto 4, 3) := by decide +kernel
theorem dX2_mayGo_25 : decode cX2_mayGo 25 = .ok (.iconst 0, 1) := by decide +kernel
theorem dX2_mayGo_26 : decode cX2_mayGo 26 = .ok (.ireturn, 1) := by decide +kernel
theorem dX2_mayCross_0 : decode cX2_mayCross 0 = .ok (.aload_n 0, 1) := by decide +kernel
theorem dX2_mayCross_1 : decode cX2_mayCross 1 = .ok (.iload_n 1, 1) := by decide +kernel
theorem dX2_mayCross_2 : decode cX2_mayCross 2 = .ok (.invokevirtual 47, 3) := by decide +kernel
theorem dX2_mayCross_5 : decode cX2_mayCross 5 = .ok (.ifCond .eq 32, 3) := by decide +kernel
theorem dX2_mayCross_8 : decode cX2_mayCross 8 = .ok (.aload_n 0, 1) := by decide +kernel
theorem dX2_mayCross_9 : decode cX2_mayCross 9 = .ok (.iload_n 1, 1) := by decide +kernel
theorem dX2_mayCross_10 : decode cX2_mayCross 10 = .ok (.invokevirtual 51, 3) := by decide +kernel
theorem dX2_mayCross_13 : decode cX2_mayCross 13 = .ok (.ifCond .ne 24, 3) := by decide +kernel
theorem dX2_mayCross_16 : decode cX2_mayCross 16 = .ok (.aload_n 0, 1) := by decide +kernel
theorem dX2_mayCross_17 : decode cX2_mayCross 17 = .ok (.aload_n 0, 1) := by decide +kernel
theorem dX2_mayCross_18 : decode cX2_mayCross 18 = .ok (.getfield 31, 3) := by decide +kernel
theorem dX2_mayCross_21 : decode cX2_mayCross 21 = .ok (.iload_n 1, 1) := by decide +kernel
theorem dX2_mayCross_22 : decode cX2_mayCross 22 = .ok (.iaload, 1) := by decide +kernel
theorem dX2_mayCross_23 : decode cX2_mayCross 23 = .ok (.iconst 1, 1) := by decide +kernel
theorem dX2_mayCross_24 : decode cX2_mayCross 24 = .ok (.aload_n 0, 1) := by decide +kernel
theorem dX2_mayCross_25 : decode cX2_mayCross 25 = .ok (.getfield 28, 3) := by decide +kernel
theorem dX2_mayCross_28 : decode cX2_mayCross 28 = .ok (.iload_n 1, 1) := by decide +kernel
theorem dX2_mayCross_29 : decode cX2_mayCross 29 = .ok (.iaload, 1) := by decide +kernel
theorem dX2_mayCross_30 : decode cX2_mayCross 30 = .ok (.isub, 1) := by decide +kernel
theorem dX2_mayCross_31 : decode cX2_mayCross 31 = .ok (.invokevirtual 54, 3) := by decide +kernel
theorem dX2_mayCross_34 : decode cX2_mayCross 34 = .ok (.ifCond .ne 7, 3) := by decide +kernel
theorem dX2_mayCross_37 : decode cX2_mayCross 37 = .ok (.iconst 1, 1) := by decide +kernel
theorem dX2_mayCross_38 : decode cX2_mayCross 38 = .ok (.goto 4, 3) := by decide +kernel
theorem dX2_mayCross_41 : decode cX2_mayCross 41 = .ok (.iconst 0, 1) := by decide +kernel
theorem dX2_mayCross_42 : decode cX2_mayCross 42 = .ok (.ireturn, 1) := by decide +kernel
theorem dX2_whoTakes_0 : decode cX2_whoTakes 0 = .ok (.iconst 0, 1) := by decide +kernel
theorem dX2_whoTakes_1 : decode cX2_whoTakes 1 = .ok (.istore_n 3, 1) := by decide +kernel
theorem dX2_whoTakes_2 : decode cX2_whoTakes 2 = .ok (.iconst 0, 1) := by decide +kernel
theorem dX2_whoTakes_3 : decode cX2_whoTakes 3 = .ok (.istore 4, 2) := by decide +kernel
theorem dX2_whoTakes_5 : decode cX2_whoTakes 5 = .ok (.iload 4, 2) := by decide +kernel
theorem dX2_whoTakes_7 : decode cX2_whoTakes 7 = .ok (.aload_n 0, 1) := by decide +kernel
theorem dX2_whoTakes_8 : decode cX2_whoTakes 8 = .ok (.getfield 21, 3) := by decide +kernel
theorem dX2_whoTakes_11 : decode cX2_whoTakes 11 = .ok (.if_icmp .ge 47, 3) := by decide +kernel
theorem dX2_whoTakes_14 : decode cX2_whoTakes 14 = .ok (.aload_n 0, 1) := by decide +kernel
theorem dX2_whoTakes_15 : decode cX2_whoTakes 15 = .ok (.getfield 31, 3) := by decide +kernel
theorem dX2_whoTakes_18 : decode cX2_whoTakes 18 = .ok (.iload 4, 2) := by decide +kernel
theorem dX2_whoTakes_20 : decode cX2_whoTakes 20 = .ok (.iaload, 1) := by decide +kernel
theorem dX2_whoTakes_21 : decode cX2_whoTakes 21 = .ok (.iload_n 1, 1) := by decide +kernel
theorem dX2_whoTakes_22 : decode cX2_whoTakes 22 = .ok (.if_icmp .ne 30, 3) := by decide +kernel
theorem dX2_whoTakes_25 : decode cX2_whoTakes 25 = .ok (.aload_n 0, 1) := by decide +kernel
theorem dX2_whoTakes_26 : decode cX2_whoTakes 26 = .ok (.getfield 28, 3) := by decide +kernel
theorem dX2_whoTakes_29 : decode cX2_whoTakes 29 = .ok (.iload 4, 2) := by decide +kernel
theorem dX2_whoTakes_31 : decode cX2_whoTakes 31 = .ok (.iaload, 1) := by decide +kernel
theorem dX2_whoTakes_32 : decode cX2_whoTakes 32 = .ok (.iload_n 2, 1) := by decide +kernel
theorem dX2_whoTakes_33 : decode cX2_whoTakes 33 = .ok (.if_icmp .eq 12, 3) := by decide +kernel
theorem dX2_whoTakes_36 : decode cX2_whoTakes 36 = .ok (.aload_n 0, 1) := by decide +kernel
theorem dX2_whoTakes_37 : decode cX2_whoTakes 37 = .ok (.iload 4, 2) := by decide +kernel
theorem dX2_whoTakes_39 : decode cX2_whoTakes 39 = .ok (.invokevirtual 51, 3) := by decide +kernel
theorem dX2_whoTakes_42 : decode cX2_whoTakes 42 = .ok (.ifCond .eq 10, 3) := by decide +kernel
theorem dX2_whoTakes_45 : decode cX2_whoTakes 45 = .ok (.iload_n 3, 1) := by decide +kernel
theorem dX2_whoTakes_46 : decode cX2_whoTakes 46 = .ok (.iconst 1, 1) := by decide +kernel
theorem dX2_whoTakes_47 : decode cX2_whoTakes 47 = .ok (.iload 4, 2) := by decide +kernel
theorem dX2_whoTakes_49 : decode cX2_whoTakes 49 = .ok (.ishl, 1) := by decide +kernel
theorem dX2_whoTakes_50 : decode cX2_whoTakes 50 = .ok (.ior, 1) := by decide +kernel
theorem dX2_whoTakes_51 : decode cX2_whoTakes 51 = .ok (.istore_n 3, 1) := by decide +kernel
theorem dX2_whoTakes_52 : decode cX2_whoTakes 52 = .ok (.iinc 4 1, 3) := by decide +kernel
theorem dX2_whoTakes_55 : decode cX2_whoTakes 55 = .ok (.goto (-50), 3) := by decide +kernel
theorem dX2_whoTakes_58 : decode cX2_whoTakes 58 = .ok (.iload_n 3, 1) := by decide +kernel
theorem dX2_whoTakes_59 : decode cX2_whoTakes 59 = .ok (.ireturn, 1) := by decide +kernel
theorem dX2_whoIsAt_0 : decode cX2_whoIsAt 0 = .ok (.iconst 0, 1) := by decide +kernel
theorem dX2_whoIsAt_1 : decode cX2_whoIsAt 1 = .ok (.istore_n 2, 1) := by decide +kernel
theorem dX2_whoIsAt_2 : decode cX2_whoIsAt 2 = .ok (.iconst 0, 1) := by decide +kernel
theorem dX2_whoIsAt_3 : decode cX2_whoIsAt 3 = .ok (.istore_n 3, 1) := by decide +kernel
theorem dX2_whoIsAt_4 : decode cX2_whoIsAt 4 = .ok (.iload_n 3, 1) := by decide +kernel
theorem dX2_whoIsAt_5 : decode cX2_whoIsAt 5 = .ok (.aload_n 0, 1) := by decide +kernel
theorem dX2_whoIsAt_6 : decode cX2_whoIsAt 6 = .ok (.getfield 21, 3) := by decide +kernel
theorem dX2_whoIsAt_9 : decode cX2_whoIsAt 9 = .ok (.if_icmp .ge 25, 3) := by decide +kernel
theorem dX2_whoIsAt_12 : decode cX2_whoIsAt 12 = .ok (.aload_n 0, 1) := by decide +kernel
theorem dX2_whoIsAt_13 : decode cX2_whoIsAt 13 = .ok (.getfield 31, 3) := by decide +kernel
theorem dX2_whoIsAt_16 : decode cX2_whoIsAt 16 = .ok (.iload_n 3, 1) := by decide +kernel
theorem dX2_whoIsAt_17 : decode cX2_whoIsAt 17 = .ok (.iaload, 1) := by decide +kernel
theorem dX2_whoIsAt_18 : decode cX2_whoIsAt 18 = .ok (.iload_n 1, 1) := by decide +kernel
theorem dX2_whoIsAt_19 : decode cX2_whoIsAt 19 = .ok (.if_icmp .ne 9, 3) := by decide +kernel
theorem dX2_whoIsAt_22 : decode cX2_whoIsAt 22 = .ok (.iload_n 2, 1) := by decide +kernel
theorem dX2_whoIsAt_23 : decode cX2_whoIsAt 23 = .ok (.iconst 1, 1) := by decide +kernel
theorem dX2_whoIsAt_24 : decode cX2_whoIsAt 24 = .ok (.iload_n 3, 1) := by decide +kernel
theorem dX2_whoIsAt_25 : decode cX2_whoIsAt 25 = .ok (.ishl, 1) := by decide +kernel
theorem dX2_whoIsAt_26 : decode cX2_whoIsAt 26 = .ok (.ior, 1) := by decide +kernel
theorem dX2_whoIsAt_27 : decode cX2_whoIsAt 27 = .ok (.istore_n 2, 1) := by decide +kernel
theorem dX2_whoIsAt_28 : decode cX2_whoIsAt 28 = .ok (.iinc 3 1, 3) := by decide +kernel
theorem dX2_whoIsAt_31 : decode cX2_whoIsAt 31 = .ok (.goto (-27), 3) := by decide +kernel
theorem dX2_whoIsAt_34 : decode cX2_whoIsAt 34 = .ok (.iload_n 2, 1) := by decide +kernel
theorem dX2_whoIsAt_35 : decode cX2_whoIsAt 35 = .ok (.ireturn, 1) := by decide +kernel
theorem dX2_howManyAt_0 : decode cX2_howManyAt 0 = .ok (.aload_n 0, 1) := by decide +kernel
theorem dX2_howManyAt_1 : decode cX2_howManyAt 1 = .ok (.iload_n 1, 1) := by decide +kernel
theorem dX2_howManyAt_2 : decode cX2_howManyAt 2 = .ok (.invokevirtual 58, 3) := by decide +kernel
theorem dX2_howManyAt_5 : decode cX2_howManyAt 5 = .ok (.invokestatic 62, 3) := by decide +kernel
theorem dX2_howManyAt_8 : decode cX2_howManyAt 8 = .ok (.ireturn, 1) := by decide +kernel
theorem dX2_stepsTaken_0 : decode cX2_stepsTaken 0 = .ok (.iconst 0, 1) := by decide +kernel
theorem dX2_stepsTaken_1 : decode cX2_stepsTaken 1 = .ok (.istore_n 1, 1) := by decide +kernel
theorem dX2_stepsTaken_2 : decode cX2_stepsTaken 2 = .ok (.iconst 0, 1) := by decide +kernel
theorem dX2_stepsTaken_3 : decode cX2_stepsTaken 3 = .ok (.istore_n 2, 1) := by decide +kernel
theorem dX2_stepsTaken_4 : decode cX2_stepsTaken 4 = .ok (.iload_n 2, 1) := by decide +kernel
theorem dX2_stepsTaken_5 : decode cX2_stepsTaken 5 = .ok (.aload_n 0, 1) := by decide +kernel
theorem dX2_stepsTaken_6 : decode cX2_stepsTaken 6 = .ok (.getfield 21, 3) := by decide +kernel
theorem dX2_stepsTaken_9 : decode cX2_stepsTaken 9 = .ok (.if_icmp .ge 28, 3) := by decide +kernel
theorem dX2_stepsTaken_12 : decode cX2_stepsTaken 12 = .ok (.aload_n 0, 1) := by decide +kernel
theorem dX2_stepsTaken_13 : decode cX2_stepsTaken 13 = .ok (.iload_n 2, 1) := by decide +kernel
theorem dX2_stepsTaken_14 : decode cX2_stepsTaken 14 = .ok (.invokevirtual 47, 3) := by decide +kernel
theorem dX2_stepsTaken_17 : decode cX2_stepsTaken 17 = .ok (.ifCond .eq 14, 3) := by decide +kernel
theorem dX2_stepsTaken_20 : decode cX2_stepsTaken 20 = .ok (.iload_n 1, 1) := by decide +kernel
theorem dX2_stepsTaken_21 : decode cX2_stepsTaken 21 = .ok (.iconst 1, 1) := by decide +kernel
theorem dX2_stepsTaken_22 : decode cX2_stepsTaken 22 = .ok (.aload_n 0, 1) := by decide +kernel
theorem dX2_stepsTaken_23 : decode cX2_stepsTaken 23 = .ok (.getfield 31, 3) := by decide +kernel
theorem dX2_stepsTaken_26 : decode cX2_stepsTaken 26 = .ok (.iload_n 2, 1) := by decide +kernel
theorem dX2_stepsTaken_27 : decode cX2_stepsTaken 27 = .ok (.iaload, 1) := by decide +kernel
theorem dX2_stepsTaken_28 : decode cX2_stepsTaken 28 = .ok (.ishl, 1) := by decide +kernel
theorem dX2_stepsTaken_29 : decode cX2_stepsTaken 29 = .ok (.ior, 1) := by decide +kernel
theorem dX2_stepsTaken_30 : decode cX2_stepsTaken 30 = .ok (.istore_n 1, 1) := by decide +kernel
theorem dX2_stepsTaken_31 : decode cX2_stepsTaken 31 = .ok (.iinc 2 1, 3) := by decide +kernel
theorem dX2_stepsTaken_34 : decode cX2_stepsTaken 34 = .ok (.goto (-30), 3) := by decide +kernel
theorem dX2_stepsTaken_37 : decode cX2_stepsTaken 37 = .ok (.iload_n 1, 1) := by decide +kernel
theorem dX2_stepsTaken_38 : decode cX2_stepsTaken 38 = .ok (.ireturn, 1) := by decide +kernel
theorem dX2_isClear_0 : decode cX2_isClear 0 = .ok (.aload_n 0, 1) := by decide +kernel
theorem dX2_isClear_1 : decode cX2_isClear 1 = .ok (.bipush 99, 2) := by decide +kernel
theorem dX2_isClear_3 : decode cX2_isClear 3 = .ok (.invokevirtual 67, 3) := by decide +kernel
theorem dX2_isClear_6 : decode cX2_isClear 6 = .ok (.aload_n 0, 1) := by decide +kernel
theorem dX2_isClear_7 : decode cX2_isClear 7 = .ok (.getfield 21, 3) := by decide +kernel
theorem dX2_isClear_10 : decode cX2_isClear 10 = .ok (.if_icmp .ne 7, 3) := by decide +kernel
theorem dX2_isClear_13 : decode cX2_isClear 13 = .ok (.iconst 1, 1) := by decide +kernel
theorem dX2_isClear_14 : decode cX2_isClear 14 = .ok (.goto 4, 3) := by decide +kernel
theorem dX2_isClear_17 : decode cX2_isClear 17 = .ok (.iconst 0, 1) := by decide +kernel
theorem dX2_isClear_18 : decode cX2_isClear 18 = .ok (.ireturn, 1) := by decide +kernel
theorem dX2_sendBack_0 : decode cX2_sendBack 0 = .ok (.aload_n 0, 1) := by decide +kernel
theorem dX2_sendBack_1 : decode cX2_sendBack 1 = .ok (.getfield 31, 3) := by decide +kernel
theorem dX2_sendBack_4 : decode cX2_sendBack 4 = .ok (.iload_n 1, 1) := by decide +kernel
theorem dX2_sendBack_5 : decode cX2_sendBack 5 = .ok (.iconst (-1), 1) := by decide +kernel
theorem dX2_sendBack_6 : decode cX2_sendBack 6 = .ok (.iastore, 1) := by decide +kernel
theorem dX2_sendBack_7 : decode cX2_sendBack 7 = .ok (.aload_n 0, 1) := by decide +kernel
theorem dX2_sendBack_8 : decode cX2_sendBack 8 = .ok (.getfield 28, 3) := by decide +kernel
theorem dX2_sendBack_11 : decode cX2_sendBack 11 = .ok (.iload_n 1, 1) := by decide +kernel
theorem dX2_sendBack_12 : decode cX2_sendBack 12 = .ok (.iload_n 2, 1) := by decide +kernel
theorem dX2_sendBack_13 : decode cX2_sendBack 13 = .ok (.iastore, 1) := by decide +kernel
theorem dX2_sendBack_14 : decode cX2_sendBack 14 = .ok (.return_, 1) := by decide +kernel
theorem dX2_putInLanes_0 : decode cX2_putInLanes 0 = .ok (.iconst 0, 1) := by decide +kernel
theorem dX2_putInLanes_1 : decode cX2_putInLanes 1 = .ok (.istore_n 3, 1) := by decide +kernel
theorem dX2_putInLanes_2 : decode cX2_putInLanes 2 = .ok (.iload_n 3, 1) := by decide +kernel
theorem dX2_putInLanes_3 : decode cX2_putInLanes 3 = .ok (.aload_n 0, 1) := by decide +kernel
theorem dX2_putInLanes_4 : decode cX2_putInLanes 4 = .ok (.getfield 21, 3) := by decide +kernel
theorem dX2_putInLanes_7 : decode cX2_putInLanes 7 = .ok (.if_icmp .ge 29, 3) := by decide +kernel
theorem dX2_putInLanes_10 : decode cX2_putInLanes 10 = .ok (.iload_n 1, 1) := by decide +kernel
theorem dX2_putInLanes_11 : decode cX2_putInLanes 11 = .ok (.iload_n 3, 1) := by decide +kernel
theorem dX2_putInLanes_12 : decode cX2_putInLanes 12 = .ok (.ishr, 1) := by decide +kernel
theorem dX2_putInLanes_13 : decode cX2_putInLanes 13 = .ok (.iconst 1, 1) := by decide +kernel
theorem dX2_putInLanes_14 : decode cX2_putInLanes 14 = .ok (.iand, 1) := by decide +kernel
theorem dX2_putInLanes_15 : decode cX2_putInLanes 15 = .ok (.iconst 1, 1) := by decide +kernel
theorem dX2_putInLanes_16 : decode cX2_putInLanes 16 = .ok (.if_icmp .ne 14, 3) := by decide +kernel
theorem dX2_putInLanes_19 : decode cX2_putInLanes 19 = .ok (.aload_n 0, 1) := by decide +kernel
theorem dX2_putInLanes_20 : decode cX2_putInLanes 20 = .ok (.getfield 28, 3) := by decide +kernel
theorem dX2_putInLanes_23 : decode cX2_putInLanes 23 = .ok (.iload_n 3, 1) := by decide +kernel
theorem dX2_putInLanes_24 : decode cX2_putInLanes 24 = .ok (.iload_n 2, 1) := by decide +kernel
theorem dX2_putInLanes_25 : decode cX2_putInLanes 25 = .ok (.iload_n 3, 1) := by decide +kernel
theorem dX2_putInLanes_26 : decode cX2_putInLanes 26 = .ok (.ishr, 1) := by decide +kernel
theorem dX2_putInLanes_27 : decode cX2_putInLanes 27 = .ok (.iconst 1, 1) := by decide +kernel
theorem dX2_putInLanes_28 : decode cX2_putInLanes 28 = .ok (.iand, 1) := by decide +kernel
theorem dX2_putInLanes_29 : decode cX2_putInLanes 29 = .ok (.iastore, 1) := by decide +kernel
theorem dX2_putInLanes_30 : decode cX2_putInLanes 30 = .ok (.iinc 3 1, 3) := by decide +kernel
theorem dX2_putInLanes_33 : decode cX2_putInLanes 33 = .ok (.goto (-31), 3) := by decide +kernel
theorem dX2_putInLanes_36 : decode cX2_putInLanes 36 = .ok (.return_, 1) := by decide +kernel
theorem dX2_takeOff_0 : decode cX2_takeOff 0 = .ok (.iconst 0, 1) := by decide +kernel
theorem dX2_takeOff_1 : decode cX2_takeOff 1 = .ok (.istore_n 2, 1) := by decide +kernel
theorem dX2_takeOff_2 : decode cX2_takeOff 2 = .ok (.iload_n 2, 1) := by decide +kernel
theorem dX2_takeOff_3 : decode cX2_takeOff 3 = .ok (.aload_n 0, 1) := by decide +kernel
theorem dX2_takeOff_4 : decode cX2_takeOff 4 = .ok (.getfield 21, 3) := by decide +kernel
theorem dX2_takeOff_7 : decode cX2_takeOff 7 = .ok (.if_icmp .ge 26, 3) := by decide +kernel
theorem dX2_takeOff_10 : decode cX2_takeOff 10 = .ok (.iload_n 1, 1) := by decide +kernel
theorem dX2_takeOff_11 : decode cX2_takeOff 11 = .ok (.iload_n 2, 1) := by decide +kernel
theorem dX2_takeOff_12 : decode cX2_takeOff 12 = .ok (.ishr, 1) := by decide +kernel
theorem dX2_takeOff_13 : decode cX2_takeOff 13 = .ok (.iconst 1, 1) := by decide +kernel
theorem dX2_takeOff_14 : decode cX2_takeOff 14 = .ok (.iand, 1) := by decide +kernel
theorem dX2_takeOff_15 : decode cX2_takeOff 15 = .ok (.iconst 1, 1) := by decide +kernel
theorem dX2_takeOff_16 : decode cX2_takeOff 16 = .ok (.if_icmp .ne 11, 3) := by decide +kernel
theorem dX2_takeOff_19 : decode cX2_takeOff 19 = .ok (.aload_n 0, 1) := by decide +kernel
theorem dX2_takeOff_20 : decode cX2_takeOff 20 = .ok (.getfield 31, 3) := by decide +kernel
theorem dX2_takeOff_23 : decode cX2_takeOff 23 = .ok (.iload_n 2, 1) := by decide +kernel
theorem dX2_takeOff_24 : decode cX2_takeOff 24 = .ok (.bipush 99, 2) := by decide +kernel
theorem dX2_takeOff_26 : decode cX2_takeOff 26 = .ok (.iastore, 1) := by decide +kernel
theorem dX2_takeOff_27 : decode cX2_takeOff 27 = .ok (.iinc 2 1, 3) := by decide +kernel
theorem dX2_takeOff_30 : decode cX2_takeOff 30 = .ok (.goto (-28), 3) := by decide +kernel
theorem dX2_takeOff_33 : decode cX2_takeOff 33 = .ok (.return_, 1) := by decide +kernel
theorem dX2_draw_0 : decode cX2_draw 0 = .ok (.aload_n 0, 1) := by decide +kernel
theorem dX2_draw_1 : decode cX2_draw 1 = .ok (.getfield 21, 3) := by decide +kernel
theorem dX2_draw_4 : decode cX2_draw 4 = .ok (.ifCond .ne 4, 3) := by decide +kernel
theorem dX2_draw_7 : decode cX2_draw 7 = .ok (.return_, 1) := by decide +kernel
theorem dX2_draw_8 : decode cX2_draw 8 = .ok (.iload_n 1, 1) := by decide +kernel
theorem dX2_draw_9 : decode cX2_draw 9 = .ok (.iconst 4, 1) := by decide +kernel
theorem dX2_draw_10 : decode cX2_draw 10 = .ok (.irem, 1) := by decide +kernel
theorem dX2_draw_11 : decode cX2_draw 11 = .ok (.ifCond .ne 10, 3) := by decide +kernel
theorem dX2_draw_14 : decode cX2_draw 14 = .ok (.aload_n 0, 1) := by decide +kernel
theorem dX2_draw_15 : decode cX2_draw 15 = .ok (.iload_n 1, 1) := by decide +kernel
theorem dX2_draw_16 : decode cX2_draw 16 = .ok (.iconst 3, 1) := by decide +kernel
theorem dX2_draw_17 : decode cX2_draw 17 = .ok (.irem, 1) := by decide +kernel
theorem dX2_draw_18 : decode cX2_draw 18 = .ok (.putfield 15, 3) := by decide +kernel
theorem dX2_draw_21 : decode cX2_draw 21 = .ok (.aload_n 0, 1) := by decide +kernel
theorem dX2_draw_22 : decode cX2_draw 22 = .ok (.getfield 31, 3) := by decide +kernel
theorem dX2_draw_25 : decode cX2_draw 25 = .ok (.iload_n 1, 1) := by decide +kernel
theorem dX2_draw_26 : decode cX2_draw 26 = .ok (.aload_n 0, 1) := by decide +kernel
theorem dX2_draw_27 : decode cX2_draw 27 = .ok (.getfield 21, 3) := by decide +kernel
theorem dX2_draw_30 : decode cX2_draw 30 = .ok (.irem, 1) := by decide +kernel
theorem dX2_draw_31 : decode cX2_draw 31 = .ok (.iaload, 1) := by decide +kernel
theorem dX2_draw_32 : decode cX2_draw 32 = .ok (.bipush 99, 2) := by decide +kernel
theorem dX2_draw_34 : decode cX2_draw 34 = .ok (.if_icmp .ne 16, 3) := by decide +kernel
theorem dX2_draw_37 : decode cX2_draw 37 = .ok (.aload_n 0, 1) := by decide +kernel
theorem dX2_draw_38 : decode cX2_draw 38 = .ok (.iload_n 1, 1) := by decide +kernel
theorem dX2_draw_39 : decode cX2_draw 39 = .ok (.aload_n 0, 1) := by decide +kernel
theorem dX2_draw_40 : decode cX2_draw 40 = .ok (.getfield 21, 3) := by decide +kernel
theorem dX2_draw_43 : decode cX2_draw 43 = .ok (.irem, 1) := by decide +kernel
theorem dX2_draw_44 : decode cX2_draw 44 = .ok (.iload_n 1, 1) := by decide +kernel
theorem dX2_draw_45 : decode cX2_draw 45 = .ok (.iconst 2, 1) := by decide +kernel
theorem dX2_draw_46 : decode cX2_draw 46 = .ok (.irem, 1) := by decide +kernel
theorem dX2_draw_47 : decode cX2_draw 47 = .ok (.invokevirtual 70, 3) := by decide +kernel
theorem dX2_draw_50 : decode cX2_draw 50 = .ok (.return_, 1) := by decide +kernel
theorem dX2_pass_0 : decode cX2_pass 0 = .ok (.aload_n 0, 1) := by decide +kernel
theorem dX2_pass_1 : decode cX2_pass 1 = .ok (.invokevirtual 74, 3) := by decide +kernel
theorem dX2_pass_4 : decode cX2_pass 4 = .ok (.iconst 0, 1) := by decide +kernel
theorem dX2_pass_5 : decode cX2_pass 5 = .ok (.istore_n 1, 1) := by decide +kernel
theorem dX2_pass_6 : decode cX2_pass 6 = .ok (.iload_n 1, 1) := by decide +kernel
theorem dX2_pass_7 : decode cX2_pass 7 = .ok (.aload_n 0, 1) := by decide +kernel
theorem dX2_pass_8 : decode cX2_pass 8 = .ok (.getfield 21, 3) := by decide +kernel
theorem dX2_pass_11 : decode cX2_pass 11 = .ok (.if_icmp .ge 35, 3) := by decide +kernel
theorem dX2_pass_14 : decode cX2_pass 14 = .ok (.aload_n 0, 1) := by decide +kernel
theorem dX2_pass_15 : decode cX2_pass 15 = .ok (.invokevirtual 77, 3) := by decide +kernel
theorem dX2_pass_18 : decode cX2_pass 18 = .ok (.istore_n 2, 1) := by decide +kernel
theorem dX2_pass_19 : decode cX2_pass 19 = .ok (.iload_n 2, 1) := by decide +kernel
theorem dX2_pass_20 : decode cX2_pass 20 = .ok (.ldc 81, 2) := by decide +kernel
theorem dX2_pass_22 : decode cX2_pass 22 = .ok (.if_icmp .ne 6, 3) := by decide +kernel
theorem dX2_pass_25 : decode cX2_pass 25 = .ok (.goto 21, 3) := by decide +kernel
theorem dX2_pass_28 : decode cX2_pass 28 = .ok (.aload_n 0, 1) := by decide +kernel
theorem dX2_pass_29 : decode cX2_pass 29 = .ok (.getfield 34, 3) := by decide +kernel
theorem dX2_pass_32 : decode cX2_pass 32 = .ok (.iload_n 2, 1) := by decide +kernel
theorem dX2_pass_33 : decode cX2_pass 33 = .ok (.iconst (-1), 1) := by decide +kernel
theorem dX2_pass_34 : decode cX2_pass 34 = .ok (.iastore, 1) := by decide +kernel
theorem dX2_pass_35 : decode cX2_pass 35 = .ok (.aload_n 0, 1) := by decide +kernel
theorem dX2_pass_36 : decode cX2_pass 36 = .ok (.iload_n 2, 1) := by decide +kernel
theorem dX2_pass_37 : decode cX2_pass 37 = .ok (.invokevirtual 82, 3) := by decide +kernel
theorem dX2_pass_40 : decode cX2_pass 40 = .ok (.iinc 1 1, 3) := by decide +kernel
theorem dX2_pass_43 : decode cX2_pass 43 = .ok (.goto (-37), 3) := by decide +kernel
theorem dX2_pass_46 : decode cX2_pass 46 = .ok (.aload_n 0, 1) := by decide +kernel
theorem dX2_pass_47 : decode cX2_pass 47 = .ok (.invokevirtual 86, 3) := by decide +kernel
theorem dX2_pass_50 : decode cX2_pass 50 = .ok (.istore_n 1, 1) := by decide +kernel
theorem dX2_pass_51 : decode cX2_pass 51 = .ok (.aload_n 0, 1) := by decide +kernel
theorem dX2_pass_52 : decode cX2_pass 52 = .ok (.invokevirtual 89, 3) := by decide +kernel
theorem dX2_pass_55 : decode cX2_pass 55 = .ok (.aload_n 0, 1) := by decide +kernel
theorem dX2_pass_56 : decode cX2_pass 56 = .ok (.dup, 1) := by decide +kernel
theorem dX2_pass_57 : decode cX2_pass 57 = .ok (.getfield 18, 3) := by decide +kernel
theorem dX2_pass_60 : decode cX2_pass 60 = .ok (.iconst 1, 1) := by decide +kernel
theorem dX2_pass_61 : decode cX2_pass 61 = .ok (.iadd, 1) := by decide +kernel
theorem dX2_pass_62 : decode cX2_pass 62 = .ok (.putfield 18, 3) := by decide +kernel
theorem dX2_pass_65 : decode cX2_pass 65 = .ok (.iload_n 1, 1) := by decide +kernel
theorem dX2_pass_66 : decode cX2_pass 66 = .ok (.ireturn, 1) := by decide +kernel
theorem dX2_giveTurns_0 : decode cX2_giveTurns 0 = .ok (.iconst 0, 1) := by decide +kernel
theorem dX2_giveTurns_1 : decode cX2_giveTurns 1 = .ok (.istore_n 1, 1) := by decide +kernel
theorem dX2_giveTurns_2 : decode cX2_giveTurns 2 = .ok (.iload_n 1, 1) := by decide +kernel
theorem dX2_giveTurns_3 : decode cX2_giveTurns 3 = .ok (.aload_n 0, 1) := by decide +kernel
theorem dX2_giveTurns_4 : decode cX2_giveTurns 4 = .ok (.getfield 21, 3) := by decide +kernel
theorem dX2_giveTurns_7 : decode cX2_giveTurns 7 = .ok (.if_icmp .ge 53, 3) := by decide +kernel
theorem dX2_giveTurns_10 : decode cX2_giveTurns 10 = .ok (.aload_n 0, 1) := by decide +kernel
theorem dX2_giveTurns_11 : decode cX2_giveTurns 11 = .ok (.getfield 34, 3) := by decide +kernel
theorem dX2_giveTurns_14 : decode cX2_giveTurns 14 = .ok (.iload_n 1, 1) := by decide +kernel
theorem dX2_giveTurns_15 : decode cX2_giveTurns 15 = .ok (.aload_n 0, 1) := by decide +kernel
theorem dX2_giveTurns_16 : decode cX2_giveTurns 16 = .ok (.iload_n 1, 1) := by decide +kernel
theorem dX2_giveTurns_17 : decode cX2_giveTurns 17 = .ok (.invokevirtual 92, 3) := by decide +kernel
theorem dX2_giveTurns_20 : decode cX2_giveTurns 20 = .ok (.ifCond .eq 32, 3) := by decide +kernel
theorem dX2_giveTurns_23 : decode cX2_giveTurns 23 = .ok (.aload_n 0, 1) := by decide +kernel
theorem dX2_giveTurns_24 : decode cX2_giveTurns 24 = .ok (.getfield 31, 3) := by decide +kernel
theorem dX2_giveTurns_27 : decode cX2_giveTurns 27 = .ok (.iload_n 1, 1) := by decide +kernel
theorem dX2_giveTurns_28 : decode cX2_giveTurns 28 = .ok (.iaload, 1) := by decide +kernel
theorem dX2_giveTurns_29 : decode cX2_giveTurns 29 = .ok (.bipush 16, 2) := by decide +kernel
theorem dX2_giveTurns_31 : decode cX2_giveTurns 31 = .ok (.imul, 1) := by decide +kernel
theorem dX2_giveTurns_32 : decode cX2_giveTurns 32 = .ok (.iconst 1, 1) := by decide +kernel
theorem dX2_giveTurns_33 : decode cX2_giveTurns 33 = .ok (.aload_n 0, 1) := by decide +kernel
theorem dX2_giveTurns_34 : decode cX2_giveTurns 34 = .ok (.getfield 28, 3) := by decide +kernel
theorem dX2_giveTurns_37 : decode cX2_giveTurns 37 = .ok (.iload_n 1, 1) := by decide +kernel
theorem dX2_giveTurns_38 : decode cX2_giveTurns 38 = .ok (.iaload, 1) := by decide +kernel
theorem dX2_giveTurns_39 : decode cX2_giveTurns 39 = .ok (.isub, 1) := by decide +kernel
theorem dX2_giveTurns_40 : decode cX2_giveTurns 40 = .ok (.bipush 8, 2) := by decide +kernel
theorem dX2_giveTurns_42 : decode cX2_giveTurns 42 = .ok (.imul, 1) := by decide +kernel
theorem dX2_giveTurns_43 : decode cX2_giveTurns 43 = .ok (.iadd, 1) := by decide +kernel
theorem dX2_giveTurns_44 : decode cX2_giveTurns 44 = .ok (.bipush 7, 2) := by decide +kernel
theorem dX2_giveTurns_46 : decode cX2_giveTurns 46 = .ok (.iadd, 1) := by decide +kernel
theorem dX2_giveTurns_47 : decode cX2_giveTurns 47 = .ok (.iload_n 1, 1) := by decide +kernel
theorem dX2_giveTurns_48 : decode cX2_giveTurns 48 = .ok (.isub, 1) := by decide +kernel
theorem dX2_giveTurns_49 : decode cX2_giveTurns 49 = .ok (.goto 4, 3) := by decide +kernel
theorem dX2_giveTurns_52 : decode cX2_giveTurns 52 = .ok (.iconst (-1), 1) := by decide +kernel
theorem dX2_giveTurns_53 : decode cX2_giveTurns 53 = .ok (.iastore, 1) := by decide +kernel
theorem dX2_giveTurns_54 : decode cX2_giveTurns 54 = .ok (.iinc 1 1, 3) := by decide +kernel
theorem dX2_giveTurns_57 : decode cX2_giveTurns 57 = .ok (.goto (-55), 3) := by decide +kernel
theorem dX2_giveTurns_60 : decode cX2_giveTurns 60 = .ok (.return_, 1) := by decide +kernel
theorem dX2_goes_0 : decode cX2_goes 0 = .ok (.aload_n 0, 1) := by decide +kernel
theorem dX2_goes_1 : decode cX2_goes 1 = .ok (.iload_n 1, 1) := by decide +kernel
theorem dX2_goes_2 : decode cX2_goes 2 = .ok (.invokevirtual 47, 3) := by decide +kernel
theorem dX2_goes_5 : decode cX2_goes 5 = .ok (.ifCond .ne 5, 3) := by decide +kernel
theorem dX2_goes_8 : decode cX2_goes 8 = .ok (.iconst 0, 1) := by decide +kernel
theorem dX2_goes_9 : decode cX2_goes 9 = .ok (.ireturn, 1) := by decide +kernel
theorem dX2_goes_10 : decode cX2_goes 10 = .ok (.aload_n 0, 1) := by decide +kernel
theorem dX2_goes_11 : decode cX2_goes 11 = .ok (.getfield 24, 3) := by decide +kernel
theorem dX2_goes_14 : decode cX2_goes 14 = .ok (.iload_n 1, 1) := by decide +kernel
theorem dX2_goes_15 : decode cX2_goes 15 = .ok (.iaload, 1) := by decide +kernel
theorem dX2_goes_16 : decode cX2_goes 16 = .ok (.istore_n 2, 1) := by decide +kernel
theorem dX2_goes_17 : decode cX2_goes 17 = .ok (.iload_n 2, 1) := by decide +kernel
theorem dX2_goes_18 : decode cX2_goes 18 = .ok (.iconst 2, 1) := by decide +kernel
theorem dX2_goes_19 : decode cX2_goes 19 = .ok (.if_icmp .eq 23, 3) := by decide +kernel
theorem dX2_goes_22 : decode cX2_goes 22 = .ok (.iload_n 2, 1) := by decide +kernel
theorem dX2_goes_23 : decode cX2_goes 23 = .ok (.iconst 3, 1) := by decide +kernel
theorem dX2_goes_24 : decode cX2_goes 24 = .ok (.if_icmp .eq 18, 3) := by decide +kernel
theorem dX2_goes_27 : decode cX2_goes 27 = .ok (.iload_n 2, 1) := by decide +kernel
theorem dX2_goes_28 : decode cX2_goes 28 = .ok (.iconst 5, 1) := by decide +kernel
theorem dX2_goes_29 : decode cX2_goes 29 = .ok (.if_icmp .ne 17, 3) := by decide +kernel
theorem dX2_goes_32 : decode cX2_goes 32 = .ok (.aload_n 0, 1) := by decide +kernel
theorem dX2_goes_33 : decode cX2_goes 33 = .ok (.getfield 18, 3) := by decide +kernel
theorem dX2_goes_36 : decode cX2_goes 36 = .ok (.iconst 2, 1) := by decide +kernel
theorem dX2_goes_37 : decode cX2_goes 37 = .ok (.irem, 1) := by decide +kernel
theorem dX2_goes_38 : decode cX2_goes 38 = .ok (.iconst 1, 1) := by decide +kernel
theorem dX2_goes_39 : decode cX2_goes 39 = .ok (.if_icmp .ne 7, 3) := by decide +kernel
theorem dX2_goes_42 : decode cX2_goes 42 = .ok (.iconst 1, 1) := by decide +kernel
theorem dX2_goes_43 : decode cX2_goes 43 = .ok (.goto 4, 3) := by decide +kernel
theorem dX2_goes_46 : decode cX2_goes 46 = .ok (.iconst 0, 1) := by decide +kernel
theorem dX2_goes_47 : decode cX2_goes 47 = .ok (.ireturn, 1) := by decide +kernel
theorem dX2_nextInTurn_0 : decode cX2_nextInTurn 0 = .ok (.ldc 81, 2) := by decide +kernel
theorem dX2_nextInTurn_2 : decode cX2_nextInTurn 2 = .ok (.istore_n 1, 1) := by decide +kernel
theorem dX2_nextInTurn_3 : decode cX2_nextInTurn 3 = .ok (.iconst (-1), 1) := by decide +kernel
theorem dX2_nextInTurn_4 : decode cX2_nextInTurn 4 = .ok (.istore_n 2, 1) := by decide +kernel
theorem dX2_nextInTurn_5 : decode cX2_nextInTurn 5 = .ok (.iconst 0, 1) := by decide +kernel
theorem dX2_nextInTurn_6 : decode cX2_nextInTurn 6 = .ok (.istore_n 3, 1) := by decide +kernel
theorem dX2_nextInTurn_7 : decode cX2_nextInTurn 7 = .ok (.iload_n 3, 1) := by decide +kernel
theorem dX2_nextInTurn_8 : decode cX2_nextInTurn 8 = .ok (.aload_n 0, 1) := by decide +kernel
theorem dX2_nextInTurn_9 : decode cX2_nextInTurn 9 = .ok (.getfield 21, 3) := by decide +kernel
theorem dX2_nextInTurn_12 : decode cX2_nextInTurn 12 = .ok (.if_icmp .ge 28, 3) := by decide +kernel
theorem dX2_nextInTurn_15 : decode cX2_nextInTurn 15 = .ok (.aload_n 0, 1) := by decide +kernel
theorem dX2_nextInTurn_16 : decode cX2_nextInTurn 16 = .ok (.getfield 34, 3) := by decide +kernel
theorem dX2_nextInTurn_19 : decode cX2_nextInTurn 19 = .ok (.iload_n 3, 1) := by decide +kernel
theorem dX2_nextInTurn_20 : decode cX2_nextInTurn 20 = .ok (.iaload, 1) := by decide +kernel
theorem dX2_nextInTurn_21 : decode cX2_nextInTurn 21 = .ok (.iload_n 2, 1) := by decide +kernel
theorem dX2_nextInTurn_22 : decode cX2_nextInTurn 22 = .ok (.if_icmp .le 12, 3) := by decide +kernel
theorem dX2_nextInTurn_25 : decode cX2_nextInTurn 25 = .ok (.aload_n 0, 1) := by decide +kernel
theorem dX2_nextInTurn_26 : decode cX2_nextInTurn 26 = .ok (.getfield 34, 3) := by decide +kernel
theorem dX2_nextInTurn_29 : decode cX2_nextInTurn 29 = .ok (.iload_n 3, 1) := by decide +kernel
theorem dX2_nextInTurn_30 : decode cX2_nextInTurn 30 = .ok (.iaload, 1) := by decide +kernel
theorem dX2_nextInTurn_31 : decode cX2_nextInTurn 31 = .ok (.istore_n 2, 1) := by decide +kernel
theorem dX2_nextInTurn_32 : decode cX2_nextInTurn 32 = .ok (.iload_n 3, 1) := by decide +kernel
theorem dX2_nextInTurn_33 : decode cX2_nextInTurn 33 = .ok (.istore_n 1, 1) := by decide +kernel
theorem dX2_nextInTurn_34 : decode cX2_nextInTurn 34 = .ok (.iinc 3 1, 3) := by decide +kernel
theorem dX2_nextInTurn_37 : decode cX2_nextInTurn 37 = .ok (.goto (-30), 3) := by decide +kernel
theorem dX2_nextInTurn_40 : decode cX2_nextInTurn 40 = .ok (.iload_n 1, 1) := by decide +kernel
theorem dX2_nextInTurn_41 : decode cX2_nextInTurn 41 = .ok (.ireturn, 1) := by decide +kernel
theorem dX2_go_0 : decode cX2_go 0 = .ok (.aload_n 0, 1) := by decide +kernel
theorem dX2_go_1 : decode cX2_go 1 = .ok (.getfield 24, 3) := by decide +kernel
theorem dX2_go_4 : decode cX2_go 4 = .ok (.iload_n 1, 1) := by decide +kernel
theorem dX2_go_5 : decode cX2_go 5 = .ok (.iaload, 1) := by decide +kernel
theorem dX2_go_6 : decode cX2_go 6 = .ok (.iconst 5, 1) := by decide +kernel
theorem dX2_go_7 : decode cX2_go 7 = .ok (.if_icmp .ne 7, 3) := by decide +kernel
theorem dX2_go_10 : decode cX2_go 10 = .ok (.iconst (-1), 1) := by decide +kernel
theorem dX2_go_11 : decode cX2_go 11 = .ok (.goto 4, 3) := by decide +kernel
theorem dX2_go_14 : decode cX2_go 14 = .ok (.iconst 1, 1) := by decide +kernel
theorem dX2_go_15 : decode cX2_go 15 = .ok (.istore_n 2, 1) := by decide +kernel
theorem dX2_go_16 : decode cX2_go 16 = .ok (.aload_n 0, 1) := by decide +kernel
theorem dX2_go_17 : decode cX2_go 17 = .ok (.getfield 24, 3) := by decide +kernel
theorem dX2_go_20 : decode cX2_go 20 = .ok (.iload_n 1, 1) := by decide +kernel
theorem dX2_go_21 : decode cX2_go 21 = .ok (.iaload, 1) := by decide +kernel
theorem dX2_go_22 : decode cX2_go 22 = .ok (.iconst 3, 1) := by decide +kernel
theorem dX2_go_23 : decode cX2_go 23 = .ok (.if_icmp .ne 7, 3) := by decide +kernel
theorem dX2_go_26 : decode cX2_go 26 = .ok (.iconst 2, 1) := by decide +kernel
theorem dX2_go_27 : decode cX2_go 27 = .ok (.goto 4, 3) := by decide +kernel
theorem dX2_go_30 : decode cX2_go 30 = .ok (.iconst 1, 1) := by decide +kernel
theorem dX2_go_31 : decode cX2_go 31 = .ok (.istore_n 3, 1) := by decide +kernel
theorem dX2_go_32 : decode cX2_go 32 = .ok (.iconst 0, 1) := by decide +kernel
theorem dX2_go_33 : decode cX2_go 33 = .ok (.istore 4, 2) := by decide +kernel
theorem dX2_go_35 : decode cX2_go 35 = .ok (.iload 4, 2) := by decide +kernel
theorem dX2_go_37 : decode cX2_go 37 = .ok (.iload_n 3, 1) := by decide +kernel
theorem dX2_go_38 : decode cX2_go 38 = .ok (.if_icmp .ge 38, 3) := by decide +kernel
theorem dX2_go_41 : decode cX2_go 41 = .ok (.aload_n 0, 1) := by decide +kernel
theorem dX2_go_42 : decode cX2_go 42 = .ok (.iload_n 1, 1) := by decide +kernel
theorem dX2_go_43 : decode cX2_go 43 = .ok (.aload_n 0, 1) := by decide +kernel
theorem dX2_go_44 : decode cX2_go 44 = .ok (.getfield 31, 3) := by decide +kernel
theorem dX2_go_47 : decode cX2_go 47 = .ok (.iload_n 1, 1) := by decide +kernel
theorem dX2_go_48 : decode cX2_go 48 = .ok (.iaload, 1) := by decide +kernel
theorem dX2_go_49 : decode cX2_go 49 = .ok (.iload_n 2, 1) := by decide +kernel
theorem dX2_go_50 : decode cX2_go 50 = .ok (.iadd, 1) := by decide +kernel
theorem dX2_go_51 : decode cX2_go 51 = .ok (.invokevirtual 95, 3) := by decide +kernel
theorem dX2_go_54 : decode cX2_go 54 = .ok (.ifCond .ne 6, 3) := by decide +kernel
theorem dX2_go_57 : decode cX2_go 57 = .ok (.goto 19, 3) := by decide +kernel
theorem dX2_go_60 : decode cX2_go 60 = .ok (.aload_n 0, 1) := by decide +kernel
theorem dX2_go_61 : decode cX2_go 61 = .ok (.getfield 31, 3) := by decide +kernel
theorem dX2_go_64 : decode cX2_go 64 = .ok (.iload_n 1, 1) := by decide +kernel
theorem dX2_go_65 : decode cX2_go 65 = .ok (.dup2, 1) := by decide +kernel
theorem dX2_go_66 : decode cX2_go 66 = .ok (.iaload, 1) := by decide +kernel
theorem dX2_go_67 : decode cX2_go 67 = .ok (.iload_n 2, 1) := by decide +kernel
theorem dX2_go_68 : decode cX2_go 68 = .ok (.iadd, 1) := by decide +kernel
theorem dX2_go_69 : decode cX2_go 69 = .ok (.iastore, 1) := by decide +kernel
theorem dX2_go_70 : decode cX2_go 70 = .ok (.iinc 4 1, 3) := by decide +kernel
theorem dX2_go_73 : decode cX2_go 73 = .ok (.goto (-38), 3) := by decide +kernel
theorem dX2_go_76 : decode cX2_go 76 = .ok (.return_, 1) := by decide +kernel
theorem dX2_carry_0 : decode cX2_carry 0 = .ok (.iconst 0, 1) := by decide +kernel
theorem dX2_carry_1 : decode cX2_carry 1 = .ok (.istore_n 1, 1) := by decide +kernel
theorem dX2_carry_2 : decode cX2_carry 2 = .ok (.iconst 0, 1) := by decide +kernel
theorem dX2_carry_3 : decode cX2_carry 3 = .ok (.istore_n 2, 1) := by decide +kernel
theorem dX2_carry_4 : decode cX2_carry 4 = .ok (.iload_n 2, 1) := by decide +kernel
theorem dX2_carry_5 : decode cX2_carry 5 = .ok (.aload_n 0, 1) := by decide +kernel
theorem dX2_carry_6 : decode cX2_carry 6 = .ok (.getfield 21, 3) := by decide +kernel
theorem dX2_carry_9 : decode cX2_carry 9 = .ok (.if_icmp .ge 54, 3) := by decide +kernel
theorem dX2_carry_12 : decode cX2_carry 12 = .ok (.aload_n 0, 1) := by decide +kernel
theorem dX2_carry_13 : decode cX2_carry 13 = .ok (.iload_n 2, 1) := by decide +kernel
theorem dX2_carry_14 : decode cX2_carry 14 = .ok (.invokevirtual 47, 3) := by decide +kernel
theorem dX2_carry_17 : decode cX2_carry 17 = .ok (.ifCond .eq 40, 3) := by decide +kernel
theorem dX2_carry_20 : decode cX2_carry 20 = .ok (.aload_n 0, 1) := by decide +kernel
theorem dX2_carry_21 : decode cX2_carry 21 = .ok (.getfield 31, 3) := by decide +kernel
theorem dX2_carry_24 : decode cX2_carry 24 = .ok (.iload_n 2, 1) := by decide +kernel
theorem dX2_carry_25 : decode cX2_carry 25 = .ok (.dup2, 1) := by decide +kernel
theorem dX2_carry_26 : decode cX2_carry 26 = .ok (.iaload, 1) := by decide +kernel
theorem dX2_carry_27 : decode cX2_carry 27 = .ok (.aload_n 0, 1) := by decide +kernel
theorem dX2_carry_28 : decode cX2_carry 28 = .ok (.getfield 15, 3) := by decide +kernel
theorem dX2_carry_31 : decode cX2_carry 31 = .ok (.iadd, 1) := by decide +kernel
theorem dX2_carry_32 : decode cX2_carry 32 = .ok (.iastore, 1) := by decide +kernel
theorem dX2_carry_33 : decode cX2_carry 33 = .ok (.aload_n 0, 1) := by decide +kernel
theorem dX2_carry_34 : decode cX2_carry 34 = .ok (.getfield 31, 3) := by decide +kernel
theorem dX2_carry_37 : decode cX2_carry 37 = .ok (.iload_n 2, 1) := by decide +kernel
theorem dX2_carry_38 : decode cX2_carry 38 = .ok (.iaload, 1) := by decide +kernel
theorem dX2_carry_39 : decode cX2_carry 39 = .ok (.aload_n 0, 1) := by decide +kernel
theorem dX2_carry_40 : decode cX2_carry 40 = .ok (.getfield 9, 3) := by decide +kernel
theorem dX2_carry_43 : decode cX2_carry 43 = .ok (.if_icmp .lt 14, 3) := by decide +kernel
theorem dX2_carry_46 : decode cX2_carry 46 = .ok (.aload_n 0, 1) := by decide +kernel
theorem dX2_carry_47 : decode cX2_carry 47 = .ok (.getfield 31, 3) := by decide +kernel
theorem dX2_carry_50 : decode cX2_carry 50 = .ok (.iload_n 2, 1) := by decide +kernel
theorem dX2_carry_51 : decode cX2_carry 51 = .ok (.bipush 99, 2) := by decide +kernel
theorem dX2_carry_53 : decode cX2_carry 53 = .ok (.iastore, 1) := by decide +kernel
theorem dX2_carry_54 : decode cX2_carry 54 = .ok (.iinc 1 1, 3) := by decide +kernel
theorem dX2_carry_57 : decode cX2_carry 57 = .ok (.iinc 2 1, 3) := by decide +kernel
theorem dX2_carry_60 : decode cX2_carry 60 = .ok (.goto (-56), 3) := by decide +kernel
theorem dX2_carry_63 : decode cX2_carry 63 = .ok (.iload_n 1, 1) := by decide +kernel
theorem dX2_carry_64 : decode cX2_carry 64 = .ok (.ireturn, 1) := by decide +kernel
theorem dX2_letOneOn_0 : decode cX2_letOneOn 0 = .ok (.iconst 0, 1) := by decide +kernel
theorem dX2_letOneOn_1 : decode cX2_letOneOn 1 = .ok (.istore_n 1, 1) := by decide +kernel
theorem dX2_letOneOn_2 : decode cX2_letOneOn 2 = .ok (.iload_n 1, 1) := by decide +kernel
theorem dX2_letOneOn_3 : decode cX2_letOneOn 3 = .ok (.aload_n 0, 1) := by decide +kernel
theorem dX2_letOneOn_4 : decode cX2_letOneOn 4 = .ok (.getfield 21, 3) := by decide +kernel
theorem dX2_letOneOn_7 : decode cX2_letOneOn 7 = .ok (.if_icmp .ge 38, 3) := by decide +kernel
theorem dX2_letOneOn_10 : decode cX2_letOneOn 10 = .ok (.aload_n 0, 1) := by decide +kernel
theorem dX2_letOneOn_11 : decode cX2_letOneOn 11 = .ok (.getfield 31, 3) := by decide +kernel
theorem dX2_letOneOn_14 : decode cX2_letOneOn 14 = .ok (.iload_n 1, 1) := by decide +kernel
theorem dX2_letOneOn_15 : decode cX2_letOneOn 15 = .ok (.iaload, 1) := by decide +kernel
theorem dX2_letOneOn_16 : decode cX2_letOneOn 16 = .ok (.iconst (-1), 1) := by decide +kernel
theorem dX2_letOneOn_17 : decode cX2_letOneOn 17 = .ok (.if_icmp .ne 22, 3) := by decide +kernel
theorem dX2_letOneOn_20 : decode cX2_letOneOn 20 = .ok (.aload_n 0, 1) := by decide +kernel
theorem dX2_letOneOn_21 : decode cX2_letOneOn 21 = .ok (.iload_n 1, 1) := by decide +kernel
theorem dX2_letOneOn_22 : decode cX2_letOneOn 22 = .ok (.iconst 0, 1) := by decide +kernel
theorem dX2_letOneOn_23 : decode cX2_letOneOn 23 = .ok (.invokevirtual 43, 3) := by decide +kernel
theorem dX2_letOneOn_26 : decode cX2_letOneOn 26 = .ok (.ifCond .eq 13, 3) := by decide +kernel
theorem dX2_letOneOn_29 : decode cX2_letOneOn 29 = .ok (.aload_n 0, 1) := by decide +kernel
theorem dX2_letOneOn_30 : decode cX2_letOneOn 30 = .ok (.getfield 31, 3) := by decide +kernel
theorem dX2_letOneOn_33 : decode cX2_letOneOn 33 = .ok (.iload_n 1, 1) := by decide +kernel
theorem dX2_letOneOn_34 : decode cX2_letOneOn 34 = .ok (.iconst 0, 1) := by decide +kernel
theorem dX2_letOneOn_35 : decode cX2_letOneOn 35 = .ok (.iastore, 1) := by decide +kernel
theorem dX2_letOneOn_36 : decode cX2_letOneOn 36 = .ok (.goto 9, 3) := by decide +kernel
theorem dX2_letOneOn_39 : decode cX2_letOneOn 39 = .ok (.iinc 1 1, 3) := by decide +kernel
theorem dX2_letOneOn_42 : decode cX2_letOneOn 42 = .ok (.goto (-40), 3) := by decide +kernel
theorem dX2_letOneOn_45 : decode cX2_letOneOn 45 = .ok (.return_, 1) := by decide +kernel
theorem dX2_passUntilOff_0 : decode cX2_passUntilOff 0 = .ok (.iconst 0, 1) := by decide +kernel
theorem dX2_passUntilOff_1 : decode cX2_passUntilOff 1 = .ok (.istore_n 3, 1) := by decide +kernel
theorem dX2_passUntilOff_2 : decode cX2_passUntilOff 2 = .ok (.iload_n 3, 1) := by decide +kernel
theorem dX2_passUntilOff_3 : decode cX2_passUntilOff 3 = .ok (.iload_n 2, 1) := by decide +kernel
theorem dX2_passUntilOff_4 : decode cX2_passUntilOff 4 = .ok (.if_icmp .gt 37, 3) := by decide +kernel
theorem dX2_passUntilOff_7 : decode cX2_passUntilOff 7 = .ok (.aload_n 0, 1) := by decide +kernel
theorem dX2_passUntilOff_8 : decode cX2_passUntilOff 8 = .ok (.getfield 31, 3) := by decide +kernel
theorem dX2_passUntilOff_11 : decode cX2_passUntilOff 11 = .ok (.iload_n 1, 1) := by decide +kernel
theorem dX2_passUntilOff_12 : decode cX2_passUntilOff 12 = .ok (.iaload, 1) := by decide +kernel
theorem dX2_passUntilOff_13 : decode cX2_passUntilOff 13 = .ok (.bipush 99, 2) := by decide +kernel
theorem dX2_passUntilOff_15 : decode cX2_passUntilOff 15 = .ok (.if_icmp .ne 5, 3) := by decide +kernel
theorem dX2_passUntilOff_18 : decode cX2_passUntilOff 18 = .ok (.iload_n 3, 1) := by decide +kernel
theorem dX2_passUntilOff_19 : decode cX2_passUntilOff 19 = .ok (.ireturn, 1) := by decide +kernel
theorem dX2_passUntilOff_20 : decode cX2_passUntilOff 20 = .ok (.aload_n 0, 1) := by decide +kernel
theorem dX2_passUntilOff_21 : decode cX2_passUntilOff 21 = .ok (.invokevirtual 98, 3) := by decide +kernel
theorem dX2_passUntilOff_24 : decode cX2_passUntilOff 24 = .ok (.ifCond .eq 6, 3) := by decide +kernel
theorem dX2_passUntilOff_27 : decode cX2_passUntilOff 27 = .ok (.goto 14, 3) := by decide +kernel
theorem dX2_passUntilOff_30 : decode cX2_passUntilOff 30 = .ok (.aload_n 0, 1) := by decide +kernel
theorem dX2_passUntilOff_31 : decode cX2_passUntilOff 31 = .ok (.invokevirtual 102, 3) := by decide +kernel
theorem dX2_passUntilOff_34 : decode cX2_passUntilOff 34 = .ok (.pop, 1) := by decide +kernel
theorem dX2_passUntilOff_35 : decode cX2_passUntilOff 35 = .ok (.iinc 3 1, 3) := by decide +kernel
theorem dX2_passUntilOff_38 : decode cX2_passUntilOff 38 = .ok (.goto (-36), 3) := by decide +kernel
theorem dX2_passUntilOff_41 : decode cX2_passUntilOff 41 = .ok (.ldc 81, 2) := by decide +kernel
theorem dX2_passUntilOff_43 : decode cX2_passUntilOff 43 = .ok (.ireturn, 1) := by decide +kernel
theorem dX2_passUntilClear_0 : decode cX2_passUntilClear 0 = .ok (.iconst 0, 1) := by decide +kernel
theorem dX2_passUntilClear_1 : decode cX2_passUntilClear 1 = .ok (.istore_n 2, 1) := by decide +kernel
theorem dX2_passUntilClear_2 : decode cX2_passUntilClear 2 = .ok (.iload_n 2, 1) := by decide +kernel
theorem dX2_passUntilClear_3 : decode cX2_passUntilClear 3 = .ok (.iload_n 1, 1) := by decide +kernel
theorem dX2_passUntilClear_4 : decode cX2_passUntilClear 4 = .ok (.if_icmp .gt 33, 3) := by decide +kernel
theorem dX2_passUntilClear_7 : decode cX2_passUntilClear 7 = .ok (.aload_n 0, 1) := by decide +kernel
theorem dX2_passUntilClear_8 : decode cX2_passUntilClear 8 = .ok (.invokevirtual 105, 3) := by decide +kernel
theorem dX2_passUntilClear_11 : decode cX2_passUntilClear 11 = .ok (.ifCond .eq 5, 3) := by decide +kernel
theorem dX2_passUntilClear_14 : decode cX2_passUntilClear 14 = .ok (.iload_n 2, 1) := by decide +kernel
theorem dX2_passUntilClear_15 : decode cX2_passUntilClear 15 = .ok (.ireturn, 1) := by decide +kernel
theorem dX2_passUntilClear_16 : decode cX2_passUntilClear 16 = .ok (.aload_n 0, 1) := by decide +kernel
theorem dX2_passUntilClear_17 : decode cX2_passUntilClear 17 = .ok (.invokevirtual 98, 3) := by decide +kernel
theorem dX2_passUntilClear_20 : decode cX2_passUntilClear 20 = .ok (.ifCond .eq 6, 3) := by decide +kernel
theorem dX2_passUntilClear_23 : decode cX2_passUntilClear 23 = .ok (.goto 14, 3) := by decide +kernel
theorem dX2_passUntilClear_26 : decode cX2_passUntilClear 26 = .ok (.aload_n 0, 1) := by decide +kernel
theorem dX2_passUntilClear_27 : decode cX2_passUntilClear 27 = .ok (.invokevirtual 102, 3) := by decide +kernel
theorem dX2_passUntilClear_30 : decode cX2_passUntilClear 30 = .ok (.pop, 1) := by decide +kernel
theorem dX2_passUntilClear_31 : decode cX2_passUntilClear 31 = .ok (.iinc 2 1, 3) := by decide +kernel
theorem dX2_passUntilClear_34 : decode cX2_passUntilClear 34 = .ok (.goto (-32), 3) := by decide +kernel
theorem dX2_passUntilClear_37 : decode cX2_passUntilClear 37 = .ok (.ldc 81, 2) := by decide +kernel
theorem dX2_passUntilClear_39 : decode cX2_passUntilClear 39 = .ok (.ireturn, 1) := by decide +kernel
theorem dX2_nobodyGoesOff_0 : decode cX2_nobodyGoesOff 0 = .ok (.aload_n 0, 1) := by decide +kernel
theorem dX2_nobodyGoesOff_1 : decode cX2_nobodyGoesOff 1 = .ok (.getfield 15, 3) := by decide +kernel
theorem dX2_nobodyGoesOff_4 : decode cX2_nobodyGoesOff 4 = .ok (.ifCond .ne 7, 3) := by decide +kernel
theorem dX2_nobodyGoesOff_7 : decode cX2_nobodyGoesOff 7 = .ok (.iconst 1, 1) := by decide +kernel
theorem dX2_nobodyGoesOff_8 : decode cX2_nobodyGoesOff 8 = .ok (.goto 4, 3) := by decide +kernel
theorem dX2_nobodyGoesOff_11 : decode cX2_nobodyGoesOff 11 = .ok (.iconst 0, 1) := by decide +kernel
theorem dX2_nobodyGoesOff_12 : decode cX2_nobodyGoesOff 12 = .ok (.ireturn, 1) := by decide +kernel
theorem dX3_init_0 : decode cX3_init 0 = .ok (.aload_n 0, 1) := by decide +kernel
theorem dX3_init_1 : decode cX3_init 1 = .ok (.invokespecial 3, 3) := by decide +kernel
theorem dX3_init_4 : decode cX3_init 4 = .ok (.aload_n 0, 1) := by decide +kernel
theorem dX3_init_5 : decode cX3_init 5 = .ok (.bipush 90, 2) := by decide +kernel
theorem dX3_init_7 : decode cX3_init 7 = .ok (.newarray .int, 2) := by decide +kernel
theorem dX3_init_9 : decode cX3_init 9 = .ok (.putfield 9, 3) := by decide +kernel
theorem dX3_init_12 : decode cX3_init 12 = .ok (.aload_n 0, 1) := by decide +kernel
theorem dX3_init_13 : decode cX3_init 13 = .ok (.iconst 0, 1) := by decide +kernel
theorem dX3_init_14 : decode cX3_init 14 = .ok (.putfield 15, 3) := by decide +kernel
theorem dX3_init_17 : decode cX3_init 17 = .ok (.aload_n 0, 1) := by decide +kernel
theorem dX3_init_18 : decode cX3_init 18 = .ok (.iconst 0, 1) := by decide +kernel
theorem dX3_init_19 : decode cX3_init 19 = .ok (.putfield 19, 3) := by decide +kernel
theorem dX3_init_22 : decode cX3_init 22 = .ok (.return_, 1) := by decide +kernel
theorem dX3_append_0 : decode cX3_append 0 = .ok (.aload_n 0, 1) := by decide +kernel
theorem dX3_append_1 : decode cX3_append 1 = .ok (.getfield 15, 3) := by decide +kernel
theorem dX3_append_4 : decode cX3_append 4 = .ok (.bipush 90, 2) := by decide +kernel
theorem dX3_append_6 : decode cX3_append 6 = .ok (.if_icmp .ge 23, 3) := by decide +kernel
theorem dX3_append_9 : decode cX3_append 9 = .ok (.aload_n 0, 1) := by decide +kernel
theorem dX3_append_10 : decode cX3_append 10 = .ok (.getfield 9, 3) := by decide +kernel
theorem dX3_append_13 : decode cX3_append 13 = .ok (.aload_n 0, 1) := by decide +kernel
theorem dX3_append_14 : decode cX3_append 14 = .ok (.getfield 15, 3) := by decide +kernel
theorem dX3_append_17 : decode cX3_append 17 = .ok (.iload_n 1, 1) := by decide +kernel
theorem dX3_append_18 : decode cX3_append 18 = .ok (.iastore, 1) := by decide +kernel
theorem dX3_append_19 : decode cX3_append 19 = .ok (.aload_n 0, 1) := by decide +kernel
theorem dX3_append_20 : decode cX3_append 20 = .ok (.dup, 1) := by decide +kernel
theorem dX3_append_21 : decode cX3_append 21 = .ok (.getfield 15, 3) := by decide +kernel
theorem dX3_append_24 : decode cX3_append 24 = .ok (.iconst 1, 1) := by decide +kernel
theorem dX3_append_25 : decode cX3_append 25 = .ok (.iadd, 1) := by decide +kernel
theorem dX3_append_26 : decode cX3_append 26 = .ok (.putfield 15, 3) := by decide +kernel
theorem dX3_append_29 : decode cX3_append 29 = .ok (.return_, 1) := by decide +kernel
theorem dX3_readInto_0 : decode cX3_readInto 0 = .ok (.aload_n 1, 1) := by decide +kernel
theorem dX3_readInto_1 : decode cX3_readInto 1 = .ok (.invokevirtual 22, 3) := by decide +kernel
theorem dX3_readInto_4 : decode cX3_readInto 4 = .ok (.iconst 0, 1) := by decide +kernel
theorem dX3_readInto_5 : decode cX3_readInto 5 = .ok (.istore_n 2, 1) := by decide +kernel
theorem dX3_readInto_6 : decode cX3_readInto 6 = .ok (.iconst 0, 1) := by decide +kernel
theorem dX3_readInto_7 : decode cX3_readInto 7 = .ok (.istore_n 3, 1) := by decide +kernel
theorem dX3_readInto_8 : decode cX3_readInto 8 = .ok (.iconst 0, 1) := by decide +kernel
theorem dX3_readInto_9 : decode cX3_readInto 9 = .ok (.istore 4, 2) := by decide +kernel
theorem dX3_readInto_11 : decode cX3_readInto 11 = .ok (.iload 4, 2) := by decide +kernel
theorem dX3_readInto_13 : decode cX3_readInto 13 = .ok (.bipush 90, 2) := by decide +kernel
theorem dX3_readInto_15 : decode cX3_readInto 15 = .ok (.if_icmp .ge 76, 3) := by decide +kernel
theorem dX3_readInto_18 : decode cX3_readInto 18 = .ok (.iload_n 3, 1) := by decide +kernel
theorem dX3_readInto_19 : decode cX3_readInto 19 = .ok (.aload_n 0, 1) := by decide +kernel
theorem dX3_readInto_20 : decode cX3_readInto 20 = .ok (.getfield 15, 3) := by decide +kernel
theorem dX3_readInto_23 : decode cX3_readInto 23 = .ok (.if_icmp .ge 68, 3) := by decide +kernel
theorem dX3_readInto_26 : decode cX3_readInto 26 = .ok (.aload_n 0, 1) := by decide +kernel
theorem dX3_readInto_27 : decode cX3_readInto 27 = .ok (.iload_n 3, 1) := by decide +kernel
theorem dX3_readInto_28 : decode cX3_readInto 28 = .ok (.invokevirtual 27, 3) := by decide +kernel
theorem dX3_readInto_31 : decode cX3_readInto 31 = .ok (.istore 5, 2) := by decide +kernel
theorem dX3_readInto_33 : decode cX3_readInto 33 = .ok (.iload 5, 2) := by decide +kernel
theorem dX3_readInto_35 : decode cX3_readInto 35 = .ok (.ifCond .ne 7, 3) := by decide +kernel
theorem dX3_readInto_38 : decode cX3_readInto 38 = .ok (.iconst 1, 1) := by decide +kernel
theorem dX3_readInto_39 : decode cX3_readInto 39 = .ok (.goto 12, 3) := by decide +kernel
theorem dX3_readInto_42 : decode cX3_readInto 42 = .ok (.aload_n 0, 1) := by decide +kernel
theorem dX3_readInto_43 : decode cX3_readInto 43 = .ok (.iload_n 2, 1) := by decide +kernel
theorem dX3_readInto_44 : decode cX3_readInto 44 = .ok (.iload_n 3, 1) := by decide +kernel
theorem dX3_readInto_45 : decode cX3_readInto 45 = .ok (.iload 5, 2) := by decide +kernel
theorem dX3_readInto_47 : decode cX3_readInto 47 = .ok (.aload_n 1, 1) := by decide +kernel
theorem dX3_readInto_48 : decode cX3_readInto 48 = .ok (.invokevirtual 31, 3) := by decide +kernel
theorem dX3_readInto_51 : decode cX3_readInto 51 = .ok (.istore 6, 2) := by decide +kernel
theorem dX3_readInto_53 : decode cX3_readInto 53 = .ok (.iload 6, 2) := by decide +kernel
theorem dX3_readInto_55 : decode cX3_readInto 55 = .ok (.ifCond .eq 11, 3) := by decide +kernel
theorem dX3_readInto_58 : decode cX3_readInto 58 = .ok (.aload_n 0, 1) := by decide +kernel
theorem dX3_readInto_59 : decode cX3_readInto 59 = .ok (.iload 6, 2) := by decide +kernel
theorem dX3_readInto_61 : decode cX3_readInto 61 = .ok (.putfield 19, 3) := by decide +kernel
theorem dX3_readInto_64 : decode cX3_readInto 64 = .ok (.iload_n 3, 1) := by decide +kernel
theorem dX3_readInto_65 : decode cX3_readInto 65 = .ok (.ireturn, 1) := by decide +kernel
theorem dX3_readInto_66 : decode cX3_readInto 66 = .ok (.iload_n 2, 1) := by decide +kernel
theorem dX3_readInto_67 : decode cX3_readInto 67 = .ok (.bipush 7, 2) := by decide +kernel
theorem dX3_readInto_69 : decode cX3_readInto 69 = .ok (.if_icmp .ne 7, 3) := by decide +kernel
theorem dX3_readInto_72 : decode cX3_readInto 72 = .ok (.iconst 5, 1) := by decide +kernel
theorem dX3_readInto_73 : decode cX3_readInto 73 = .ok (.goto 6, 3) := by decide +kernel
theorem dX3_readInto_76 : decode cX3_readInto 76 = .ok (.iload_n 2, 1) := by decide +kernel
theorem dX3_readInto_77 : decode cX3_readInto 77 = .ok (.iconst 1, 1) := by decide +kernel
theorem dX3_readInto_78 : decode cX3_readInto 78 = .ok (.iadd, 1) := by decide +kernel
theorem dX3_readInto_79 : decode cX3_readInto 79 = .ok (.istore_n 2, 1) := by decide +kernel
theorem dX3_readInto_80 : decode cX3_readInto 80 = .ok (.iload_n 3, 1) := by decide +kernel
theorem dX3_readInto_81 : decode cX3_readInto 81 = .ok (.iload 5, 2) := by decide +kernel
theorem dX3_readInto_83 : decode cX3_readInto 83 = .ok (.iadd, 1) := by decide +kernel
theorem dX3_readInto_84 : decode cX3_readInto 84 = .ok (.istore_n 3, 1) := by decide +kernel
theorem dX3_readInto_85 : decode cX3_readInto 85 = .ok (.iinc 4 1, 3) := by decide +kernel
theorem dX3_readInto_88 : decode cX3_readInto 88 = .ok (.goto (-77), 3) := by decide +kernel
theorem dX3_readInto_91 : decode cX3_readInto 91 = .ok (.iload_n 2, 1) := by decide +kernel
theorem dX3_readInto_92 : decode cX3_readInto 92 = .ok (.iconst 5, 1) := by decide +kernel
theorem dX3_readInto_93 : decode cX3_readInto 93 = .ok (.if_icmp .ne 10, 3) := by decide +kernel
theorem dX3_readInto_96 : decode cX3_readInto 96 = .ok (.aload_n 1, 1) := by decide +kernel
theorem dX3_readInto_97 : decode cX3_readInto 97 = .ok (.getfield 35, 3) := by decide +kernel
theorem dX3_readInto_100 : decode cX3_readInto 100 = .ok (.ifCond .ne 13, 3) := by decide +kernel
theorem dX3_readInto_103 : decode cX3_readInto 103 = .ok (.aload_n 0, 1) := by decide +kernel
theorem dX3_readInto_104 : decode cX3_readInto 104 = .ok (.iconst 1, 1) := by decide +kernel
theorem dX3_readInto_105 : decode cX3_readInto 105 = .ok (.putfield 19, 3) := by decide +kernel
theorem dX3_readInto_108 : decode cX3_readInto 108 = .ok (.aload_n 0, 1) := by decide +kernel
theorem dX3_readInto_109 : decode cX3_readInto 109 = .ok (.getfield 15, 3) := by decide +kernel
theorem dX3_readInto_112 : decode cX3_readInto 112 = .ok (.ireturn, 1) := by decide +kernel
theorem dX3_readInto_113 : decode cX3_readInto 113 = .ok (.ldc 38, 2) := by decide +kernel
theorem dX3_readInto_115 : decode cX3_readInto 115 = .ok (.ireturn, 1) := by decide +kernel
theorem dX3_widthOfToken_0 : decode cX3_widthOfToken 0 = .ok (.aload_n 0, 1) := by decide +kernel
theorem dX3_widthOfToken_1 : decode cX3_widthOfToken 1 = .ok (.getfield 9, 3) := by decide +kernel
theorem dX3_widthOfToken_4 : decode cX3_widthOfToken 4 = .ok (.iload_n 1, 1) := by decide +kernel
theorem dX3_widthOfToken_5 : decode cX3_widthOfToken 5 = .ok (.iaload, 1) := by decide +kernel
theorem dX3_widthOfToken_6 : decode cX3_widthOfToken 6 = .ok (.istore_n 2, 1) := by decide +kernel
theorem dX3_widthOfToken_7 : decode cX3_widthOfToken 7 = .ok (.iload_n 2, 1) := by decide +kernel
theorem dX3_widthOfToken_8 : decode cX3_widthOfToken 8 = .ok (.bipush 97, 2) := by decide +kernel
theorem dX3_widthOfToken_10 : decode cX3_widthOfToken 10 = .ok (.if_icmp .lt 9, 3) := by decide +kernel
theorem dX3_widthOfToken_13 : decode cX3_widthOfToken 13 = .ok (.iload_n 2, 1) := by decide +kernel
theorem dX3_widthOfToken_14 : decode cX3_widthOfToken 14 = .ok (.bipush 122, 2) := by decide +kernel
theorem dX3_widthOfToken_16 : decode cX3_widthOfToken 16 = .ok (.if_icmp .le 15, 3) := by decide +kernel
theorem dX3_widthOfToken_19 : decode cX3_widthOfToken 19 = .ok (.iload_n 2, 1) := by decide +kernel
theorem dX3_widthOfToken_20 : decode cX3_widthOfToken 20 = .ok (.bipush 44, 2) := by decide +kernel
theorem dX3_widthOfToken_22 : decode cX3_widthOfToken 22 = .ok (.if_icmp .eq 9, 3) := by decide +kernel
theorem dX3_widthOfToken_25 : decode cX3_widthOfToken 25 = .ok (.iload_n 2, 1) := by decide +kernel
theorem dX3_widthOfToken_26 : decode cX3_widthOfToken 26 = .ok (.bipush 59, 2) := by decide +kernel
theorem dX3_widthOfToken_28 : decode cX3_widthOfToken 28 = .ok (.if_icmp .ne 5, 3) := by decide +kernel
theorem dX3_widthOfToken_31 : decode cX3_widthOfToken 31 = .ok (.iconst 1, 1) := by decide +kernel
theorem dX3_widthOfToken_32 : decode cX3_widthOfToken 32 = .ok (.ireturn, 1) := by decide +kernel
theorem dX3_widthOfToken_33 : decode cX3_widthOfToken 33 = .ok (.iconst 0, 1) := by decide +kernel
theorem dX3_widthOfToken_34 : decode cX3_widthOfToken 34 = .ok (.istore_n 3, 1) := by decide +kernel
theorem dX3_widthOfToken_35 : decode cX3_widthOfToken 35 = .ok (.iload_n 3, 1) := by decide +kernel
theorem dX3_widthOfToken_36 : decode cX3_widthOfToken 36 = .ok (.iconst 3, 1) := by decide +kernel
theorem dX3_widthOfToken_37 : decode cX3_widthOfToken 37 = .ok (.if_icmp .ge 19, 3) := by decide +kernel
theorem dX3_widthOfToken_40 : decode cX3_widthOfToken 40 = .ok (.aload_n 0, 1) := by decide +kernel
theorem dX3_widthOfToken_41 : decode cX3_widthOfToken 41 = .ok (.iload_n 1, 1) := by decide +kernel
theorem dX3_widthOfToken_42 : decode cX3_widthOfToken 42 = .ok (.iload_n 3, 1) := by decide +kernel
theorem dX3_widthOfToken_43 : decode cX3_widthOfToken 43 = .ok (.iadd, 1) := by decide +kernel
theorem dX3_widthOfToken_44 : decode cX3_widthOfToken 44 = .ok (.invokevirtual 39, 3) := by decide +kernel
theorem dX3_widthOfToken_47 : decode cX3_widthOfToken 47 = .ok (.ifCond .eq 9, 3) := by decide +kernel
theorem dX3_widthOfToken_50 : decode cX3_widthOfToken 50 = .ok (.iinc 3 1, 3) := by decide +kernel
theorem dX3_widthOfToken_53 : decode cX3_widthOfToken 53 = .ok (.goto (-18), 3) := by decide +kernel
theorem dX3_widthOfToken_56 : decode cX3_widthOfToken 56 = .ok (.iload_n 3, 1) := by decide +kernel
theorem dX3_widthOfToken_57 : decode cX3_widthOfToken 57 = .ok (.iconst 3, 1) := by decide +kernel
theorem dX3_widthOfToken_58 : decode cX3_widthOfToken 58 = .ok (.if_icmp .ge 7, 3) := by decide +kernel
theorem dX3_widthOfToken_61 : decode cX3_widthOfToken 61 = .ok (.iload_n 3, 1) := by decide +kernel
theorem dX3_widthOfToken_62 : decode cX3_widthOfToken 62 = .ok (.goto 4, 3) := by decide +kernel
theorem dX3_widthOfToken_65 : decode cX3_widthOfToken 65 = .ok (.iconst 0, 1) := by decide +kernel
theorem dX3_widthOfToken_66 : decode cX3_widthOfToken 66 = .ok (.ireturn, 1) := by decide +kernel
theorem dX3_isFigure_0 : decode cX3_isFigure 0 = .ok (.iload_n 1, 1) := by decide +kernel
theorem dX3_isFigure_1 : decode cX3_isFigure 1 = .ok (.aload_n 0, 1) := by decide +kernel
theorem dX3_isFigure_2 : decode cX3_isFigure 2 = .ok (.getfield 15, 3) := by decide +kernel
theorem dX3_isFigure_5 : decode cX3_isFigure 5 = .ok (.if_icmp .ge 29, 3) := by decide +kernel
theorem dX3_isFigure_8 : decode cX3_isFigure 8 = .ok (.aload_n 0, 1) := by decide +kernel
theorem dX3_isFigure_9 : decode cX3_isFigure 9 = .ok (.getfield 9, 3) := by decide +kernel
theorem dX3_isFigure_12 : decode cX3_isFigure 12 = .ok (.iload_n 1, 1) := by decide +kernel
theorem dX3_isFigure_13 : decode cX3_isFigure 13 = .ok (.iaload, 1) := by decide +kernel
theorem dX3_isFigure_14 : decode cX3_isFigure 14 = .ok (.bipush 48, 2) := by decide +kernel
theorem dX3_isFigure_16 : decode cX3_isFigure 16 = .ok (.if_icmp .lt 18, 3) := by decide +kernel
theorem dX3_isFigure_19 : decode cX3_isFigure 19 = .ok (.aload_n 0, 1) := by decide +kernel
theorem dX3_isFigure_20 : decode cX3_isFigure 20 = .ok (.getfield 9, 3) := by decide +kernel
theorem dX3_isFigure_23 : decode cX3_isFigure 23 = .ok (.iload_n 1, 1) := by decide +kernel
theorem dX3_isFigure_24 : decode cX3_isFigure 24 = .ok (.iaload, 1) := by decide +kernel
theorem dX3_isFigure_25 : decode cX3_isFigure 25 = .ok (.bipush 57, 2) := by decide +kernel
theorem dX3_isFigure_27 : decode cX3_isFigure 27 = .ok (.if_icmp .gt 7, 3) := by decide +kernel
theorem dX3_isFigure_30 : decode cX3_isFigure 30 = .ok (.iconst 1, 1) := by decide +kernel
theorem dX3_isFigure_31 : decode cX3_isFigure 31 = .ok (.goto 4, 3) := by decide +kernel
theorem dX3_isFigure_34 : decode cX3_isFigure 34 = .ok (.iconst 0, 1) := by decide +kernel
theorem dX3_isFigure_35 : decode cX3_isFigure 35 = .ok (.ireturn, 1) := by decide +kernel
theorem dX3_accept_0 : decode cX3_accept 0 = .ok (.iload_n 1, 1) := by decide +kernel
theorem dX3_accept_1 : decode cX3_accept 1 = .ok (.tableswitch 127 0 6 #[43, 51, 75, 83, 127, 106, 114], 43) := by decide +kernel
theorem dX3_accept_44 : decode cX3_accept 44 = .ok (.aload_n 0, 1) := by decide +kernel
theorem dX3_accept_45 : decode cX3_accept 45 = .ok (.bipush 109, 2) := by decide +kernel
theorem dX3_accept_47 : decode cX3_accept 47 = .ok (.iload_n 2, 1) := by decide +kernel
theorem dX3_accept_48 : decode cX3_accept 48 = .ok (.invokevirtual 43, 3) := by decide +kernel
theorem dX3_accept_51 : decode cX3_accept 51 = .ok (.ireturn, 1) := by decide +kernel
theorem dX3_accept_52 : decode cX3_accept 52 = .ok (.aload 4, 2) := by decide +kernel
theorem dX3_accept_54 : decode cX3_accept 54 = .ok (.aload_n 0, 1) := by decide +kernel
theorem dX3_accept_55 : decode cX3_accept 55 = .ok (.iload_n 2, 1) := by decide +kernel
theorem dX3_accept_56 : decode cX3_accept 56 = .ok (.iload_n 3, 1) := by decide +kernel
theorem dX3_accept_57 : decode cX3_accept 57 = .ok (.invokevirtual 47, 3) := by decide +kernel
theorem dX3_accept_60 : decode cX3_accept 60 = .ok (.putfield 50, 3) := by decide +kernel
theorem dX3_accept_63 : decode cX3_accept 63 = .ok (.aload_n 0, 1) := by decide +kernel
theorem dX3_accept_64 : decode cX3_accept 64 = .ok (.aload 4, 2) := by decide +kernel
theorem dX3_accept_66 : decode cX3_accept 66 = .ok (.getfield 50, 3) := by decide +kernel
theorem dX3_accept_69 : decode cX3_accept 69 = .ok (.iconst 4, 1) := by decide +kernel
theorem dX3_accept_70 : decode cX3_accept 70 = .ok (.bipush 12, 2) := by decide +kernel
theorem dX3_accept_72 : decode cX3_accept 72 = .ok (.invokevirtual 53, 3) := by decide +kernel
theorem dX3_accept_75 : decode cX3_accept 75 = .ok (.ireturn, 1) := by decide +kernel
theorem dX3_accept_76 : decode cX3_accept 76 = .ok (.aload_n 0, 1) := by decide +kernel
theorem dX3_accept_77 : decode cX3_accept 77 = .ok (.bipush 44, 2) := by decide +kernel
theorem dX3_accept_79 : decode cX3_accept 79 = .ok (.iload_n 2, 1) := by decide +kernel
theorem dX3_accept_80 : decode cX3_accept 80 = .ok (.invokevirtual 43, 3) := by decide +kernel
theorem dX3_accept_83 : decode cX3_accept 83 = .ok (.ireturn, 1) := by decide +kernel
theorem dX3_accept_84 : decode cX3_accept 84 = .ok (.aload 4, 2) := by decide +kernel
theorem dX3_accept_86 : decode cX3_accept 86 = .ok (.aload_n 0, 1) := by decide +kernel
theorem dX3_accept_87 : decode cX3_accept 87 = .ok (.iload_n 2, 1) := by decide +kernel
theorem dX3_accept_88 : decode cX3_accept 88 = .ok (.iload_n 3, 1) := by decide +kernel
theorem dX3_accept_89 : decode cX3_accept 89 = .ok (.invokevirtual 47, 3) := by decide +kernel
theorem dX3_accept_92 : decode cX3_accept 92 = .ok (.putfield 57, 3) := by decide +kernel
theorem dX3_accept_95 : decode cX3_accept 95 = .ok (.aload_n 0, 1) := by decide +kernel
theorem dX3_accept_96 : decode cX3_accept 96 = .ok (.aload 4, 2) := by decide +kernel
theorem dX3_accept_98 : decode cX3_accept 98 = .ok (.getfield 57, 3) := by decide +kernel
theorem dX3_accept_101 : decode cX3_accept 101 = .ok (.iconst 0, 1) := by decide +kernel
theorem dX3_accept_102 : decode cX3_accept 102 = .ok (.iconst 2, 1) := by decide +kernel
theorem dX3_accept_103 : decode cX3_accept 103 = .ok (.invokevirtual 53, 3) := by decide +kernel
theorem dX3_accept_106 : decode cX3_accept 106 = .ok (.ireturn, 1) := by decide +kernel
theorem dX3_accept_107 : decode cX3_accept 107 = .ok (.aload_n 0, 1) := by decide +kernel
theorem dX3_accept_108 : decode cX3_accept 108 = .ok (.iload_n 2, 1) := by decide +kernel
theorem dX3_accept_109 : decode cX3_accept 109 = .ok (.aload 4, 2) := by decide +kernel
theorem dX3_accept_111 : decode cX3_accept 111 = .ok (.invokevirtual 60, 3) := by decide +kernel
theorem dX3_accept_114 : decode cX3_accept 114 = .ok (.ireturn, 1) := by decide +kernel
theorem dX3_accept_115 : decode cX3_accept 115 = .ok (.aload_n 0, 1) := by decide +kernel
theorem dX3_accept_116 : decode cX3_accept 116 = .ok (.aload_n 0, 1) := by decide +kernel
theorem dX3_accept_117 : decode cX3_accept 117 = .ok (.iload_n 2, 1) := by decide +kernel
theorem dX3_accept_118 : decode cX3_accept 118 = .ok (.iload_n 3, 1) := by decide +kernel
theorem dX3_accept_119 : decode cX3_accept 119 = .ok (.invokevirtual 47, 3) := by decide +kernel
theorem dX3_accept_122 : decode cX3_accept 122 = .ok (.aload 4, 2) := by decide +kernel
theorem dX3_accept_124 : decode cX3_accept 124 = .ok (.invokevirtual 64, 3) := by decide +kernel
theorem dX3_accept_127 : decode cX3_accept 127 = .ok (.ireturn, 1) := by decide +kernel
theorem dX3_accept_128 : decode cX3_accept 128 = .ok (.aload_n 0, 1) := by decide +kernel
theorem dX3_accept_129 : decode cX3_accept 129 = .ok (.bipush 59, 2) := by decide +kernel
theorem dX3_accept_131 : decode cX3_accept 131 = .ok (.iload_n 2, 1) := by decide +kernel
theorem dX3_accept_132 : decode cX3_accept 132 = .ok (.invokevirtual 43, 3) := by decide +kernel
theorem dX3_accept_135 : decode cX3_accept 135 = .ok (.ireturn, 1) := by decide +kernel
theorem dX3_acceptSign_0 : decode cX3_acceptSign 0 = .ok (.aload_n 0, 1) := by decide +kernel
theorem dX3_acceptSign_1 : decode cX3_acceptSign 1 = .ok (.getfield 9, 3) := by decide +kernel
theorem dX3_acceptSign_4 : decode cX3_acceptSign 4 = .ok (.iload_n 2, 1) := by decide +kernel
theorem dX3_acceptSign_5 : decode cX3_acceptSign 5 = .ok (.iaload, 1) := by decide +kernel
theorem dX3_acceptSign_6 : decode cX3_acceptSign 6 = .ok (.iload_n 1, 1) := by decide +kernel
theorem dX3_acceptSign_7 : decode cX3_acceptSign 7 = .ok (.if_icmp .ne 7, 3) := by decide +kernel
theorem dX3_acceptSign_10 : decode cX3_acceptSign 10 = .ok (.iconst 0, 1) := by decide +kernel
theorem dX3_acceptSign_11 : decode cX3_acceptSign 11 = .ok (.goto 4, 3) := by decide +kernel
theorem dX3_acceptSign_14 : decode cX3_acceptSign 14 = .ok (.iconst 1, 1) := by decide +kernel
theorem dX3_acceptSign_15 : decode cX3_acceptSign 15 = .ok (.ireturn, 1) := by decide +kernel
theorem dX3_acceptSort_0 : decode cX3_acceptSort 0 = .ok (.aload_n 0, 1) := by decide +kernel
theorem dX3_acceptSort_1 : decode cX3_acceptSort 1 = .ok (.aload_n 0, 1) := by decide +kernel
theorem dX3_acceptSort_2 : decode cX3_acceptSort 2 = .ok (.getfield 9, 3) := by decide +kernel
theorem dX3_acceptSort_5 : decode cX3_acceptSort 5 = .ok (.iload_n 1, 1) := by decide +kernel
theorem dX3_acceptSort_6 : decode cX3_acceptSort 6 = .ok (.iaload, 1) := by decide +kernel
theorem dX3_acceptSort_7 : decode cX3_acceptSort 7 = .ok (.invokevirtual 67, 3) := by decide +kernel
theorem dX3_acceptSort_10 : decode cX3_acceptSort 10 = .ok (.istore_n 3, 1) := by decide +kernel
theorem dX3_acceptSort_11 : decode cX3_acceptSort 11 = .ok (.iload_n 3, 1) := by decide +kernel
theorem dX3_acceptSort_12 : decode cX3_acceptSort 12 = .ok (.ldc 38, 2) := by decide +kernel
theorem dX3_acceptSort_14 : decode cX3_acceptSort 14 = .ok (.if_icmp .ne 5, 3) := by decide +kernel
theorem dX3_acceptSort_17 : decode cX3_acceptSort 17 = .ok (.iconst 1, 1) := by decide +kernel
theorem dX3_acceptSort_18 : decode cX3_acceptSort 18 = .ok (.ireturn, 1) := by decide +kernel
theorem dX3_acceptSort_19 : decode cX3_acceptSort 19 = .ok (.aload_n 2, 1) := by decide +kernel
theorem dX3_acceptSort_20 : decode cX3_acceptSort 20 = .ok (.getfield 35, 3) := by decide +kernel
theorem dX3_acceptSort_23 : decode cX3_acceptSort 23 = .ok (.bipush 7, 2) := by decide +kernel
theorem dX3_acceptSort_25 : decode cX3_acceptSort 25 = .ok (.if_icmp .lt 5, 3) := by decide +kernel
theorem dX3_acceptSort_28 : decode cX3_acceptSort 28 = .ok (.iconst 3, 1) := by decide +kernel
theorem dX3_acceptSort_29 : decode cX3_acceptSort 29 = .ok (.ireturn, 1) := by decide +kernel
theorem dX3_acceptSort_30 : decode cX3_acceptSort 30 = .ok (.aload_n 2, 1) := by decide +kernel
theorem dX3_acceptSort_31 : decode cX3_acceptSort 31 = .ok (.getfield 70, 3) := by decide +kernel
theorem dX3_acceptSort_34 : decode cX3_acceptSort 34 = .ok (.aload_n 2, 1) := by decide +kernel
theorem dX3_acceptSort_35 : decode cX3_acceptSort 35 = .ok (.getfield 35, 3) := by decide +kernel
theorem dX3_acceptSort_38 : decode cX3_acceptSort 38 = .ok (.iload_n 3, 1) := by decide +kernel
theorem dX3_acceptSort_39 : decode cX3_acceptSort 39 = .ok (.iastore, 1) := by decide +kernel
theorem dX3_acceptSort_40 : decode cX3_acceptSort 40 = .ok (.iconst 0, 1) := by decide +kernel
theorem dX3_acceptSort_41 : decode cX3_acceptSort 41 = .ok (.ireturn, 1) := by decide +kernel
theorem dX3_acceptLane_0 : decode cX3_acceptLane 0 = .ok (.aload_n 0, 1) := by decide +kernel
theorem dX3_acceptLane_1 : decode cX3_acceptLane 1 = .ok (.iload_n 1, 1) := by decide +kernel
theorem dX3_acceptLane_2 : decode cX3_acceptLane 2 = .ok (.iconst 0, 1) := by decide +kernel
theorem dX3_acceptLane_3 : decode cX3_acceptLane 3 = .ok (.iconst 1, 1) := by decide +kernel
theorem dX3_acceptLane_4 : decode cX3_acceptLane 4 = .ok (.invokevirtual 53, 3) := by decide +kernel
theorem dX3_acceptLane_7 : decode cX3_acceptLane 7 = .ok (.istore_n 3, 1) := by decide +kernel
theorem dX3_acceptLane_8 : decode cX3_acceptLane 8 = .ok (.iload_n 3, 1) := by decide +kernel
theorem dX3_acceptLane_9 : decode cX3_acceptLane 9 = .ok (.ifCond .ne 32, 3) := by decide +kernel
theorem dX3_acceptLane_12 : decode cX3_acceptLane 12 = .ok (.aload_n 2, 1) := by decide +kernel
theorem dX3_acceptLane_13 : decode cX3_acceptLane 13 = .ok (.getfield 35, 3) := by decide +kernel
theorem dX3_acceptLane_16 : decode cX3_acceptLane 16 = .ok (.bipush 7, 2) := by decide +kernel
theorem dX3_acceptLane_18 : decode cX3_acceptLane 18 = .ok (.if_icmp .ge 23, 3) := by decide +kernel
theorem dX3_acceptLane_21 : decode cX3_acceptLane 21 = .ok (.aload_n 2, 1) := by decide +kernel
theorem dX3_acceptLane_22 : decode cX3_acceptLane 22 = .ok (.getfield 73, 3) := by decide +kernel
theorem dX3_acceptLane_25 : decode cX3_acceptLane 25 = .ok (.aload_n 2, 1) := by decide +kernel
theorem dX3_acceptLane_26 : decode cX3_acceptLane 26 = .ok (.getfield 35, 3) := by decide +kernel
theorem dX3_acceptLane_29 : decode cX3_acceptLane 29 = .ok (.iload_n 1, 1) := by decide +kernel
theorem dX3_acceptLane_30 : decode cX3_acceptLane 30 = .ok (.iastore, 1) := by decide +kernel
theorem dX3_acceptLane_31 : decode cX3_acceptLane 31 = .ok (.aload_n 2, 1) := by decide +kernel
theorem dX3_acceptLane_32 : decode cX3_acceptLane 32 = .ok (.dup, 1) := by decide +kernel
theorem dX3_acceptLane_33 : decode cX3_acceptLane 33 = .ok (.getfield 35, 3) := by decide +kernel
theorem dX3_acceptLane_36 : decode cX3_acceptLane 36 = .ok (.iconst 1, 1) := by decide +kernel
theorem dX3_acceptLane_37 : decode cX3_acceptLane 37 = .ok (.iadd, 1) := by decide +kernel
theorem dX3_acceptLane_38 : decode cX3_acceptLane 38 = .ok (.putfield 35, 3) := by decide +kernel
theorem dX3_acceptLane_41 : decode cX3_acceptLane 41 = .ok (.iload_n 3, 1) := by decide +kernel
theorem dX3_acceptLane_42 : decode cX3_acceptLane 42 = .ok (.ireturn, 1) := by decide +kernel
theorem dX3_kindOf_0 : decode cX3_kindOf 0 = .ok (.iload_n 1, 1) := by decide +kernel
theorem dX3_kindOf_1 : decode cX3_kindOf 1 = .ok (.lookupswitch 61 #[(99, 59), (114, 55), (115, 51), (116, 57), (119, 53)], 51) := by decide +kernel
theorem dX3_kindOf_52 : decode cX3_kindOf 52 = .ok (.iconst 1, 1) := by decide +kernel
theorem dX3_kindOf_53 : decode cX3_kindOf 53 = .ok (.ireturn, 1) := by decide +kernel
theorem dX3_kindOf_54 : decode cX3_kindOf 54 = .ok (.iconst 2, 1) := by decide +kernel
theorem dX3_kindOf_55 : decode cX3_kindOf 55 = .ok (.ireturn, 1) := by decide +kernel
theorem dX3_kindOf_56 : decode cX3_kindOf 56 = .ok (.iconst 3, 1) := by decide +kernel
theorem dX3_kindOf_57 : decode cX3_kindOf 57 = .ok (.ireturn, 1) := by decide +kernel
theorem dX3_kindOf_58 : decode cX3_kindOf 58 = .ok (.iconst 4, 1) := by decide +kernel
theorem dX3_kindOf_59 : decode cX3_kindOf 59 = .ok (.ireturn, 1) := by decide +kernel
theorem dX3_kindOf_60 : decode cX3_kindOf 60 = .ok (.iconst 5, 1) := by decide +kernel
theorem dX3_kindOf_61 : decode cX3_kindOf 61 = .ok (.ireturn, 1) := by decide +kernel
theorem dX3_kindOf_62 : decode cX3_kindOf 62 = .ok (.ldc 38, 2) := by decide +kernel
theorem dX3_kindOf_64 : decode cX3_kindOf 64 = .ok (.ireturn, 1) := by decide +kernel
theorem dX3_numberAt_0 : decode cX3_numberAt 0 = .ok (.aload_n 0, 1) := by decide +kernel
theorem dX3_numberAt_1 : decode cX3_numberAt 1 = .ok (.iload_n 1, 1) := by decide +kernel
theorem dX3_numberAt_2 : decode cX3_numberAt 2 = .ok (.invokevirtual 39, 3) := by decide +kernel
theorem dX3_numberAt_5 : decode cX3_numberAt 5 = .ok (.ifCond .ne 6, 3) := by decide +kernel
theorem dX3_numberAt_8 : decode cX3_numberAt 8 = .ok (.ldc 38, 2) := by decide +kernel
theorem dX3_numberAt_10 : decode cX3_numberAt 10 = .ok (.ireturn, 1) := by decide +kernel
theorem dX3_numberAt_11 : decode cX3_numberAt 11 = .ok (.aload_n 0, 1) := by decide +kernel
theorem dX3_numberAt_12 : decode cX3_numberAt 12 = .ok (.getfield 9, 3) := by decide +kernel
theorem dX3_numberAt_15 : decode cX3_numberAt 15 = .ok (.iload_n 1, 1) := by decide +kernel
theorem dX3_numberAt_16 : decode cX3_numberAt 16 = .ok (.iaload, 1) := by decide +kernel
theorem dX3_numberAt_17 : decode cX3_numberAt 17 = .ok (.bipush 48, 2) := by decide +kernel
theorem dX3_numberAt_19 : decode cX3_numberAt 19 = .ok (.isub, 1) := by decide +kernel
theorem dX3_numberAt_20 : decode cX3_numberAt 20 = .ok (.istore_n 3, 1) := by decide +kernel
theorem dX3_numberAt_21 : decode cX3_numberAt 21 = .ok (.iload_n 2, 1) := by decide +kernel
theorem dX3_numberAt_22 : decode cX3_numberAt 22 = .ok (.iconst 2, 1) := by decide +kernel
theorem dX3_numberAt_23 : decode cX3_numberAt 23 = .ok (.if_icmp .ne 32, 3) := by decide +kernel
theorem dX3_numberAt_26 : decode cX3_numberAt 26 = .ok (.aload_n 0, 1) := by decide +kernel
theorem dX3_numberAt_27 : decode cX3_numberAt 27 = .ok (.iload_n 1, 1) := by decide +kernel
theorem dX3_numberAt_28 : decode cX3_numberAt 28 = .ok (.iconst 1, 1) := by decide +kernel
theorem dX3_numberAt_29 : decode cX3_numberAt 29 = .ok (.iadd, 1) := by decide +kernel
theorem dX3_numberAt_30 : decode cX3_numberAt 30 = .ok (.invokevirtual 39, 3) := by decide +kernel
theorem dX3_numberAt_33 : decode cX3_numberAt 33 = .ok (.ifCond .eq 22, 3) := by decide +kernel
theorem dX3_numberAt_36 : decode cX3_numberAt 36 = .ok (.iload_n 3, 1) := by decide +kernel
theorem dX3_numberAt_37 : decode cX3_numberAt 37 = .ok (.bipush 10, 2) := by decide +kernel
theorem dX3_numberAt_39 : decode cX3_numberAt 39 = .ok (.imul, 1) := by decide +kernel
theorem dX3_numberAt_40 : decode cX3_numberAt 40 = .ok (.aload_n 0, 1) := by decide +kernel
theorem dX3_numberAt_41 : decode cX3_numberAt 41 = .ok (.getfield 9, 3) := by decide +kernel
theorem dX3_numberAt_44 : decode cX3_numberAt 44 = .ok (.iload_n 1, 1) := by decide +kernel
theorem dX3_numberAt_45 : decode cX3_numberAt 45 = .ok (.iconst 1, 1) := by decide +kernel
theorem dX3_numberAt_46 : decode cX3_numberAt 46 = .ok (.iadd, 1) := by decide +kernel
theorem dX3_numberAt_47 : decode cX3_numberAt 47 = .ok (.iaload, 1) := by decide +kernel
theorem dX3_numberAt_48 : decode cX3_numberAt 48 = .ok (.iadd, 1) := by decide +kernel
theorem dX3_numberAt_49 : decode cX3_numberAt 49 = .ok (.bipush 48, 2) := by decide +kernel
theorem dX3_numberAt_51 : decode cX3_numberAt 51 = .ok (.isub, 1) := by decide +kernel
theorem dX3_numberAt_52 : decode cX3_numberAt 52 = .ok (.goto 4, 3) := by decide +kernel
theorem dX3_numberAt_55 : decode cX3_numberAt 55 = .ok (.iload_n 3, 1) := by decide +kernel
theorem dX3_numberAt_56 : decode cX3_numberAt 56 = .ok (.ireturn, 1) := by decide +kernel
theorem dX3_faultOfNumber_0 : decode cX3_faultOfNumber 0 = .ok (.iload_n 1, 1) := by decide +kernel
theorem dX3_faultOfNumber_1 : decode cX3_faultOfNumber 1 = .ok (.ldc 38, 2) := by decide +kernel
theorem dX3_faultOfNumber_3 : decode cX3_faultOfNumber 3 = .ok (.if_icmp .ne 5, 3) := by decide +kernel
theorem dX3_faultOfNumber_6 : decode cX3_faultOfNumber 6 = .ok (.iconst 1, 1) := by decide +kernel
theorem dX3_faultOfNumber_7 : decode cX3_faultOfNumber 7 = .ok (.ireturn, 1) := by decide +kernel
theorem dX3_faultOfNumber_8 : decode cX3_faultOfNumber 8 = .ok (.iload_n 1, 1) := by decide +kernel
theorem dX3_faultOfNumber_9 : decode cX3_faultOfNumber 9 = .ok (.iload_n 2, 1) := by decide +kernel
theorem dX3_faultOfNumber_10 : decode cX3_faultOfNumber 10 = .ok (.iload_n 3, 1) := by decide +kernel
theorem dX3_faultOfNumber_11 : decode cX3_faultOfNumber 11 = .ok (.invokestatic 76, 3) := by decide +kernel
theorem dX3_faultOfNumber_14 : decode cX3_faultOfNumber 14 = .ok (.ifCond .eq 7, 3) := by decide +kernel
theorem dX3_faultOfNumber_17 : decode cX3_faultOfNumber 17 = .ok (.iconst 2, 1) := by decide +kernel
theorem dX3_faultOfNumber_18 : decode cX3_faultOfNumber 18 = .ok (.goto 4, 3) := by decide +kernel
theorem dX3_faultOfNumber_21 : decode cX3_faultOfNumber 21 = .ok (.iconst 0, 1) := by decide +kernel
theorem dX3_faultOfNumber_22 : decode cX3_faultOfNumber 22 = .ok (.ireturn, 1) := by decide +kernel
theorem dX4_init_0 : decode cX4_init 0 = .ok (.aload_n 0, 1) := by decide +kernel
theorem dX4_init_1 : decode cX4_init 1 = .ok (.invokespecial 1, 3) := by decide +kernel
theorem dX4_init_4 : decode cX4_init 4 = .ok (.aload_n 0, 1) := by decide +kernel
theorem dX4_init_5 : decode cX4_init 5 = .ok (.bipush 16, 2) := by decide +kernel
theorem dX4_init_7 : decode cX4_init 7 = .ok (.newarray .int, 2) := by decide +kernel
theorem dX4_init_9 : decode cX4_init 9 = .ok (.putfield 9, 3) := by decide +kernel
theorem dX4_init_12 : decode cX4_init 12 = .ok (.aload_n 0, 1) := by decide +kernel
theorem dX4_init_13 : decode cX4_init 13 = .ok (.iconst 0, 1) := by decide +kernel
theorem dX4_init_14 : decode cX4_init 14 = .ok (.putfield 13, 3) := by decide +kernel
theorem dX4_init_17 : decode cX4_init 17 = .ok (.return_, 1) := by decide +kernel
theorem dX4_leave_0 : decode cX4_leave 0 = .ok (.aload_n 0, 1) := by decide +kernel
theorem dX4_leave_1 : decode cX4_leave 1 = .ok (.getfield 13, 3) := by decide +kernel
theorem dX4_leave_4 : decode cX4_leave 4 = .ok (.bipush 16, 2) := by decide +kernel
theorem dX4_leave_6 : decode cX4_leave 6 = .ok (.if_icmp .ge 23, 3) := by decide +kernel
theorem dX4_leave_9 : decode cX4_leave 9 = .ok (.aload_n 0, 1) := by decide +kernel
theorem dX4_leave_10 : decode cX4_leave 10 = .ok (.getfield 9, 3) := by decide +kernel
theorem dX4_leave_13 : decode cX4_leave 13 = .ok (.aload_n 0, 1) := by decide +kernel
theorem dX4_leave_14 : decode cX4_leave 14 = .ok (.getfield 13, 3) := by decide +kernel
theorem dX4_leave_17 : decode cX4_leave 17 = .ok (.iload_n 1, 1) := by decide +kernel
theorem dX4_leave_18 : decode cX4_leave 18 = .ok (.iastore, 1) := by decide +kernel
end
section
theorem dX4_leave_19 : decode cX4_leave 19 = .ok (.aload_n 0, 1) := by decide +kernel
theorem dX4_leave_20 : decode cX4_leave 20 = .ok (.dup, 1) := by decide +kernel
theorem dX4_leave_21 : decode cX4_leave 21 = .ok (.getfield 13, 3) := by decide +kernel
theorem dX4_leave_24 : decode cX4_leave 24 = .ok (.iconst 1, 1) := by decide +kernel
theorem dX4_leave_25 : decode cX4_leave 25 = .ok (.iadd, 1) := by decide +kernel
theorem dX4_leave_26 : decode cX4_leave 26 = .ok (.putfield 13, 3) := by decide +kernel
theorem dX4_leave_29 : decode cX4_leave 29 = .ok (.return_, 1) := by decide +kernel
theorem dX5_init_0 : decode cX5_init 0 = .ok (.aload_n 0, 1) := by decide +kernel
theorem dX5_init_1 : decode cX5_init 1 = .ok (.invokespecial 1, 3) := by decide +kernel
theorem dX5_init_4 : decode cX5_init 4 = .ok (.aload_n 0, 1) := by decide +kernel
theorem dX5_init_5 : decode cX5_init 5 = .ok (.bipush 8, 2) := by decide +kernel
theorem dX5_init_7 : decode cX5_init 7 = .ok (.anewarray 9, 3) := by decide +kernel
theorem dX5_init_10 : decode cX5_init 10 = .ok (.putfield 11, 3) := by decide +kernel
theorem dX5_init_13 : decode cX5_init 13 = .ok (.aload_n 0, 1) := by decide +kernel
theorem dX5_init_14 : decode cX5_init 14 = .ok (.new 15, 3) := by decide +kernel
theorem dX5_init_17 : decode cX5_init 17 = .ok (.dup, 1) := by decide +kernel
theorem dX5_init_18 : decode cX5_init 18 = .ok (.invokespecial 17, 3) := by decide +kernel
theorem dX5_init_21 : decode cX5_init 21 = .ok (.putfield 18, 3) := by decide +kernel
theorem dX5_init_24 : decode cX5_init 24 = .ok (.aload_n 0, 1) := by decide +kernel
theorem dX5_init_25 : decode cX5_init 25 = .ok (.new 22, 3) := by decide +kernel
theorem dX5_init_28 : decode cX5_init 28 = .ok (.dup, 1) := by decide +kernel
theorem dX5_init_29 : decode cX5_init 29 = .ok (.invokespecial 24, 3) := by decide +kernel
theorem dX5_init_32 : decode cX5_init 32 = .ok (.putfield 25, 3) := by decide +kernel
theorem dX5_init_35 : decode cX5_init 35 = .ok (.aload_n 0, 1) := by decide +kernel
theorem dX5_init_36 : decode cX5_init 36 = .ok (.new 29, 3) := by decide +kernel
theorem dX5_init_39 : decode cX5_init 39 = .ok (.dup, 1) := by decide +kernel
theorem dX5_init_40 : decode cX5_init 40 = .ok (.invokespecial 31, 3) := by decide +kernel
theorem dX5_init_43 : decode cX5_init 43 = .ok (.putfield 32, 3) := by decide +kernel
theorem dX5_init_46 : decode cX5_init 46 = .ok (.aload_n 0, 1) := by decide +kernel
theorem dX5_init_47 : decode cX5_init 47 = .ok (.iconst 2, 1) := by decide +kernel
theorem dX5_init_48 : decode cX5_init 48 = .ok (.anewarray 22, 3) := by decide +kernel
theorem dX5_init_51 : decode cX5_init 51 = .ok (.putfield 36, 3) := by decide +kernel
theorem dX5_init_54 : decode cX5_init 54 = .ok (.aload_n 0, 1) := by decide +kernel
theorem dX5_init_55 : decode cX5_init 55 = .ok (.new 40, 3) := by decide +kernel
theorem dX5_init_58 : decode cX5_init 58 = .ok (.dup, 1) := by decide +kernel
theorem dX5_init_59 : decode cX5_init 59 = .ok (.invokespecial 42, 3) := by decide +kernel
theorem dX5_init_62 : decode cX5_init 62 = .ok (.putfield 43, 3) := by decide +kernel
theorem dX5_init_65 : decode cX5_init 65 = .ok (.aload_n 0, 1) := by decide +kernel
theorem dX5_init_66 : decode cX5_init 66 = .ok (.new 22, 3) := by decide +kernel
theorem dX5_init_69 : decode cX5_init 69 = .ok (.dup, 1) := by decide +kernel
theorem dX5_init_70 : decode cX5_init 70 = .ok (.invokespecial 24, 3) := by decide +kernel
theorem dX5_init_73 : decode cX5_init 73 = .ok (.putfield 47, 3) := by decide +kernel
theorem dX5_init_76 : decode cX5_init 76 = .ok (.aload_n 0, 1) := by decide +kernel
theorem dX5_init_77 : decode cX5_init 77 = .ok (.bipush 7, 2) := by decide +kernel
theorem dX5_init_79 : decode cX5_init 79 = .ok (.anewarray 22, 3) := by decide +kernel
theorem dX5_init_82 : decode cX5_init 82 = .ok (.putfield 50, 3) := by decide +kernel
theorem dX5_init_85 : decode cX5_init 85 = .ok (.aload_n 0, 1) := by decide +kernel
theorem dX5_init_86 : decode cX5_init 86 = .ok (.bipush 6, 2) := by decide +kernel
theorem dX5_init_88 : decode cX5_init 88 = .ok (.newarray .int, 2) := by decide +kernel
theorem dX5_init_90 : decode cX5_init 90 = .ok (.putfield 53, 3) := by decide +kernel
theorem dX5_init_93 : decode cX5_init 93 = .ok (.aload_n 0, 1) := by decide +kernel
theorem dX5_init_94 : decode cX5_init 94 = .ok (.bipush 6, 2) := by decide +kernel
theorem dX5_init_96 : decode cX5_init 96 = .ok (.newarray .int, 2) := by decide +kernel
theorem dX5_init_98 : decode cX5_init 98 = .ok (.putfield 57, 3) := by decide +kernel
theorem dX5_init_101 : decode cX5_init 101 = .ok (.aload_n 0, 1) := by decide +kernel
theorem dX5_init_102 : decode cX5_init 102 = .ok (.iconst 0, 1) := by decide +kernel
theorem dX5_init_103 : decode cX5_init 103 = .ok (.putfield 60, 3) := by decide +kernel
theorem dX5_init_106 : decode cX5_init 106 = .ok (.iconst 0, 1) := by decide +kernel
theorem dX5_init_107 : decode cX5_init 107 = .ok (.istore_n 1, 1) := by decide +kernel
theorem dX5_init_108 : decode cX5_init 108 = .ok (.iload_n 1, 1) := by decide +kernel
theorem dX5_init_109 : decode cX5_init 109 = .ok (.bipush 8, 2) := by decide +kernel
theorem dX5_init_111 : decode cX5_init 111 = .ok (.if_icmp .ge 22, 3) := by decide +kernel
theorem dX5_init_114 : decode cX5_init 114 = .ok (.aload_n 0, 1) := by decide +kernel
theorem dX5_init_115 : decode cX5_init 115 = .ok (.getfield 11, 3) := by decide +kernel
theorem dX5_init_118 : decode cX5_init 118 = .ok (.iload_n 1, 1) := by decide +kernel
theorem dX5_init_119 : decode cX5_init 119 = .ok (.new 9, 3) := by decide +kernel
theorem dX5_init_122 : decode cX5_init 122 = .ok (.dup, 1) := by decide +kernel
theorem dX5_init_123 : decode cX5_init 123 = .ok (.invokespecial 64, 3) := by decide +kernel
theorem dX5_init_126 : decode cX5_init 126 = .ok (.aastore, 1) := by decide +kernel
theorem dX5_init_127 : decode cX5_init 127 = .ok (.iinc 1 1, 3) := by decide +kernel
theorem dX5_init_130 : decode cX5_init 130 = .ok (.goto (-22), 3) := by decide +kernel
theorem dX5_init_133 : decode cX5_init 133 = .ok (.iconst 0, 1) := by decide +kernel
theorem dX5_init_134 : decode cX5_init 134 = .ok (.istore_n 1, 1) := by decide +kernel
theorem dX5_init_135 : decode cX5_init 135 = .ok (.iload_n 1, 1) := by decide +kernel
theorem dX5_init_136 : decode cX5_init 136 = .ok (.iconst 2, 1) := by decide +kernel
theorem dX5_init_137 : decode cX5_init 137 = .ok (.if_icmp .ge 22, 3) := by decide +kernel
theorem dX5_init_140 : decode cX5_init 140 = .ok (.aload_n 0, 1) := by decide +kernel
theorem dX5_init_141 : decode cX5_init 141 = .ok (.getfield 36, 3) := by decide +kernel
theorem dX5_init_144 : decode cX5_init 144 = .ok (.iload_n 1, 1) := by decide +kernel
theorem dX5_init_145 : decode cX5_init 145 = .ok (.new 22, 3) := by decide +kernel
theorem dX5_init_148 : decode cX5_init 148 = .ok (.dup, 1) := by decide +kernel
theorem dX5_init_149 : decode cX5_init 149 = .ok (.invokespecial 24, 3) := by decide +kernel
theorem dX5_init_152 : decode cX5_init 152 = .ok (.aastore, 1) := by decide +kernel
theorem dX5_init_153 : decode cX5_init 153 = .ok (.iinc 1 1, 3) := by decide +kernel
theorem dX5_init_156 : decode cX5_init 156 = .ok (.goto (-21), 3) := by decide +kernel
theorem dX5_init_159 : decode cX5_init 159 = .ok (.iconst 0, 1) := by decide +kernel
theorem dX5_init_160 : decode cX5_init 160 = .ok (.istore_n 1, 1) := by decide +kernel
theorem dX5_init_161 : decode cX5_init 161 = .ok (.iload_n 1, 1) := by decide +kernel
theorem dX5_init_162 : decode cX5_init 162 = .ok (.bipush 6, 2) := by decide +kernel
theorem dX5_init_164 : decode cX5_init 164 = .ok (.if_icmp .gt 22, 3) := by decide +kernel
theorem dX5_init_167 : decode cX5_init 167 = .ok (.aload_n 0, 1) := by decide +kernel
theorem dX5_init_168 : decode cX5_init 168 = .ok (.getfield 50, 3) := by decide +kernel
theorem dX5_init_171 : decode cX5_init 171 = .ok (.iload_n 1, 1) := by decide +kernel
theorem dX5_init_172 : decode cX5_init 172 = .ok (.new 22, 3) := by decide +kernel
theorem dX5_init_175 : decode cX5_init 175 = .ok (.dup, 1) := by decide +kernel
theorem dX5_init_176 : decode cX5_init 176 = .ok (.invokespecial 24, 3) := by decide +kernel
theorem dX5_init_179 : decode cX5_init 179 = .ok (.aastore, 1) := by decide +kernel
theorem dX5_init_180 : decode cX5_init 180 = .ok (.iinc 1 1, 3) := by decide +kernel
theorem dX5_init_183 : decode cX5_init 183 = .ok (.goto (-22), 3) := by decide +kernel
theorem dX5_init_186 : decode cX5_init 186 = .ok (.return_, 1) := by decide +kernel
theorem dX5_row_0 : decode cX5_row 0 = .ok (.iload_n 1, 1) := by decide +kernel
theorem dX5_row_1 : decode cX5_row 1 = .ok (.invokestatic 65, 3) := by decide +kernel
theorem dX5_row_4 : decode cX5_row 4 = .ok (.ifCond .ne 18, 3) := by decide +kernel
theorem dX5_row_7 : decode cX5_row 7 = .ok (.iload_n 2, 1) := by decide +kernel
theorem dX5_row_8 : decode cX5_row 8 = .ok (.iconst 0, 1) := by decide +kernel
theorem dX5_row_9 : decode cX5_row 9 = .ok (.iconst 2, 1) := by decide +kernel
theorem dX5_row_10 : decode cX5_row 10 = .ok (.invokestatic 69, 3) := by decide +kernel
theorem dX5_row_13 : decode cX5_row 13 = .ok (.ifCond .ne 9, 3) := by decide +kernel
theorem dX5_row_16 : decode cX5_row 16 = .ok (.iload_n 3, 1) := by decide +kernel
theorem dX5_row_17 : decode cX5_row 17 = .ok (.bipush 40, 2) := by decide +kernel
theorem dX5_row_19 : decode cX5_row 19 = .ok (.if_icmp .le 6, 3) := by decide +kernel
theorem dX5_row_22 : decode cX5_row 22 = .ok (.ldc 73, 2) := by decide +kernel
theorem dX5_row_24 : decode cX5_row 24 = .ok (.ireturn, 1) := by decide +kernel
theorem dX5_row_25 : decode cX5_row 25 = .ok (.iload_n 3, 1) := by decide +kernel
theorem dX5_row_26 : decode cX5_row 26 = .ok (.ifCond .ge 9, 3) := by decide +kernel
theorem dX5_row_29 : decode cX5_row 29 = .ok (.aload_n 0, 1) := by decide +kernel
theorem dX5_row_30 : decode cX5_row 30 = .ok (.iconst 4, 1) := by decide +kernel
theorem dX5_row_31 : decode cX5_row 31 = .ok (.invokevirtual 74, 3) := by decide +kernel
theorem dX5_row_34 : decode cX5_row 34 = .ok (.ireturn, 1) := by decide +kernel
theorem dX5_row_35 : decode cX5_row 35 = .ok (.aload_n 0, 1) := by decide +kernel
theorem dX5_row_36 : decode cX5_row 36 = .ok (.getfield 11, 3) := by decide +kernel
theorem dX5_row_39 : decode cX5_row 39 = .ok (.iload_n 1, 1) := by decide +kernel
theorem dX5_row_40 : decode cX5_row 40 = .ok (.aaload, 1) := by decide +kernel
theorem dX5_row_41 : decode cX5_row 41 = .ok (.iload_n 2, 1) := by decide +kernel
theorem dX5_row_42 : decode cX5_row 42 = .ok (.iload_n 3, 1) := by decide +kernel
theorem dX5_row_43 : decode cX5_row 43 = .ok (.invokevirtual 78, 3) := by decide +kernel
theorem dX5_row_46 : decode cX5_row 46 = .ok (.aload_n 0, 1) := by decide +kernel
theorem dX5_row_47 : decode cX5_row 47 = .ok (.iload_n 3, 1) := by decide +kernel
theorem dX5_row_48 : decode cX5_row 48 = .ok (.invokevirtual 82, 3) := by decide +kernel
theorem dX5_row_51 : decode cX5_row 51 = .ok (.ireturn, 1) := by decide +kernel
theorem dX5_set_0 : decode cX5_set 0 = .ok (.iload_n 1, 1) := by decide +kernel
theorem dX5_set_1 : decode cX5_set 1 = .ok (.invokestatic 65, 3) := by decide +kernel
theorem dX5_set_4 : decode cX5_set 4 = .ok (.ifCond .eq 6, 3) := by decide +kernel
theorem dX5_set_7 : decode cX5_set 7 = .ok (.ldc 73, 2) := by decide +kernel
theorem dX5_set_9 : decode cX5_set 9 = .ok (.ireturn, 1) := by decide +kernel
theorem dX5_set_10 : decode cX5_set 10 = .ok (.aload_n 0, 1) := by decide +kernel
theorem dX5_set_11 : decode cX5_set 11 = .ok (.getfield 11, 3) := by decide +kernel
theorem dX5_set_14 : decode cX5_set 14 = .ok (.iload_n 1, 1) := by decide +kernel
theorem dX5_set_15 : decode cX5_set 15 = .ok (.aaload, 1) := by decide +kernel
theorem dX5_set_16 : decode cX5_set 16 = .ok (.astore 4, 2) := by decide +kernel
theorem dX5_set_18 : decode cX5_set 18 = .ok (.aload 4, 2) := by decide +kernel
theorem dX5_set_20 : decode cX5_set 20 = .ok (.getfield 85, 3) := by decide +kernel
theorem dX5_set_23 : decode cX5_set 23 = .ok (.ifCond .eq 9, 3) := by decide +kernel
theorem dX5_set_26 : decode cX5_set 26 = .ok (.aload_n 0, 1) := by decide +kernel
theorem dX5_set_27 : decode cX5_set 27 = .ok (.iconst 1, 1) := by decide +kernel
theorem dX5_set_28 : decode cX5_set 28 = .ok (.invokevirtual 74, 3) := by decide +kernel
theorem dX5_set_31 : decode cX5_set 31 = .ok (.ireturn, 1) := by decide +kernel
theorem dX5_set_32 : decode cX5_set 32 = .ok (.aload 4, 2) := by decide +kernel
theorem dX5_set_34 : decode cX5_set 34 = .ok (.iload_n 2, 1) := by decide +kernel
theorem dX5_set_35 : decode cX5_set 35 = .ok (.iconst 1, 1) := by decide +kernel
theorem dX5_set_36 : decode cX5_set 36 = .ok (.invokevirtual 89, 3) := by decide +kernel
theorem dX5_set_39 : decode cX5_set 39 = .ok (.ifCond .ne 9, 3) := by decide +kernel
theorem dX5_set_42 : decode cX5_set 42 = .ok (.aload_n 0, 1) := by decide +kernel
theorem dX5_set_43 : decode cX5_set 43 = .ok (.iconst 2, 1) := by decide +kernel
theorem dX5_set_44 : decode cX5_set 44 = .ok (.invokevirtual 74, 3) := by decide +kernel
theorem dX5_set_47 : decode cX5_set 47 = .ok (.ireturn, 1) := by decide +kernel
theorem dX5_set_48 : decode cX5_set 48 = .ok (.aload 4, 2) := by decide +kernel
theorem dX5_set_50 : decode cX5_set 50 = .ok (.getfield 93, 3) := by decide +kernel
theorem dX5_set_53 : decode cX5_set 53 = .ok (.iload_n 2, 1) := by decide +kernel
theorem dX5_set_54 : decode cX5_set 54 = .ok (.aload 4, 2) := by decide +kernel
theorem dX5_set_56 : decode cX5_set 56 = .ok (.iload_n 3, 1) := by decide +kernel
theorem dX5_set_57 : decode cX5_set 57 = .ok (.invokevirtual 96, 3) := by decide +kernel
theorem dX5_set_60 : decode cX5_set 60 = .ok (.iastore, 1) := by decide +kernel
theorem dX5_set_61 : decode cX5_set 61 = .ok (.aload_n 0, 1) := by decide +kernel
theorem dX5_set_62 : decode cX5_set 62 = .ok (.aload 4, 2) := by decide +kernel
theorem dX5_set_64 : decode cX5_set 64 = .ok (.getfield 93, 3) := by decide +kernel
theorem dX5_set_67 : decode cX5_set 67 = .ok (.iload_n 2, 1) := by decide +kernel
theorem dX5_set_68 : decode cX5_set 68 = .ok (.iaload, 1) := by decide +kernel
theorem dX5_set_69 : decode cX5_set 69 = .ok (.invokevirtual 82, 3) := by decide +kernel
theorem dX5_set_72 : decode cX5_set 72 = .ok (.ireturn, 1) := by decide +kernel
theorem dX5_copy_0 : decode cX5_copy 0 = .ok (.iload_n 1, 1) := by decide +kernel
theorem dX5_copy_1 : decode cX5_copy 1 = .ok (.invokestatic 65, 3) := by decide +kernel
theorem dX5_copy_4 : decode cX5_copy 4 = .ok (.ifCond .ne 10, 3) := by decide +kernel
theorem dX5_copy_7 : decode cX5_copy 7 = .ok (.iload_n 3, 1) := by decide +kernel
theorem dX5_copy_8 : decode cX5_copy 8 = .ok (.invokestatic 65, 3) := by decide +kernel
theorem dX5_copy_11 : decode cX5_copy 11 = .ok (.ifCond .eq 6, 3) := by decide +kernel
theorem dX5_copy_14 : decode cX5_copy 14 = .ok (.ldc 73, 2) := by decide +kernel
theorem dX5_copy_16 : decode cX5_copy 16 = .ok (.ireturn, 1) := by decide +kernel
theorem dX5_copy_17 : decode cX5_copy 17 = .ok (.aload_n 0, 1) := by decide +kernel
theorem dX5_copy_18 : decode cX5_copy 18 = .ok (.getfield 11, 3) := by decide +kernel
theorem dX5_copy_21 : decode cX5_copy 21 = .ok (.iload_n 1, 1) := by decide +kernel
theorem dX5_copy_22 : decode cX5_copy 22 = .ok (.aaload, 1) := by decide +kernel
theorem dX5_copy_23 : decode cX5_copy 23 = .ok (.astore 6, 2) := by decide +kernel
theorem dX5_copy_25 : decode cX5_copy 25 = .ok (.aload_n 0, 1) := by decide +kernel
theorem dX5_copy_26 : decode cX5_copy 26 = .ok (.getfield 11, 3) := by decide +kernel
theorem dX5_copy_29 : decode cX5_copy 29 = .ok (.iload_n 3, 1) := by decide +kernel
theorem dX5_copy_30 : decode cX5_copy 30 = .ok (.aaload, 1) := by decide +kernel
theorem dX5_copy_31 : decode cX5_copy 31 = .ok (.astore 7, 2) := by decide +kernel
theorem dX5_copy_33 : decode cX5_copy 33 = .ok (.aload 6, 2) := by decide +kernel
theorem dX5_copy_35 : decode cX5_copy 35 = .ok (.getfield 85, 3) := by decide +kernel
theorem dX5_copy_38 : decode cX5_copy 38 = .ok (.ifCond .ne 11, 3) := by decide +kernel
theorem dX5_copy_41 : decode cX5_copy 41 = .ok (.aload 7, 2) := by decide +kernel
theorem dX5_copy_43 : decode cX5_copy 43 = .ok (.getfield 85, 3) := by decide +kernel
theorem dX5_copy_46 : decode cX5_copy 46 = .ok (.ifCond .eq 9, 3) := by decide +kernel
theorem dX5_copy_49 : decode cX5_copy 49 = .ok (.aload_n 0, 1) := by decide +kernel
theorem dX5_copy_50 : decode cX5_copy 50 = .ok (.iconst 1, 1) := by decide +kernel
theorem dX5_copy_51 : decode cX5_copy 51 = .ok (.invokevirtual 74, 3) := by decide +kernel
theorem dX5_copy_54 : decode cX5_copy 54 = .ok (.ireturn, 1) := by decide +kernel
theorem dX5_copy_55 : decode cX5_copy 55 = .ok (.aload 6, 2) := by decide +kernel
theorem dX5_copy_57 : decode cX5_copy 57 = .ok (.getfield 99, 3) := by decide +kernel
theorem dX5_copy_60 : decode cX5_copy 60 = .ok (.aload 7, 2) := by decide +kernel
theorem dX5_copy_62 : decode cX5_copy 62 = .ok (.getfield 99, 3) := by decide +kernel
theorem dX5_copy_65 : decode cX5_copy 65 = .ok (.if_icmp .eq 9, 3) := by decide +kernel
theorem dX5_copy_68 : decode cX5_copy 68 = .ok (.aload_n 0, 1) := by decide +kernel
theorem dX5_copy_69 : decode cX5_copy 69 = .ok (.iconst 5, 1) := by decide +kernel
theorem dX5_copy_70 : decode cX5_copy 70 = .ok (.invokevirtual 74, 3) := by decide +kernel
theorem dX5_copy_73 : decode cX5_copy 73 = .ok (.ireturn, 1) := by decide +kernel
theorem dX5_copy_74 : decode cX5_copy 74 = .ok (.aload 6, 2) := by decide +kernel
theorem dX5_copy_76 : decode cX5_copy 76 = .ok (.iload_n 2, 1) := by decide +kernel
theorem dX5_copy_77 : decode cX5_copy 77 = .ok (.iload 5, 2) := by decide +kernel
theorem dX5_copy_79 : decode cX5_copy 79 = .ok (.invokevirtual 89, 3) := by decide +kernel
theorem dX5_copy_82 : decode cX5_copy 82 = .ok (.ifCond .eq 15, 3) := by decide +kernel
theorem dX5_copy_85 : decode cX5_copy 85 = .ok (.aload 7, 2) := by decide +kernel
theorem dX5_copy_87 : decode cX5_copy 87 = .ok (.iload 4, 2) := by decide +kernel
theorem dX5_copy_89 : decode cX5_copy 89 = .ok (.iload 5, 2) := by decide +kernel
theorem dX5_copy_91 : decode cX5_copy 91 = .ok (.invokevirtual 89, 3) := by decide +kernel
theorem dX5_copy_94 : decode cX5_copy 94 = .ok (.ifCond .ne 9, 3) := by decide +kernel
theorem dX5_copy_97 : decode cX5_copy 97 = .ok (.aload_n 0, 1) := by decide +kernel
theorem dX5_copy_98 : decode cX5_copy 98 = .ok (.iconst 2, 1) := by decide +kernel
theorem dX5_copy_99 : decode cX5_copy 99 = .ok (.invokevirtual 74, 3) := by decide +kernel
theorem dX5_copy_102 : decode cX5_copy 102 = .ok (.ireturn, 1) := by decide +kernel
theorem dX5_copy_103 : decode cX5_copy 103 = .ok (.aload 6, 2) := by decide +kernel
theorem dX5_copy_105 : decode cX5_copy 105 = .ok (.getfield 93, 3) := by decide +kernel
theorem dX5_copy_108 : decode cX5_copy 108 = .ok (.iload_n 2, 1) := by decide +kernel
theorem dX5_copy_109 : decode cX5_copy 109 = .ok (.aload 7, 2) := by decide +kernel
theorem dX5_copy_111 : decode cX5_copy 111 = .ok (.getfield 93, 3) := by decide +kernel
theorem dX5_copy_114 : decode cX5_copy 114 = .ok (.iload 4, 2) := by decide +kernel
theorem dX5_copy_116 : decode cX5_copy 116 = .ok (.iload 5, 2) := by decide +kernel
theorem dX5_copy_118 : decode cX5_copy 118 = .ok (.invokestatic 102, 3) := by decide +kernel
theorem dX5_copy_121 : decode cX5_copy 121 = .ok (.aload_n 0, 1) := by decide +kernel
theorem dX5_copy_122 : decode cX5_copy 122 = .ok (.iload 5, 2) := by decide +kernel
theorem dX5_copy_124 : decode cX5_copy 124 = .ok (.invokevirtual 82, 3) := by decide +kernel
theorem dX5_copy_127 : decode cX5_copy 127 = .ok (.ireturn, 1) := by decide +kernel
theorem dX5_drop_0 : decode cX5_drop 0 = .ok (.iload_n 1, 1) := by decide +kernel
theorem dX5_drop_1 : decode cX5_drop 1 = .ok (.invokestatic 65, 3) := by decide +kernel
theorem dX5_drop_4 : decode cX5_drop 4 = .ok (.ifCond .eq 6, 3) := by decide +kernel
theorem dX5_drop_7 : decode cX5_drop 7 = .ok (.ldc 73, 2) := by decide +kernel
theorem dX5_drop_9 : decode cX5_drop 9 = .ok (.ireturn, 1) := by decide +kernel
theorem dX5_drop_10 : decode cX5_drop 10 = .ok (.aload_n 0, 1) := by decide +kernel
theorem dX5_drop_11 : decode cX5_drop 11 = .ok (.getfield 11, 3) := by decide +kernel
theorem dX5_drop_14 : decode cX5_drop 14 = .ok (.iload_n 1, 1) := by decide +kernel
theorem dX5_drop_15 : decode cX5_drop 15 = .ok (.aaload, 1) := by decide +kernel
theorem dX5_drop_16 : decode cX5_drop 16 = .ok (.getfield 85, 3) := by decide +kernel
theorem dX5_drop_19 : decode cX5_drop 19 = .ok (.ifCond .eq 9, 3) := by decide +kernel
theorem dX5_drop_22 : decode cX5_drop 22 = .ok (.aload_n 0, 1) := by decide +kernel
theorem dX5_drop_23 : decode cX5_drop 23 = .ok (.iconst 1, 1) := by decide +kernel
theorem dX5_drop_24 : decode cX5_drop 24 = .ok (.invokevirtual 74, 3) := by decide +kernel
theorem dX5_drop_27 : decode cX5_drop 27 = .ok (.ireturn, 1) := by decide +kernel
theorem dX5_drop_28 : decode cX5_drop 28 = .ok (.aload_n 0, 1) := by decide +kernel
theorem dX5_drop_29 : decode cX5_drop 29 = .ok (.getfield 11, 3) := by decide +kernel
theorem dX5_drop_32 : decode cX5_drop 32 = .ok (.iload_n 1, 1) := by decide +kernel
theorem dX5_drop_33 : decode cX5_drop 33 = .ok (.aaload, 1) := by decide +kernel
theorem dX5_drop_34 : decode cX5_drop 34 = .ok (.iconst 1, 1) := by decide +kernel
theorem dX5_drop_35 : decode cX5_drop 35 = .ok (.putfield 85, 3) := by decide +kernel
theorem dX5_drop_38 : decode cX5_drop 38 = .ok (.aload_n 0, 1) := by decide +kernel
theorem dX5_drop_39 : decode cX5_drop 39 = .ok (.aload_n 0, 1) := by decide +kernel
theorem dX5_drop_40 : decode cX5_drop 40 = .ok (.getfield 11, 3) := by decide +kernel
theorem dX5_drop_43 : decode cX5_drop 43 = .ok (.iload_n 1, 1) := by decide +kernel
theorem dX5_drop_44 : decode cX5_drop 44 = .ok (.aaload, 1) := by decide +kernel
theorem dX5_drop_45 : decode cX5_drop 45 = .ok (.getfield 108, 3) := by decide +kernel
theorem dX5_drop_48 : decode cX5_drop 48 = .ok (.invokevirtual 82, 3) := by decide +kernel
theorem dX5_drop_51 : decode cX5_drop 51 = .ok (.ireturn, 1) := by decide +kernel
theorem dX5_feed_0 : decode cX5_feed 0 = .ok (.iload_n 1, 1) := by decide +kernel
theorem dX5_feed_1 : decode cX5_feed 1 = .ok (.iconst 0, 1) := by decide +kernel
theorem dX5_feed_2 : decode cX5_feed 2 = .ok (.sipush 255, 3) := by decide +kernel
theorem dX5_feed_5 : decode cX5_feed 5 = .ok (.invokestatic 69, 3) := by decide +kernel
theorem dX5_feed_8 : decode cX5_feed 8 = .ok (.ifCond .eq 6, 3) := by decide +kernel
theorem dX5_feed_11 : decode cX5_feed 11 = .ok (.ldc 73, 2) := by decide +kernel
theorem dX5_feed_13 : decode cX5_feed 13 = .ok (.ireturn, 1) := by decide +kernel
theorem dX5_feed_14 : decode cX5_feed 14 = .ok (.aload_n 0, 1) := by decide +kernel
theorem dX5_feed_15 : decode cX5_feed 15 = .ok (.getfield 18, 3) := by decide +kernel
theorem dX5_feed_18 : decode cX5_feed 18 = .ok (.getfield 111, 3) := by decide +kernel
theorem dX5_feed_21 : decode cX5_feed 21 = .ok (.bipush 90, 2) := by decide +kernel
theorem dX5_feed_23 : decode cX5_feed 23 = .ok (.if_icmp .lt 6, 3) := by decide +kernel
theorem dX5_feed_26 : decode cX5_feed 26 = .ok (.ldc 112, 2) := by decide +kernel
theorem dX5_feed_28 : decode cX5_feed 28 = .ok (.ireturn, 1) := by decide +kernel
theorem dX5_feed_29 : decode cX5_feed 29 = .ok (.aload_n 0, 1) := by decide +kernel
theorem dX5_feed_30 : decode cX5_feed 30 = .ok (.getfield 18, 3) := by decide +kernel
theorem dX5_feed_33 : decode cX5_feed 33 = .ok (.iload_n 1, 1) := by decide +kernel
theorem dX5_feed_34 : decode cX5_feed 34 = .ok (.invokevirtual 113, 3) := by decide +kernel
theorem dX5_feed_37 : decode cX5_feed 37 = .ok (.aload_n 0, 1) := by decide +kernel
theorem dX5_feed_38 : decode cX5_feed 38 = .ok (.getfield 18, 3) := by decide +kernel
theorem dX5_feed_41 : decode cX5_feed 41 = .ok (.getfield 111, 3) := by decide +kernel
theorem dX5_feed_44 : decode cX5_feed 44 = .ok (.ireturn, 1) := by decide +kernel
theorem dX5_stair_0 : decode cX5_stair 0 = .ok (.aload_n 0, 1) := by decide +kernel
theorem dX5_stair_1 : decode cX5_stair 1 = .ok (.getfield 18, 3) := by decide +kernel
theorem dX5_stair_4 : decode cX5_stair 4 = .ok (.aload_n 0, 1) := by decide +kernel
theorem dX5_stair_5 : decode cX5_stair 5 = .ok (.getfield 47, 3) := by decide +kernel
theorem dX5_stair_8 : decode cX5_stair 8 = .ok (.invokevirtual 117, 3) := by decide +kernel
theorem dX5_stair_11 : decode cX5_stair 11 = .ok (.istore_n 1, 1) := by decide +kernel
theorem dX5_stair_12 : decode cX5_stair 12 = .ok (.aload_n 0, 1) := by decide +kernel
theorem dX5_stair_13 : decode cX5_stair 13 = .ok (.getfield 18, 3) := by decide +kernel
theorem dX5_stair_16 : decode cX5_stair 16 = .ok (.iconst 0, 1) := by decide +kernel
theorem dX5_stair_17 : decode cX5_stair 17 = .ok (.putfield 111, 3) := by decide +kernel
theorem dX5_stair_20 : decode cX5_stair 20 = .ok (.iload_n 1, 1) := by decide +kernel
theorem dX5_stair_21 : decode cX5_stair 21 = .ok (.ldc 121, 2) := by decide +kernel
theorem dX5_stair_23 : decode cX5_stair 23 = .ok (.if_icmp .eq 8, 3) := by decide +kernel
theorem dX5_stair_26 : decode cX5_stair 26 = .ok (.ldc 122, 2) := by decide +kernel
theorem dX5_stair_28 : decode cX5_stair 28 = .ok (.iload_n 1, 1) := by decide +kernel
theorem dX5_stair_29 : decode cX5_stair 29 = .ok (.isub, 1) := by decide +kernel
theorem dX5_stair_30 : decode cX5_stair 30 = .ok (.ireturn, 1) := by decide +kernel
theorem dX5_stair_31 : decode cX5_stair 31 = .ok (.aload_n 0, 1) := by decide +kernel
theorem dX5_stair_32 : decode cX5_stair 32 = .ok (.getfield 25, 3) := by decide +kernel
theorem dX5_stair_35 : decode cX5_stair 35 = .ok (.aload_n 0, 1) := by decide +kernel
theorem dX5_stair_36 : decode cX5_stair 36 = .ok (.getfield 47, 3) := by decide +kernel
theorem dX5_stair_39 : decode cX5_stair 39 = .ok (.invokevirtual 123, 3) := by decide +kernel
theorem dX5_stair_42 : decode cX5_stair 42 = .ok (.aload_n 0, 1) := by decide +kernel
theorem dX5_stair_43 : decode cX5_stair 43 = .ok (.getfield 32, 3) := by decide +kernel
theorem dX5_stair_46 : decode cX5_stair 46 = .ok (.invokevirtual 127, 3) := by decide +kernel
theorem dX5_stair_49 : decode cX5_stair 49 = .ok (.aload_n 0, 1) := by decide +kernel
theorem dX5_stair_50 : decode cX5_stair 50 = .ok (.getfield 25, 3) := by decide +kernel
theorem dX5_stair_53 : decode cX5_stair 53 = .ok (.getfield 130, 3) := by decide +kernel
theorem dX5_stair_56 : decode cX5_stair 56 = .ok (.ireturn, 1) := by decide +kernel
theorem dX5_fault_0 : decode cX5_fault 0 = .ok (.aload_n 0, 1) := by decide +kernel
theorem dX5_fault_1 : decode cX5_fault 1 = .ok (.getfield 18, 3) := by decide +kernel
theorem dX5_fault_4 : decode cX5_fault 4 = .ok (.getfield 133, 3) := by decide +kernel
theorem dX5_fault_7 : decode cX5_fault 7 = .ok (.ireturn, 1) := by decide +kernel
theorem dX5_ticks_0 : decode cX5_ticks 0 = .ok (.aload_n 0, 1) := by decide +kernel
theorem dX5_ticks_1 : decode cX5_ticks 1 = .ok (.invokevirtual 136, 3) := by decide +kernel
theorem dX5_ticks_4 : decode cX5_ticks 4 = .ok (.ifCond .eq 6, 3) := by decide +kernel
theorem dX5_ticks_7 : decode cX5_ticks 7 = .ok (.ldc 140, 2) := by decide +kernel
theorem dX5_ticks_9 : decode cX5_ticks 9 = .ok (.ireturn, 1) := by decide +kernel
theorem dX5_ticks_10 : decode cX5_ticks 10 = .ok (.iload_n 1, 1) := by decide +kernel
theorem dX5_ticks_11 : decode cX5_ticks 11 = .ok (.iconst 1, 1) := by decide +kernel
theorem dX5_ticks_12 : decode cX5_ticks 12 = .ok (.bipush 24, 2) := by decide +kernel
theorem dX5_ticks_14 : decode cX5_ticks 14 = .ok (.invokestatic 69, 3) := by decide +kernel
theorem dX5_ticks_17 : decode cX5_ticks 17 = .ok (.ifCond .eq 6, 3) := by decide +kernel
theorem dX5_ticks_20 : decode cX5_ticks 20 = .ok (.ldc 73, 2) := by decide +kernel
theorem dX5_ticks_22 : decode cX5_ticks 22 = .ok (.ireturn, 1) := by decide +kernel
theorem dX5_ticks_23 : decode cX5_ticks 23 = .ok (.aload_n 0, 1) := by decide +kernel
theorem dX5_ticks_24 : decode cX5_ticks 24 = .ok (.getfield 25, 3) := by decide +kernel
theorem dX5_ticks_27 : decode cX5_ticks 27 = .ok (.getfield 141, 3) := by decide +kernel
theorem dX5_ticks_30 : decode cX5_ticks 30 = .ok (.iload_n 1, 1) := by decide +kernel
theorem dX5_ticks_31 : decode cX5_ticks 31 = .ok (.iadd, 1) := by decide +kernel
theorem dX5_ticks_32 : decode cX5_ticks 32 = .ok (.sipush 9999, 3) := by decide +kernel
theorem dX5_ticks_35 : decode cX5_ticks 35 = .ok (.if_icmp .le 6, 3) := by decide +kernel
theorem dX5_ticks_38 : decode cX5_ticks 38 = .ok (.ldc 112, 2) := by decide +kernel
theorem dX5_ticks_40 : decode cX5_ticks 40 = .ok (.ireturn, 1) := by decide +kernel
theorem dX5_ticks_41 : decode cX5_ticks 41 = .ok (.iconst 0, 1) := by decide +kernel
theorem dX5_ticks_42 : decode cX5_ticks 42 = .ok (.istore_n 2, 1) := by decide +kernel
theorem dX5_ticks_43 : decode cX5_ticks 43 = .ok (.iload_n 2, 1) := by decide +kernel
theorem dX5_ticks_44 : decode cX5_ticks 44 = .ok (.iload_n 1, 1) := by decide +kernel
theorem dX5_ticks_45 : decode cX5_ticks 45 = .ok (.if_icmp .ge 28, 3) := by decide +kernel
theorem dX5_ticks_48 : decode cX5_ticks 48 = .ok (.aload_n 0, 1) := by decide +kernel
theorem dX5_ticks_49 : decode cX5_ticks 49 = .ok (.getfield 32, 3) := by decide +kernel
theorem dX5_ticks_52 : decode cX5_ticks 52 = .ok (.aload_n 0, 1) := by decide +kernel
theorem dX5_ticks_53 : decode cX5_ticks 53 = .ok (.getfield 25, 3) := by decide +kernel
theorem dX5_ticks_56 : decode cX5_ticks 56 = .ok (.invokevirtual 144, 3) := by decide +kernel
theorem dX5_ticks_59 : decode cX5_ticks 59 = .ok (.aload_n 0, 1) := by decide +kernel
theorem dX5_ticks_60 : decode cX5_ticks 60 = .ok (.getfield 25, 3) := by decide +kernel
theorem dX5_ticks_63 : decode cX5_ticks 63 = .ok (.invokevirtual 147, 3) := by decide +kernel
theorem dX5_ticks_66 : decode cX5_ticks 66 = .ok (.pop, 1) := by decide +kernel
theorem dX5_ticks_67 : decode cX5_ticks 67 = .ok (.iinc 2 1, 3) := by decide +kernel
theorem dX5_ticks_70 : decode cX5_ticks 70 = .ok (.goto (-27), 3) := by decide +kernel
theorem dX5_ticks_73 : decode cX5_ticks 73 = .ok (.aload_n 0, 1) := by decide +kernel
theorem dX5_ticks_74 : decode cX5_ticks 74 = .ok (.getfield 25, 3) := by decide +kernel
theorem dX5_ticks_77 : decode cX5_ticks 77 = .ok (.bipush 99, 2) := by decide +kernel
theorem dX5_ticks_79 : decode cX5_ticks 79 = .ok (.invokevirtual 151, 3) := by decide +kernel
theorem dX5_ticks_82 : decode cX5_ticks 82 = .ok (.ireturn, 1) := by decide +kernel
theorem dX5_speed_0 : decode cX5_speed 0 = .ok (.aload_n 0, 1) := by decide +kernel
theorem dX5_speed_1 : decode cX5_speed 1 = .ok (.invokevirtual 136, 3) := by decide +kernel
theorem dX5_speed_4 : decode cX5_speed 4 = .ok (.ifCond .eq 6, 3) := by decide +kernel
theorem dX5_speed_7 : decode cX5_speed 7 = .ok (.ldc 140, 2) := by decide +kernel
theorem dX5_speed_9 : decode cX5_speed 9 = .ok (.ireturn, 1) := by decide +kernel
theorem dX5_speed_10 : decode cX5_speed 10 = .ok (.iload_n 1, 1) := by decide +kernel
theorem dX5_speed_11 : decode cX5_speed 11 = .ok (.iconst 0, 1) := by decide +kernel
theorem dX5_speed_12 : decode cX5_speed 12 = .ok (.iconst 2, 1) := by decide +kernel
theorem dX5_speed_13 : decode cX5_speed 13 = .ok (.invokestatic 69, 3) := by decide +kernel
theorem dX5_speed_16 : decode cX5_speed 16 = .ok (.ifCond .eq 6, 3) := by decide +kernel
theorem dX5_speed_19 : decode cX5_speed 19 = .ok (.ldc 73, 2) := by decide +kernel
theorem dX5_speed_21 : decode cX5_speed 21 = .ok (.ireturn, 1) := by decide +kernel
theorem dX5_speed_22 : decode cX5_speed 22 = .ok (.aload_n 0, 1) := by decide +kernel
theorem dX5_speed_23 : decode cX5_speed 23 = .ok (.getfield 25, 3) := by decide +kernel
theorem dX5_speed_26 : decode cX5_speed 26 = .ok (.getfield 154, 3) := by decide +kernel
theorem dX5_speed_29 : decode cX5_speed 29 = .ok (.istore_n 2, 1) := by decide +kernel
theorem dX5_speed_30 : decode cX5_speed 30 = .ok (.aload_n 0, 1) := by decide +kernel
theorem dX5_speed_31 : decode cX5_speed 31 = .ok (.getfield 32, 3) := by decide +kernel
theorem dX5_speed_34 : decode cX5_speed 34 = .ok (.aload_n 0, 1) := by decide +kernel
theorem dX5_speed_35 : decode cX5_speed 35 = .ok (.getfield 25, 3) := by decide +kernel
theorem dX5_speed_38 : decode cX5_speed 38 = .ok (.invokevirtual 144, 3) := by decide +kernel
theorem dX5_speed_41 : decode cX5_speed 41 = .ok (.aload_n 0, 1) := by decide +kernel
theorem dX5_speed_42 : decode cX5_speed 42 = .ok (.getfield 25, 3) := by decide +kernel
theorem dX5_speed_45 : decode cX5_speed 45 = .ok (.iload_n 1, 1) := by decide +kernel
theorem dX5_speed_46 : decode cX5_speed 46 = .ok (.putfield 154, 3) := by decide +kernel
theorem dX5_speed_49 : decode cX5_speed 49 = .ok (.iload_n 2, 1) := by decide +kernel
theorem dX5_speed_50 : decode cX5_speed 50 = .ok (.ireturn, 1) := by decide +kernel
theorem dX5_cross_0 : decode cX5_cross 0 = .ok (.aload_n 0, 1) := by decide +kernel
theorem dX5_cross_1 : decode cX5_cross 1 = .ok (.iload_n 1, 1) := by decide +kernel
theorem dX5_cross_2 : decode cX5_cross 2 = .ok (.invokevirtual 157, 3) := by decide +kernel
theorem dX5_cross_5 : decode cX5_cross 5 = .ok (.ifCond .eq 6, 3) := by decide +kernel
theorem dX5_cross_8 : decode cX5_cross 8 = .ok (.ldc 73, 2) := by decide +kernel
theorem dX5_cross_10 : decode cX5_cross 10 = .ok (.ireturn, 1) := by decide +kernel
theorem dX5_cross_11 : decode cX5_cross 11 = .ok (.aload_n 0, 1) := by decide +kernel
theorem dX5_cross_12 : decode cX5_cross 12 = .ok (.getfield 25, 3) := by decide +kernel
theorem dX5_cross_15 : decode cX5_cross 15 = .ok (.getfield 160, 3) := by decide +kernel
theorem dX5_cross_18 : decode cX5_cross 18 = .ok (.iload_n 1, 1) := by decide +kernel
theorem dX5_cross_19 : decode cX5_cross 19 = .ok (.iaload, 1) := by decide +kernel
theorem dX5_cross_20 : decode cX5_cross 20 = .ok (.bipush 99, 2) := by decide +kernel
theorem dX5_cross_22 : decode cX5_cross 22 = .ok (.if_icmp .eq 14, 3) := by decide +kernel
theorem dX5_cross_25 : decode cX5_cross 25 = .ok (.aload_n 0, 1) := by decide +kernel
theorem dX5_cross_26 : decode cX5_cross 26 = .ok (.getfield 25, 3) := by decide +kernel
theorem dX5_cross_29 : decode cX5_cross 29 = .ok (.iload_n 1, 1) := by decide +kernel
theorem dX5_cross_30 : decode cX5_cross 30 = .ok (.invokevirtual 163, 3) := by decide +kernel
theorem dX5_cross_33 : decode cX5_cross 33 = .ok (.ifCond .ne 6, 3) := by decide +kernel
theorem dX5_cross_36 : decode cX5_cross 36 = .ok (.ldc 140, 2) := by decide +kernel
theorem dX5_cross_38 : decode cX5_cross 38 = .ok (.ireturn, 1) := by decide +kernel
theorem dX5_cross_39 : decode cX5_cross 39 = .ok (.aload_n 0, 1) := by decide +kernel
theorem dX5_cross_40 : decode cX5_cross 40 = .ok (.getfield 32, 3) := by decide +kernel
theorem dX5_cross_43 : decode cX5_cross 43 = .ok (.aload_n 0, 1) := by decide +kernel
theorem dX5_cross_44 : decode cX5_cross 44 = .ok (.getfield 25, 3) := by decide +kernel
theorem dX5_cross_47 : decode cX5_cross 47 = .ok (.invokevirtual 144, 3) := by decide +kernel
theorem dX5_cross_50 : decode cX5_cross 50 = .ok (.aload_n 0, 1) := by decide +kernel
theorem dX5_cross_51 : decode cX5_cross 51 = .ok (.getfield 25, 3) := by decide +kernel
theorem dX5_cross_54 : decode cX5_cross 54 = .ok (.getfield 166, 3) := by decide +kernel
theorem dX5_cross_57 : decode cX5_cross 57 = .ok (.iload_n 1, 1) := by decide +kernel
theorem dX5_cross_58 : decode cX5_cross 58 = .ok (.iconst 1, 1) := by decide +kernel
theorem dX5_cross_59 : decode cX5_cross 59 = .ok (.aload_n 0, 1) := by decide +kernel
theorem dX5_cross_60 : decode cX5_cross 60 = .ok (.getfield 25, 3) := by decide +kernel
theorem dX5_cross_63 : decode cX5_cross 63 = .ok (.getfield 166, 3) := by decide +kernel
theorem dX5_cross_66 : decode cX5_cross 66 = .ok (.iload_n 1, 1) := by decide +kernel
theorem dX5_cross_67 : decode cX5_cross 67 = .ok (.iaload, 1) := by decide +kernel
theorem dX5_cross_68 : decode cX5_cross 68 = .ok (.isub, 1) := by decide +kernel
theorem dX5_cross_69 : decode cX5_cross 69 = .ok (.iastore, 1) := by decide +kernel
theorem dX5_cross_70 : decode cX5_cross 70 = .ok (.aload_n 0, 1) := by decide +kernel
theorem dX5_cross_71 : decode cX5_cross 71 = .ok (.getfield 25, 3) := by decide +kernel
theorem dX5_cross_74 : decode cX5_cross 74 = .ok (.getfield 166, 3) := by decide +kernel
theorem dX5_cross_77 : decode cX5_cross 77 = .ok (.iload_n 1, 1) := by decide +kernel
theorem dX5_cross_78 : decode cX5_cross 78 = .ok (.iaload, 1) := by decide +kernel
theorem dX5_cross_79 : decode cX5_cross 79 = .ok (.ireturn, 1) := by decide +kernel
theorem dX5_take_0 : decode cX5_take 0 = .ok (.aload_n 0, 1) := by decide +kernel
theorem dX5_take_1 : decode cX5_take 1 = .ok (.iload_n 1, 1) := by decide +kernel
theorem dX5_take_2 : decode cX5_take 2 = .ok (.invokevirtual 157, 3) := by decide +kernel
theorem dX5_take_5 : decode cX5_take 5 = .ok (.ifCond .eq 6, 3) := by decide +kernel
theorem dX5_take_8 : decode cX5_take 8 = .ok (.ldc 73, 2) := by decide +kernel
theorem dX5_take_10 : decode cX5_take 10 = .ok (.ireturn, 1) := by decide +kernel
theorem dX5_take_11 : decode cX5_take 11 = .ok (.aload_n 0, 1) := by decide +kernel
theorem dX5_take_12 : decode cX5_take 12 = .ok (.getfield 25, 3) := by decide +kernel
theorem dX5_take_15 : decode cX5_take 15 = .ok (.getfield 160, 3) := by decide +kernel
theorem dX5_take_18 : decode cX5_take 18 = .ok (.iload_n 1, 1) := by decide +kernel
theorem dX5_take_19 : decode cX5_take 19 = .ok (.iaload, 1) := by decide +kernel
theorem dX5_take_20 : decode cX5_take 20 = .ok (.istore_n 2, 1) := by decide +kernel
theorem dX5_take_21 : decode cX5_take 21 = .ok (.iload_n 2, 1) := by decide +kernel
theorem dX5_take_22 : decode cX5_take 22 = .ok (.bipush 99, 2) := by decide +kernel
theorem dX5_take_24 : decode cX5_take 24 = .ok (.if_icmp .ne 6, 3) := by decide +kernel
theorem dX5_take_27 : decode cX5_take 27 = .ok (.ldc 140, 2) := by decide +kernel
theorem dX5_take_29 : decode cX5_take 29 = .ok (.ireturn, 1) := by decide +kernel
theorem dX5_take_30 : decode cX5_take 30 = .ok (.aload_n 0, 1) := by decide +kernel
theorem dX5_take_31 : decode cX5_take 31 = .ok (.getfield 32, 3) := by decide +kernel
theorem dX5_take_34 : decode cX5_take 34 = .ok (.aload_n 0, 1) := by decide +kernel
theorem dX5_take_35 : decode cX5_take 35 = .ok (.getfield 25, 3) := by decide +kernel
theorem dX5_take_38 : decode cX5_take 38 = .ok (.invokevirtual 144, 3) := by decide +kernel
theorem dX5_take_41 : decode cX5_take 41 = .ok (.aload_n 0, 1) := by decide +kernel
theorem dX5_take_42 : decode cX5_take 42 = .ok (.getfield 25, 3) := by decide +kernel
theorem dX5_take_45 : decode cX5_take 45 = .ok (.getfield 160, 3) := by decide +kernel
theorem dX5_take_48 : decode cX5_take 48 = .ok (.iload_n 1, 1) := by decide +kernel
theorem dX5_take_49 : decode cX5_take 49 = .ok (.bipush 99, 2) := by decide +kernel
theorem dX5_take_51 : decode cX5_take 51 = .ok (.iastore, 1) := by decide +kernel
theorem dX5_take_52 : decode cX5_take 52 = .ok (.iload_n 2, 1) := by decide +kernel
theorem dX5_take_53 : decode cX5_take 53 = .ok (.ireturn, 1) := by decide +kernel
theorem dX5_again_0 : decode cX5_again 0 = .ok (.aload_n 0, 1) := by decide +kernel
theorem dX5_again_1 : decode cX5_again 1 = .ok (.iload_n 1, 1) := by decide +kernel
theorem dX5_again_2 : decode cX5_again 2 = .ok (.invokevirtual 157, 3) := by decide +kernel
theorem dX5_again_5 : decode cX5_again 5 = .ok (.ifCond .ne 12, 3) := by decide +kernel
theorem dX5_again_8 : decode cX5_again 8 = .ok (.iload_n 2, 1) := by decide +kernel
theorem dX5_again_9 : decode cX5_again 9 = .ok (.iconst 0, 1) := by decide +kernel
theorem dX5_again_10 : decode cX5_again 10 = .ok (.iconst 1, 1) := by decide +kernel
theorem dX5_again_11 : decode cX5_again 11 = .ok (.invokestatic 69, 3) := by decide +kernel
theorem dX5_again_14 : decode cX5_again 14 = .ok (.ifCond .eq 6, 3) := by decide +kernel
theorem dX5_again_17 : decode cX5_again 17 = .ok (.ldc 73, 2) := by decide +kernel
theorem dX5_again_19 : decode cX5_again 19 = .ok (.ireturn, 1) := by decide +kernel
theorem dX5_again_20 : decode cX5_again 20 = .ok (.aload_n 0, 1) := by decide +kernel
theorem dX5_again_21 : decode cX5_again 21 = .ok (.getfield 25, 3) := by decide +kernel
theorem dX5_again_24 : decode cX5_again 24 = .ok (.getfield 160, 3) := by decide +kernel
theorem dX5_again_27 : decode cX5_again 27 = .ok (.iload_n 1, 1) := by decide +kernel
theorem dX5_again_28 : decode cX5_again 28 = .ok (.iaload, 1) := by decide +kernel
theorem dX5_again_29 : decode cX5_again 29 = .ok (.bipush 99, 2) := by decide +kernel
theorem dX5_again_31 : decode cX5_again 31 = .ok (.if_icmp .eq 6, 3) := by decide +kernel
theorem dX5_again_34 : decode cX5_again 34 = .ok (.ldc 140, 2) := by decide +kernel
theorem dX5_again_36 : decode cX5_again 36 = .ok (.ireturn, 1) := by decide +kernel
theorem dX5_again_37 : decode cX5_again 37 = .ok (.aload_n 0, 1) := by decide +kernel
theorem dX5_again_38 : decode cX5_again 38 = .ok (.getfield 32, 3) := by decide +kernel
theorem dX5_again_41 : decode cX5_again 41 = .ok (.aload_n 0, 1) := by decide +kernel
theorem dX5_again_42 : decode cX5_again 42 = .ok (.getfield 25, 3) := by decide +kernel
theorem dX5_again_45 : decode cX5_again 45 = .ok (.invokevirtual 144, 3) := by decide +kernel
theorem dX5_again_48 : decode cX5_again 48 = .ok (.aload_n 0, 1) := by decide +kernel
theorem dX5_again_49 : decode cX5_again 49 = .ok (.getfield 25, 3) := by decide +kernel
theorem dX5_again_52 : decode cX5_again 52 = .ok (.iload_n 1, 1) := by decide +kernel
theorem dX5_again_53 : decode cX5_again 53 = .ok (.iload_n 2, 1) := by decide +kernel
theorem dX5_again_54 : decode cX5_again 54 = .ok (.invokevirtual 169, 3) := by decide +kernel
theorem dX5_again_57 : decode cX5_again 57 = .ok (.aload_n 0, 1) := by decide +kernel
theorem dX5_again_58 : decode cX5_again 58 = .ok (.getfield 25, 3) := by decide +kernel
theorem dX5_again_61 : decode cX5_again 61 = .ok (.bipush 99, 2) := by decide +kernel
theorem dX5_again_63 : decode cX5_again 63 = .ok (.invokevirtual 151, 3) := by decide +kernel
theorem dX5_again_66 : decode cX5_again 66 = .ok (.ireturn, 1) := by decide +kernel
theorem dX5_undo_0 : decode cX5_undo 0 = .ok (.aload_n 0, 1) := by decide +kernel
theorem dX5_undo_1 : decode cX5_undo 1 = .ok (.getfield 32, 3) := by decide +kernel
theorem dX5_undo_4 : decode cX5_undo 4 = .ok (.getfield 172, 3) := by decide +kernel
theorem dX5_undo_7 : decode cX5_undo 7 = .ok (.ifCond .ne 6, 3) := by decide +kernel
theorem dX5_undo_10 : decode cX5_undo 10 = .ok (.ldc 140, 2) := by decide +kernel
theorem dX5_undo_12 : decode cX5_undo 12 = .ok (.ireturn, 1) := by decide +kernel
theorem dX5_undo_13 : decode cX5_undo 13 = .ok (.aload_n 0, 1) := by decide +kernel
theorem dX5_undo_14 : decode cX5_undo 14 = .ok (.getfield 32, 3) := by decide +kernel
theorem dX5_undo_17 : decode cX5_undo 17 = .ok (.aload_n 0, 1) := by decide +kernel
theorem dX5_undo_18 : decode cX5_undo 18 = .ok (.getfield 25, 3) := by decide +kernel
theorem dX5_undo_21 : decode cX5_undo 21 = .ok (.invokevirtual 175, 3) := by decide +kernel
theorem dX5_undo_24 : decode cX5_undo 24 = .ok (.aload_n 0, 1) := by decide +kernel
theorem dX5_undo_25 : decode cX5_undo 25 = .ok (.getfield 32, 3) := by decide +kernel
theorem dX5_undo_28 : decode cX5_undo 28 = .ok (.getfield 172, 3) := by decide +kernel
theorem dX5_undo_31 : decode cX5_undo 31 = .ok (.ireturn, 1) := by decide +kernel
theorem dX5_rider_0 : decode cX5_rider 0 = .ok (.aload_n 0, 1) := by decide +kernel
theorem dX5_rider_1 : decode cX5_rider 1 = .ok (.iload_n 1, 1) := by decide +kernel
theorem dX5_rider_2 : decode cX5_rider 2 = .ok (.invokevirtual 157, 3) := by decide +kernel
theorem dX5_rider_5 : decode cX5_rider 5 = .ok (.ifCond .eq 6, 3) := by decide +kernel
theorem dX5_rider_8 : decode cX5_rider 8 = .ok (.ldc 73, 2) := by decide +kernel
theorem dX5_rider_10 : decode cX5_rider 10 = .ok (.ireturn, 1) := by decide +kernel
theorem dX5_rider_11 : decode cX5_rider 11 = .ok (.iload_n 2, 1) := by decide +kernel
theorem dX5_rider_12 : decode cX5_rider 12 = .ok (.tableswitch 106 0 3 #[32, 42, 52, 64], 32) := by decide +kernel
theorem dX5_rider_44 : decode cX5_rider 44 = .ok (.aload_n 0, 1) := by decide +kernel
theorem dX5_rider_45 : decode cX5_rider 45 = .ok (.getfield 25, 3) := by decide +kernel
theorem dX5_rider_48 : decode cX5_rider 48 = .ok (.getfield 160, 3) := by decide +kernel
theorem dX5_rider_51 : decode cX5_rider 51 = .ok (.iload_n 1, 1) := by decide +kernel
theorem dX5_rider_52 : decode cX5_rider 52 = .ok (.iaload, 1) := by decide +kernel
theorem dX5_rider_53 : decode cX5_rider 53 = .ok (.ireturn, 1) := by decide +kernel
theorem dX5_rider_54 : decode cX5_rider 54 = .ok (.aload_n 0, 1) := by decide +kernel
theorem dX5_rider_55 : decode cX5_rider 55 = .ok (.getfield 25, 3) := by decide +kernel
theorem dX5_rider_58 : decode cX5_rider 58 = .ok (.getfield 166, 3) := by decide +kernel
theorem dX5_rider_61 : decode cX5_rider 61 = .ok (.iload_n 1, 1) := by decide +kernel
theorem dX5_rider_62 : decode cX5_rider 62 = .ok (.iaload, 1) := by decide +kernel
theorem dX5_rider_63 : decode cX5_rider 63 = .ok (.ireturn, 1) := by decide +kernel
theorem dX5_rider_64 : decode cX5_rider 64 = .ok (.aload_n 0, 1) := by decide +kernel
theorem dX5_rider_65 : decode cX5_rider 65 = .ok (.getfield 25, 3) := by decide +kernel
theorem dX5_rider_68 : decode cX5_rider 68 = .ok (.iload_n 1, 1) := by decide +kernel
theorem dX5_rider_69 : decode cX5_rider 69 = .ok (.invokevirtual 178, 3) := by decide +kernel
theorem dX5_rider_72 : decode cX5_rider 72 = .ok (.invokestatic 181, 3) := by decide +kernel
theorem dX5_rider_75 : decode cX5_rider 75 = .ok (.ireturn, 1) := by decide +kernel
theorem dX5_rider_76 : decode cX5_rider 76 = .ok (.aload_n 0, 1) := by decide +kernel
theorem dX5_rider_77 : decode cX5_rider 77 = .ok (.getfield 25, 3) := by decide +kernel
theorem dX5_rider_80 : decode cX5_rider 80 = .ok (.iload_n 1, 1) := by decide +kernel
theorem dX5_rider_81 : decode cX5_rider 81 = .ok (.invokevirtual 185, 3) := by decide +kernel
theorem dX5_rider_84 : decode cX5_rider 84 = .ok (.ifCond .eq 29, 3) := by decide +kernel
theorem dX5_rider_87 : decode cX5_rider 87 = .ok (.aload_n 0, 1) := by decide +kernel
theorem dX5_rider_88 : decode cX5_rider 88 = .ok (.getfield 25, 3) := by decide +kernel
theorem dX5_rider_91 : decode cX5_rider 91 = .ok (.iload_n 1, 1) := by decide +kernel
theorem dX5_rider_92 : decode cX5_rider 92 = .ok (.aload_n 0, 1) := by decide +kernel
theorem dX5_rider_93 : decode cX5_rider 93 = .ok (.getfield 25, 3) := by decide +kernel
theorem dX5_rider_96 : decode cX5_rider 96 = .ok (.getfield 160, 3) := by decide +kernel
theorem dX5_rider_99 : decode cX5_rider 99 = .ok (.iload_n 1, 1) := by decide +kernel
theorem dX5_rider_100 : decode cX5_rider 100 = .ok (.iaload, 1) := by decide +kernel
theorem dX5_rider_101 : decode cX5_rider 101 = .ok (.iconst 1, 1) := by decide +kernel
theorem dX5_rider_102 : decode cX5_rider 102 = .ok (.iadd, 1) := by decide +kernel
theorem dX5_rider_103 : decode cX5_rider 103 = .ok (.invokevirtual 188, 3) := by decide +kernel
theorem dX5_rider_106 : decode cX5_rider 106 = .ok (.ifCond .eq 7, 3) := by decide +kernel
theorem dX5_rider_109 : decode cX5_rider 109 = .ok (.iconst 1, 1) := by decide +kernel
theorem dX5_rider_110 : decode cX5_rider 110 = .ok (.goto 4, 3) := by decide +kernel
theorem dX5_rider_113 : decode cX5_rider 113 = .ok (.iconst 0, 1) := by decide +kernel
theorem dX5_rider_114 : decode cX5_rider 114 = .ok (.invokestatic 181, 3) := by decide +kernel
theorem dX5_rider_117 : decode cX5_rider 117 = .ok (.ireturn, 1) := by decide +kernel
theorem dX5_rider_118 : decode cX5_rider 118 = .ok (.ldc 73, 2) := by decide +kernel
theorem dX5_rider_120 : decode cX5_rider 120 = .ok (.ireturn, 1) := by decide +kernel
theorem dX5_step_0 : decode cX5_step 0 = .ok (.iload_n 1, 1) := by decide +kernel
theorem dX5_step_1 : decode cX5_step 1 = .ok (.iconst 0, 1) := by decide +kernel
theorem dX5_step_2 : decode cX5_step 2 = .ok (.aload_n 0, 1) := by decide +kernel
theorem dX5_step_3 : decode cX5_step 3 = .ok (.getfield 25, 3) := by decide +kernel
theorem dX5_step_6 : decode cX5_step 6 = .ok (.getfield 191, 3) := by decide +kernel
theorem dX5_step_9 : decode cX5_step 9 = .ok (.iconst 1, 1) := by decide +kernel
theorem dX5_step_10 : decode cX5_step 10 = .ok (.isub, 1) := by decide +kernel
theorem dX5_step_11 : decode cX5_step 11 = .ok (.invokestatic 69, 3) := by decide +kernel
theorem dX5_step_14 : decode cX5_step 14 = .ok (.ifCond .ne 12, 3) := by decide +kernel
theorem dX5_step_17 : decode cX5_step 17 = .ok (.iload_n 2, 1) := by decide +kernel
theorem dX5_step_18 : decode cX5_step 18 = .ok (.iconst 0, 1) := by decide +kernel
theorem dX5_step_19 : decode cX5_step 19 = .ok (.iconst 1, 1) := by decide +kernel
theorem dX5_step_20 : decode cX5_step 20 = .ok (.invokestatic 69, 3) := by decide +kernel
theorem dX5_step_23 : decode cX5_step 23 = .ok (.ifCond .eq 6, 3) := by decide +kernel
theorem dX5_step_26 : decode cX5_step 26 = .ok (.ldc 73, 2) := by decide +kernel
theorem dX5_step_28 : decode cX5_step 28 = .ok (.ireturn, 1) := by decide +kernel
theorem dX5_step_29 : decode cX5_step 29 = .ok (.aload_n 0, 1) := by decide +kernel
theorem dX5_step_30 : decode cX5_step 30 = .ok (.getfield 25, 3) := by decide +kernel
theorem dX5_step_33 : decode cX5_step 33 = .ok (.iload_n 1, 1) := by decide +kernel
theorem dX5_step_34 : decode cX5_step 34 = .ok (.iload_n 2, 1) := by decide +kernel
theorem dX5_step_35 : decode cX5_step 35 = .ok (.invokevirtual 194, 3) := by decide +kernel
theorem dX5_step_38 : decode cX5_step 38 = .ok (.ireturn, 1) := by decide +kernel
theorem dX5_ahead_0 : decode cX5_ahead 0 = .ok (.aload_n 0, 1) := by decide +kernel
theorem dX5_ahead_1 : decode cX5_ahead 1 = .ok (.iload_n 1, 1) := by decide +kernel
theorem dX5_ahead_2 : decode cX5_ahead 2 = .ok (.invokevirtual 157, 3) := by decide +kernel
theorem dX5_ahead_5 : decode cX5_ahead 5 = .ok (.ifCond .ne 13, 3) := by decide +kernel
theorem dX5_ahead_8 : decode cX5_ahead 8 = .ok (.iload_n 2, 1) := by decide +kernel
theorem dX5_ahead_9 : decode cX5_ahead 9 = .ok (.iconst 0, 1) := by decide +kernel
theorem dX5_ahead_10 : decode cX5_ahead 10 = .ok (.bipush 60, 2) := by decide +kernel
theorem dX5_ahead_12 : decode cX5_ahead 12 = .ok (.invokestatic 69, 3) := by decide +kernel
theorem dX5_ahead_15 : decode cX5_ahead 15 = .ok (.ifCond .eq 6, 3) := by decide +kernel
theorem dX5_ahead_18 : decode cX5_ahead 18 = .ok (.ldc 73, 2) := by decide +kernel
theorem dX5_ahead_20 : decode cX5_ahead 20 = .ok (.ireturn, 1) := by decide +kernel
theorem dX5_ahead_21 : decode cX5_ahead 21 = .ok (.aload_n 0, 1) := by decide +kernel
theorem dX5_ahead_22 : decode cX5_ahead 22 = .ok (.iload_n 2, 1) := by decide +kernel
theorem dX5_ahead_23 : decode cX5_ahead 23 = .ok (.invokevirtual 198, 3) := by decide +kernel
theorem dX5_ahead_26 : decode cX5_ahead 26 = .ok (.aload_n 0, 1) := by decide +kernel
theorem dX5_ahead_27 : decode cX5_ahead 27 = .ok (.getfield 47, 3) := by decide +kernel
theorem dX5_ahead_30 : decode cX5_ahead 30 = .ok (.getfield 160, 3) := by decide +kernel
theorem dX5_ahead_33 : decode cX5_ahead 33 = .ok (.iload_n 1, 1) := by decide +kernel
theorem dX5_ahead_34 : decode cX5_ahead 34 = .ok (.iaload, 1) := by decide +kernel
theorem dX5_ahead_35 : decode cX5_ahead 35 = .ok (.ireturn, 1) := by decide +kernel
theorem dX5_later_0 : decode cX5_later 0 = .ok (.aload_n 0, 1) := by decide +kernel
theorem dX5_later_1 : decode cX5_later 1 = .ok (.invokevirtual 136, 3) := by decide +kernel
theorem dX5_later_4 : decode cX5_later 4 = .ok (.ifCond .eq 6, 3) := by decide +kernel
theorem dX5_later_7 : decode cX5_later 7 = .ok (.ldc 140, 2) := by decide +kernel
theorem dX5_later_9 : decode cX5_later 9 = .ok (.ireturn, 1) := by decide +kernel
theorem dX5_later_10 : decode cX5_later 10 = .ok (.iload_n 1, 1) := by decide +kernel
theorem dX5_later_11 : decode cX5_later 11 = .ok (.iconst 0, 1) := by decide +kernel
theorem dX5_later_12 : decode cX5_later 12 = .ok (.bipush 60, 2) := by decide +kernel
theorem dX5_later_14 : decode cX5_later 14 = .ok (.invokestatic 69, 3) := by decide +kernel
theorem dX5_later_17 : decode cX5_later 17 = .ok (.ifCond .ne 12, 3) := by decide +kernel
theorem dX5_later_20 : decode cX5_later 20 = .ok (.iload_n 2, 1) := by decide +kernel
theorem dX5_later_21 : decode cX5_later 21 = .ok (.iconst 0, 1) := by decide +kernel
theorem dX5_later_22 : decode cX5_later 22 = .ok (.iconst 1, 1) := by decide +kernel
theorem dX5_later_23 : decode cX5_later 23 = .ok (.invokestatic 69, 3) := by decide +kernel
theorem dX5_later_26 : decode cX5_later 26 = .ok (.ifCond .eq 6, 3) := by decide +kernel
theorem dX5_later_29 : decode cX5_later 29 = .ok (.ldc 73, 2) := by decide +kernel
theorem dX5_later_31 : decode cX5_later 31 = .ok (.ireturn, 1) := by decide +kernel
theorem dX5_later_32 : decode cX5_later 32 = .ok (.aload_n 0, 1) := by decide +kernel
theorem dX5_later_33 : decode cX5_later 33 = .ok (.iload_n 1, 1) := by decide +kernel
theorem dX5_later_34 : decode cX5_later 34 = .ok (.invokevirtual 198, 3) := by decide +kernel
theorem dX5_later_37 : decode cX5_later 37 = .ok (.iload_n 2, 1) := by decide +kernel
theorem dX5_later_38 : decode cX5_later 38 = .ok (.ifCond .ne 15, 3) := by decide +kernel
theorem dX5_later_41 : decode cX5_later 41 = .ok (.aload_n 0, 1) := by decide +kernel
theorem dX5_later_42 : decode cX5_later 42 = .ok (.getfield 47, 3) := by decide +kernel
theorem dX5_later_45 : decode cX5_later 45 = .ok (.bipush 99, 2) := by decide +kernel
theorem dX5_later_47 : decode cX5_later 47 = .ok (.invokevirtual 151, 3) := by decide +kernel
theorem dX5_later_50 : decode cX5_later 50 = .ok (.goto 10, 3) := by decide +kernel
theorem dX5_later_53 : decode cX5_later 53 = .ok (.aload_n 0, 1) := by decide +kernel
theorem dX5_later_54 : decode cX5_later 54 = .ok (.getfield 47, 3) := by decide +kernel
theorem dX5_later_57 : decode cX5_later 57 = .ok (.invokevirtual 201, 3) := by decide +kernel
theorem dX5_later_60 : decode cX5_later 60 = .ok (.ireturn, 1) := by decide +kernel
theorem dX5_off_0 : decode cX5_off 0 = .ok (.aload_n 0, 1) := by decide +kernel
theorem dX5_off_1 : decode cX5_off 1 = .ok (.iload_n 1, 1) := by decide +kernel
theorem dX5_off_2 : decode cX5_off 2 = .ok (.invokevirtual 157, 3) := by decide +kernel
theorem dX5_off_5 : decode cX5_off 5 = .ok (.ifCond .eq 6, 3) := by decide +kernel
theorem dX5_off_8 : decode cX5_off 8 = .ok (.ldc 73, 2) := by decide +kernel
theorem dX5_off_10 : decode cX5_off 10 = .ok (.ireturn, 1) := by decide +kernel
theorem dX5_off_11 : decode cX5_off 11 = .ok (.aload_n 0, 1) := by decide +kernel
theorem dX5_off_12 : decode cX5_off 12 = .ok (.getfield 47, 3) := by decide +kernel
theorem dX5_off_15 : decode cX5_off 15 = .ok (.aload_n 0, 1) := by decide +kernel
theorem dX5_off_16 : decode cX5_off 16 = .ok (.getfield 25, 3) := by decide +kernel
theorem dX5_off_19 : decode cX5_off 19 = .ok (.invokevirtual 123, 3) := by decide +kernel
theorem dX5_off_22 : decode cX5_off 22 = .ok (.aload_n 0, 1) := by decide +kernel
theorem dX5_off_23 : decode cX5_off 23 = .ok (.getfield 47, 3) := by decide +kernel
theorem dX5_off_26 : decode cX5_off 26 = .ok (.iload_n 1, 1) := by decide +kernel
theorem dX5_off_27 : decode cX5_off 27 = .ok (.bipush 60, 2) := by decide +kernel
theorem dX5_off_29 : decode cX5_off 29 = .ok (.invokevirtual 204, 3) := by decide +kernel
theorem dX5_off_32 : decode cX5_off 32 = .ok (.ireturn, 1) := by decide +kernel
theorem dX5_clear_0 : decode cX5_clear 0 = .ok (.aload_n 0, 1) := by decide +kernel
theorem dX5_clear_1 : decode cX5_clear 1 = .ok (.invokevirtual 136, 3) := by decide +kernel
theorem dX5_clear_4 : decode cX5_clear 4 = .ok (.ifCond .eq 6, 3) := by decide +kernel
theorem dX5_clear_7 : decode cX5_clear 7 = .ok (.ldc 140, 2) := by decide +kernel
theorem dX5_clear_9 : decode cX5_clear 9 = .ok (.ireturn, 1) := by decide +kernel
theorem dX5_clear_10 : decode cX5_clear 10 = .ok (.aload_n 0, 1) := by decide +kernel
theorem dX5_clear_11 : decode cX5_clear 11 = .ok (.getfield 47, 3) := by decide +kernel
theorem dX5_clear_14 : decode cX5_clear 14 = .ok (.aload_n 0, 1) := by decide +kernel
theorem dX5_clear_15 : decode cX5_clear 15 = .ok (.getfield 25, 3) := by decide +kernel
theorem dX5_clear_18 : decode cX5_clear 18 = .ok (.invokevirtual 123, 3) := by decide +kernel
theorem dX5_clear_21 : decode cX5_clear 21 = .ok (.aload_n 0, 1) := by decide +kernel
theorem dX5_clear_22 : decode cX5_clear 22 = .ok (.getfield 47, 3) := by decide +kernel
theorem dX5_clear_25 : decode cX5_clear 25 = .ok (.bipush 60, 2) := by decide +kernel
theorem dX5_clear_27 : decode cX5_clear 27 = .ok (.invokevirtual 207, 3) := by decide +kernel
theorem dX5_clear_30 : decode cX5_clear 30 = .ok (.ireturn, 1) := by decide +kernel
theorem dX5_sorting_0 : decode cX5_sorting 0 = .ok (.aload_n 0, 1) := by decide +kernel
theorem dX5_sorting_1 : decode cX5_sorting 1 = .ok (.invokevirtual 136, 3) := by decide +kernel
theorem dX5_sorting_4 : decode cX5_sorting 4 = .ok (.ifCond .eq 6, 3) := by decide +kernel
theorem dX5_sorting_7 : decode cX5_sorting 7 = .ok (.ldc 140, 2) := by decide +kernel
theorem dX5_sorting_9 : decode cX5_sorting 9 = .ok (.ireturn, 1) := by decide +kernel
theorem dX5_sorting_10 : decode cX5_sorting 10 = .ok (.iload_n 1, 1) := by decide +kernel
theorem dX5_sorting_11 : decode cX5_sorting 11 = .ok (.iconst 0, 1) := by decide +kernel
theorem dX5_sorting_12 : decode cX5_sorting 12 = .ok (.iconst 1, 1) := by decide +kernel
theorem dX5_sorting_13 : decode cX5_sorting 13 = .ok (.invokestatic 69, 3) := by decide +kernel
theorem dX5_sorting_16 : decode cX5_sorting 16 = .ok (.ifCond .eq 6, 3) := by decide +kernel
theorem dX5_sorting_19 : decode cX5_sorting 19 = .ok (.ldc 73, 2) := by decide +kernel
theorem dX5_sorting_21 : decode cX5_sorting 21 = .ok (.ireturn, 1) := by decide +kernel
theorem dX5_sorting_22 : decode cX5_sorting 22 = .ok (.aload_n 0, 1) := by decide +kernel
theorem dX5_sorting_23 : decode cX5_sorting 23 = .ok (.getfield 25, 3) := by decide +kernel
theorem dX5_sorting_26 : decode cX5_sorting 26 = .ok (.iconst (-1), 1) := by decide +kernel
theorem dX5_sorting_27 : decode cX5_sorting 27 = .ok (.invokevirtual 210, 3) := by decide +kernel
theorem dX5_sorting_30 : decode cX5_sorting 30 = .ok (.istore_n 2, 1) := by decide +kernel
theorem dX5_sorting_31 : decode cX5_sorting 31 = .ok (.bipush 61, 2) := by decide +kernel
theorem dX5_sorting_33 : decode cX5_sorting 33 = .ok (.istore_n 3, 1) := by decide +kernel
theorem dX5_sorting_34 : decode cX5_sorting 34 = .ok (.ldc 121, 2) := by decide +kernel
theorem dX5_sorting_36 : decode cX5_sorting 36 = .ok (.istore 4, 2) := by decide +kernel
theorem dX5_sorting_38 : decode cX5_sorting 38 = .ok (.iconst 0, 1) := by decide +kernel
theorem dX5_sorting_39 : decode cX5_sorting 39 = .ok (.istore 5, 2) := by decide +kernel
theorem dX5_sorting_41 : decode cX5_sorting 41 = .ok (.iconst 0, 1) := by decide +kernel
theorem dX5_sorting_42 : decode cX5_sorting 42 = .ok (.istore 6, 2) := by decide +kernel
theorem dX5_sorting_44 : decode cX5_sorting 44 = .ok (.iload 6, 2) := by decide +kernel
theorem dX5_sorting_46 : decode cX5_sorting 46 = .ok (.sipush 128, 3) := by decide +kernel
theorem dX5_sorting_49 : decode cX5_sorting 49 = .ok (.if_icmp .ge 72, 3) := by decide +kernel
theorem dX5_sorting_52 : decode cX5_sorting 52 = .ok (.aload_n 0, 1) := by decide +kernel
theorem dX5_sorting_53 : decode cX5_sorting 53 = .ok (.getfield 47, 3) := by decide +kernel
theorem dX5_sorting_56 : decode cX5_sorting 56 = .ok (.aload_n 0, 1) := by decide +kernel
theorem dX5_sorting_57 : decode cX5_sorting 57 = .ok (.getfield 25, 3) := by decide +kernel
theorem dX5_sorting_60 : decode cX5_sorting 60 = .ok (.invokevirtual 123, 3) := by decide +kernel
theorem dX5_sorting_63 : decode cX5_sorting 63 = .ok (.aload_n 0, 1) := by decide +kernel
theorem dX5_sorting_64 : decode cX5_sorting 64 = .ok (.getfield 47, 3) := by decide +kernel
theorem dX5_sorting_67 : decode cX5_sorting 67 = .ok (.iload_n 2, 1) := by decide +kernel
theorem dX5_sorting_68 : decode cX5_sorting 68 = .ok (.iload 5, 2) := by decide +kernel
theorem dX5_sorting_70 : decode cX5_sorting 70 = .ok (.invokevirtual 213, 3) := by decide +kernel
theorem dX5_sorting_73 : decode cX5_sorting 73 = .ok (.aload_n 0, 1) := by decide +kernel
theorem dX5_sorting_74 : decode cX5_sorting 74 = .ok (.getfield 47, 3) := by decide +kernel
theorem dX5_sorting_77 : decode cX5_sorting 77 = .ok (.iload_n 3, 1) := by decide +kernel
theorem dX5_sorting_78 : decode cX5_sorting 78 = .ok (.iconst 1, 1) := by decide +kernel
theorem dX5_sorting_79 : decode cX5_sorting 79 = .ok (.isub, 1) := by decide +kernel
theorem dX5_sorting_80 : decode cX5_sorting 80 = .ok (.invokevirtual 207, 3) := by decide +kernel
theorem dX5_sorting_83 : decode cX5_sorting 83 = .ok (.istore 7, 2) := by decide +kernel
theorem dX5_sorting_85 : decode cX5_sorting 85 = .ok (.iload 7, 2) := by decide +kernel
theorem dX5_sorting_87 : decode cX5_sorting 87 = .ok (.ldc 121, 2) := by decide +kernel
theorem dX5_sorting_89 : decode cX5_sorting 89 = .ok (.if_icmp .eq 10, 3) := by decide +kernel
theorem dX5_sorting_92 : decode cX5_sorting 92 = .ok (.iload 7, 2) := by decide +kernel
theorem dX5_sorting_94 : decode cX5_sorting 94 = .ok (.istore_n 3, 1) := by decide +kernel
theorem dX5_sorting_95 : decode cX5_sorting 95 = .ok (.iload 5, 2) := by decide +kernel
theorem dX5_sorting_97 : decode cX5_sorting 97 = .ok (.istore 4, 2) := by decide +kernel
theorem dX5_sorting_99 : decode cX5_sorting 99 = .ok (.iload 5, 2) := by decide +kernel
theorem dX5_sorting_101 : decode cX5_sorting 101 = .ok (.iload_n 2, 1) := by decide +kernel
theorem dX5_sorting_102 : decode cX5_sorting 102 = .ok (.invokestatic 216, 3) := by decide +kernel
theorem dX5_sorting_105 : decode cX5_sorting 105 = .ok (.istore 5, 2) := by decide +kernel
theorem dX5_sorting_107 : decode cX5_sorting 107 = .ok (.iload 5, 2) := by decide +kernel
theorem dX5_sorting_109 : decode cX5_sorting 109 = .ok (.ifCond .ne 6, 3) := by decide +kernel
theorem dX5_sorting_112 : decode cX5_sorting 112 = .ok (.goto 9, 3) := by decide +kernel
theorem dX5_sorting_115 : decode cX5_sorting 115 = .ok (.iinc 6 1, 3) := by decide +kernel
theorem dX5_sorting_118 : decode cX5_sorting 118 = .ok (.goto (-74), 3) := by decide +kernel
theorem dX5_sorting_121 : decode cX5_sorting 121 = .ok (.iload 4, 2) := by decide +kernel
theorem dX5_sorting_123 : decode cX5_sorting 123 = .ok (.ldc 121, 2) := by decide +kernel
theorem dX5_sorting_125 : decode cX5_sorting 125 = .ok (.if_icmp .ne 6, 3) := by decide +kernel
theorem dX5_sorting_128 : decode cX5_sorting 128 = .ok (.ldc 121, 2) := by decide +kernel
theorem dX5_sorting_130 : decode cX5_sorting 130 = .ok (.ireturn, 1) := by decide +kernel
theorem dX5_sorting_131 : decode cX5_sorting 131 = .ok (.iload_n 1, 1) := by decide +kernel
theorem dX5_sorting_132 : decode cX5_sorting 132 = .ok (.ifCond .ne 7, 3) := by decide +kernel
theorem dX5_sorting_135 : decode cX5_sorting 135 = .ok (.iload_n 3, 1) := by decide +kernel
theorem dX5_sorting_136 : decode cX5_sorting 136 = .ok (.goto 5, 3) := by decide +kernel
theorem dX5_sorting_139 : decode cX5_sorting 139 = .ok (.iload 4, 2) := by decide +kernel
theorem dX5_sorting_141 : decode cX5_sorting 141 = .ok (.ireturn, 1) := by decide +kernel
theorem dX5_taken_0 : decode cX5_taken 0 = .ok (.aload_n 0, 1) := by decide +kernel
theorem dX5_taken_1 : decode cX5_taken 1 = .ok (.invokevirtual 136, 3) := by decide +kernel
theorem dX5_taken_4 : decode cX5_taken 4 = .ok (.ifCond .eq 6, 3) := by decide +kernel
theorem dX5_taken_7 : decode cX5_taken 7 = .ok (.ldc 140, 2) := by decide +kernel
theorem dX5_taken_9 : decode cX5_taken 9 = .ok (.ireturn, 1) := by decide +kernel
theorem dX5_taken_10 : decode cX5_taken 10 = .ok (.iload_n 1, 1) := by decide +kernel
theorem dX5_taken_11 : decode cX5_taken 11 = .ok (.iconst 0, 1) := by decide +kernel
theorem dX5_taken_12 : decode cX5_taken 12 = .ok (.iconst 1, 1) := by decide +kernel
theorem dX5_taken_13 : decode cX5_taken 13 = .ok (.invokestatic 69, 3) := by decide +kernel
theorem dX5_taken_16 : decode cX5_taken 16 = .ok (.ifCond .eq 6, 3) := by decide +kernel
theorem dX5_taken_19 : decode cX5_taken 19 = .ok (.ldc 73, 2) := by decide +kernel
theorem dX5_taken_21 : decode cX5_taken 21 = .ok (.ireturn, 1) := by decide +kernel
theorem dX5_taken_22 : decode cX5_taken 22 = .ok (.aload_n 0, 1) := by decide +kernel
theorem dX5_taken_23 : decode cX5_taken 23 = .ok (.getfield 47, 3) := by decide +kernel
theorem dX5_taken_26 : decode cX5_taken 26 = .ok (.aload_n 0, 1) := by decide +kernel
theorem dX5_taken_27 : decode cX5_taken 27 = .ok (.getfield 25, 3) := by decide +kernel
theorem dX5_taken_30 : decode cX5_taken 30 = .ok (.invokevirtual 123, 3) := by decide +kernel
theorem dX5_taken_33 : decode cX5_taken 33 = .ok (.aload_n 0, 1) := by decide +kernel
theorem dX5_taken_34 : decode cX5_taken 34 = .ok (.getfield 47, 3) := by decide +kernel
theorem dX5_taken_37 : decode cX5_taken 37 = .ok (.bipush 60, 2) := by decide +kernel
theorem dX5_taken_39 : decode cX5_taken 39 = .ok (.invokevirtual 207, 3) := by decide +kernel
theorem dX5_taken_42 : decode cX5_taken 42 = .ok (.istore_n 2, 1) := by decide +kernel
theorem dX5_taken_43 : decode cX5_taken 43 = .ok (.iload_n 2, 1) := by decide +kernel
theorem dX5_taken_44 : decode cX5_taken 44 = .ok (.ldc 121, 2) := by decide +kernel
theorem dX5_taken_46 : decode cX5_taken 46 = .ok (.if_icmp .ne 8, 3) := by decide +kernel
theorem dX5_taken_49 : decode cX5_taken 49 = .ok (.bipush 61, 2) := by decide +kernel
theorem dX5_taken_51 : decode cX5_taken 51 = .ok (.goto 4, 3) := by decide +kernel
theorem dX5_taken_54 : decode cX5_taken 54 = .ok (.iload_n 2, 1) := by decide +kernel
theorem dX5_taken_55 : decode cX5_taken 55 = .ok (.istore_n 3, 1) := by decide +kernel
theorem dX5_taken_56 : decode cX5_taken 56 = .ok (.ldc 121, 2) := by decide +kernel
theorem dX5_taken_58 : decode cX5_taken 58 = .ok (.istore 4, 2) := by decide +kernel
theorem dX5_taken_60 : decode cX5_taken 60 = .ok (.iconst 0, 1) := by decide +kernel
theorem dX5_taken_61 : decode cX5_taken 61 = .ok (.istore 5, 2) := by decide +kernel
theorem dX5_taken_63 : decode cX5_taken 63 = .ok (.iload 5, 2) := by decide +kernel
theorem dX5_taken_65 : decode cX5_taken 65 = .ok (.aload_n 0, 1) := by decide +kernel
theorem dX5_taken_66 : decode cX5_taken 66 = .ok (.getfield 25, 3) := by decide +kernel
theorem dX5_taken_69 : decode cX5_taken 69 = .ok (.getfield 130, 3) := by decide +kernel
theorem dX5_taken_72 : decode cX5_taken 72 = .ok (.if_icmp .ge 58, 3) := by decide +kernel
theorem dX5_taken_75 : decode cX5_taken 75 = .ok (.aload_n 0, 1) := by decide +kernel
theorem dX5_taken_76 : decode cX5_taken 76 = .ok (.getfield 47, 3) := by decide +kernel
theorem dX5_taken_79 : decode cX5_taken 79 = .ok (.aload_n 0, 1) := by decide +kernel
theorem dX5_taken_80 : decode cX5_taken 80 = .ok (.getfield 25, 3) := by decide +kernel
theorem dX5_taken_83 : decode cX5_taken 83 = .ok (.invokevirtual 123, 3) := by decide +kernel
theorem dX5_taken_86 : decode cX5_taken 86 = .ok (.aload_n 0, 1) := by decide +kernel
theorem dX5_taken_87 : decode cX5_taken 87 = .ok (.getfield 47, 3) := by decide +kernel
theorem dX5_taken_90 : decode cX5_taken 90 = .ok (.getfield 160, 3) := by decide +kernel
theorem dX5_taken_93 : decode cX5_taken 93 = .ok (.iload 5, 2) := by decide +kernel
theorem dX5_taken_95 : decode cX5_taken 95 = .ok (.bipush 99, 2) := by decide +kernel
theorem dX5_taken_97 : decode cX5_taken 97 = .ok (.iastore, 1) := by decide +kernel
theorem dX5_taken_98 : decode cX5_taken 98 = .ok (.aload_n 0, 1) := by decide +kernel
theorem dX5_taken_99 : decode cX5_taken 99 = .ok (.getfield 47, 3) := by decide +kernel
theorem dX5_taken_102 : decode cX5_taken 102 = .ok (.iload_n 3, 1) := by decide +kernel
theorem dX5_taken_103 : decode cX5_taken 103 = .ok (.iconst 1, 1) := by decide +kernel
theorem dX5_taken_104 : decode cX5_taken 104 = .ok (.isub, 1) := by decide +kernel
theorem dX5_taken_105 : decode cX5_taken 105 = .ok (.invokevirtual 207, 3) := by decide +kernel
theorem dX5_taken_108 : decode cX5_taken 108 = .ok (.istore 6, 2) := by decide +kernel
theorem dX5_taken_110 : decode cX5_taken 110 = .ok (.iload 6, 2) := by decide +kernel
theorem dX5_taken_112 : decode cX5_taken 112 = .ok (.ldc 121, 2) := by decide +kernel
theorem dX5_taken_114 : decode cX5_taken 114 = .ok (.if_icmp .eq 10, 3) := by decide +kernel
theorem dX5_taken_117 : decode cX5_taken 117 = .ok (.iload 6, 2) := by decide +kernel
theorem dX5_taken_119 : decode cX5_taken 119 = .ok (.istore_n 3, 1) := by decide +kernel
theorem dX5_taken_120 : decode cX5_taken 120 = .ok (.iload 5, 2) := by decide +kernel
theorem dX5_taken_122 : decode cX5_taken 122 = .ok (.istore 4, 2) := by decide +kernel
theorem dX5_taken_124 : decode cX5_taken 124 = .ok (.iinc 5 1, 3) := by decide +kernel
theorem dX5_taken_127 : decode cX5_taken 127 = .ok (.goto (-64), 3) := by decide +kernel
theorem dX5_taken_130 : decode cX5_taken 130 = .ok (.iload 4, 2) := by decide +kernel
theorem dX5_taken_132 : decode cX5_taken 132 = .ok (.ldc 121, 2) := by decide +kernel
theorem dX5_taken_134 : decode cX5_taken 134 = .ok (.if_icmp .ne 6, 3) := by decide +kernel
theorem dX5_taken_137 : decode cX5_taken 137 = .ok (.ldc 121, 2) := by decide +kernel
theorem dX5_taken_139 : decode cX5_taken 139 = .ok (.ireturn, 1) := by decide +kernel
theorem dX5_taken_140 : decode cX5_taken 140 = .ok (.iload_n 1, 1) := by decide +kernel
theorem dX5_taken_141 : decode cX5_taken 141 = .ok (.ifCond .ne 8, 3) := by decide +kernel
theorem dX5_taken_144 : decode cX5_taken 144 = .ok (.iload 4, 2) := by decide +kernel
theorem dX5_taken_146 : decode cX5_taken 146 = .ok (.goto 4, 3) := by decide +kernel
theorem dX5_taken_149 : decode cX5_taken 149 = .ok (.iload_n 3, 1) := by decide +kernel
theorem dX5_taken_150 : decode cX5_taken 150 = .ok (.ireturn, 1) := by decide +kernel
theorem dX5_pace_0 : decode cX5_pace 0 = .ok (.aload_n 0, 1) := by decide +kernel
theorem dX5_pace_1 : decode cX5_pace 1 = .ok (.iload_n 1, 1) := by decide +kernel
theorem dX5_pace_2 : decode cX5_pace 2 = .ok (.invokevirtual 157, 3) := by decide +kernel
theorem dX5_pace_5 : decode cX5_pace 5 = .ok (.ifCond .ne 18, 3) := by decide +kernel
theorem dX5_pace_8 : decode cX5_pace 8 = .ok (.iload_n 2, 1) := by decide +kernel
theorem dX5_pace_9 : decode cX5_pace 9 = .ok (.iconst 1, 1) := by decide +kernel
theorem dX5_pace_10 : decode cX5_pace 10 = .ok (.bipush 6, 2) := by decide +kernel
theorem dX5_pace_12 : decode cX5_pace 12 = .ok (.invokestatic 69, 3) := by decide +kernel
theorem dX5_pace_15 : decode cX5_pace 15 = .ok (.ifCond .ne 8, 3) := by decide +kernel
theorem dX5_pace_18 : decode cX5_pace 18 = .ok (.iload_n 3, 1) := by decide +kernel
theorem dX5_pace_19 : decode cX5_pace 19 = .ok (.iconst (-1), 1) := by decide +kernel
theorem dX5_pace_20 : decode cX5_pace 20 = .ok (.if_icmp .ge 6, 3) := by decide +kernel
theorem dX5_pace_23 : decode cX5_pace 23 = .ok (.ldc 73, 2) := by decide +kernel
theorem dX5_pace_25 : decode cX5_pace 25 = .ok (.ireturn, 1) := by decide +kernel
theorem dX5_pace_26 : decode cX5_pace 26 = .ok (.aload_n 0, 1) := by decide +kernel
theorem dX5_pace_27 : decode cX5_pace 27 = .ok (.iload_n 1, 1) := by decide +kernel
theorem dX5_pace_28 : decode cX5_pace 28 = .ok (.iload_n 2, 1) := by decide +kernel
theorem dX5_pace_29 : decode cX5_pace 29 = .ok (.invokevirtual 219, 3) := by decide +kernel
theorem dX5_pace_32 : decode cX5_pace 32 = .ok (.istore 4, 2) := by decide +kernel
theorem dX5_pace_34 : decode cX5_pace 34 = .ok (.iload 4, 2) := by decide +kernel
theorem dX5_pace_36 : decode cX5_pace 36 = .ok (.ldc 121, 2) := by decide +kernel
theorem dX5_pace_38 : decode cX5_pace 38 = .ok (.if_icmp .eq 8, 3) := by decide +kernel
theorem dX5_pace_41 : decode cX5_pace 41 = .ok (.iload_n 3, 1) := by decide +kernel
theorem dX5_pace_42 : decode cX5_pace 42 = .ok (.iconst (-1), 1) := by decide +kernel
theorem dX5_pace_43 : decode cX5_pace 43 = .ok (.if_icmp .ne 6, 3) := by decide +kernel
theorem dX5_pace_46 : decode cX5_pace 46 = .ok (.iload 4, 2) := by decide +kernel
theorem dX5_pace_48 : decode cX5_pace 48 = .ok (.ireturn, 1) := by decide +kernel
theorem dX5_pace_49 : decode cX5_pace 49 = .ok (.iload_n 3, 1) := by decide +kernel
theorem dX5_pace_50 : decode cX5_pace 50 = .ok (.iload_n 2, 1) := by decide +kernel
theorem dX5_pace_51 : decode cX5_pace 51 = .ok (.if_icmp .ge 12, 3) := by decide +kernel
theorem dX5_pace_54 : decode cX5_pace 54 = .ok (.aload_n 0, 1) := by decide +kernel
theorem dX5_pace_55 : decode cX5_pace 55 = .ok (.getfield 57, 3) := by decide +kernel
theorem dX5_pace_58 : decode cX5_pace 58 = .ok (.iload_n 3, 1) := by decide +kernel
theorem dX5_pace_59 : decode cX5_pace 59 = .ok (.iaload, 1) := by decide +kernel
theorem dX5_pace_60 : decode cX5_pace 60 = .ok (.goto 5, 3) := by decide +kernel
theorem dX5_pace_63 : decode cX5_pace 63 = .ok (.ldc 121, 2) := by decide +kernel
theorem dX5_pace_65 : decode cX5_pace 65 = .ok (.ireturn, 1) := by decide +kernel
theorem dX5_fits_0 : decode cX5_fits 0 = .ok (.aload_n 0, 1) := by decide +kernel
theorem dX5_fits_1 : decode cX5_fits 1 = .ok (.iload_n 1, 1) := by decide +kernel
theorem dX5_fits_2 : decode cX5_fits 2 = .ok (.invokevirtual 157, 3) := by decide +kernel
theorem dX5_fits_5 : decode cX5_fits 5 = .ok (.ifCond .ne 31, 3) := by decide +kernel
theorem dX5_fits_8 : decode cX5_fits 8 = .ok (.iload_n 2, 1) := by decide +kernel
theorem dX5_fits_9 : decode cX5_fits 9 = .ok (.invokestatic 65, 3) := by decide +kernel
theorem dX5_fits_12 : decode cX5_fits 12 = .ok (.ifCond .ne 24, 3) := by decide +kernel
theorem dX5_fits_15 : decode cX5_fits 15 = .ok (.iload 4, 2) := by decide +kernel
theorem dX5_fits_17 : decode cX5_fits 17 = .ok (.iconst 1, 1) := by decide +kernel
theorem dX5_fits_18 : decode cX5_fits 18 = .ok (.bipush 12, 2) := by decide +kernel
theorem dX5_fits_20 : decode cX5_fits 20 = .ok (.invokestatic 69, 3) := by decide +kernel
theorem dX5_fits_23 : decode cX5_fits 23 = .ok (.ifCond .ne 13, 3) := by decide +kernel
theorem dX5_fits_26 : decode cX5_fits 26 = .ok (.iload 5, 2) := by decide +kernel
theorem dX5_fits_28 : decode cX5_fits 28 = .ok (.iconst 0, 1) := by decide +kernel
theorem dX5_fits_29 : decode cX5_fits 29 = .ok (.iconst 3, 1) := by decide +kernel
theorem dX5_fits_30 : decode cX5_fits 30 = .ok (.invokestatic 69, 3) := by decide +kernel
theorem dX5_fits_33 : decode cX5_fits 33 = .ok (.ifCond .eq 6, 3) := by decide +kernel
theorem dX5_fits_36 : decode cX5_fits 36 = .ok (.ldc 73, 2) := by decide +kernel
theorem dX5_fits_38 : decode cX5_fits 38 = .ok (.ireturn, 1) := by decide +kernel
theorem dX5_fits_39 : decode cX5_fits 39 = .ok (.aload_n 0, 1) := by decide +kernel
theorem dX5_fits_40 : decode cX5_fits 40 = .ok (.getfield 11, 3) := by decide +kernel
theorem dX5_fits_43 : decode cX5_fits 43 = .ok (.iload_n 2, 1) := by decide +kernel
theorem dX5_fits_44 : decode cX5_fits 44 = .ok (.aaload, 1) := by decide +kernel
theorem dX5_fits_45 : decode cX5_fits 45 = .ok (.astore 6, 2) := by decide +kernel
theorem dX5_fits_47 : decode cX5_fits 47 = .ok (.aload 6, 2) := by decide +kernel
theorem dX5_fits_49 : decode cX5_fits 49 = .ok (.getfield 85, 3) := by decide +kernel
theorem dX5_fits_52 : decode cX5_fits 52 = .ok (.ifCond .eq 9, 3) := by decide +kernel
theorem dX5_fits_55 : decode cX5_fits 55 = .ok (.aload_n 0, 1) := by decide +kernel
theorem dX5_fits_56 : decode cX5_fits 56 = .ok (.iconst 1, 1) := by decide +kernel
theorem dX5_fits_57 : decode cX5_fits 57 = .ok (.invokevirtual 74, 3) := by decide +kernel
theorem dX5_fits_60 : decode cX5_fits 60 = .ok (.ireturn, 1) := by decide +kernel
theorem dX5_fits_61 : decode cX5_fits 61 = .ok (.aload 6, 2) := by decide +kernel
theorem dX5_fits_63 : decode cX5_fits 63 = .ok (.iload_n 3, 1) := by decide +kernel
theorem dX5_fits_64 : decode cX5_fits 64 = .ok (.iload 4, 2) := by decide +kernel
theorem dX5_fits_66 : decode cX5_fits 66 = .ok (.invokevirtual 89, 3) := by decide +kernel
theorem dX5_fits_69 : decode cX5_fits 69 = .ok (.ifCond .ne 9, 3) := by decide +kernel
theorem dX5_fits_72 : decode cX5_fits 72 = .ok (.aload_n 0, 1) := by decide +kernel
theorem dX5_fits_73 : decode cX5_fits 73 = .ok (.iconst 2, 1) := by decide +kernel
theorem dX5_fits_74 : decode cX5_fits 74 = .ok (.invokevirtual 74, 3) := by decide +kernel
theorem dX5_fits_77 : decode cX5_fits 77 = .ok (.ireturn, 1) := by decide +kernel
theorem dX5_fits_78 : decode cX5_fits 78 = .ok (.iload 5, 2) := by decide +kernel
theorem dX5_fits_80 : decode cX5_fits 80 = .ok (.tableswitch 73 0 2 #[28, 43, 58], 28) := by decide +kernel
theorem dX5_fits_108 : decode cX5_fits 108 = .ok (.aload_n 0, 1) := by decide +kernel
theorem dX5_fits_109 : decode cX5_fits 109 = .ok (.aload_n 0, 1) := by decide +kernel
theorem dX5_fits_110 : decode cX5_fits 110 = .ok (.iload_n 1, 1) := by decide +kernel
theorem dX5_fits_111 : decode cX5_fits 111 = .ok (.aload 6, 2) := by decide +kernel
theorem dX5_fits_113 : decode cX5_fits 113 = .ok (.iload_n 3, 1) := by decide +kernel
theorem dX5_fits_114 : decode cX5_fits 114 = .ok (.iload 4, 2) := by decide +kernel
theorem dX5_fits_116 : decode cX5_fits 116 = .ok (.invokevirtual 222, 3) := by decide +kernel
theorem dX5_fits_119 : decode cX5_fits 119 = .ok (.invokevirtual 82, 3) := by decide +kernel
theorem dX5_fits_122 : decode cX5_fits 122 = .ok (.ireturn, 1) := by decide +kernel
theorem dX5_fits_123 : decode cX5_fits 123 = .ok (.aload_n 0, 1) := by decide +kernel
theorem dX5_fits_124 : decode cX5_fits 124 = .ok (.aload_n 0, 1) := by decide +kernel
theorem dX5_fits_125 : decode cX5_fits 125 = .ok (.iload_n 1, 1) := by decide +kernel
theorem dX5_fits_126 : decode cX5_fits 126 = .ok (.aload 6, 2) := by decide +kernel
theorem dX5_fits_128 : decode cX5_fits 128 = .ok (.iload_n 3, 1) := by decide +kernel
theorem dX5_fits_129 : decode cX5_fits 129 = .ok (.iload 4, 2) := by decide +kernel
theorem dX5_fits_131 : decode cX5_fits 131 = .ok (.invokevirtual 226, 3) := by decide +kernel
theorem dX5_fits_134 : decode cX5_fits 134 = .ok (.invokevirtual 82, 3) := by decide +kernel
theorem dX5_fits_137 : decode cX5_fits 137 = .ok (.ireturn, 1) := by decide +kernel
theorem dX5_fits_138 : decode cX5_fits 138 = .ok (.aload_n 0, 1) := by decide +kernel
theorem dX5_fits_139 : decode cX5_fits 139 = .ok (.aload_n 0, 1) := by decide +kernel
theorem dX5_fits_140 : decode cX5_fits 140 = .ok (.iload_n 1, 1) := by decide +kernel
theorem dX5_fits_141 : decode cX5_fits 141 = .ok (.aload 6, 2) := by decide +kernel
theorem dX5_fits_143 : decode cX5_fits 143 = .ok (.iload_n 3, 1) := by decide +kernel
theorem dX5_fits_144 : decode cX5_fits 144 = .ok (.iload 4, 2) := by decide +kernel
theorem dX5_fits_146 : decode cX5_fits 146 = .ok (.invokevirtual 229, 3) := by decide +kernel
theorem dX5_fits_149 : decode cX5_fits 149 = .ok (.invokevirtual 82, 3) := by decide +kernel
theorem dX5_fits_152 : decode cX5_fits 152 = .ok (.ireturn, 1) := by decide +kernel
theorem dX5_fits_153 : decode cX5_fits 153 = .ok (.aload_n 0, 1) := by decide +kernel
theorem dX5_fits_154 : decode cX5_fits 154 = .ok (.aload_n 0, 1) := by decide +kernel
theorem dX5_fits_155 : decode cX5_fits 155 = .ok (.iload_n 1, 1) := by decide +kernel
theorem dX5_fits_156 : decode cX5_fits 156 = .ok (.aload 6, 2) := by decide +kernel
theorem dX5_fits_158 : decode cX5_fits 158 = .ok (.iload_n 3, 1) := by decide +kernel
theorem dX5_fits_159 : decode cX5_fits 159 = .ok (.iload 4, 2) := by decide +kernel
theorem dX5_fits_161 : decode cX5_fits 161 = .ok (.invokevirtual 232, 3) := by decide +kernel
theorem dX5_fits_164 : decode cX5_fits 164 = .ok (.invokevirtual 82, 3) := by decide +kernel
theorem dX5_fits_167 : decode cX5_fits 167 = .ok (.ireturn, 1) := by decide +kernel
theorem dX5_absent_0 : decode cX5_absent 0 = .ok (.aload_n 0, 1) := by decide +kernel
theorem dX5_absent_1 : decode cX5_absent 1 = .ok (.iload_n 1, 1) := by decide +kernel
theorem dX5_absent_2 : decode cX5_absent 2 = .ok (.invokevirtual 157, 3) := by decide +kernel
theorem dX5_absent_5 : decode cX5_absent 5 = .ok (.ifCond .ne 33, 3) := by decide +kernel
theorem dX5_absent_8 : decode cX5_absent 8 = .ok (.iload_n 2, 1) := by decide +kernel
theorem dX5_absent_9 : decode cX5_absent 9 = .ok (.iconst 0, 1) := by decide +kernel
theorem dX5_absent_10 : decode cX5_absent 10 = .ok (.bipush 60, 2) := by decide +kernel
theorem dX5_absent_12 : decode cX5_absent 12 = .ok (.invokestatic 69, 3) := by decide +kernel
theorem dX5_absent_15 : decode cX5_absent 15 = .ok (.ifCond .ne 23, 3) := by decide +kernel
theorem dX5_absent_18 : decode cX5_absent 18 = .ok (.iload_n 3, 1) := by decide +kernel
theorem dX5_absent_19 : decode cX5_absent 19 = .ok (.iconst 0, 1) := by decide +kernel
theorem dX5_absent_20 : decode cX5_absent 20 = .ok (.bipush 10, 2) := by decide +kernel
theorem dX5_absent_22 : decode cX5_absent 22 = .ok (.invokestatic 69, 3) := by decide +kernel
theorem dX5_absent_25 : decode cX5_absent 25 = .ok (.ifCond .ne 13, 3) := by decide +kernel
theorem dX5_absent_28 : decode cX5_absent 28 = .ok (.iload 4, 2) := by decide +kernel
theorem dX5_absent_30 : decode cX5_absent 30 = .ok (.iconst 0, 1) := by decide +kernel
theorem dX5_absent_31 : decode cX5_absent 31 = .ok (.iconst 1, 1) := by decide +kernel
theorem dX5_absent_32 : decode cX5_absent 32 = .ok (.invokestatic 69, 3) := by decide +kernel
theorem dX5_absent_35 : decode cX5_absent 35 = .ok (.ifCond .eq 6, 3) := by decide +kernel
theorem dX5_absent_38 : decode cX5_absent 38 = .ok (.ldc 73, 2) := by decide +kernel
theorem dX5_absent_40 : decode cX5_absent 40 = .ok (.ireturn, 1) := by decide +kernel
theorem dX5_absent_41 : decode cX5_absent 41 = .ok (.aload_n 0, 1) := by decide +kernel
theorem dX5_absent_42 : decode cX5_absent 42 = .ok (.getfield 25, 3) := by decide +kernel
theorem dX5_absent_45 : decode cX5_absent 45 = .ok (.iconst (-1), 1) := by decide +kernel
theorem dX5_absent_46 : decode cX5_absent 46 = .ok (.invokevirtual 210, 3) := by decide +kernel
theorem dX5_absent_49 : decode cX5_absent 49 = .ok (.istore 5, 2) := by decide +kernel
theorem dX5_absent_51 : decode cX5_absent 51 = .ok (.iload 5, 2) := by decide +kernel
theorem dX5_absent_53 : decode cX5_absent 53 = .ok (.invokestatic 235, 3) := by decide +kernel
theorem dX5_absent_56 : decode cX5_absent 56 = .ok (.istore 6, 2) := by decide +kernel
theorem dX5_absent_58 : decode cX5_absent 58 = .ok (.iconst 0, 1) := by decide +kernel
theorem dX5_absent_59 : decode cX5_absent 59 = .ok (.istore 7, 2) := by decide +kernel
theorem dX5_absent_61 : decode cX5_absent 61 = .ok (.iconst 0, 1) := by decide +kernel
theorem dX5_absent_62 : decode cX5_absent 62 = .ok (.istore 8, 2) := by decide +kernel
theorem dX5_absent_64 : decode cX5_absent 64 = .ok (.iconst 0, 1) := by decide +kernel
theorem dX5_absent_65 : decode cX5_absent 65 = .ok (.istore 9, 2) := by decide +kernel
theorem dX5_absent_67 : decode cX5_absent 67 = .ok (.iload 9, 2) := by decide +kernel
theorem dX5_absent_69 : decode cX5_absent 69 = .ok (.sipush 128, 3) := by decide +kernel
theorem dX5_absent_72 : decode cX5_absent 72 = .ok (.if_icmp .ge 91, 3) := by decide +kernel
theorem dX5_absent_75 : decode cX5_absent 75 = .ok (.aload_n 0, 1) := by decide +kernel
theorem dX5_absent_76 : decode cX5_absent 76 = .ok (.getfield 47, 3) := by decide +kernel
theorem dX5_absent_79 : decode cX5_absent 79 = .ok (.aload_n 0, 1) := by decide +kernel
theorem dX5_absent_80 : decode cX5_absent 80 = .ok (.getfield 25, 3) := by decide +kernel
theorem dX5_absent_83 : decode cX5_absent 83 = .ok (.invokevirtual 123, 3) := by decide +kernel
theorem dX5_absent_86 : decode cX5_absent 86 = .ok (.aload_n 0, 1) := by decide +kernel
theorem dX5_absent_87 : decode cX5_absent 87 = .ok (.getfield 47, 3) := by decide +kernel
theorem dX5_absent_90 : decode cX5_absent 90 = .ok (.iload 8, 2) := by decide +kernel
theorem dX5_absent_92 : decode cX5_absent 92 = .ok (.invokevirtual 240, 3) := by decide +kernel
theorem dX5_absent_95 : decode cX5_absent 95 = .ok (.aload_n 0, 1) := by decide +kernel
theorem dX5_absent_96 : decode cX5_absent 96 = .ok (.getfield 47, 3) := by decide +kernel
theorem dX5_absent_99 : decode cX5_absent 99 = .ok (.iload_n 1, 1) := by decide +kernel
theorem dX5_absent_100 : decode cX5_absent 100 = .ok (.iload_n 2, 1) := by decide +kernel
theorem dX5_absent_101 : decode cX5_absent 101 = .ok (.invokevirtual 204, 3) := by decide +kernel
theorem dX5_absent_104 : decode cX5_absent 104 = .ok (.ldc 121, 2) := by decide +kernel
theorem dX5_absent_106 : decode cX5_absent 106 = .ok (.if_icmp .eq 34, 3) := by decide +kernel
theorem dX5_absent_109 : decode cX5_absent 109 = .ok (.iload 8, 2) := by decide +kernel
theorem dX5_absent_111 : decode cX5_absent 111 = .ok (.invokestatic 235, 3) := by decide +kernel
theorem dX5_absent_114 : decode cX5_absent 114 = .ok (.istore 10, 2) := by decide +kernel
theorem dX5_absent_116 : decode cX5_absent 116 = .ok (.iload 7, 2) := by decide +kernel
theorem dX5_absent_118 : decode cX5_absent 118 = .ok (.iload_n 3, 1) := by decide +kernel
theorem dX5_absent_119 : decode cX5_absent 119 = .ok (.iload 10, 2) := by decide +kernel
theorem dX5_absent_121 : decode cX5_absent 121 = .ok (.invokestatic 243, 3) := by decide +kernel
theorem dX5_absent_124 : decode cX5_absent 124 = .ok (.bipush 10, 2) := by decide +kernel
theorem dX5_absent_126 : decode cX5_absent 126 = .ok (.iload_n 3, 1) := by decide +kernel
theorem dX5_absent_127 : decode cX5_absent 127 = .ok (.isub, 1) := by decide +kernel
theorem dX5_absent_128 : decode cX5_absent 128 = .ok (.iload 6, 2) := by decide +kernel
theorem dX5_absent_130 : decode cX5_absent 130 = .ok (.iload 10, 2) := by decide +kernel
theorem dX5_absent_132 : decode cX5_absent 132 = .ok (.isub, 1) := by decide +kernel
theorem dX5_absent_133 : decode cX5_absent 133 = .ok (.invokestatic 243, 3) := by decide +kernel
theorem dX5_absent_136 : decode cX5_absent 136 = .ok (.imul, 1) := by decide +kernel
theorem dX5_absent_137 : decode cX5_absent 137 = .ok (.iadd, 1) := by decide +kernel
theorem dX5_absent_138 : decode cX5_absent 138 = .ok (.istore 7, 2) := by decide +kernel
theorem dX5_absent_140 : decode cX5_absent 140 = .ok (.iload 8, 2) := by decide +kernel
theorem dX5_absent_142 : decode cX5_absent 142 = .ok (.iload 5, 2) := by decide +kernel
theorem dX5_absent_144 : decode cX5_absent 144 = .ok (.invokestatic 216, 3) := by decide +kernel
theorem dX5_absent_147 : decode cX5_absent 147 = .ok (.istore 8, 2) := by decide +kernel
theorem dX5_absent_149 : decode cX5_absent 149 = .ok (.iload 8, 2) := by decide +kernel
theorem dX5_absent_151 : decode cX5_absent 151 = .ok (.ifCond .ne 6, 3) := by decide +kernel
theorem dX5_absent_154 : decode cX5_absent 154 = .ok (.goto 9, 3) := by decide +kernel
theorem dX5_absent_157 : decode cX5_absent 157 = .ok (.iinc 9 1, 3) := by decide +kernel
theorem dX5_absent_160 : decode cX5_absent 160 = .ok (.goto (-93), 3) := by decide +kernel
theorem dX5_absent_163 : decode cX5_absent 163 = .ok (.bipush 10, 2) := by decide +kernel
theorem dX5_absent_165 : decode cX5_absent 165 = .ok (.iload 6, 2) := by decide +kernel
theorem dX5_absent_167 : decode cX5_absent 167 = .ok (.invokestatic 243, 3) := by decide +kernel
theorem dX5_absent_170 : decode cX5_absent 170 = .ok (.istore 9, 2) := by decide +kernel
theorem dX5_absent_172 : decode cX5_absent 172 = .ok (.iload 7, 2) := by decide +kernel
theorem dX5_absent_174 : decode cX5_absent 174 = .ok (.iload 9, 2) := by decide +kernel
theorem dX5_absent_176 : decode cX5_absent 176 = .ok (.invokestatic 246, 3) := by decide +kernel
theorem dX5_absent_179 : decode cX5_absent 179 = .ok (.istore 10, 2) := by decide +kernel
theorem dX5_absent_181 : decode cX5_absent 181 = .ok (.iload 4, 2) := by decide +kernel
theorem dX5_absent_183 : decode cX5_absent 183 = .ok (.ifCond .ne 11, 3) := by decide +kernel
theorem dX5_absent_186 : decode cX5_absent 186 = .ok (.iload 7, 2) := by decide +kernel
theorem dX5_absent_188 : decode cX5_absent 188 = .ok (.iload 10, 2) := by decide +kernel
theorem dX5_absent_190 : decode cX5_absent 190 = .ok (.idiv, 1) := by decide +kernel
theorem dX5_absent_191 : decode cX5_absent 191 = .ok (.goto 8, 3) := by decide +kernel
theorem dX5_absent_194 : decode cX5_absent 194 = .ok (.iload 9, 2) := by decide +kernel
theorem dX5_absent_196 : decode cX5_absent 196 = .ok (.iload 10, 2) := by decide +kernel
theorem dX5_absent_198 : decode cX5_absent 198 = .ok (.idiv, 1) := by decide +kernel
theorem dX5_absent_199 : decode cX5_absent 199 = .ok (.ireturn, 1) := by decide +kernel
theorem dX5_drawn_0 : decode cX5_drawn 0 = .ok (.aload_n 0, 1) := by decide +kernel
theorem dX5_drawn_1 : decode cX5_drawn 1 = .ok (.invokevirtual 136, 3) := by decide +kernel
theorem dX5_drawn_4 : decode cX5_drawn 4 = .ok (.ifCond .eq 6, 3) := by decide +kernel
theorem dX5_drawn_7 : decode cX5_drawn 7 = .ok (.ldc 140, 2) := by decide +kernel
theorem dX5_drawn_9 : decode cX5_drawn 9 = .ok (.ireturn, 1) := by decide +kernel
theorem dX5_drawn_10 : decode cX5_drawn 10 = .ok (.iload_n 1, 1) := by decide +kernel
theorem dX5_drawn_11 : decode cX5_drawn 11 = .ok (.iconst 0, 1) := by decide +kernel
theorem dX5_drawn_12 : decode cX5_drawn 12 = .ok (.bipush 60, 2) := by decide +kernel
theorem dX5_drawn_14 : decode cX5_drawn 14 = .ok (.invokestatic 69, 3) := by decide +kernel
theorem dX5_drawn_17 : decode cX5_drawn 17 = .ok (.ifCond .ne 22, 3) := by decide +kernel
theorem dX5_drawn_20 : decode cX5_drawn 20 = .ok (.iload_n 2, 1) := by decide +kernel
theorem dX5_drawn_21 : decode cX5_drawn 21 = .ok (.iconst 1, 1) := by decide +kernel
theorem dX5_drawn_22 : decode cX5_drawn 22 = .ok (.ldc 249, 2) := by decide +kernel
theorem dX5_drawn_24 : decode cX5_drawn 24 = .ok (.invokestatic 69, 3) := by decide +kernel
theorem dX5_drawn_27 : decode cX5_drawn 27 = .ok (.ifCond .ne 12, 3) := by decide +kernel
theorem dX5_drawn_30 : decode cX5_drawn 30 = .ok (.iload_n 3, 1) := by decide +kernel
theorem dX5_drawn_31 : decode cX5_drawn 31 = .ok (.iconst 0, 1) := by decide +kernel
theorem dX5_drawn_32 : decode cX5_drawn 32 = .ok (.iconst 1, 1) := by decide +kernel
theorem dX5_drawn_33 : decode cX5_drawn 33 = .ok (.invokestatic 69, 3) := by decide +kernel
theorem dX5_drawn_36 : decode cX5_drawn 36 = .ok (.ifCond .eq 6, 3) := by decide +kernel
theorem dX5_drawn_39 : decode cX5_drawn 39 = .ok (.ldc 73, 2) := by decide +kernel
theorem dX5_drawn_41 : decode cX5_drawn 41 = .ok (.ireturn, 1) := by decide +kernel
theorem dX5_drawn_42 : decode cX5_drawn 42 = .ok (.aload_n 0, 1) := by decide +kernel
theorem dX5_drawn_43 : decode cX5_drawn 43 = .ok (.getfield 47, 3) := by decide +kernel
theorem dX5_drawn_46 : decode cX5_drawn 46 = .ok (.aload_n 0, 1) := by decide +kernel
theorem dX5_drawn_47 : decode cX5_drawn 47 = .ok (.getfield 25, 3) := by decide +kernel
theorem dX5_drawn_50 : decode cX5_drawn 50 = .ok (.invokevirtual 123, 3) := by decide +kernel
theorem dX5_drawn_53 : decode cX5_drawn 53 = .ok (.iload_n 2, 1) := by decide +kernel
theorem dX5_drawn_54 : decode cX5_drawn 54 = .ok (.i2l, 1) := by decide +kernel
theorem dX5_drawn_55 : decode cX5_drawn 55 = .ok (.lstore 4, 2) := by decide +kernel
theorem dX5_drawn_57 : decode cX5_drawn 57 = .ok (.iconst 0, 1) := by decide +kernel
theorem dX5_drawn_58 : decode cX5_drawn 58 = .ok (.istore 6, 2) := by decide +kernel
theorem dX5_drawn_60 : decode cX5_drawn 60 = .ok (.iconst 0, 1) := by decide +kernel
theorem dX5_drawn_61 : decode cX5_drawn 61 = .ok (.istore 7, 2) := by decide +kernel
theorem dX5_drawn_63 : decode cX5_drawn 63 = .ok (.iload 7, 2) := by decide +kernel
theorem dX5_drawn_65 : decode cX5_drawn 65 = .ok (.iload_n 1, 1) := by decide +kernel
theorem dX5_drawn_66 : decode cX5_drawn 66 = .ok (.if_icmp .ge 43, 3) := by decide +kernel
theorem dX5_drawn_69 : decode cX5_drawn 69 = .ok (.lload 4, 2) := by decide +kernel
theorem dX5_drawn_71 : decode cX5_drawn 71 = .ok (.ldc2_w 250, 3) := by decide +kernel
theorem dX5_drawn_74 : decode cX5_drawn 74 = .ok (.lmul, 1) := by decide +kernel
theorem dX5_drawn_75 : decode cX5_drawn 75 = .ok (.ldc2_w 252, 3) := by decide +kernel
theorem dX5_drawn_78 : decode cX5_drawn 78 = .ok (.lrem, 1) := by decide +kernel
theorem dX5_drawn_79 : decode cX5_drawn 79 = .ok (.lstore 4, 2) := by decide +kernel
theorem dX5_drawn_81 : decode cX5_drawn 81 = .ok (.aload_n 0, 1) := by decide +kernel
theorem dX5_drawn_82 : decode cX5_drawn 82 = .ok (.getfield 47, 3) := by decide +kernel
theorem dX5_drawn_85 : decode cX5_drawn 85 = .ok (.lload 4, 2) := by decide +kernel
theorem dX5_drawn_87 : decode cX5_drawn 87 = .ok (.l2i, 1) := by decide +kernel
theorem dX5_drawn_88 : decode cX5_drawn 88 = .ok (.invokevirtual 254, 3) := by decide +kernel
theorem dX5_drawn_91 : decode cX5_drawn 91 = .ok (.iload 6, 2) := by decide +kernel
theorem dX5_drawn_93 : decode cX5_drawn 93 = .ok (.aload_n 0, 1) := by decide +kernel
theorem dX5_drawn_94 : decode cX5_drawn 94 = .ok (.getfield 47, 3) := by decide +kernel
theorem dX5_drawn_97 : decode cX5_drawn 97 = .ok (.invokevirtual 147, 3) := by decide +kernel
theorem dX5_drawn_100 : decode cX5_drawn 100 = .ok (.iadd, 1) := by decide +kernel
theorem dX5_drawn_101 : decode cX5_drawn 101 = .ok (.istore 6, 2) := by decide +kernel
theorem dX5_drawn_103 : decode cX5_drawn 103 = .ok (.iinc 7 1, 3) := by decide +kernel
theorem dX5_drawn_106 : decode cX5_drawn 106 = .ok (.goto (-43), 3) := by decide +kernel
theorem dX5_drawn_109 : decode cX5_drawn 109 = .ok (.iload_n 3, 1) := by decide +kernel
theorem dX5_drawn_110 : decode cX5_drawn 110 = .ok (.ifCond .ne 8, 3) := by decide +kernel
theorem dX5_drawn_113 : decode cX5_drawn 113 = .ok (.iload 6, 2) := by decide +kernel
theorem dX5_drawn_115 : decode cX5_drawn 115 = .ok (.goto 12, 3) := by decide +kernel
theorem dX5_drawn_118 : decode cX5_drawn 118 = .ok (.aload_n 0, 1) := by decide +kernel
theorem dX5_drawn_119 : decode cX5_drawn 119 = .ok (.getfield 47, 3) := by decide +kernel
theorem dX5_drawn_122 : decode cX5_drawn 122 = .ok (.bipush 99, 2) := by decide +kernel
theorem dX5_drawn_124 : decode cX5_drawn 124 = .ok (.invokevirtual 151, 3) := by decide +kernel
theorem dX5_drawn_127 : decode cX5_drawn 127 = .ok (.ireturn, 1) := by decide +kernel
theorem dX5_image_0 : decode cX5_image 0 = .ok (.iload_n 1, 1) := by decide +kernel
theorem dX5_image_1 : decode cX5_image 1 = .ok (.iconst 0, 1) := by decide +kernel
theorem dX5_image_2 : decode cX5_image 2 = .ok (.iconst 1, 1) := by decide +kernel
theorem dX5_image_3 : decode cX5_image 3 = .ok (.invokestatic 69, 3) := by decide +kernel
theorem dX5_image_6 : decode cX5_image 6 = .ok (.ifCond .eq 6, 3) := by decide +kernel
theorem dX5_image_9 : decode cX5_image 9 = .ok (.ldc 73, 2) := by decide +kernel
theorem dX5_image_11 : decode cX5_image 11 = .ok (.ireturn, 1) := by decide +kernel
theorem dX5_image_12 : decode cX5_image 12 = .ok (.aload_n 0, 1) := by decide +kernel
theorem dX5_image_13 : decode cX5_image 13 = .ok (.invokevirtual 136, 3) := by decide +kernel
theorem dX5_image_16 : decode cX5_image 16 = .ok (.ifCond .eq 6, 3) := by decide +kernel
theorem dX5_image_19 : decode cX5_image 19 = .ok (.ldc 140, 2) := by decide +kernel
theorem dX5_image_21 : decode cX5_image 21 = .ok (.ireturn, 1) := by decide +kernel
theorem dX5_image_22 : decode cX5_image 22 = .ok (.aload_n 0, 1) := by decide +kernel
theorem dX5_image_23 : decode cX5_image 23 = .ok (.getfield 36, 3) := by decide +kernel
theorem dX5_image_26 : decode cX5_image 26 = .ok (.iload_n 1, 1) := by decide +kernel
theorem dX5_image_27 : decode cX5_image 27 = .ok (.aaload, 1) := by decide +kernel
theorem dX5_image_28 : decode cX5_image 28 = .ok (.aload_n 0, 1) := by decide +kernel
theorem dX5_image_29 : decode cX5_image 29 = .ok (.getfield 25, 3) := by decide +kernel
theorem dX5_image_32 : decode cX5_image 32 = .ok (.invokevirtual 123, 3) := by decide +kernel
theorem dX5_image_35 : decode cX5_image 35 = .ok (.iconst 1, 1) := by decide +kernel
theorem dX5_image_36 : decode cX5_image 36 = .ok (.ireturn, 1) := by decide +kernel
theorem dX5_restore_0 : decode cX5_restore 0 = .ok (.iload_n 1, 1) := by decide +kernel
theorem dX5_restore_1 : decode cX5_restore 1 = .ok (.iconst 0, 1) := by decide +kernel
theorem dX5_restore_2 : decode cX5_restore 2 = .ok (.iconst 1, 1) := by decide +kernel
theorem dX5_restore_3 : decode cX5_restore 3 = .ok (.invokestatic 69, 3) := by decide +kernel
theorem dX5_restore_6 : decode cX5_restore 6 = .ok (.ifCond .eq 6, 3) := by decide +kernel
theorem dX5_restore_9 : decode cX5_restore 9 = .ok (.ldc 73, 2) := by decide +kernel
theorem dX5_restore_11 : decode cX5_restore 11 = .ok (.ireturn, 1) := by decide +kernel
theorem dX5_restore_12 : decode cX5_restore 12 = .ok (.aload_n 0, 1) := by decide +kernel
theorem dX5_restore_13 : decode cX5_restore 13 = .ok (.getfield 36, 3) := by decide +kernel
theorem dX5_restore_16 : decode cX5_restore 16 = .ok (.iload_n 1, 1) := by decide +kernel
theorem dX5_restore_17 : decode cX5_restore 17 = .ok (.aaload, 1) := by decide +kernel
theorem dX5_restore_18 : decode cX5_restore 18 = .ok (.getfield 130, 3) := by decide +kernel
theorem dX5_restore_21 : decode cX5_restore 21 = .ok (.ifCond .ne 6, 3) := by decide +kernel
theorem dX5_restore_24 : decode cX5_restore 24 = .ok (.ldc 140, 2) := by decide +kernel
theorem dX5_restore_26 : decode cX5_restore 26 = .ok (.ireturn, 1) := by decide +kernel
theorem dX5_restore_27 : decode cX5_restore 27 = .ok (.aload_n 0, 1) := by decide +kernel
theorem dX5_restore_28 : decode cX5_restore 28 = .ok (.getfield 25, 3) := by decide +kernel
theorem dX5_restore_31 : decode cX5_restore 31 = .ok (.aload_n 0, 1) := by decide +kernel
theorem dX5_restore_32 : decode cX5_restore 32 = .ok (.getfield 36, 3) := by decide +kernel
theorem dX5_restore_35 : decode cX5_restore 35 = .ok (.iload_n 1, 1) := by decide +kernel
theorem dX5_restore_36 : decode cX5_restore 36 = .ok (.aaload, 1) := by decide +kernel
theorem dX5_restore_37 : decode cX5_restore 37 = .ok (.invokevirtual 123, 3) := by decide +kernel
theorem dX5_restore_40 : decode cX5_restore 40 = .ok (.aload_n 0, 1) := by decide +kernel
theorem dX5_restore_41 : decode cX5_restore 41 = .ok (.getfield 32, 3) := by decide +kernel
theorem dX5_restore_44 : decode cX5_restore 44 = .ok (.invokevirtual 127, 3) := by decide +kernel
theorem dX5_restore_47 : decode cX5_restore 47 = .ok (.iconst 1, 1) := by decide +kernel
theorem dX5_restore_48 : decode cX5_restore 48 = .ok (.ireturn, 1) := by decide +kernel
theorem dX5_kind_0 : decode cX5_kind 0 = .ok (.aload_n 0, 1) := by decide +kernel
theorem dX5_kind_1 : decode cX5_kind 1 = .ok (.iload_n 1, 1) := by decide +kernel
theorem dX5_kind_2 : decode cX5_kind 2 = .ok (.invokevirtual 157, 3) := by decide +kernel
theorem dX5_kind_5 : decode cX5_kind 5 = .ok (.ifCond .eq 8, 3) := by decide +kernel
theorem dX5_kind_8 : decode cX5_kind 8 = .ok (.ldc 73, 2) := by decide +kernel
theorem dX5_kind_10 : decode cX5_kind 10 = .ok (.goto 12, 3) := by decide +kernel
theorem dX5_kind_13 : decode cX5_kind 13 = .ok (.aload_n 0, 1) := by decide +kernel
theorem dX5_kind_14 : decode cX5_kind 14 = .ok (.getfield 25, 3) := by decide +kernel
theorem dX5_kind_17 : decode cX5_kind 17 = .ok (.getfield 257, 3) := by decide +kernel
theorem dX5_kind_20 : decode cX5_kind 20 = .ok (.iload_n 1, 1) := by decide +kernel
theorem dX5_kind_21 : decode cX5_kind 21 = .ok (.iaload, 1) := by decide +kernel
theorem dX5_kind_22 : decode cX5_kind 22 = .ok (.ireturn, 1) := by decide +kernel
theorem dX5_as_0 : decode cX5_as 0 = .ok (.aload_n 0, 1) := by decide +kernel
theorem dX5_as_1 : decode cX5_as 1 = .ok (.iload_n 1, 1) := by decide +kernel
theorem dX5_as_2 : decode cX5_as 2 = .ok (.invokevirtual 157, 3) := by decide +kernel
theorem dX5_as_5 : decode cX5_as 5 = .ok (.ifCond .ne 12, 3) := by decide +kernel
theorem dX5_as_8 : decode cX5_as 8 = .ok (.iload_n 2, 1) := by decide +kernel
theorem dX5_as_9 : decode cX5_as 9 = .ok (.iconst 0, 1) := by decide +kernel
theorem dX5_as_10 : decode cX5_as 10 = .ok (.iconst 5, 1) := by decide +kernel
theorem dX5_as_11 : decode cX5_as 11 = .ok (.invokestatic 69, 3) := by decide +kernel
theorem dX5_as_14 : decode cX5_as 14 = .ok (.ifCond .eq 6, 3) := by decide +kernel
theorem dX5_as_17 : decode cX5_as 17 = .ok (.ldc 73, 2) := by decide +kernel
theorem dX5_as_19 : decode cX5_as 19 = .ok (.ireturn, 1) := by decide +kernel
theorem dX5_as_20 : decode cX5_as 20 = .ok (.aload_n 0, 1) := by decide +kernel
theorem dX5_as_21 : decode cX5_as 21 = .ok (.getfield 25, 3) := by decide +kernel
theorem dX5_as_24 : decode cX5_as 24 = .ok (.getfield 257, 3) := by decide +kernel
theorem dX5_as_27 : decode cX5_as 27 = .ok (.iload_n 1, 1) := by decide +kernel
theorem dX5_as_28 : decode cX5_as 28 = .ok (.iaload, 1) := by decide +kernel
theorem dX5_as_29 : decode cX5_as 29 = .ok (.istore_n 3, 1) := by decide +kernel
theorem dX5_as_30 : decode cX5_as 30 = .ok (.iconst 0, 1) := by decide +kernel
theorem dX5_as_31 : decode cX5_as 31 = .ok (.istore 4, 2) := by decide +kernel
theorem dX5_as_33 : decode cX5_as 33 = .ok (.iload 4, 2) := by decide +kernel
theorem dX5_as_35 : decode cX5_as 35 = .ok (.iconst 5, 1) := by decide +kernel
theorem dX5_as_36 : decode cX5_as 36 = .ok (.if_icmp .gt 30, 3) := by decide +kernel
theorem dX5_as_39 : decode cX5_as 39 = .ok (.iload_n 3, 1) := by decide +kernel
theorem dX5_as_40 : decode cX5_as 40 = .ok (.ifCond .lt 26, 3) := by decide +kernel
theorem dX5_as_43 : decode cX5_as 43 = .ok (.iload_n 3, 1) := by decide +kernel
theorem dX5_as_44 : decode cX5_as 44 = .ok (.iload_n 2, 1) := by decide +kernel
theorem dX5_as_45 : decode cX5_as 45 = .ok (.if_icmp .ne 9, 3) := by decide +kernel
theorem dX5_as_48 : decode cX5_as 48 = .ok (.aload_n 0, 1) := by decide +kernel
theorem dX5_as_49 : decode cX5_as 49 = .ok (.iload_n 1, 1) := by decide +kernel
theorem dX5_as_50 : decode cX5_as 50 = .ok (.invokevirtual 82, 3) := by decide +kernel
theorem dX5_as_53 : decode cX5_as 53 = .ok (.ireturn, 1) := by decide +kernel
theorem dX5_as_54 : decode cX5_as 54 = .ok (.getstatic 260, 3) := by decide +kernel
theorem dX5_as_57 : decode cX5_as 57 = .ok (.iload_n 3, 1) := by decide +kernel
theorem dX5_as_58 : decode cX5_as 58 = .ok (.iaload, 1) := by decide +kernel
theorem dX5_as_59 : decode cX5_as 59 = .ok (.istore_n 3, 1) := by decide +kernel
theorem dX5_as_60 : decode cX5_as 60 = .ok (.iinc 4 1, 3) := by decide +kernel
theorem dX5_as_63 : decode cX5_as 63 = .ok (.goto (-30), 3) := by decide +kernel
theorem dX5_as_66 : decode cX5_as 66 = .ok (.aload_n 0, 1) := by decide +kernel
theorem dX5_as_67 : decode cX5_as 67 = .ok (.iconst 3, 1) := by decide +kernel
theorem dX5_as_68 : decode cX5_as 68 = .ok (.invokevirtual 74, 3) := by decide +kernel
theorem dX5_as_71 : decode cX5_as 71 = .ok (.ireturn, 1) := by decide +kernel
theorem dX5_ask_0 : decode cX5_ask 0 = .ok (.aload_n 0, 1) := by decide +kernel
theorem dX5_ask_1 : decode cX5_ask 1 = .ok (.iload_n 1, 1) := by decide +kernel
theorem dX5_ask_2 : decode cX5_ask 2 = .ok (.invokevirtual 157, 3) := by decide +kernel
theorem dX5_ask_5 : decode cX5_ask 5 = .ok (.ifCond .ne 12, 3) := by decide +kernel
theorem dX5_ask_8 : decode cX5_ask 8 = .ok (.iload_n 2, 1) := by decide +kernel
theorem dX5_ask_9 : decode cX5_ask 9 = .ok (.iconst 0, 1) := by decide +kernel
theorem dX5_ask_10 : decode cX5_ask 10 = .ok (.iconst 1, 1) := by decide +kernel
theorem dX5_ask_11 : decode cX5_ask 11 = .ok (.invokestatic 69, 3) := by decide +kernel
theorem dX5_ask_14 : decode cX5_ask 14 = .ok (.ifCond .eq 6, 3) := by decide +kernel
end
section
theorem dX5_ask_17 : decode cX5_ask 17 = .ok (.ldc 73, 2) := by decide +kernel
theorem dX5_ask_19 : decode cX5_ask 19 = .ok (.ireturn, 1) := by decide +kernel
theorem dX5_ask_20 : decode cX5_ask 20 = .ok (.aload_n 0, 1) := by decide +kernel
theorem dX5_ask_21 : decode cX5_ask 21 = .ok (.getfield 43, 3) := by decide +kernel
theorem dX5_ask_24 : decode cX5_ask 24 = .ok (.iconst 0, 1) := by decide +kernel
theorem dX5_ask_25 : decode cX5_ask 25 = .ok (.putfield 263, 3) := by decide +kernel
theorem dX5_ask_28 : decode cX5_ask 28 = .ok (.aload_n 0, 1) := by decide +kernel
theorem dX5_ask_29 : decode cX5_ask 29 = .ok (.getfield 25, 3) := by decide +kernel
theorem dX5_ask_32 : decode cX5_ask 32 = .ok (.getfield 257, 3) := by decide +kernel
theorem dX5_ask_35 : decode cX5_ask 35 = .ok (.iload_n 1, 1) := by decide +kernel
theorem dX5_ask_36 : decode cX5_ask 36 = .ok (.iaload, 1) := by decide +kernel
theorem dX5_ask_37 : decode cX5_ask 37 = .ok (.iload_n 2, 1) := by decide +kernel
theorem dX5_ask_38 : decode cX5_ask 38 = .ok (.invokestatic 264, 3) := by decide +kernel
theorem dX5_ask_41 : decode cX5_ask 41 = .ok (.aload_n 0, 1) := by decide +kernel
theorem dX5_ask_42 : decode cX5_ask 42 = .ok (.getfield 25, 3) := by decide +kernel
theorem dX5_ask_45 : decode cX5_ask 45 = .ok (.iload_n 1, 1) := by decide +kernel
theorem dX5_ask_46 : decode cX5_ask 46 = .ok (.aload_n 0, 1) := by decide +kernel
theorem dX5_ask_47 : decode cX5_ask 47 = .ok (.getfield 43, 3) := by decide +kernel
theorem dX5_ask_50 : decode cX5_ask 50 = .ok (.iconst 0, 1) := by decide +kernel
theorem dX5_ask_51 : decode cX5_ask 51 = .ok (.invokestatic 267, 3) := by decide +kernel
theorem dX5_ask_54 : decode cX5_ask 54 = .ok (.ireturn, 1) := by decide +kernel
theorem dX5_trace_0 : decode cX5_trace 0 = .ok (.iload_n 1, 1) := by decide +kernel
theorem dX5_trace_1 : decode cX5_trace 1 = .ok (.iconst 0, 1) := by decide +kernel
theorem dX5_trace_2 : decode cX5_trace 2 = .ok (.aload_n 0, 1) := by decide +kernel
theorem dX5_trace_3 : decode cX5_trace 3 = .ok (.getfield 43, 3) := by decide +kernel
theorem dX5_trace_6 : decode cX5_trace 6 = .ok (.getfield 263, 3) := by decide +kernel
theorem dX5_trace_9 : decode cX5_trace 9 = .ok (.iconst 1, 1) := by decide +kernel
theorem dX5_trace_10 : decode cX5_trace 10 = .ok (.isub, 1) := by decide +kernel
theorem dX5_trace_11 : decode cX5_trace 11 = .ok (.invokestatic 69, 3) := by decide +kernel
theorem dX5_trace_14 : decode cX5_trace 14 = .ok (.ifCond .eq 8, 3) := by decide +kernel
theorem dX5_trace_17 : decode cX5_trace 17 = .ok (.ldc 121, 2) := by decide +kernel
theorem dX5_trace_19 : decode cX5_trace 19 = .ok (.goto 12, 3) := by decide +kernel
theorem dX5_trace_22 : decode cX5_trace 22 = .ok (.aload_n 0, 1) := by decide +kernel
theorem dX5_trace_23 : decode cX5_trace 23 = .ok (.getfield 43, 3) := by decide +kernel
theorem dX5_trace_26 : decode cX5_trace 26 = .ok (.getfield 271, 3) := by decide +kernel
theorem dX5_trace_29 : decode cX5_trace 29 = .ok (.iload_n 1, 1) := by decide +kernel
theorem dX5_trace_30 : decode cX5_trace 30 = .ok (.iaload, 1) := by decide +kernel
theorem dX5_trace_31 : decode cX5_trace 31 = .ok (.ireturn, 1) := by decide +kernel
theorem dX5_count_0 : decode cX5_count 0 = .ok (.iload_n 1, 1) := by decide +kernel
theorem dX5_count_1 : decode cX5_count 1 = .ok (.tableswitch 154 0 9 #[55, 60, 68, 76, 84, 92, 101, 128, 138, 146], 55) := by decide +kernel
theorem dX5_count_56 : decode cX5_count 56 = .ok (.aload_n 0, 1) := by decide +kernel
theorem dX5_count_57 : decode cX5_count 57 = .ok (.invokevirtual 274, 3) := by decide +kernel
theorem dX5_count_60 : decode cX5_count 60 = .ok (.ireturn, 1) := by decide +kernel
theorem dX5_count_61 : decode cX5_count 61 = .ok (.aload_n 0, 1) := by decide +kernel
theorem dX5_count_62 : decode cX5_count 62 = .ok (.getfield 25, 3) := by decide +kernel
theorem dX5_count_65 : decode cX5_count 65 = .ok (.getfield 130, 3) := by decide +kernel
theorem dX5_count_68 : decode cX5_count 68 = .ok (.ireturn, 1) := by decide +kernel
theorem dX5_count_69 : decode cX5_count 69 = .ok (.aload_n 0, 1) := by decide +kernel
theorem dX5_count_70 : decode cX5_count 70 = .ok (.getfield 25, 3) := by decide +kernel
theorem dX5_count_73 : decode cX5_count 73 = .ok (.getfield 191, 3) := by decide +kernel
theorem dX5_count_76 : decode cX5_count 76 = .ok (.ireturn, 1) := by decide +kernel
theorem dX5_count_77 : decode cX5_count 77 = .ok (.aload_n 0, 1) := by decide +kernel
theorem dX5_count_78 : decode cX5_count 78 = .ok (.getfield 25, 3) := by decide +kernel
theorem dX5_count_81 : decode cX5_count 81 = .ok (.getfield 141, 3) := by decide +kernel
theorem dX5_count_84 : decode cX5_count 84 = .ok (.ireturn, 1) := by decide +kernel
theorem dX5_count_85 : decode cX5_count 85 = .ok (.aload_n 0, 1) := by decide +kernel
theorem dX5_count_86 : decode cX5_count 86 = .ok (.getfield 25, 3) := by decide +kernel
theorem dX5_count_89 : decode cX5_count 89 = .ok (.getfield 154, 3) := by decide +kernel
theorem dX5_count_92 : decode cX5_count 92 = .ok (.ireturn, 1) := by decide +kernel
theorem dX5_count_93 : decode cX5_count 93 = .ok (.aload_n 0, 1) := by decide +kernel
theorem dX5_count_94 : decode cX5_count 94 = .ok (.getfield 25, 3) := by decide +kernel
theorem dX5_count_97 : decode cX5_count 97 = .ok (.iconst (-1), 1) := by decide +kernel
theorem dX5_count_98 : decode cX5_count 98 = .ok (.invokevirtual 151, 3) := by decide +kernel
theorem dX5_count_101 : decode cX5_count 101 = .ok (.ireturn, 1) := by decide +kernel
theorem dX5_count_102 : decode cX5_count 102 = .ok (.aload_n 0, 1) := by decide +kernel
theorem dX5_count_103 : decode cX5_count 103 = .ok (.getfield 25, 3) := by decide +kernel
theorem dX5_count_106 : decode cX5_count 106 = .ok (.getfield 130, 3) := by decide +kernel
theorem dX5_count_109 : decode cX5_count 109 = .ok (.aload_n 0, 1) := by decide +kernel
theorem dX5_count_110 : decode cX5_count 110 = .ok (.getfield 25, 3) := by decide +kernel
theorem dX5_count_113 : decode cX5_count 113 = .ok (.iconst (-1), 1) := by decide +kernel
theorem dX5_count_114 : decode cX5_count 114 = .ok (.invokevirtual 151, 3) := by decide +kernel
theorem dX5_count_117 : decode cX5_count 117 = .ok (.isub, 1) := by decide +kernel
theorem dX5_count_118 : decode cX5_count 118 = .ok (.aload_n 0, 1) := by decide +kernel
theorem dX5_count_119 : decode cX5_count 119 = .ok (.getfield 25, 3) := by decide +kernel
theorem dX5_count_122 : decode cX5_count 122 = .ok (.bipush 99, 2) := by decide +kernel
theorem dX5_count_124 : decode cX5_count 124 = .ok (.invokevirtual 151, 3) := by decide +kernel
theorem dX5_count_127 : decode cX5_count 127 = .ok (.isub, 1) := by decide +kernel
theorem dX5_count_128 : decode cX5_count 128 = .ok (.ireturn, 1) := by decide +kernel
theorem dX5_count_129 : decode cX5_count 129 = .ok (.aload_n 0, 1) := by decide +kernel
theorem dX5_count_130 : decode cX5_count 130 = .ok (.getfield 25, 3) := by decide +kernel
theorem dX5_count_133 : decode cX5_count 133 = .ok (.bipush 99, 2) := by decide +kernel
theorem dX5_count_135 : decode cX5_count 135 = .ok (.invokevirtual 151, 3) := by decide +kernel
theorem dX5_count_138 : decode cX5_count 138 = .ok (.ireturn, 1) := by decide +kernel
theorem dX5_count_139 : decode cX5_count 139 = .ok (.aload_n 0, 1) := by decide +kernel
theorem dX5_count_140 : decode cX5_count 140 = .ok (.getfield 32, 3) := by decide +kernel
theorem dX5_count_143 : decode cX5_count 143 = .ok (.getfield 172, 3) := by decide +kernel
theorem dX5_count_146 : decode cX5_count 146 = .ok (.ireturn, 1) := by decide +kernel
theorem dX5_count_147 : decode cX5_count 147 = .ok (.aload_n 0, 1) := by decide +kernel
theorem dX5_count_148 : decode cX5_count 148 = .ok (.getfield 18, 3) := by decide +kernel
theorem dX5_count_151 : decode cX5_count 151 = .ok (.getfield 111, 3) := by decide +kernel
theorem dX5_count_154 : decode cX5_count 154 = .ok (.ireturn, 1) := by decide +kernel
theorem dX5_count_155 : decode cX5_count 155 = .ok (.ldc 73, 2) := by decide +kernel
theorem dX5_count_157 : decode cX5_count 157 = .ok (.ireturn, 1) := by decide +kernel
theorem dX5_status_0 : decode cX5_status 0 = .ok (.aload_n 0, 1) := by decide +kernel
theorem dX5_status_1 : decode cX5_status 1 = .ok (.getfield 60, 3) := by decide +kernel
theorem dX5_status_4 : decode cX5_status 4 = .ok (.ireturn, 1) := by decide +kernel
theorem dX5_outside_0 : decode cX5_outside 0 = .ok (.iload_n 0, 1) := by decide +kernel
theorem dX5_outside_1 : decode cX5_outside 1 = .ok (.iload_n 1, 1) := by decide +kernel
theorem dX5_outside_2 : decode cX5_outside 2 = .ok (.if_icmp .lt 8, 3) := by decide +kernel
theorem dX5_outside_5 : decode cX5_outside 5 = .ok (.iload_n 0, 1) := by decide +kernel
theorem dX5_outside_6 : decode cX5_outside 6 = .ok (.iload_n 2, 1) := by decide +kernel
theorem dX5_outside_7 : decode cX5_outside 7 = .ok (.if_icmp .le 7, 3) := by decide +kernel
theorem dX5_outside_10 : decode cX5_outside 10 = .ok (.iconst 1, 1) := by decide +kernel
theorem dX5_outside_11 : decode cX5_outside 11 = .ok (.goto 4, 3) := by decide +kernel
theorem dX5_outside_14 : decode cX5_outside 14 = .ok (.iconst 0, 1) := by decide +kernel
theorem dX5_outside_15 : decode cX5_outside 15 = .ok (.ireturn, 1) := by decide +kernel
theorem dX5_oneIf_0 : decode cX5_oneIf 0 = .ok (.iload_n 0, 1) := by decide +kernel
theorem dX5_oneIf_1 : decode cX5_oneIf 1 = .ok (.ifCond .eq 7, 3) := by decide +kernel
theorem dX5_oneIf_4 : decode cX5_oneIf 4 = .ok (.iconst 1, 1) := by decide +kernel
theorem dX5_oneIf_5 : decode cX5_oneIf 5 = .ok (.goto 4, 3) := by decide +kernel
theorem dX5_oneIf_8 : decode cX5_oneIf 8 = .ok (.iconst 0, 1) := by decide +kernel
theorem dX5_oneIf_9 : decode cX5_oneIf 9 = .ok (.ireturn, 1) := by decide +kernel
theorem dX5_noRow_0 : decode cX5_noRow 0 = .ok (.iload_n 0, 1) := by decide +kernel
theorem dX5_noRow_1 : decode cX5_noRow 1 = .ok (.iconst 0, 1) := by decide +kernel
theorem dX5_noRow_2 : decode cX5_noRow 2 = .ok (.bipush 7, 2) := by decide +kernel
theorem dX5_noRow_4 : decode cX5_noRow 4 = .ok (.invokestatic 69, 3) := by decide +kernel
theorem dX5_noRow_7 : decode cX5_noRow 7 = .ok (.ireturn, 1) := by decide +kernel
theorem dX5_noStair_0 : decode cX5_noStair 0 = .ok (.aload_n 0, 1) := by decide +kernel
theorem dX5_noStair_1 : decode cX5_noStair 1 = .ok (.getfield 25, 3) := by decide +kernel
theorem dX5_noStair_4 : decode cX5_noStair 4 = .ok (.getfield 130, 3) := by decide +kernel
theorem dX5_noStair_7 : decode cX5_noStair 7 = .ok (.ifCond .ne 7, 3) := by decide +kernel
theorem dX5_noStair_10 : decode cX5_noStair 10 = .ok (.iconst 1, 1) := by decide +kernel
theorem dX5_noStair_11 : decode cX5_noStair 11 = .ok (.goto 4, 3) := by decide +kernel
theorem dX5_noStair_14 : decode cX5_noStair 14 = .ok (.iconst 0, 1) := by decide +kernel
theorem dX5_noStair_15 : decode cX5_noStair 15 = .ok (.ireturn, 1) := by decide +kernel
theorem dX5_noRider_0 : decode cX5_noRider 0 = .ok (.iload_n 1, 1) := by decide +kernel
theorem dX5_noRider_1 : decode cX5_noRider 1 = .ok (.iconst 0, 1) := by decide +kernel
theorem dX5_noRider_2 : decode cX5_noRider 2 = .ok (.aload_n 0, 1) := by decide +kernel
theorem dX5_noRider_3 : decode cX5_noRider 3 = .ok (.getfield 25, 3) := by decide +kernel
theorem dX5_noRider_6 : decode cX5_noRider 6 = .ok (.getfield 130, 3) := by decide +kernel
theorem dX5_noRider_9 : decode cX5_noRider 9 = .ok (.iconst 1, 1) := by decide +kernel
theorem dX5_noRider_10 : decode cX5_noRider 10 = .ok (.isub, 1) := by decide +kernel
theorem dX5_noRider_11 : decode cX5_noRider 11 = .ok (.invokestatic 69, 3) := by decide +kernel
theorem dX5_noRider_14 : decode cX5_noRider 14 = .ok (.ireturn, 1) := by decide +kernel
theorem dX5_found_0 : decode cX5_found 0 = .ok (.aload_n 0, 1) := by decide +kernel
theorem dX5_found_1 : decode cX5_found 1 = .ok (.iload_n 1, 1) := by decide +kernel
theorem dX5_found_2 : decode cX5_found 2 = .ok (.putfield 60, 3) := by decide +kernel
theorem dX5_found_5 : decode cX5_found 5 = .ok (.ldc_w 277, 3) := by decide +kernel
theorem dX5_found_8 : decode cX5_found 8 = .ok (.iload_n 1, 1) := by decide +kernel
theorem dX5_found_9 : decode cX5_found 9 = .ok (.isub, 1) := by decide +kernel
theorem dX5_found_10 : decode cX5_found 10 = .ok (.ireturn, 1) := by decide +kernel
theorem dX5_fine_0 : decode cX5_fine 0 = .ok (.aload_n 0, 1) := by decide +kernel
theorem dX5_fine_1 : decode cX5_fine 1 = .ok (.iconst 0, 1) := by decide +kernel
theorem dX5_fine_2 : decode cX5_fine 2 = .ok (.putfield 60, 3) := by decide +kernel
theorem dX5_fine_5 : decode cX5_fine 5 = .ok (.iload_n 1, 1) := by decide +kernel
theorem dX5_fine_6 : decode cX5_fine 6 = .ok (.ireturn, 1) := by decide +kernel
theorem dX5_howManyRows_0 : decode cX5_howManyRows 0 = .ok (.iconst 0, 1) := by decide +kernel
theorem dX5_howManyRows_1 : decode cX5_howManyRows 1 = .ok (.istore_n 1, 1) := by decide +kernel
theorem dX5_howManyRows_2 : decode cX5_howManyRows 2 = .ok (.iconst 0, 1) := by decide +kernel
theorem dX5_howManyRows_3 : decode cX5_howManyRows 3 = .ok (.istore_n 2, 1) := by decide +kernel
theorem dX5_howManyRows_4 : decode cX5_howManyRows 4 = .ok (.iload_n 2, 1) := by decide +kernel
theorem dX5_howManyRows_5 : decode cX5_howManyRows 5 = .ok (.bipush 8, 2) := by decide +kernel
theorem dX5_howManyRows_7 : decode cX5_howManyRows 7 = .ok (.if_icmp .ge 32, 3) := by decide +kernel
theorem dX5_howManyRows_10 : decode cX5_howManyRows 10 = .ok (.iload_n 1, 1) := by decide +kernel
theorem dX5_howManyRows_11 : decode cX5_howManyRows 11 = .ok (.aload_n 0, 1) := by decide +kernel
theorem dX5_howManyRows_12 : decode cX5_howManyRows 12 = .ok (.getfield 11, 3) := by decide +kernel
theorem dX5_howManyRows_15 : decode cX5_howManyRows 15 = .ok (.iload_n 2, 1) := by decide +kernel
theorem dX5_howManyRows_16 : decode cX5_howManyRows 16 = .ok (.aaload, 1) := by decide +kernel
theorem dX5_howManyRows_17 : decode cX5_howManyRows 17 = .ok (.getfield 85, 3) := by decide +kernel
theorem dX5_howManyRows_20 : decode cX5_howManyRows 20 = .ok (.ifCond .ne 7, 3) := by decide +kernel
theorem dX5_howManyRows_23 : decode cX5_howManyRows 23 = .ok (.iconst 1, 1) := by decide +kernel
theorem dX5_howManyRows_24 : decode cX5_howManyRows 24 = .ok (.goto 4, 3) := by decide +kernel
theorem dX5_howManyRows_27 : decode cX5_howManyRows 27 = .ok (.iconst 0, 1) := by decide +kernel
theorem dX5_howManyRows_28 : decode cX5_howManyRows 28 = .ok (.invokestatic 181, 3) := by decide +kernel
theorem dX5_howManyRows_31 : decode cX5_howManyRows 31 = .ok (.iadd, 1) := by decide +kernel
theorem dX5_howManyRows_32 : decode cX5_howManyRows 32 = .ok (.istore_n 1, 1) := by decide +kernel
theorem dX5_howManyRows_33 : decode cX5_howManyRows 33 = .ok (.iinc 2 1, 3) := by decide +kernel
theorem dX5_howManyRows_36 : decode cX5_howManyRows 36 = .ok (.goto (-32), 3) := by decide +kernel
theorem dX5_howManyRows_39 : decode cX5_howManyRows 39 = .ok (.iload_n 1, 1) := by decide +kernel
theorem dX5_howManyRows_40 : decode cX5_howManyRows 40 = .ok (.ireturn, 1) := by decide +kernel
theorem dX5_tryTicks_0 : decode cX5_tryTicks 0 = .ok (.aload_n 0, 1) := by decide +kernel
theorem dX5_tryTicks_1 : decode cX5_tryTicks 1 = .ok (.getfield 47, 3) := by decide +kernel
theorem dX5_tryTicks_4 : decode cX5_tryTicks 4 = .ok (.aload_n 0, 1) := by decide +kernel
theorem dX5_tryTicks_5 : decode cX5_tryTicks 5 = .ok (.getfield 25, 3) := by decide +kernel
theorem dX5_tryTicks_8 : decode cX5_tryTicks 8 = .ok (.invokevirtual 123, 3) := by decide +kernel
theorem dX5_tryTicks_11 : decode cX5_tryTicks 11 = .ok (.iconst 0, 1) := by decide +kernel
theorem dX5_tryTicks_12 : decode cX5_tryTicks 12 = .ok (.istore_n 2, 1) := by decide +kernel
theorem dX5_tryTicks_13 : decode cX5_tryTicks 13 = .ok (.iload_n 2, 1) := by decide +kernel
theorem dX5_tryTicks_14 : decode cX5_tryTicks 14 = .ok (.iload_n 1, 1) := by decide +kernel
theorem dX5_tryTicks_15 : decode cX5_tryTicks 15 = .ok (.if_icmp .ge 17, 3) := by decide +kernel
theorem dX5_tryTicks_18 : decode cX5_tryTicks 18 = .ok (.aload_n 0, 1) := by decide +kernel
theorem dX5_tryTicks_19 : decode cX5_tryTicks 19 = .ok (.getfield 47, 3) := by decide +kernel
theorem dX5_tryTicks_22 : decode cX5_tryTicks 22 = .ok (.invokevirtual 147, 3) := by decide +kernel
theorem dX5_tryTicks_25 : decode cX5_tryTicks 25 = .ok (.pop, 1) := by decide +kernel
theorem dX5_tryTicks_26 : decode cX5_tryTicks 26 = .ok (.iinc 2 1, 3) := by decide +kernel
theorem dX5_tryTicks_29 : decode cX5_tryTicks 29 = .ok (.goto (-16), 3) := by decide +kernel
theorem dX5_tryTicks_32 : decode cX5_tryTicks 32 = .ok (.return_, 1) := by decide +kernel
theorem dX5_nextSubset_0 : decode cX5_nextSubset 0 = .ok (.iload_n 0, 1) := by decide +kernel
theorem dX5_nextSubset_1 : decode cX5_nextSubset 1 = .ok (.iload_n 1, 1) := by decide +kernel
theorem dX5_nextSubset_2 : decode cX5_nextSubset 2 = .ok (.isub, 1) := by decide +kernel
theorem dX5_nextSubset_3 : decode cX5_nextSubset 3 = .ok (.iload_n 1, 1) := by decide +kernel
theorem dX5_nextSubset_4 : decode cX5_nextSubset 4 = .ok (.iand, 1) := by decide +kernel
theorem dX5_nextSubset_5 : decode cX5_nextSubset 5 = .ok (.ireturn, 1) := by decide +kernel
theorem dX5_power_0 : decode cX5_power 0 = .ok (.iconst 1, 1) := by decide +kernel
theorem dX5_power_1 : decode cX5_power 1 = .ok (.istore_n 2, 1) := by decide +kernel
theorem dX5_power_2 : decode cX5_power 2 = .ok (.iconst 0, 1) := by decide +kernel
theorem dX5_power_3 : decode cX5_power 3 = .ok (.istore_n 3, 1) := by decide +kernel
theorem dX5_power_4 : decode cX5_power 4 = .ok (.iload_n 3, 1) := by decide +kernel
theorem dX5_power_5 : decode cX5_power 5 = .ok (.iload_n 1, 1) := by decide +kernel
theorem dX5_power_6 : decode cX5_power 6 = .ok (.if_icmp .ge 13, 3) := by decide +kernel
theorem dX5_power_9 : decode cX5_power 9 = .ok (.iload_n 2, 1) := by decide +kernel
theorem dX5_power_10 : decode cX5_power 10 = .ok (.iload_n 0, 1) := by decide +kernel
theorem dX5_power_11 : decode cX5_power 11 = .ok (.imul, 1) := by decide +kernel
theorem dX5_power_12 : decode cX5_power 12 = .ok (.istore_n 2, 1) := by decide +kernel
theorem dX5_power_13 : decode cX5_power 13 = .ok (.iinc 3 1, 3) := by decide +kernel
theorem dX5_power_16 : decode cX5_power 16 = .ok (.goto (-12), 3) := by decide +kernel
theorem dX5_power_19 : decode cX5_power 19 = .ok (.iload_n 2, 1) := by decide +kernel
theorem dX5_power_20 : decode cX5_power 20 = .ok (.ireturn, 1) := by decide +kernel
theorem dX5_greatestDivisor_0 : decode cX5_greatestDivisor 0 = .ok (.iload_n 0, 1) := by decide +kernel
theorem dX5_greatestDivisor_1 : decode cX5_greatestDivisor 1 = .ok (.istore_n 2, 1) := by decide +kernel
theorem dX5_greatestDivisor_2 : decode cX5_greatestDivisor 2 = .ok (.iload_n 1, 1) := by decide +kernel
theorem dX5_greatestDivisor_3 : decode cX5_greatestDivisor 3 = .ok (.istore_n 3, 1) := by decide +kernel
theorem dX5_greatestDivisor_4 : decode cX5_greatestDivisor 4 = .ok (.iconst 0, 1) := by decide +kernel
theorem dX5_greatestDivisor_5 : decode cX5_greatestDivisor 5 = .ok (.istore 4, 2) := by decide +kernel
theorem dX5_greatestDivisor_7 : decode cX5_greatestDivisor 7 = .ok (.iload 4, 2) := by decide +kernel
theorem dX5_greatestDivisor_9 : decode cX5_greatestDivisor 9 = .ok (.bipush 100, 2) := by decide +kernel
theorem dX5_greatestDivisor_11 : decode cX5_greatestDivisor 11 = .ok (.if_icmp .ge 23, 3) := by decide +kernel
theorem dX5_greatestDivisor_14 : decode cX5_greatestDivisor 14 = .ok (.iload_n 3, 1) := by decide +kernel
theorem dX5_greatestDivisor_15 : decode cX5_greatestDivisor 15 = .ok (.ifCond .eq 19, 3) := by decide +kernel
theorem dX5_greatestDivisor_18 : decode cX5_greatestDivisor 18 = .ok (.iload_n 2, 1) := by decide +kernel
theorem dX5_greatestDivisor_19 : decode cX5_greatestDivisor 19 = .ok (.iload_n 3, 1) := by decide +kernel
theorem dX5_greatestDivisor_20 : decode cX5_greatestDivisor 20 = .ok (.irem, 1) := by decide +kernel
theorem dX5_greatestDivisor_21 : decode cX5_greatestDivisor 21 = .ok (.istore 5, 2) := by decide +kernel
theorem dX5_greatestDivisor_23 : decode cX5_greatestDivisor 23 = .ok (.iload_n 3, 1) := by decide +kernel
theorem dX5_greatestDivisor_24 : decode cX5_greatestDivisor 24 = .ok (.istore_n 2, 1) := by decide +kernel
theorem dX5_greatestDivisor_25 : decode cX5_greatestDivisor 25 = .ok (.iload 5, 2) := by decide +kernel
theorem dX5_greatestDivisor_27 : decode cX5_greatestDivisor 27 = .ok (.istore_n 3, 1) := by decide +kernel
theorem dX5_greatestDivisor_28 : decode cX5_greatestDivisor 28 = .ok (.iinc 4 1, 3) := by decide +kernel
theorem dX5_greatestDivisor_31 : decode cX5_greatestDivisor 31 = .ok (.goto (-24), 3) := by decide +kernel
theorem dX5_greatestDivisor_34 : decode cX5_greatestDivisor 34 = .ok (.iload_n 2, 1) := by decide +kernel
theorem dX5_greatestDivisor_35 : decode cX5_greatestDivisor 35 = .ok (.iconst 1, 1) := by decide +kernel
theorem dX5_greatestDivisor_36 : decode cX5_greatestDivisor 36 = .ok (.invokestatic 278, 3) := by decide +kernel
theorem dX5_greatestDivisor_39 : decode cX5_greatestDivisor 39 = .ok (.ireturn, 1) := by decide +kernel
theorem dX5_findPaces_0 : decode cX5_findPaces 0 = .ok (.ldc 121, 2) := by decide +kernel
theorem dX5_findPaces_2 : decode cX5_findPaces 2 = .ok (.istore_n 3, 1) := by decide +kernel
theorem dX5_findPaces_3 : decode cX5_findPaces 3 = .ok (.iconst 3, 1) := by decide +kernel
theorem dX5_findPaces_4 : decode cX5_findPaces 4 = .ok (.iload_n 2, 1) := by decide +kernel
theorem dX5_findPaces_5 : decode cX5_findPaces 5 = .ok (.invokestatic 243, 3) := by decide +kernel
theorem dX5_findPaces_8 : decode cX5_findPaces 8 = .ok (.istore 4, 2) := by decide +kernel
theorem dX5_findPaces_10 : decode cX5_findPaces 10 = .ok (.aload_n 0, 1) := by decide +kernel
theorem dX5_findPaces_11 : decode cX5_findPaces 11 = .ok (.getfield 50, 3) := by decide +kernel
theorem dX5_findPaces_14 : decode cX5_findPaces 14 = .ok (.iconst 0, 1) := by decide +kernel
theorem dX5_findPaces_15 : decode cX5_findPaces 15 = .ok (.aaload, 1) := by decide +kernel
theorem dX5_findPaces_16 : decode cX5_findPaces 16 = .ok (.aload_n 0, 1) := by decide +kernel
theorem dX5_findPaces_17 : decode cX5_findPaces 17 = .ok (.getfield 25, 3) := by decide +kernel
theorem dX5_findPaces_20 : decode cX5_findPaces 20 = .ok (.invokevirtual 123, 3) := by decide +kernel
theorem dX5_findPaces_23 : decode cX5_findPaces 23 = .ok (.iconst 0, 1) := by decide +kernel
theorem dX5_findPaces_24 : decode cX5_findPaces 24 = .ok (.istore 5, 2) := by decide +kernel
theorem dX5_findPaces_26 : decode cX5_findPaces 26 = .ok (.iload 5, 2) := by decide +kernel
theorem dX5_findPaces_28 : decode cX5_findPaces 28 = .ok (.iload 4, 2) := by decide +kernel
theorem dX5_findPaces_30 : decode cX5_findPaces 30 = .ok (.if_icmp .ge 73, 3) := by decide +kernel
theorem dX5_findPaces_33 : decode cX5_findPaces 33 = .ok (.aload_n 0, 1) := by decide +kernel
theorem dX5_findPaces_34 : decode cX5_findPaces 34 = .ok (.aload_n 0, 1) := by decide +kernel
theorem dX5_findPaces_35 : decode cX5_findPaces 35 = .ok (.iload 5, 2) := by decide +kernel
theorem dX5_findPaces_37 : decode cX5_findPaces 37 = .ok (.iload_n 2, 1) := by decide +kernel
theorem dX5_findPaces_38 : decode cX5_findPaces 38 = .ok (.invokevirtual 283, 3) := by decide +kernel
theorem dX5_findPaces_41 : decode cX5_findPaces 41 = .ok (.iload_n 2, 1) := by decide +kernel
theorem dX5_findPaces_42 : decode cX5_findPaces 42 = .ok (.invokevirtual 286, 3) := by decide +kernel
theorem dX5_findPaces_45 : decode cX5_findPaces 45 = .ok (.aload_n 0, 1) := by decide +kernel
theorem dX5_findPaces_46 : decode cX5_findPaces 46 = .ok (.iload_n 2, 1) := by decide +kernel
theorem dX5_findPaces_47 : decode cX5_findPaces 47 = .ok (.invokevirtual 289, 3) := by decide +kernel
theorem dX5_findPaces_50 : decode cX5_findPaces 50 = .ok (.istore 6, 2) := by decide +kernel
theorem dX5_findPaces_52 : decode cX5_findPaces 52 = .ok (.aload_n 0, 1) := by decide +kernel
theorem dX5_findPaces_53 : decode cX5_findPaces 53 = .ok (.getfield 50, 3) := by decide +kernel
theorem dX5_findPaces_56 : decode cX5_findPaces 56 = .ok (.iload_n 2, 1) := by decide +kernel
theorem dX5_findPaces_57 : decode cX5_findPaces 57 = .ok (.aaload, 1) := by decide +kernel
theorem dX5_findPaces_58 : decode cX5_findPaces 58 = .ok (.getfield 160, 3) := by decide +kernel
theorem dX5_findPaces_61 : decode cX5_findPaces 61 = .ok (.iload_n 1, 1) := by decide +kernel
theorem dX5_findPaces_62 : decode cX5_findPaces 62 = .ok (.iaload, 1) := by decide +kernel
theorem dX5_findPaces_63 : decode cX5_findPaces 63 = .ok (.bipush 99, 2) := by decide +kernel
theorem dX5_findPaces_65 : decode cX5_findPaces 65 = .ok (.if_icmp .ne 32, 3) := by decide +kernel
theorem dX5_findPaces_68 : decode cX5_findPaces 68 = .ok (.iload_n 3, 1) := by decide +kernel
theorem dX5_findPaces_69 : decode cX5_findPaces 69 = .ok (.ldc 121, 2) := by decide +kernel
theorem dX5_findPaces_71 : decode cX5_findPaces 71 = .ok (.if_icmp .eq 9, 3) := by decide +kernel
theorem dX5_findPaces_74 : decode cX5_findPaces 74 = .ok (.iload 6, 2) := by decide +kernel
theorem dX5_findPaces_76 : decode cX5_findPaces 76 = .ok (.iload_n 3, 1) := by decide +kernel
theorem dX5_findPaces_77 : decode cX5_findPaces 77 = .ok (.if_icmp .ge 20, 3) := by decide +kernel
theorem dX5_findPaces_80 : decode cX5_findPaces 80 = .ok (.iload 6, 2) := by decide +kernel
theorem dX5_findPaces_82 : decode cX5_findPaces 82 = .ok (.istore_n 3, 1) := by decide +kernel
theorem dX5_findPaces_83 : decode cX5_findPaces 83 = .ok (.aload_n 0, 1) := by decide +kernel
theorem dX5_findPaces_84 : decode cX5_findPaces 84 = .ok (.getfield 53, 3) := by decide +kernel
theorem dX5_findPaces_87 : decode cX5_findPaces 87 = .ok (.iconst 0, 1) := by decide +kernel
theorem dX5_findPaces_88 : decode cX5_findPaces 88 = .ok (.aload_n 0, 1) := by decide +kernel
theorem dX5_findPaces_89 : decode cX5_findPaces 89 = .ok (.getfield 57, 3) := by decide +kernel
theorem dX5_findPaces_92 : decode cX5_findPaces 92 = .ok (.iconst 0, 1) := by decide +kernel
theorem dX5_findPaces_93 : decode cX5_findPaces 93 = .ok (.iload_n 2, 1) := by decide +kernel
theorem dX5_findPaces_94 : decode cX5_findPaces 94 = .ok (.invokestatic 102, 3) := by decide +kernel
theorem dX5_findPaces_97 : decode cX5_findPaces 97 = .ok (.iinc 5 1, 3) := by decide +kernel
theorem dX5_findPaces_100 : decode cX5_findPaces 100 = .ok (.goto (-74), 3) := by decide +kernel
theorem dX5_findPaces_103 : decode cX5_findPaces 103 = .ok (.iload_n 3, 1) := by decide +kernel
theorem dX5_findPaces_104 : decode cX5_findPaces 104 = .ok (.ireturn, 1) := by decide +kernel
theorem dX5_writePaces_0 : decode cX5_writePaces 0 = .ok (.iload_n 2, 1) := by decide +kernel
theorem dX5_writePaces_1 : decode cX5_writePaces 1 = .ok (.istore_n 3, 1) := by decide +kernel
theorem dX5_writePaces_2 : decode cX5_writePaces 2 = .ok (.iload_n 1, 1) := by decide +kernel
theorem dX5_writePaces_3 : decode cX5_writePaces 3 = .ok (.istore 4, 2) := by decide +kernel
theorem dX5_writePaces_5 : decode cX5_writePaces 5 = .ok (.iload_n 2, 1) := by decide +kernel
theorem dX5_writePaces_6 : decode cX5_writePaces 6 = .ok (.iconst 1, 1) := by decide +kernel
theorem dX5_writePaces_7 : decode cX5_writePaces 7 = .ok (.isub, 1) := by decide +kernel
theorem dX5_writePaces_8 : decode cX5_writePaces 8 = .ok (.istore 5, 2) := by decide +kernel
theorem dX5_writePaces_10 : decode cX5_writePaces 10 = .ok (.iload 5, 2) := by decide +kernel
theorem dX5_writePaces_12 : decode cX5_writePaces 12 = .ok (.ifCond .lt 45, 3) := by decide +kernel
theorem dX5_writePaces_15 : decode cX5_writePaces 15 = .ok (.iload 4, 2) := by decide +kernel
theorem dX5_writePaces_17 : decode cX5_writePaces 17 = .ok (.iconst 3, 1) := by decide +kernel
theorem dX5_writePaces_18 : decode cX5_writePaces 18 = .ok (.irem, 1) := by decide +kernel
theorem dX5_writePaces_19 : decode cX5_writePaces 19 = .ok (.istore 6, 2) := by decide +kernel
theorem dX5_writePaces_21 : decode cX5_writePaces 21 = .ok (.iload 4, 2) := by decide +kernel
theorem dX5_writePaces_23 : decode cX5_writePaces 23 = .ok (.iconst 3, 1) := by decide +kernel
theorem dX5_writePaces_24 : decode cX5_writePaces 24 = .ok (.idiv, 1) := by decide +kernel
theorem dX5_writePaces_25 : decode cX5_writePaces 25 = .ok (.istore 4, 2) := by decide +kernel
theorem dX5_writePaces_27 : decode cX5_writePaces 27 = .ok (.iload 6, 2) := by decide +kernel
theorem dX5_writePaces_29 : decode cX5_writePaces 29 = .ok (.aload_n 0, 1) := by decide +kernel
theorem dX5_writePaces_30 : decode cX5_writePaces 30 = .ok (.getfield 53, 3) := by decide +kernel
theorem dX5_writePaces_33 : decode cX5_writePaces 33 = .ok (.iload 5, 2) := by decide +kernel
theorem dX5_writePaces_35 : decode cX5_writePaces 35 = .ok (.iaload, 1) := by decide +kernel
theorem dX5_writePaces_36 : decode cX5_writePaces 36 = .ok (.if_icmp .eq 6, 3) := by decide +kernel
theorem dX5_writePaces_39 : decode cX5_writePaces 39 = .ok (.iload 5, 2) := by decide +kernel
theorem dX5_writePaces_41 : decode cX5_writePaces 41 = .ok (.istore_n 3, 1) := by decide +kernel
theorem dX5_writePaces_42 : decode cX5_writePaces 42 = .ok (.aload_n 0, 1) := by decide +kernel
theorem dX5_writePaces_43 : decode cX5_writePaces 43 = .ok (.getfield 53, 3) := by decide +kernel
theorem dX5_writePaces_46 : decode cX5_writePaces 46 = .ok (.iload 5, 2) := by decide +kernel
theorem dX5_writePaces_48 : decode cX5_writePaces 48 = .ok (.iload 6, 2) := by decide +kernel
theorem dX5_writePaces_50 : decode cX5_writePaces 50 = .ok (.iastore, 1) := by decide +kernel
theorem dX5_writePaces_51 : decode cX5_writePaces 51 = .ok (.iinc 5 (-1), 3) := by decide +kernel
theorem dX5_writePaces_54 : decode cX5_writePaces 54 = .ok (.goto (-44), 3) := by decide +kernel
theorem dX5_writePaces_57 : decode cX5_writePaces 57 = .ok (.iload_n 1, 1) := by decide +kernel
theorem dX5_writePaces_58 : decode cX5_writePaces 58 = .ok (.ifCond .ne 7, 3) := by decide +kernel
theorem dX5_writePaces_61 : decode cX5_writePaces 61 = .ok (.iconst 0, 1) := by decide +kernel
theorem dX5_writePaces_62 : decode cX5_writePaces 62 = .ok (.goto 4, 3) := by decide +kernel
theorem dX5_writePaces_65 : decode cX5_writePaces 65 = .ok (.iload_n 3, 1) := by decide +kernel
theorem dX5_writePaces_66 : decode cX5_writePaces 66 = .ok (.ireturn, 1) := by decide +kernel
theorem dX5_passLevels_0 : decode cX5_passLevels 0 = .ok (.iload_n 1, 1) := by decide +kernel
theorem dX5_passLevels_1 : decode cX5_passLevels 1 = .ok (.istore_n 3, 1) := by decide +kernel
theorem dX5_passLevels_2 : decode cX5_passLevels 2 = .ok (.iload_n 3, 1) := by decide +kernel
theorem dX5_passLevels_3 : decode cX5_passLevels 3 = .ok (.iload_n 2, 1) := by decide +kernel
theorem dX5_passLevels_4 : decode cX5_passLevels 4 = .ok (.if_icmp .ge 47, 3) := by decide +kernel
theorem dX5_passLevels_7 : decode cX5_passLevels 7 = .ok (.aload_n 0, 1) := by decide +kernel
theorem dX5_passLevels_8 : decode cX5_passLevels 8 = .ok (.getfield 50, 3) := by decide +kernel
theorem dX5_passLevels_11 : decode cX5_passLevels 11 = .ok (.iload_n 3, 1) := by decide +kernel
theorem dX5_passLevels_12 : decode cX5_passLevels 12 = .ok (.iconst 1, 1) := by decide +kernel
theorem dX5_passLevels_13 : decode cX5_passLevels 13 = .ok (.iadd, 1) := by decide +kernel
theorem dX5_passLevels_14 : decode cX5_passLevels 14 = .ok (.aaload, 1) := by decide +kernel
theorem dX5_passLevels_15 : decode cX5_passLevels 15 = .ok (.astore 4, 2) := by decide +kernel
theorem dX5_passLevels_17 : decode cX5_passLevels 17 = .ok (.aload 4, 2) := by decide +kernel
theorem dX5_passLevels_19 : decode cX5_passLevels 19 = .ok (.aload_n 0, 1) := by decide +kernel
theorem dX5_passLevels_20 : decode cX5_passLevels 20 = .ok (.getfield 50, 3) := by decide +kernel
theorem dX5_passLevels_23 : decode cX5_passLevels 23 = .ok (.iload_n 3, 1) := by decide +kernel
theorem dX5_passLevels_24 : decode cX5_passLevels 24 = .ok (.aaload, 1) := by decide +kernel
theorem dX5_passLevels_25 : decode cX5_passLevels 25 = .ok (.invokevirtual 123, 3) := by decide +kernel
theorem dX5_passLevels_28 : decode cX5_passLevels 28 = .ok (.aload 4, 2) := by decide +kernel
theorem dX5_passLevels_30 : decode cX5_passLevels 30 = .ok (.aload_n 0, 1) := by decide +kernel
theorem dX5_passLevels_31 : decode cX5_passLevels 31 = .ok (.getfield 53, 3) := by decide +kernel
theorem dX5_passLevels_34 : decode cX5_passLevels 34 = .ok (.iload_n 3, 1) := by decide +kernel
theorem dX5_passLevels_35 : decode cX5_passLevels 35 = .ok (.iaload, 1) := by decide +kernel
theorem dX5_passLevels_36 : decode cX5_passLevels 36 = .ok (.putfield 154, 3) := by decide +kernel
theorem dX5_passLevels_39 : decode cX5_passLevels 39 = .ok (.aload 4, 2) := by decide +kernel
theorem dX5_passLevels_41 : decode cX5_passLevels 41 = .ok (.invokevirtual 147, 3) := by decide +kernel
theorem dX5_passLevels_44 : decode cX5_passLevels 44 = .ok (.pop, 1) := by decide +kernel
theorem dX5_passLevels_45 : decode cX5_passLevels 45 = .ok (.iinc 3 1, 3) := by decide +kernel
theorem dX5_passLevels_48 : decode cX5_passLevels 48 = .ok (.goto (-46), 3) := by decide +kernel
theorem dX5_passLevels_51 : decode cX5_passLevels 51 = .ok (.return_, 1) := by decide +kernel
theorem dX5_sumOfPaces_0 : decode cX5_sumOfPaces 0 = .ok (.iconst 0, 1) := by decide +kernel
theorem dX5_sumOfPaces_1 : decode cX5_sumOfPaces 1 = .ok (.istore_n 2, 1) := by decide +kernel
theorem dX5_sumOfPaces_2 : decode cX5_sumOfPaces 2 = .ok (.iconst 0, 1) := by decide +kernel
theorem dX5_sumOfPaces_3 : decode cX5_sumOfPaces 3 = .ok (.istore_n 3, 1) := by decide +kernel
theorem dX5_sumOfPaces_4 : decode cX5_sumOfPaces 4 = .ok (.iload_n 3, 1) := by decide +kernel
theorem dX5_sumOfPaces_5 : decode cX5_sumOfPaces 5 = .ok (.iload_n 1, 1) := by decide +kernel
theorem dX5_sumOfPaces_6 : decode cX5_sumOfPaces 6 = .ok (.if_icmp .ge 18, 3) := by decide +kernel
theorem dX5_sumOfPaces_9 : decode cX5_sumOfPaces 9 = .ok (.iload_n 2, 1) := by decide +kernel
theorem dX5_sumOfPaces_10 : decode cX5_sumOfPaces 10 = .ok (.aload_n 0, 1) := by decide +kernel
theorem dX5_sumOfPaces_11 : decode cX5_sumOfPaces 11 = .ok (.getfield 53, 3) := by decide +kernel
theorem dX5_sumOfPaces_14 : decode cX5_sumOfPaces 14 = .ok (.iload_n 3, 1) := by decide +kernel
theorem dX5_sumOfPaces_15 : decode cX5_sumOfPaces 15 = .ok (.iaload, 1) := by decide +kernel
theorem dX5_sumOfPaces_16 : decode cX5_sumOfPaces 16 = .ok (.iadd, 1) := by decide +kernel
theorem dX5_sumOfPaces_17 : decode cX5_sumOfPaces 17 = .ok (.istore_n 2, 1) := by decide +kernel
theorem dX5_sumOfPaces_18 : decode cX5_sumOfPaces 18 = .ok (.iinc 3 1, 3) := by decide +kernel
theorem dX5_sumOfPaces_21 : decode cX5_sumOfPaces 21 = .ok (.goto (-17), 3) := by decide +kernel
theorem dX5_sumOfPaces_24 : decode cX5_sumOfPaces 24 = .ok (.iload_n 2, 1) := by decide +kernel
theorem dX5_sumOfPaces_25 : decode cX5_sumOfPaces 25 = .ok (.ireturn, 1) := by decide +kernel
theorem dX5_kindsThatFit_0 : decode cX5_kindsThatFit 0 = .ok (.iconst 0, 1) := by decide +kernel
theorem dX5_kindsThatFit_1 : decode cX5_kindsThatFit 1 = .ok (.istore 5, 2) := by decide +kernel
theorem dX5_kindsThatFit_3 : decode cX5_kindsThatFit 3 = .ok (.iconst 1, 1) := by decide +kernel
theorem dX5_kindsThatFit_4 : decode cX5_kindsThatFit 4 = .ok (.istore 6, 2) := by decide +kernel
theorem dX5_kindsThatFit_6 : decode cX5_kindsThatFit 6 = .ok (.iload 6, 2) := by decide +kernel
theorem dX5_kindsThatFit_8 : decode cX5_kindsThatFit 8 = .ok (.iconst 5, 1) := by decide +kernel
theorem dX5_kindsThatFit_9 : decode cX5_kindsThatFit 9 = .ok (.if_icmp .gt 51, 3) := by decide +kernel
theorem dX5_kindsThatFit_12 : decode cX5_kindsThatFit 12 = .ok (.aload_n 0, 1) := by decide +kernel
theorem dX5_kindsThatFit_13 : decode cX5_kindsThatFit 13 = .ok (.getfield 47, 3) := by decide +kernel
theorem dX5_kindsThatFit_16 : decode cX5_kindsThatFit 16 = .ok (.aload_n 0, 1) := by decide +kernel
theorem dX5_kindsThatFit_17 : decode cX5_kindsThatFit 17 = .ok (.getfield 25, 3) := by decide +kernel
theorem dX5_kindsThatFit_20 : decode cX5_kindsThatFit 20 = .ok (.invokevirtual 123, 3) := by decide +kernel
theorem dX5_kindsThatFit_23 : decode cX5_kindsThatFit 23 = .ok (.aload_n 0, 1) := by decide +kernel
theorem dX5_kindsThatFit_24 : decode cX5_kindsThatFit 24 = .ok (.getfield 47, 3) := by decide +kernel
theorem dX5_kindsThatFit_27 : decode cX5_kindsThatFit 27 = .ok (.getfield 257, 3) := by decide +kernel
theorem dX5_kindsThatFit_30 : decode cX5_kindsThatFit 30 = .ok (.iload_n 1, 1) := by decide +kernel
theorem dX5_kindsThatFit_31 : decode cX5_kindsThatFit 31 = .ok (.iload 6, 2) := by decide +kernel
theorem dX5_kindsThatFit_33 : decode cX5_kindsThatFit 33 = .ok (.iastore, 1) := by decide +kernel
theorem dX5_kindsThatFit_34 : decode cX5_kindsThatFit 34 = .ok (.iload 5, 2) := by decide +kernel
theorem dX5_kindsThatFit_36 : decode cX5_kindsThatFit 36 = .ok (.aload_n 0, 1) := by decide +kernel
theorem dX5_kindsThatFit_37 : decode cX5_kindsThatFit 37 = .ok (.iload_n 1, 1) := by decide +kernel
theorem dX5_kindsThatFit_38 : decode cX5_kindsThatFit 38 = .ok (.aload_n 2, 1) := by decide +kernel
theorem dX5_kindsThatFit_39 : decode cX5_kindsThatFit 39 = .ok (.iload_n 3, 1) := by decide +kernel
theorem dX5_kindsThatFit_40 : decode cX5_kindsThatFit 40 = .ok (.iload 4, 2) := by decide +kernel
theorem dX5_kindsThatFit_42 : decode cX5_kindsThatFit 42 = .ok (.invokevirtual 292, 3) := by decide +kernel
theorem dX5_kindsThatFit_45 : decode cX5_kindsThatFit 45 = .ok (.invokestatic 181, 3) := by decide +kernel
theorem dX5_kindsThatFit_48 : decode cX5_kindsThatFit 48 = .ok (.iload 6, 2) := by decide +kernel
theorem dX5_kindsThatFit_50 : decode cX5_kindsThatFit 50 = .ok (.ishl, 1) := by decide +kernel
theorem dX5_kindsThatFit_51 : decode cX5_kindsThatFit 51 = .ok (.ior, 1) := by decide +kernel
theorem dX5_kindsThatFit_52 : decode cX5_kindsThatFit 52 = .ok (.istore 5, 2) := by decide +kernel
theorem dX5_kindsThatFit_54 : decode cX5_kindsThatFit 54 = .ok (.iinc 6 1, 3) := by decide +kernel
theorem dX5_kindsThatFit_57 : decode cX5_kindsThatFit 57 = .ok (.goto (-51), 3) := by decide +kernel
theorem dX5_kindsThatFit_60 : decode cX5_kindsThatFit 60 = .ok (.iload 5, 2) := by decide +kernel
theorem dX5_kindsThatFit_62 : decode cX5_kindsThatFit 62 = .ok (.ireturn, 1) := by decide +kernel
theorem dX5_lanesThatFit_0 : decode cX5_lanesThatFit 0 = .ok (.iconst 0, 1) := by decide +kernel
theorem dX5_lanesThatFit_1 : decode cX5_lanesThatFit 1 = .ok (.istore 5, 2) := by decide +kernel
theorem dX5_lanesThatFit_3 : decode cX5_lanesThatFit 3 = .ok (.iconst 0, 1) := by decide +kernel
theorem dX5_lanesThatFit_4 : decode cX5_lanesThatFit 4 = .ok (.istore 6, 2) := by decide +kernel
theorem dX5_lanesThatFit_6 : decode cX5_lanesThatFit 6 = .ok (.iload 6, 2) := by decide +kernel
theorem dX5_lanesThatFit_8 : decode cX5_lanesThatFit 8 = .ok (.iconst 1, 1) := by decide +kernel
theorem dX5_lanesThatFit_9 : decode cX5_lanesThatFit 9 = .ok (.if_icmp .gt 51, 3) := by decide +kernel
theorem dX5_lanesThatFit_12 : decode cX5_lanesThatFit 12 = .ok (.aload_n 0, 1) := by decide +kernel
theorem dX5_lanesThatFit_13 : decode cX5_lanesThatFit 13 = .ok (.getfield 47, 3) := by decide +kernel
theorem dX5_lanesThatFit_16 : decode cX5_lanesThatFit 16 = .ok (.aload_n 0, 1) := by decide +kernel
theorem dX5_lanesThatFit_17 : decode cX5_lanesThatFit 17 = .ok (.getfield 25, 3) := by decide +kernel
theorem dX5_lanesThatFit_20 : decode cX5_lanesThatFit 20 = .ok (.invokevirtual 123, 3) := by decide +kernel
theorem dX5_lanesThatFit_23 : decode cX5_lanesThatFit 23 = .ok (.aload_n 0, 1) := by decide +kernel
theorem dX5_lanesThatFit_24 : decode cX5_lanesThatFit 24 = .ok (.getfield 47, 3) := by decide +kernel
theorem dX5_lanesThatFit_27 : decode cX5_lanesThatFit 27 = .ok (.getfield 166, 3) := by decide +kernel
theorem dX5_lanesThatFit_30 : decode cX5_lanesThatFit 30 = .ok (.iload_n 1, 1) := by decide +kernel
theorem dX5_lanesThatFit_31 : decode cX5_lanesThatFit 31 = .ok (.iload 6, 2) := by decide +kernel
theorem dX5_lanesThatFit_33 : decode cX5_lanesThatFit 33 = .ok (.iastore, 1) := by decide +kernel
theorem dX5_lanesThatFit_34 : decode cX5_lanesThatFit 34 = .ok (.iload 5, 2) := by decide +kernel
theorem dX5_lanesThatFit_36 : decode cX5_lanesThatFit 36 = .ok (.aload_n 0, 1) := by decide +kernel
theorem dX5_lanesThatFit_37 : decode cX5_lanesThatFit 37 = .ok (.iload_n 1, 1) := by decide +kernel
theorem dX5_lanesThatFit_38 : decode cX5_lanesThatFit 38 = .ok (.aload_n 2, 1) := by decide +kernel
theorem dX5_lanesThatFit_39 : decode cX5_lanesThatFit 39 = .ok (.iload_n 3, 1) := by decide +kernel
theorem dX5_lanesThatFit_40 : decode cX5_lanesThatFit 40 = .ok (.iload 4, 2) := by decide +kernel
theorem dX5_lanesThatFit_42 : decode cX5_lanesThatFit 42 = .ok (.invokevirtual 292, 3) := by decide +kernel
theorem dX5_lanesThatFit_45 : decode cX5_lanesThatFit 45 = .ok (.invokestatic 181, 3) := by decide +kernel
theorem dX5_lanesThatFit_48 : decode cX5_lanesThatFit 48 = .ok (.iload 6, 2) := by decide +kernel
theorem dX5_lanesThatFit_50 : decode cX5_lanesThatFit 50 = .ok (.ishl, 1) := by decide +kernel
theorem dX5_lanesThatFit_51 : decode cX5_lanesThatFit 51 = .ok (.ior, 1) := by decide +kernel
theorem dX5_lanesThatFit_52 : decode cX5_lanesThatFit 52 = .ok (.istore 5, 2) := by decide +kernel
theorem dX5_lanesThatFit_54 : decode cX5_lanesThatFit 54 = .ok (.iinc 6 1, 3) := by decide +kernel
theorem dX5_lanesThatFit_57 : decode cX5_lanesThatFit 57 = .ok (.goto (-51), 3) := by decide +kernel
theorem dX5_lanesThatFit_60 : decode cX5_lanesThatFit 60 = .ok (.iload 5, 2) := by decide +kernel
theorem dX5_lanesThatFit_62 : decode cX5_lanesThatFit 62 = .ok (.ireturn, 1) := by decide +kernel
theorem dX5_speedsThatFit_0 : decode cX5_speedsThatFit 0 = .ok (.iconst 0, 1) := by decide +kernel
theorem dX5_speedsThatFit_1 : decode cX5_speedsThatFit 1 = .ok (.istore 5, 2) := by decide +kernel
theorem dX5_speedsThatFit_3 : decode cX5_speedsThatFit 3 = .ok (.iconst 0, 1) := by decide +kernel
theorem dX5_speedsThatFit_4 : decode cX5_speedsThatFit 4 = .ok (.istore 6, 2) := by decide +kernel
theorem dX5_speedsThatFit_6 : decode cX5_speedsThatFit 6 = .ok (.iload 6, 2) := by decide +kernel
theorem dX5_speedsThatFit_8 : decode cX5_speedsThatFit 8 = .ok (.iconst 2, 1) := by decide +kernel
theorem dX5_speedsThatFit_9 : decode cX5_speedsThatFit 9 = .ok (.if_icmp .gt 49, 3) := by decide +kernel
theorem dX5_speedsThatFit_12 : decode cX5_speedsThatFit 12 = .ok (.aload_n 0, 1) := by decide +kernel
theorem dX5_speedsThatFit_13 : decode cX5_speedsThatFit 13 = .ok (.getfield 47, 3) := by decide +kernel
theorem dX5_speedsThatFit_16 : decode cX5_speedsThatFit 16 = .ok (.aload_n 0, 1) := by decide +kernel
theorem dX5_speedsThatFit_17 : decode cX5_speedsThatFit 17 = .ok (.getfield 25, 3) := by decide +kernel
theorem dX5_speedsThatFit_20 : decode cX5_speedsThatFit 20 = .ok (.invokevirtual 123, 3) := by decide +kernel
theorem dX5_speedsThatFit_23 : decode cX5_speedsThatFit 23 = .ok (.aload_n 0, 1) := by decide +kernel
theorem dX5_speedsThatFit_24 : decode cX5_speedsThatFit 24 = .ok (.getfield 47, 3) := by decide +kernel
theorem dX5_speedsThatFit_27 : decode cX5_speedsThatFit 27 = .ok (.iload 6, 2) := by decide +kernel
theorem dX5_speedsThatFit_29 : decode cX5_speedsThatFit 29 = .ok (.putfield 154, 3) := by decide +kernel
theorem dX5_speedsThatFit_32 : decode cX5_speedsThatFit 32 = .ok (.iload 5, 2) := by decide +kernel
theorem dX5_speedsThatFit_34 : decode cX5_speedsThatFit 34 = .ok (.aload_n 0, 1) := by decide +kernel
theorem dX5_speedsThatFit_35 : decode cX5_speedsThatFit 35 = .ok (.iload_n 1, 1) := by decide +kernel
theorem dX5_speedsThatFit_36 : decode cX5_speedsThatFit 36 = .ok (.aload_n 2, 1) := by decide +kernel
theorem dX5_speedsThatFit_37 : decode cX5_speedsThatFit 37 = .ok (.iload_n 3, 1) := by decide +kernel
theorem dX5_speedsThatFit_38 : decode cX5_speedsThatFit 38 = .ok (.iload 4, 2) := by decide +kernel
theorem dX5_speedsThatFit_40 : decode cX5_speedsThatFit 40 = .ok (.invokevirtual 292, 3) := by decide +kernel
theorem dX5_speedsThatFit_43 : decode cX5_speedsThatFit 43 = .ok (.invokestatic 181, 3) := by decide +kernel
theorem dX5_speedsThatFit_46 : decode cX5_speedsThatFit 46 = .ok (.iload 6, 2) := by decide +kernel
theorem dX5_speedsThatFit_48 : decode cX5_speedsThatFit 48 = .ok (.ishl, 1) := by decide +kernel
theorem dX5_speedsThatFit_49 : decode cX5_speedsThatFit 49 = .ok (.ior, 1) := by decide +kernel
theorem dX5_speedsThatFit_50 : decode cX5_speedsThatFit 50 = .ok (.istore 5, 2) := by decide +kernel
theorem dX5_speedsThatFit_52 : decode cX5_speedsThatFit 52 = .ok (.iinc 6 1, 3) := by decide +kernel
theorem dX5_speedsThatFit_55 : decode cX5_speedsThatFit 55 = .ok (.goto (-49), 3) := by decide +kernel
theorem dX5_speedsThatFit_58 : decode cX5_speedsThatFit 58 = .ok (.iload 5, 2) := by decide +kernel
theorem dX5_speedsThatFit_60 : decode cX5_speedsThatFit 60 = .ok (.ireturn, 1) := by decide +kernel
theorem dX5_startsThatFit_0 : decode cX5_startsThatFit 0 = .ok (.aload_n 0, 1) := by decide +kernel
theorem dX5_startsThatFit_1 : decode cX5_startsThatFit 1 = .ok (.getfield 25, 3) := by decide +kernel
theorem dX5_startsThatFit_4 : decode cX5_startsThatFit 4 = .ok (.iload_n 1, 1) := by decide +kernel
theorem dX5_startsThatFit_5 : decode cX5_startsThatFit 5 = .ok (.invokevirtual 185, 3) := by decide +kernel
theorem dX5_startsThatFit_8 : decode cX5_startsThatFit 8 = .ok (.ifCond .ne 5, 3) := by decide +kernel
theorem dX5_startsThatFit_11 : decode cX5_startsThatFit 11 = .ok (.iconst 0, 1) := by decide +kernel
theorem dX5_startsThatFit_12 : decode cX5_startsThatFit 12 = .ok (.ireturn, 1) := by decide +kernel
theorem dX5_startsThatFit_13 : decode cX5_startsThatFit 13 = .ok (.iconst 0, 1) := by decide +kernel
theorem dX5_startsThatFit_14 : decode cX5_startsThatFit 14 = .ok (.istore 5, 2) := by decide +kernel
theorem dX5_startsThatFit_16 : decode cX5_startsThatFit 16 = .ok (.iconst 0, 1) := by decide +kernel
theorem dX5_startsThatFit_17 : decode cX5_startsThatFit 17 = .ok (.istore 6, 2) := by decide +kernel
theorem dX5_startsThatFit_19 : decode cX5_startsThatFit 19 = .ok (.iload 6, 2) := by decide +kernel
theorem dX5_startsThatFit_21 : decode cX5_startsThatFit 21 = .ok (.aload_n 0, 1) := by decide +kernel
theorem dX5_startsThatFit_22 : decode cX5_startsThatFit 22 = .ok (.getfield 25, 3) := by decide +kernel
theorem dX5_startsThatFit_25 : decode cX5_startsThatFit 25 = .ok (.getfield 191, 3) := by decide +kernel
theorem dX5_startsThatFit_28 : decode cX5_startsThatFit 28 = .ok (.if_icmp .ge 64, 3) := by decide +kernel
theorem dX5_startsThatFit_31 : decode cX5_startsThatFit 31 = .ok (.aload_n 0, 1) := by decide +kernel
theorem dX5_startsThatFit_32 : decode cX5_startsThatFit 32 = .ok (.getfield 25, 3) := by decide +kernel
theorem dX5_startsThatFit_35 : decode cX5_startsThatFit 35 = .ok (.iload_n 1, 1) := by decide +kernel
theorem dX5_startsThatFit_36 : decode cX5_startsThatFit 36 = .ok (.iload 6, 2) := by decide +kernel
theorem dX5_startsThatFit_38 : decode cX5_startsThatFit 38 = .ok (.invokevirtual 296, 3) := by decide +kernel
theorem dX5_startsThatFit_41 : decode cX5_startsThatFit 41 = .ok (.ifCond .eq 45, 3) := by decide +kernel
theorem dX5_startsThatFit_44 : decode cX5_startsThatFit 44 = .ok (.aload_n 0, 1) := by decide +kernel
theorem dX5_startsThatFit_45 : decode cX5_startsThatFit 45 = .ok (.getfield 47, 3) := by decide +kernel
theorem dX5_startsThatFit_48 : decode cX5_startsThatFit 48 = .ok (.aload_n 0, 1) := by decide +kernel
theorem dX5_startsThatFit_49 : decode cX5_startsThatFit 49 = .ok (.getfield 25, 3) := by decide +kernel
theorem dX5_startsThatFit_52 : decode cX5_startsThatFit 52 = .ok (.invokevirtual 123, 3) := by decide +kernel
theorem dX5_startsThatFit_55 : decode cX5_startsThatFit 55 = .ok (.aload_n 0, 1) := by decide +kernel
theorem dX5_startsThatFit_56 : decode cX5_startsThatFit 56 = .ok (.getfield 47, 3) := by decide +kernel
theorem dX5_startsThatFit_59 : decode cX5_startsThatFit 59 = .ok (.getfield 160, 3) := by decide +kernel
theorem dX5_startsThatFit_62 : decode cX5_startsThatFit 62 = .ok (.iload_n 1, 1) := by decide +kernel
theorem dX5_startsThatFit_63 : decode cX5_startsThatFit 63 = .ok (.iload 6, 2) := by decide +kernel
theorem dX5_startsThatFit_65 : decode cX5_startsThatFit 65 = .ok (.iastore, 1) := by decide +kernel
theorem dX5_startsThatFit_66 : decode cX5_startsThatFit 66 = .ok (.iload 5, 2) := by decide +kernel
theorem dX5_startsThatFit_68 : decode cX5_startsThatFit 68 = .ok (.aload_n 0, 1) := by decide +kernel
theorem dX5_startsThatFit_69 : decode cX5_startsThatFit 69 = .ok (.iload_n 1, 1) := by decide +kernel
theorem dX5_startsThatFit_70 : decode cX5_startsThatFit 70 = .ok (.aload_n 2, 1) := by decide +kernel
theorem dX5_startsThatFit_71 : decode cX5_startsThatFit 71 = .ok (.iload_n 3, 1) := by decide +kernel
theorem dX5_startsThatFit_72 : decode cX5_startsThatFit 72 = .ok (.iload 4, 2) := by decide +kernel
theorem dX5_startsThatFit_74 : decode cX5_startsThatFit 74 = .ok (.invokevirtual 292, 3) := by decide +kernel
theorem dX5_startsThatFit_77 : decode cX5_startsThatFit 77 = .ok (.invokestatic 181, 3) := by decide +kernel
theorem dX5_startsThatFit_80 : decode cX5_startsThatFit 80 = .ok (.iload 6, 2) := by decide +kernel
theorem dX5_startsThatFit_82 : decode cX5_startsThatFit 82 = .ok (.ishl, 1) := by decide +kernel
theorem dX5_startsThatFit_83 : decode cX5_startsThatFit 83 = .ok (.ior, 1) := by decide +kernel
theorem dX5_startsThatFit_84 : decode cX5_startsThatFit 84 = .ok (.istore 5, 2) := by decide +kernel
theorem dX5_startsThatFit_86 : decode cX5_startsThatFit 86 = .ok (.iinc 6 1, 3) := by decide +kernel
theorem dX5_startsThatFit_89 : decode cX5_startsThatFit 89 = .ok (.goto (-70), 3) := by decide +kernel
theorem dX5_startsThatFit_92 : decode cX5_startsThatFit 92 = .ok (.iload 5, 2) := by decide +kernel
theorem dX5_startsThatFit_94 : decode cX5_startsThatFit 94 = .ok (.ireturn, 1) := by decide +kernel
theorem dX5_trialFits_0 : decode cX5_trialFits 0 = .ok (.iconst 0, 1) := by decide +kernel
theorem dX5_trialFits_1 : decode cX5_trialFits 1 = .ok (.istore 5, 2) := by decide +kernel
theorem dX5_trialFits_3 : decode cX5_trialFits 3 = .ok (.iload 5, 2) := by decide +kernel
theorem dX5_trialFits_5 : decode cX5_trialFits 5 = .ok (.iload 4, 2) := by decide +kernel
theorem dX5_trialFits_7 : decode cX5_trialFits 7 = .ok (.if_icmp .ge 40, 3) := by decide +kernel
theorem dX5_trialFits_10 : decode cX5_trialFits 10 = .ok (.aload_n 0, 1) := by decide +kernel
theorem dX5_trialFits_11 : decode cX5_trialFits 11 = .ok (.getfield 47, 3) := by decide +kernel
theorem dX5_trialFits_14 : decode cX5_trialFits 14 = .ok (.invokevirtual 147, 3) := by decide +kernel
theorem dX5_trialFits_17 : decode cX5_trialFits 17 = .ok (.pop, 1) := by decide +kernel
theorem dX5_trialFits_18 : decode cX5_trialFits 18 = .ok (.aload_n 0, 1) := by decide +kernel
theorem dX5_trialFits_19 : decode cX5_trialFits 19 = .ok (.getfield 47, 3) := by decide +kernel
theorem dX5_trialFits_22 : decode cX5_trialFits 22 = .ok (.getfield 160, 3) := by decide +kernel
theorem dX5_trialFits_25 : decode cX5_trialFits 25 = .ok (.iload_n 1, 1) := by decide +kernel
theorem dX5_trialFits_26 : decode cX5_trialFits 26 = .ok (.iaload, 1) := by decide +kernel
theorem dX5_trialFits_27 : decode cX5_trialFits 27 = .ok (.aload_n 2, 1) := by decide +kernel
theorem dX5_trialFits_28 : decode cX5_trialFits 28 = .ok (.getfield 93, 3) := by decide +kernel
theorem dX5_trialFits_31 : decode cX5_trialFits 31 = .ok (.iload_n 3, 1) := by decide +kernel
theorem dX5_trialFits_32 : decode cX5_trialFits 32 = .ok (.iload 5, 2) := by decide +kernel
theorem dX5_trialFits_34 : decode cX5_trialFits 34 = .ok (.iadd, 1) := by decide +kernel
theorem dX5_trialFits_35 : decode cX5_trialFits 35 = .ok (.iaload, 1) := by decide +kernel
theorem dX5_trialFits_36 : decode cX5_trialFits 36 = .ok (.if_icmp .eq 5, 3) := by decide +kernel
theorem dX5_trialFits_39 : decode cX5_trialFits 39 = .ok (.iconst 0, 1) := by decide +kernel
theorem dX5_trialFits_40 : decode cX5_trialFits 40 = .ok (.ireturn, 1) := by decide +kernel
theorem dX5_trialFits_41 : decode cX5_trialFits 41 = .ok (.iinc 5 1, 3) := by decide +kernel
theorem dX5_trialFits_44 : decode cX5_trialFits 44 = .ok (.goto (-41), 3) := by decide +kernel
theorem dX5_trialFits_47 : decode cX5_trialFits 47 = .ok (.iconst 1, 1) := by decide +kernel
theorem dX5_trialFits_48 : decode cX5_trialFits 48 = .ok (.ireturn, 1) := by decide +kernel
theorem dX5_bodyFor_0 : decode cX5_bodyFor 0 = .ok (.iload_n 0, 1) := by decide +kernel
theorem dX5_bodyFor_1 : decode cX5_bodyFor 1 = .ok (.istore_n 2, 1) := by decide +kernel
theorem dX5_bodyFor_2 : decode cX5_bodyFor 2 = .ok (.iconst 0, 1) := by decide +kernel
theorem dX5_bodyFor_3 : decode cX5_bodyFor 3 = .ok (.istore_n 3, 1) := by decide +kernel
theorem dX5_bodyFor_4 : decode cX5_bodyFor 4 = .ok (.iload_n 3, 1) := by decide +kernel
theorem dX5_bodyFor_5 : decode cX5_bodyFor 5 = .ok (.iconst 5, 1) := by decide +kernel
theorem dX5_bodyFor_6 : decode cX5_bodyFor 6 = .ok (.if_icmp .gt 46, 3) := by decide +kernel
theorem dX5_bodyFor_9 : decode cX5_bodyFor 9 = .ok (.iload_n 2, 1) := by decide +kernel
theorem dX5_bodyFor_10 : decode cX5_bodyFor 10 = .ok (.ifCond .le 42, 3) := by decide +kernel
theorem dX5_bodyFor_13 : decode cX5_bodyFor 13 = .ok (.iload_n 1, 1) := by decide +kernel
theorem dX5_bodyFor_14 : decode cX5_bodyFor 14 = .ok (.ifCond .ne 11, 3) := by decide +kernel
theorem dX5_bodyFor_17 : decode cX5_bodyFor 17 = .ok (.getstatic 299, 3) := by decide +kernel
theorem dX5_bodyFor_20 : decode cX5_bodyFor 20 = .ok (.iload_n 2, 1) := by decide +kernel
theorem dX5_bodyFor_21 : decode cX5_bodyFor 21 = .ok (.iaload, 1) := by decide +kernel
theorem dX5_bodyFor_22 : decode cX5_bodyFor 22 = .ok (.goto 8, 3) := by decide +kernel
theorem dX5_bodyFor_25 : decode cX5_bodyFor 25 = .ok (.getstatic 302, 3) := by decide +kernel
theorem dX5_bodyFor_28 : decode cX5_bodyFor 28 = .ok (.iload_n 2, 1) := by decide +kernel
theorem dX5_bodyFor_29 : decode cX5_bodyFor 29 = .ok (.iaload, 1) := by decide +kernel
theorem dX5_bodyFor_30 : decode cX5_bodyFor 30 = .ok (.istore 4, 2) := by decide +kernel
theorem dX5_bodyFor_32 : decode cX5_bodyFor 32 = .ok (.iload 4, 2) := by decide +kernel
theorem dX5_bodyFor_34 : decode cX5_bodyFor 34 = .ok (.ifCond .eq 6, 3) := by decide +kernel
theorem dX5_bodyFor_37 : decode cX5_bodyFor 37 = .ok (.iload 4, 2) := by decide +kernel
theorem dX5_bodyFor_39 : decode cX5_bodyFor 39 = .ok (.ireturn, 1) := by decide +kernel
theorem dX5_bodyFor_40 : decode cX5_bodyFor 40 = .ok (.getstatic 260, 3) := by decide +kernel
theorem dX5_bodyFor_43 : decode cX5_bodyFor 43 = .ok (.iload_n 2, 1) := by decide +kernel
theorem dX5_bodyFor_44 : decode cX5_bodyFor 44 = .ok (.iaload, 1) := by decide +kernel
theorem dX5_bodyFor_45 : decode cX5_bodyFor 45 = .ok (.istore_n 2, 1) := by decide +kernel
theorem dX5_bodyFor_46 : decode cX5_bodyFor 46 = .ok (.iinc 3 1, 3) := by decide +kernel
theorem dX5_bodyFor_49 : decode cX5_bodyFor 49 = .ok (.goto (-45), 3) := by decide +kernel
theorem dX5_bodyFor_52 : decode cX5_bodyFor 52 = .ok (.iload_n 1, 1) := by decide +kernel
theorem dX5_bodyFor_53 : decode cX5_bodyFor 53 = .ok (.ifCond .ne 11, 3) := by decide +kernel
theorem dX5_bodyFor_56 : decode cX5_bodyFor 56 = .ok (.getstatic 299, 3) := by decide +kernel
theorem dX5_bodyFor_59 : decode cX5_bodyFor 59 = .ok (.iconst 0, 1) := by decide +kernel
theorem dX5_bodyFor_60 : decode cX5_bodyFor 60 = .ok (.iaload, 1) := by decide +kernel
theorem dX5_bodyFor_61 : decode cX5_bodyFor 61 = .ok (.goto 8, 3) := by decide +kernel
theorem dX5_bodyFor_64 : decode cX5_bodyFor 64 = .ok (.getstatic 302, 3) := by decide +kernel
theorem dX5_bodyFor_67 : decode cX5_bodyFor 67 = .ok (.iconst 0, 1) := by decide +kernel
theorem dX5_bodyFor_68 : decode cX5_bodyFor 68 = .ok (.iaload, 1) := by decide +kernel
theorem dX5_bodyFor_69 : decode cX5_bodyFor 69 = .ok (.ireturn, 1) := by decide +kernel
theorem dX5_answerOf_0 : decode cX5_answerOf 0 = .ok (.iload 4, 2) := by decide +kernel
theorem dX5_answerOf_2 : decode cX5_answerOf 2 = .ok (.bipush 16, 2) := by decide +kernel
theorem dX5_answerOf_4 : decode cX5_answerOf 4 = .ok (.if_icmp .le 5, 3) := by decide +kernel
theorem dX5_answerOf_7 : decode cX5_answerOf 7 = .ok (.iconst 0, 1) := by decide +kernel
theorem dX5_answerOf_8 : decode cX5_answerOf 8 = .ok (.ireturn, 1) := by decide +kernel
theorem dX5_answerOf_9 : decode cX5_answerOf 9 = .ok (.iload 4, 2) := by decide +kernel
theorem dX5_answerOf_11 : decode cX5_answerOf 11 = .ok (.iconst 1, 1) := by decide +kernel
theorem dX5_answerOf_12 : decode cX5_answerOf 12 = .ok (.iadd, 1) := by decide +kernel
theorem dX5_answerOf_13 : decode cX5_answerOf 13 = .ok (.istore 5, 2) := by decide +kernel
theorem dX5_answerOf_15 : decode cX5_answerOf 15 = .ok (.aload_n 3, 1) := by decide +kernel
theorem dX5_answerOf_16 : decode cX5_answerOf 16 = .ok (.iload_n 0, 1) := by decide +kernel
theorem dX5_answerOf_17 : decode cX5_answerOf 17 = .ok (.invokevirtual 305, 3) := by decide +kernel
theorem dX5_answerOf_20 : decode cX5_answerOf 20 = .ok (.iload_n 0, 1) := by decide +kernel
theorem dX5_answerOf_21 : decode cX5_answerOf 21 = .ok (.tableswitch 229 10 24 #[75, 82, 112, 124, 138, 229, 229, 229, 229, 229, 151, 153, 171, 186, 216], 75) := by decide +kernel
theorem dX5_answerOf_96 : decode cX5_answerOf 96 = .ok (.aload_n 1, 1) := by decide +kernel
theorem dX5_answerOf_97 : decode cX5_answerOf 97 = .ok (.getfield 160, 3) := by decide +kernel
theorem dX5_answerOf_100 : decode cX5_answerOf 100 = .ok (.iload_n 2, 1) := by decide +kernel
theorem dX5_answerOf_101 : decode cX5_answerOf 101 = .ok (.iaload, 1) := by decide +kernel
theorem dX5_answerOf_102 : decode cX5_answerOf 102 = .ok (.ireturn, 1) := by decide +kernel
theorem dX5_answerOf_103 : decode cX5_answerOf 103 = .ok (.bipush 10, 2) := by decide +kernel
theorem dX5_answerOf_105 : decode cX5_answerOf 105 = .ok (.aload_n 1, 1) := by decide +kernel
theorem dX5_answerOf_106 : decode cX5_answerOf 106 = .ok (.iload_n 2, 1) := by decide +kernel
theorem dX5_answerOf_107 : decode cX5_answerOf 107 = .ok (.aload_n 3, 1) := by decide +kernel
theorem dX5_answerOf_108 : decode cX5_answerOf 108 = .ok (.iload 5, 2) := by decide +kernel
theorem dX5_answerOf_110 : decode cX5_answerOf 110 = .ok (.invokestatic 267, 3) := by decide +kernel
theorem dX5_answerOf_113 : decode cX5_answerOf 113 = .ok (.aload_n 1, 1) := by decide +kernel
theorem dX5_answerOf_114 : decode cX5_answerOf 114 = .ok (.getfield 257, 3) := by decide +kernel
theorem dX5_answerOf_117 : decode cX5_answerOf 117 = .ok (.iload_n 2, 1) := by decide +kernel
theorem dX5_answerOf_118 : decode cX5_answerOf 118 = .ok (.iaload, 1) := by decide +kernel
theorem dX5_answerOf_119 : decode cX5_answerOf 119 = .ok (.iconst 1, 1) := by decide +kernel
theorem dX5_answerOf_120 : decode cX5_answerOf 120 = .ok (.invokestatic 264, 3) := by decide +kernel
theorem dX5_answerOf_123 : decode cX5_answerOf 123 = .ok (.aload_n 1, 1) := by decide +kernel
theorem dX5_answerOf_124 : decode cX5_answerOf 124 = .ok (.iload_n 2, 1) := by decide +kernel
theorem dX5_answerOf_125 : decode cX5_answerOf 125 = .ok (.aload_n 3, 1) := by decide +kernel
theorem dX5_answerOf_126 : decode cX5_answerOf 126 = .ok (.iload 5, 2) := by decide +kernel
theorem dX5_answerOf_128 : decode cX5_answerOf 128 = .ok (.invokestatic 267, 3) := by decide +kernel
theorem dX5_answerOf_131 : decode cX5_answerOf 131 = .ok (.iadd, 1) := by decide +kernel
theorem dX5_answerOf_132 : decode cX5_answerOf 132 = .ok (.ireturn, 1) := by decide +kernel
theorem dX5_answerOf_133 : decode cX5_answerOf 133 = .ok (.bipush 11, 2) := by decide +kernel
theorem dX5_answerOf_135 : decode cX5_answerOf 135 = .ok (.aload_n 1, 1) := by decide +kernel
theorem dX5_answerOf_136 : decode cX5_answerOf 136 = .ok (.iload_n 2, 1) := by decide +kernel
theorem dX5_answerOf_137 : decode cX5_answerOf 137 = .ok (.aload_n 3, 1) := by decide +kernel
theorem dX5_answerOf_138 : decode cX5_answerOf 138 = .ok (.iload 5, 2) := by decide +kernel
theorem dX5_answerOf_140 : decode cX5_answerOf 140 = .ok (.invokestatic 267, 3) := by decide +kernel
theorem dX5_answerOf_143 : decode cX5_answerOf 143 = .ok (.ineg, 1) := by decide +kernel
theorem dX5_answerOf_144 : decode cX5_answerOf 144 = .ok (.ireturn, 1) := by decide +kernel
theorem dX5_answerOf_145 : decode cX5_answerOf 145 = .ok (.bipush 10, 2) := by decide +kernel
theorem dX5_answerOf_147 : decode cX5_answerOf 147 = .ok (.aload_n 1, 1) := by decide +kernel
theorem dX5_answerOf_148 : decode cX5_answerOf 148 = .ok (.iload_n 2, 1) := by decide +kernel
theorem dX5_answerOf_149 : decode cX5_answerOf 149 = .ok (.aload_n 3, 1) := by decide +kernel
theorem dX5_answerOf_150 : decode cX5_answerOf 150 = .ok (.iload 5, 2) := by decide +kernel
theorem dX5_answerOf_152 : decode cX5_answerOf 152 = .ok (.invokestatic 267, 3) := by decide +kernel
theorem dX5_answerOf_155 : decode cX5_answerOf 155 = .ok (.bipush 100, 2) := by decide +kernel
theorem dX5_answerOf_157 : decode cX5_answerOf 157 = .ok (.isub, 1) := by decide +kernel
theorem dX5_answerOf_158 : decode cX5_answerOf 158 = .ok (.ireturn, 1) := by decide +kernel
theorem dX5_answerOf_159 : decode cX5_answerOf 159 = .ok (.bipush 13, 2) := by decide +kernel
theorem dX5_answerOf_161 : decode cX5_answerOf 161 = .ok (.aload_n 1, 1) := by decide +kernel
theorem dX5_answerOf_162 : decode cX5_answerOf 162 = .ok (.iload_n 2, 1) := by decide +kernel
theorem dX5_answerOf_163 : decode cX5_answerOf 163 = .ok (.aload_n 3, 1) := by decide +kernel
theorem dX5_answerOf_164 : decode cX5_answerOf 164 = .ok (.iload 5, 2) := by decide +kernel
theorem dX5_answerOf_166 : decode cX5_answerOf 166 = .ok (.invokestatic 267, 3) := by decide +kernel
theorem dX5_answerOf_169 : decode cX5_answerOf 169 = .ok (.iconst 2, 1) := by decide +kernel
theorem dX5_answerOf_170 : decode cX5_answerOf 170 = .ok (.imul, 1) := by decide +kernel
theorem dX5_answerOf_171 : decode cX5_answerOf 171 = .ok (.ireturn, 1) := by decide +kernel
theorem dX5_answerOf_172 : decode cX5_answerOf 172 = .ok (.iload_n 2, 1) := by decide +kernel
theorem dX5_answerOf_173 : decode cX5_answerOf 173 = .ok (.ireturn, 1) := by decide +kernel
theorem dX5_answerOf_174 : decode cX5_answerOf 174 = .ok (.bipush 20, 2) := by decide +kernel
theorem dX5_answerOf_176 : decode cX5_answerOf 176 = .ok (.aload_n 1, 1) := by decide +kernel
theorem dX5_answerOf_177 : decode cX5_answerOf 177 = .ok (.iload_n 2, 1) := by decide +kernel
theorem dX5_answerOf_178 : decode cX5_answerOf 178 = .ok (.aload_n 3, 1) := by decide +kernel
theorem dX5_answerOf_179 : decode cX5_answerOf 179 = .ok (.iload 5, 2) := by decide +kernel
theorem dX5_answerOf_181 : decode cX5_answerOf 181 = .ok (.invokestatic 267, 3) := by decide +kernel
theorem dX5_answerOf_184 : decode cX5_answerOf 184 = .ok (.aload_n 1, 1) := by decide +kernel
theorem dX5_answerOf_185 : decode cX5_answerOf 185 = .ok (.getfield 166, 3) := by decide +kernel
theorem dX5_answerOf_188 : decode cX5_answerOf 188 = .ok (.iload_n 2, 1) := by decide +kernel
theorem dX5_answerOf_189 : decode cX5_answerOf 189 = .ok (.iaload, 1) := by decide +kernel
theorem dX5_answerOf_190 : decode cX5_answerOf 190 = .ok (.iadd, 1) := by decide +kernel
theorem dX5_answerOf_191 : decode cX5_answerOf 191 = .ok (.ireturn, 1) := by decide +kernel
theorem dX5_answerOf_192 : decode cX5_answerOf 192 = .ok (.bipush 21, 2) := by decide +kernel
theorem dX5_answerOf_194 : decode cX5_answerOf 194 = .ok (.aload_n 1, 1) := by decide +kernel
theorem dX5_answerOf_195 : decode cX5_answerOf 195 = .ok (.iload_n 2, 1) := by decide +kernel
theorem dX5_answerOf_196 : decode cX5_answerOf 196 = .ok (.aload_n 3, 1) := by decide +kernel
theorem dX5_answerOf_197 : decode cX5_answerOf 197 = .ok (.iload 5, 2) := by decide +kernel
theorem dX5_answerOf_199 : decode cX5_answerOf 199 = .ok (.invokestatic 267, 3) := by decide +kernel
theorem dX5_answerOf_202 : decode cX5_answerOf 202 = .ok (.sipush 1000, 3) := by decide +kernel
theorem dX5_answerOf_205 : decode cX5_answerOf 205 = .ok (.isub, 1) := by decide +kernel
theorem dX5_answerOf_206 : decode cX5_answerOf 206 = .ok (.ireturn, 1) := by decide +kernel
theorem dX5_answerOf_207 : decode cX5_answerOf 207 = .ok (.bipush 20, 2) := by decide +kernel
theorem dX5_answerOf_209 : decode cX5_answerOf 209 = .ok (.aload_n 1, 1) := by decide +kernel
theorem dX5_answerOf_210 : decode cX5_answerOf 210 = .ok (.iload_n 2, 1) := by decide +kernel
theorem dX5_answerOf_211 : decode cX5_answerOf 211 = .ok (.aload_n 3, 1) := by decide +kernel
theorem dX5_answerOf_212 : decode cX5_answerOf 212 = .ok (.iload 5, 2) := by decide +kernel
theorem dX5_answerOf_214 : decode cX5_answerOf 214 = .ok (.invokestatic 267, 3) := by decide +kernel
theorem dX5_answerOf_217 : decode cX5_answerOf 217 = .ok (.aload_n 1, 1) := by decide +kernel
theorem dX5_answerOf_218 : decode cX5_answerOf 218 = .ok (.getfield 257, 3) := by decide +kernel
theorem dX5_answerOf_221 : decode cX5_answerOf 221 = .ok (.iload_n 2, 1) := by decide +kernel
theorem dX5_answerOf_222 : decode cX5_answerOf 222 = .ok (.iaload, 1) := by decide +kernel
theorem dX5_answerOf_223 : decode cX5_answerOf 223 = .ok (.iconst 0, 1) := by decide +kernel
theorem dX5_answerOf_224 : decode cX5_answerOf 224 = .ok (.invokestatic 264, 3) := by decide +kernel
theorem dX5_answerOf_227 : decode cX5_answerOf 227 = .ok (.aload_n 1, 1) := by decide +kernel
theorem dX5_answerOf_228 : decode cX5_answerOf 228 = .ok (.iload_n 2, 1) := by decide +kernel
theorem dX5_answerOf_229 : decode cX5_answerOf 229 = .ok (.aload_n 3, 1) := by decide +kernel
theorem dX5_answerOf_230 : decode cX5_answerOf 230 = .ok (.iload 5, 2) := by decide +kernel
theorem dX5_answerOf_232 : decode cX5_answerOf 232 = .ok (.invokestatic 267, 3) := by decide +kernel
theorem dX5_answerOf_235 : decode cX5_answerOf 235 = .ok (.isub, 1) := by decide +kernel
theorem dX5_answerOf_236 : decode cX5_answerOf 236 = .ok (.ireturn, 1) := by decide +kernel
theorem dX5_answerOf_237 : decode cX5_answerOf 237 = .ok (.bipush 21, 2) := by decide +kernel
theorem dX5_answerOf_239 : decode cX5_answerOf 239 = .ok (.aload_n 1, 1) := by decide +kernel
theorem dX5_answerOf_240 : decode cX5_answerOf 240 = .ok (.iload_n 2, 1) := by decide +kernel
theorem dX5_answerOf_241 : decode cX5_answerOf 241 = .ok (.aload_n 3, 1) := by decide +kernel
theorem dX5_answerOf_242 : decode cX5_answerOf 242 = .ok (.iload 5, 2) := by decide +kernel
theorem dX5_answerOf_244 : decode cX5_answerOf 244 = .ok (.invokestatic 267, 3) := by decide +kernel
theorem dX5_answerOf_247 : decode cX5_answerOf 247 = .ok (.iconst 2, 1) := by decide +kernel
theorem dX5_answerOf_248 : decode cX5_answerOf 248 = .ok (.imul, 1) := by decide +kernel
theorem dX5_answerOf_249 : decode cX5_answerOf 249 = .ok (.ireturn, 1) := by decide +kernel
theorem dX5_answerOf_250 : decode cX5_answerOf 250 = .ok (.iconst 0, 1) := by decide +kernel
theorem dX5_answerOf_251 : decode cX5_answerOf 251 = .ok (.ireturn, 1) := by decide +kernel
theorem dX6_init_0 : decode cX6_init 0 = .ok (.aload_n 0, 1) := by decide +kernel
theorem dX6_init_1 : decode cX6_init 1 = .ok (.invokespecial 1, 3) := by decide +kernel
theorem dX6_init_4 : decode cX6_init 4 = .ok (.aload_n 0, 1) := by decide +kernel
theorem dX6_init_5 : decode cX6_init 5 = .ok (.bipush 8, 2) := by decide +kernel
theorem dX6_init_7 : decode cX6_init 7 = .ok (.newarray .int, 2) := by decide +kernel
theorem dX6_init_9 : decode cX6_init 9 = .ok (.putfield 7, 3) := by decide +kernel
theorem dX6_init_12 : decode cX6_init 12 = .ok (.aload_n 0, 1) := by decide +kernel
theorem dX6_init_13 : decode cX6_init 13 = .ok (.bipush 8, 2) := by decide +kernel
theorem dX6_init_15 : decode cX6_init 15 = .ok (.newarray .int, 2) := by decide +kernel
theorem dX6_init_17 : decode cX6_init 17 = .ok (.putfield 13, 3) := by decide +kernel
theorem dX6_init_20 : decode cX6_init 20 = .ok (.aload_n 0, 1) := by decide +kernel
theorem dX6_init_21 : decode cX6_init 21 = .ok (.sipush 320, 3) := by decide +kernel
theorem dX6_init_24 : decode cX6_init 24 = .ok (.newarray .int, 2) := by decide +kernel
theorem dX6_init_26 : decode cX6_init 26 = .ok (.putfield 16, 3) := by decide +kernel
theorem dX6_init_29 : decode cX6_init 29 = .ok (.aload_n 0, 1) := by decide +kernel
theorem dX6_init_30 : decode cX6_init 30 = .ok (.bipush 40, 2) := by decide +kernel
theorem dX6_init_32 : decode cX6_init 32 = .ok (.newarray .int, 2) := by decide +kernel
theorem dX6_init_34 : decode cX6_init 34 = .ok (.putfield 19, 3) := by decide +kernel
theorem dX6_init_37 : decode cX6_init 37 = .ok (.aload_n 0, 1) := by decide +kernel
theorem dX6_init_38 : decode cX6_init 38 = .ok (.bipush 90, 2) := by decide +kernel
theorem dX6_init_40 : decode cX6_init 40 = .ok (.newarray .int, 2) := by decide +kernel
theorem dX6_init_42 : decode cX6_init 42 = .ok (.putfield 22, 3) := by decide +kernel
theorem dX6_init_45 : decode cX6_init 45 = .ok (.aload_n 0, 1) := by decide +kernel
theorem dX6_init_46 : decode cX6_init 46 = .ok (.bipush 25, 2) := by decide +kernel
theorem dX6_init_48 : decode cX6_init 48 = .ok (.newarray .int, 2) := by decide +kernel
theorem dX6_init_50 : decode cX6_init 50 = .ok (.putfield 25, 3) := by decide +kernel
theorem dX6_init_53 : decode cX6_init 53 = .ok (.aload_n 0, 1) := by decide +kernel
theorem dX6_init_54 : decode cX6_init 54 = .ok (.bipush 25, 2) := by decide +kernel
theorem dX6_init_56 : decode cX6_init 56 = .ok (.newarray .int, 2) := by decide +kernel
theorem dX6_init_58 : decode cX6_init 58 = .ok (.putfield 28, 3) := by decide +kernel
theorem dX6_init_61 : decode cX6_init 61 = .ok (.aload_n 0, 1) := by decide +kernel
theorem dX6_init_62 : decode cX6_init 62 = .ok (.bipush 50, 2) := by decide +kernel
theorem dX6_init_64 : decode cX6_init 64 = .ok (.newarray .int, 2) := by decide +kernel
theorem dX6_init_66 : decode cX6_init 66 = .ok (.putfield 31, 3) := by decide +kernel
theorem dX6_init_69 : decode cX6_init 69 = .ok (.aload_n 0, 1) := by decide +kernel
theorem dX6_init_70 : decode cX6_init 70 = .ok (.iconst 2, 1) := by decide +kernel
theorem dX6_init_71 : decode cX6_init 71 = .ok (.newarray .boolean, 2) := by decide +kernel
theorem dX6_init_73 : decode cX6_init 73 = .ok (.putfield 34, 3) := by decide +kernel
theorem dX6_init_76 : decode cX6_init 76 = .ok (.aload_n 0, 1) := by decide +kernel
theorem dX6_init_77 : decode cX6_init 77 = .ok (.sipush 384, 3) := by decide +kernel
theorem dX6_init_80 : decode cX6_init 80 = .ok (.newarray .int, 2) := by decide +kernel
theorem dX6_init_82 : decode cX6_init 82 = .ok (.putfield 38, 3) := by decide +kernel
theorem dX6_init_85 : decode cX6_init 85 = .ok (.aload_n 0, 1) := by decide +kernel
theorem dX6_init_86 : decode cX6_init 86 = .ok (.bipush 25, 2) := by decide +kernel
theorem dX6_init_88 : decode cX6_init 88 = .ok (.newarray .int, 2) := by decide +kernel
theorem dX6_init_90 : decode cX6_init 90 = .ok (.putfield 41, 3) := by decide +kernel
theorem dX6_init_93 : decode cX6_init 93 = .ok (.aload_n 0, 1) := by decide +kernel
theorem dX6_init_94 : decode cX6_init 94 = .ok (.bipush 25, 2) := by decide +kernel
theorem dX6_init_96 : decode cX6_init 96 = .ok (.newarray .int, 2) := by decide +kernel
theorem dX6_init_98 : decode cX6_init 98 = .ok (.putfield 44, 3) := by decide +kernel
theorem dX6_init_101 : decode cX6_init 101 = .ok (.aload_n 0, 1) := by decide +kernel
theorem dX6_init_102 : decode cX6_init 102 = .ok (.bipush 16, 2) := by decide +kernel
theorem dX6_init_104 : decode cX6_init 104 = .ok (.newarray .int, 2) := by decide +kernel
theorem dX6_init_106 : decode cX6_init 106 = .ok (.putfield 47, 3) := by decide +kernel
theorem dX6_init_109 : decode cX6_init 109 = .ok (.iconst 0, 1) := by decide +kernel
theorem dX6_init_110 : decode cX6_init 110 = .ok (.istore_n 1, 1) := by decide +kernel
theorem dX6_init_111 : decode cX6_init 111 = .ok (.iload_n 1, 1) := by decide +kernel
theorem dX6_init_112 : decode cX6_init 112 = .ok (.bipush 8, 2) := by decide +kernel
theorem dX6_init_114 : decode cX6_init 114 = .ok (.if_icmp .ge 16, 3) := by decide +kernel
theorem dX6_init_117 : decode cX6_init 117 = .ok (.aload_n 0, 1) := by decide +kernel
theorem dX6_init_118 : decode cX6_init 118 = .ok (.getfield 7, 3) := by decide +kernel
theorem dX6_init_121 : decode cX6_init 121 = .ok (.iload_n 1, 1) := by decide +kernel
theorem dX6_init_122 : decode cX6_init 122 = .ok (.iconst (-1), 1) := by decide +kernel
theorem dX6_init_123 : decode cX6_init 123 = .ok (.iastore, 1) := by decide +kernel
theorem dX6_init_124 : decode cX6_init 124 = .ok (.iinc 1 1, 3) := by decide +kernel
theorem dX6_init_127 : decode cX6_init 127 = .ok (.goto (-16), 3) := by decide +kernel
theorem dX6_init_130 : decode cX6_init 130 = .ok (.return_, 1) := by decide +kernel
theorem dX6_in_0 : decode cX6_in 0 = .ok (.iload_n 0, 1) := by decide +kernel
theorem dX6_in_1 : decode cX6_in 1 = .ok (.iload_n 1, 1) := by decide +kernel
theorem dX6_in_2 : decode cX6_in 2 = .ok (.if_icmp .lt 12, 3) := by decide +kernel
theorem dX6_in_5 : decode cX6_in 5 = .ok (.iload_n 0, 1) := by decide +kernel
theorem dX6_in_6 : decode cX6_in 6 = .ok (.iload_n 2, 1) := by decide +kernel
theorem dX6_in_7 : decode cX6_in 7 = .ok (.if_icmp .gt 7, 3) := by decide +kernel
theorem dX6_in_10 : decode cX6_in 10 = .ok (.iconst 1, 1) := by decide +kernel
theorem dX6_in_11 : decode cX6_in 11 = .ok (.goto 4, 3) := by decide +kernel
theorem dX6_in_14 : decode cX6_in 14 = .ok (.iconst 0, 1) := by decide +kernel
theorem dX6_in_15 : decode cX6_in 15 = .ok (.ireturn, 1) := by decide +kernel
theorem dX6_isRow_0 : decode cX6_isRow 0 = .ok (.iload_n 0, 1) := by decide +kernel
theorem dX6_isRow_1 : decode cX6_isRow 1 = .ok (.iconst 0, 1) := by decide +kernel
theorem dX6_isRow_2 : decode cX6_isRow 2 = .ok (.bipush 7, 2) := by decide +kernel
theorem dX6_isRow_4 : decode cX6_isRow 4 = .ok (.invokestatic 50, 3) := by decide +kernel
theorem dX6_isRow_7 : decode cX6_isRow 7 = .ok (.ireturn, 1) := by decide +kernel
theorem dX6_ends_0 : decode cX6_ends 0 = .ok (.aload_n 0, 1) := by decide +kernel
theorem dX6_ends_1 : decode cX6_ends 1 = .ok (.iload_n 1, 1) := by decide +kernel
theorem dX6_ends_2 : decode cX6_ends 2 = .ok (.ldc 54, 2) := by decide +kernel
theorem dX6_ends_4 : decode cX6_ends 4 = .ok (.ldc 55, 2) := by decide +kernel
theorem dX6_ends_6 : decode cX6_ends 6 = .ok (.invokestatic 50, 3) := by decide +kernel
theorem dX6_ends_9 : decode cX6_ends 9 = .ok (.ifCond .eq 10, 3) := by decide +kernel
theorem dX6_ends_12 : decode cX6_ends 12 = .ok (.ldc 56, 2) := by decide +kernel
theorem dX6_ends_14 : decode cX6_ends 14 = .ok (.iload_n 1, 1) := by decide +kernel
theorem dX6_ends_15 : decode cX6_ends 15 = .ok (.isub, 1) := by decide +kernel
theorem dX6_ends_16 : decode cX6_ends 16 = .ok (.goto 4, 3) := by decide +kernel
theorem dX6_ends_19 : decode cX6_ends 19 = .ok (.iconst 0, 1) := by decide +kernel
theorem dX6_ends_20 : decode cX6_ends 20 = .ok (.putfield 57, 3) := by decide +kernel
theorem dX6_ends_23 : decode cX6_ends 23 = .ok (.iload_n 1, 1) := by decide +kernel
theorem dX6_ends_24 : decode cX6_ends 24 = .ok (.ireturn, 1) := by decide +kernel
theorem dX6_cut_0 : decode cX6_cut 0 = .ok (.iload_n 0, 1) := by decide +kernel
theorem dX6_cut_1 : decode cX6_cut 1 = .ok (.ifCond .ne 8, 3) := by decide +kernel
theorem dX6_cut_4 : decode cX6_cut 4 = .ok (.iload_n 1, 1) := by decide +kernel
theorem dX6_cut_5 : decode cX6_cut 5 = .ok (.i2b, 1) := by decide +kernel
theorem dX6_cut_6 : decode cX6_cut 6 = .ok (.goto 14, 3) := by decide +kernel
theorem dX6_cut_9 : decode cX6_cut 9 = .ok (.iload_n 0, 1) := by decide +kernel
theorem dX6_cut_10 : decode cX6_cut 10 = .ok (.iconst 1, 1) := by decide +kernel
theorem dX6_cut_11 : decode cX6_cut 11 = .ok (.if_icmp .ne 8, 3) := by decide +kernel
theorem dX6_cut_14 : decode cX6_cut 14 = .ok (.iload_n 1, 1) := by decide +kernel
theorem dX6_cut_15 : decode cX6_cut 15 = .ok (.i2s, 1) := by decide +kernel
theorem dX6_cut_16 : decode cX6_cut 16 = .ok (.goto 4, 3) := by decide +kernel
theorem dX6_cut_19 : decode cX6_cut 19 = .ok (.iload_n 1, 1) := by decide +kernel
theorem dX6_cut_20 : decode cX6_cut 20 = .ok (.ireturn, 1) := by decide +kernel
theorem dX6_row_0 : decode cX6_row 0 = .ok (.iload_n 1, 1) := by decide +kernel
theorem dX6_row_1 : decode cX6_row 1 = .ok (.invokestatic 61, 3) := by decide +kernel
theorem dX6_row_4 : decode cX6_row 4 = .ok (.ifCond .eq 18, 3) := by decide +kernel
theorem dX6_row_7 : decode cX6_row 7 = .ok (.iload_n 2, 1) := by decide +kernel
theorem dX6_row_8 : decode cX6_row 8 = .ok (.iconst 0, 1) := by decide +kernel
theorem dX6_row_9 : decode cX6_row 9 = .ok (.iconst 2, 1) := by decide +kernel
theorem dX6_row_10 : decode cX6_row 10 = .ok (.invokestatic 50, 3) := by decide +kernel
theorem dX6_row_13 : decode cX6_row 13 = .ok (.ifCond .eq 9, 3) := by decide +kernel
theorem dX6_row_16 : decode cX6_row 16 = .ok (.iload_n 3, 1) := by decide +kernel
theorem dX6_row_17 : decode cX6_row 17 = .ok (.bipush 40, 2) := by decide +kernel
theorem dX6_row_19 : decode cX6_row 19 = .ok (.if_icmp .le 6, 3) := by decide +kernel
theorem dX6_row_22 : decode cX6_row 22 = .ok (.ldc 65, 2) := by decide +kernel
theorem dX6_row_24 : decode cX6_row 24 = .ok (.ireturn, 1) := by decide +kernel
theorem dX6_row_25 : decode cX6_row 25 = .ok (.iload_n 3, 1) := by decide +kernel
theorem dX6_row_26 : decode cX6_row 26 = .ok (.ifCond .ge 10, 3) := by decide +kernel
theorem dX6_row_29 : decode cX6_row 29 = .ok (.aload_n 0, 1) := by decide +kernel
theorem dX6_row_30 : decode cX6_row 30 = .ok (.ldc 66, 2) := by decide +kernel
theorem dX6_row_32 : decode cX6_row 32 = .ok (.invokevirtual 67, 3) := by decide +kernel
theorem dX6_row_35 : decode cX6_row 35 = .ok (.ireturn, 1) := by decide +kernel
theorem dX6_row_36 : decode cX6_row 36 = .ok (.aload_n 0, 1) := by decide +kernel
theorem dX6_row_37 : decode cX6_row 37 = .ok (.getfield 7, 3) := by decide +kernel
theorem dX6_row_40 : decode cX6_row 40 = .ok (.iload_n 1, 1) := by decide +kernel
theorem dX6_row_41 : decode cX6_row 41 = .ok (.iload_n 3, 1) := by decide +kernel
theorem dX6_row_42 : decode cX6_row 42 = .ok (.iastore, 1) := by decide +kernel
theorem dX6_row_43 : decode cX6_row 43 = .ok (.aload_n 0, 1) := by decide +kernel
theorem dX6_row_44 : decode cX6_row 44 = .ok (.getfield 13, 3) := by decide +kernel
theorem dX6_row_47 : decode cX6_row 47 = .ok (.iload_n 1, 1) := by decide +kernel
theorem dX6_row_48 : decode cX6_row 48 = .ok (.iload_n 2, 1) := by decide +kernel
theorem dX6_row_49 : decode cX6_row 49 = .ok (.iastore, 1) := by decide +kernel
theorem dX6_row_50 : decode cX6_row 50 = .ok (.iconst 0, 1) := by decide +kernel
theorem dX6_row_51 : decode cX6_row 51 = .ok (.istore 4, 2) := by decide +kernel
theorem dX6_row_53 : decode cX6_row 53 = .ok (.iload 4, 2) := by decide +kernel
theorem dX6_row_55 : decode cX6_row 55 = .ok (.bipush 40, 2) := by decide +kernel
theorem dX6_row_57 : decode cX6_row 57 = .ok (.if_icmp .ge 22, 3) := by decide +kernel
theorem dX6_row_60 : decode cX6_row 60 = .ok (.aload_n 0, 1) := by decide +kernel
theorem dX6_row_61 : decode cX6_row 61 = .ok (.getfield 16, 3) := by decide +kernel
theorem dX6_row_64 : decode cX6_row 64 = .ok (.bipush 40, 2) := by decide +kernel
theorem dX6_row_66 : decode cX6_row 66 = .ok (.iload_n 1, 1) := by decide +kernel
theorem dX6_row_67 : decode cX6_row 67 = .ok (.imul, 1) := by decide +kernel
theorem dX6_row_68 : decode cX6_row 68 = .ok (.iload 4, 2) := by decide +kernel
theorem dX6_row_70 : decode cX6_row 70 = .ok (.iadd, 1) := by decide +kernel
theorem dX6_row_71 : decode cX6_row 71 = .ok (.iconst 0, 1) := by decide +kernel
theorem dX6_row_72 : decode cX6_row 72 = .ok (.iastore, 1) := by decide +kernel
theorem dX6_row_73 : decode cX6_row 73 = .ok (.iinc 4 1, 3) := by decide +kernel
theorem dX6_row_76 : decode cX6_row 76 = .ok (.goto (-23), 3) := by decide +kernel
theorem dX6_row_79 : decode cX6_row 79 = .ok (.aload_n 0, 1) := by decide +kernel
theorem dX6_row_80 : decode cX6_row 80 = .ok (.iload_n 3, 1) := by decide +kernel
theorem dX6_row_81 : decode cX6_row 81 = .ok (.invokevirtual 67, 3) := by decide +kernel
theorem dX6_row_84 : decode cX6_row 84 = .ok (.ireturn, 1) := by decide +kernel
theorem dX6_lies_0 : decode cX6_lies 0 = .ok (.iload_n 2, 1) := by decide +kernel
theorem dX6_lies_1 : decode cX6_lies 1 = .ok (.ifCond .lt 33, 3) := by decide +kernel
theorem dX6_lies_4 : decode cX6_lies 4 = .ok (.iload_n 3, 1) := by decide +kernel
theorem dX6_lies_5 : decode cX6_lies 5 = .ok (.ifCond .lt 29, 3) := by decide +kernel
theorem dX6_lies_8 : decode cX6_lies 8 = .ok (.iload_n 3, 1) := by decide +kernel
theorem dX6_lies_9 : decode cX6_lies 9 = .ok (.aload_n 0, 1) := by decide +kernel
theorem dX6_lies_10 : decode cX6_lies 10 = .ok (.getfield 7, 3) := by decide +kernel
theorem dX6_lies_13 : decode cX6_lies 13 = .ok (.iload_n 1, 1) := by decide +kernel
theorem dX6_lies_14 : decode cX6_lies 14 = .ok (.iaload, 1) := by decide +kernel
theorem dX6_lies_15 : decode cX6_lies 15 = .ok (.if_icmp .gt 19, 3) := by decide +kernel
theorem dX6_lies_18 : decode cX6_lies 18 = .ok (.iload_n 2, 1) := by decide +kernel
theorem dX6_lies_19 : decode cX6_lies 19 = .ok (.aload_n 0, 1) := by decide +kernel
theorem dX6_lies_20 : decode cX6_lies 20 = .ok (.getfield 7, 3) := by decide +kernel
theorem dX6_lies_23 : decode cX6_lies 23 = .ok (.iload_n 1, 1) := by decide +kernel
theorem dX6_lies_24 : decode cX6_lies 24 = .ok (.iaload, 1) := by decide +kernel
theorem dX6_lies_25 : decode cX6_lies 25 = .ok (.iload_n 3, 1) := by decide +kernel
theorem dX6_lies_26 : decode cX6_lies 26 = .ok (.isub, 1) := by decide +kernel
theorem dX6_lies_27 : decode cX6_lies 27 = .ok (.if_icmp .gt 7, 3) := by decide +kernel
theorem dX6_lies_30 : decode cX6_lies 30 = .ok (.iconst 1, 1) := by decide +kernel
theorem dX6_lies_31 : decode cX6_lies 31 = .ok (.goto 4, 3) := by decide +kernel
theorem dX6_lies_34 : decode cX6_lies 34 = .ok (.iconst 0, 1) := by decide +kernel
theorem dX6_lies_35 : decode cX6_lies 35 = .ok (.ireturn, 1) := by decide +kernel
theorem dX6_set_0 : decode cX6_set 0 = .ok (.iload_n 1, 1) := by decide +kernel
theorem dX6_set_1 : decode cX6_set 1 = .ok (.invokestatic 61, 3) := by decide +kernel
theorem dX6_set_4 : decode cX6_set 4 = .ok (.ifCond .ne 6, 3) := by decide +kernel
theorem dX6_set_7 : decode cX6_set 7 = .ok (.ldc 65, 2) := by decide +kernel
theorem dX6_set_9 : decode cX6_set 9 = .ok (.ireturn, 1) := by decide +kernel
theorem dX6_set_10 : decode cX6_set 10 = .ok (.aload_n 0, 1) := by decide +kernel
theorem dX6_set_11 : decode cX6_set 11 = .ok (.getfield 7, 3) := by decide +kernel
theorem dX6_set_14 : decode cX6_set 14 = .ok (.iload_n 1, 1) := by decide +kernel
theorem dX6_set_15 : decode cX6_set 15 = .ok (.iaload, 1) := by decide +kernel
theorem dX6_set_16 : decode cX6_set 16 = .ok (.ifCond .ge 10, 3) := by decide +kernel
theorem dX6_set_19 : decode cX6_set 19 = .ok (.aload_n 0, 1) := by decide +kernel
theorem dX6_set_20 : decode cX6_set 20 = .ok (.ldc 55, 2) := by decide +kernel
theorem dX6_set_22 : decode cX6_set 22 = .ok (.invokevirtual 67, 3) := by decide +kernel
theorem dX6_set_25 : decode cX6_set 25 = .ok (.ireturn, 1) := by decide +kernel
theorem dX6_set_26 : decode cX6_set 26 = .ok (.aload_n 0, 1) := by decide +kernel
theorem dX6_set_27 : decode cX6_set 27 = .ok (.iload_n 1, 1) := by decide +kernel
theorem dX6_set_28 : decode cX6_set 28 = .ok (.iload_n 2, 1) := by decide +kernel
theorem dX6_set_29 : decode cX6_set 29 = .ok (.iconst 1, 1) := by decide +kernel
theorem dX6_set_30 : decode cX6_set 30 = .ok (.invokevirtual 71, 3) := by decide +kernel
theorem dX6_set_33 : decode cX6_set 33 = .ok (.ifCond .ne 10, 3) := by decide +kernel
theorem dX6_set_36 : decode cX6_set 36 = .ok (.aload_n 0, 1) := by decide +kernel
theorem dX6_set_37 : decode cX6_set 37 = .ok (.ldc 74, 2) := by decide +kernel
theorem dX6_set_39 : decode cX6_set 39 = .ok (.invokevirtual 67, 3) := by decide +kernel
theorem dX6_set_42 : decode cX6_set 42 = .ok (.ireturn, 1) := by decide +kernel
theorem dX6_set_43 : decode cX6_set 43 = .ok (.aload_n 0, 1) := by decide +kernel
theorem dX6_set_44 : decode cX6_set 44 = .ok (.getfield 13, 3) := by decide +kernel
theorem dX6_set_47 : decode cX6_set 47 = .ok (.iload_n 1, 1) := by decide +kernel
theorem dX6_set_48 : decode cX6_set 48 = .ok (.iaload, 1) := by decide +kernel
theorem dX6_set_49 : decode cX6_set 49 = .ok (.iload_n 3, 1) := by decide +kernel
theorem dX6_set_50 : decode cX6_set 50 = .ok (.invokestatic 75, 3) := by decide +kernel
theorem dX6_set_53 : decode cX6_set 53 = .ok (.istore 4, 2) := by decide +kernel
theorem dX6_set_55 : decode cX6_set 55 = .ok (.aload_n 0, 1) := by decide +kernel
theorem dX6_set_56 : decode cX6_set 56 = .ok (.getfield 16, 3) := by decide +kernel
theorem dX6_set_59 : decode cX6_set 59 = .ok (.bipush 40, 2) := by decide +kernel
theorem dX6_set_61 : decode cX6_set 61 = .ok (.iload_n 1, 1) := by decide +kernel
theorem dX6_set_62 : decode cX6_set 62 = .ok (.imul, 1) := by decide +kernel
theorem dX6_set_63 : decode cX6_set 63 = .ok (.iload_n 2, 1) := by decide +kernel
theorem dX6_set_64 : decode cX6_set 64 = .ok (.iadd, 1) := by decide +kernel
theorem dX6_set_65 : decode cX6_set 65 = .ok (.iload 4, 2) := by decide +kernel
theorem dX6_set_67 : decode cX6_set 67 = .ok (.iastore, 1) := by decide +kernel
theorem dX6_set_68 : decode cX6_set 68 = .ok (.aload_n 0, 1) := by decide +kernel
theorem dX6_set_69 : decode cX6_set 69 = .ok (.iconst 0, 1) := by decide +kernel
theorem dX6_set_70 : decode cX6_set 70 = .ok (.putfield 57, 3) := by decide +kernel
theorem dX6_set_73 : decode cX6_set 73 = .ok (.iload 4, 2) := by decide +kernel
theorem dX6_set_75 : decode cX6_set 75 = .ok (.ireturn, 1) := by decide +kernel
theorem dX6_copy_0 : decode cX6_copy 0 = .ok (.iload_n 1, 1) := by decide +kernel
theorem dX6_copy_1 : decode cX6_copy 1 = .ok (.invokestatic 61, 3) := by decide +kernel
theorem dX6_copy_4 : decode cX6_copy 4 = .ok (.ifCond .eq 10, 3) := by decide +kernel
theorem dX6_copy_7 : decode cX6_copy 7 = .ok (.iload_n 3, 1) := by decide +kernel
theorem dX6_copy_8 : decode cX6_copy 8 = .ok (.invokestatic 61, 3) := by decide +kernel
theorem dX6_copy_11 : decode cX6_copy 11 = .ok (.ifCond .ne 6, 3) := by decide +kernel
theorem dX6_copy_14 : decode cX6_copy 14 = .ok (.ldc 65, 2) := by decide +kernel
theorem dX6_copy_16 : decode cX6_copy 16 = .ok (.ireturn, 1) := by decide +kernel
theorem dX6_copy_17 : decode cX6_copy 17 = .ok (.aload_n 0, 1) := by decide +kernel
theorem dX6_copy_18 : decode cX6_copy 18 = .ok (.getfield 7, 3) := by decide +kernel
theorem dX6_copy_21 : decode cX6_copy 21 = .ok (.iload_n 1, 1) := by decide +kernel
theorem dX6_copy_22 : decode cX6_copy 22 = .ok (.iaload, 1) := by decide +kernel
theorem dX6_copy_23 : decode cX6_copy 23 = .ok (.ifCond .lt 12, 3) := by decide +kernel
theorem dX6_copy_26 : decode cX6_copy 26 = .ok (.aload_n 0, 1) := by decide +kernel
theorem dX6_copy_27 : decode cX6_copy 27 = .ok (.getfield 7, 3) := by decide +kernel
theorem dX6_copy_30 : decode cX6_copy 30 = .ok (.iload_n 3, 1) := by decide +kernel
theorem dX6_copy_31 : decode cX6_copy 31 = .ok (.iaload, 1) := by decide +kernel
theorem dX6_copy_32 : decode cX6_copy 32 = .ok (.ifCond .ge 10, 3) := by decide +kernel
theorem dX6_copy_35 : decode cX6_copy 35 = .ok (.aload_n 0, 1) := by decide +kernel
theorem dX6_copy_36 : decode cX6_copy 36 = .ok (.ldc 55, 2) := by decide +kernel
theorem dX6_copy_38 : decode cX6_copy 38 = .ok (.invokevirtual 67, 3) := by decide +kernel
theorem dX6_copy_41 : decode cX6_copy 41 = .ok (.ireturn, 1) := by decide +kernel
theorem dX6_copy_42 : decode cX6_copy 42 = .ok (.aload_n 0, 1) := by decide +kernel
theorem dX6_copy_43 : decode cX6_copy 43 = .ok (.getfield 13, 3) := by decide +kernel
theorem dX6_copy_46 : decode cX6_copy 46 = .ok (.iload_n 1, 1) := by decide +kernel
theorem dX6_copy_47 : decode cX6_copy 47 = .ok (.iaload, 1) := by decide +kernel
theorem dX6_copy_48 : decode cX6_copy 48 = .ok (.aload_n 0, 1) := by decide +kernel
theorem dX6_copy_49 : decode cX6_copy 49 = .ok (.getfield 13, 3) := by decide +kernel
theorem dX6_copy_52 : decode cX6_copy 52 = .ok (.iload_n 3, 1) := by decide +kernel
theorem dX6_copy_53 : decode cX6_copy 53 = .ok (.iaload, 1) := by decide +kernel
theorem dX6_copy_54 : decode cX6_copy 54 = .ok (.if_icmp .eq 10, 3) := by decide +kernel
theorem dX6_copy_57 : decode cX6_copy 57 = .ok (.aload_n 0, 1) := by decide +kernel
theorem dX6_copy_58 : decode cX6_copy 58 = .ok (.ldc 54, 2) := by decide +kernel
theorem dX6_copy_60 : decode cX6_copy 60 = .ok (.invokevirtual 67, 3) := by decide +kernel
theorem dX6_copy_63 : decode cX6_copy 63 = .ok (.ireturn, 1) := by decide +kernel
theorem dX6_copy_64 : decode cX6_copy 64 = .ok (.aload_n 0, 1) := by decide +kernel
theorem dX6_copy_65 : decode cX6_copy 65 = .ok (.iload_n 1, 1) := by decide +kernel
theorem dX6_copy_66 : decode cX6_copy 66 = .ok (.iload_n 2, 1) := by decide +kernel
theorem dX6_copy_67 : decode cX6_copy 67 = .ok (.iload 5, 2) := by decide +kernel
theorem dX6_copy_69 : decode cX6_copy 69 = .ok (.invokevirtual 71, 3) := by decide +kernel
theorem dX6_copy_72 : decode cX6_copy 72 = .ok (.ifCond .eq 15, 3) := by decide +kernel
theorem dX6_copy_75 : decode cX6_copy 75 = .ok (.aload_n 0, 1) := by decide +kernel
theorem dX6_copy_76 : decode cX6_copy 76 = .ok (.iload_n 3, 1) := by decide +kernel
theorem dX6_copy_77 : decode cX6_copy 77 = .ok (.iload 4, 2) := by decide +kernel
theorem dX6_copy_79 : decode cX6_copy 79 = .ok (.iload 5, 2) := by decide +kernel
theorem dX6_copy_81 : decode cX6_copy 81 = .ok (.invokevirtual 71, 3) := by decide +kernel
theorem dX6_copy_84 : decode cX6_copy 84 = .ok (.ifCond .ne 10, 3) := by decide +kernel
theorem dX6_copy_87 : decode cX6_copy 87 = .ok (.aload_n 0, 1) := by decide +kernel
theorem dX6_copy_88 : decode cX6_copy 88 = .ok (.ldc 74, 2) := by decide +kernel
theorem dX6_copy_90 : decode cX6_copy 90 = .ok (.invokevirtual 67, 3) := by decide +kernel
theorem dX6_copy_93 : decode cX6_copy 93 = .ok (.ireturn, 1) := by decide +kernel
theorem dX6_copy_94 : decode cX6_copy 94 = .ok (.iconst 0, 1) := by decide +kernel
theorem dX6_copy_95 : decode cX6_copy 95 = .ok (.istore 6, 2) := by decide +kernel
theorem dX6_copy_97 : decode cX6_copy 97 = .ok (.iload 6, 2) := by decide +kernel
theorem dX6_copy_99 : decode cX6_copy 99 = .ok (.iload 5, 2) := by decide +kernel
theorem dX6_copy_101 : decode cX6_copy 101 = .ok (.if_icmp .ge 30, 3) := by decide +kernel
theorem dX6_copy_104 : decode cX6_copy 104 = .ok (.aload_n 0, 1) := by decide +kernel
theorem dX6_copy_105 : decode cX6_copy 105 = .ok (.getfield 19, 3) := by decide +kernel
theorem dX6_copy_108 : decode cX6_copy 108 = .ok (.iload 6, 2) := by decide +kernel
theorem dX6_copy_110 : decode cX6_copy 110 = .ok (.aload_n 0, 1) := by decide +kernel
theorem dX6_copy_111 : decode cX6_copy 111 = .ok (.getfield 16, 3) := by decide +kernel
theorem dX6_copy_114 : decode cX6_copy 114 = .ok (.bipush 40, 2) := by decide +kernel
theorem dX6_copy_116 : decode cX6_copy 116 = .ok (.iload_n 1, 1) := by decide +kernel
theorem dX6_copy_117 : decode cX6_copy 117 = .ok (.imul, 1) := by decide +kernel
theorem dX6_copy_118 : decode cX6_copy 118 = .ok (.iload_n 2, 1) := by decide +kernel
theorem dX6_copy_119 : decode cX6_copy 119 = .ok (.iadd, 1) := by decide +kernel
theorem dX6_copy_120 : decode cX6_copy 120 = .ok (.iload 6, 2) := by decide +kernel
theorem dX6_copy_122 : decode cX6_copy 122 = .ok (.iadd, 1) := by decide +kernel
theorem dX6_copy_123 : decode cX6_copy 123 = .ok (.iaload, 1) := by decide +kernel
theorem dX6_copy_124 : decode cX6_copy 124 = .ok (.iastore, 1) := by decide +kernel
theorem dX6_copy_125 : decode cX6_copy 125 = .ok (.iinc 6 1, 3) := by decide +kernel
theorem dX6_copy_128 : decode cX6_copy 128 = .ok (.goto (-31), 3) := by decide +kernel
theorem dX6_copy_131 : decode cX6_copy 131 = .ok (.iconst 0, 1) := by decide +kernel
theorem dX6_copy_132 : decode cX6_copy 132 = .ok (.istore 6, 2) := by decide +kernel
theorem dX6_copy_134 : decode cX6_copy 134 = .ok (.iload 6, 2) := by decide +kernel
theorem dX6_copy_136 : decode cX6_copy 136 = .ok (.iload 5, 2) := by decide +kernel
theorem dX6_copy_138 : decode cX6_copy 138 = .ok (.if_icmp .ge 31, 3) := by decide +kernel
theorem dX6_copy_141 : decode cX6_copy 141 = .ok (.aload_n 0, 1) := by decide +kernel
theorem dX6_copy_142 : decode cX6_copy 142 = .ok (.getfield 16, 3) := by decide +kernel
theorem dX6_copy_145 : decode cX6_copy 145 = .ok (.bipush 40, 2) := by decide +kernel
theorem dX6_copy_147 : decode cX6_copy 147 = .ok (.iload_n 3, 1) := by decide +kernel
theorem dX6_copy_148 : decode cX6_copy 148 = .ok (.imul, 1) := by decide +kernel
theorem dX6_copy_149 : decode cX6_copy 149 = .ok (.iload 4, 2) := by decide +kernel
theorem dX6_copy_151 : decode cX6_copy 151 = .ok (.iadd, 1) := by decide +kernel
theorem dX6_copy_152 : decode cX6_copy 152 = .ok (.iload 6, 2) := by decide +kernel
theorem dX6_copy_154 : decode cX6_copy 154 = .ok (.iadd, 1) := by decide +kernel
theorem dX6_copy_155 : decode cX6_copy 155 = .ok (.aload_n 0, 1) := by decide +kernel
theorem dX6_copy_156 : decode cX6_copy 156 = .ok (.getfield 19, 3) := by decide +kernel
theorem dX6_copy_159 : decode cX6_copy 159 = .ok (.iload 6, 2) := by decide +kernel
theorem dX6_copy_161 : decode cX6_copy 161 = .ok (.iaload, 1) := by decide +kernel
theorem dX6_copy_162 : decode cX6_copy 162 = .ok (.iastore, 1) := by decide +kernel
theorem dX6_copy_163 : decode cX6_copy 163 = .ok (.iinc 6 1, 3) := by decide +kernel
theorem dX6_copy_166 : decode cX6_copy 166 = .ok (.goto (-32), 3) := by decide +kernel
theorem dX6_copy_169 : decode cX6_copy 169 = .ok (.aload_n 0, 1) := by decide +kernel
theorem dX6_copy_170 : decode cX6_copy 170 = .ok (.iload 5, 2) := by decide +kernel
theorem dX6_copy_172 : decode cX6_copy 172 = .ok (.invokevirtual 67, 3) := by decide +kernel
theorem dX6_copy_175 : decode cX6_copy 175 = .ok (.ireturn, 1) := by decide +kernel
theorem dX6_drop_0 : decode cX6_drop 0 = .ok (.iload_n 1, 1) := by decide +kernel
theorem dX6_drop_1 : decode cX6_drop 1 = .ok (.invokestatic 61, 3) := by decide +kernel
theorem dX6_drop_4 : decode cX6_drop 4 = .ok (.ifCond .ne 6, 3) := by decide +kernel
theorem dX6_drop_7 : decode cX6_drop 7 = .ok (.ldc 65, 2) := by decide +kernel
theorem dX6_drop_9 : decode cX6_drop 9 = .ok (.ireturn, 1) := by decide +kernel
theorem dX6_drop_10 : decode cX6_drop 10 = .ok (.aload_n 0, 1) := by decide +kernel
theorem dX6_drop_11 : decode cX6_drop 11 = .ok (.getfield 7, 3) := by decide +kernel
theorem dX6_drop_14 : decode cX6_drop 14 = .ok (.iload_n 1, 1) := by decide +kernel
theorem dX6_drop_15 : decode cX6_drop 15 = .ok (.iaload, 1) := by decide +kernel
theorem dX6_drop_16 : decode cX6_drop 16 = .ok (.ifCond .ge 10, 3) := by decide +kernel
theorem dX6_drop_19 : decode cX6_drop 19 = .ok (.aload_n 0, 1) := by decide +kernel
theorem dX6_drop_20 : decode cX6_drop 20 = .ok (.ldc 55, 2) := by decide +kernel
theorem dX6_drop_22 : decode cX6_drop 22 = .ok (.invokevirtual 67, 3) := by decide +kernel
theorem dX6_drop_25 : decode cX6_drop 25 = .ok (.ireturn, 1) := by decide +kernel
theorem dX6_drop_26 : decode cX6_drop 26 = .ok (.aload_n 0, 1) := by decide +kernel
theorem dX6_drop_27 : decode cX6_drop 27 = .ok (.getfield 7, 3) := by decide +kernel
theorem dX6_drop_30 : decode cX6_drop 30 = .ok (.iload_n 1, 1) := by decide +kernel
theorem dX6_drop_31 : decode cX6_drop 31 = .ok (.iaload, 1) := by decide +kernel
theorem dX6_drop_32 : decode cX6_drop 32 = .ok (.istore_n 2, 1) := by decide +kernel
theorem dX6_drop_33 : decode cX6_drop 33 = .ok (.aload_n 0, 1) := by decide +kernel
theorem dX6_drop_34 : decode cX6_drop 34 = .ok (.getfield 7, 3) := by decide +kernel
theorem dX6_drop_37 : decode cX6_drop 37 = .ok (.iload_n 1, 1) := by decide +kernel
theorem dX6_drop_38 : decode cX6_drop 38 = .ok (.iconst (-1), 1) := by decide +kernel
theorem dX6_drop_39 : decode cX6_drop 39 = .ok (.iastore, 1) := by decide +kernel
theorem dX6_drop_40 : decode cX6_drop 40 = .ok (.aload_n 0, 1) := by decide +kernel
theorem dX6_drop_41 : decode cX6_drop 41 = .ok (.iload_n 2, 1) := by decide +kernel
theorem dX6_drop_42 : decode cX6_drop 42 = .ok (.invokevirtual 67, 3) := by decide +kernel
theorem dX6_drop_45 : decode cX6_drop 45 = .ok (.ireturn, 1) := by decide +kernel
theorem dX6_feed_0 : decode cX6_feed 0 = .ok (.iload_n 1, 1) := by decide +kernel
theorem dX6_feed_1 : decode cX6_feed 1 = .ok (.iconst 0, 1) := by decide +kernel
theorem dX6_feed_2 : decode cX6_feed 2 = .ok (.sipush 255, 3) := by decide +kernel
theorem dX6_feed_5 : decode cX6_feed 5 = .ok (.invokestatic 50, 3) := by decide +kernel
theorem dX6_feed_8 : decode cX6_feed 8 = .ok (.ifCond .ne 6, 3) := by decide +kernel
theorem dX6_feed_11 : decode cX6_feed 11 = .ok (.ldc 65, 2) := by decide +kernel
theorem dX6_feed_13 : decode cX6_feed 13 = .ok (.ireturn, 1) := by decide +kernel
theorem dX6_feed_14 : decode cX6_feed 14 = .ok (.aload_n 0, 1) := by decide +kernel
theorem dX6_feed_15 : decode cX6_feed 15 = .ok (.getfield 79, 3) := by decide +kernel
theorem dX6_feed_18 : decode cX6_feed 18 = .ok (.bipush 90, 2) := by decide +kernel
theorem dX6_feed_20 : decode cX6_feed 20 = .ok (.if_icmp .ne 6, 3) := by decide +kernel
theorem dX6_feed_23 : decode cX6_feed 23 = .ok (.ldc 82, 2) := by decide +kernel
theorem dX6_feed_25 : decode cX6_feed 25 = .ok (.ireturn, 1) := by decide +kernel
theorem dX6_feed_26 : decode cX6_feed 26 = .ok (.aload_n 0, 1) := by decide +kernel
theorem dX6_feed_27 : decode cX6_feed 27 = .ok (.getfield 22, 3) := by decide +kernel
theorem dX6_feed_30 : decode cX6_feed 30 = .ok (.aload_n 0, 1) := by decide +kernel
theorem dX6_feed_31 : decode cX6_feed 31 = .ok (.getfield 79, 3) := by decide +kernel
theorem dX6_feed_34 : decode cX6_feed 34 = .ok (.iload_n 1, 1) := by decide +kernel
theorem dX6_feed_35 : decode cX6_feed 35 = .ok (.iastore, 1) := by decide +kernel
theorem dX6_feed_36 : decode cX6_feed 36 = .ok (.aload_n 0, 1) := by decide +kernel
theorem dX6_feed_37 : decode cX6_feed 37 = .ok (.dup, 1) := by decide +kernel
theorem dX6_feed_38 : decode cX6_feed 38 = .ok (.getfield 79, 3) := by decide +kernel
theorem dX6_feed_41 : decode cX6_feed 41 = .ok (.iconst 1, 1) := by decide +kernel
theorem dX6_feed_42 : decode cX6_feed 42 = .ok (.iadd, 1) := by decide +kernel
theorem dX6_feed_43 : decode cX6_feed 43 = .ok (.putfield 79, 3) := by decide +kernel
theorem dX6_feed_46 : decode cX6_feed 46 = .ok (.aload_n 0, 1) := by decide +kernel
theorem dX6_feed_47 : decode cX6_feed 47 = .ok (.getfield 79, 3) := by decide +kernel
theorem dX6_feed_50 : decode cX6_feed 50 = .ok (.ireturn, 1) := by decide +kernel
theorem dX6_letterAt_0 : decode cX6_letterAt 0 = .ok (.iload_n 1, 1) := by decide +kernel
theorem dX6_letterAt_1 : decode cX6_letterAt 1 = .ok (.aload_n 0, 1) := by decide +kernel
theorem dX6_letterAt_2 : decode cX6_letterAt 2 = .ok (.getfield 79, 3) := by decide +kernel
theorem dX6_letterAt_5 : decode cX6_letterAt 5 = .ok (.if_icmp .ge 12, 3) := by decide +kernel
theorem dX6_letterAt_8 : decode cX6_letterAt 8 = .ok (.aload_n 0, 1) := by decide +kernel
theorem dX6_letterAt_9 : decode cX6_letterAt 9 = .ok (.getfield 22, 3) := by decide +kernel
theorem dX6_letterAt_12 : decode cX6_letterAt 12 = .ok (.iload_n 1, 1) := by decide +kernel
theorem dX6_letterAt_13 : decode cX6_letterAt 13 = .ok (.iaload, 1) := by decide +kernel
theorem dX6_letterAt_14 : decode cX6_letterAt 14 = .ok (.goto 4, 3) := by decide +kernel
theorem dX6_letterAt_17 : decode cX6_letterAt 17 = .ok (.iconst (-1), 1) := by decide +kernel
theorem dX6_letterAt_18 : decode cX6_letterAt 18 = .ok (.ireturn, 1) := by decide +kernel
theorem dX6_isDigit_0 : decode cX6_isDigit 0 = .ok (.iload_n 0, 1) := by decide +kernel
theorem dX6_isDigit_1 : decode cX6_isDigit 1 = .ok (.bipush 48, 2) := by decide +kernel
theorem dX6_isDigit_3 : decode cX6_isDigit 3 = .ok (.bipush 57, 2) := by decide +kernel
theorem dX6_isDigit_5 : decode cX6_isDigit 5 = .ok (.invokestatic 50, 3) := by decide +kernel
theorem dX6_isDigit_8 : decode cX6_isDigit 8 = .ok (.ireturn, 1) := by decide +kernel
theorem dX6_fails_0 : decode cX6_fails 0 = .ok (.aload_n 0, 1) := by decide +kernel
theorem dX6_fails_1 : decode cX6_fails 1 = .ok (.iload_n 1, 1) := by decide +kernel
theorem dX6_fails_2 : decode cX6_fails 2 = .ok (.putfield 83, 3) := by decide +kernel
theorem dX6_fails_5 : decode cX6_fails 5 = .ok (.iconst 0, 1) := by decide +kernel
theorem dX6_fails_6 : decode cX6_fails 6 = .ok (.ireturn, 1) := by decide +kernel
theorem dX6_sign_0 : decode cX6_sign 0 = .ok (.aload_n 0, 1) := by decide +kernel
theorem dX6_sign_1 : decode cX6_sign 1 = .ok (.aload_n 0, 1) := by decide +kernel
theorem dX6_sign_2 : decode cX6_sign 2 = .ok (.getfield 86, 3) := by decide +kernel
theorem dX6_sign_5 : decode cX6_sign 5 = .ok (.invokevirtual 89, 3) := by decide +kernel
theorem dX6_sign_8 : decode cX6_sign 8 = .ok (.iload_n 1, 1) := by decide +kernel
theorem dX6_sign_9 : decode cX6_sign 9 = .ok (.if_icmp .eq 9, 3) := by decide +kernel
theorem dX6_sign_12 : decode cX6_sign 12 = .ok (.aload_n 0, 1) := by decide +kernel
theorem dX6_sign_13 : decode cX6_sign 13 = .ok (.iconst 1, 1) := by decide +kernel
theorem dX6_sign_14 : decode cX6_sign 14 = .ok (.invokevirtual 92, 3) := by decide +kernel
theorem dX6_sign_17 : decode cX6_sign 17 = .ok (.ireturn, 1) := by decide +kernel
theorem dX6_sign_18 : decode cX6_sign 18 = .ok (.aload_n 0, 1) := by decide +kernel
theorem dX6_sign_19 : decode cX6_sign 19 = .ok (.dup, 1) := by decide +kernel
theorem dX6_sign_20 : decode cX6_sign 20 = .ok (.getfield 86, 3) := by decide +kernel
theorem dX6_sign_23 : decode cX6_sign 23 = .ok (.iconst 1, 1) := by decide +kernel
theorem dX6_sign_24 : decode cX6_sign 24 = .ok (.iadd, 1) := by decide +kernel
theorem dX6_sign_25 : decode cX6_sign 25 = .ok (.putfield 86, 3) := by decide +kernel
theorem dX6_sign_28 : decode cX6_sign 28 = .ok (.iconst 1, 1) := by decide +kernel
theorem dX6_sign_29 : decode cX6_sign 29 = .ok (.ireturn, 1) := by decide +kernel
theorem dX6_number_0 : decode cX6_number 0 = .ok (.iconst 0, 1) := by decide +kernel
theorem dX6_number_1 : decode cX6_number 1 = .ok (.istore 4, 2) := by decide +kernel
theorem dX6_number_3 : decode cX6_number 3 = .ok (.iconst 0, 1) := by decide +kernel
theorem dX6_number_4 : decode cX6_number 4 = .ok (.istore 5, 2) := by decide +kernel
theorem dX6_number_6 : decode cX6_number 6 = .ok (.aload_n 0, 1) := by decide +kernel
theorem dX6_number_7 : decode cX6_number 7 = .ok (.aload_n 0, 1) := by decide +kernel
theorem dX6_number_8 : decode cX6_number 8 = .ok (.getfield 86, 3) := by decide +kernel
theorem dX6_number_11 : decode cX6_number 11 = .ok (.iload 4, 2) := by decide +kernel
theorem dX6_number_13 : decode cX6_number 13 = .ok (.iadd, 1) := by decide +kernel
theorem dX6_number_14 : decode cX6_number 14 = .ok (.invokevirtual 89, 3) := by decide +kernel
theorem dX6_number_17 : decode cX6_number 17 = .ok (.invokestatic 95, 3) := by decide +kernel
theorem dX6_number_20 : decode cX6_number 20 = .ok (.ifCond .eq 38, 3) := by decide +kernel
theorem dX6_number_23 : decode cX6_number 23 = .ok (.iload 4, 2) := by decide +kernel
theorem dX6_number_25 : decode cX6_number 25 = .ok (.iconst 3, 1) := by decide +kernel
theorem dX6_number_26 : decode cX6_number 26 = .ok (.if_icmp .ge 32, 3) := by decide +kernel
theorem dX6_number_29 : decode cX6_number 29 = .ok (.bipush 10, 2) := by decide +kernel
theorem dX6_number_31 : decode cX6_number 31 = .ok (.iload 5, 2) := by decide +kernel
theorem dX6_number_33 : decode cX6_number 33 = .ok (.imul, 1) := by decide +kernel
theorem dX6_number_34 : decode cX6_number 34 = .ok (.aload_n 0, 1) := by decide +kernel
theorem dX6_number_35 : decode cX6_number 35 = .ok (.getfield 22, 3) := by decide +kernel
theorem dX6_number_38 : decode cX6_number 38 = .ok (.aload_n 0, 1) := by decide +kernel
theorem dX6_number_39 : decode cX6_number 39 = .ok (.getfield 86, 3) := by decide +kernel
theorem dX6_number_42 : decode cX6_number 42 = .ok (.iload 4, 2) := by decide +kernel
theorem dX6_number_44 : decode cX6_number 44 = .ok (.iadd, 1) := by decide +kernel
theorem dX6_number_45 : decode cX6_number 45 = .ok (.iaload, 1) := by decide +kernel
theorem dX6_number_46 : decode cX6_number 46 = .ok (.iadd, 1) := by decide +kernel
theorem dX6_number_47 : decode cX6_number 47 = .ok (.bipush 48, 2) := by decide +kernel
theorem dX6_number_49 : decode cX6_number 49 = .ok (.isub, 1) := by decide +kernel
theorem dX6_number_50 : decode cX6_number 50 = .ok (.istore 5, 2) := by decide +kernel
theorem dX6_number_52 : decode cX6_number 52 = .ok (.iinc 4 1, 3) := by decide +kernel
theorem dX6_number_55 : decode cX6_number 55 = .ok (.goto (-49), 3) := by decide +kernel
theorem dX6_number_58 : decode cX6_number 58 = .ok (.iload 4, 2) := by decide +kernel
theorem dX6_number_60 : decode cX6_number 60 = .ok (.ifCond .eq 9, 3) := by decide +kernel
theorem dX6_number_63 : decode cX6_number 63 = .ok (.iload 4, 2) := by decide +kernel
theorem dX6_number_65 : decode cX6_number 65 = .ok (.iconst 3, 1) := by decide +kernel
theorem dX6_number_66 : decode cX6_number 66 = .ok (.if_icmp .ne 9, 3) := by decide +kernel
theorem dX6_number_69 : decode cX6_number 69 = .ok (.aload_n 0, 1) := by decide +kernel
theorem dX6_number_70 : decode cX6_number 70 = .ok (.iconst 1, 1) := by decide +kernel
theorem dX6_number_71 : decode cX6_number 71 = .ok (.invokevirtual 92, 3) := by decide +kernel
theorem dX6_number_74 : decode cX6_number 74 = .ok (.ireturn, 1) := by decide +kernel
theorem dX6_number_75 : decode cX6_number 75 = .ok (.iload 5, 2) := by decide +kernel
theorem dX6_number_77 : decode cX6_number 77 = .ok (.iload_n 2, 1) := by decide +kernel
theorem dX6_number_78 : decode cX6_number 78 = .ok (.iload_n 3, 1) := by decide +kernel
theorem dX6_number_79 : decode cX6_number 79 = .ok (.invokestatic 50, 3) := by decide +kernel
theorem dX6_number_82 : decode cX6_number 82 = .ok (.ifCond .ne 9, 3) := by decide +kernel
theorem dX6_number_85 : decode cX6_number 85 = .ok (.aload_n 0, 1) := by decide +kernel
theorem dX6_number_86 : decode cX6_number 86 = .ok (.iconst 2, 1) := by decide +kernel
theorem dX6_number_87 : decode cX6_number 87 = .ok (.invokevirtual 92, 3) := by decide +kernel
theorem dX6_number_90 : decode cX6_number 90 = .ok (.ireturn, 1) := by decide +kernel
theorem dX6_number_91 : decode cX6_number 91 = .ok (.aload_n 0, 1) := by decide +kernel
theorem dX6_number_92 : decode cX6_number 92 = .ok (.dup, 1) := by decide +kernel
theorem dX6_number_93 : decode cX6_number 93 = .ok (.getfield 86, 3) := by decide +kernel
theorem dX6_number_96 : decode cX6_number 96 = .ok (.iload 4, 2) := by decide +kernel
theorem dX6_number_98 : decode cX6_number 98 = .ok (.iadd, 1) := by decide +kernel
theorem dX6_number_99 : decode cX6_number 99 = .ok (.putfield 86, 3) := by decide +kernel
theorem dX6_number_102 : decode cX6_number 102 = .ok (.aload_n 0, 1) := by decide +kernel
theorem dX6_number_103 : decode cX6_number 103 = .ok (.getfield 28, 3) := by decide +kernel
theorem dX6_number_106 : decode cX6_number 106 = .ok (.iload_n 1, 1) := by decide +kernel
theorem dX6_number_107 : decode cX6_number 107 = .ok (.iload 5, 2) := by decide +kernel
theorem dX6_number_109 : decode cX6_number 109 = .ok (.iastore, 1) := by decide +kernel
theorem dX6_number_110 : decode cX6_number 110 = .ok (.iconst 1, 1) := by decide +kernel
theorem dX6_number_111 : decode cX6_number 111 = .ok (.ireturn, 1) := by decide +kernel
theorem dX6_kindBy_0 : decode cX6_kindBy 0 = .ok (.iload_n 0, 1) := by decide +kernel
theorem dX6_kindBy_1 : decode cX6_kindBy 1 = .ok (.bipush 115, 2) := by decide +kernel
theorem dX6_kindBy_3 : decode cX6_kindBy 3 = .ok (.if_icmp .ne 7, 3) := by decide +kernel
theorem dX6_kindBy_6 : decode cX6_kindBy 6 = .ok (.iconst 1, 1) := by decide +kernel
theorem dX6_kindBy_7 : decode cX6_kindBy 7 = .ok (.goto 44, 3) := by decide +kernel
theorem dX6_kindBy_10 : decode cX6_kindBy 10 = .ok (.iload_n 0, 1) := by decide +kernel
theorem dX6_kindBy_11 : decode cX6_kindBy 11 = .ok (.bipush 119, 2) := by decide +kernel
theorem dX6_kindBy_13 : decode cX6_kindBy 13 = .ok (.if_icmp .ne 7, 3) := by decide +kernel
theorem dX6_kindBy_16 : decode cX6_kindBy 16 = .ok (.iconst 2, 1) := by decide +kernel
theorem dX6_kindBy_17 : decode cX6_kindBy 17 = .ok (.goto 34, 3) := by decide +kernel
theorem dX6_kindBy_20 : decode cX6_kindBy 20 = .ok (.iload_n 0, 1) := by decide +kernel
end
section
theorem dX6_kindBy_21 : decode cX6_kindBy 21 = .ok (.bipush 114, 2) := by decide +kernel
theorem dX6_kindBy_23 : decode cX6_kindBy 23 = .ok (.if_icmp .ne 7, 3) := by decide +kernel
theorem dX6_kindBy_26 : decode cX6_kindBy 26 = .ok (.iconst 3, 1) := by decide +kernel
theorem dX6_kindBy_27 : decode cX6_kindBy 27 = .ok (.goto 24, 3) := by decide +kernel
theorem dX6_kindBy_30 : decode cX6_kindBy 30 = .ok (.iload_n 0, 1) := by decide +kernel
theorem dX6_kindBy_31 : decode cX6_kindBy 31 = .ok (.bipush 116, 2) := by decide +kernel
theorem dX6_kindBy_33 : decode cX6_kindBy 33 = .ok (.if_icmp .ne 7, 3) := by decide +kernel
theorem dX6_kindBy_36 : decode cX6_kindBy 36 = .ok (.iconst 4, 1) := by decide +kernel
theorem dX6_kindBy_37 : decode cX6_kindBy 37 = .ok (.goto 14, 3) := by decide +kernel
theorem dX6_kindBy_40 : decode cX6_kindBy 40 = .ok (.iload_n 0, 1) := by decide +kernel
theorem dX6_kindBy_41 : decode cX6_kindBy 41 = .ok (.bipush 99, 2) := by decide +kernel
theorem dX6_kindBy_43 : decode cX6_kindBy 43 = .ok (.if_icmp .ne 7, 3) := by decide +kernel
theorem dX6_kindBy_46 : decode cX6_kindBy 46 = .ok (.iconst 5, 1) := by decide +kernel
theorem dX6_kindBy_47 : decode cX6_kindBy 47 = .ok (.goto 4, 3) := by decide +kernel
theorem dX6_kindBy_50 : decode cX6_kindBy 50 = .ok (.iconst 0, 1) := by decide +kernel
theorem dX6_kindBy_51 : decode cX6_kindBy 51 = .ok (.ireturn, 1) := by decide +kernel
theorem dX6_reads_0 : decode cX6_reads 0 = .ok (.aload_n 0, 1) := by decide +kernel
theorem dX6_reads_1 : decode cX6_reads 1 = .ok (.iconst 0, 1) := by decide +kernel
theorem dX6_reads_2 : decode cX6_reads 2 = .ok (.putfield 86, 3) := by decide +kernel
theorem dX6_reads_5 : decode cX6_reads 5 = .ok (.aload_n 0, 1) := by decide +kernel
theorem dX6_reads_6 : decode cX6_reads 6 = .ok (.bipush 109, 2) := by decide +kernel
theorem dX6_reads_8 : decode cX6_reads 8 = .ok (.invokevirtual 98, 3) := by decide +kernel
theorem dX6_reads_11 : decode cX6_reads 11 = .ok (.ifCond .eq 43, 3) := by decide +kernel
theorem dX6_reads_14 : decode cX6_reads 14 = .ok (.aload_n 0, 1) := by decide +kernel
theorem dX6_reads_15 : decode cX6_reads 15 = .ok (.bipush 16, 2) := by decide +kernel
theorem dX6_reads_17 : decode cX6_reads 17 = .ok (.iconst 4, 1) := by decide +kernel
theorem dX6_reads_18 : decode cX6_reads 18 = .ok (.bipush 12, 2) := by decide +kernel
theorem dX6_reads_20 : decode cX6_reads 20 = .ok (.invokevirtual 101, 3) := by decide +kernel
theorem dX6_reads_23 : decode cX6_reads 23 = .ok (.ifCond .eq 31, 3) := by decide +kernel
theorem dX6_reads_26 : decode cX6_reads 26 = .ok (.aload_n 0, 1) := by decide +kernel
theorem dX6_reads_27 : decode cX6_reads 27 = .ok (.bipush 44, 2) := by decide +kernel
theorem dX6_reads_29 : decode cX6_reads 29 = .ok (.invokevirtual 98, 3) := by decide +kernel
theorem dX6_reads_32 : decode cX6_reads 32 = .ok (.ifCond .eq 22, 3) := by decide +kernel
theorem dX6_reads_35 : decode cX6_reads 35 = .ok (.aload_n 0, 1) := by decide +kernel
theorem dX6_reads_36 : decode cX6_reads 36 = .ok (.iconst 1, 1) := by decide +kernel
theorem dX6_reads_37 : decode cX6_reads 37 = .ok (.iconst 0, 1) := by decide +kernel
theorem dX6_reads_38 : decode cX6_reads 38 = .ok (.iconst 2, 1) := by decide +kernel
theorem dX6_reads_39 : decode cX6_reads 39 = .ok (.invokevirtual 101, 3) := by decide +kernel
theorem dX6_reads_42 : decode cX6_reads 42 = .ok (.ifCond .eq 12, 3) := by decide +kernel
theorem dX6_reads_45 : decode cX6_reads 45 = .ok (.aload_n 0, 1) := by decide +kernel
theorem dX6_reads_46 : decode cX6_reads 46 = .ok (.bipush 59, 2) := by decide +kernel
theorem dX6_reads_48 : decode cX6_reads 48 = .ok (.invokevirtual 98, 3) := by decide +kernel
theorem dX6_reads_51 : decode cX6_reads 51 = .ok (.ifCond .ne 5, 3) := by decide +kernel
theorem dX6_reads_54 : decode cX6_reads 54 = .ok (.iconst 0, 1) := by decide +kernel
theorem dX6_reads_55 : decode cX6_reads 55 = .ok (.ireturn, 1) := by decide +kernel
theorem dX6_reads_56 : decode cX6_reads 56 = .ok (.aload_n 0, 1) := by decide +kernel
theorem dX6_reads_57 : decode cX6_reads 57 = .ok (.getfield 86, 3) := by decide +kernel
theorem dX6_reads_60 : decode cX6_reads 60 = .ok (.aload_n 0, 1) := by decide +kernel
theorem dX6_reads_61 : decode cX6_reads 61 = .ok (.getfield 79, 3) := by decide +kernel
theorem dX6_reads_64 : decode cX6_reads 64 = .ok (.if_icmp .lt 13, 3) := by decide +kernel
theorem dX6_reads_67 : decode cX6_reads 67 = .ok (.aload_n 0, 1) := by decide +kernel
theorem dX6_reads_68 : decode cX6_reads 68 = .ok (.getfield 28, 3) := by decide +kernel
theorem dX6_reads_71 : decode cX6_reads 71 = .ok (.bipush 17, 2) := by decide +kernel
theorem dX6_reads_73 : decode cX6_reads 73 = .ok (.iaload, 1) := by decide +kernel
theorem dX6_reads_74 : decode cX6_reads 74 = .ok (.ifCond .ne 112, 3) := by decide +kernel
theorem dX6_reads_77 : decode cX6_reads 77 = .ok (.aload_n 0, 1) := by decide +kernel
theorem dX6_reads_78 : decode cX6_reads 78 = .ok (.aload_n 0, 1) := by decide +kernel
theorem dX6_reads_79 : decode cX6_reads 79 = .ok (.getfield 86, 3) := by decide +kernel
theorem dX6_reads_82 : decode cX6_reads 82 = .ok (.invokevirtual 89, 3) := by decide +kernel
theorem dX6_reads_85 : decode cX6_reads 85 = .ok (.invokestatic 104, 3) := by decide +kernel
theorem dX6_reads_88 : decode cX6_reads 88 = .ok (.istore_n 1, 1) := by decide +kernel
theorem dX6_reads_89 : decode cX6_reads 89 = .ok (.iload_n 1, 1) := by decide +kernel
theorem dX6_reads_90 : decode cX6_reads 90 = .ok (.ifCond .ne 9, 3) := by decide +kernel
theorem dX6_reads_93 : decode cX6_reads 93 = .ok (.aload_n 0, 1) := by decide +kernel
theorem dX6_reads_94 : decode cX6_reads 94 = .ok (.iconst 1, 1) := by decide +kernel
theorem dX6_reads_95 : decode cX6_reads 95 = .ok (.invokevirtual 92, 3) := by decide +kernel
theorem dX6_reads_98 : decode cX6_reads 98 = .ok (.ireturn, 1) := by decide +kernel
theorem dX6_reads_99 : decode cX6_reads 99 = .ok (.aload_n 0, 1) := by decide +kernel
theorem dX6_reads_100 : decode cX6_reads 100 = .ok (.getfield 28, 3) := by decide +kernel
theorem dX6_reads_103 : decode cX6_reads 103 = .ok (.bipush 17, 2) := by decide +kernel
theorem dX6_reads_105 : decode cX6_reads 105 = .ok (.iaload, 1) := by decide +kernel
theorem dX6_reads_106 : decode cX6_reads 106 = .ok (.istore_n 2, 1) := by decide +kernel
theorem dX6_reads_107 : decode cX6_reads 107 = .ok (.iload_n 2, 1) := by decide +kernel
theorem dX6_reads_108 : decode cX6_reads 108 = .ok (.bipush 7, 2) := by decide +kernel
theorem dX6_reads_110 : decode cX6_reads 110 = .ok (.if_icmp .ne 9, 3) := by decide +kernel
theorem dX6_reads_113 : decode cX6_reads 113 = .ok (.aload_n 0, 1) := by decide +kernel
theorem dX6_reads_114 : decode cX6_reads 114 = .ok (.iconst 3, 1) := by decide +kernel
theorem dX6_reads_115 : decode cX6_reads 115 = .ok (.invokevirtual 92, 3) := by decide +kernel
theorem dX6_reads_118 : decode cX6_reads 118 = .ok (.ireturn, 1) := by decide +kernel
theorem dX6_reads_119 : decode cX6_reads 119 = .ok (.aload_n 0, 1) := by decide +kernel
theorem dX6_reads_120 : decode cX6_reads 120 = .ok (.dup, 1) := by decide +kernel
theorem dX6_reads_121 : decode cX6_reads 121 = .ok (.getfield 86, 3) := by decide +kernel
theorem dX6_reads_124 : decode cX6_reads 124 = .ok (.iconst 1, 1) := by decide +kernel
theorem dX6_reads_125 : decode cX6_reads 125 = .ok (.iadd, 1) := by decide +kernel
theorem dX6_reads_126 : decode cX6_reads 126 = .ok (.putfield 86, 3) := by decide +kernel
theorem dX6_reads_129 : decode cX6_reads 129 = .ok (.aload_n 0, 1) := by decide +kernel
theorem dX6_reads_130 : decode cX6_reads 130 = .ok (.getfield 28, 3) := by decide +kernel
theorem dX6_reads_133 : decode cX6_reads 133 = .ok (.bipush 18, 2) := by decide +kernel
theorem dX6_reads_135 : decode cX6_reads 135 = .ok (.iload_n 2, 1) := by decide +kernel
theorem dX6_reads_136 : decode cX6_reads 136 = .ok (.iadd, 1) := by decide +kernel
theorem dX6_reads_137 : decode cX6_reads 137 = .ok (.iload_n 1, 1) := by decide +kernel
theorem dX6_reads_138 : decode cX6_reads 138 = .ok (.iastore, 1) := by decide +kernel
theorem dX6_reads_139 : decode cX6_reads 139 = .ok (.aload_n 0, 1) := by decide +kernel
theorem dX6_reads_140 : decode cX6_reads 140 = .ok (.getfield 28, 3) := by decide +kernel
theorem dX6_reads_143 : decode cX6_reads 143 = .ok (.iconst 2, 1) := by decide +kernel
theorem dX6_reads_144 : decode cX6_reads 144 = .ok (.iload_n 2, 1) := by decide +kernel
theorem dX6_reads_145 : decode cX6_reads 145 = .ok (.iadd, 1) := by decide +kernel
theorem dX6_reads_146 : decode cX6_reads 146 = .ok (.iconst (-1), 1) := by decide +kernel
theorem dX6_reads_147 : decode cX6_reads 147 = .ok (.iastore, 1) := by decide +kernel
theorem dX6_reads_148 : decode cX6_reads 148 = .ok (.aload_n 0, 1) := by decide +kernel
theorem dX6_reads_149 : decode cX6_reads 149 = .ok (.bipush 9, 2) := by decide +kernel
theorem dX6_reads_151 : decode cX6_reads 151 = .ok (.iload_n 2, 1) := by decide +kernel
theorem dX6_reads_152 : decode cX6_reads 152 = .ok (.iadd, 1) := by decide +kernel
theorem dX6_reads_153 : decode cX6_reads 153 = .ok (.iconst 0, 1) := by decide +kernel
theorem dX6_reads_154 : decode cX6_reads 154 = .ok (.iconst 1, 1) := by decide +kernel
theorem dX6_reads_155 : decode cX6_reads 155 = .ok (.invokevirtual 101, 3) := by decide +kernel
theorem dX6_reads_158 : decode cX6_reads 158 = .ok (.ifCond .eq 12, 3) := by decide +kernel
theorem dX6_reads_161 : decode cX6_reads 161 = .ok (.aload_n 0, 1) := by decide +kernel
theorem dX6_reads_162 : decode cX6_reads 162 = .ok (.bipush 59, 2) := by decide +kernel
theorem dX6_reads_164 : decode cX6_reads 164 = .ok (.invokevirtual 98, 3) := by decide +kernel
theorem dX6_reads_167 : decode cX6_reads 167 = .ok (.ifCond .ne 5, 3) := by decide +kernel
theorem dX6_reads_170 : decode cX6_reads 170 = .ok (.iconst 0, 1) := by decide +kernel
theorem dX6_reads_171 : decode cX6_reads 171 = .ok (.ireturn, 1) := by decide +kernel
theorem dX6_reads_172 : decode cX6_reads 172 = .ok (.aload_n 0, 1) := by decide +kernel
theorem dX6_reads_173 : decode cX6_reads 173 = .ok (.getfield 28, 3) := by decide +kernel
theorem dX6_reads_176 : decode cX6_reads 176 = .ok (.bipush 17, 2) := by decide +kernel
theorem dX6_reads_178 : decode cX6_reads 178 = .ok (.dup2, 1) := by decide +kernel
theorem dX6_reads_179 : decode cX6_reads 179 = .ok (.iaload, 1) := by decide +kernel
theorem dX6_reads_180 : decode cX6_reads 180 = .ok (.iconst 1, 1) := by decide +kernel
theorem dX6_reads_181 : decode cX6_reads 181 = .ok (.iadd, 1) := by decide +kernel
theorem dX6_reads_182 : decode cX6_reads 182 = .ok (.iastore, 1) := by decide +kernel
theorem dX6_reads_183 : decode cX6_reads 183 = .ok (.goto (-127), 3) := by decide +kernel
theorem dX6_reads_186 : decode cX6_reads 186 = .ok (.iconst 1, 1) := by decide +kernel
theorem dX6_reads_187 : decode cX6_reads 187 = .ok (.ireturn, 1) := by decide +kernel
theorem dX6_stair_0 : decode cX6_stair 0 = .ok (.iconst 0, 1) := by decide +kernel
theorem dX6_stair_1 : decode cX6_stair 1 = .ok (.istore_n 1, 1) := by decide +kernel
theorem dX6_stair_2 : decode cX6_stair 2 = .ok (.iload_n 1, 1) := by decide +kernel
theorem dX6_stair_3 : decode cX6_stair 3 = .ok (.bipush 25, 2) := by decide +kernel
theorem dX6_stair_5 : decode cX6_stair 5 = .ok (.if_icmp .ge 16, 3) := by decide +kernel
theorem dX6_stair_8 : decode cX6_stair 8 = .ok (.aload_n 0, 1) := by decide +kernel
theorem dX6_stair_9 : decode cX6_stair 9 = .ok (.getfield 28, 3) := by decide +kernel
theorem dX6_stair_12 : decode cX6_stair 12 = .ok (.iload_n 1, 1) := by decide +kernel
theorem dX6_stair_13 : decode cX6_stair 13 = .ok (.iconst 0, 1) := by decide +kernel
theorem dX6_stair_14 : decode cX6_stair 14 = .ok (.iastore, 1) := by decide +kernel
theorem dX6_stair_15 : decode cX6_stair 15 = .ok (.iinc 1 1, 3) := by decide +kernel
theorem dX6_stair_18 : decode cX6_stair 18 = .ok (.goto (-16), 3) := by decide +kernel
theorem dX6_stair_21 : decode cX6_stair 21 = .ok (.aload_n 0, 1) := by decide +kernel
theorem dX6_stair_22 : decode cX6_stair 22 = .ok (.invokevirtual 107, 3) := by decide +kernel
theorem dX6_stair_25 : decode cX6_stair 25 = .ok (.istore_n 1, 1) := by decide +kernel
theorem dX6_stair_26 : decode cX6_stair 26 = .ok (.aload_n 0, 1) := by decide +kernel
theorem dX6_stair_27 : decode cX6_stair 27 = .ok (.iconst 0, 1) := by decide +kernel
theorem dX6_stair_28 : decode cX6_stair 28 = .ok (.putfield 79, 3) := by decide +kernel
theorem dX6_stair_31 : decode cX6_stair 31 = .ok (.iload_n 1, 1) := by decide +kernel
theorem dX6_stair_32 : decode cX6_stair 32 = .ok (.ifCond .ne 19, 3) := by decide +kernel
theorem dX6_stair_35 : decode cX6_stair 35 = .ok (.aload_n 0, 1) := by decide +kernel
theorem dX6_stair_36 : decode cX6_stair 36 = .ok (.aload_n 0, 1) := by decide +kernel
theorem dX6_stair_37 : decode cX6_stair 37 = .ok (.getfield 83, 3) := by decide +kernel
theorem dX6_stair_40 : decode cX6_stair 40 = .ok (.putfield 111, 3) := by decide +kernel
theorem dX6_stair_43 : decode cX6_stair 43 = .ok (.ldc 114, 2) := by decide +kernel
theorem dX6_stair_45 : decode cX6_stair 45 = .ok (.aload_n 0, 1) := by decide +kernel
theorem dX6_stair_46 : decode cX6_stair 46 = .ok (.getfield 86, 3) := by decide +kernel
theorem dX6_stair_49 : decode cX6_stair 49 = .ok (.isub, 1) := by decide +kernel
theorem dX6_stair_50 : decode cX6_stair 50 = .ok (.ireturn, 1) := by decide +kernel
theorem dX6_stair_51 : decode cX6_stair 51 = .ok (.iconst 0, 1) := by decide +kernel
theorem dX6_stair_52 : decode cX6_stair 52 = .ok (.istore_n 2, 1) := by decide +kernel
theorem dX6_stair_53 : decode cX6_stair 53 = .ok (.iload_n 2, 1) := by decide +kernel
theorem dX6_stair_54 : decode cX6_stair 54 = .ok (.bipush 25, 2) := by decide +kernel
theorem dX6_stair_56 : decode cX6_stair 56 = .ok (.if_icmp .ge 21, 3) := by decide +kernel
theorem dX6_stair_59 : decode cX6_stair 59 = .ok (.aload_n 0, 1) := by decide +kernel
theorem dX6_stair_60 : decode cX6_stair 60 = .ok (.getfield 25, 3) := by decide +kernel
theorem dX6_stair_63 : decode cX6_stair 63 = .ok (.iload_n 2, 1) := by decide +kernel
theorem dX6_stair_64 : decode cX6_stair 64 = .ok (.aload_n 0, 1) := by decide +kernel
theorem dX6_stair_65 : decode cX6_stair 65 = .ok (.getfield 28, 3) := by decide +kernel
theorem dX6_stair_68 : decode cX6_stair 68 = .ok (.iload_n 2, 1) := by decide +kernel
theorem dX6_stair_69 : decode cX6_stair 69 = .ok (.iaload, 1) := by decide +kernel
theorem dX6_stair_70 : decode cX6_stair 70 = .ok (.iastore, 1) := by decide +kernel
theorem dX6_stair_71 : decode cX6_stair 71 = .ok (.iinc 2 1, 3) := by decide +kernel
theorem dX6_stair_74 : decode cX6_stair 74 = .ok (.goto (-21), 3) := by decide +kernel
theorem dX6_stair_77 : decode cX6_stair 77 = .ok (.aload_n 0, 1) := by decide +kernel
theorem dX6_stair_78 : decode cX6_stair 78 = .ok (.iconst 0, 1) := by decide +kernel
theorem dX6_stair_79 : decode cX6_stair 79 = .ok (.putfield 115, 3) := by decide +kernel
theorem dX6_stair_82 : decode cX6_stair 82 = .ok (.aload_n 0, 1) := by decide +kernel
theorem dX6_stair_83 : decode cX6_stair 83 = .ok (.getfield 25, 3) := by decide +kernel
theorem dX6_stair_86 : decode cX6_stair 86 = .ok (.bipush 17, 2) := by decide +kernel
theorem dX6_stair_88 : decode cX6_stair 88 = .ok (.iaload, 1) := by decide +kernel
theorem dX6_stair_89 : decode cX6_stair 89 = .ok (.ireturn, 1) := by decide +kernel
theorem dX6_fault_0 : decode cX6_fault 0 = .ok (.aload_n 0, 1) := by decide +kernel
theorem dX6_fault_1 : decode cX6_fault 1 = .ok (.getfield 111, 3) := by decide +kernel
theorem dX6_fault_4 : decode cX6_fault 4 = .ok (.ireturn, 1) := by decide +kernel
theorem dX6_isStair_0 : decode cX6_isStair 0 = .ok (.aload_n 0, 1) := by decide +kernel
theorem dX6_isStair_1 : decode cX6_isStair 1 = .ok (.getfield 25, 3) := by decide +kernel
theorem dX6_isStair_4 : decode cX6_isStair 4 = .ok (.bipush 17, 2) := by decide +kernel
theorem dX6_isStair_6 : decode cX6_isStair 6 = .ok (.iaload, 1) := by decide +kernel
theorem dX6_isStair_7 : decode cX6_isStair 7 = .ok (.ifCond .le 7, 3) := by decide +kernel
theorem dX6_isStair_10 : decode cX6_isStair 10 = .ok (.iconst 1, 1) := by decide +kernel
theorem dX6_isStair_11 : decode cX6_isStair 11 = .ok (.goto 4, 3) := by decide +kernel
theorem dX6_isStair_14 : decode cX6_isStair 14 = .ok (.iconst 0, 1) := by decide +kernel
theorem dX6_isStair_15 : decode cX6_isStair 15 = .ok (.ireturn, 1) := by decide +kernel
theorem dX6_isRider_0 : decode cX6_isRider 0 = .ok (.iload_n 1, 1) := by decide +kernel
theorem dX6_isRider_1 : decode cX6_isRider 1 = .ok (.iconst 0, 1) := by decide +kernel
theorem dX6_isRider_2 : decode cX6_isRider 2 = .ok (.aload_n 0, 1) := by decide +kernel
theorem dX6_isRider_3 : decode cX6_isRider 3 = .ok (.getfield 25, 3) := by decide +kernel
theorem dX6_isRider_6 : decode cX6_isRider 6 = .ok (.bipush 17, 2) := by decide +kernel
theorem dX6_isRider_8 : decode cX6_isRider 8 = .ok (.iaload, 1) := by decide +kernel
theorem dX6_isRider_9 : decode cX6_isRider 9 = .ok (.iconst 1, 1) := by decide +kernel
theorem dX6_isRider_10 : decode cX6_isRider 10 = .ok (.isub, 1) := by decide +kernel
theorem dX6_isRider_11 : decode cX6_isRider 11 = .ok (.invokestatic 50, 3) := by decide +kernel
theorem dX6_isRider_14 : decode cX6_isRider 14 = .ok (.ireturn, 1) := by decide +kernel
theorem dX6_keeps_0 : decode cX6_keeps 0 = .ok (.aload_n 0, 1) := by decide +kernel
theorem dX6_keeps_1 : decode cX6_keeps 1 = .ok (.getfield 115, 3) := by decide +kernel
theorem dX6_keeps_4 : decode cX6_keeps 4 = .ok (.bipush 24, 2) := by decide +kernel
theorem dX6_keeps_6 : decode cX6_keeps 6 = .ok (.if_icmp .ne 43, 3) := by decide +kernel
theorem dX6_keeps_9 : decode cX6_keeps 9 = .ok (.iconst 0, 1) := by decide +kernel
theorem dX6_keeps_10 : decode cX6_keeps 10 = .ok (.istore_n 1, 1) := by decide +kernel
theorem dX6_keeps_11 : decode cX6_keeps 11 = .ok (.iload_n 1, 1) := by decide +kernel
theorem dX6_keeps_12 : decode cX6_keeps 12 = .ok (.sipush 368, 3) := by decide +kernel
theorem dX6_keeps_15 : decode cX6_keeps 15 = .ok (.if_icmp .ge 24, 3) := by decide +kernel
theorem dX6_keeps_18 : decode cX6_keeps 18 = .ok (.aload_n 0, 1) := by decide +kernel
theorem dX6_keeps_19 : decode cX6_keeps 19 = .ok (.getfield 38, 3) := by decide +kernel
theorem dX6_keeps_22 : decode cX6_keeps 22 = .ok (.iload_n 1, 1) := by decide +kernel
theorem dX6_keeps_23 : decode cX6_keeps 23 = .ok (.aload_n 0, 1) := by decide +kernel
theorem dX6_keeps_24 : decode cX6_keeps 24 = .ok (.getfield 38, 3) := by decide +kernel
theorem dX6_keeps_27 : decode cX6_keeps 27 = .ok (.iload_n 1, 1) := by decide +kernel
theorem dX6_keeps_28 : decode cX6_keeps 28 = .ok (.bipush 16, 2) := by decide +kernel
theorem dX6_keeps_30 : decode cX6_keeps 30 = .ok (.iadd, 1) := by decide +kernel
theorem dX6_keeps_31 : decode cX6_keeps 31 = .ok (.iaload, 1) := by decide +kernel
theorem dX6_keeps_32 : decode cX6_keeps 32 = .ok (.iastore, 1) := by decide +kernel
theorem dX6_keeps_33 : decode cX6_keeps 33 = .ok (.iinc 1 1, 3) := by decide +kernel
theorem dX6_keeps_36 : decode cX6_keeps 36 = .ok (.goto (-25), 3) := by decide +kernel
theorem dX6_keeps_39 : decode cX6_keeps 39 = .ok (.aload_n 0, 1) := by decide +kernel
theorem dX6_keeps_40 : decode cX6_keeps 40 = .ok (.dup, 1) := by decide +kernel
theorem dX6_keeps_41 : decode cX6_keeps 41 = .ok (.getfield 115, 3) := by decide +kernel
theorem dX6_keeps_44 : decode cX6_keeps 44 = .ok (.iconst 1, 1) := by decide +kernel
theorem dX6_keeps_45 : decode cX6_keeps 45 = .ok (.isub, 1) := by decide +kernel
theorem dX6_keeps_46 : decode cX6_keeps 46 = .ok (.putfield 115, 3) := by decide +kernel
theorem dX6_keeps_49 : decode cX6_keeps 49 = .ok (.iconst 0, 1) := by decide +kernel
theorem dX6_keeps_50 : decode cX6_keeps 50 = .ok (.istore_n 1, 1) := by decide +kernel
theorem dX6_keeps_51 : decode cX6_keeps 51 = .ok (.iload_n 1, 1) := by decide +kernel
theorem dX6_keeps_52 : decode cX6_keeps 52 = .ok (.bipush 16, 2) := by decide +kernel
theorem dX6_keeps_54 : decode cX6_keeps 54 = .ok (.if_icmp .ge 29, 3) := by decide +kernel
theorem dX6_keeps_57 : decode cX6_keeps 57 = .ok (.aload_n 0, 1) := by decide +kernel
theorem dX6_keeps_58 : decode cX6_keeps 58 = .ok (.getfield 38, 3) := by decide +kernel
theorem dX6_keeps_61 : decode cX6_keeps 61 = .ok (.bipush 16, 2) := by decide +kernel
theorem dX6_keeps_63 : decode cX6_keeps 63 = .ok (.aload_n 0, 1) := by decide +kernel
theorem dX6_keeps_64 : decode cX6_keeps 64 = .ok (.getfield 115, 3) := by decide +kernel
theorem dX6_keeps_67 : decode cX6_keeps 67 = .ok (.imul, 1) := by decide +kernel
theorem dX6_keeps_68 : decode cX6_keeps 68 = .ok (.iload_n 1, 1) := by decide +kernel
theorem dX6_keeps_69 : decode cX6_keeps 69 = .ok (.iadd, 1) := by decide +kernel
theorem dX6_keeps_70 : decode cX6_keeps 70 = .ok (.aload_n 0, 1) := by decide +kernel
theorem dX6_keeps_71 : decode cX6_keeps 71 = .ok (.getfield 25, 3) := by decide +kernel
theorem dX6_keeps_74 : decode cX6_keeps 74 = .ok (.iload_n 1, 1) := by decide +kernel
theorem dX6_keeps_75 : decode cX6_keeps 75 = .ok (.iaload, 1) := by decide +kernel
theorem dX6_keeps_76 : decode cX6_keeps 76 = .ok (.iastore, 1) := by decide +kernel
theorem dX6_keeps_77 : decode cX6_keeps 77 = .ok (.iinc 1 1, 3) := by decide +kernel
theorem dX6_keeps_80 : decode cX6_keeps 80 = .ok (.goto (-29), 3) := by decide +kernel
theorem dX6_keeps_83 : decode cX6_keeps 83 = .ok (.aload_n 0, 1) := by decide +kernel
theorem dX6_keeps_84 : decode cX6_keeps 84 = .ok (.dup, 1) := by decide +kernel
theorem dX6_keeps_85 : decode cX6_keeps 85 = .ok (.getfield 115, 3) := by decide +kernel
theorem dX6_keeps_88 : decode cX6_keeps 88 = .ok (.iconst 1, 1) := by decide +kernel
theorem dX6_keeps_89 : decode cX6_keeps 89 = .ok (.iadd, 1) := by decide +kernel
theorem dX6_keeps_90 : decode cX6_keeps 90 = .ok (.putfield 115, 3) := by decide +kernel
theorem dX6_keeps_93 : decode cX6_keeps 93 = .ok (.return_, 1) := by decide +kernel
theorem dX6_isOn_0 : decode cX6_isOn 0 = .ok (.iload_n 0, 1) := by decide +kernel
theorem dX6_isOn_1 : decode cX6_isOn 1 = .ok (.iconst (-1), 1) := by decide +kernel
theorem dX6_isOn_2 : decode cX6_isOn 2 = .ok (.if_icmp .eq 13, 3) := by decide +kernel
theorem dX6_isOn_5 : decode cX6_isOn 5 = .ok (.iload_n 0, 1) := by decide +kernel
theorem dX6_isOn_6 : decode cX6_isOn 6 = .ok (.bipush 99, 2) := by decide +kernel
theorem dX6_isOn_8 : decode cX6_isOn 8 = .ok (.if_icmp .eq 7, 3) := by decide +kernel
theorem dX6_isOn_11 : decode cX6_isOn 11 = .ok (.iconst 1, 1) := by decide +kernel
theorem dX6_isOn_12 : decode cX6_isOn 12 = .ok (.goto 4, 3) := by decide +kernel
theorem dX6_isOn_15 : decode cX6_isOn 15 = .ok (.iconst 0, 1) := by decide +kernel
theorem dX6_isOn_16 : decode cX6_isOn 16 = .ok (.ireturn, 1) := by decide +kernel
theorem dX6_isFree_0 : decode cX6_isFree 0 = .ok (.iconst 1, 1) := by decide +kernel
theorem dX6_isFree_1 : decode cX6_isFree 1 = .ok (.istore 4, 2) := by decide +kernel
theorem dX6_isFree_3 : decode cX6_isFree 3 = .ok (.iconst 0, 1) := by decide +kernel
theorem dX6_isFree_4 : decode cX6_isFree 4 = .ok (.istore 5, 2) := by decide +kernel
theorem dX6_isFree_6 : decode cX6_isFree 6 = .ok (.iload 5, 2) := by decide +kernel
theorem dX6_isFree_8 : decode cX6_isFree 8 = .ok (.aload_n 0, 1) := by decide +kernel
theorem dX6_isFree_9 : decode cX6_isFree 9 = .ok (.bipush 17, 2) := by decide +kernel
theorem dX6_isFree_11 : decode cX6_isFree 11 = .ok (.iaload, 1) := by decide +kernel
theorem dX6_isFree_12 : decode cX6_isFree 12 = .ok (.if_icmp .ge 81, 3) := by decide +kernel
theorem dX6_isFree_15 : decode cX6_isFree 15 = .ok (.aload_n 0, 1) := by decide +kernel
theorem dX6_isFree_16 : decode cX6_isFree 16 = .ok (.bipush 18, 2) := by decide +kernel
theorem dX6_isFree_18 : decode cX6_isFree 18 = .ok (.iload_n 1, 1) := by decide +kernel
theorem dX6_isFree_19 : decode cX6_isFree 19 = .ok (.iadd, 1) := by decide +kernel
theorem dX6_isFree_20 : decode cX6_isFree 20 = .ok (.iaload, 1) := by decide +kernel
theorem dX6_isFree_21 : decode cX6_isFree 21 = .ok (.iconst 4, 1) := by decide +kernel
theorem dX6_isFree_22 : decode cX6_isFree 22 = .ok (.if_icmp .ge 25, 3) := by decide +kernel
theorem dX6_isFree_25 : decode cX6_isFree 25 = .ok (.aload_n 0, 1) := by decide +kernel
theorem dX6_isFree_26 : decode cX6_isFree 26 = .ok (.bipush 18, 2) := by decide +kernel
theorem dX6_isFree_28 : decode cX6_isFree 28 = .ok (.iload 5, 2) := by decide +kernel
theorem dX6_isFree_30 : decode cX6_isFree 30 = .ok (.iadd, 1) := by decide +kernel
theorem dX6_isFree_31 : decode cX6_isFree 31 = .ok (.iaload, 1) := by decide +kernel
theorem dX6_isFree_32 : decode cX6_isFree 32 = .ok (.iconst 4, 1) := by decide +kernel
theorem dX6_isFree_33 : decode cX6_isFree 33 = .ok (.if_icmp .ge 14, 3) := by decide +kernel
theorem dX6_isFree_36 : decode cX6_isFree 36 = .ok (.aload_n 0, 1) := by decide +kernel
theorem dX6_isFree_37 : decode cX6_isFree 37 = .ok (.bipush 9, 2) := by decide +kernel
theorem dX6_isFree_39 : decode cX6_isFree 39 = .ok (.iload 5, 2) := by decide +kernel
theorem dX6_isFree_41 : decode cX6_isFree 41 = .ok (.iadd, 1) := by decide +kernel
theorem dX6_isFree_42 : decode cX6_isFree 42 = .ok (.iaload, 1) := by decide +kernel
theorem dX6_isFree_43 : decode cX6_isFree 43 = .ok (.iload_n 3, 1) := by decide +kernel
theorem dX6_isFree_44 : decode cX6_isFree 44 = .ok (.if_icmp .ne 7, 3) := by decide +kernel
theorem dX6_isFree_47 : decode cX6_isFree 47 = .ok (.iconst 1, 1) := by decide +kernel
theorem dX6_isFree_48 : decode cX6_isFree 48 = .ok (.goto 4, 3) := by decide +kernel
theorem dX6_isFree_51 : decode cX6_isFree 51 = .ok (.iconst 0, 1) := by decide +kernel
theorem dX6_isFree_52 : decode cX6_isFree 52 = .ok (.istore 6, 2) := by decide +kernel
theorem dX6_isFree_54 : decode cX6_isFree 54 = .ok (.iload 4, 2) := by decide +kernel
theorem dX6_isFree_56 : decode cX6_isFree 56 = .ok (.ifCond .eq 28, 3) := by decide +kernel
theorem dX6_isFree_59 : decode cX6_isFree 59 = .ok (.iload 5, 2) := by decide +kernel
theorem dX6_isFree_61 : decode cX6_isFree 61 = .ok (.iload_n 1, 1) := by decide +kernel
theorem dX6_isFree_62 : decode cX6_isFree 62 = .ok (.if_icmp .eq 18, 3) := by decide +kernel
theorem dX6_isFree_65 : decode cX6_isFree 65 = .ok (.aload_n 0, 1) := by decide +kernel
theorem dX6_isFree_66 : decode cX6_isFree 66 = .ok (.iconst 2, 1) := by decide +kernel
theorem dX6_isFree_67 : decode cX6_isFree 67 = .ok (.iload 5, 2) := by decide +kernel
theorem dX6_isFree_69 : decode cX6_isFree 69 = .ok (.iadd, 1) := by decide +kernel
theorem dX6_isFree_70 : decode cX6_isFree 70 = .ok (.iaload, 1) := by decide +kernel
theorem dX6_isFree_71 : decode cX6_isFree 71 = .ok (.iload_n 2, 1) := by decide +kernel
theorem dX6_isFree_72 : decode cX6_isFree 72 = .ok (.if_icmp .ne 8, 3) := by decide +kernel
theorem dX6_isFree_75 : decode cX6_isFree 75 = .ok (.iload 6, 2) := by decide +kernel
theorem dX6_isFree_77 : decode cX6_isFree 77 = .ok (.ifCond .ne 7, 3) := by decide +kernel
theorem dX6_isFree_80 : decode cX6_isFree 80 = .ok (.iconst 1, 1) := by decide +kernel
theorem dX6_isFree_81 : decode cX6_isFree 81 = .ok (.goto 4, 3) := by decide +kernel
theorem dX6_isFree_84 : decode cX6_isFree 84 = .ok (.iconst 0, 1) := by decide +kernel
theorem dX6_isFree_85 : decode cX6_isFree 85 = .ok (.istore 4, 2) := by decide +kernel
theorem dX6_isFree_87 : decode cX6_isFree 87 = .ok (.iinc 5 1, 3) := by decide +kernel
theorem dX6_isFree_90 : decode cX6_isFree 90 = .ok (.goto (-84), 3) := by decide +kernel
theorem dX6_isFree_93 : decode cX6_isFree 93 = .ok (.iload 4, 2) := by decide +kernel
theorem dX6_isFree_95 : decode cX6_isFree 95 = .ok (.ireturn, 1) := by decide +kernel
theorem dX6_goes_0 : decode cX6_goes 0 = .ok (.aload_n 0, 1) := by decide +kernel
theorem dX6_goes_1 : decode cX6_goes 1 = .ok (.iconst 2, 1) := by decide +kernel
theorem dX6_goes_2 : decode cX6_goes 2 = .ok (.iload_n 1, 1) := by decide +kernel
theorem dX6_goes_3 : decode cX6_goes 3 = .ok (.iadd, 1) := by decide +kernel
theorem dX6_goes_4 : decode cX6_goes 4 = .ok (.iaload, 1) := by decide +kernel
theorem dX6_goes_5 : decode cX6_goes 5 = .ok (.iload_n 2, 1) := by decide +kernel
theorem dX6_goes_6 : decode cX6_goes 6 = .ok (.iadd, 1) := by decide +kernel
theorem dX6_goes_7 : decode cX6_goes 7 = .ok (.istore_n 3, 1) := by decide +kernel
theorem dX6_goes_8 : decode cX6_goes 8 = .ok (.iload_n 3, 1) := by decide +kernel
theorem dX6_goes_9 : decode cX6_goes 9 = .ok (.iconst 0, 1) := by decide +kernel
theorem dX6_goes_10 : decode cX6_goes 10 = .ok (.aload_n 0, 1) := by decide +kernel
theorem dX6_goes_11 : decode cX6_goes 11 = .ok (.bipush 16, 2) := by decide +kernel
theorem dX6_goes_13 : decode cX6_goes 13 = .ok (.iaload, 1) := by decide +kernel
theorem dX6_goes_14 : decode cX6_goes 14 = .ok (.iconst 1, 1) := by decide +kernel
theorem dX6_goes_15 : decode cX6_goes 15 = .ok (.isub, 1) := by decide +kernel
theorem dX6_goes_16 : decode cX6_goes 16 = .ok (.invokestatic 50, 3) := by decide +kernel
theorem dX6_goes_19 : decode cX6_goes 19 = .ok (.ifCond .eq 22, 3) := by decide +kernel
theorem dX6_goes_22 : decode cX6_goes 22 = .ok (.aload_n 0, 1) := by decide +kernel
theorem dX6_goes_23 : decode cX6_goes 23 = .ok (.iload_n 1, 1) := by decide +kernel
theorem dX6_goes_24 : decode cX6_goes 24 = .ok (.iload_n 3, 1) := by decide +kernel
theorem dX6_goes_25 : decode cX6_goes 25 = .ok (.aload_n 0, 1) := by decide +kernel
theorem dX6_goes_26 : decode cX6_goes 26 = .ok (.bipush 9, 2) := by decide +kernel
theorem dX6_goes_28 : decode cX6_goes 28 = .ok (.iload_n 1, 1) := by decide +kernel
theorem dX6_goes_29 : decode cX6_goes 29 = .ok (.iadd, 1) := by decide +kernel
theorem dX6_goes_30 : decode cX6_goes 30 = .ok (.iaload, 1) := by decide +kernel
theorem dX6_goes_31 : decode cX6_goes 31 = .ok (.invokestatic 118, 3) := by decide +kernel
theorem dX6_goes_34 : decode cX6_goes 34 = .ok (.ifCond .eq 7, 3) := by decide +kernel
theorem dX6_goes_37 : decode cX6_goes 37 = .ok (.iconst 1, 1) := by decide +kernel
theorem dX6_goes_38 : decode cX6_goes 38 = .ok (.goto 4, 3) := by decide +kernel
theorem dX6_goes_41 : decode cX6_goes 41 = .ok (.iconst 0, 1) := by decide +kernel
theorem dX6_goes_42 : decode cX6_goes 42 = .ok (.istore 4, 2) := by decide +kernel
theorem dX6_goes_44 : decode cX6_goes 44 = .ok (.aload_n 0, 1) := by decide +kernel
theorem dX6_goes_45 : decode cX6_goes 45 = .ok (.iconst 2, 1) := by decide +kernel
theorem dX6_goes_46 : decode cX6_goes 46 = .ok (.iload_n 1, 1) := by decide +kernel
theorem dX6_goes_47 : decode cX6_goes 47 = .ok (.iadd, 1) := by decide +kernel
theorem dX6_goes_48 : decode cX6_goes 48 = .ok (.dup2, 1) := by decide +kernel
theorem dX6_goes_49 : decode cX6_goes 49 = .ok (.iaload, 1) := by decide +kernel
theorem dX6_goes_50 : decode cX6_goes 50 = .ok (.iload 4, 2) := by decide +kernel
theorem dX6_goes_52 : decode cX6_goes 52 = .ok (.ifCond .eq 7, 3) := by decide +kernel
theorem dX6_goes_55 : decode cX6_goes 55 = .ok (.iload_n 2, 1) := by decide +kernel
theorem dX6_goes_56 : decode cX6_goes 56 = .ok (.goto 4, 3) := by decide +kernel
theorem dX6_goes_59 : decode cX6_goes 59 = .ok (.iconst 0, 1) := by decide +kernel
theorem dX6_goes_60 : decode cX6_goes 60 = .ok (.iadd, 1) := by decide +kernel
theorem dX6_goes_61 : decode cX6_goes 61 = .ok (.iastore, 1) := by decide +kernel
theorem dX6_goes_62 : decode cX6_goes 62 = .ok (.iload 4, 2) := by decide +kernel
theorem dX6_goes_64 : decode cX6_goes 64 = .ok (.ireturn, 1) := by decide +kernel
theorem dX6_moves_0 : decode cX6_moves 0 = .ok (.aload_n 0, 1) := by decide +kernel
theorem dX6_moves_1 : decode cX6_moves 1 = .ok (.bipush 18, 2) := by decide +kernel
theorem dX6_moves_3 : decode cX6_moves 3 = .ok (.iload_n 1, 1) := by decide +kernel
theorem dX6_moves_4 : decode cX6_moves 4 = .ok (.iadd, 1) := by decide +kernel
theorem dX6_moves_5 : decode cX6_moves 5 = .ok (.iaload, 1) := by decide +kernel
theorem dX6_moves_6 : decode cX6_moves 6 = .ok (.istore_n 2, 1) := by decide +kernel
theorem dX6_moves_7 : decode cX6_moves 7 = .ok (.iload_n 2, 1) := by decide +kernel
theorem dX6_moves_8 : decode cX6_moves 8 = .ok (.iconst 2, 1) := by decide +kernel
theorem dX6_moves_9 : decode cX6_moves 9 = .ok (.if_icmp .eq 8, 3) := by decide +kernel
theorem dX6_moves_12 : decode cX6_moves 12 = .ok (.iload_n 2, 1) := by decide +kernel
theorem dX6_moves_13 : decode cX6_moves 13 = .ok (.iconst 3, 1) := by decide +kernel
theorem dX6_moves_14 : decode cX6_moves 14 = .ok (.if_icmp .ne 12, 3) := by decide +kernel
theorem dX6_moves_17 : decode cX6_moves 17 = .ok (.aload_n 0, 1) := by decide +kernel
theorem dX6_moves_18 : decode cX6_moves 18 = .ok (.iload_n 1, 1) := by decide +kernel
theorem dX6_moves_19 : decode cX6_moves 19 = .ok (.iconst 1, 1) := by decide +kernel
theorem dX6_moves_20 : decode cX6_moves 20 = .ok (.invokestatic 122, 3) := by decide +kernel
theorem dX6_moves_23 : decode cX6_moves 23 = .ok (.goto 31, 3) := by decide +kernel
theorem dX6_moves_26 : decode cX6_moves 26 = .ok (.iload_n 2, 1) := by decide +kernel
theorem dX6_moves_27 : decode cX6_moves 27 = .ok (.iconst 5, 1) := by decide +kernel
theorem dX6_moves_28 : decode cX6_moves 28 = .ok (.if_icmp .ne 25, 3) := by decide +kernel
theorem dX6_moves_31 : decode cX6_moves 31 = .ok (.aload_n 0, 1) := by decide +kernel
theorem dX6_moves_32 : decode cX6_moves 32 = .ok (.iconst 0, 1) := by decide +kernel
theorem dX6_moves_33 : decode cX6_moves 33 = .ok (.iaload, 1) := by decide +kernel
theorem dX6_moves_34 : decode cX6_moves 34 = .ok (.iconst 2, 1) := by decide +kernel
theorem dX6_moves_35 : decode cX6_moves 35 = .ok (.irem, 1) := by decide +kernel
theorem dX6_moves_36 : decode cX6_moves 36 = .ok (.iconst 1, 1) := by decide +kernel
theorem dX6_moves_37 : decode cX6_moves 37 = .ok (.if_icmp .ne 16, 3) := by decide +kernel
theorem dX6_moves_40 : decode cX6_moves 40 = .ok (.aload_n 0, 1) := by decide +kernel
theorem dX6_moves_41 : decode cX6_moves 41 = .ok (.iload_n 1, 1) := by decide +kernel
theorem dX6_moves_42 : decode cX6_moves 42 = .ok (.iconst (-1), 1) := by decide +kernel
theorem dX6_moves_43 : decode cX6_moves 43 = .ok (.invokestatic 122, 3) := by decide +kernel
theorem dX6_moves_46 : decode cX6_moves 46 = .ok (.ifCond .eq 7, 3) := by decide +kernel
theorem dX6_moves_49 : decode cX6_moves 49 = .ok (.iconst 1, 1) := by decide +kernel
theorem dX6_moves_50 : decode cX6_moves 50 = .ok (.goto 4, 3) := by decide +kernel
theorem dX6_moves_53 : decode cX6_moves 53 = .ok (.iconst 0, 1) := by decide +kernel
theorem dX6_moves_54 : decode cX6_moves 54 = .ok (.istore_n 3, 1) := by decide +kernel
theorem dX6_moves_55 : decode cX6_moves 55 = .ok (.iload_n 2, 1) := by decide +kernel
theorem dX6_moves_56 : decode cX6_moves 56 = .ok (.iconst 3, 1) := by decide +kernel
theorem dX6_moves_57 : decode cX6_moves 57 = .ok (.if_icmp .ne 14, 3) := by decide +kernel
theorem dX6_moves_60 : decode cX6_moves 60 = .ok (.iload_n 3, 1) := by decide +kernel
theorem dX6_moves_61 : decode cX6_moves 61 = .ok (.ifCond .eq 10, 3) := by decide +kernel
theorem dX6_moves_64 : decode cX6_moves 64 = .ok (.aload_n 0, 1) := by decide +kernel
theorem dX6_moves_65 : decode cX6_moves 65 = .ok (.iload_n 1, 1) := by decide +kernel
theorem dX6_moves_66 : decode cX6_moves 66 = .ok (.iconst 1, 1) := by decide +kernel
theorem dX6_moves_67 : decode cX6_moves 67 = .ok (.invokestatic 122, 3) := by decide +kernel
theorem dX6_moves_70 : decode cX6_moves 70 = .ok (.pop, 1) := by decide +kernel
theorem dX6_moves_71 : decode cX6_moves 71 = .ok (.return_, 1) := by decide +kernel
theorem dX6_tick_0 : decode cX6_tick 0 = .ok (.iconst 0, 1) := by decide +kernel
theorem dX6_tick_1 : decode cX6_tick 1 = .ok (.istore_n 2, 1) := by decide +kernel
theorem dX6_tick_2 : decode cX6_tick 2 = .ok (.iload_n 2, 1) := by decide +kernel
theorem dX6_tick_3 : decode cX6_tick 3 = .ok (.aload_n 1, 1) := by decide +kernel
theorem dX6_tick_4 : decode cX6_tick 4 = .ok (.bipush 17, 2) := by decide +kernel
theorem dX6_tick_6 : decode cX6_tick 6 = .ok (.iaload, 1) := by decide +kernel
theorem dX6_tick_7 : decode cX6_tick 7 = .ok (.if_icmp .ge 22, 3) := by decide +kernel
theorem dX6_tick_10 : decode cX6_tick 10 = .ok (.aload_n 0, 1) := by decide +kernel
theorem dX6_tick_11 : decode cX6_tick 11 = .ok (.getfield 44, 3) := by decide +kernel
theorem dX6_tick_14 : decode cX6_tick 14 = .ok (.iconst 2, 1) := by decide +kernel
theorem dX6_tick_15 : decode cX6_tick 15 = .ok (.iload_n 2, 1) := by decide +kernel
theorem dX6_tick_16 : decode cX6_tick 16 = .ok (.iadd, 1) := by decide +kernel
theorem dX6_tick_17 : decode cX6_tick 17 = .ok (.aload_n 1, 1) := by decide +kernel
theorem dX6_tick_18 : decode cX6_tick 18 = .ok (.iconst 2, 1) := by decide +kernel
theorem dX6_tick_19 : decode cX6_tick 19 = .ok (.iload_n 2, 1) := by decide +kernel
theorem dX6_tick_20 : decode cX6_tick 20 = .ok (.iadd, 1) := by decide +kernel
theorem dX6_tick_21 : decode cX6_tick 21 = .ok (.iaload, 1) := by decide +kernel
theorem dX6_tick_22 : decode cX6_tick 22 = .ok (.iastore, 1) := by decide +kernel
theorem dX6_tick_23 : decode cX6_tick 23 = .ok (.iinc 2 1, 3) := by decide +kernel
theorem dX6_tick_26 : decode cX6_tick 26 = .ok (.goto (-24), 3) := by decide +kernel
theorem dX6_tick_29 : decode cX6_tick 29 = .ok (.aload_n 1, 1) := by decide +kernel
theorem dX6_tick_30 : decode cX6_tick 30 = .ok (.bipush 16, 2) := by decide +kernel
theorem dX6_tick_32 : decode cX6_tick 32 = .ok (.iaload, 1) := by decide +kernel
theorem dX6_tick_33 : decode cX6_tick 33 = .ok (.iconst 1, 1) := by decide +kernel
theorem dX6_tick_34 : decode cX6_tick 34 = .ok (.isub, 1) := by decide +kernel
theorem dX6_tick_35 : decode cX6_tick 35 = .ok (.istore_n 2, 1) := by decide +kernel
theorem dX6_tick_36 : decode cX6_tick 36 = .ok (.iload_n 2, 1) := by decide +kernel
theorem dX6_tick_37 : decode cX6_tick 37 = .ok (.ifCond .lt 70, 3) := by decide +kernel
theorem dX6_tick_40 : decode cX6_tick 40 = .ok (.iconst 0, 1) := by decide +kernel
theorem dX6_tick_41 : decode cX6_tick 41 = .ok (.istore_n 3, 1) := by decide +kernel
theorem dX6_tick_42 : decode cX6_tick 42 = .ok (.iload_n 3, 1) := by decide +kernel
theorem dX6_tick_43 : decode cX6_tick 43 = .ok (.iconst 2, 1) := by decide +kernel
theorem dX6_tick_44 : decode cX6_tick 44 = .ok (.if_icmp .ge 57, 3) := by decide +kernel
theorem dX6_tick_47 : decode cX6_tick 47 = .ok (.iconst 0, 1) := by decide +kernel
theorem dX6_tick_48 : decode cX6_tick 48 = .ok (.istore 4, 2) := by decide +kernel
theorem dX6_tick_50 : decode cX6_tick 50 = .ok (.iload 4, 2) := by decide +kernel
theorem dX6_tick_52 : decode cX6_tick 52 = .ok (.aload_n 1, 1) := by decide +kernel
theorem dX6_tick_53 : decode cX6_tick 53 = .ok (.bipush 17, 2) := by decide +kernel
theorem dX6_tick_55 : decode cX6_tick 55 = .ok (.iaload, 1) := by decide +kernel
theorem dX6_tick_56 : decode cX6_tick 56 = .ok (.if_icmp .ge 39, 3) := by decide +kernel
theorem dX6_tick_59 : decode cX6_tick 59 = .ok (.aload_n 0, 1) := by decide +kernel
theorem dX6_tick_60 : decode cX6_tick 60 = .ok (.getfield 44, 3) := by decide +kernel
theorem dX6_tick_63 : decode cX6_tick 63 = .ok (.iconst 2, 1) := by decide +kernel
theorem dX6_tick_64 : decode cX6_tick 64 = .ok (.iload 4, 2) := by decide +kernel
theorem dX6_tick_66 : decode cX6_tick 66 = .ok (.iadd, 1) := by decide +kernel
theorem dX6_tick_67 : decode cX6_tick 67 = .ok (.iaload, 1) := by decide +kernel
theorem dX6_tick_68 : decode cX6_tick 68 = .ok (.iload_n 2, 1) := by decide +kernel
theorem dX6_tick_69 : decode cX6_tick 69 = .ok (.if_icmp .ne 20, 3) := by decide +kernel
theorem dX6_tick_72 : decode cX6_tick 72 = .ok (.aload_n 1, 1) := by decide +kernel
theorem dX6_tick_73 : decode cX6_tick 73 = .ok (.bipush 9, 2) := by decide +kernel
theorem dX6_tick_75 : decode cX6_tick 75 = .ok (.iload 4, 2) := by decide +kernel
theorem dX6_tick_77 : decode cX6_tick 77 = .ok (.iadd, 1) := by decide +kernel
theorem dX6_tick_78 : decode cX6_tick 78 = .ok (.iaload, 1) := by decide +kernel
theorem dX6_tick_79 : decode cX6_tick 79 = .ok (.iload_n 3, 1) := by decide +kernel
theorem dX6_tick_80 : decode cX6_tick 80 = .ok (.if_icmp .ne 9, 3) := by decide +kernel
theorem dX6_tick_83 : decode cX6_tick 83 = .ok (.aload_n 1, 1) := by decide +kernel
theorem dX6_tick_84 : decode cX6_tick 84 = .ok (.iload 4, 2) := by decide +kernel
theorem dX6_tick_86 : decode cX6_tick 86 = .ok (.invokestatic 126, 3) := by decide +kernel
theorem dX6_tick_89 : decode cX6_tick 89 = .ok (.iinc 4 1, 3) := by decide +kernel
theorem dX6_tick_92 : decode cX6_tick 92 = .ok (.goto (-42), 3) := by decide +kernel
theorem dX6_tick_95 : decode cX6_tick 95 = .ok (.iinc 3 1, 3) := by decide +kernel
theorem dX6_tick_98 : decode cX6_tick 98 = .ok (.goto (-56), 3) := by decide +kernel
theorem dX6_tick_101 : decode cX6_tick 101 = .ok (.iinc 2 (-1), 3) := by decide +kernel
theorem dX6_tick_104 : decode cX6_tick 104 = .ok (.goto (-68), 3) := by decide +kernel
theorem dX6_tick_107 : decode cX6_tick 107 = .ok (.iconst 0, 1) := by decide +kernel
theorem dX6_tick_108 : decode cX6_tick 108 = .ok (.istore_n 2, 1) := by decide +kernel
theorem dX6_tick_109 : decode cX6_tick 109 = .ok (.iload_n 2, 1) := by decide +kernel
theorem dX6_tick_110 : decode cX6_tick 110 = .ok (.aload_n 1, 1) := by decide +kernel
theorem dX6_tick_111 : decode cX6_tick 111 = .ok (.bipush 17, 2) := by decide +kernel
theorem dX6_tick_113 : decode cX6_tick 113 = .ok (.iaload, 1) := by decide +kernel
theorem dX6_tick_114 : decode cX6_tick 114 = .ok (.if_icmp .ge 58, 3) := by decide +kernel
theorem dX6_tick_117 : decode cX6_tick 117 = .ok (.aload_n 1, 1) := by decide +kernel
theorem dX6_tick_118 : decode cX6_tick 118 = .ok (.iconst 2, 1) := by decide +kernel
theorem dX6_tick_119 : decode cX6_tick 119 = .ok (.iload_n 2, 1) := by decide +kernel
theorem dX6_tick_120 : decode cX6_tick 120 = .ok (.iadd, 1) := by decide +kernel
theorem dX6_tick_121 : decode cX6_tick 121 = .ok (.iaload, 1) := by decide +kernel
theorem dX6_tick_122 : decode cX6_tick 122 = .ok (.invokestatic 130, 3) := by decide +kernel
theorem dX6_tick_125 : decode cX6_tick 125 = .ok (.ifCond .eq 41, 3) := by decide +kernel
theorem dX6_tick_128 : decode cX6_tick 128 = .ok (.aload_n 1, 1) := by decide +kernel
theorem dX6_tick_129 : decode cX6_tick 129 = .ok (.iconst 2, 1) := by decide +kernel
theorem dX6_tick_130 : decode cX6_tick 130 = .ok (.iload_n 2, 1) := by decide +kernel
theorem dX6_tick_131 : decode cX6_tick 131 = .ok (.iadd, 1) := by decide +kernel
theorem dX6_tick_132 : decode cX6_tick 132 = .ok (.dup2, 1) := by decide +kernel
theorem dX6_tick_133 : decode cX6_tick 133 = .ok (.iaload, 1) := by decide +kernel
theorem dX6_tick_134 : decode cX6_tick 134 = .ok (.aload_n 1, 1) := by decide +kernel
theorem dX6_tick_135 : decode cX6_tick 135 = .ok (.iconst 1, 1) := by decide +kernel
theorem dX6_tick_136 : decode cX6_tick 136 = .ok (.iaload, 1) := by decide +kernel
theorem dX6_tick_137 : decode cX6_tick 137 = .ok (.iadd, 1) := by decide +kernel
theorem dX6_tick_138 : decode cX6_tick 138 = .ok (.iastore, 1) := by decide +kernel
theorem dX6_tick_139 : decode cX6_tick 139 = .ok (.aload_n 1, 1) := by decide +kernel
theorem dX6_tick_140 : decode cX6_tick 140 = .ok (.iconst 2, 1) := by decide +kernel
theorem dX6_tick_141 : decode cX6_tick 141 = .ok (.iload_n 2, 1) := by decide +kernel
theorem dX6_tick_142 : decode cX6_tick 142 = .ok (.iadd, 1) := by decide +kernel
theorem dX6_tick_143 : decode cX6_tick 143 = .ok (.aload_n 1, 1) := by decide +kernel
theorem dX6_tick_144 : decode cX6_tick 144 = .ok (.iconst 2, 1) := by decide +kernel
theorem dX6_tick_145 : decode cX6_tick 145 = .ok (.iload_n 2, 1) := by decide +kernel
theorem dX6_tick_146 : decode cX6_tick 146 = .ok (.iadd, 1) := by decide +kernel
theorem dX6_tick_147 : decode cX6_tick 147 = .ok (.iaload, 1) := by decide +kernel
theorem dX6_tick_148 : decode cX6_tick 148 = .ok (.aload_n 1, 1) := by decide +kernel
theorem dX6_tick_149 : decode cX6_tick 149 = .ok (.bipush 16, 2) := by decide +kernel
theorem dX6_tick_151 : decode cX6_tick 151 = .ok (.iaload, 1) := by decide +kernel
theorem dX6_tick_152 : decode cX6_tick 152 = .ok (.if_icmp .lt 8, 3) := by decide +kernel
theorem dX6_tick_155 : decode cX6_tick 155 = .ok (.bipush 99, 2) := by decide +kernel
theorem dX6_tick_157 : decode cX6_tick 157 = .ok (.goto 8, 3) := by decide +kernel
theorem dX6_tick_160 : decode cX6_tick 160 = .ok (.aload_n 1, 1) := by decide +kernel
theorem dX6_tick_161 : decode cX6_tick 161 = .ok (.iconst 2, 1) := by decide +kernel
theorem dX6_tick_162 : decode cX6_tick 162 = .ok (.iload_n 2, 1) := by decide +kernel
theorem dX6_tick_163 : decode cX6_tick 163 = .ok (.iadd, 1) := by decide +kernel
theorem dX6_tick_164 : decode cX6_tick 164 = .ok (.iaload, 1) := by decide +kernel
theorem dX6_tick_165 : decode cX6_tick 165 = .ok (.iastore, 1) := by decide +kernel
theorem dX6_tick_166 : decode cX6_tick 166 = .ok (.iinc 2 1, 3) := by decide +kernel
theorem dX6_tick_169 : decode cX6_tick 169 = .ok (.goto (-60), 3) := by decide +kernel
theorem dX6_tick_172 : decode cX6_tick 172 = .ok (.iconst (-1), 1) := by decide +kernel
theorem dX6_tick_173 : decode cX6_tick 173 = .ok (.istore_n 2, 1) := by decide +kernel
theorem dX6_tick_174 : decode cX6_tick 174 = .ok (.aload_n 1, 1) := by decide +kernel
theorem dX6_tick_175 : decode cX6_tick 175 = .ok (.bipush 17, 2) := by decide +kernel
theorem dX6_tick_177 : decode cX6_tick 177 = .ok (.iaload, 1) := by decide +kernel
theorem dX6_tick_178 : decode cX6_tick 178 = .ok (.iconst 1, 1) := by decide +kernel
theorem dX6_tick_179 : decode cX6_tick 179 = .ok (.isub, 1) := by decide +kernel
theorem dX6_tick_180 : decode cX6_tick 180 = .ok (.istore_n 3, 1) := by decide +kernel
theorem dX6_tick_181 : decode cX6_tick 181 = .ok (.iload_n 3, 1) := by decide +kernel
theorem dX6_tick_182 : decode cX6_tick 182 = .ok (.ifCond .lt 39, 3) := by decide +kernel
theorem dX6_tick_185 : decode cX6_tick 185 = .ok (.aload_n 1, 1) := by decide +kernel
theorem dX6_tick_186 : decode cX6_tick 186 = .ok (.iconst 2, 1) := by decide +kernel
theorem dX6_tick_187 : decode cX6_tick 187 = .ok (.iload_n 3, 1) := by decide +kernel
theorem dX6_tick_188 : decode cX6_tick 188 = .ok (.iadd, 1) := by decide +kernel
theorem dX6_tick_189 : decode cX6_tick 189 = .ok (.iaload, 1) := by decide +kernel
theorem dX6_tick_190 : decode cX6_tick 190 = .ok (.iconst (-1), 1) := by decide +kernel
theorem dX6_tick_191 : decode cX6_tick 191 = .ok (.if_icmp .ne 22, 3) := by decide +kernel
theorem dX6_tick_194 : decode cX6_tick 194 = .ok (.aload_n 1, 1) := by decide +kernel
theorem dX6_tick_195 : decode cX6_tick 195 = .ok (.iload_n 3, 1) := by decide +kernel
theorem dX6_tick_196 : decode cX6_tick 196 = .ok (.iconst 0, 1) := by decide +kernel
theorem dX6_tick_197 : decode cX6_tick 197 = .ok (.aload_n 1, 1) := by decide +kernel
theorem dX6_tick_198 : decode cX6_tick 198 = .ok (.bipush 9, 2) := by decide +kernel
theorem dX6_tick_200 : decode cX6_tick 200 = .ok (.iload_n 3, 1) := by decide +kernel
theorem dX6_tick_201 : decode cX6_tick 201 = .ok (.iadd, 1) := by decide +kernel
theorem dX6_tick_202 : decode cX6_tick 202 = .ok (.iaload, 1) := by decide +kernel
theorem dX6_tick_203 : decode cX6_tick 203 = .ok (.invokestatic 118, 3) := by decide +kernel
theorem dX6_tick_206 : decode cX6_tick 206 = .ok (.ifCond .eq 7, 3) := by decide +kernel
theorem dX6_tick_209 : decode cX6_tick 209 = .ok (.iload_n 3, 1) := by decide +kernel
theorem dX6_tick_210 : decode cX6_tick 210 = .ok (.goto 4, 3) := by decide +kernel
theorem dX6_tick_213 : decode cX6_tick 213 = .ok (.iload_n 2, 1) := by decide +kernel
theorem dX6_tick_214 : decode cX6_tick 214 = .ok (.istore_n 2, 1) := by decide +kernel
theorem dX6_tick_215 : decode cX6_tick 215 = .ok (.iinc 3 (-1), 3) := by decide +kernel
theorem dX6_tick_218 : decode cX6_tick 218 = .ok (.goto (-37), 3) := by decide +kernel
theorem dX6_tick_221 : decode cX6_tick 221 = .ok (.iload_n 2, 1) := by decide +kernel
theorem dX6_tick_222 : decode cX6_tick 222 = .ok (.ifCond .lt 9, 3) := by decide +kernel
theorem dX6_tick_225 : decode cX6_tick 225 = .ok (.aload_n 1, 1) := by decide +kernel
theorem dX6_tick_226 : decode cX6_tick 226 = .ok (.iconst 2, 1) := by decide +kernel
theorem dX6_tick_227 : decode cX6_tick 227 = .ok (.iload_n 2, 1) := by decide +kernel
theorem dX6_tick_228 : decode cX6_tick 228 = .ok (.iadd, 1) := by decide +kernel
theorem dX6_tick_229 : decode cX6_tick 229 = .ok (.iconst 0, 1) := by decide +kernel
theorem dX6_tick_230 : decode cX6_tick 230 = .ok (.iastore, 1) := by decide +kernel
theorem dX6_tick_231 : decode cX6_tick 231 = .ok (.aload_n 1, 1) := by decide +kernel
theorem dX6_tick_232 : decode cX6_tick 232 = .ok (.iconst 0, 1) := by decide +kernel
theorem dX6_tick_233 : decode cX6_tick 233 = .ok (.dup2, 1) := by decide +kernel
theorem dX6_tick_234 : decode cX6_tick 234 = .ok (.iaload, 1) := by decide +kernel
theorem dX6_tick_235 : decode cX6_tick 235 = .ok (.iconst 1, 1) := by decide +kernel
theorem dX6_tick_236 : decode cX6_tick 236 = .ok (.iadd, 1) := by decide +kernel
theorem dX6_tick_237 : decode cX6_tick 237 = .ok (.iastore, 1) := by decide +kernel
theorem dX6_tick_238 : decode cX6_tick 238 = .ok (.return_, 1) := by decide +kernel
theorem dX6_offIn_0 : decode cX6_offIn 0 = .ok (.iconst 0, 1) := by decide +kernel
theorem dX6_offIn_1 : decode cX6_offIn 1 = .ok (.istore_n 1, 1) := by decide +kernel
theorem dX6_offIn_2 : decode cX6_offIn 2 = .ok (.iconst 0, 1) := by decide +kernel
theorem dX6_offIn_3 : decode cX6_offIn 3 = .ok (.istore_n 2, 1) := by decide +kernel
theorem dX6_offIn_4 : decode cX6_offIn 4 = .ok (.iload_n 2, 1) := by decide +kernel
theorem dX6_offIn_5 : decode cX6_offIn 5 = .ok (.aload_n 0, 1) := by decide +kernel
theorem dX6_offIn_6 : decode cX6_offIn 6 = .ok (.bipush 17, 2) := by decide +kernel
theorem dX6_offIn_8 : decode cX6_offIn 8 = .ok (.iaload, 1) := by decide +kernel
theorem dX6_offIn_9 : decode cX6_offIn 9 = .ok (.if_icmp .ge 27, 3) := by decide +kernel
theorem dX6_offIn_12 : decode cX6_offIn 12 = .ok (.iload_n 1, 1) := by decide +kernel
theorem dX6_offIn_13 : decode cX6_offIn 13 = .ok (.aload_n 0, 1) := by decide +kernel
theorem dX6_offIn_14 : decode cX6_offIn 14 = .ok (.iconst 2, 1) := by decide +kernel
theorem dX6_offIn_15 : decode cX6_offIn 15 = .ok (.iload_n 2, 1) := by decide +kernel
theorem dX6_offIn_16 : decode cX6_offIn 16 = .ok (.iadd, 1) := by decide +kernel
theorem dX6_offIn_17 : decode cX6_offIn 17 = .ok (.iaload, 1) := by decide +kernel
theorem dX6_offIn_18 : decode cX6_offIn 18 = .ok (.bipush 99, 2) := by decide +kernel
theorem dX6_offIn_20 : decode cX6_offIn 20 = .ok (.if_icmp .ne 7, 3) := by decide +kernel
theorem dX6_offIn_23 : decode cX6_offIn 23 = .ok (.iconst 1, 1) := by decide +kernel
theorem dX6_offIn_24 : decode cX6_offIn 24 = .ok (.goto 4, 3) := by decide +kernel
theorem dX6_offIn_27 : decode cX6_offIn 27 = .ok (.iconst 0, 1) := by decide +kernel
theorem dX6_offIn_28 : decode cX6_offIn 28 = .ok (.iadd, 1) := by decide +kernel
theorem dX6_offIn_29 : decode cX6_offIn 29 = .ok (.istore_n 1, 1) := by decide +kernel
theorem dX6_offIn_30 : decode cX6_offIn 30 = .ok (.iinc 2 1, 3) := by decide +kernel
theorem dX6_offIn_33 : decode cX6_offIn 33 = .ok (.goto (-29), 3) := by decide +kernel
theorem dX6_offIn_36 : decode cX6_offIn 36 = .ok (.iload_n 1, 1) := by decide +kernel
theorem dX6_offIn_37 : decode cX6_offIn 37 = .ok (.ireturn, 1) := by decide +kernel
theorem dX6_ticks_0 : decode cX6_ticks 0 = .ok (.aload_n 0, 1) := by decide +kernel
theorem dX6_ticks_1 : decode cX6_ticks 1 = .ok (.invokevirtual 133, 3) := by decide +kernel
theorem dX6_ticks_4 : decode cX6_ticks 4 = .ok (.ifCond .ne 6, 3) := by decide +kernel
theorem dX6_ticks_7 : decode cX6_ticks 7 = .ok (.ldc 136, 2) := by decide +kernel
theorem dX6_ticks_9 : decode cX6_ticks 9 = .ok (.ireturn, 1) := by decide +kernel
theorem dX6_ticks_10 : decode cX6_ticks 10 = .ok (.iload_n 1, 1) := by decide +kernel
theorem dX6_ticks_11 : decode cX6_ticks 11 = .ok (.iconst 1, 1) := by decide +kernel
theorem dX6_ticks_12 : decode cX6_ticks 12 = .ok (.bipush 24, 2) := by decide +kernel
theorem dX6_ticks_14 : decode cX6_ticks 14 = .ok (.invokestatic 50, 3) := by decide +kernel
theorem dX6_ticks_17 : decode cX6_ticks 17 = .ok (.ifCond .ne 6, 3) := by decide +kernel
theorem dX6_ticks_20 : decode cX6_ticks 20 = .ok (.ldc 65, 2) := by decide +kernel
theorem dX6_ticks_22 : decode cX6_ticks 22 = .ok (.ireturn, 1) := by decide +kernel
theorem dX6_ticks_23 : decode cX6_ticks 23 = .ok (.aload_n 0, 1) := by decide +kernel
theorem dX6_ticks_24 : decode cX6_ticks 24 = .ok (.getfield 25, 3) := by decide +kernel
theorem dX6_ticks_27 : decode cX6_ticks 27 = .ok (.iconst 0, 1) := by decide +kernel
theorem dX6_ticks_28 : decode cX6_ticks 28 = .ok (.iaload, 1) := by decide +kernel
theorem dX6_ticks_29 : decode cX6_ticks 29 = .ok (.iload_n 1, 1) := by decide +kernel
theorem dX6_ticks_30 : decode cX6_ticks 30 = .ok (.iadd, 1) := by decide +kernel
theorem dX6_ticks_31 : decode cX6_ticks 31 = .ok (.sipush 9999, 3) := by decide +kernel
theorem dX6_ticks_34 : decode cX6_ticks 34 = .ok (.if_icmp .le 6, 3) := by decide +kernel
theorem dX6_ticks_37 : decode cX6_ticks 37 = .ok (.ldc 82, 2) := by decide +kernel
theorem dX6_ticks_39 : decode cX6_ticks 39 = .ok (.ireturn, 1) := by decide +kernel
theorem dX6_ticks_40 : decode cX6_ticks 40 = .ok (.iconst 0, 1) := by decide +kernel
theorem dX6_ticks_41 : decode cX6_ticks 41 = .ok (.istore_n 2, 1) := by decide +kernel
theorem dX6_ticks_42 : decode cX6_ticks 42 = .ok (.iload_n 2, 1) := by decide +kernel
theorem dX6_ticks_43 : decode cX6_ticks 43 = .ok (.iload_n 1, 1) := by decide +kernel
theorem dX6_ticks_44 : decode cX6_ticks 44 = .ok (.if_icmp .ge 21, 3) := by decide +kernel
theorem dX6_ticks_47 : decode cX6_ticks 47 = .ok (.aload_n 0, 1) := by decide +kernel
theorem dX6_ticks_48 : decode cX6_ticks 48 = .ok (.invokevirtual 137, 3) := by decide +kernel
theorem dX6_ticks_51 : decode cX6_ticks 51 = .ok (.aload_n 0, 1) := by decide +kernel
theorem dX6_ticks_52 : decode cX6_ticks 52 = .ok (.aload_n 0, 1) := by decide +kernel
theorem dX6_ticks_53 : decode cX6_ticks 53 = .ok (.getfield 25, 3) := by decide +kernel
theorem dX6_ticks_56 : decode cX6_ticks 56 = .ok (.invokevirtual 140, 3) := by decide +kernel
theorem dX6_ticks_59 : decode cX6_ticks 59 = .ok (.iinc 2 1, 3) := by decide +kernel
theorem dX6_ticks_62 : decode cX6_ticks 62 = .ok (.goto (-20), 3) := by decide +kernel
theorem dX6_ticks_65 : decode cX6_ticks 65 = .ok (.aload_n 0, 1) := by decide +kernel
theorem dX6_ticks_66 : decode cX6_ticks 66 = .ok (.getfield 25, 3) := by decide +kernel
theorem dX6_ticks_69 : decode cX6_ticks 69 = .ok (.invokestatic 144, 3) := by decide +kernel
theorem dX6_ticks_72 : decode cX6_ticks 72 = .ok (.ireturn, 1) := by decide +kernel
theorem dX6_speed_0 : decode cX6_speed 0 = .ok (.aload_n 0, 1) := by decide +kernel
theorem dX6_speed_1 : decode cX6_speed 1 = .ok (.invokevirtual 133, 3) := by decide +kernel
theorem dX6_speed_4 : decode cX6_speed 4 = .ok (.ifCond .ne 6, 3) := by decide +kernel
theorem dX6_speed_7 : decode cX6_speed 7 = .ok (.ldc 136, 2) := by decide +kernel
theorem dX6_speed_9 : decode cX6_speed 9 = .ok (.ireturn, 1) := by decide +kernel
theorem dX6_speed_10 : decode cX6_speed 10 = .ok (.iload_n 1, 1) := by decide +kernel
theorem dX6_speed_11 : decode cX6_speed 11 = .ok (.iconst 0, 1) := by decide +kernel
theorem dX6_speed_12 : decode cX6_speed 12 = .ok (.iconst 2, 1) := by decide +kernel
theorem dX6_speed_13 : decode cX6_speed 13 = .ok (.invokestatic 50, 3) := by decide +kernel
theorem dX6_speed_16 : decode cX6_speed 16 = .ok (.ifCond .ne 6, 3) := by decide +kernel
theorem dX6_speed_19 : decode cX6_speed 19 = .ok (.ldc 65, 2) := by decide +kernel
theorem dX6_speed_21 : decode cX6_speed 21 = .ok (.ireturn, 1) := by decide +kernel
theorem dX6_speed_22 : decode cX6_speed 22 = .ok (.aload_n 0, 1) := by decide +kernel
theorem dX6_speed_23 : decode cX6_speed 23 = .ok (.invokevirtual 137, 3) := by decide +kernel
theorem dX6_speed_26 : decode cX6_speed 26 = .ok (.aload_n 0, 1) := by decide +kernel
theorem dX6_speed_27 : decode cX6_speed 27 = .ok (.getfield 25, 3) := by decide +kernel
theorem dX6_speed_30 : decode cX6_speed 30 = .ok (.iconst 1, 1) := by decide +kernel
theorem dX6_speed_31 : decode cX6_speed 31 = .ok (.iaload, 1) := by decide +kernel
theorem dX6_speed_32 : decode cX6_speed 32 = .ok (.istore_n 2, 1) := by decide +kernel
theorem dX6_speed_33 : decode cX6_speed 33 = .ok (.aload_n 0, 1) := by decide +kernel
theorem dX6_speed_34 : decode cX6_speed 34 = .ok (.getfield 25, 3) := by decide +kernel
theorem dX6_speed_37 : decode cX6_speed 37 = .ok (.iconst 1, 1) := by decide +kernel
theorem dX6_speed_38 : decode cX6_speed 38 = .ok (.iload_n 1, 1) := by decide +kernel
theorem dX6_speed_39 : decode cX6_speed 39 = .ok (.iastore, 1) := by decide +kernel
theorem dX6_speed_40 : decode cX6_speed 40 = .ok (.iload_n 2, 1) := by decide +kernel
theorem dX6_speed_41 : decode cX6_speed 41 = .ok (.ireturn, 1) := by decide +kernel
theorem dX6_cross_0 : decode cX6_cross 0 = .ok (.aload_n 0, 1) := by decide +kernel
theorem dX6_cross_1 : decode cX6_cross 1 = .ok (.iload_n 1, 1) := by decide +kernel
theorem dX6_cross_2 : decode cX6_cross 2 = .ok (.invokevirtual 148, 3) := by decide +kernel
theorem dX6_cross_5 : decode cX6_cross 5 = .ok (.ifCond .ne 6, 3) := by decide +kernel
theorem dX6_cross_8 : decode cX6_cross 8 = .ok (.ldc 65, 2) := by decide +kernel
theorem dX6_cross_10 : decode cX6_cross 10 = .ok (.ireturn, 1) := by decide +kernel
theorem dX6_cross_11 : decode cX6_cross 11 = .ok (.iconst 1, 1) := by decide +kernel
theorem dX6_cross_12 : decode cX6_cross 12 = .ok (.aload_n 0, 1) := by decide +kernel
theorem dX6_cross_13 : decode cX6_cross 13 = .ok (.getfield 25, 3) := by decide +kernel
theorem dX6_cross_16 : decode cX6_cross 16 = .ok (.bipush 9, 2) := by decide +kernel
theorem dX6_cross_18 : decode cX6_cross 18 = .ok (.iload_n 1, 1) := by decide +kernel
theorem dX6_cross_19 : decode cX6_cross 19 = .ok (.iadd, 1) := by decide +kernel
theorem dX6_cross_20 : decode cX6_cross 20 = .ok (.iaload, 1) := by decide +kernel
theorem dX6_cross_21 : decode cX6_cross 21 = .ok (.isub, 1) := by decide +kernel
theorem dX6_cross_22 : decode cX6_cross 22 = .ok (.istore_n 2, 1) := by decide +kernel
theorem dX6_cross_23 : decode cX6_cross 23 = .ok (.aload_n 0, 1) := by decide +kernel
theorem dX6_cross_24 : decode cX6_cross 24 = .ok (.getfield 25, 3) := by decide +kernel
theorem dX6_cross_27 : decode cX6_cross 27 = .ok (.iconst 2, 1) := by decide +kernel
theorem dX6_cross_28 : decode cX6_cross 28 = .ok (.iload_n 1, 1) := by decide +kernel
theorem dX6_cross_29 : decode cX6_cross 29 = .ok (.iadd, 1) := by decide +kernel
theorem dX6_cross_30 : decode cX6_cross 30 = .ok (.iaload, 1) := by decide +kernel
theorem dX6_cross_31 : decode cX6_cross 31 = .ok (.istore_n 3, 1) := by decide +kernel
theorem dX6_cross_32 : decode cX6_cross 32 = .ok (.iload_n 3, 1) := by decide +kernel
theorem dX6_cross_33 : decode cX6_cross 33 = .ok (.bipush 99, 2) := by decide +kernel
theorem dX6_cross_35 : decode cX6_cross 35 = .ok (.if_icmp .eq 36, 3) := by decide +kernel
theorem dX6_cross_38 : decode cX6_cross 38 = .ok (.iload_n 3, 1) := by decide +kernel
theorem dX6_cross_39 : decode cX6_cross 39 = .ok (.invokestatic 130, 3) := by decide +kernel
theorem dX6_cross_42 : decode cX6_cross 42 = .ok (.ifCond .eq 32, 3) := by decide +kernel
theorem dX6_cross_45 : decode cX6_cross 45 = .ok (.aload_n 0, 1) := by decide +kernel
theorem dX6_cross_46 : decode cX6_cross 46 = .ok (.getfield 25, 3) := by decide +kernel
theorem dX6_cross_49 : decode cX6_cross 49 = .ok (.bipush 18, 2) := by decide +kernel
theorem dX6_cross_51 : decode cX6_cross 51 = .ok (.iload_n 1, 1) := by decide +kernel
theorem dX6_cross_52 : decode cX6_cross 52 = .ok (.iadd, 1) := by decide +kernel
theorem dX6_cross_53 : decode cX6_cross 53 = .ok (.iaload, 1) := by decide +kernel
theorem dX6_cross_54 : decode cX6_cross 54 = .ok (.iconst 4, 1) := by decide +kernel
theorem dX6_cross_55 : decode cX6_cross 55 = .ok (.if_icmp .ge 19, 3) := by decide +kernel
theorem dX6_cross_58 : decode cX6_cross 58 = .ok (.aload_n 0, 1) := by decide +kernel
theorem dX6_cross_59 : decode cX6_cross 59 = .ok (.getfield 25, 3) := by decide +kernel
theorem dX6_cross_62 : decode cX6_cross 62 = .ok (.iload_n 1, 1) := by decide +kernel
theorem dX6_cross_63 : decode cX6_cross 63 = .ok (.iload_n 3, 1) := by decide +kernel
theorem dX6_cross_64 : decode cX6_cross 64 = .ok (.iload_n 2, 1) := by decide +kernel
theorem dX6_cross_65 : decode cX6_cross 65 = .ok (.invokestatic 118, 3) := by decide +kernel
theorem dX6_cross_68 : decode cX6_cross 68 = .ok (.ifCond .ne 6, 3) := by decide +kernel
theorem dX6_cross_71 : decode cX6_cross 71 = .ok (.ldc 136, 2) := by decide +kernel
theorem dX6_cross_73 : decode cX6_cross 73 = .ok (.ireturn, 1) := by decide +kernel
theorem dX6_cross_74 : decode cX6_cross 74 = .ok (.aload_n 0, 1) := by decide +kernel
theorem dX6_cross_75 : decode cX6_cross 75 = .ok (.invokevirtual 137, 3) := by decide +kernel
theorem dX6_cross_78 : decode cX6_cross 78 = .ok (.aload_n 0, 1) := by decide +kernel
theorem dX6_cross_79 : decode cX6_cross 79 = .ok (.getfield 25, 3) := by decide +kernel
theorem dX6_cross_82 : decode cX6_cross 82 = .ok (.bipush 9, 2) := by decide +kernel
theorem dX6_cross_84 : decode cX6_cross 84 = .ok (.iload_n 1, 1) := by decide +kernel
theorem dX6_cross_85 : decode cX6_cross 85 = .ok (.iadd, 1) := by decide +kernel
theorem dX6_cross_86 : decode cX6_cross 86 = .ok (.iload_n 2, 1) := by decide +kernel
theorem dX6_cross_87 : decode cX6_cross 87 = .ok (.iastore, 1) := by decide +kernel
theorem dX6_cross_88 : decode cX6_cross 88 = .ok (.iload_n 2, 1) := by decide +kernel
theorem dX6_cross_89 : decode cX6_cross 89 = .ok (.ireturn, 1) := by decide +kernel
theorem dX6_take_0 : decode cX6_take 0 = .ok (.aload_n 0, 1) := by decide +kernel
theorem dX6_take_1 : decode cX6_take 1 = .ok (.iload_n 1, 1) := by decide +kernel
theorem dX6_take_2 : decode cX6_take 2 = .ok (.invokevirtual 148, 3) := by decide +kernel
theorem dX6_take_5 : decode cX6_take 5 = .ok (.ifCond .ne 6, 3) := by decide +kernel
theorem dX6_take_8 : decode cX6_take 8 = .ok (.ldc 65, 2) := by decide +kernel
theorem dX6_take_10 : decode cX6_take 10 = .ok (.ireturn, 1) := by decide +kernel
theorem dX6_take_11 : decode cX6_take 11 = .ok (.aload_n 0, 1) := by decide +kernel
theorem dX6_take_12 : decode cX6_take 12 = .ok (.getfield 25, 3) := by decide +kernel
theorem dX6_take_15 : decode cX6_take 15 = .ok (.iconst 2, 1) := by decide +kernel
theorem dX6_take_16 : decode cX6_take 16 = .ok (.iload_n 1, 1) := by decide +kernel
theorem dX6_take_17 : decode cX6_take 17 = .ok (.iadd, 1) := by decide +kernel
theorem dX6_take_18 : decode cX6_take 18 = .ok (.iaload, 1) := by decide +kernel
theorem dX6_take_19 : decode cX6_take 19 = .ok (.istore_n 2, 1) := by decide +kernel
theorem dX6_take_20 : decode cX6_take 20 = .ok (.iload_n 2, 1) := by decide +kernel
theorem dX6_take_21 : decode cX6_take 21 = .ok (.bipush 99, 2) := by decide +kernel
theorem dX6_take_23 : decode cX6_take 23 = .ok (.if_icmp .ne 6, 3) := by decide +kernel
theorem dX6_take_26 : decode cX6_take 26 = .ok (.ldc 136, 2) := by decide +kernel
theorem dX6_take_28 : decode cX6_take 28 = .ok (.ireturn, 1) := by decide +kernel
theorem dX6_take_29 : decode cX6_take 29 = .ok (.aload_n 0, 1) := by decide +kernel
theorem dX6_take_30 : decode cX6_take 30 = .ok (.invokevirtual 137, 3) := by decide +kernel
theorem dX6_take_33 : decode cX6_take 33 = .ok (.aload_n 0, 1) := by decide +kernel
theorem dX6_take_34 : decode cX6_take 34 = .ok (.getfield 25, 3) := by decide +kernel
theorem dX6_take_37 : decode cX6_take 37 = .ok (.iconst 2, 1) := by decide +kernel
theorem dX6_take_38 : decode cX6_take 38 = .ok (.iload_n 1, 1) := by decide +kernel
theorem dX6_take_39 : decode cX6_take 39 = .ok (.iadd, 1) := by decide +kernel
theorem dX6_take_40 : decode cX6_take 40 = .ok (.bipush 99, 2) := by decide +kernel
theorem dX6_take_42 : decode cX6_take 42 = .ok (.iastore, 1) := by decide +kernel
theorem dX6_take_43 : decode cX6_take 43 = .ok (.iload_n 2, 1) := by decide +kernel
theorem dX6_take_44 : decode cX6_take 44 = .ok (.ireturn, 1) := by decide +kernel
theorem dX6_again_0 : decode cX6_again 0 = .ok (.aload_n 0, 1) := by decide +kernel
theorem dX6_again_1 : decode cX6_again 1 = .ok (.iload_n 1, 1) := by decide +kernel
theorem dX6_again_2 : decode cX6_again 2 = .ok (.invokevirtual 148, 3) := by decide +kernel
theorem dX6_again_5 : decode cX6_again 5 = .ok (.ifCond .eq 12, 3) := by decide +kernel
theorem dX6_again_8 : decode cX6_again 8 = .ok (.iload_n 2, 1) := by decide +kernel
theorem dX6_again_9 : decode cX6_again 9 = .ok (.iconst 0, 1) := by decide +kernel
theorem dX6_again_10 : decode cX6_again 10 = .ok (.iconst 1, 1) := by decide +kernel
theorem dX6_again_11 : decode cX6_again 11 = .ok (.invokestatic 50, 3) := by decide +kernel
theorem dX6_again_14 : decode cX6_again 14 = .ok (.ifCond .ne 6, 3) := by decide +kernel
theorem dX6_again_17 : decode cX6_again 17 = .ok (.ldc 65, 2) := by decide +kernel
theorem dX6_again_19 : decode cX6_again 19 = .ok (.ireturn, 1) := by decide +kernel
theorem dX6_again_20 : decode cX6_again 20 = .ok (.aload_n 0, 1) := by decide +kernel
theorem dX6_again_21 : decode cX6_again 21 = .ok (.getfield 25, 3) := by decide +kernel
theorem dX6_again_24 : decode cX6_again 24 = .ok (.iconst 2, 1) := by decide +kernel
theorem dX6_again_25 : decode cX6_again 25 = .ok (.iload_n 1, 1) := by decide +kernel
theorem dX6_again_26 : decode cX6_again 26 = .ok (.iadd, 1) := by decide +kernel
theorem dX6_again_27 : decode cX6_again 27 = .ok (.iaload, 1) := by decide +kernel
theorem dX6_again_28 : decode cX6_again 28 = .ok (.bipush 99, 2) := by decide +kernel
theorem dX6_again_30 : decode cX6_again 30 = .ok (.if_icmp .eq 6, 3) := by decide +kernel
theorem dX6_again_33 : decode cX6_again 33 = .ok (.ldc 136, 2) := by decide +kernel
theorem dX6_again_35 : decode cX6_again 35 = .ok (.ireturn, 1) := by decide +kernel
theorem dX6_again_36 : decode cX6_again 36 = .ok (.aload_n 0, 1) := by decide +kernel
theorem dX6_again_37 : decode cX6_again 37 = .ok (.invokevirtual 137, 3) := by decide +kernel
theorem dX6_again_40 : decode cX6_again 40 = .ok (.aload_n 0, 1) := by decide +kernel
theorem dX6_again_41 : decode cX6_again 41 = .ok (.getfield 25, 3) := by decide +kernel
theorem dX6_again_44 : decode cX6_again 44 = .ok (.iconst 2, 1) := by decide +kernel
theorem dX6_again_45 : decode cX6_again 45 = .ok (.iload_n 1, 1) := by decide +kernel
theorem dX6_again_46 : decode cX6_again 46 = .ok (.iadd, 1) := by decide +kernel
theorem dX6_again_47 : decode cX6_again 47 = .ok (.iconst (-1), 1) := by decide +kernel
theorem dX6_again_48 : decode cX6_again 48 = .ok (.iastore, 1) := by decide +kernel
theorem dX6_again_49 : decode cX6_again 49 = .ok (.aload_n 0, 1) := by decide +kernel
theorem dX6_again_50 : decode cX6_again 50 = .ok (.getfield 25, 3) := by decide +kernel
theorem dX6_again_53 : decode cX6_again 53 = .ok (.bipush 9, 2) := by decide +kernel
theorem dX6_again_55 : decode cX6_again 55 = .ok (.iload_n 1, 1) := by decide +kernel
theorem dX6_again_56 : decode cX6_again 56 = .ok (.iadd, 1) := by decide +kernel
theorem dX6_again_57 : decode cX6_again 57 = .ok (.iload_n 2, 1) := by decide +kernel
theorem dX6_again_58 : decode cX6_again 58 = .ok (.iastore, 1) := by decide +kernel
theorem dX6_again_59 : decode cX6_again 59 = .ok (.aload_n 0, 1) := by decide +kernel
theorem dX6_again_60 : decode cX6_again 60 = .ok (.getfield 25, 3) := by decide +kernel
theorem dX6_again_63 : decode cX6_again 63 = .ok (.invokestatic 144, 3) := by decide +kernel
theorem dX6_again_66 : decode cX6_again 66 = .ok (.ireturn, 1) := by decide +kernel
theorem dX6_undo_0 : decode cX6_undo 0 = .ok (.aload_n 0, 1) := by decide +kernel
theorem dX6_undo_1 : decode cX6_undo 1 = .ok (.getfield 115, 3) := by decide +kernel
theorem dX6_undo_4 : decode cX6_undo 4 = .ok (.ifCond .ne 6, 3) := by decide +kernel
theorem dX6_undo_7 : decode cX6_undo 7 = .ok (.ldc 136, 2) := by decide +kernel
theorem dX6_undo_9 : decode cX6_undo 9 = .ok (.ireturn, 1) := by decide +kernel
theorem dX6_undo_10 : decode cX6_undo 10 = .ok (.aload_n 0, 1) := by decide +kernel
theorem dX6_undo_11 : decode cX6_undo 11 = .ok (.dup, 1) := by decide +kernel
theorem dX6_undo_12 : decode cX6_undo 12 = .ok (.getfield 115, 3) := by decide +kernel
theorem dX6_undo_15 : decode cX6_undo 15 = .ok (.iconst 1, 1) := by decide +kernel
theorem dX6_undo_16 : decode cX6_undo 16 = .ok (.isub, 1) := by decide +kernel
theorem dX6_undo_17 : decode cX6_undo 17 = .ok (.putfield 115, 3) := by decide +kernel
theorem dX6_undo_20 : decode cX6_undo 20 = .ok (.iconst 0, 1) := by decide +kernel
theorem dX6_undo_21 : decode cX6_undo 21 = .ok (.istore_n 1, 1) := by decide +kernel
theorem dX6_undo_22 : decode cX6_undo 22 = .ok (.iload_n 1, 1) := by decide +kernel
theorem dX6_undo_23 : decode cX6_undo 23 = .ok (.bipush 16, 2) := by decide +kernel
theorem dX6_undo_25 : decode cX6_undo 25 = .ok (.if_icmp .ge 29, 3) := by decide +kernel
theorem dX6_undo_28 : decode cX6_undo 28 = .ok (.aload_n 0, 1) := by decide +kernel
theorem dX6_undo_29 : decode cX6_undo 29 = .ok (.getfield 25, 3) := by decide +kernel
theorem dX6_undo_32 : decode cX6_undo 32 = .ok (.iload_n 1, 1) := by decide +kernel
theorem dX6_undo_33 : decode cX6_undo 33 = .ok (.aload_n 0, 1) := by decide +kernel
theorem dX6_undo_34 : decode cX6_undo 34 = .ok (.getfield 38, 3) := by decide +kernel
theorem dX6_undo_37 : decode cX6_undo 37 = .ok (.bipush 16, 2) := by decide +kernel
theorem dX6_undo_39 : decode cX6_undo 39 = .ok (.aload_n 0, 1) := by decide +kernel
theorem dX6_undo_40 : decode cX6_undo 40 = .ok (.getfield 115, 3) := by decide +kernel
theorem dX6_undo_43 : decode cX6_undo 43 = .ok (.imul, 1) := by decide +kernel
theorem dX6_undo_44 : decode cX6_undo 44 = .ok (.iload_n 1, 1) := by decide +kernel
theorem dX6_undo_45 : decode cX6_undo 45 = .ok (.iadd, 1) := by decide +kernel
theorem dX6_undo_46 : decode cX6_undo 46 = .ok (.iaload, 1) := by decide +kernel
theorem dX6_undo_47 : decode cX6_undo 47 = .ok (.iastore, 1) := by decide +kernel
theorem dX6_undo_48 : decode cX6_undo 48 = .ok (.iinc 1 1, 3) := by decide +kernel
theorem dX6_undo_51 : decode cX6_undo 51 = .ok (.goto (-29), 3) := by decide +kernel
theorem dX6_undo_54 : decode cX6_undo 54 = .ok (.aload_n 0, 1) := by decide +kernel
theorem dX6_undo_55 : decode cX6_undo 55 = .ok (.getfield 115, 3) := by decide +kernel
theorem dX6_undo_58 : decode cX6_undo 58 = .ok (.ireturn, 1) := by decide +kernel
theorem dX6_rider_0 : decode cX6_rider 0 = .ok (.aload_n 0, 1) := by decide +kernel
theorem dX6_rider_1 : decode cX6_rider 1 = .ok (.iload_n 1, 1) := by decide +kernel
theorem dX6_rider_2 : decode cX6_rider 2 = .ok (.invokevirtual 148, 3) := by decide +kernel
theorem dX6_rider_5 : decode cX6_rider 5 = .ok (.ifCond .ne 6, 3) := by decide +kernel
theorem dX6_rider_8 : decode cX6_rider 8 = .ok (.ldc 65, 2) := by decide +kernel
theorem dX6_rider_10 : decode cX6_rider 10 = .ok (.ireturn, 1) := by decide +kernel
theorem dX6_rider_11 : decode cX6_rider 11 = .ok (.aload_n 0, 1) := by decide +kernel
theorem dX6_rider_12 : decode cX6_rider 12 = .ok (.getfield 25, 3) := by decide +kernel
theorem dX6_rider_15 : decode cX6_rider 15 = .ok (.iconst 2, 1) := by decide +kernel
theorem dX6_rider_16 : decode cX6_rider 16 = .ok (.iload_n 1, 1) := by decide +kernel
theorem dX6_rider_17 : decode cX6_rider 17 = .ok (.iadd, 1) := by decide +kernel
theorem dX6_rider_18 : decode cX6_rider 18 = .ok (.iaload, 1) := by decide +kernel
theorem dX6_rider_19 : decode cX6_rider 19 = .ok (.istore_n 3, 1) := by decide +kernel
theorem dX6_rider_20 : decode cX6_rider 20 = .ok (.iload_n 2, 1) := by decide +kernel
theorem dX6_rider_21 : decode cX6_rider 21 = .ok (.tableswitch 111 0 3 #[31, 33, 43, 62], 31) := by decide +kernel
theorem dX6_rider_52 : decode cX6_rider 52 = .ok (.iload_n 3, 1) := by decide +kernel
theorem dX6_rider_53 : decode cX6_rider 53 = .ok (.ireturn, 1) := by decide +kernel
theorem dX6_rider_54 : decode cX6_rider 54 = .ok (.aload_n 0, 1) := by decide +kernel
theorem dX6_rider_55 : decode cX6_rider 55 = .ok (.getfield 25, 3) := by decide +kernel
theorem dX6_rider_58 : decode cX6_rider 58 = .ok (.bipush 9, 2) := by decide +kernel
theorem dX6_rider_60 : decode cX6_rider 60 = .ok (.iload_n 1, 1) := by decide +kernel
theorem dX6_rider_61 : decode cX6_rider 61 = .ok (.iadd, 1) := by decide +kernel
theorem dX6_rider_62 : decode cX6_rider 62 = .ok (.iaload, 1) := by decide +kernel
theorem dX6_rider_63 : decode cX6_rider 63 = .ok (.ireturn, 1) := by decide +kernel
theorem dX6_rider_64 : decode cX6_rider 64 = .ok (.aload_n 0, 1) := by decide +kernel
theorem dX6_rider_65 : decode cX6_rider 65 = .ok (.getfield 25, 3) := by decide +kernel
theorem dX6_rider_68 : decode cX6_rider 68 = .ok (.bipush 18, 2) := by decide +kernel
theorem dX6_rider_70 : decode cX6_rider 70 = .ok (.iload_n 1, 1) := by decide +kernel
theorem dX6_rider_71 : decode cX6_rider 71 = .ok (.iadd, 1) := by decide +kernel
theorem dX6_rider_72 : decode cX6_rider 72 = .ok (.iaload, 1) := by decide +kernel
theorem dX6_rider_73 : decode cX6_rider 73 = .ok (.iconst 4, 1) := by decide +kernel
theorem dX6_rider_74 : decode cX6_rider 74 = .ok (.if_icmp .lt 7, 3) := by decide +kernel
theorem dX6_rider_77 : decode cX6_rider 77 = .ok (.iconst 1, 1) := by decide +kernel
theorem dX6_rider_78 : decode cX6_rider 78 = .ok (.goto 4, 3) := by decide +kernel
theorem dX6_rider_81 : decode cX6_rider 81 = .ok (.iconst 0, 1) := by decide +kernel
theorem dX6_rider_82 : decode cX6_rider 82 = .ok (.ireturn, 1) := by decide +kernel
theorem dX6_rider_83 : decode cX6_rider 83 = .ok (.iload_n 3, 1) := by decide +kernel
theorem dX6_rider_84 : decode cX6_rider 84 = .ok (.invokestatic 130, 3) := by decide +kernel
theorem dX6_rider_87 : decode cX6_rider 87 = .ok (.ifCond .eq 43, 3) := by decide +kernel
theorem dX6_rider_90 : decode cX6_rider 90 = .ok (.iload_n 3, 1) := by decide +kernel
theorem dX6_rider_91 : decode cX6_rider 91 = .ok (.aload_n 0, 1) := by decide +kernel
theorem dX6_rider_92 : decode cX6_rider 92 = .ok (.getfield 25, 3) := by decide +kernel
theorem dX6_rider_95 : decode cX6_rider 95 = .ok (.bipush 16, 2) := by decide +kernel
theorem dX6_rider_97 : decode cX6_rider 97 = .ok (.iaload, 1) := by decide +kernel
theorem dX6_rider_98 : decode cX6_rider 98 = .ok (.iconst 1, 1) := by decide +kernel
theorem dX6_rider_99 : decode cX6_rider 99 = .ok (.isub, 1) := by decide +kernel
theorem dX6_rider_100 : decode cX6_rider 100 = .ok (.if_icmp .ge 30, 3) := by decide +kernel
theorem dX6_rider_103 : decode cX6_rider 103 = .ok (.aload_n 0, 1) := by decide +kernel
theorem dX6_rider_104 : decode cX6_rider 104 = .ok (.getfield 25, 3) := by decide +kernel
theorem dX6_rider_107 : decode cX6_rider 107 = .ok (.iload_n 1, 1) := by decide +kernel
theorem dX6_rider_108 : decode cX6_rider 108 = .ok (.iload_n 3, 1) := by decide +kernel
theorem dX6_rider_109 : decode cX6_rider 109 = .ok (.iconst 1, 1) := by decide +kernel
theorem dX6_rider_110 : decode cX6_rider 110 = .ok (.iadd, 1) := by decide +kernel
theorem dX6_rider_111 : decode cX6_rider 111 = .ok (.aload_n 0, 1) := by decide +kernel
theorem dX6_rider_112 : decode cX6_rider 112 = .ok (.getfield 25, 3) := by decide +kernel
theorem dX6_rider_115 : decode cX6_rider 115 = .ok (.bipush 9, 2) := by decide +kernel
theorem dX6_rider_117 : decode cX6_rider 117 = .ok (.iload_n 1, 1) := by decide +kernel
theorem dX6_rider_118 : decode cX6_rider 118 = .ok (.iadd, 1) := by decide +kernel
theorem dX6_rider_119 : decode cX6_rider 119 = .ok (.iaload, 1) := by decide +kernel
theorem dX6_rider_120 : decode cX6_rider 120 = .ok (.invokestatic 118, 3) := by decide +kernel
theorem dX6_rider_123 : decode cX6_rider 123 = .ok (.ifCond .eq 7, 3) := by decide +kernel
theorem dX6_rider_126 : decode cX6_rider 126 = .ok (.iconst 1, 1) := by decide +kernel
theorem dX6_rider_127 : decode cX6_rider 127 = .ok (.goto 4, 3) := by decide +kernel
theorem dX6_rider_130 : decode cX6_rider 130 = .ok (.iconst 0, 1) := by decide +kernel
theorem dX6_rider_131 : decode cX6_rider 131 = .ok (.ireturn, 1) := by decide +kernel
theorem dX6_rider_132 : decode cX6_rider 132 = .ok (.ldc 65, 2) := by decide +kernel
theorem dX6_rider_134 : decode cX6_rider 134 = .ok (.ireturn, 1) := by decide +kernel
theorem dX6_step_0 : decode cX6_step 0 = .ok (.iload_n 1, 1) := by decide +kernel
theorem dX6_step_1 : decode cX6_step 1 = .ok (.iconst 0, 1) := by decide +kernel
theorem dX6_step_2 : decode cX6_step 2 = .ok (.aload_n 0, 1) := by decide +kernel
theorem dX6_step_3 : decode cX6_step 3 = .ok (.getfield 25, 3) := by decide +kernel
theorem dX6_step_6 : decode cX6_step 6 = .ok (.bipush 16, 2) := by decide +kernel
theorem dX6_step_8 : decode cX6_step 8 = .ok (.iaload, 1) := by decide +kernel
theorem dX6_step_9 : decode cX6_step 9 = .ok (.iconst 1, 1) := by decide +kernel
theorem dX6_step_10 : decode cX6_step 10 = .ok (.isub, 1) := by decide +kernel
theorem dX6_step_11 : decode cX6_step 11 = .ok (.invokestatic 50, 3) := by decide +kernel
theorem dX6_step_14 : decode cX6_step 14 = .ok (.ifCond .eq 12, 3) := by decide +kernel
theorem dX6_step_17 : decode cX6_step 17 = .ok (.iload_n 2, 1) := by decide +kernel
theorem dX6_step_18 : decode cX6_step 18 = .ok (.iconst 0, 1) := by decide +kernel
theorem dX6_step_19 : decode cX6_step 19 = .ok (.iconst 1, 1) := by decide +kernel
theorem dX6_step_20 : decode cX6_step 20 = .ok (.invokestatic 50, 3) := by decide +kernel
theorem dX6_step_23 : decode cX6_step 23 = .ok (.ifCond .ne 6, 3) := by decide +kernel
theorem dX6_step_26 : decode cX6_step 26 = .ok (.ldc 65, 2) := by decide +kernel
theorem dX6_step_28 : decode cX6_step 28 = .ok (.ireturn, 1) := by decide +kernel
theorem dX6_step_29 : decode cX6_step 29 = .ok (.iconst 0, 1) := by decide +kernel
theorem dX6_step_30 : decode cX6_step 30 = .ok (.istore_n 3, 1) := by decide +kernel
theorem dX6_step_31 : decode cX6_step 31 = .ok (.iconst 0, 1) := by decide +kernel
theorem dX6_step_32 : decode cX6_step 32 = .ok (.istore 4, 2) := by decide +kernel
theorem dX6_step_34 : decode cX6_step 34 = .ok (.iload 4, 2) := by decide +kernel
theorem dX6_step_36 : decode cX6_step 36 = .ok (.aload_n 0, 1) := by decide +kernel
theorem dX6_step_37 : decode cX6_step 37 = .ok (.getfield 25, 3) := by decide +kernel
theorem dX6_step_40 : decode cX6_step 40 = .ok (.bipush 17, 2) := by decide +kernel
theorem dX6_step_42 : decode cX6_step 42 = .ok (.iaload, 1) := by decide +kernel
theorem dX6_step_43 : decode cX6_step 43 = .ok (.if_icmp .ge 73, 3) := by decide +kernel
theorem dX6_step_46 : decode cX6_step 46 = .ok (.aload_n 0, 1) := by decide +kernel
theorem dX6_step_47 : decode cX6_step 47 = .ok (.getfield 25, 3) := by decide +kernel
theorem dX6_step_50 : decode cX6_step 50 = .ok (.iconst 2, 1) := by decide +kernel
theorem dX6_step_51 : decode cX6_step 51 = .ok (.iload 4, 2) := by decide +kernel
theorem dX6_step_53 : decode cX6_step 53 = .ok (.iadd, 1) := by decide +kernel
theorem dX6_step_54 : decode cX6_step 54 = .ok (.iaload, 1) := by decide +kernel
theorem dX6_step_55 : decode cX6_step 55 = .ok (.iload_n 1, 1) := by decide +kernel
theorem dX6_step_56 : decode cX6_step 56 = .ok (.if_icmp .ne 35, 3) := by decide +kernel
theorem dX6_step_59 : decode cX6_step 59 = .ok (.aload_n 0, 1) := by decide +kernel
theorem dX6_step_60 : decode cX6_step 60 = .ok (.getfield 25, 3) := by decide +kernel
theorem dX6_step_63 : decode cX6_step 63 = .ok (.bipush 18, 2) := by decide +kernel
theorem dX6_step_65 : decode cX6_step 65 = .ok (.iload 4, 2) := by decide +kernel
theorem dX6_step_67 : decode cX6_step 67 = .ok (.iadd, 1) := by decide +kernel
theorem dX6_step_68 : decode cX6_step 68 = .ok (.iaload, 1) := by decide +kernel
theorem dX6_step_69 : decode cX6_step 69 = .ok (.iconst 4, 1) := by decide +kernel
theorem dX6_step_70 : decode cX6_step 70 = .ok (.if_icmp .ge 17, 3) := by decide +kernel
theorem dX6_step_73 : decode cX6_step 73 = .ok (.aload_n 0, 1) := by decide +kernel
theorem dX6_step_74 : decode cX6_step 74 = .ok (.getfield 25, 3) := by decide +kernel
theorem dX6_step_77 : decode cX6_step 77 = .ok (.bipush 9, 2) := by decide +kernel
theorem dX6_step_79 : decode cX6_step 79 = .ok (.iload 4, 2) := by decide +kernel
theorem dX6_step_81 : decode cX6_step 81 = .ok (.iadd, 1) := by decide +kernel
theorem dX6_step_82 : decode cX6_step 82 = .ok (.iaload, 1) := by decide +kernel
theorem dX6_step_83 : decode cX6_step 83 = .ok (.iload_n 2, 1) := by decide +kernel
theorem dX6_step_84 : decode cX6_step 84 = .ok (.if_icmp .ne 7, 3) := by decide +kernel
theorem dX6_step_87 : decode cX6_step 87 = .ok (.iconst 1, 1) := by decide +kernel
theorem dX6_step_88 : decode cX6_step 88 = .ok (.goto 4, 3) := by decide +kernel
theorem dX6_step_91 : decode cX6_step 91 = .ok (.iconst 0, 1) := by decide +kernel
theorem dX6_step_92 : decode cX6_step 92 = .ok (.istore 5, 2) := by decide +kernel
theorem dX6_step_94 : decode cX6_step 94 = .ok (.iload_n 3, 1) := by decide +kernel
theorem dX6_step_95 : decode cX6_step 95 = .ok (.iload 5, 2) := by decide +kernel
theorem dX6_step_97 : decode cX6_step 97 = .ok (.ifCond .eq 10, 3) := by decide +kernel
theorem dX6_step_100 : decode cX6_step 100 = .ok (.iconst 1, 1) := by decide +kernel
theorem dX6_step_101 : decode cX6_step 101 = .ok (.iload 4, 2) := by decide +kernel
theorem dX6_step_103 : decode cX6_step 103 = .ok (.ishl, 1) := by decide +kernel
theorem dX6_step_104 : decode cX6_step 104 = .ok (.goto 4, 3) := by decide +kernel
theorem dX6_step_107 : decode cX6_step 107 = .ok (.iconst 0, 1) := by decide +kernel
theorem dX6_step_108 : decode cX6_step 108 = .ok (.ior, 1) := by decide +kernel
theorem dX6_step_109 : decode cX6_step 109 = .ok (.istore_n 3, 1) := by decide +kernel
theorem dX6_step_110 : decode cX6_step 110 = .ok (.iinc 4 1, 3) := by decide +kernel
theorem dX6_step_113 : decode cX6_step 113 = .ok (.goto (-79), 3) := by decide +kernel
theorem dX6_step_116 : decode cX6_step 116 = .ok (.iload_n 3, 1) := by decide +kernel
theorem dX6_step_117 : decode cX6_step 117 = .ok (.ireturn, 1) := by decide +kernel
theorem dX6_starts_0 : decode cX6_starts 0 = .ok (.iconst 0, 1) := by decide +kernel
theorem dX6_starts_1 : decode cX6_starts 1 = .ok (.istore_n 1, 1) := by decide +kernel
theorem dX6_starts_2 : decode cX6_starts 2 = .ok (.iload_n 1, 1) := by decide +kernel
theorem dX6_starts_3 : decode cX6_starts 3 = .ok (.bipush 25, 2) := by decide +kernel
theorem dX6_starts_5 : decode cX6_starts 5 = .ok (.if_icmp .ge 21, 3) := by decide +kernel
theorem dX6_starts_8 : decode cX6_starts 8 = .ok (.aload_n 0, 1) := by decide +kernel
theorem dX6_starts_9 : decode cX6_starts 9 = .ok (.getfield 41, 3) := by decide +kernel
theorem dX6_starts_12 : decode cX6_starts 12 = .ok (.iload_n 1, 1) := by decide +kernel
theorem dX6_starts_13 : decode cX6_starts 13 = .ok (.aload_n 0, 1) := by decide +kernel
theorem dX6_starts_14 : decode cX6_starts 14 = .ok (.getfield 25, 3) := by decide +kernel
theorem dX6_starts_17 : decode cX6_starts 17 = .ok (.iload_n 1, 1) := by decide +kernel
theorem dX6_starts_18 : decode cX6_starts 18 = .ok (.iaload, 1) := by decide +kernel
theorem dX6_starts_19 : decode cX6_starts 19 = .ok (.iastore, 1) := by decide +kernel
theorem dX6_starts_20 : decode cX6_starts 20 = .ok (.iinc 1 1, 3) := by decide +kernel
theorem dX6_starts_23 : decode cX6_starts 23 = .ok (.goto (-21), 3) := by decide +kernel
theorem dX6_starts_26 : decode cX6_starts 26 = .ok (.return_, 1) := by decide +kernel
theorem dX6_ahead_0 : decode cX6_ahead 0 = .ok (.aload_n 0, 1) := by decide +kernel
theorem dX6_ahead_1 : decode cX6_ahead 1 = .ok (.iload_n 1, 1) := by decide +kernel
theorem dX6_ahead_2 : decode cX6_ahead 2 = .ok (.invokevirtual 148, 3) := by decide +kernel
theorem dX6_ahead_5 : decode cX6_ahead 5 = .ok (.ifCond .eq 13, 3) := by decide +kernel
theorem dX6_ahead_8 : decode cX6_ahead 8 = .ok (.iload_n 2, 1) := by decide +kernel
theorem dX6_ahead_9 : decode cX6_ahead 9 = .ok (.iconst 0, 1) := by decide +kernel
theorem dX6_ahead_10 : decode cX6_ahead 10 = .ok (.bipush 60, 2) := by decide +kernel
theorem dX6_ahead_12 : decode cX6_ahead 12 = .ok (.invokestatic 50, 3) := by decide +kernel
theorem dX6_ahead_15 : decode cX6_ahead 15 = .ok (.ifCond .ne 6, 3) := by decide +kernel
theorem dX6_ahead_18 : decode cX6_ahead 18 = .ok (.ldc 65, 2) := by decide +kernel
theorem dX6_ahead_20 : decode cX6_ahead 20 = .ok (.ireturn, 1) := by decide +kernel
theorem dX6_ahead_21 : decode cX6_ahead 21 = .ok (.aload_n 0, 1) := by decide +kernel
theorem dX6_ahead_22 : decode cX6_ahead 22 = .ok (.invokevirtual 151, 3) := by decide +kernel
theorem dX6_ahead_25 : decode cX6_ahead 25 = .ok (.iconst 0, 1) := by decide +kernel
theorem dX6_ahead_26 : decode cX6_ahead 26 = .ok (.istore_n 3, 1) := by decide +kernel
theorem dX6_ahead_27 : decode cX6_ahead 27 = .ok (.iload_n 3, 1) := by decide +kernel
theorem dX6_ahead_28 : decode cX6_ahead 28 = .ok (.iload_n 2, 1) := by decide +kernel
theorem dX6_ahead_29 : decode cX6_ahead 29 = .ok (.if_icmp .ge 17, 3) := by decide +kernel
theorem dX6_ahead_32 : decode cX6_ahead 32 = .ok (.aload_n 0, 1) := by decide +kernel
theorem dX6_ahead_33 : decode cX6_ahead 33 = .ok (.aload_n 0, 1) := by decide +kernel
theorem dX6_ahead_34 : decode cX6_ahead 34 = .ok (.getfield 41, 3) := by decide +kernel
theorem dX6_ahead_37 : decode cX6_ahead 37 = .ok (.invokevirtual 140, 3) := by decide +kernel
theorem dX6_ahead_40 : decode cX6_ahead 40 = .ok (.iinc 3 1, 3) := by decide +kernel
theorem dX6_ahead_43 : decode cX6_ahead 43 = .ok (.goto (-16), 3) := by decide +kernel
theorem dX6_ahead_46 : decode cX6_ahead 46 = .ok (.aload_n 0, 1) := by decide +kernel
theorem dX6_ahead_47 : decode cX6_ahead 47 = .ok (.getfield 41, 3) := by decide +kernel
theorem dX6_ahead_50 : decode cX6_ahead 50 = .ok (.iconst 2, 1) := by decide +kernel
theorem dX6_ahead_51 : decode cX6_ahead 51 = .ok (.iload_n 1, 1) := by decide +kernel
theorem dX6_ahead_52 : decode cX6_ahead 52 = .ok (.iadd, 1) := by decide +kernel
theorem dX6_ahead_53 : decode cX6_ahead 53 = .ok (.iaload, 1) := by decide +kernel
theorem dX6_ahead_54 : decode cX6_ahead 54 = .ok (.ireturn, 1) := by decide +kernel
theorem dX6_later_0 : decode cX6_later 0 = .ok (.aload_n 0, 1) := by decide +kernel
theorem dX6_later_1 : decode cX6_later 1 = .ok (.invokevirtual 133, 3) := by decide +kernel
theorem dX6_later_4 : decode cX6_later 4 = .ok (.ifCond .ne 6, 3) := by decide +kernel
theorem dX6_later_7 : decode cX6_later 7 = .ok (.ldc 136, 2) := by decide +kernel
theorem dX6_later_9 : decode cX6_later 9 = .ok (.ireturn, 1) := by decide +kernel
theorem dX6_later_10 : decode cX6_later 10 = .ok (.iload_n 1, 1) := by decide +kernel
theorem dX6_later_11 : decode cX6_later 11 = .ok (.iconst 0, 1) := by decide +kernel
theorem dX6_later_12 : decode cX6_later 12 = .ok (.bipush 60, 2) := by decide +kernel
theorem dX6_later_14 : decode cX6_later 14 = .ok (.invokestatic 50, 3) := by decide +kernel
theorem dX6_later_17 : decode cX6_later 17 = .ok (.ifCond .eq 12, 3) := by decide +kernel
theorem dX6_later_20 : decode cX6_later 20 = .ok (.iload_n 2, 1) := by decide +kernel
theorem dX6_later_21 : decode cX6_later 21 = .ok (.iconst 0, 1) := by decide +kernel
theorem dX6_later_22 : decode cX6_later 22 = .ok (.iconst 1, 1) := by decide +kernel
theorem dX6_later_23 : decode cX6_later 23 = .ok (.invokestatic 50, 3) := by decide +kernel
theorem dX6_later_26 : decode cX6_later 26 = .ok (.ifCond .ne 6, 3) := by decide +kernel
theorem dX6_later_29 : decode cX6_later 29 = .ok (.ldc 65, 2) := by decide +kernel
theorem dX6_later_31 : decode cX6_later 31 = .ok (.ireturn, 1) := by decide +kernel
theorem dX6_later_32 : decode cX6_later 32 = .ok (.aload_n 0, 1) := by decide +kernel
theorem dX6_later_33 : decode cX6_later 33 = .ok (.invokevirtual 151, 3) := by decide +kernel
theorem dX6_later_36 : decode cX6_later 36 = .ok (.iconst 0, 1) := by decide +kernel
theorem dX6_later_37 : decode cX6_later 37 = .ok (.istore_n 3, 1) := by decide +kernel
theorem dX6_later_38 : decode cX6_later 38 = .ok (.iload_n 3, 1) := by decide +kernel
theorem dX6_later_39 : decode cX6_later 39 = .ok (.iload_n 1, 1) := by decide +kernel
theorem dX6_later_40 : decode cX6_later 40 = .ok (.if_icmp .ge 17, 3) := by decide +kernel
theorem dX6_later_43 : decode cX6_later 43 = .ok (.aload_n 0, 1) := by decide +kernel
theorem dX6_later_44 : decode cX6_later 44 = .ok (.aload_n 0, 1) := by decide +kernel
theorem dX6_later_45 : decode cX6_later 45 = .ok (.getfield 41, 3) := by decide +kernel
theorem dX6_later_48 : decode cX6_later 48 = .ok (.invokevirtual 140, 3) := by decide +kernel
theorem dX6_later_51 : decode cX6_later 51 = .ok (.iinc 3 1, 3) := by decide +kernel
theorem dX6_later_54 : decode cX6_later 54 = .ok (.goto (-16), 3) := by decide +kernel
theorem dX6_later_57 : decode cX6_later 57 = .ok (.iconst 0, 1) := by decide +kernel
theorem dX6_later_58 : decode cX6_later 58 = .ok (.istore_n 3, 1) := by decide +kernel
theorem dX6_later_59 : decode cX6_later 59 = .ok (.iconst 0, 1) := by decide +kernel
theorem dX6_later_60 : decode cX6_later 60 = .ok (.istore 4, 2) := by decide +kernel
theorem dX6_later_62 : decode cX6_later 62 = .ok (.iload 4, 2) := by decide +kernel
theorem dX6_later_64 : decode cX6_later 64 = .ok (.aload_n 0, 1) := by decide +kernel
theorem dX6_later_65 : decode cX6_later 65 = .ok (.getfield 25, 3) := by decide +kernel
theorem dX6_later_68 : decode cX6_later 68 = .ok (.bipush 17, 2) := by decide +kernel
theorem dX6_later_70 : decode cX6_later 70 = .ok (.iaload, 1) := by decide +kernel
theorem dX6_later_71 : decode cX6_later 71 = .ok (.if_icmp .ge 42, 3) := by decide +kernel
theorem dX6_later_74 : decode cX6_later 74 = .ok (.iload_n 3, 1) := by decide +kernel
theorem dX6_later_75 : decode cX6_later 75 = .ok (.aload_n 0, 1) := by decide +kernel
theorem dX6_later_76 : decode cX6_later 76 = .ok (.getfield 41, 3) := by decide +kernel
theorem dX6_later_79 : decode cX6_later 79 = .ok (.iconst 2, 1) := by decide +kernel
theorem dX6_later_80 : decode cX6_later 80 = .ok (.iload 4, 2) := by decide +kernel
theorem dX6_later_82 : decode cX6_later 82 = .ok (.iadd, 1) := by decide +kernel
theorem dX6_later_83 : decode cX6_later 83 = .ok (.iaload, 1) := by decide +kernel
theorem dX6_later_84 : decode cX6_later 84 = .ok (.invokestatic 130, 3) := by decide +kernel
theorem dX6_later_87 : decode cX6_later 87 = .ok (.ifCond .eq 17, 3) := by decide +kernel
theorem dX6_later_90 : decode cX6_later 90 = .ok (.iconst 1, 1) := by decide +kernel
theorem dX6_later_91 : decode cX6_later 91 = .ok (.aload_n 0, 1) := by decide +kernel
theorem dX6_later_92 : decode cX6_later 92 = .ok (.getfield 41, 3) := by decide +kernel
theorem dX6_later_95 : decode cX6_later 95 = .ok (.iconst 2, 1) := by decide +kernel
theorem dX6_later_96 : decode cX6_later 96 = .ok (.iload 4, 2) := by decide +kernel
theorem dX6_later_98 : decode cX6_later 98 = .ok (.iadd, 1) := by decide +kernel
theorem dX6_later_99 : decode cX6_later 99 = .ok (.iaload, 1) := by decide +kernel
theorem dX6_later_100 : decode cX6_later 100 = .ok (.ishl, 1) := by decide +kernel
theorem dX6_later_101 : decode cX6_later 101 = .ok (.goto 4, 3) := by decide +kernel
theorem dX6_later_104 : decode cX6_later 104 = .ok (.iconst 0, 1) := by decide +kernel
theorem dX6_later_105 : decode cX6_later 105 = .ok (.ior, 1) := by decide +kernel
theorem dX6_later_106 : decode cX6_later 106 = .ok (.istore_n 3, 1) := by decide +kernel
theorem dX6_later_107 : decode cX6_later 107 = .ok (.iinc 4 1, 3) := by decide +kernel
theorem dX6_later_110 : decode cX6_later 110 = .ok (.goto (-48), 3) := by decide +kernel
theorem dX6_later_113 : decode cX6_later 113 = .ok (.iload_n 2, 1) := by decide +kernel
theorem dX6_later_114 : decode cX6_later 114 = .ok (.ifCond .ne 13, 3) := by decide +kernel
theorem dX6_later_117 : decode cX6_later 117 = .ok (.aload_n 0, 1) := by decide +kernel
theorem dX6_later_118 : decode cX6_later 118 = .ok (.getfield 41, 3) := by decide +kernel
theorem dX6_later_121 : decode cX6_later 121 = .ok (.invokestatic 144, 3) := by decide +kernel
theorem dX6_later_124 : decode cX6_later 124 = .ok (.goto 4, 3) := by decide +kernel
theorem dX6_later_127 : decode cX6_later 127 = .ok (.iload_n 3, 1) := by decide +kernel
theorem dX6_later_128 : decode cX6_later 128 = .ok (.ireturn, 1) := by decide +kernel
theorem dX6_off_0 : decode cX6_off 0 = .ok (.aload_n 0, 1) := by decide +kernel
theorem dX6_off_1 : decode cX6_off 1 = .ok (.iload_n 1, 1) := by decide +kernel
theorem dX6_off_2 : decode cX6_off 2 = .ok (.invokevirtual 148, 3) := by decide +kernel
theorem dX6_off_5 : decode cX6_off 5 = .ok (.ifCond .ne 6, 3) := by decide +kernel
theorem dX6_off_8 : decode cX6_off 8 = .ok (.ldc 65, 2) := by decide +kernel
theorem dX6_off_10 : decode cX6_off 10 = .ok (.ireturn, 1) := by decide +kernel
theorem dX6_off_11 : decode cX6_off 11 = .ok (.aload_n 0, 1) := by decide +kernel
theorem dX6_off_12 : decode cX6_off 12 = .ok (.invokevirtual 151, 3) := by decide +kernel
theorem dX6_off_15 : decode cX6_off 15 = .ok (.iconst 0, 1) := by decide +kernel
theorem dX6_off_16 : decode cX6_off 16 = .ok (.istore_n 2, 1) := by decide +kernel
theorem dX6_off_17 : decode cX6_off 17 = .ok (.iload_n 2, 1) := by decide +kernel
theorem dX6_off_18 : decode cX6_off 18 = .ok (.bipush 60, 2) := by decide +kernel
theorem dX6_off_20 : decode cX6_off 20 = .ok (.if_icmp .gt 32, 3) := by decide +kernel
theorem dX6_off_23 : decode cX6_off 23 = .ok (.aload_n 0, 1) := by decide +kernel
theorem dX6_off_24 : decode cX6_off 24 = .ok (.getfield 41, 3) := by decide +kernel
theorem dX6_off_27 : decode cX6_off 27 = .ok (.iconst 2, 1) := by decide +kernel
theorem dX6_off_28 : decode cX6_off 28 = .ok (.iload_n 1, 1) := by decide +kernel
theorem dX6_off_29 : decode cX6_off 29 = .ok (.iadd, 1) := by decide +kernel
theorem dX6_off_30 : decode cX6_off 30 = .ok (.iaload, 1) := by decide +kernel
theorem dX6_off_31 : decode cX6_off 31 = .ok (.bipush 99, 2) := by decide +kernel
theorem dX6_off_33 : decode cX6_off 33 = .ok (.if_icmp .ne 5, 3) := by decide +kernel
theorem dX6_off_36 : decode cX6_off 36 = .ok (.iload_n 2, 1) := by decide +kernel
theorem dX6_off_37 : decode cX6_off 37 = .ok (.ireturn, 1) := by decide +kernel
theorem dX6_off_38 : decode cX6_off 38 = .ok (.aload_n 0, 1) := by decide +kernel
theorem dX6_off_39 : decode cX6_off 39 = .ok (.aload_n 0, 1) := by decide +kernel
theorem dX6_off_40 : decode cX6_off 40 = .ok (.getfield 41, 3) := by decide +kernel
theorem dX6_off_43 : decode cX6_off 43 = .ok (.invokevirtual 140, 3) := by decide +kernel
theorem dX6_off_46 : decode cX6_off 46 = .ok (.iinc 2 1, 3) := by decide +kernel
theorem dX6_off_49 : decode cX6_off 49 = .ok (.goto (-32), 3) := by decide +kernel
theorem dX6_off_52 : decode cX6_off 52 = .ok (.ldc 154, 2) := by decide +kernel
theorem dX6_off_54 : decode cX6_off 54 = .ok (.ireturn, 1) := by decide +kernel
theorem dX6_clears_0 : decode cX6_clears 0 = .ok (.iconst 0, 1) := by decide +kernel
theorem dX6_clears_1 : decode cX6_clears 1 = .ok (.istore_n 1, 1) := by decide +kernel
theorem dX6_clears_2 : decode cX6_clears 2 = .ok (.iload_n 1, 1) := by decide +kernel
theorem dX6_clears_3 : decode cX6_clears 3 = .ok (.bipush 60, 2) := by decide +kernel
theorem dX6_clears_5 : decode cX6_clears 5 = .ok (.if_icmp .gt 36, 3) := by decide +kernel
theorem dX6_clears_8 : decode cX6_clears 8 = .ok (.aload_n 0, 1) := by decide +kernel
theorem dX6_clears_9 : decode cX6_clears 9 = .ok (.getfield 41, 3) := by decide +kernel
theorem dX6_clears_12 : decode cX6_clears 12 = .ok (.invokestatic 144, 3) := by decide +kernel
theorem dX6_clears_15 : decode cX6_clears 15 = .ok (.aload_n 0, 1) := by decide +kernel
theorem dX6_clears_16 : decode cX6_clears 16 = .ok (.getfield 41, 3) := by decide +kernel
theorem dX6_clears_19 : decode cX6_clears 19 = .ok (.bipush 17, 2) := by decide +kernel
theorem dX6_clears_21 : decode cX6_clears 21 = .ok (.iaload, 1) := by decide +kernel
theorem dX6_clears_22 : decode cX6_clears 22 = .ok (.if_icmp .ne 5, 3) := by decide +kernel
theorem dX6_clears_25 : decode cX6_clears 25 = .ok (.iload_n 1, 1) := by decide +kernel
theorem dX6_clears_26 : decode cX6_clears 26 = .ok (.ireturn, 1) := by decide +kernel
theorem dX6_clears_27 : decode cX6_clears 27 = .ok (.aload_n 0, 1) := by decide +kernel
theorem dX6_clears_28 : decode cX6_clears 28 = .ok (.aload_n 0, 1) := by decide +kernel
theorem dX6_clears_29 : decode cX6_clears 29 = .ok (.getfield 41, 3) := by decide +kernel
theorem dX6_clears_32 : decode cX6_clears 32 = .ok (.invokevirtual 140, 3) := by decide +kernel
theorem dX6_clears_35 : decode cX6_clears 35 = .ok (.iinc 1 1, 3) := by decide +kernel
theorem dX6_clears_38 : decode cX6_clears 38 = .ok (.goto (-36), 3) := by decide +kernel
theorem dX6_clears_41 : decode cX6_clears 41 = .ok (.ldc 154, 2) := by decide +kernel
theorem dX6_clears_43 : decode cX6_clears 43 = .ok (.ireturn, 1) := by decide +kernel
theorem dX6_clear_0 : decode cX6_clear 0 = .ok (.aload_n 0, 1) := by decide +kernel
theorem dX6_clear_1 : decode cX6_clear 1 = .ok (.invokevirtual 133, 3) := by decide +kernel
theorem dX6_clear_4 : decode cX6_clear 4 = .ok (.ifCond .ne 6, 3) := by decide +kernel
theorem dX6_clear_7 : decode cX6_clear 7 = .ok (.ldc 136, 2) := by decide +kernel
theorem dX6_clear_9 : decode cX6_clear 9 = .ok (.ireturn, 1) := by decide +kernel
theorem dX6_clear_10 : decode cX6_clear 10 = .ok (.aload_n 0, 1) := by decide +kernel
theorem dX6_clear_11 : decode cX6_clear 11 = .ok (.invokevirtual 151, 3) := by decide +kernel
theorem dX6_clear_14 : decode cX6_clear 14 = .ok (.aload_n 0, 1) := by decide +kernel
theorem dX6_clear_15 : decode cX6_clear 15 = .ok (.invokevirtual 155, 3) := by decide +kernel
theorem dX6_clear_18 : decode cX6_clear 18 = .ok (.ireturn, 1) := by decide +kernel
theorem dX6_queued_0 : decode cX6_queued 0 = .ok (.iconst 0, 1) := by decide +kernel
theorem dX6_queued_1 : decode cX6_queued 1 = .ok (.istore_n 1, 1) := by decide +kernel
theorem dX6_queued_2 : decode cX6_queued 2 = .ok (.iconst 0, 1) := by decide +kernel
theorem dX6_queued_3 : decode cX6_queued 3 = .ok (.istore_n 2, 1) := by decide +kernel
theorem dX6_queued_4 : decode cX6_queued 4 = .ok (.iload_n 2, 1) := by decide +kernel
theorem dX6_queued_5 : decode cX6_queued 5 = .ok (.aload_n 0, 1) := by decide +kernel
theorem dX6_queued_6 : decode cX6_queued 6 = .ok (.getfield 25, 3) := by decide +kernel
theorem dX6_queued_9 : decode cX6_queued 9 = .ok (.bipush 17, 2) := by decide +kernel
theorem dX6_queued_11 : decode cX6_queued 11 = .ok (.iaload, 1) := by decide +kernel
theorem dX6_queued_12 : decode cX6_queued 12 = .ok (.if_icmp .ge 31, 3) := by decide +kernel
theorem dX6_queued_15 : decode cX6_queued 15 = .ok (.iload_n 1, 1) := by decide +kernel
theorem dX6_queued_16 : decode cX6_queued 16 = .ok (.aload_n 0, 1) := by decide +kernel
theorem dX6_queued_17 : decode cX6_queued 17 = .ok (.getfield 25, 3) := by decide +kernel
theorem dX6_queued_20 : decode cX6_queued 20 = .ok (.iconst 2, 1) := by decide +kernel
theorem dX6_queued_21 : decode cX6_queued 21 = .ok (.iload_n 2, 1) := by decide +kernel
theorem dX6_queued_22 : decode cX6_queued 22 = .ok (.iadd, 1) := by decide +kernel
theorem dX6_queued_23 : decode cX6_queued 23 = .ok (.iaload, 1) := by decide +kernel
theorem dX6_queued_24 : decode cX6_queued 24 = .ok (.iconst (-1), 1) := by decide +kernel
theorem dX6_queued_25 : decode cX6_queued 25 = .ok (.if_icmp .ne 9, 3) := by decide +kernel
theorem dX6_queued_28 : decode cX6_queued 28 = .ok (.iconst 1, 1) := by decide +kernel
theorem dX6_queued_29 : decode cX6_queued 29 = .ok (.iload_n 2, 1) := by decide +kernel
theorem dX6_queued_30 : decode cX6_queued 30 = .ok (.ishl, 1) := by decide +kernel
theorem dX6_queued_31 : decode cX6_queued 31 = .ok (.goto 4, 3) := by decide +kernel
theorem dX6_queued_34 : decode cX6_queued 34 = .ok (.iconst 0, 1) := by decide +kernel
theorem dX6_queued_35 : decode cX6_queued 35 = .ok (.ior, 1) := by decide +kernel
theorem dX6_queued_36 : decode cX6_queued 36 = .ok (.istore_n 1, 1) := by decide +kernel
theorem dX6_queued_37 : decode cX6_queued 37 = .ok (.iinc 2 1, 3) := by decide +kernel
theorem dX6_queued_40 : decode cX6_queued 40 = .ok (.goto (-36), 3) := by decide +kernel
theorem dX6_queued_43 : decode cX6_queued 43 = .ok (.iload_n 1, 1) := by decide +kernel
theorem dX6_queued_44 : decode cX6_queued 44 = .ok (.ireturn, 1) := by decide +kernel
theorem dX6_has_0 : decode cX6_has 0 = .ok (.iload_n 0, 1) := by decide +kernel
theorem dX6_has_1 : decode cX6_has 1 = .ok (.iload_n 1, 1) := by decide +kernel
theorem dX6_has_2 : decode cX6_has 2 = .ok (.ishr, 1) := by decide +kernel
theorem dX6_has_3 : decode cX6_has 3 = .ok (.iconst 1, 1) := by decide +kernel
theorem dX6_has_4 : decode cX6_has 4 = .ok (.iand, 1) := by decide +kernel
theorem dX6_has_5 : decode cX6_has 5 = .ok (.iconst 1, 1) := by decide +kernel
theorem dX6_has_6 : decode cX6_has 6 = .ok (.if_icmp .ne 7, 3) := by decide +kernel
theorem dX6_has_9 : decode cX6_has 9 = .ok (.iconst 1, 1) := by decide +kernel
theorem dX6_has_10 : decode cX6_has 10 = .ok (.goto 4, 3) := by decide +kernel
theorem dX6_has_13 : decode cX6_has 13 = .ok (.iconst 0, 1) := by decide +kernel
theorem dX6_has_14 : decode cX6_has 14 = .ok (.ireturn, 1) := by decide +kernel
theorem dX6_sorting_0 : decode cX6_sorting 0 = .ok (.aload_n 0, 1) := by decide +kernel
theorem dX6_sorting_1 : decode cX6_sorting 1 = .ok (.invokevirtual 133, 3) := by decide +kernel
theorem dX6_sorting_4 : decode cX6_sorting 4 = .ok (.ifCond .ne 6, 3) := by decide +kernel
theorem dX6_sorting_7 : decode cX6_sorting 7 = .ok (.ldc 136, 2) := by decide +kernel
theorem dX6_sorting_9 : decode cX6_sorting 9 = .ok (.ireturn, 1) := by decide +kernel
theorem dX6_sorting_10 : decode cX6_sorting 10 = .ok (.iload_n 1, 1) := by decide +kernel
theorem dX6_sorting_11 : decode cX6_sorting 11 = .ok (.iconst 0, 1) := by decide +kernel
theorem dX6_sorting_12 : decode cX6_sorting 12 = .ok (.iconst 1, 1) := by decide +kernel
theorem dX6_sorting_13 : decode cX6_sorting 13 = .ok (.invokestatic 50, 3) := by decide +kernel
theorem dX6_sorting_16 : decode cX6_sorting 16 = .ok (.ifCond .ne 6, 3) := by decide +kernel
theorem dX6_sorting_19 : decode cX6_sorting 19 = .ok (.ldc 65, 2) := by decide +kernel
theorem dX6_sorting_21 : decode cX6_sorting 21 = .ok (.ireturn, 1) := by decide +kernel
theorem dX6_sorting_22 : decode cX6_sorting 22 = .ok (.aload_n 0, 1) := by decide +kernel
theorem dX6_sorting_23 : decode cX6_sorting 23 = .ok (.invokevirtual 159, 3) := by decide +kernel
theorem dX6_sorting_26 : decode cX6_sorting 26 = .ok (.istore_n 2, 1) := by decide +kernel
theorem dX6_sorting_27 : decode cX6_sorting 27 = .ok (.ldc 154, 2) := by decide +kernel
theorem dX6_sorting_29 : decode cX6_sorting 29 = .ok (.istore_n 3, 1) := by decide +kernel
theorem dX6_sorting_30 : decode cX6_sorting 30 = .ok (.ldc 154, 2) := by decide +kernel
end
section
theorem dX6_sorting_32 : decode cX6_sorting 32 = .ok (.istore 4, 2) := by decide +kernel
theorem dX6_sorting_34 : decode cX6_sorting 34 = .ok (.iconst 0, 1) := by decide +kernel
theorem dX6_sorting_35 : decode cX6_sorting 35 = .ok (.istore 5, 2) := by decide +kernel
theorem dX6_sorting_37 : decode cX6_sorting 37 = .ok (.iload 5, 2) := by decide +kernel
theorem dX6_sorting_39 : decode cX6_sorting 39 = .ok (.iconst 1, 1) := by decide +kernel
theorem dX6_sorting_40 : decode cX6_sorting 40 = .ok (.aload_n 0, 1) := by decide +kernel
theorem dX6_sorting_41 : decode cX6_sorting 41 = .ok (.getfield 25, 3) := by decide +kernel
theorem dX6_sorting_44 : decode cX6_sorting 44 = .ok (.bipush 17, 2) := by decide +kernel
theorem dX6_sorting_46 : decode cX6_sorting 46 = .ok (.iaload, 1) := by decide +kernel
theorem dX6_sorting_47 : decode cX6_sorting 47 = .ok (.ishl, 1) := by decide +kernel
theorem dX6_sorting_48 : decode cX6_sorting 48 = .ok (.if_icmp .ge 142, 3) := by decide +kernel
theorem dX6_sorting_51 : decode cX6_sorting 51 = .ok (.iload 5, 2) := by decide +kernel
theorem dX6_sorting_53 : decode cX6_sorting 53 = .ok (.iload_n 2, 1) := by decide +kernel
theorem dX6_sorting_54 : decode cX6_sorting 54 = .ok (.iconst (-1), 1) := by decide +kernel
theorem dX6_sorting_55 : decode cX6_sorting 55 = .ok (.ixor, 1) := by decide +kernel
theorem dX6_sorting_56 : decode cX6_sorting 56 = .ok (.iand, 1) := by decide +kernel
theorem dX6_sorting_57 : decode cX6_sorting 57 = .ok (.ifCond .ne 127, 3) := by decide +kernel
theorem dX6_sorting_60 : decode cX6_sorting 60 = .ok (.aload_n 0, 1) := by decide +kernel
theorem dX6_sorting_61 : decode cX6_sorting 61 = .ok (.invokevirtual 151, 3) := by decide +kernel
theorem dX6_sorting_64 : decode cX6_sorting 64 = .ok (.iconst 0, 1) := by decide +kernel
theorem dX6_sorting_65 : decode cX6_sorting 65 = .ok (.istore 6, 2) := by decide +kernel
theorem dX6_sorting_67 : decode cX6_sorting 67 = .ok (.iload 6, 2) := by decide +kernel
theorem dX6_sorting_69 : decode cX6_sorting 69 = .ok (.aload_n 0, 1) := by decide +kernel
theorem dX6_sorting_70 : decode cX6_sorting 70 = .ok (.getfield 25, 3) := by decide +kernel
theorem dX6_sorting_73 : decode cX6_sorting 73 = .ok (.bipush 17, 2) := by decide +kernel
theorem dX6_sorting_75 : decode cX6_sorting 75 = .ok (.iaload, 1) := by decide +kernel
theorem dX6_sorting_76 : decode cX6_sorting 76 = .ok (.if_icmp .ge 48, 3) := by decide +kernel
theorem dX6_sorting_79 : decode cX6_sorting 79 = .ok (.aload_n 0, 1) := by decide +kernel
theorem dX6_sorting_80 : decode cX6_sorting 80 = .ok (.getfield 41, 3) := by decide +kernel
theorem dX6_sorting_83 : decode cX6_sorting 83 = .ok (.bipush 9, 2) := by decide +kernel
theorem dX6_sorting_85 : decode cX6_sorting 85 = .ok (.iload 6, 2) := by decide +kernel
theorem dX6_sorting_87 : decode cX6_sorting 87 = .ok (.iadd, 1) := by decide +kernel
theorem dX6_sorting_88 : decode cX6_sorting 88 = .ok (.iload_n 2, 1) := by decide +kernel
theorem dX6_sorting_89 : decode cX6_sorting 89 = .ok (.iload 6, 2) := by decide +kernel
theorem dX6_sorting_91 : decode cX6_sorting 91 = .ok (.invokestatic 162, 3) := by decide +kernel
theorem dX6_sorting_94 : decode cX6_sorting 94 = .ok (.ifCond .eq 13, 3) := by decide +kernel
theorem dX6_sorting_97 : decode cX6_sorting 97 = .ok (.iload 5, 2) := by decide +kernel
theorem dX6_sorting_99 : decode cX6_sorting 99 = .ok (.iload 6, 2) := by decide +kernel
theorem dX6_sorting_101 : decode cX6_sorting 101 = .ok (.ishr, 1) := by decide +kernel
theorem dX6_sorting_102 : decode cX6_sorting 102 = .ok (.iconst 1, 1) := by decide +kernel
theorem dX6_sorting_103 : decode cX6_sorting 103 = .ok (.iand, 1) := by decide +kernel
theorem dX6_sorting_104 : decode cX6_sorting 104 = .ok (.goto 13, 3) := by decide +kernel
theorem dX6_sorting_107 : decode cX6_sorting 107 = .ok (.aload_n 0, 1) := by decide +kernel
theorem dX6_sorting_108 : decode cX6_sorting 108 = .ok (.getfield 41, 3) := by decide +kernel
theorem dX6_sorting_111 : decode cX6_sorting 111 = .ok (.bipush 9, 2) := by decide +kernel
theorem dX6_sorting_113 : decode cX6_sorting 113 = .ok (.iload 6, 2) := by decide +kernel
theorem dX6_sorting_115 : decode cX6_sorting 115 = .ok (.iadd, 1) := by decide +kernel
theorem dX6_sorting_116 : decode cX6_sorting 116 = .ok (.iaload, 1) := by decide +kernel
theorem dX6_sorting_117 : decode cX6_sorting 117 = .ok (.iastore, 1) := by decide +kernel
theorem dX6_sorting_118 : decode cX6_sorting 118 = .ok (.iinc 6 1, 3) := by decide +kernel
theorem dX6_sorting_121 : decode cX6_sorting 121 = .ok (.goto (-54), 3) := by decide +kernel
theorem dX6_sorting_124 : decode cX6_sorting 124 = .ok (.aload_n 0, 1) := by decide +kernel
theorem dX6_sorting_125 : decode cX6_sorting 125 = .ok (.invokevirtual 155, 3) := by decide +kernel
theorem dX6_sorting_128 : decode cX6_sorting 128 = .ok (.istore 6, 2) := by decide +kernel
theorem dX6_sorting_130 : decode cX6_sorting 130 = .ok (.iload 6, 2) := by decide +kernel
theorem dX6_sorting_132 : decode cX6_sorting 132 = .ok (.ldc 154, 2) := by decide +kernel
theorem dX6_sorting_134 : decode cX6_sorting 134 = .ok (.if_icmp .eq 21, 3) := by decide +kernel
theorem dX6_sorting_137 : decode cX6_sorting 137 = .ok (.iload 4, 2) := by decide +kernel
theorem dX6_sorting_139 : decode cX6_sorting 139 = .ok (.ldc 154, 2) := by decide +kernel
theorem dX6_sorting_141 : decode cX6_sorting 141 = .ok (.if_icmp .eq 10, 3) := by decide +kernel
theorem dX6_sorting_144 : decode cX6_sorting 144 = .ok (.iload 6, 2) := by decide +kernel
theorem dX6_sorting_146 : decode cX6_sorting 146 = .ok (.iload 4, 2) := by decide +kernel
theorem dX6_sorting_148 : decode cX6_sorting 148 = .ok (.if_icmp .ge 7, 3) := by decide +kernel
theorem dX6_sorting_151 : decode cX6_sorting 151 = .ok (.iconst 1, 1) := by decide +kernel
theorem dX6_sorting_152 : decode cX6_sorting 152 = .ok (.goto 4, 3) := by decide +kernel
theorem dX6_sorting_155 : decode cX6_sorting 155 = .ok (.iconst 0, 1) := by decide +kernel
theorem dX6_sorting_156 : decode cX6_sorting 156 = .ok (.istore 7, 2) := by decide +kernel
theorem dX6_sorting_158 : decode cX6_sorting 158 = .ok (.iload 7, 2) := by decide +kernel
theorem dX6_sorting_160 : decode cX6_sorting 160 = .ok (.ifCond .eq 8, 3) := by decide +kernel
theorem dX6_sorting_163 : decode cX6_sorting 163 = .ok (.iload 5, 2) := by decide +kernel
theorem dX6_sorting_165 : decode cX6_sorting 165 = .ok (.goto 4, 3) := by decide +kernel
theorem dX6_sorting_168 : decode cX6_sorting 168 = .ok (.iload_n 3, 1) := by decide +kernel
theorem dX6_sorting_169 : decode cX6_sorting 169 = .ok (.istore_n 3, 1) := by decide +kernel
theorem dX6_sorting_170 : decode cX6_sorting 170 = .ok (.iload 7, 2) := by decide +kernel
theorem dX6_sorting_172 : decode cX6_sorting 172 = .ok (.ifCond .eq 8, 3) := by decide +kernel
theorem dX6_sorting_175 : decode cX6_sorting 175 = .ok (.iload 6, 2) := by decide +kernel
theorem dX6_sorting_177 : decode cX6_sorting 177 = .ok (.goto 5, 3) := by decide +kernel
theorem dX6_sorting_180 : decode cX6_sorting 180 = .ok (.iload 4, 2) := by decide +kernel
theorem dX6_sorting_182 : decode cX6_sorting 182 = .ok (.istore 4, 2) := by decide +kernel
theorem dX6_sorting_184 : decode cX6_sorting 184 = .ok (.iinc 5 1, 3) := by decide +kernel
theorem dX6_sorting_187 : decode cX6_sorting 187 = .ok (.goto (-150), 3) := by decide +kernel
theorem dX6_sorting_190 : decode cX6_sorting 190 = .ok (.iload_n 1, 1) := by decide +kernel
theorem dX6_sorting_191 : decode cX6_sorting 191 = .ok (.ifCond .ne 8, 3) := by decide +kernel
theorem dX6_sorting_194 : decode cX6_sorting 194 = .ok (.iload 4, 2) := by decide +kernel
theorem dX6_sorting_196 : decode cX6_sorting 196 = .ok (.goto 4, 3) := by decide +kernel
theorem dX6_sorting_199 : decode cX6_sorting 199 = .ok (.iload_n 3, 1) := by decide +kernel
theorem dX6_sorting_200 : decode cX6_sorting 200 = .ok (.ireturn, 1) := by decide +kernel
theorem dX6_taken_0 : decode cX6_taken 0 = .ok (.aload_n 0, 1) := by decide +kernel
theorem dX6_taken_1 : decode cX6_taken 1 = .ok (.invokevirtual 133, 3) := by decide +kernel
theorem dX6_taken_4 : decode cX6_taken 4 = .ok (.ifCond .ne 6, 3) := by decide +kernel
theorem dX6_taken_7 : decode cX6_taken 7 = .ok (.ldc 136, 2) := by decide +kernel
theorem dX6_taken_9 : decode cX6_taken 9 = .ok (.ireturn, 1) := by decide +kernel
theorem dX6_taken_10 : decode cX6_taken 10 = .ok (.iload_n 1, 1) := by decide +kernel
theorem dX6_taken_11 : decode cX6_taken 11 = .ok (.iconst 0, 1) := by decide +kernel
theorem dX6_taken_12 : decode cX6_taken 12 = .ok (.iconst 1, 1) := by decide +kernel
theorem dX6_taken_13 : decode cX6_taken 13 = .ok (.invokestatic 50, 3) := by decide +kernel
theorem dX6_taken_16 : decode cX6_taken 16 = .ok (.ifCond .ne 6, 3) := by decide +kernel
theorem dX6_taken_19 : decode cX6_taken 19 = .ok (.ldc 65, 2) := by decide +kernel
theorem dX6_taken_21 : decode cX6_taken 21 = .ok (.ireturn, 1) := by decide +kernel
theorem dX6_taken_22 : decode cX6_taken 22 = .ok (.aload_n 0, 1) := by decide +kernel
theorem dX6_taken_23 : decode cX6_taken 23 = .ok (.invokevirtual 151, 3) := by decide +kernel
theorem dX6_taken_26 : decode cX6_taken 26 = .ok (.aload_n 0, 1) := by decide +kernel
theorem dX6_taken_27 : decode cX6_taken 27 = .ok (.invokevirtual 155, 3) := by decide +kernel
theorem dX6_taken_30 : decode cX6_taken 30 = .ok (.istore_n 2, 1) := by decide +kernel
theorem dX6_taken_31 : decode cX6_taken 31 = .ok (.ldc 154, 2) := by decide +kernel
theorem dX6_taken_33 : decode cX6_taken 33 = .ok (.istore_n 3, 1) := by decide +kernel
theorem dX6_taken_34 : decode cX6_taken 34 = .ok (.iconst 0, 1) := by decide +kernel
theorem dX6_taken_35 : decode cX6_taken 35 = .ok (.istore 4, 2) := by decide +kernel
theorem dX6_taken_37 : decode cX6_taken 37 = .ok (.iload 4, 2) := by decide +kernel
theorem dX6_taken_39 : decode cX6_taken 39 = .ok (.aload_n 0, 1) := by decide +kernel
theorem dX6_taken_40 : decode cX6_taken 40 = .ok (.getfield 25, 3) := by decide +kernel
theorem dX6_taken_43 : decode cX6_taken 43 = .ok (.bipush 17, 2) := by decide +kernel
theorem dX6_taken_45 : decode cX6_taken 45 = .ok (.iaload, 1) := by decide +kernel
theorem dX6_taken_46 : decode cX6_taken 46 = .ok (.if_icmp .ge 55, 3) := by decide +kernel
theorem dX6_taken_49 : decode cX6_taken 49 = .ok (.aload_n 0, 1) := by decide +kernel
theorem dX6_taken_50 : decode cX6_taken 50 = .ok (.invokevirtual 151, 3) := by decide +kernel
theorem dX6_taken_53 : decode cX6_taken 53 = .ok (.aload_n 0, 1) := by decide +kernel
theorem dX6_taken_54 : decode cX6_taken 54 = .ok (.getfield 41, 3) := by decide +kernel
theorem dX6_taken_57 : decode cX6_taken 57 = .ok (.iconst 2, 1) := by decide +kernel
theorem dX6_taken_58 : decode cX6_taken 58 = .ok (.iload 4, 2) := by decide +kernel
theorem dX6_taken_60 : decode cX6_taken 60 = .ok (.iadd, 1) := by decide +kernel
theorem dX6_taken_61 : decode cX6_taken 61 = .ok (.bipush 99, 2) := by decide +kernel
theorem dX6_taken_63 : decode cX6_taken 63 = .ok (.iastore, 1) := by decide +kernel
theorem dX6_taken_64 : decode cX6_taken 64 = .ok (.aload_n 0, 1) := by decide +kernel
theorem dX6_taken_65 : decode cX6_taken 65 = .ok (.invokevirtual 155, 3) := by decide +kernel
theorem dX6_taken_68 : decode cX6_taken 68 = .ok (.istore 5, 2) := by decide +kernel
theorem dX6_taken_70 : decode cX6_taken 70 = .ok (.iload 5, 2) := by decide +kernel
theorem dX6_taken_72 : decode cX6_taken 72 = .ok (.ldc 154, 2) := by decide +kernel
theorem dX6_taken_74 : decode cX6_taken 74 = .ok (.if_icmp .eq 21, 3) := by decide +kernel
theorem dX6_taken_77 : decode cX6_taken 77 = .ok (.iload_n 2, 1) := by decide +kernel
theorem dX6_taken_78 : decode cX6_taken 78 = .ok (.ldc 154, 2) := by decide +kernel
theorem dX6_taken_80 : decode cX6_taken 80 = .ok (.if_icmp .eq 9, 3) := by decide +kernel
theorem dX6_taken_83 : decode cX6_taken 83 = .ok (.iload 5, 2) := by decide +kernel
theorem dX6_taken_85 : decode cX6_taken 85 = .ok (.iload_n 2, 1) := by decide +kernel
theorem dX6_taken_86 : decode cX6_taken 86 = .ok (.if_icmp .ge 9, 3) := by decide +kernel
theorem dX6_taken_89 : decode cX6_taken 89 = .ok (.iload 4, 2) := by decide +kernel
theorem dX6_taken_91 : decode cX6_taken 91 = .ok (.istore_n 3, 1) := by decide +kernel
theorem dX6_taken_92 : decode cX6_taken 92 = .ok (.iload 5, 2) := by decide +kernel
theorem dX6_taken_94 : decode cX6_taken 94 = .ok (.istore_n 2, 1) := by decide +kernel
theorem dX6_taken_95 : decode cX6_taken 95 = .ok (.iinc 4 1, 3) := by decide +kernel
theorem dX6_taken_98 : decode cX6_taken 98 = .ok (.goto (-61), 3) := by decide +kernel
theorem dX6_taken_101 : decode cX6_taken 101 = .ok (.iload_n 3, 1) := by decide +kernel
theorem dX6_taken_102 : decode cX6_taken 102 = .ok (.ldc 154, 2) := by decide +kernel
theorem dX6_taken_104 : decode cX6_taken 104 = .ok (.if_icmp .eq 7, 3) := by decide +kernel
theorem dX6_taken_107 : decode cX6_taken 107 = .ok (.iload_n 1, 1) := by decide +kernel
theorem dX6_taken_108 : decode cX6_taken 108 = .ok (.ifCond .ne 7, 3) := by decide +kernel
theorem dX6_taken_111 : decode cX6_taken 111 = .ok (.iload_n 3, 1) := by decide +kernel
theorem dX6_taken_112 : decode cX6_taken 112 = .ok (.goto 4, 3) := by decide +kernel
theorem dX6_taken_115 : decode cX6_taken 115 = .ok (.iload_n 2, 1) := by decide +kernel
theorem dX6_taken_116 : decode cX6_taken 116 = .ok (.ireturn, 1) := by decide +kernel
theorem dX6_pace_0 : decode cX6_pace 0 = .ok (.aload_n 0, 1) := by decide +kernel
theorem dX6_pace_1 : decode cX6_pace 1 = .ok (.iload_n 1, 1) := by decide +kernel
theorem dX6_pace_2 : decode cX6_pace 2 = .ok (.invokevirtual 148, 3) := by decide +kernel
theorem dX6_pace_5 : decode cX6_pace 5 = .ok (.ifCond .eq 18, 3) := by decide +kernel
theorem dX6_pace_8 : decode cX6_pace 8 = .ok (.iload_n 2, 1) := by decide +kernel
theorem dX6_pace_9 : decode cX6_pace 9 = .ok (.iconst 1, 1) := by decide +kernel
theorem dX6_pace_10 : decode cX6_pace 10 = .ok (.bipush 6, 2) := by decide +kernel
theorem dX6_pace_12 : decode cX6_pace 12 = .ok (.invokestatic 50, 3) := by decide +kernel
theorem dX6_pace_15 : decode cX6_pace 15 = .ok (.ifCond .eq 8, 3) := by decide +kernel
theorem dX6_pace_18 : decode cX6_pace 18 = .ok (.iload_n 3, 1) := by decide +kernel
theorem dX6_pace_19 : decode cX6_pace 19 = .ok (.iconst (-1), 1) := by decide +kernel
theorem dX6_pace_20 : decode cX6_pace 20 = .ok (.if_icmp .ge 6, 3) := by decide +kernel
theorem dX6_pace_23 : decode cX6_pace 23 = .ok (.ldc 65, 2) := by decide +kernel
theorem dX6_pace_25 : decode cX6_pace 25 = .ok (.ireturn, 1) := by decide +kernel
theorem dX6_pace_26 : decode cX6_pace 26 = .ok (.iconst 1, 1) := by decide +kernel
theorem dX6_pace_27 : decode cX6_pace 27 = .ok (.istore 4, 2) := by decide +kernel
theorem dX6_pace_29 : decode cX6_pace 29 = .ok (.iconst 0, 1) := by decide +kernel
theorem dX6_pace_30 : decode cX6_pace 30 = .ok (.istore 5, 2) := by decide +kernel
theorem dX6_pace_32 : decode cX6_pace 32 = .ok (.iload 5, 2) := by decide +kernel
theorem dX6_pace_34 : decode cX6_pace 34 = .ok (.iload_n 2, 1) := by decide +kernel
theorem dX6_pace_35 : decode cX6_pace 35 = .ok (.if_icmp .ge 15, 3) := by decide +kernel
theorem dX6_pace_38 : decode cX6_pace 38 = .ok (.iload 4, 2) := by decide +kernel
theorem dX6_pace_40 : decode cX6_pace 40 = .ok (.iconst 3, 1) := by decide +kernel
theorem dX6_pace_41 : decode cX6_pace 41 = .ok (.imul, 1) := by decide +kernel
theorem dX6_pace_42 : decode cX6_pace 42 = .ok (.istore 4, 2) := by decide +kernel
theorem dX6_pace_44 : decode cX6_pace 44 = .ok (.iinc 5 1, 3) := by decide +kernel
theorem dX6_pace_47 : decode cX6_pace 47 = .ok (.goto (-15), 3) := by decide +kernel
theorem dX6_pace_50 : decode cX6_pace 50 = .ok (.ldc 154, 2) := by decide +kernel
theorem dX6_pace_52 : decode cX6_pace 52 = .ok (.istore 5, 2) := by decide +kernel
theorem dX6_pace_54 : decode cX6_pace 54 = .ok (.bipush 99, 2) := by decide +kernel
theorem dX6_pace_56 : decode cX6_pace 56 = .ok (.istore 6, 2) := by decide +kernel
theorem dX6_pace_58 : decode cX6_pace 58 = .ok (.iconst 0, 1) := by decide +kernel
theorem dX6_pace_59 : decode cX6_pace 59 = .ok (.istore 7, 2) := by decide +kernel
theorem dX6_pace_61 : decode cX6_pace 61 = .ok (.iload 7, 2) := by decide +kernel
theorem dX6_pace_63 : decode cX6_pace 63 = .ok (.iload 4, 2) := by decide +kernel
theorem dX6_pace_65 : decode cX6_pace 65 = .ok (.if_icmp .ge 128, 3) := by decide +kernel
theorem dX6_pace_68 : decode cX6_pace 68 = .ok (.aload_n 0, 1) := by decide +kernel
theorem dX6_pace_69 : decode cX6_pace 69 = .ok (.invokevirtual 151, 3) := by decide +kernel
theorem dX6_pace_72 : decode cX6_pace 72 = .ok (.iload 4, 2) := by decide +kernel
theorem dX6_pace_74 : decode cX6_pace 74 = .ok (.istore 8, 2) := by decide +kernel
theorem dX6_pace_76 : decode cX6_pace 76 = .ok (.iconst 0, 1) := by decide +kernel
theorem dX6_pace_77 : decode cX6_pace 77 = .ok (.istore 9, 2) := by decide +kernel
theorem dX6_pace_79 : decode cX6_pace 79 = .ok (.iconst 0, 1) := by decide +kernel
theorem dX6_pace_80 : decode cX6_pace 80 = .ok (.istore 10, 2) := by decide +kernel
theorem dX6_pace_82 : decode cX6_pace 82 = .ok (.iload 10, 2) := by decide +kernel
theorem dX6_pace_84 : decode cX6_pace 84 = .ok (.iload_n 2, 1) := by decide +kernel
theorem dX6_pace_85 : decode cX6_pace 85 = .ok (.if_icmp .ge 47, 3) := by decide +kernel
theorem dX6_pace_88 : decode cX6_pace 88 = .ok (.iload 8, 2) := by decide +kernel
theorem dX6_pace_90 : decode cX6_pace 90 = .ok (.iconst 3, 1) := by decide +kernel
theorem dX6_pace_91 : decode cX6_pace 91 = .ok (.idiv, 1) := by decide +kernel
theorem dX6_pace_92 : decode cX6_pace 92 = .ok (.istore 8, 2) := by decide +kernel
theorem dX6_pace_94 : decode cX6_pace 94 = .ok (.aload_n 0, 1) := by decide +kernel
theorem dX6_pace_95 : decode cX6_pace 95 = .ok (.getfield 41, 3) := by decide +kernel
theorem dX6_pace_98 : decode cX6_pace 98 = .ok (.iconst 1, 1) := by decide +kernel
theorem dX6_pace_99 : decode cX6_pace 99 = .ok (.iload 7, 2) := by decide +kernel
theorem dX6_pace_101 : decode cX6_pace 101 = .ok (.iload 8, 2) := by decide +kernel
theorem dX6_pace_103 : decode cX6_pace 103 = .ok (.idiv, 1) := by decide +kernel
theorem dX6_pace_104 : decode cX6_pace 104 = .ok (.iconst 3, 1) := by decide +kernel
theorem dX6_pace_105 : decode cX6_pace 105 = .ok (.irem, 1) := by decide +kernel
theorem dX6_pace_106 : decode cX6_pace 106 = .ok (.iastore, 1) := by decide +kernel
theorem dX6_pace_107 : decode cX6_pace 107 = .ok (.iload 9, 2) := by decide +kernel
theorem dX6_pace_109 : decode cX6_pace 109 = .ok (.aload_n 0, 1) := by decide +kernel
theorem dX6_pace_110 : decode cX6_pace 110 = .ok (.getfield 41, 3) := by decide +kernel
theorem dX6_pace_113 : decode cX6_pace 113 = .ok (.iconst 1, 1) := by decide +kernel
theorem dX6_pace_114 : decode cX6_pace 114 = .ok (.iaload, 1) := by decide +kernel
theorem dX6_pace_115 : decode cX6_pace 115 = .ok (.iadd, 1) := by decide +kernel
theorem dX6_pace_116 : decode cX6_pace 116 = .ok (.istore 9, 2) := by decide +kernel
theorem dX6_pace_118 : decode cX6_pace 118 = .ok (.aload_n 0, 1) := by decide +kernel
theorem dX6_pace_119 : decode cX6_pace 119 = .ok (.aload_n 0, 1) := by decide +kernel
theorem dX6_pace_120 : decode cX6_pace 120 = .ok (.getfield 41, 3) := by decide +kernel
theorem dX6_pace_123 : decode cX6_pace 123 = .ok (.invokevirtual 140, 3) := by decide +kernel
theorem dX6_pace_126 : decode cX6_pace 126 = .ok (.iinc 10 1, 3) := by decide +kernel
theorem dX6_pace_129 : decode cX6_pace 129 = .ok (.goto (-47), 3) := by decide +kernel
theorem dX6_pace_132 : decode cX6_pace 132 = .ok (.aload_n 0, 1) := by decide +kernel
theorem dX6_pace_133 : decode cX6_pace 133 = .ok (.getfield 41, 3) := by decide +kernel
theorem dX6_pace_136 : decode cX6_pace 136 = .ok (.iconst 2, 1) := by decide +kernel
theorem dX6_pace_137 : decode cX6_pace 137 = .ok (.iload_n 1, 1) := by decide +kernel
theorem dX6_pace_138 : decode cX6_pace 138 = .ok (.iadd, 1) := by decide +kernel
theorem dX6_pace_139 : decode cX6_pace 139 = .ok (.iaload, 1) := by decide +kernel
theorem dX6_pace_140 : decode cX6_pace 140 = .ok (.bipush 99, 2) := by decide +kernel
theorem dX6_pace_142 : decode cX6_pace 142 = .ok (.if_icmp .ne 14, 3) := by decide +kernel
theorem dX6_pace_145 : decode cX6_pace 145 = .ok (.iload 9, 2) := by decide +kernel
theorem dX6_pace_147 : decode cX6_pace 147 = .ok (.iload 6, 2) := by decide +kernel
theorem dX6_pace_149 : decode cX6_pace 149 = .ok (.if_icmp .ge 7, 3) := by decide +kernel
theorem dX6_pace_152 : decode cX6_pace 152 = .ok (.iconst 1, 1) := by decide +kernel
theorem dX6_pace_153 : decode cX6_pace 153 = .ok (.goto 4, 3) := by decide +kernel
theorem dX6_pace_156 : decode cX6_pace 156 = .ok (.iconst 0, 1) := by decide +kernel
theorem dX6_pace_157 : decode cX6_pace 157 = .ok (.istore 10, 2) := by decide +kernel
theorem dX6_pace_159 : decode cX6_pace 159 = .ok (.iload 10, 2) := by decide +kernel
theorem dX6_pace_161 : decode cX6_pace 161 = .ok (.ifCond .eq 8, 3) := by decide +kernel
theorem dX6_pace_164 : decode cX6_pace 164 = .ok (.iload 7, 2) := by decide +kernel
theorem dX6_pace_166 : decode cX6_pace 166 = .ok (.goto 5, 3) := by decide +kernel
theorem dX6_pace_169 : decode cX6_pace 169 = .ok (.iload 5, 2) := by decide +kernel
theorem dX6_pace_171 : decode cX6_pace 171 = .ok (.istore 5, 2) := by decide +kernel
theorem dX6_pace_173 : decode cX6_pace 173 = .ok (.iload 10, 2) := by decide +kernel
theorem dX6_pace_175 : decode cX6_pace 175 = .ok (.ifCond .eq 8, 3) := by decide +kernel
theorem dX6_pace_178 : decode cX6_pace 178 = .ok (.iload 9, 2) := by decide +kernel
theorem dX6_pace_180 : decode cX6_pace 180 = .ok (.goto 5, 3) := by decide +kernel
theorem dX6_pace_183 : decode cX6_pace 183 = .ok (.iload 6, 2) := by decide +kernel
theorem dX6_pace_185 : decode cX6_pace 185 = .ok (.istore 6, 2) := by decide +kernel
theorem dX6_pace_187 : decode cX6_pace 187 = .ok (.iinc 7 1, 3) := by decide +kernel
theorem dX6_pace_190 : decode cX6_pace 190 = .ok (.goto (-129), 3) := by decide +kernel
theorem dX6_pace_193 : decode cX6_pace 193 = .ok (.iload 5, 2) := by decide +kernel
theorem dX6_pace_195 : decode cX6_pace 195 = .ok (.ldc 154, 2) := by decide +kernel
theorem dX6_pace_197 : decode cX6_pace 197 = .ok (.if_icmp .eq 8, 3) := by decide +kernel
theorem dX6_pace_200 : decode cX6_pace 200 = .ok (.iload_n 3, 1) := by decide +kernel
theorem dX6_pace_201 : decode cX6_pace 201 = .ok (.iload_n 2, 1) := by decide +kernel
theorem dX6_pace_202 : decode cX6_pace 202 = .ok (.if_icmp .lt 6, 3) := by decide +kernel
theorem dX6_pace_205 : decode cX6_pace 205 = .ok (.ldc 154, 2) := by decide +kernel
theorem dX6_pace_207 : decode cX6_pace 207 = .ok (.ireturn, 1) := by decide +kernel
theorem dX6_pace_208 : decode cX6_pace 208 = .ok (.iload_n 2, 1) := by decide +kernel
theorem dX6_pace_209 : decode cX6_pace 209 = .ok (.iconst 1, 1) := by decide +kernel
theorem dX6_pace_210 : decode cX6_pace 210 = .ok (.isub, 1) := by decide +kernel
theorem dX6_pace_211 : decode cX6_pace 211 = .ok (.istore 7, 2) := by decide +kernel
theorem dX6_pace_213 : decode cX6_pace 213 = .ok (.iload 7, 2) := by decide +kernel
theorem dX6_pace_215 : decode cX6_pace 215 = .ok (.iload_n 3, 1) := by decide +kernel
theorem dX6_pace_216 : decode cX6_pace 216 = .ok (.if_icmp .le 19, 3) := by decide +kernel
theorem dX6_pace_219 : decode cX6_pace 219 = .ok (.iload_n 3, 1) := by decide +kernel
theorem dX6_pace_220 : decode cX6_pace 220 = .ok (.ifCond .lt 15, 3) := by decide +kernel
theorem dX6_pace_223 : decode cX6_pace 223 = .ok (.iload 5, 2) := by decide +kernel
theorem dX6_pace_225 : decode cX6_pace 225 = .ok (.iconst 3, 1) := by decide +kernel
theorem dX6_pace_226 : decode cX6_pace 226 = .ok (.idiv, 1) := by decide +kernel
theorem dX6_pace_227 : decode cX6_pace 227 = .ok (.istore 5, 2) := by decide +kernel
theorem dX6_pace_229 : decode cX6_pace 229 = .ok (.iinc 7 (-1), 3) := by decide +kernel
theorem dX6_pace_232 : decode cX6_pace 232 = .ok (.goto (-19), 3) := by decide +kernel
theorem dX6_pace_235 : decode cX6_pace 235 = .ok (.iload_n 3, 1) := by decide +kernel
theorem dX6_pace_236 : decode cX6_pace 236 = .ok (.iconst (-1), 1) := by decide +kernel
theorem dX6_pace_237 : decode cX6_pace 237 = .ok (.if_icmp .ne 8, 3) := by decide +kernel
theorem dX6_pace_240 : decode cX6_pace 240 = .ok (.iload 6, 2) := by decide +kernel
theorem dX6_pace_242 : decode cX6_pace 242 = .ok (.goto 7, 3) := by decide +kernel
theorem dX6_pace_245 : decode cX6_pace 245 = .ok (.iload 5, 2) := by decide +kernel
theorem dX6_pace_247 : decode cX6_pace 247 = .ok (.iconst 3, 1) := by decide +kernel
theorem dX6_pace_248 : decode cX6_pace 248 = .ok (.irem, 1) := by decide +kernel
theorem dX6_pace_249 : decode cX6_pace 249 = .ok (.ireturn, 1) := by decide +kernel
theorem dX6_isSo_0 : decode cX6_isSo 0 = .ok (.iconst 1, 1) := by decide +kernel
theorem dX6_isSo_1 : decode cX6_isSo 1 = .ok (.istore 4, 2) := by decide +kernel
theorem dX6_isSo_3 : decode cX6_isSo 3 = .ok (.iconst 0, 1) := by decide +kernel
theorem dX6_isSo_4 : decode cX6_isSo 4 = .ok (.istore 5, 2) := by decide +kernel
theorem dX6_isSo_6 : decode cX6_isSo 6 = .ok (.iload 5, 2) := by decide +kernel
theorem dX6_isSo_8 : decode cX6_isSo 8 = .ok (.iload_n 3, 1) := by decide +kernel
theorem dX6_isSo_9 : decode cX6_isSo 9 = .ok (.if_icmp .ge 49, 3) := by decide +kernel
theorem dX6_isSo_12 : decode cX6_isSo 12 = .ok (.aload_n 0, 1) := by decide +kernel
theorem dX6_isSo_13 : decode cX6_isSo 13 = .ok (.aload_n 0, 1) := by decide +kernel
theorem dX6_isSo_14 : decode cX6_isSo 14 = .ok (.getfield 41, 3) := by decide +kernel
theorem dX6_isSo_17 : decode cX6_isSo 17 = .ok (.invokevirtual 140, 3) := by decide +kernel
theorem dX6_isSo_20 : decode cX6_isSo 20 = .ok (.iload 4, 2) := by decide +kernel
theorem dX6_isSo_22 : decode cX6_isSo 22 = .ok (.ifCond .eq 27, 3) := by decide +kernel
theorem dX6_isSo_25 : decode cX6_isSo 25 = .ok (.aload_n 0, 1) := by decide +kernel
theorem dX6_isSo_26 : decode cX6_isSo 26 = .ok (.getfield 41, 3) := by decide +kernel
theorem dX6_isSo_29 : decode cX6_isSo 29 = .ok (.iconst 2, 1) := by decide +kernel
theorem dX6_isSo_30 : decode cX6_isSo 30 = .ok (.iload_n 1, 1) := by decide +kernel
theorem dX6_isSo_31 : decode cX6_isSo 31 = .ok (.iadd, 1) := by decide +kernel
theorem dX6_isSo_32 : decode cX6_isSo 32 = .ok (.iaload, 1) := by decide +kernel
theorem dX6_isSo_33 : decode cX6_isSo 33 = .ok (.aload_n 0, 1) := by decide +kernel
theorem dX6_isSo_34 : decode cX6_isSo 34 = .ok (.getfield 16, 3) := by decide +kernel
theorem dX6_isSo_37 : decode cX6_isSo 37 = .ok (.iload_n 2, 1) := by decide +kernel
theorem dX6_isSo_38 : decode cX6_isSo 38 = .ok (.iload 5, 2) := by decide +kernel
theorem dX6_isSo_40 : decode cX6_isSo 40 = .ok (.iadd, 1) := by decide +kernel
theorem dX6_isSo_41 : decode cX6_isSo 41 = .ok (.iaload, 1) := by decide +kernel
theorem dX6_isSo_42 : decode cX6_isSo 42 = .ok (.if_icmp .ne 7, 3) := by decide +kernel
theorem dX6_isSo_45 : decode cX6_isSo 45 = .ok (.iconst 1, 1) := by decide +kernel
theorem dX6_isSo_46 : decode cX6_isSo 46 = .ok (.goto 4, 3) := by decide +kernel
theorem dX6_isSo_49 : decode cX6_isSo 49 = .ok (.iconst 0, 1) := by decide +kernel
theorem dX6_isSo_50 : decode cX6_isSo 50 = .ok (.istore 4, 2) := by decide +kernel
theorem dX6_isSo_52 : decode cX6_isSo 52 = .ok (.iinc 5 1, 3) := by decide +kernel
theorem dX6_isSo_55 : decode cX6_isSo 55 = .ok (.goto (-49), 3) := by decide +kernel
theorem dX6_isSo_58 : decode cX6_isSo 58 = .ok (.iload 4, 2) := by decide +kernel
theorem dX6_isSo_60 : decode cX6_isSo 60 = .ok (.ireturn, 1) := by decide +kernel
theorem dX6_fits_0 : decode cX6_fits 0 = .ok (.aload_n 0, 1) := by decide +kernel
theorem dX6_fits_1 : decode cX6_fits 1 = .ok (.iload_n 1, 1) := by decide +kernel
theorem dX6_fits_2 : decode cX6_fits 2 = .ok (.invokevirtual 148, 3) := by decide +kernel
theorem dX6_fits_5 : decode cX6_fits 5 = .ok (.ifCond .eq 31, 3) := by decide +kernel
theorem dX6_fits_8 : decode cX6_fits 8 = .ok (.iload_n 2, 1) := by decide +kernel
theorem dX6_fits_9 : decode cX6_fits 9 = .ok (.invokestatic 61, 3) := by decide +kernel
theorem dX6_fits_12 : decode cX6_fits 12 = .ok (.ifCond .eq 24, 3) := by decide +kernel
theorem dX6_fits_15 : decode cX6_fits 15 = .ok (.iload 4, 2) := by decide +kernel
theorem dX6_fits_17 : decode cX6_fits 17 = .ok (.iconst 1, 1) := by decide +kernel
theorem dX6_fits_18 : decode cX6_fits 18 = .ok (.bipush 12, 2) := by decide +kernel
theorem dX6_fits_20 : decode cX6_fits 20 = .ok (.invokestatic 50, 3) := by decide +kernel
theorem dX6_fits_23 : decode cX6_fits 23 = .ok (.ifCond .eq 13, 3) := by decide +kernel
theorem dX6_fits_26 : decode cX6_fits 26 = .ok (.iload 5, 2) := by decide +kernel
theorem dX6_fits_28 : decode cX6_fits 28 = .ok (.iconst 0, 1) := by decide +kernel
theorem dX6_fits_29 : decode cX6_fits 29 = .ok (.iconst 3, 1) := by decide +kernel
theorem dX6_fits_30 : decode cX6_fits 30 = .ok (.invokestatic 50, 3) := by decide +kernel
theorem dX6_fits_33 : decode cX6_fits 33 = .ok (.ifCond .ne 6, 3) := by decide +kernel
theorem dX6_fits_36 : decode cX6_fits 36 = .ok (.ldc 65, 2) := by decide +kernel
theorem dX6_fits_38 : decode cX6_fits 38 = .ok (.ireturn, 1) := by decide +kernel
theorem dX6_fits_39 : decode cX6_fits 39 = .ok (.aload_n 0, 1) := by decide +kernel
theorem dX6_fits_40 : decode cX6_fits 40 = .ok (.getfield 7, 3) := by decide +kernel
theorem dX6_fits_43 : decode cX6_fits 43 = .ok (.iload_n 2, 1) := by decide +kernel
theorem dX6_fits_44 : decode cX6_fits 44 = .ok (.iaload, 1) := by decide +kernel
theorem dX6_fits_45 : decode cX6_fits 45 = .ok (.ifCond .ge 10, 3) := by decide +kernel
theorem dX6_fits_48 : decode cX6_fits 48 = .ok (.aload_n 0, 1) := by decide +kernel
theorem dX6_fits_49 : decode cX6_fits 49 = .ok (.ldc 55, 2) := by decide +kernel
theorem dX6_fits_51 : decode cX6_fits 51 = .ok (.invokevirtual 67, 3) := by decide +kernel
theorem dX6_fits_54 : decode cX6_fits 54 = .ok (.ireturn, 1) := by decide +kernel
theorem dX6_fits_55 : decode cX6_fits 55 = .ok (.aload_n 0, 1) := by decide +kernel
theorem dX6_fits_56 : decode cX6_fits 56 = .ok (.iload_n 2, 1) := by decide +kernel
theorem dX6_fits_57 : decode cX6_fits 57 = .ok (.iload_n 3, 1) := by decide +kernel
theorem dX6_fits_58 : decode cX6_fits 58 = .ok (.iload 4, 2) := by decide +kernel
theorem dX6_fits_60 : decode cX6_fits 60 = .ok (.invokevirtual 71, 3) := by decide +kernel
theorem dX6_fits_63 : decode cX6_fits 63 = .ok (.ifCond .ne 10, 3) := by decide +kernel
theorem dX6_fits_66 : decode cX6_fits 66 = .ok (.aload_n 0, 1) := by decide +kernel
theorem dX6_fits_67 : decode cX6_fits 67 = .ok (.ldc 74, 2) := by decide +kernel
theorem dX6_fits_69 : decode cX6_fits 69 = .ok (.invokevirtual 67, 3) := by decide +kernel
theorem dX6_fits_72 : decode cX6_fits 72 = .ok (.ireturn, 1) := by decide +kernel
theorem dX6_fits_73 : decode cX6_fits 73 = .ok (.iconst 0, 1) := by decide +kernel
theorem dX6_fits_74 : decode cX6_fits 74 = .ok (.istore 6, 2) := by decide +kernel
theorem dX6_fits_76 : decode cX6_fits 76 = .ok (.bipush 40, 2) := by decide +kernel
theorem dX6_fits_78 : decode cX6_fits 78 = .ok (.iload_n 2, 1) := by decide +kernel
theorem dX6_fits_79 : decode cX6_fits 79 = .ok (.imul, 1) := by decide +kernel
theorem dX6_fits_80 : decode cX6_fits 80 = .ok (.iload_n 3, 1) := by decide +kernel
theorem dX6_fits_81 : decode cX6_fits 81 = .ok (.iadd, 1) := by decide +kernel
theorem dX6_fits_82 : decode cX6_fits 82 = .ok (.istore 7, 2) := by decide +kernel
theorem dX6_fits_84 : decode cX6_fits 84 = .ok (.iload 5, 2) := by decide +kernel
theorem dX6_fits_86 : decode cX6_fits 86 = .ok (.ifCond .ne 7, 3) := by decide +kernel
theorem dX6_fits_89 : decode cX6_fits 89 = .ok (.iconst 1, 1) := by decide +kernel
theorem dX6_fits_90 : decode cX6_fits 90 = .ok (.goto 4, 3) := by decide +kernel
theorem dX6_fits_93 : decode cX6_fits 93 = .ok (.iconst 0, 1) := by decide +kernel
theorem dX6_fits_94 : decode cX6_fits 94 = .ok (.istore 8, 2) := by decide +kernel
theorem dX6_fits_96 : decode cX6_fits 96 = .ok (.iload 5, 2) := by decide +kernel
theorem dX6_fits_98 : decode cX6_fits 98 = .ok (.ifCond .ne 7, 3) := by decide +kernel
theorem dX6_fits_101 : decode cX6_fits 101 = .ok (.iconst 5, 1) := by decide +kernel
theorem dX6_fits_102 : decode cX6_fits 102 = .ok (.goto 32, 3) := by decide +kernel
theorem dX6_fits_105 : decode cX6_fits 105 = .ok (.iload 5, 2) := by decide +kernel
theorem dX6_fits_107 : decode cX6_fits 107 = .ok (.iconst 1, 1) := by decide +kernel
theorem dX6_fits_108 : decode cX6_fits 108 = .ok (.if_icmp .ne 7, 3) := by decide +kernel
theorem dX6_fits_111 : decode cX6_fits 111 = .ok (.iconst 1, 1) := by decide +kernel
theorem dX6_fits_112 : decode cX6_fits 112 = .ok (.goto 22, 3) := by decide +kernel
theorem dX6_fits_115 : decode cX6_fits 115 = .ok (.iload 5, 2) := by decide +kernel
theorem dX6_fits_117 : decode cX6_fits 117 = .ok (.iconst 2, 1) := by decide +kernel
theorem dX6_fits_118 : decode cX6_fits 118 = .ok (.if_icmp .ne 7, 3) := by decide +kernel
theorem dX6_fits_121 : decode cX6_fits 121 = .ok (.iconst 2, 1) := by decide +kernel
theorem dX6_fits_122 : decode cX6_fits 122 = .ok (.goto 12, 3) := by decide +kernel
theorem dX6_fits_125 : decode cX6_fits 125 = .ok (.aload_n 0, 1) := by decide +kernel
theorem dX6_fits_126 : decode cX6_fits 126 = .ok (.getfield 25, 3) := by decide +kernel
theorem dX6_fits_129 : decode cX6_fits 129 = .ok (.bipush 16, 2) := by decide +kernel
theorem dX6_fits_131 : decode cX6_fits 131 = .ok (.iaload, 1) := by decide +kernel
theorem dX6_fits_132 : decode cX6_fits 132 = .ok (.iconst 1, 1) := by decide +kernel
theorem dX6_fits_133 : decode cX6_fits 133 = .ok (.isub, 1) := by decide +kernel
theorem dX6_fits_134 : decode cX6_fits 134 = .ok (.istore 9, 2) := by decide +kernel
theorem dX6_fits_136 : decode cX6_fits 136 = .ok (.aload_n 0, 1) := by decide +kernel
theorem dX6_fits_137 : decode cX6_fits 137 = .ok (.getfield 25, 3) := by decide +kernel
theorem dX6_fits_140 : decode cX6_fits 140 = .ok (.iconst 2, 1) := by decide +kernel
theorem dX6_fits_141 : decode cX6_fits 141 = .ok (.iload_n 1, 1) := by decide +kernel
theorem dX6_fits_142 : decode cX6_fits 142 = .ok (.iadd, 1) := by decide +kernel
theorem dX6_fits_143 : decode cX6_fits 143 = .ok (.iaload, 1) := by decide +kernel
theorem dX6_fits_144 : decode cX6_fits 144 = .ok (.invokestatic 130, 3) := by decide +kernel
theorem dX6_fits_147 : decode cX6_fits 147 = .ok (.istore 10, 2) := by decide +kernel
theorem dX6_fits_149 : decode cX6_fits 149 = .ok (.iload 8, 2) := by decide +kernel
theorem dX6_fits_151 : decode cX6_fits 151 = .ok (.istore 11, 2) := by decide +kernel
theorem dX6_fits_153 : decode cX6_fits 153 = .ok (.iload 11, 2) := by decide +kernel
theorem dX6_fits_155 : decode cX6_fits 155 = .ok (.iload 9, 2) := by decide +kernel
theorem dX6_fits_157 : decode cX6_fits 157 = .ok (.if_icmp .gt 132, 3) := by decide +kernel
theorem dX6_fits_160 : decode cX6_fits 160 = .ok (.aload_n 0, 1) := by decide +kernel
theorem dX6_fits_161 : decode cX6_fits 161 = .ok (.invokevirtual 151, 3) := by decide +kernel
theorem dX6_fits_164 : decode cX6_fits 164 = .ok (.iload 5, 2) := by decide +kernel
theorem dX6_fits_166 : decode cX6_fits 166 = .ok (.ifCond .ne 10, 3) := by decide +kernel
theorem dX6_fits_169 : decode cX6_fits 169 = .ok (.bipush 18, 2) := by decide +kernel
theorem dX6_fits_171 : decode cX6_fits 171 = .ok (.iload_n 1, 1) := by decide +kernel
theorem dX6_fits_172 : decode cX6_fits 172 = .ok (.iadd, 1) := by decide +kernel
theorem dX6_fits_173 : decode cX6_fits 173 = .ok (.goto 29, 3) := by decide +kernel
theorem dX6_fits_176 : decode cX6_fits 176 = .ok (.iload 5, 2) := by decide +kernel
theorem dX6_fits_178 : decode cX6_fits 178 = .ok (.iconst 1, 1) := by decide +kernel
theorem dX6_fits_179 : decode cX6_fits 179 = .ok (.if_icmp .ne 10, 3) := by decide +kernel
theorem dX6_fits_182 : decode cX6_fits 182 = .ok (.bipush 9, 2) := by decide +kernel
theorem dX6_fits_184 : decode cX6_fits 184 = .ok (.iload_n 1, 1) := by decide +kernel
theorem dX6_fits_185 : decode cX6_fits 185 = .ok (.iadd, 1) := by decide +kernel
theorem dX6_fits_186 : decode cX6_fits 186 = .ok (.goto 16, 3) := by decide +kernel
theorem dX6_fits_189 : decode cX6_fits 189 = .ok (.iload 5, 2) := by decide +kernel
theorem dX6_fits_191 : decode cX6_fits 191 = .ok (.iconst 2, 1) := by decide +kernel
theorem dX6_fits_192 : decode cX6_fits 192 = .ok (.if_icmp .ne 7, 3) := by decide +kernel
theorem dX6_fits_195 : decode cX6_fits 195 = .ok (.iconst 1, 1) := by decide +kernel
theorem dX6_fits_196 : decode cX6_fits 196 = .ok (.goto 6, 3) := by decide +kernel
theorem dX6_fits_199 : decode cX6_fits 199 = .ok (.iconst 2, 1) := by decide +kernel
theorem dX6_fits_200 : decode cX6_fits 200 = .ok (.iload_n 1, 1) := by decide +kernel
theorem dX6_fits_201 : decode cX6_fits 201 = .ok (.iadd, 1) := by decide +kernel
theorem dX6_fits_202 : decode cX6_fits 202 = .ok (.istore 12, 2) := by decide +kernel
theorem dX6_fits_204 : decode cX6_fits 204 = .ok (.iload 5, 2) := by decide +kernel
theorem dX6_fits_206 : decode cX6_fits 206 = .ok (.iconst 3, 1) := by decide +kernel
theorem dX6_fits_207 : decode cX6_fits 207 = .ok (.if_icmp .lt 30, 3) := by decide +kernel
theorem dX6_fits_210 : decode cX6_fits 210 = .ok (.iload 10, 2) := by decide +kernel
theorem dX6_fits_212 : decode cX6_fits 212 = .ok (.ifCond .eq 29, 3) := by decide +kernel
theorem dX6_fits_215 : decode cX6_fits 215 = .ok (.aload_n 0, 1) := by decide +kernel
theorem dX6_fits_216 : decode cX6_fits 216 = .ok (.getfield 25, 3) := by decide +kernel
theorem dX6_fits_219 : decode cX6_fits 219 = .ok (.iload_n 1, 1) := by decide +kernel
theorem dX6_fits_220 : decode cX6_fits 220 = .ok (.iload 11, 2) := by decide +kernel
theorem dX6_fits_222 : decode cX6_fits 222 = .ok (.aload_n 0, 1) := by decide +kernel
theorem dX6_fits_223 : decode cX6_fits 223 = .ok (.getfield 25, 3) := by decide +kernel
theorem dX6_fits_226 : decode cX6_fits 226 = .ok (.bipush 9, 2) := by decide +kernel
theorem dX6_fits_228 : decode cX6_fits 228 = .ok (.iload_n 1, 1) := by decide +kernel
theorem dX6_fits_229 : decode cX6_fits 229 = .ok (.iadd, 1) := by decide +kernel
theorem dX6_fits_230 : decode cX6_fits 230 = .ok (.iaload, 1) := by decide +kernel
theorem dX6_fits_231 : decode cX6_fits 231 = .ok (.invokestatic 118, 3) := by decide +kernel
theorem dX6_fits_234 : decode cX6_fits 234 = .ok (.ifCond .eq 7, 3) := by decide +kernel
theorem dX6_fits_237 : decode cX6_fits 237 = .ok (.iconst 1, 1) := by decide +kernel
theorem dX6_fits_238 : decode cX6_fits 238 = .ok (.goto 4, 3) := by decide +kernel
theorem dX6_fits_241 : decode cX6_fits 241 = .ok (.iconst 0, 1) := by decide +kernel
theorem dX6_fits_242 : decode cX6_fits 242 = .ok (.istore 13, 2) := by decide +kernel
theorem dX6_fits_244 : decode cX6_fits 244 = .ok (.aload_n 0, 1) := by decide +kernel
theorem dX6_fits_245 : decode cX6_fits 245 = .ok (.getfield 41, 3) := by decide +kernel
theorem dX6_fits_248 : decode cX6_fits 248 = .ok (.iload 12, 2) := by decide +kernel
theorem dX6_fits_250 : decode cX6_fits 250 = .ok (.iload 11, 2) := by decide +kernel
theorem dX6_fits_252 : decode cX6_fits 252 = .ok (.iastore, 1) := by decide +kernel
theorem dX6_fits_253 : decode cX6_fits 253 = .ok (.iload 6, 2) := by decide +kernel
theorem dX6_fits_255 : decode cX6_fits 255 = .ok (.iload 13, 2) := by decide +kernel
theorem dX6_fits_257 : decode cX6_fits 257 = .ok (.ifCond .eq 22, 3) := by decide +kernel
theorem dX6_fits_260 : decode cX6_fits 260 = .ok (.aload_n 0, 1) := by decide +kernel
theorem dX6_fits_261 : decode cX6_fits 261 = .ok (.iload_n 1, 1) := by decide +kernel
theorem dX6_fits_262 : decode cX6_fits 262 = .ok (.iload 7, 2) := by decide +kernel
theorem dX6_fits_264 : decode cX6_fits 264 = .ok (.iload 4, 2) := by decide +kernel
theorem dX6_fits_266 : decode cX6_fits 266 = .ok (.invokevirtual 166, 3) := by decide +kernel
theorem dX6_fits_269 : decode cX6_fits 269 = .ok (.ifCond .eq 10, 3) := by decide +kernel
theorem dX6_fits_272 : decode cX6_fits 272 = .ok (.iconst 1, 1) := by decide +kernel
theorem dX6_fits_273 : decode cX6_fits 273 = .ok (.iload 11, 2) := by decide +kernel
theorem dX6_fits_275 : decode cX6_fits 275 = .ok (.ishl, 1) := by decide +kernel
theorem dX6_fits_276 : decode cX6_fits 276 = .ok (.goto 4, 3) := by decide +kernel
theorem dX6_fits_279 : decode cX6_fits 279 = .ok (.iconst 0, 1) := by decide +kernel
theorem dX6_fits_280 : decode cX6_fits 280 = .ok (.ior, 1) := by decide +kernel
theorem dX6_fits_281 : decode cX6_fits 281 = .ok (.istore 6, 2) := by decide +kernel
theorem dX6_fits_283 : decode cX6_fits 283 = .ok (.iinc 11 1, 3) := by decide +kernel
theorem dX6_fits_286 : decode cX6_fits 286 = .ok (.goto (-133), 3) := by decide +kernel
theorem dX6_fits_289 : decode cX6_fits 289 = .ok (.aload_n 0, 1) := by decide +kernel
theorem dX6_fits_290 : decode cX6_fits 290 = .ok (.iload 6, 2) := by decide +kernel
theorem dX6_fits_292 : decode cX6_fits 292 = .ok (.invokevirtual 67, 3) := by decide +kernel
theorem dX6_fits_295 : decode cX6_fits 295 = .ok (.ireturn, 1) := by decide +kernel
theorem dX6_absent_0 : decode cX6_absent 0 = .ok (.aload_n 0, 1) := by decide +kernel
theorem dX6_absent_1 : decode cX6_absent 1 = .ok (.iload_n 1, 1) := by decide +kernel
theorem dX6_absent_2 : decode cX6_absent 2 = .ok (.invokevirtual 148, 3) := by decide +kernel
theorem dX6_absent_5 : decode cX6_absent 5 = .ok (.ifCond .eq 33, 3) := by decide +kernel
theorem dX6_absent_8 : decode cX6_absent 8 = .ok (.iload_n 2, 1) := by decide +kernel
theorem dX6_absent_9 : decode cX6_absent 9 = .ok (.iconst 0, 1) := by decide +kernel
theorem dX6_absent_10 : decode cX6_absent 10 = .ok (.bipush 60, 2) := by decide +kernel
theorem dX6_absent_12 : decode cX6_absent 12 = .ok (.invokestatic 50, 3) := by decide +kernel
theorem dX6_absent_15 : decode cX6_absent 15 = .ok (.ifCond .eq 23, 3) := by decide +kernel
theorem dX6_absent_18 : decode cX6_absent 18 = .ok (.iload_n 3, 1) := by decide +kernel
theorem dX6_absent_19 : decode cX6_absent 19 = .ok (.iconst 0, 1) := by decide +kernel
theorem dX6_absent_20 : decode cX6_absent 20 = .ok (.bipush 10, 2) := by decide +kernel
theorem dX6_absent_22 : decode cX6_absent 22 = .ok (.invokestatic 50, 3) := by decide +kernel
theorem dX6_absent_25 : decode cX6_absent 25 = .ok (.ifCond .eq 13, 3) := by decide +kernel
theorem dX6_absent_28 : decode cX6_absent 28 = .ok (.iload 4, 2) := by decide +kernel
theorem dX6_absent_30 : decode cX6_absent 30 = .ok (.iconst 0, 1) := by decide +kernel
theorem dX6_absent_31 : decode cX6_absent 31 = .ok (.iconst 1, 1) := by decide +kernel
theorem dX6_absent_32 : decode cX6_absent 32 = .ok (.invokestatic 50, 3) := by decide +kernel
theorem dX6_absent_35 : decode cX6_absent 35 = .ok (.ifCond .ne 6, 3) := by decide +kernel
theorem dX6_absent_38 : decode cX6_absent 38 = .ok (.ldc 65, 2) := by decide +kernel
theorem dX6_absent_40 : decode cX6_absent 40 = .ok (.ireturn, 1) := by decide +kernel
theorem dX6_absent_41 : decode cX6_absent 41 = .ok (.aload_n 0, 1) := by decide +kernel
theorem dX6_absent_42 : decode cX6_absent 42 = .ok (.invokevirtual 159, 3) := by decide +kernel
theorem dX6_absent_45 : decode cX6_absent 45 = .ok (.istore 5, 2) := by decide +kernel
theorem dX6_absent_47 : decode cX6_absent 47 = .ok (.iconst 0, 1) := by decide +kernel
theorem dX6_absent_48 : decode cX6_absent 48 = .ok (.istore 6, 2) := by decide +kernel
theorem dX6_absent_50 : decode cX6_absent 50 = .ok (.iconst 1, 1) := by decide +kernel
theorem dX6_absent_51 : decode cX6_absent 51 = .ok (.istore 7, 2) := by decide +kernel
theorem dX6_absent_53 : decode cX6_absent 53 = .ok (.iconst 0, 1) := by decide +kernel
theorem dX6_absent_54 : decode cX6_absent 54 = .ok (.istore 8, 2) := by decide +kernel
theorem dX6_absent_56 : decode cX6_absent 56 = .ok (.iload 8, 2) := by decide +kernel
theorem dX6_absent_58 : decode cX6_absent 58 = .ok (.iconst 1, 1) := by decide +kernel
theorem dX6_absent_59 : decode cX6_absent 59 = .ok (.aload_n 0, 1) := by decide +kernel
theorem dX6_absent_60 : decode cX6_absent 60 = .ok (.getfield 25, 3) := by decide +kernel
theorem dX6_absent_63 : decode cX6_absent 63 = .ok (.bipush 17, 2) := by decide +kernel
theorem dX6_absent_65 : decode cX6_absent 65 = .ok (.iaload, 1) := by decide +kernel
theorem dX6_absent_66 : decode cX6_absent 66 = .ok (.ishl, 1) := by decide +kernel
theorem dX6_absent_67 : decode cX6_absent 67 = .ok (.if_icmp .ge 152, 3) := by decide +kernel
theorem dX6_absent_70 : decode cX6_absent 70 = .ok (.iload 8, 2) := by decide +kernel
theorem dX6_absent_72 : decode cX6_absent 72 = .ok (.iload 5, 2) := by decide +kernel
theorem dX6_absent_74 : decode cX6_absent 74 = .ok (.iconst (-1), 1) := by decide +kernel
theorem dX6_absent_75 : decode cX6_absent 75 = .ok (.ixor, 1) := by decide +kernel
theorem dX6_absent_76 : decode cX6_absent 76 = .ok (.iand, 1) := by decide +kernel
theorem dX6_absent_77 : decode cX6_absent 77 = .ok (.ifCond .ne 136, 3) := by decide +kernel
theorem dX6_absent_80 : decode cX6_absent 80 = .ok (.aload_n 0, 1) := by decide +kernel
theorem dX6_absent_81 : decode cX6_absent 81 = .ok (.invokevirtual 151, 3) := by decide +kernel
theorem dX6_absent_84 : decode cX6_absent 84 = .ok (.iconst 1, 1) := by decide +kernel
theorem dX6_absent_85 : decode cX6_absent 85 = .ok (.istore 9, 2) := by decide +kernel
theorem dX6_absent_87 : decode cX6_absent 87 = .ok (.iconst 0, 1) := by decide +kernel
theorem dX6_absent_88 : decode cX6_absent 88 = .ok (.istore 10, 2) := by decide +kernel
theorem dX6_absent_90 : decode cX6_absent 90 = .ok (.iload 10, 2) := by decide +kernel
theorem dX6_absent_92 : decode cX6_absent 92 = .ok (.aload_n 0, 1) := by decide +kernel
theorem dX6_absent_93 : decode cX6_absent 93 = .ok (.getfield 25, 3) := by decide +kernel
theorem dX6_absent_96 : decode cX6_absent 96 = .ok (.bipush 17, 2) := by decide +kernel
theorem dX6_absent_98 : decode cX6_absent 98 = .ok (.iaload, 1) := by decide +kernel
theorem dX6_absent_99 : decode cX6_absent 99 = .ok (.if_icmp .ge 67, 3) := by decide +kernel
theorem dX6_absent_102 : decode cX6_absent 102 = .ok (.iload 5, 2) := by decide +kernel
theorem dX6_absent_104 : decode cX6_absent 104 = .ok (.iload 10, 2) := by decide +kernel
theorem dX6_absent_106 : decode cX6_absent 106 = .ok (.invokestatic 162, 3) := by decide +kernel
theorem dX6_absent_109 : decode cX6_absent 109 = .ok (.ifCond .eq 51, 3) := by decide +kernel
theorem dX6_absent_112 : decode cX6_absent 112 = .ok (.iload 9, 2) := by decide +kernel
theorem dX6_absent_114 : decode cX6_absent 114 = .ok (.iload 8, 2) := by decide +kernel
theorem dX6_absent_116 : decode cX6_absent 116 = .ok (.iload 10, 2) := by decide +kernel
theorem dX6_absent_118 : decode cX6_absent 118 = .ok (.invokestatic 162, 3) := by decide +kernel
theorem dX6_absent_121 : decode cX6_absent 121 = .ok (.ifCond .eq 7, 3) := by decide +kernel
theorem dX6_absent_124 : decode cX6_absent 124 = .ok (.iload_n 3, 1) := by decide +kernel
theorem dX6_absent_125 : decode cX6_absent 125 = .ok (.goto 7, 3) := by decide +kernel
theorem dX6_absent_128 : decode cX6_absent 128 = .ok (.bipush 10, 2) := by decide +kernel
theorem dX6_absent_130 : decode cX6_absent 130 = .ok (.iload_n 3, 1) := by decide +kernel
theorem dX6_absent_131 : decode cX6_absent 131 = .ok (.isub, 1) := by decide +kernel
theorem dX6_absent_132 : decode cX6_absent 132 = .ok (.imul, 1) := by decide +kernel
theorem dX6_absent_133 : decode cX6_absent 133 = .ok (.istore 9, 2) := by decide +kernel
theorem dX6_absent_135 : decode cX6_absent 135 = .ok (.aload_n 0, 1) := by decide +kernel
theorem dX6_absent_136 : decode cX6_absent 136 = .ok (.getfield 41, 3) := by decide +kernel
theorem dX6_absent_139 : decode cX6_absent 139 = .ok (.iconst 2, 1) := by decide +kernel
theorem dX6_absent_140 : decode cX6_absent 140 = .ok (.iload 10, 2) := by decide +kernel
theorem dX6_absent_142 : decode cX6_absent 142 = .ok (.iadd, 1) := by decide +kernel
theorem dX6_absent_143 : decode cX6_absent 143 = .ok (.iload 8, 2) := by decide +kernel
theorem dX6_absent_145 : decode cX6_absent 145 = .ok (.iload 10, 2) := by decide +kernel
theorem dX6_absent_147 : decode cX6_absent 147 = .ok (.invokestatic 162, 3) := by decide +kernel
theorem dX6_absent_150 : decode cX6_absent 150 = .ok (.ifCond .eq 8, 3) := by decide +kernel
theorem dX6_absent_153 : decode cX6_absent 153 = .ok (.bipush 99, 2) := by decide +kernel
theorem dX6_absent_155 : decode cX6_absent 155 = .ok (.goto 4, 3) := by decide +kernel
theorem dX6_absent_158 : decode cX6_absent 158 = .ok (.iconst (-1), 1) := by decide +kernel
theorem dX6_absent_159 : decode cX6_absent 159 = .ok (.iastore, 1) := by decide +kernel
theorem dX6_absent_160 : decode cX6_absent 160 = .ok (.iinc 10 1, 3) := by decide +kernel
theorem dX6_absent_163 : decode cX6_absent 163 = .ok (.goto (-73), 3) := by decide +kernel
theorem dX6_absent_166 : decode cX6_absent 166 = .ok (.iconst 0, 1) := by decide +kernel
theorem dX6_absent_167 : decode cX6_absent 167 = .ok (.istore 10, 2) := by decide +kernel
theorem dX6_absent_169 : decode cX6_absent 169 = .ok (.iload 10, 2) := by decide +kernel
theorem dX6_absent_171 : decode cX6_absent 171 = .ok (.iload_n 2, 1) := by decide +kernel
theorem dX6_absent_172 : decode cX6_absent 172 = .ok (.if_icmp .ge 17, 3) := by decide +kernel
theorem dX6_absent_175 : decode cX6_absent 175 = .ok (.aload_n 0, 1) := by decide +kernel
theorem dX6_absent_176 : decode cX6_absent 176 = .ok (.aload_n 0, 1) := by decide +kernel
theorem dX6_absent_177 : decode cX6_absent 177 = .ok (.getfield 41, 3) := by decide +kernel
theorem dX6_absent_180 : decode cX6_absent 180 = .ok (.invokevirtual 140, 3) := by decide +kernel
theorem dX6_absent_183 : decode cX6_absent 183 = .ok (.iinc 10 1, 3) := by decide +kernel
theorem dX6_absent_186 : decode cX6_absent 186 = .ok (.goto (-17), 3) := by decide +kernel
theorem dX6_absent_189 : decode cX6_absent 189 = .ok (.iload 6, 2) := by decide +kernel
theorem dX6_absent_191 : decode cX6_absent 191 = .ok (.aload_n 0, 1) := by decide +kernel
theorem dX6_absent_192 : decode cX6_absent 192 = .ok (.getfield 41, 3) := by decide +kernel
theorem dX6_absent_195 : decode cX6_absent 195 = .ok (.iconst 2, 1) := by decide +kernel
theorem dX6_absent_196 : decode cX6_absent 196 = .ok (.iload_n 1, 1) := by decide +kernel
theorem dX6_absent_197 : decode cX6_absent 197 = .ok (.iadd, 1) := by decide +kernel
theorem dX6_absent_198 : decode cX6_absent 198 = .ok (.iaload, 1) := by decide +kernel
theorem dX6_absent_199 : decode cX6_absent 199 = .ok (.bipush 99, 2) := by decide +kernel
theorem dX6_absent_201 : decode cX6_absent 201 = .ok (.if_icmp .ne 8, 3) := by decide +kernel
theorem dX6_absent_204 : decode cX6_absent 204 = .ok (.iload 9, 2) := by decide +kernel
theorem dX6_absent_206 : decode cX6_absent 206 = .ok (.goto 4, 3) := by decide +kernel
theorem dX6_absent_209 : decode cX6_absent 209 = .ok (.iconst 0, 1) := by decide +kernel
theorem dX6_absent_210 : decode cX6_absent 210 = .ok (.iadd, 1) := by decide +kernel
theorem dX6_absent_211 : decode cX6_absent 211 = .ok (.istore 6, 2) := by decide +kernel
theorem dX6_absent_213 : decode cX6_absent 213 = .ok (.iinc 8 1, 3) := by decide +kernel
theorem dX6_absent_216 : decode cX6_absent 216 = .ok (.goto (-160), 3) := by decide +kernel
theorem dX6_absent_219 : decode cX6_absent 219 = .ok (.iconst 0, 1) := by decide +kernel
theorem dX6_absent_220 : decode cX6_absent 220 = .ok (.istore 8, 2) := by decide +kernel
theorem dX6_absent_222 : decode cX6_absent 222 = .ok (.iload 8, 2) := by decide +kernel
theorem dX6_absent_224 : decode cX6_absent 224 = .ok (.aload_n 0, 1) := by decide +kernel
theorem dX6_absent_225 : decode cX6_absent 225 = .ok (.getfield 25, 3) := by decide +kernel
theorem dX6_absent_228 : decode cX6_absent 228 = .ok (.bipush 17, 2) := by decide +kernel
theorem dX6_absent_230 : decode cX6_absent 230 = .ok (.iaload, 1) := by decide +kernel
theorem dX6_absent_231 : decode cX6_absent 231 = .ok (.if_icmp .ge 30, 3) := by decide +kernel
theorem dX6_absent_234 : decode cX6_absent 234 = .ok (.iload 7, 2) := by decide +kernel
theorem dX6_absent_236 : decode cX6_absent 236 = .ok (.iload 5, 2) := by decide +kernel
theorem dX6_absent_238 : decode cX6_absent 238 = .ok (.iload 8, 2) := by decide +kernel
theorem dX6_absent_240 : decode cX6_absent 240 = .ok (.invokestatic 162, 3) := by decide +kernel
theorem dX6_absent_243 : decode cX6_absent 243 = .ok (.ifCond .eq 8, 3) := by decide +kernel
theorem dX6_absent_246 : decode cX6_absent 246 = .ok (.bipush 10, 2) := by decide +kernel
theorem dX6_absent_248 : decode cX6_absent 248 = .ok (.goto 4, 3) := by decide +kernel
theorem dX6_absent_251 : decode cX6_absent 251 = .ok (.iconst 1, 1) := by decide +kernel
theorem dX6_absent_252 : decode cX6_absent 252 = .ok (.imul, 1) := by decide +kernel
theorem dX6_absent_253 : decode cX6_absent 253 = .ok (.istore 7, 2) := by decide +kernel
theorem dX6_absent_255 : decode cX6_absent 255 = .ok (.iinc 8 1, 3) := by decide +kernel
theorem dX6_absent_258 : decode cX6_absent 258 = .ok (.goto (-36), 3) := by decide +kernel
theorem dX6_absent_261 : decode cX6_absent 261 = .ok (.iload 6, 2) := by decide +kernel
theorem dX6_absent_263 : decode cX6_absent 263 = .ok (.istore 8, 2) := by decide +kernel
theorem dX6_absent_265 : decode cX6_absent 265 = .ok (.iload 7, 2) := by decide +kernel
theorem dX6_absent_267 : decode cX6_absent 267 = .ok (.istore 9, 2) := by decide +kernel
theorem dX6_absent_269 : decode cX6_absent 269 = .ok (.iload 9, 2) := by decide +kernel
theorem dX6_absent_271 : decode cX6_absent 271 = .ok (.ifCond .le 21, 3) := by decide +kernel
theorem dX6_absent_274 : decode cX6_absent 274 = .ok (.iload 8, 2) := by decide +kernel
theorem dX6_absent_276 : decode cX6_absent 276 = .ok (.iload 9, 2) := by decide +kernel
theorem dX6_absent_278 : decode cX6_absent 278 = .ok (.irem, 1) := by decide +kernel
theorem dX6_absent_279 : decode cX6_absent 279 = .ok (.istore 10, 2) := by decide +kernel
theorem dX6_absent_281 : decode cX6_absent 281 = .ok (.iload 9, 2) := by decide +kernel
theorem dX6_absent_283 : decode cX6_absent 283 = .ok (.istore 8, 2) := by decide +kernel
theorem dX6_absent_285 : decode cX6_absent 285 = .ok (.iload 10, 2) := by decide +kernel
theorem dX6_absent_287 : decode cX6_absent 287 = .ok (.istore 9, 2) := by decide +kernel
theorem dX6_absent_289 : decode cX6_absent 289 = .ok (.goto (-20), 3) := by decide +kernel
theorem dX6_absent_292 : decode cX6_absent 292 = .ok (.iload 4, 2) := by decide +kernel
theorem dX6_absent_294 : decode cX6_absent 294 = .ok (.ifCond .ne 11, 3) := by decide +kernel
theorem dX6_absent_297 : decode cX6_absent 297 = .ok (.iload 6, 2) := by decide +kernel
theorem dX6_absent_299 : decode cX6_absent 299 = .ok (.iload 8, 2) := by decide +kernel
theorem dX6_absent_301 : decode cX6_absent 301 = .ok (.idiv, 1) := by decide +kernel
theorem dX6_absent_302 : decode cX6_absent 302 = .ok (.goto 8, 3) := by decide +kernel
theorem dX6_absent_305 : decode cX6_absent 305 = .ok (.iload 7, 2) := by decide +kernel
theorem dX6_absent_307 : decode cX6_absent 307 = .ok (.iload 8, 2) := by decide +kernel
theorem dX6_absent_309 : decode cX6_absent 309 = .ok (.idiv, 1) := by decide +kernel
theorem dX6_absent_310 : decode cX6_absent 310 = .ok (.ireturn, 1) := by decide +kernel
theorem dX6_drawn_0 : decode cX6_drawn 0 = .ok (.aload_n 0, 1) := by decide +kernel
theorem dX6_drawn_1 : decode cX6_drawn 1 = .ok (.invokevirtual 133, 3) := by decide +kernel
theorem dX6_drawn_4 : decode cX6_drawn 4 = .ok (.ifCond .ne 6, 3) := by decide +kernel
theorem dX6_drawn_7 : decode cX6_drawn 7 = .ok (.ldc 136, 2) := by decide +kernel
theorem dX6_drawn_9 : decode cX6_drawn 9 = .ok (.ireturn, 1) := by decide +kernel
theorem dX6_drawn_10 : decode cX6_drawn 10 = .ok (.iload_n 1, 1) := by decide +kernel
theorem dX6_drawn_11 : decode cX6_drawn 11 = .ok (.iconst 0, 1) := by decide +kernel
theorem dX6_drawn_12 : decode cX6_drawn 12 = .ok (.bipush 60, 2) := by decide +kernel
theorem dX6_drawn_14 : decode cX6_drawn 14 = .ok (.invokestatic 50, 3) := by decide +kernel
theorem dX6_drawn_17 : decode cX6_drawn 17 = .ok (.ifCond .eq 22, 3) := by decide +kernel
theorem dX6_drawn_20 : decode cX6_drawn 20 = .ok (.iload_n 2, 1) := by decide +kernel
theorem dX6_drawn_21 : decode cX6_drawn 21 = .ok (.iconst 1, 1) := by decide +kernel
theorem dX6_drawn_22 : decode cX6_drawn 22 = .ok (.ldc 169, 2) := by decide +kernel
theorem dX6_drawn_24 : decode cX6_drawn 24 = .ok (.invokestatic 50, 3) := by decide +kernel
theorem dX6_drawn_27 : decode cX6_drawn 27 = .ok (.ifCond .eq 12, 3) := by decide +kernel
theorem dX6_drawn_30 : decode cX6_drawn 30 = .ok (.iload_n 3, 1) := by decide +kernel
theorem dX6_drawn_31 : decode cX6_drawn 31 = .ok (.iconst 0, 1) := by decide +kernel
theorem dX6_drawn_32 : decode cX6_drawn 32 = .ok (.iconst 1, 1) := by decide +kernel
theorem dX6_drawn_33 : decode cX6_drawn 33 = .ok (.invokestatic 50, 3) := by decide +kernel
theorem dX6_drawn_36 : decode cX6_drawn 36 = .ok (.ifCond .ne 6, 3) := by decide +kernel
theorem dX6_drawn_39 : decode cX6_drawn 39 = .ok (.ldc 65, 2) := by decide +kernel
theorem dX6_drawn_41 : decode cX6_drawn 41 = .ok (.ireturn, 1) := by decide +kernel
theorem dX6_drawn_42 : decode cX6_drawn 42 = .ok (.aload_n 0, 1) := by decide +kernel
theorem dX6_drawn_43 : decode cX6_drawn 43 = .ok (.invokevirtual 151, 3) := by decide +kernel
theorem dX6_drawn_46 : decode cX6_drawn 46 = .ok (.iload_n 2, 1) := by decide +kernel
theorem dX6_drawn_47 : decode cX6_drawn 47 = .ok (.i2l, 1) := by decide +kernel
theorem dX6_drawn_48 : decode cX6_drawn 48 = .ok (.lstore 4, 2) := by decide +kernel
theorem dX6_drawn_50 : decode cX6_drawn 50 = .ok (.iconst 0, 1) := by decide +kernel
theorem dX6_drawn_51 : decode cX6_drawn 51 = .ok (.istore 6, 2) := by decide +kernel
theorem dX6_drawn_53 : decode cX6_drawn 53 = .ok (.iconst 0, 1) := by decide +kernel
theorem dX6_drawn_54 : decode cX6_drawn 54 = .ok (.istore 7, 2) := by decide +kernel
theorem dX6_drawn_56 : decode cX6_drawn 56 = .ok (.iload 7, 2) := by decide +kernel
theorem dX6_drawn_58 : decode cX6_drawn 58 = .ok (.iload_n 1, 1) := by decide +kernel
theorem dX6_drawn_59 : decode cX6_drawn 59 = .ok (.if_icmp .ge 141, 3) := by decide +kernel
theorem dX6_drawn_62 : decode cX6_drawn 62 = .ok (.lload 4, 2) := by decide +kernel
theorem dX6_drawn_64 : decode cX6_drawn 64 = .ok (.ldc2_w 170, 3) := by decide +kernel
theorem dX6_drawn_67 : decode cX6_drawn 67 = .ok (.lmul, 1) := by decide +kernel
theorem dX6_drawn_68 : decode cX6_drawn 68 = .ok (.ldc2_w 172, 3) := by decide +kernel
theorem dX6_drawn_71 : decode cX6_drawn 71 = .ok (.lrem, 1) := by decide +kernel
theorem dX6_drawn_72 : decode cX6_drawn 72 = .ok (.lstore 4, 2) := by decide +kernel
theorem dX6_drawn_74 : decode cX6_drawn 74 = .ok (.aload_n 0, 1) := by decide +kernel
theorem dX6_drawn_75 : decode cX6_drawn 75 = .ok (.getfield 41, 3) := by decide +kernel
theorem dX6_drawn_78 : decode cX6_drawn 78 = .ok (.iconst 1, 1) := by decide +kernel
theorem dX6_drawn_79 : decode cX6_drawn 79 = .ok (.lload 4, 2) := by decide +kernel
theorem dX6_drawn_81 : decode cX6_drawn 81 = .ok (.ldc2_w 174, 3) := by decide +kernel
theorem dX6_drawn_84 : decode cX6_drawn 84 = .ok (.lrem, 1) := by decide +kernel
theorem dX6_drawn_85 : decode cX6_drawn 85 = .ok (.lconst 0, 1) := by decide +kernel
theorem dX6_drawn_86 : decode cX6_drawn 86 = .ok (.lcmp, 1) := by decide +kernel
theorem dX6_drawn_87 : decode cX6_drawn 87 = .ok (.ifCond .ne 13, 3) := by decide +kernel
theorem dX6_drawn_90 : decode cX6_drawn 90 = .ok (.lload 4, 2) := by decide +kernel
theorem dX6_drawn_92 : decode cX6_drawn 92 = .ok (.ldc2_w 176, 3) := by decide +kernel
theorem dX6_drawn_95 : decode cX6_drawn 95 = .ok (.lrem, 1) := by decide +kernel
theorem dX6_drawn_96 : decode cX6_drawn 96 = .ok (.l2i, 1) := by decide +kernel
theorem dX6_drawn_97 : decode cX6_drawn 97 = .ok (.goto 9, 3) := by decide +kernel
theorem dX6_drawn_100 : decode cX6_drawn 100 = .ok (.aload_n 0, 1) := by decide +kernel
theorem dX6_drawn_101 : decode cX6_drawn 101 = .ok (.getfield 41, 3) := by decide +kernel
theorem dX6_drawn_104 : decode cX6_drawn 104 = .ok (.iconst 1, 1) := by decide +kernel
theorem dX6_drawn_105 : decode cX6_drawn 105 = .ok (.iaload, 1) := by decide +kernel
theorem dX6_drawn_106 : decode cX6_drawn 106 = .ok (.iastore, 1) := by decide +kernel
theorem dX6_drawn_107 : decode cX6_drawn 107 = .ok (.lload 4, 2) := by decide +kernel
theorem dX6_drawn_109 : decode cX6_drawn 109 = .ok (.aload_n 0, 1) := by decide +kernel
theorem dX6_drawn_110 : decode cX6_drawn 110 = .ok (.getfield 41, 3) := by decide +kernel
theorem dX6_drawn_113 : decode cX6_drawn 113 = .ok (.bipush 17, 2) := by decide +kernel
theorem dX6_drawn_115 : decode cX6_drawn 115 = .ok (.iaload, 1) := by decide +kernel
theorem dX6_drawn_116 : decode cX6_drawn 116 = .ok (.i2l, 1) := by decide +kernel
theorem dX6_drawn_117 : decode cX6_drawn 117 = .ok (.lrem, 1) := by decide +kernel
theorem dX6_drawn_118 : decode cX6_drawn 118 = .ok (.l2i, 1) := by decide +kernel
theorem dX6_drawn_119 : decode cX6_drawn 119 = .ok (.istore 8, 2) := by decide +kernel
theorem dX6_drawn_121 : decode cX6_drawn 121 = .ok (.aload_n 0, 1) := by decide +kernel
theorem dX6_drawn_122 : decode cX6_drawn 122 = .ok (.getfield 41, 3) := by decide +kernel
theorem dX6_drawn_125 : decode cX6_drawn 125 = .ok (.iconst 2, 1) := by decide +kernel
theorem dX6_drawn_126 : decode cX6_drawn 126 = .ok (.iload 8, 2) := by decide +kernel
theorem dX6_drawn_128 : decode cX6_drawn 128 = .ok (.iadd, 1) := by decide +kernel
theorem dX6_drawn_129 : decode cX6_drawn 129 = .ok (.iaload, 1) := by decide +kernel
theorem dX6_drawn_130 : decode cX6_drawn 130 = .ok (.bipush 99, 2) := by decide +kernel
theorem dX6_drawn_132 : decode cX6_drawn 132 = .ok (.if_icmp .ne 30, 3) := by decide +kernel
theorem dX6_drawn_135 : decode cX6_drawn 135 = .ok (.aload_n 0, 1) := by decide +kernel
theorem dX6_drawn_136 : decode cX6_drawn 136 = .ok (.getfield 41, 3) := by decide +kernel
theorem dX6_drawn_139 : decode cX6_drawn 139 = .ok (.iconst 2, 1) := by decide +kernel
theorem dX6_drawn_140 : decode cX6_drawn 140 = .ok (.iload 8, 2) := by decide +kernel
theorem dX6_drawn_142 : decode cX6_drawn 142 = .ok (.iadd, 1) := by decide +kernel
theorem dX6_drawn_143 : decode cX6_drawn 143 = .ok (.iconst (-1), 1) := by decide +kernel
theorem dX6_drawn_144 : decode cX6_drawn 144 = .ok (.iastore, 1) := by decide +kernel
theorem dX6_drawn_145 : decode cX6_drawn 145 = .ok (.aload_n 0, 1) := by decide +kernel
theorem dX6_drawn_146 : decode cX6_drawn 146 = .ok (.getfield 41, 3) := by decide +kernel
theorem dX6_drawn_149 : decode cX6_drawn 149 = .ok (.bipush 9, 2) := by decide +kernel
theorem dX6_drawn_151 : decode cX6_drawn 151 = .ok (.iload 8, 2) := by decide +kernel
theorem dX6_drawn_153 : decode cX6_drawn 153 = .ok (.iadd, 1) := by decide +kernel
theorem dX6_drawn_154 : decode cX6_drawn 154 = .ok (.lload 4, 2) := by decide +kernel
theorem dX6_drawn_156 : decode cX6_drawn 156 = .ok (.ldc2_w 178, 3) := by decide +kernel
theorem dX6_drawn_159 : decode cX6_drawn 159 = .ok (.lrem, 1) := by decide +kernel
theorem dX6_drawn_160 : decode cX6_drawn 160 = .ok (.l2i, 1) := by decide +kernel
theorem dX6_drawn_161 : decode cX6_drawn 161 = .ok (.iastore, 1) := by decide +kernel
theorem dX6_drawn_162 : decode cX6_drawn 162 = .ok (.aload_n 0, 1) := by decide +kernel
theorem dX6_drawn_163 : decode cX6_drawn 163 = .ok (.getfield 41, 3) := by decide +kernel
theorem dX6_drawn_166 : decode cX6_drawn 166 = .ok (.invokestatic 144, 3) := by decide +kernel
theorem dX6_drawn_169 : decode cX6_drawn 169 = .ok (.istore 9, 2) := by decide +kernel
theorem dX6_drawn_171 : decode cX6_drawn 171 = .ok (.aload_n 0, 1) := by decide +kernel
theorem dX6_drawn_172 : decode cX6_drawn 172 = .ok (.aload_n 0, 1) := by decide +kernel
theorem dX6_drawn_173 : decode cX6_drawn 173 = .ok (.getfield 41, 3) := by decide +kernel
theorem dX6_drawn_176 : decode cX6_drawn 176 = .ok (.invokevirtual 140, 3) := by decide +kernel
theorem dX6_drawn_179 : decode cX6_drawn 179 = .ok (.iload 6, 2) := by decide +kernel
theorem dX6_drawn_181 : decode cX6_drawn 181 = .ok (.aload_n 0, 1) := by decide +kernel
theorem dX6_drawn_182 : decode cX6_drawn 182 = .ok (.getfield 41, 3) := by decide +kernel
theorem dX6_drawn_185 : decode cX6_drawn 185 = .ok (.invokestatic 144, 3) := by decide +kernel
theorem dX6_drawn_188 : decode cX6_drawn 188 = .ok (.iload 9, 2) := by decide +kernel
theorem dX6_drawn_190 : decode cX6_drawn 190 = .ok (.isub, 1) := by decide +kernel
theorem dX6_drawn_191 : decode cX6_drawn 191 = .ok (.iadd, 1) := by decide +kernel
theorem dX6_drawn_192 : decode cX6_drawn 192 = .ok (.istore 6, 2) := by decide +kernel
theorem dX6_drawn_194 : decode cX6_drawn 194 = .ok (.iinc 7 1, 3) := by decide +kernel
theorem dX6_drawn_197 : decode cX6_drawn 197 = .ok (.goto (-141), 3) := by decide +kernel
theorem dX6_drawn_200 : decode cX6_drawn 200 = .ok (.iload_n 3, 1) := by decide +kernel
theorem dX6_drawn_201 : decode cX6_drawn 201 = .ok (.ifCond .ne 8, 3) := by decide +kernel
theorem dX6_drawn_204 : decode cX6_drawn 204 = .ok (.iload 6, 2) := by decide +kernel
theorem dX6_drawn_206 : decode cX6_drawn 206 = .ok (.goto 10, 3) := by decide +kernel
theorem dX6_drawn_209 : decode cX6_drawn 209 = .ok (.aload_n 0, 1) := by decide +kernel
theorem dX6_drawn_210 : decode cX6_drawn 210 = .ok (.getfield 41, 3) := by decide +kernel
theorem dX6_drawn_213 : decode cX6_drawn 213 = .ok (.invokestatic 144, 3) := by decide +kernel
theorem dX6_drawn_216 : decode cX6_drawn 216 = .ok (.ireturn, 1) := by decide +kernel
theorem dX6_image_0 : decode cX6_image 0 = .ok (.iload_n 1, 1) := by decide +kernel
theorem dX6_image_1 : decode cX6_image 1 = .ok (.iconst 0, 1) := by decide +kernel
theorem dX6_image_2 : decode cX6_image 2 = .ok (.iconst 1, 1) := by decide +kernel
theorem dX6_image_3 : decode cX6_image 3 = .ok (.invokestatic 50, 3) := by decide +kernel
theorem dX6_image_6 : decode cX6_image 6 = .ok (.ifCond .ne 6, 3) := by decide +kernel
theorem dX6_image_9 : decode cX6_image 9 = .ok (.ldc 65, 2) := by decide +kernel
theorem dX6_image_11 : decode cX6_image 11 = .ok (.ireturn, 1) := by decide +kernel
theorem dX6_image_12 : decode cX6_image 12 = .ok (.aload_n 0, 1) := by decide +kernel
theorem dX6_image_13 : decode cX6_image 13 = .ok (.invokevirtual 133, 3) := by decide +kernel
theorem dX6_image_16 : decode cX6_image 16 = .ok (.ifCond .ne 6, 3) := by decide +kernel
theorem dX6_image_19 : decode cX6_image 19 = .ok (.ldc 136, 2) := by decide +kernel
theorem dX6_image_21 : decode cX6_image 21 = .ok (.ireturn, 1) := by decide +kernel
theorem dX6_image_22 : decode cX6_image 22 = .ok (.iconst 0, 1) := by decide +kernel
theorem dX6_image_23 : decode cX6_image 23 = .ok (.istore_n 2, 1) := by decide +kernel
theorem dX6_image_24 : decode cX6_image 24 = .ok (.iload_n 2, 1) := by decide +kernel
theorem dX6_image_25 : decode cX6_image 25 = .ok (.bipush 25, 2) := by decide +kernel
theorem dX6_image_27 : decode cX6_image 27 = .ok (.if_icmp .ge 26, 3) := by decide +kernel
theorem dX6_image_30 : decode cX6_image 30 = .ok (.aload_n 0, 1) := by decide +kernel
theorem dX6_image_31 : decode cX6_image 31 = .ok (.getfield 31, 3) := by decide +kernel
theorem dX6_image_34 : decode cX6_image 34 = .ok (.bipush 25, 2) := by decide +kernel
theorem dX6_image_36 : decode cX6_image 36 = .ok (.iload_n 1, 1) := by decide +kernel
theorem dX6_image_37 : decode cX6_image 37 = .ok (.imul, 1) := by decide +kernel
theorem dX6_image_38 : decode cX6_image 38 = .ok (.iload_n 2, 1) := by decide +kernel
theorem dX6_image_39 : decode cX6_image 39 = .ok (.iadd, 1) := by decide +kernel
theorem dX6_image_40 : decode cX6_image 40 = .ok (.aload_n 0, 1) := by decide +kernel
theorem dX6_image_41 : decode cX6_image 41 = .ok (.getfield 25, 3) := by decide +kernel
theorem dX6_image_44 : decode cX6_image 44 = .ok (.iload_n 2, 1) := by decide +kernel
theorem dX6_image_45 : decode cX6_image 45 = .ok (.iaload, 1) := by decide +kernel
theorem dX6_image_46 : decode cX6_image 46 = .ok (.iastore, 1) := by decide +kernel
theorem dX6_image_47 : decode cX6_image 47 = .ok (.iinc 2 1, 3) := by decide +kernel
theorem dX6_image_50 : decode cX6_image 50 = .ok (.goto (-26), 3) := by decide +kernel
theorem dX6_image_53 : decode cX6_image 53 = .ok (.aload_n 0, 1) := by decide +kernel
theorem dX6_image_54 : decode cX6_image 54 = .ok (.getfield 34, 3) := by decide +kernel
theorem dX6_image_57 : decode cX6_image 57 = .ok (.iload_n 1, 1) := by decide +kernel
theorem dX6_image_58 : decode cX6_image 58 = .ok (.iconst 1, 1) := by decide +kernel
theorem dX6_image_59 : decode cX6_image 59 = .ok (.bastore, 1) := by decide +kernel
theorem dX6_image_60 : decode cX6_image 60 = .ok (.iconst 1, 1) := by decide +kernel
theorem dX6_image_61 : decode cX6_image 61 = .ok (.ireturn, 1) := by decide +kernel
theorem dX6_restore_0 : decode cX6_restore 0 = .ok (.iload_n 1, 1) := by decide +kernel
theorem dX6_restore_1 : decode cX6_restore 1 = .ok (.iconst 0, 1) := by decide +kernel
theorem dX6_restore_2 : decode cX6_restore 2 = .ok (.iconst 1, 1) := by decide +kernel
theorem dX6_restore_3 : decode cX6_restore 3 = .ok (.invokestatic 50, 3) := by decide +kernel
theorem dX6_restore_6 : decode cX6_restore 6 = .ok (.ifCond .ne 6, 3) := by decide +kernel
theorem dX6_restore_9 : decode cX6_restore 9 = .ok (.ldc 65, 2) := by decide +kernel
theorem dX6_restore_11 : decode cX6_restore 11 = .ok (.ireturn, 1) := by decide +kernel
theorem dX6_restore_12 : decode cX6_restore 12 = .ok (.aload_n 0, 1) := by decide +kernel
theorem dX6_restore_13 : decode cX6_restore 13 = .ok (.getfield 34, 3) := by decide +kernel
theorem dX6_restore_16 : decode cX6_restore 16 = .ok (.iload_n 1, 1) := by decide +kernel
theorem dX6_restore_17 : decode cX6_restore 17 = .ok (.baload, 1) := by decide +kernel
theorem dX6_restore_18 : decode cX6_restore 18 = .ok (.ifCond .ne 6, 3) := by decide +kernel
theorem dX6_restore_21 : decode cX6_restore 21 = .ok (.ldc 136, 2) := by decide +kernel
theorem dX6_restore_23 : decode cX6_restore 23 = .ok (.ireturn, 1) := by decide +kernel
theorem dX6_restore_24 : decode cX6_restore 24 = .ok (.iconst 0, 1) := by decide +kernel
theorem dX6_restore_25 : decode cX6_restore 25 = .ok (.istore_n 2, 1) := by decide +kernel
theorem dX6_restore_26 : decode cX6_restore 26 = .ok (.iload_n 2, 1) := by decide +kernel
theorem dX6_restore_27 : decode cX6_restore 27 = .ok (.bipush 25, 2) := by decide +kernel
theorem dX6_restore_29 : decode cX6_restore 29 = .ok (.if_icmp .ge 26, 3) := by decide +kernel
theorem dX6_restore_32 : decode cX6_restore 32 = .ok (.aload_n 0, 1) := by decide +kernel
theorem dX6_restore_33 : decode cX6_restore 33 = .ok (.getfield 25, 3) := by decide +kernel
theorem dX6_restore_36 : decode cX6_restore 36 = .ok (.iload_n 2, 1) := by decide +kernel
theorem dX6_restore_37 : decode cX6_restore 37 = .ok (.aload_n 0, 1) := by decide +kernel
theorem dX6_restore_38 : decode cX6_restore 38 = .ok (.getfield 31, 3) := by decide +kernel
theorem dX6_restore_41 : decode cX6_restore 41 = .ok (.bipush 25, 2) := by decide +kernel
theorem dX6_restore_43 : decode cX6_restore 43 = .ok (.iload_n 1, 1) := by decide +kernel
theorem dX6_restore_44 : decode cX6_restore 44 = .ok (.imul, 1) := by decide +kernel
theorem dX6_restore_45 : decode cX6_restore 45 = .ok (.iload_n 2, 1) := by decide +kernel
theorem dX6_restore_46 : decode cX6_restore 46 = .ok (.iadd, 1) := by decide +kernel
theorem dX6_restore_47 : decode cX6_restore 47 = .ok (.iaload, 1) := by decide +kernel
theorem dX6_restore_48 : decode cX6_restore 48 = .ok (.iastore, 1) := by decide +kernel
theorem dX6_restore_49 : decode cX6_restore 49 = .ok (.iinc 2 1, 3) := by decide +kernel
theorem dX6_restore_52 : decode cX6_restore 52 = .ok (.goto (-26), 3) := by decide +kernel
theorem dX6_restore_55 : decode cX6_restore 55 = .ok (.aload_n 0, 1) := by decide +kernel
theorem dX6_restore_56 : decode cX6_restore 56 = .ok (.iconst 0, 1) := by decide +kernel
theorem dX6_restore_57 : decode cX6_restore 57 = .ok (.putfield 115, 3) := by decide +kernel
theorem dX6_restore_60 : decode cX6_restore 60 = .ok (.iconst 1, 1) := by decide +kernel
theorem dX6_restore_61 : decode cX6_restore 61 = .ok (.ireturn, 1) := by decide +kernel
theorem dX6_kind_0 : decode cX6_kind 0 = .ok (.aload_n 0, 1) := by decide +kernel
theorem dX6_kind_1 : decode cX6_kind 1 = .ok (.iload_n 1, 1) := by decide +kernel
theorem dX6_kind_2 : decode cX6_kind 2 = .ok (.invokevirtual 148, 3) := by decide +kernel
theorem dX6_kind_5 : decode cX6_kind 5 = .ok (.ifCond .eq 15, 3) := by decide +kernel
theorem dX6_kind_8 : decode cX6_kind 8 = .ok (.aload_n 0, 1) := by decide +kernel
theorem dX6_kind_9 : decode cX6_kind 9 = .ok (.getfield 25, 3) := by decide +kernel
theorem dX6_kind_12 : decode cX6_kind 12 = .ok (.bipush 18, 2) := by decide +kernel
theorem dX6_kind_14 : decode cX6_kind 14 = .ok (.iload_n 1, 1) := by decide +kernel
theorem dX6_kind_15 : decode cX6_kind 15 = .ok (.iadd, 1) := by decide +kernel
theorem dX6_kind_16 : decode cX6_kind 16 = .ok (.iaload, 1) := by decide +kernel
theorem dX6_kind_17 : decode cX6_kind 17 = .ok (.goto 5, 3) := by decide +kernel
theorem dX6_kind_20 : decode cX6_kind 20 = .ok (.ldc 65, 2) := by decide +kernel
theorem dX6_kind_22 : decode cX6_kind 22 = .ok (.ireturn, 1) := by decide +kernel
theorem dX6_as_0 : decode cX6_as 0 = .ok (.aload_n 0, 1) := by decide +kernel
theorem dX6_as_1 : decode cX6_as 1 = .ok (.iload_n 1, 1) := by decide +kernel
theorem dX6_as_2 : decode cX6_as 2 = .ok (.invokevirtual 148, 3) := by decide +kernel
theorem dX6_as_5 : decode cX6_as 5 = .ok (.ifCond .eq 12, 3) := by decide +kernel
theorem dX6_as_8 : decode cX6_as 8 = .ok (.iload_n 2, 1) := by decide +kernel
theorem dX6_as_9 : decode cX6_as 9 = .ok (.iconst 0, 1) := by decide +kernel
theorem dX6_as_10 : decode cX6_as 10 = .ok (.iconst 5, 1) := by decide +kernel
theorem dX6_as_11 : decode cX6_as 11 = .ok (.invokestatic 50, 3) := by decide +kernel
theorem dX6_as_14 : decode cX6_as 14 = .ok (.ifCond .ne 6, 3) := by decide +kernel
theorem dX6_as_17 : decode cX6_as 17 = .ok (.ldc 65, 2) := by decide +kernel
theorem dX6_as_19 : decode cX6_as 19 = .ok (.ireturn, 1) := by decide +kernel
theorem dX6_as_20 : decode cX6_as 20 = .ok (.aload_n 0, 1) := by decide +kernel
theorem dX6_as_21 : decode cX6_as 21 = .ok (.getfield 25, 3) := by decide +kernel
theorem dX6_as_24 : decode cX6_as 24 = .ok (.bipush 18, 2) := by decide +kernel
theorem dX6_as_26 : decode cX6_as 26 = .ok (.iload_n 1, 1) := by decide +kernel
theorem dX6_as_27 : decode cX6_as 27 = .ok (.iadd, 1) := by decide +kernel
theorem dX6_as_28 : decode cX6_as 28 = .ok (.iaload, 1) := by decide +kernel
theorem dX6_as_29 : decode cX6_as 29 = .ok (.istore_n 3, 1) := by decide +kernel
theorem dX6_as_30 : decode cX6_as 30 = .ok (.iload_n 2, 1) := by decide +kernel
theorem dX6_as_31 : decode cX6_as 31 = .ok (.ifCond .eq 28, 3) := by decide +kernel
theorem dX6_as_34 : decode cX6_as 34 = .ok (.iload_n 2, 1) := by decide +kernel
theorem dX6_as_35 : decode cX6_as 35 = .ok (.iload_n 3, 1) := by decide +kernel
theorem dX6_as_36 : decode cX6_as 36 = .ok (.if_icmp .eq 23, 3) := by decide +kernel
theorem dX6_as_39 : decode cX6_as 39 = .ok (.iload_n 2, 1) := by decide +kernel
theorem dX6_as_40 : decode cX6_as 40 = .ok (.iconst 1, 1) := by decide +kernel
theorem dX6_as_41 : decode cX6_as 41 = .ok (.if_icmp .ne 8, 3) := by decide +kernel
theorem dX6_as_44 : decode cX6_as 44 = .ok (.iload_n 3, 1) := by decide +kernel
theorem dX6_as_45 : decode cX6_as 45 = .ok (.iconst 4, 1) := by decide +kernel
theorem dX6_as_46 : decode cX6_as 46 = .ok (.if_icmp .lt 13, 3) := by decide +kernel
theorem dX6_as_49 : decode cX6_as 49 = .ok (.iload_n 2, 1) := by decide +kernel
theorem dX6_as_50 : decode cX6_as 50 = .ok (.iconst 4, 1) := by decide +kernel
theorem dX6_as_51 : decode cX6_as 51 = .ok (.if_icmp .ne 12, 3) := by decide +kernel
theorem dX6_as_54 : decode cX6_as 54 = .ok (.iload_n 3, 1) := by decide +kernel
theorem dX6_as_55 : decode cX6_as 55 = .ok (.iconst 5, 1) := by decide +kernel
theorem dX6_as_56 : decode cX6_as 56 = .ok (.if_icmp .ne 7, 3) := by decide +kernel
theorem dX6_as_59 : decode cX6_as 59 = .ok (.iconst 1, 1) := by decide +kernel
theorem dX6_as_60 : decode cX6_as 60 = .ok (.goto 4, 3) := by decide +kernel
theorem dX6_as_63 : decode cX6_as 63 = .ok (.iconst 0, 1) := by decide +kernel
theorem dX6_as_64 : decode cX6_as 64 = .ok (.istore 4, 2) := by decide +kernel
theorem dX6_as_66 : decode cX6_as 66 = .ok (.aload_n 0, 1) := by decide +kernel
theorem dX6_as_67 : decode cX6_as 67 = .ok (.iload 4, 2) := by decide +kernel
theorem dX6_as_69 : decode cX6_as 69 = .ok (.ifCond .eq 7, 3) := by decide +kernel
theorem dX6_as_72 : decode cX6_as 72 = .ok (.iload_n 1, 1) := by decide +kernel
theorem dX6_as_73 : decode cX6_as 73 = .ok (.goto 5, 3) := by decide +kernel
theorem dX6_as_76 : decode cX6_as 76 = .ok (.ldc 180, 2) := by decide +kernel
theorem dX6_as_78 : decode cX6_as 78 = .ok (.invokevirtual 67, 3) := by decide +kernel
theorem dX6_as_81 : decode cX6_as 81 = .ok (.ireturn, 1) := by decide +kernel
theorem dX6_begins_0 : decode cX6_begins 0 = .ok (.aload_n 0, 1) := by decide +kernel
theorem dX6_begins_1 : decode cX6_begins 1 = .ok (.getfield 181, 3) := by decide +kernel
theorem dX6_begins_4 : decode cX6_begins 4 = .ok (.aload_n 0, 1) := by decide +kernel
theorem dX6_begins_5 : decode cX6_begins 5 = .ok (.getfield 47, 3) := by decide +kernel
theorem dX6_begins_8 : decode cX6_begins 8 = .ok (.arraylength, 1) := by decide +kernel
theorem dX6_begins_9 : decode cX6_begins 9 = .ok (.if_icmp .ge 23, 3) := by decide +kernel
theorem dX6_begins_12 : decode cX6_begins 12 = .ok (.aload_n 0, 1) := by decide +kernel
theorem dX6_begins_13 : decode cX6_begins 13 = .ok (.getfield 47, 3) := by decide +kernel
theorem dX6_begins_16 : decode cX6_begins 16 = .ok (.aload_n 0, 1) := by decide +kernel
theorem dX6_begins_17 : decode cX6_begins 17 = .ok (.getfield 181, 3) := by decide +kernel
theorem dX6_begins_20 : decode cX6_begins 20 = .ok (.iload_n 1, 1) := by decide +kernel
theorem dX6_begins_21 : decode cX6_begins 21 = .ok (.iastore, 1) := by decide +kernel
theorem dX6_begins_22 : decode cX6_begins 22 = .ok (.aload_n 0, 1) := by decide +kernel
theorem dX6_begins_23 : decode cX6_begins 23 = .ok (.dup, 1) := by decide +kernel
theorem dX6_begins_24 : decode cX6_begins 24 = .ok (.getfield 181, 3) := by decide +kernel
theorem dX6_begins_27 : decode cX6_begins 27 = .ok (.iconst 1, 1) := by decide +kernel
theorem dX6_begins_28 : decode cX6_begins 28 = .ok (.iadd, 1) := by decide +kernel
theorem dX6_begins_29 : decode cX6_begins 29 = .ok (.putfield 181, 3) := by decide +kernel
theorem dX6_begins_32 : decode cX6_begins 32 = .ok (.return_, 1) := by decide +kernel
theorem dX6_size_0 : decode cX6_size 0 = .ok (.aload_n 0, 1) := by decide +kernel
theorem dX6_size_1 : decode cX6_size 1 = .ok (.getfield 25, 3) := by decide +kernel
theorem dX6_size_4 : decode cX6_size 4 = .ok (.bipush 18, 2) := by decide +kernel
theorem dX6_size_6 : decode cX6_size 6 = .ok (.iload_n 1, 1) := by decide +kernel
theorem dX6_size_7 : decode cX6_size 7 = .ok (.iadd, 1) := by decide +kernel
theorem dX6_size_8 : decode cX6_size 8 = .ok (.iaload, 1) := by decide +kernel
theorem dX6_size_9 : decode cX6_size 9 = .ok (.istore_n 2, 1) := by decide +kernel
theorem dX6_size_10 : decode cX6_size 10 = .ok (.aload_n 0, 1) := by decide +kernel
theorem dX6_size_11 : decode cX6_size 11 = .ok (.getfield 25, 3) := by decide +kernel
theorem dX6_size_14 : decode cX6_size 14 = .ok (.iconst 2, 1) := by decide +kernel
theorem dX6_size_15 : decode cX6_size 15 = .ok (.iload_n 1, 1) := by decide +kernel
theorem dX6_size_16 : decode cX6_size 16 = .ok (.iadd, 1) := by decide +kernel
theorem dX6_size_17 : decode cX6_size 17 = .ok (.iaload, 1) := by decide +kernel
theorem dX6_size_18 : decode cX6_size 18 = .ok (.istore_n 3, 1) := by decide +kernel
theorem dX6_size_19 : decode cX6_size 19 = .ok (.iload_n 2, 1) := by decide +kernel
theorem dX6_size_20 : decode cX6_size 20 = .ok (.iconst 5, 1) := by decide +kernel
theorem dX6_size_21 : decode cX6_size 21 = .ok (.if_icmp .ne 9, 3) := by decide +kernel
theorem dX6_size_24 : decode cX6_size 24 = .ok (.aload_n 0, 1) := by decide +kernel
theorem dX6_size_25 : decode cX6_size 25 = .ok (.bipush 14, 2) := by decide +kernel
theorem dX6_size_27 : decode cX6_size 27 = .ok (.invokevirtual 184, 3) := by decide +kernel
theorem dX6_size_30 : decode cX6_size 30 = .ok (.iload_n 2, 1) := by decide +kernel
theorem dX6_size_31 : decode cX6_size 31 = .ok (.iconst 4, 1) := by decide +kernel
theorem dX6_size_32 : decode cX6_size 32 = .ok (.if_icmp .lt 34, 3) := by decide +kernel
theorem dX6_size_35 : decode cX6_size 35 = .ok (.aload_n 0, 1) := by decide +kernel
theorem dX6_size_36 : decode cX6_size 36 = .ok (.bipush 13, 2) := by decide +kernel
theorem dX6_size_38 : decode cX6_size 38 = .ok (.invokevirtual 184, 3) := by decide +kernel
theorem dX6_size_41 : decode cX6_size 41 = .ok (.aload_n 0, 1) := by decide +kernel
theorem dX6_size_42 : decode cX6_size 42 = .ok (.bipush 10, 2) := by decide +kernel
theorem dX6_size_44 : decode cX6_size 44 = .ok (.invokevirtual 184, 3) := by decide +kernel
theorem dX6_size_47 : decode cX6_size 47 = .ok (.iload_n 2, 1) := by decide +kernel
theorem dX6_size_48 : decode cX6_size 48 = .ok (.iconst 5, 1) := by decide +kernel
theorem dX6_size_49 : decode cX6_size 49 = .ok (.if_icmp .ne 12, 3) := by decide +kernel
theorem dX6_size_52 : decode cX6_size 52 = .ok (.iconst 2, 1) := by decide +kernel
theorem dX6_size_53 : decode cX6_size 53 = .ok (.iload_n 3, 1) := by decide +kernel
theorem dX6_size_54 : decode cX6_size 54 = .ok (.bipush 100, 2) := by decide +kernel
theorem dX6_size_56 : decode cX6_size 56 = .ok (.isub, 1) := by decide +kernel
theorem dX6_size_57 : decode cX6_size 57 = .ok (.imul, 1) := by decide +kernel
theorem dX6_size_58 : decode cX6_size 58 = .ok (.goto 7, 3) := by decide +kernel
theorem dX6_size_61 : decode cX6_size 61 = .ok (.iload_n 3, 1) := by decide +kernel
theorem dX6_size_62 : decode cX6_size 62 = .ok (.bipush 100, 2) := by decide +kernel
theorem dX6_size_64 : decode cX6_size 64 = .ok (.isub, 1) := by decide +kernel
theorem dX6_size_65 : decode cX6_size 65 = .ok (.ireturn, 1) := by decide +kernel
theorem dX6_size_66 : decode cX6_size 66 = .ok (.iload_n 2, 1) := by decide +kernel
theorem dX6_size_67 : decode cX6_size 67 = .ok (.iconst 2, 1) := by decide +kernel
theorem dX6_size_68 : decode cX6_size 68 = .ok (.if_icmp .ne 9, 3) := by decide +kernel
theorem dX6_size_71 : decode cX6_size 71 = .ok (.aload_n 0, 1) := by decide +kernel
theorem dX6_size_72 : decode cX6_size 72 = .ok (.bipush 12, 2) := by decide +kernel
theorem dX6_size_74 : decode cX6_size 74 = .ok (.invokevirtual 184, 3) := by decide +kernel
theorem dX6_size_77 : decode cX6_size 77 = .ok (.aload_n 0, 1) := by decide +kernel
theorem dX6_size_78 : decode cX6_size 78 = .ok (.bipush 11, 2) := by decide +kernel
theorem dX6_size_80 : decode cX6_size 80 = .ok (.invokevirtual 184, 3) := by decide +kernel
theorem dX6_size_83 : decode cX6_size 83 = .ok (.aload_n 0, 1) := by decide +kernel
theorem dX6_size_84 : decode cX6_size 84 = .ok (.bipush 10, 2) := by decide +kernel
theorem dX6_size_86 : decode cX6_size 86 = .ok (.invokevirtual 184, 3) := by decide +kernel
theorem dX6_size_89 : decode cX6_size 89 = .ok (.iload_n 3, 1) := by decide +kernel
theorem dX6_size_90 : decode cX6_size 90 = .ok (.aload_n 0, 1) := by decide +kernel
theorem dX6_size_91 : decode cX6_size 91 = .ok (.iload_n 1, 1) := by decide +kernel
theorem dX6_size_92 : decode cX6_size 92 = .ok (.invokevirtual 188, 3) := by decide +kernel
theorem dX6_size_95 : decode cX6_size 95 = .ok (.iadd, 1) := by decide +kernel
theorem dX6_size_96 : decode cX6_size 96 = .ok (.istore 4, 2) := by decide +kernel
theorem dX6_size_98 : decode cX6_size 98 = .ok (.iload_n 2, 1) := by decide +kernel
theorem dX6_size_99 : decode cX6_size 99 = .ok (.iconst 2, 1) := by decide +kernel
theorem dX6_size_100 : decode cX6_size 100 = .ok (.if_icmp .ne 9, 3) := by decide +kernel
theorem dX6_size_103 : decode cX6_size 103 = .ok (.iload 4, 2) := by decide +kernel
theorem dX6_size_105 : decode cX6_size 105 = .ok (.ineg, 1) := by decide +kernel
theorem dX6_size_106 : decode cX6_size 106 = .ok (.goto 5, 3) := by decide +kernel
theorem dX6_size_109 : decode cX6_size 109 = .ok (.iload 4, 2) := by decide +kernel
theorem dX6_size_111 : decode cX6_size 111 = .ok (.ireturn, 1) := by decide +kernel
theorem dX6_stands_0 : decode cX6_stands 0 = .ok (.aload_n 0, 1) := by decide +kernel
theorem dX6_stands_1 : decode cX6_stands 1 = .ok (.getfield 25, 3) := by decide +kernel
theorem dX6_stands_4 : decode cX6_stands 4 = .ok (.bipush 18, 2) := by decide +kernel
theorem dX6_stands_6 : decode cX6_stands 6 = .ok (.iload_n 1, 1) := by decide +kernel
theorem dX6_stands_7 : decode cX6_stands 7 = .ok (.iadd, 1) := by decide +kernel
theorem dX6_stands_8 : decode cX6_stands 8 = .ok (.iaload, 1) := by decide +kernel
theorem dX6_stands_9 : decode cX6_stands 9 = .ok (.istore_n 2, 1) := by decide +kernel
theorem dX6_stands_10 : decode cX6_stands 10 = .ok (.iload_n 2, 1) := by decide +kernel
theorem dX6_stands_11 : decode cX6_stands 11 = .ok (.iconst 1, 1) := by decide +kernel
theorem dX6_stands_12 : decode cX6_stands 12 = .ok (.if_icmp .eq 19, 3) := by decide +kernel
theorem dX6_stands_15 : decode cX6_stands 15 = .ok (.aload_n 0, 1) := by decide +kernel
theorem dX6_stands_16 : decode cX6_stands 16 = .ok (.iload_n 2, 1) := by decide +kernel
theorem dX6_stands_17 : decode cX6_stands 17 = .ok (.iconst 2, 1) := by decide +kernel
theorem dX6_stands_18 : decode cX6_stands 18 = .ok (.if_icmp .ne 8, 3) := by decide +kernel
theorem dX6_stands_21 : decode cX6_stands 21 = .ok (.bipush 24, 2) := by decide +kernel
theorem dX6_stands_23 : decode cX6_stands 23 = .ok (.goto 5, 3) := by decide +kernel
theorem dX6_stands_26 : decode cX6_stands 26 = .ok (.bipush 22, 2) := by decide +kernel
theorem dX6_stands_28 : decode cX6_stands 28 = .ok (.invokevirtual 184, 3) := by decide +kernel
theorem dX6_stands_31 : decode cX6_stands 31 = .ok (.aload_n 0, 1) := by decide +kernel
theorem dX6_stands_32 : decode cX6_stands 32 = .ok (.bipush 21, 2) := by decide +kernel
theorem dX6_stands_34 : decode cX6_stands 34 = .ok (.invokevirtual 184, 3) := by decide +kernel
theorem dX6_stands_37 : decode cX6_stands 37 = .ok (.aload_n 0, 1) := by decide +kernel
theorem dX6_stands_38 : decode cX6_stands 38 = .ok (.bipush 20, 2) := by decide +kernel
theorem dX6_stands_40 : decode cX6_stands 40 = .ok (.invokevirtual 184, 3) := by decide +kernel
theorem dX6_stands_43 : decode cX6_stands 43 = .ok (.iload_n 1, 1) := by decide +kernel
theorem dX6_stands_44 : decode cX6_stands 44 = .ok (.aload_n 0, 1) := by decide +kernel
theorem dX6_stands_45 : decode cX6_stands 45 = .ok (.getfield 25, 3) := by decide +kernel
theorem dX6_stands_48 : decode cX6_stands 48 = .ok (.bipush 9, 2) := by decide +kernel
theorem dX6_stands_50 : decode cX6_stands 50 = .ok (.iload_n 1, 1) := by decide +kernel
theorem dX6_stands_51 : decode cX6_stands 51 = .ok (.iadd, 1) := by decide +kernel
theorem dX6_stands_52 : decode cX6_stands 52 = .ok (.iaload, 1) := by decide +kernel
theorem dX6_stands_53 : decode cX6_stands 53 = .ok (.iadd, 1) := by decide +kernel
theorem dX6_stands_54 : decode cX6_stands 54 = .ok (.istore_n 3, 1) := by decide +kernel
theorem dX6_stands_55 : decode cX6_stands 55 = .ok (.iload_n 2, 1) := by decide +kernel
theorem dX6_stands_56 : decode cX6_stands 56 = .ok (.iconst 2, 1) := by decide +kernel
theorem dX6_stands_57 : decode cX6_stands 57 = .ok (.if_icmp .ne 9, 3) := by decide +kernel
theorem dX6_stands_60 : decode cX6_stands 60 = .ok (.iconst 2, 1) := by decide +kernel
theorem dX6_stands_61 : decode cX6_stands 61 = .ok (.iload_n 3, 1) := by decide +kernel
theorem dX6_stands_62 : decode cX6_stands 62 = .ok (.imul, 1) := by decide +kernel
theorem dX6_stands_63 : decode cX6_stands 63 = .ok (.goto 17, 3) := by decide +kernel
theorem dX6_stands_66 : decode cX6_stands 66 = .ok (.iload_n 2, 1) := by decide +kernel
theorem dX6_stands_67 : decode cX6_stands 67 = .ok (.iconst 3, 1) := by decide +kernel
theorem dX6_stands_68 : decode cX6_stands 68 = .ok (.if_icmp .ne 11, 3) := by decide +kernel
theorem dX6_stands_71 : decode cX6_stands 71 = .ok (.iload_n 3, 1) := by decide +kernel
theorem dX6_stands_72 : decode cX6_stands 72 = .ok (.sipush 1000, 3) := by decide +kernel
theorem dX6_stands_75 : decode cX6_stands 75 = .ok (.isub, 1) := by decide +kernel
theorem dX6_stands_76 : decode cX6_stands 76 = .ok (.goto 4, 3) := by decide +kernel
theorem dX6_stands_79 : decode cX6_stands 79 = .ok (.iload_n 3, 1) := by decide +kernel
theorem dX6_stands_80 : decode cX6_stands 80 = .ok (.ireturn, 1) := by decide +kernel
theorem dX6_ask_0 : decode cX6_ask 0 = .ok (.aload_n 0, 1) := by decide +kernel
theorem dX6_ask_1 : decode cX6_ask 1 = .ok (.iload_n 1, 1) := by decide +kernel
theorem dX6_ask_2 : decode cX6_ask 2 = .ok (.invokevirtual 148, 3) := by decide +kernel
theorem dX6_ask_5 : decode cX6_ask 5 = .ok (.ifCond .eq 12, 3) := by decide +kernel
theorem dX6_ask_8 : decode cX6_ask 8 = .ok (.iload_n 2, 1) := by decide +kernel
theorem dX6_ask_9 : decode cX6_ask 9 = .ok (.iconst 0, 1) := by decide +kernel
theorem dX6_ask_10 : decode cX6_ask 10 = .ok (.iconst 1, 1) := by decide +kernel
theorem dX6_ask_11 : decode cX6_ask 11 = .ok (.invokestatic 50, 3) := by decide +kernel
theorem dX6_ask_14 : decode cX6_ask 14 = .ok (.ifCond .ne 6, 3) := by decide +kernel
theorem dX6_ask_17 : decode cX6_ask 17 = .ok (.ldc 65, 2) := by decide +kernel
theorem dX6_ask_19 : decode cX6_ask 19 = .ok (.ireturn, 1) := by decide +kernel
theorem dX6_ask_20 : decode cX6_ask 20 = .ok (.aload_n 0, 1) := by decide +kernel
theorem dX6_ask_21 : decode cX6_ask 21 = .ok (.iconst 0, 1) := by decide +kernel
theorem dX6_ask_22 : decode cX6_ask 22 = .ok (.putfield 181, 3) := by decide +kernel
theorem dX6_ask_25 : decode cX6_ask 25 = .ok (.iload_n 2, 1) := by decide +kernel
theorem dX6_ask_26 : decode cX6_ask 26 = .ok (.ifCond .ne 9, 3) := by decide +kernel
theorem dX6_ask_29 : decode cX6_ask 29 = .ok (.aload_n 0, 1) := by decide +kernel
theorem dX6_ask_30 : decode cX6_ask 30 = .ok (.iload_n 1, 1) := by decide +kernel
theorem dX6_ask_31 : decode cX6_ask 31 = .ok (.invokevirtual 191, 3) := by decide +kernel
theorem dX6_ask_34 : decode cX6_ask 34 = .ok (.ireturn, 1) := by decide +kernel
theorem dX6_ask_35 : decode cX6_ask 35 = .ok (.aload_n 0, 1) := by decide +kernel
theorem dX6_ask_36 : decode cX6_ask 36 = .ok (.getfield 25, 3) := by decide +kernel
theorem dX6_ask_39 : decode cX6_ask 39 = .ok (.bipush 18, 2) := by decide +kernel
theorem dX6_ask_41 : decode cX6_ask 41 = .ok (.iload_n 1, 1) := by decide +kernel
theorem dX6_ask_42 : decode cX6_ask 42 = .ok (.iadd, 1) := by decide +kernel
theorem dX6_ask_43 : decode cX6_ask 43 = .ok (.iaload, 1) := by decide +kernel
theorem dX6_ask_44 : decode cX6_ask 44 = .ok (.iconst 4, 1) := by decide +kernel
theorem dX6_ask_45 : decode cX6_ask 45 = .ok (.if_icmp .ge 9, 3) := by decide +kernel
theorem dX6_ask_48 : decode cX6_ask 48 = .ok (.aload_n 0, 1) := by decide +kernel
theorem dX6_ask_49 : decode cX6_ask 49 = .ok (.iload_n 1, 1) := by decide +kernel
theorem dX6_ask_50 : decode cX6_ask 50 = .ok (.invokevirtual 188, 3) := by decide +kernel
theorem dX6_ask_53 : decode cX6_ask 53 = .ok (.ireturn, 1) := by decide +kernel
theorem dX6_ask_54 : decode cX6_ask 54 = .ok (.aload_n 0, 1) := by decide +kernel
theorem dX6_ask_55 : decode cX6_ask 55 = .ok (.bipush 23, 2) := by decide +kernel
theorem dX6_ask_57 : decode cX6_ask 57 = .ok (.invokevirtual 184, 3) := by decide +kernel
theorem dX6_ask_60 : decode cX6_ask 60 = .ok (.aload_n 0, 1) := by decide +kernel
theorem dX6_ask_61 : decode cX6_ask 61 = .ok (.bipush 20, 2) := by decide +kernel
theorem dX6_ask_63 : decode cX6_ask 63 = .ok (.invokevirtual 184, 3) := by decide +kernel
theorem dX6_ask_66 : decode cX6_ask 66 = .ok (.iload_n 1, 1) := by decide +kernel
theorem dX6_ask_67 : decode cX6_ask 67 = .ok (.aload_n 0, 1) := by decide +kernel
theorem dX6_ask_68 : decode cX6_ask 68 = .ok (.iload_n 1, 1) := by decide +kernel
theorem dX6_ask_69 : decode cX6_ask 69 = .ok (.invokevirtual 191, 3) := by decide +kernel
theorem dX6_ask_72 : decode cX6_ask 72 = .ok (.isub, 1) := by decide +kernel
theorem dX6_ask_73 : decode cX6_ask 73 = .ok (.ireturn, 1) := by decide +kernel
theorem dX6_trace_0 : decode cX6_trace 0 = .ok (.iload_n 1, 1) := by decide +kernel
theorem dX6_trace_1 : decode cX6_trace 1 = .ok (.iconst 0, 1) := by decide +kernel
theorem dX6_trace_2 : decode cX6_trace 2 = .ok (.aload_n 0, 1) := by decide +kernel
theorem dX6_trace_3 : decode cX6_trace 3 = .ok (.getfield 181, 3) := by decide +kernel
theorem dX6_trace_6 : decode cX6_trace 6 = .ok (.iconst 1, 1) := by decide +kernel
theorem dX6_trace_7 : decode cX6_trace 7 = .ok (.isub, 1) := by decide +kernel
theorem dX6_trace_8 : decode cX6_trace 8 = .ok (.invokestatic 50, 3) := by decide +kernel
theorem dX6_trace_11 : decode cX6_trace 11 = .ok (.ifCond .eq 12, 3) := by decide +kernel
theorem dX6_trace_14 : decode cX6_trace 14 = .ok (.aload_n 0, 1) := by decide +kernel
theorem dX6_trace_15 : decode cX6_trace 15 = .ok (.getfield 47, 3) := by decide +kernel
theorem dX6_trace_18 : decode cX6_trace 18 = .ok (.iload_n 1, 1) := by decide +kernel
theorem dX6_trace_19 : decode cX6_trace 19 = .ok (.iaload, 1) := by decide +kernel
theorem dX6_trace_20 : decode cX6_trace 20 = .ok (.goto 5, 3) := by decide +kernel
theorem dX6_trace_23 : decode cX6_trace 23 = .ok (.ldc 154, 2) := by decide +kernel
theorem dX6_trace_25 : decode cX6_trace 25 = .ok (.ireturn, 1) := by decide +kernel
theorem dX6_count_0 : decode cX6_count 0 = .ok (.iconst 0, 1) := by decide +kernel
theorem dX6_count_1 : decode cX6_count 1 = .ok (.istore_n 2, 1) := by decide +kernel
theorem dX6_count_2 : decode cX6_count 2 = .ok (.iload_n 1, 1) := by decide +kernel
theorem dX6_count_3 : decode cX6_count 3 = .ok (.tableswitch 218 0 9 #[53, 86, 94, 102, 109, 116, 157, 200, 208, 213], 53) := by decide +kernel
theorem dX6_count_56 : decode cX6_count 56 = .ok (.iconst 0, 1) := by decide +kernel
theorem dX6_count_57 : decode cX6_count 57 = .ok (.istore_n 3, 1) := by decide +kernel
theorem dX6_count_58 : decode cX6_count 58 = .ok (.iload_n 3, 1) := by decide +kernel
theorem dX6_count_59 : decode cX6_count 59 = .ok (.bipush 8, 2) := by decide +kernel
theorem dX6_count_61 : decode cX6_count 61 = .ok (.if_icmp .ge 26, 3) := by decide +kernel
theorem dX6_count_64 : decode cX6_count 64 = .ok (.iload_n 2, 1) := by decide +kernel
theorem dX6_count_65 : decode cX6_count 65 = .ok (.aload_n 0, 1) := by decide +kernel
theorem dX6_count_66 : decode cX6_count 66 = .ok (.getfield 7, 3) := by decide +kernel
theorem dX6_count_69 : decode cX6_count 69 = .ok (.iload_n 3, 1) := by decide +kernel
theorem dX6_count_70 : decode cX6_count 70 = .ok (.iaload, 1) := by decide +kernel
theorem dX6_count_71 : decode cX6_count 71 = .ok (.ifCond .ge 7, 3) := by decide +kernel
theorem dX6_count_74 : decode cX6_count 74 = .ok (.iconst 0, 1) := by decide +kernel
theorem dX6_count_75 : decode cX6_count 75 = .ok (.goto 4, 3) := by decide +kernel
theorem dX6_count_78 : decode cX6_count 78 = .ok (.iconst 1, 1) := by decide +kernel
theorem dX6_count_79 : decode cX6_count 79 = .ok (.iadd, 1) := by decide +kernel
theorem dX6_count_80 : decode cX6_count 80 = .ok (.istore_n 2, 1) := by decide +kernel
theorem dX6_count_81 : decode cX6_count 81 = .ok (.iinc 3 1, 3) := by decide +kernel
theorem dX6_count_84 : decode cX6_count 84 = .ok (.goto (-26), 3) := by decide +kernel
theorem dX6_count_87 : decode cX6_count 87 = .ok (.iload_n 2, 1) := by decide +kernel
theorem dX6_count_88 : decode cX6_count 88 = .ok (.ireturn, 1) := by decide +kernel
theorem dX6_count_89 : decode cX6_count 89 = .ok (.aload_n 0, 1) := by decide +kernel
theorem dX6_count_90 : decode cX6_count 90 = .ok (.getfield 25, 3) := by decide +kernel
theorem dX6_count_93 : decode cX6_count 93 = .ok (.bipush 17, 2) := by decide +kernel
theorem dX6_count_95 : decode cX6_count 95 = .ok (.iaload, 1) := by decide +kernel
theorem dX6_count_96 : decode cX6_count 96 = .ok (.ireturn, 1) := by decide +kernel
theorem dX6_count_97 : decode cX6_count 97 = .ok (.aload_n 0, 1) := by decide +kernel
theorem dX6_count_98 : decode cX6_count 98 = .ok (.getfield 25, 3) := by decide +kernel
theorem dX6_count_101 : decode cX6_count 101 = .ok (.bipush 16, 2) := by decide +kernel
theorem dX6_count_103 : decode cX6_count 103 = .ok (.iaload, 1) := by decide +kernel
theorem dX6_count_104 : decode cX6_count 104 = .ok (.ireturn, 1) := by decide +kernel
theorem dX6_count_105 : decode cX6_count 105 = .ok (.aload_n 0, 1) := by decide +kernel
theorem dX6_count_106 : decode cX6_count 106 = .ok (.getfield 25, 3) := by decide +kernel
theorem dX6_count_109 : decode cX6_count 109 = .ok (.iconst 0, 1) := by decide +kernel
theorem dX6_count_110 : decode cX6_count 110 = .ok (.iaload, 1) := by decide +kernel
theorem dX6_count_111 : decode cX6_count 111 = .ok (.ireturn, 1) := by decide +kernel
theorem dX6_count_112 : decode cX6_count 112 = .ok (.aload_n 0, 1) := by decide +kernel
theorem dX6_count_113 : decode cX6_count 113 = .ok (.getfield 25, 3) := by decide +kernel
theorem dX6_count_116 : decode cX6_count 116 = .ok (.iconst 1, 1) := by decide +kernel
theorem dX6_count_117 : decode cX6_count 117 = .ok (.iaload, 1) := by decide +kernel
theorem dX6_count_118 : decode cX6_count 118 = .ok (.ireturn, 1) := by decide +kernel
theorem dX6_count_119 : decode cX6_count 119 = .ok (.iconst 0, 1) := by decide +kernel
theorem dX6_count_120 : decode cX6_count 120 = .ok (.istore_n 3, 1) := by decide +kernel
theorem dX6_count_121 : decode cX6_count 121 = .ok (.iload_n 3, 1) := by decide +kernel
theorem dX6_count_122 : decode cX6_count 122 = .ok (.aload_n 0, 1) := by decide +kernel
theorem dX6_count_123 : decode cX6_count 123 = .ok (.getfield 25, 3) := by decide +kernel
theorem dX6_count_126 : decode cX6_count 126 = .ok (.bipush 17, 2) := by decide +kernel
theorem dX6_count_128 : decode cX6_count 128 = .ok (.iaload, 1) := by decide +kernel
theorem dX6_count_129 : decode cX6_count 129 = .ok (.if_icmp .ge 29, 3) := by decide +kernel
theorem dX6_count_132 : decode cX6_count 132 = .ok (.iload_n 2, 1) := by decide +kernel
theorem dX6_count_133 : decode cX6_count 133 = .ok (.aload_n 0, 1) := by decide +kernel
theorem dX6_count_134 : decode cX6_count 134 = .ok (.getfield 25, 3) := by decide +kernel
theorem dX6_count_137 : decode cX6_count 137 = .ok (.iconst 2, 1) := by decide +kernel
theorem dX6_count_138 : decode cX6_count 138 = .ok (.iload_n 3, 1) := by decide +kernel
theorem dX6_count_139 : decode cX6_count 139 = .ok (.iadd, 1) := by decide +kernel
theorem dX6_count_140 : decode cX6_count 140 = .ok (.iaload, 1) := by decide +kernel
theorem dX6_count_141 : decode cX6_count 141 = .ok (.iconst (-1), 1) := by decide +kernel
theorem dX6_count_142 : decode cX6_count 142 = .ok (.if_icmp .ne 7, 3) := by decide +kernel
theorem dX6_count_145 : decode cX6_count 145 = .ok (.iconst 1, 1) := by decide +kernel
theorem dX6_count_146 : decode cX6_count 146 = .ok (.goto 4, 3) := by decide +kernel
theorem dX6_count_149 : decode cX6_count 149 = .ok (.iconst 0, 1) := by decide +kernel
theorem dX6_count_150 : decode cX6_count 150 = .ok (.iadd, 1) := by decide +kernel
theorem dX6_count_151 : decode cX6_count 151 = .ok (.istore_n 2, 1) := by decide +kernel
theorem dX6_count_152 : decode cX6_count 152 = .ok (.iinc 3 1, 3) := by decide +kernel
theorem dX6_count_155 : decode cX6_count 155 = .ok (.goto (-34), 3) := by decide +kernel
theorem dX6_count_158 : decode cX6_count 158 = .ok (.iload_n 2, 1) := by decide +kernel
theorem dX6_count_159 : decode cX6_count 159 = .ok (.ireturn, 1) := by decide +kernel
theorem dX6_count_160 : decode cX6_count 160 = .ok (.iconst 0, 1) := by decide +kernel
theorem dX6_count_161 : decode cX6_count 161 = .ok (.istore_n 3, 1) := by decide +kernel
theorem dX6_count_162 : decode cX6_count 162 = .ok (.iload_n 3, 1) := by decide +kernel
theorem dX6_count_163 : decode cX6_count 163 = .ok (.aload_n 0, 1) := by decide +kernel
theorem dX6_count_164 : decode cX6_count 164 = .ok (.getfield 25, 3) := by decide +kernel
theorem dX6_count_167 : decode cX6_count 167 = .ok (.bipush 17, 2) := by decide +kernel
theorem dX6_count_169 : decode cX6_count 169 = .ok (.iaload, 1) := by decide +kernel
theorem dX6_count_170 : decode cX6_count 170 = .ok (.if_icmp .ge 31, 3) := by decide +kernel
theorem dX6_count_173 : decode cX6_count 173 = .ok (.iload_n 2, 1) := by decide +kernel
theorem dX6_count_174 : decode cX6_count 174 = .ok (.aload_n 0, 1) := by decide +kernel
theorem dX6_count_175 : decode cX6_count 175 = .ok (.getfield 25, 3) := by decide +kernel
theorem dX6_count_178 : decode cX6_count 178 = .ok (.iconst 2, 1) := by decide +kernel
theorem dX6_count_179 : decode cX6_count 179 = .ok (.iload_n 3, 1) := by decide +kernel
theorem dX6_count_180 : decode cX6_count 180 = .ok (.iadd, 1) := by decide +kernel
theorem dX6_count_181 : decode cX6_count 181 = .ok (.iaload, 1) := by decide +kernel
theorem dX6_count_182 : decode cX6_count 182 = .ok (.invokestatic 130, 3) := by decide +kernel
theorem dX6_count_185 : decode cX6_count 185 = .ok (.ifCond .eq 7, 3) := by decide +kernel
theorem dX6_count_188 : decode cX6_count 188 = .ok (.iconst 1, 1) := by decide +kernel
theorem dX6_count_189 : decode cX6_count 189 = .ok (.goto 4, 3) := by decide +kernel
theorem dX6_count_192 : decode cX6_count 192 = .ok (.iconst 0, 1) := by decide +kernel
theorem dX6_count_193 : decode cX6_count 193 = .ok (.iadd, 1) := by decide +kernel
theorem dX6_count_194 : decode cX6_count 194 = .ok (.istore_n 2, 1) := by decide +kernel
theorem dX6_count_195 : decode cX6_count 195 = .ok (.iinc 3 1, 3) := by decide +kernel
theorem dX6_count_198 : decode cX6_count 198 = .ok (.goto (-36), 3) := by decide +kernel
theorem dX6_count_201 : decode cX6_count 201 = .ok (.iload_n 2, 1) := by decide +kernel
theorem dX6_count_202 : decode cX6_count 202 = .ok (.ireturn, 1) := by decide +kernel
theorem dX6_count_203 : decode cX6_count 203 = .ok (.aload_n 0, 1) := by decide +kernel
theorem dX6_count_204 : decode cX6_count 204 = .ok (.getfield 25, 3) := by decide +kernel
theorem dX6_count_207 : decode cX6_count 207 = .ok (.invokestatic 144, 3) := by decide +kernel
theorem dX6_count_210 : decode cX6_count 210 = .ok (.ireturn, 1) := by decide +kernel
theorem dX6_count_211 : decode cX6_count 211 = .ok (.aload_n 0, 1) := by decide +kernel
theorem dX6_count_212 : decode cX6_count 212 = .ok (.getfield 115, 3) := by decide +kernel
theorem dX6_count_215 : decode cX6_count 215 = .ok (.ireturn, 1) := by decide +kernel
theorem dX6_count_216 : decode cX6_count 216 = .ok (.aload_n 0, 1) := by decide +kernel
theorem dX6_count_217 : decode cX6_count 217 = .ok (.getfield 79, 3) := by decide +kernel
theorem dX6_count_220 : decode cX6_count 220 = .ok (.ireturn, 1) := by decide +kernel
theorem dX6_count_221 : decode cX6_count 221 = .ok (.ldc 65, 2) := by decide +kernel
theorem dX6_count_223 : decode cX6_count 223 = .ok (.ireturn, 1) := by decide +kernel
theorem dX6_status_0 : decode cX6_status 0 = .ok (.aload_n 0, 1) := by decide +kernel
theorem dX6_status_1 : decode cX6_status 1 = .ok (.getfield 57, 3) := by decide +kernel
theorem dX6_status_4 : decode cX6_status 4 = .ok (.ireturn, 1) := by decide +kernel
theorem dJ6_bitCount_0f7a4_0 : decode cJ6_bitCount_0f7a4 0 = .ok (.iload_n 0, 1) := by decide +kernel
theorem dJ6_bitCount_0f7a4_1 : decode cJ6_bitCount_0f7a4 1 = .ok (.iload_n 0, 1) := by decide +kernel
theorem dJ6_bitCount_0f7a4_2 : decode cJ6_bitCount_0f7a4 2 = .ok (.iconst 1, 1) := by decide +kernel
theorem dJ6_bitCount_0f7a4_3 : decode cJ6_bitCount_0f7a4 3 = .ok (.iushr, 1) := by decide +kernel
end
section
theorem dJ6_bitCount_0f7a4_4 : decode cJ6_bitCount_0f7a4 4 = .ok (.ldc_w 265, 3) := by decide +kernel
theorem dJ6_bitCount_0f7a4_7 : decode cJ6_bitCount_0f7a4 7 = .ok (.iand, 1) := by decide +kernel
theorem dJ6_bitCount_0f7a4_8 : decode cJ6_bitCount_0f7a4 8 = .ok (.isub, 1) := by decide +kernel
theorem dJ6_bitCount_0f7a4_9 : decode cJ6_bitCount_0f7a4 9 = .ok (.istore_n 0, 1) := by decide +kernel
theorem dJ6_bitCount_0f7a4_10 : decode cJ6_bitCount_0f7a4 10 = .ok (.iload_n 0, 1) := by decide +kernel
theorem dJ6_bitCount_0f7a4_11 : decode cJ6_bitCount_0f7a4 11 = .ok (.ldc_w 266, 3) := by decide +kernel
theorem dJ6_bitCount_0f7a4_14 : decode cJ6_bitCount_0f7a4 14 = .ok (.iand, 1) := by decide +kernel
theorem dJ6_bitCount_0f7a4_15 : decode cJ6_bitCount_0f7a4 15 = .ok (.iload_n 0, 1) := by decide +kernel
theorem dJ6_bitCount_0f7a4_16 : decode cJ6_bitCount_0f7a4 16 = .ok (.iconst 2, 1) := by decide +kernel
theorem dJ6_bitCount_0f7a4_17 : decode cJ6_bitCount_0f7a4 17 = .ok (.iushr, 1) := by decide +kernel
theorem dJ6_bitCount_0f7a4_18 : decode cJ6_bitCount_0f7a4 18 = .ok (.ldc_w 266, 3) := by decide +kernel
theorem dJ6_bitCount_0f7a4_21 : decode cJ6_bitCount_0f7a4 21 = .ok (.iand, 1) := by decide +kernel
theorem dJ6_bitCount_0f7a4_22 : decode cJ6_bitCount_0f7a4 22 = .ok (.iadd, 1) := by decide +kernel
theorem dJ6_bitCount_0f7a4_23 : decode cJ6_bitCount_0f7a4 23 = .ok (.istore_n 0, 1) := by decide +kernel
theorem dJ6_bitCount_0f7a4_24 : decode cJ6_bitCount_0f7a4 24 = .ok (.iload_n 0, 1) := by decide +kernel
theorem dJ6_bitCount_0f7a4_25 : decode cJ6_bitCount_0f7a4 25 = .ok (.iload_n 0, 1) := by decide +kernel
theorem dJ6_bitCount_0f7a4_26 : decode cJ6_bitCount_0f7a4 26 = .ok (.iconst 4, 1) := by decide +kernel
theorem dJ6_bitCount_0f7a4_27 : decode cJ6_bitCount_0f7a4 27 = .ok (.iushr, 1) := by decide +kernel
theorem dJ6_bitCount_0f7a4_28 : decode cJ6_bitCount_0f7a4 28 = .ok (.iadd, 1) := by decide +kernel
theorem dJ6_bitCount_0f7a4_29 : decode cJ6_bitCount_0f7a4 29 = .ok (.ldc_w 267, 3) := by decide +kernel
theorem dJ6_bitCount_0f7a4_32 : decode cJ6_bitCount_0f7a4 32 = .ok (.iand, 1) := by decide +kernel
theorem dJ6_bitCount_0f7a4_33 : decode cJ6_bitCount_0f7a4 33 = .ok (.istore_n 0, 1) := by decide +kernel
theorem dJ6_bitCount_0f7a4_34 : decode cJ6_bitCount_0f7a4 34 = .ok (.iload_n 0, 1) := by decide +kernel
theorem dJ6_bitCount_0f7a4_35 : decode cJ6_bitCount_0f7a4 35 = .ok (.iload_n 0, 1) := by decide +kernel
theorem dJ6_bitCount_0f7a4_36 : decode cJ6_bitCount_0f7a4 36 = .ok (.bipush 8, 2) := by decide +kernel
theorem dJ6_bitCount_0f7a4_38 : decode cJ6_bitCount_0f7a4 38 = .ok (.iushr, 1) := by decide +kernel
theorem dJ6_bitCount_0f7a4_39 : decode cJ6_bitCount_0f7a4 39 = .ok (.iadd, 1) := by decide +kernel
theorem dJ6_bitCount_0f7a4_40 : decode cJ6_bitCount_0f7a4 40 = .ok (.istore_n 0, 1) := by decide +kernel
theorem dJ6_bitCount_0f7a4_41 : decode cJ6_bitCount_0f7a4 41 = .ok (.iload_n 0, 1) := by decide +kernel
theorem dJ6_bitCount_0f7a4_42 : decode cJ6_bitCount_0f7a4 42 = .ok (.iload_n 0, 1) := by decide +kernel
theorem dJ6_bitCount_0f7a4_43 : decode cJ6_bitCount_0f7a4 43 = .ok (.bipush 16, 2) := by decide +kernel
theorem dJ6_bitCount_0f7a4_45 : decode cJ6_bitCount_0f7a4 45 = .ok (.iushr, 1) := by decide +kernel
theorem dJ6_bitCount_0f7a4_46 : decode cJ6_bitCount_0f7a4 46 = .ok (.iadd, 1) := by decide +kernel
theorem dJ6_bitCount_0f7a4_47 : decode cJ6_bitCount_0f7a4 47 = .ok (.istore_n 0, 1) := by decide +kernel
theorem dJ6_bitCount_0f7a4_48 : decode cJ6_bitCount_0f7a4 48 = .ok (.iload_n 0, 1) := by decide +kernel
theorem dJ6_bitCount_0f7a4_49 : decode cJ6_bitCount_0f7a4 49 = .ok (.bipush 63, 2) := by decide +kernel
theorem dJ6_bitCount_0f7a4_51 : decode cJ6_bitCount_0f7a4 51 = .ok (.iand, 1) := by decide +kernel
theorem dJ6_bitCount_0f7a4_52 : decode cJ6_bitCount_0f7a4 52 = .ok (.ireturn, 1) := by decide +kernel
theorem dJ9_max_7cf53_0 : decode cJ9_max_7cf53 0 = .ok (.iload_n 0, 1) := by decide +kernel
theorem dJ9_max_7cf53_1 : decode cJ9_max_7cf53 1 = .ok (.iload_n 1, 1) := by decide +kernel
theorem dJ9_max_7cf53_2 : decode cJ9_max_7cf53 2 = .ok (.if_icmp .lt 7, 3) := by decide +kernel
theorem dJ9_max_7cf53_5 : decode cJ9_max_7cf53 5 = .ok (.iload_n 0, 1) := by decide +kernel
theorem dJ9_max_7cf53_6 : decode cJ9_max_7cf53 6 = .ok (.goto 4, 3) := by decide +kernel
theorem dJ9_max_7cf53_9 : decode cJ9_max_7cf53 9 = .ok (.iload_n 1, 1) := by decide +kernel
theorem dJ9_max_7cf53_10 : decode cJ9_max_7cf53 10 = .ok (.ireturn, 1) := by decide +kernel
theorem dJ9_min_7cf53_0 : decode cJ9_min_7cf53 0 = .ok (.iload_n 0, 1) := by decide +kernel
theorem dJ9_min_7cf53_1 : decode cJ9_min_7cf53 1 = .ok (.iload_n 1, 1) := by decide +kernel
theorem dJ9_min_7cf53_2 : decode cJ9_min_7cf53 2 = .ok (.if_icmp .gt 7, 3) := by decide +kernel
theorem dJ9_min_7cf53_5 : decode cJ9_min_7cf53 5 = .ok (.iload_n 0, 1) := by decide +kernel
theorem dJ9_min_7cf53_6 : decode cJ9_min_7cf53 6 = .ok (.goto 4, 3) := by decide +kernel
theorem dJ9_min_7cf53_9 : decode cJ9_min_7cf53 9 = .ok (.iload_n 1, 1) := by decide +kernel
theorem dJ9_min_7cf53_10 : decode cJ9_min_7cf53 10 = .ok (.ireturn, 1) := by decide +kernel
theorem dL_law_0 : decode cL_law 0 = .ok (.new 7, 3) := by decide +kernel
theorem dL_law_3 : decode cL_law 3 = .ok (.dup, 1) := by decide +kernel
theorem dL_law_4 : decode cL_law 4 = .ok (.invokespecial 9, 3) := by decide +kernel
theorem dL_law_7 : decode cL_law 7 = .ok (.astore_n 1, 1) := by decide +kernel
theorem dL_law_8 : decode cL_law 8 = .ok (.new 10, 3) := by decide +kernel
theorem dL_law_11 : decode cL_law 11 = .ok (.dup, 1) := by decide +kernel
theorem dL_law_12 : decode cL_law 12 = .ok (.invokespecial 12, 3) := by decide +kernel
theorem dL_law_15 : decode cL_law 15 = .ok (.astore_n 2, 1) := by decide +kernel
theorem dL_law_16 : decode cL_law 16 = .ok (.iconst 0, 1) := by decide +kernel
theorem dL_law_17 : decode cL_law 17 = .ok (.istore_n 3, 1) := by decide +kernel
theorem dL_law_18 : decode cL_law 18 = .ok (.iload_n 3, 1) := by decide +kernel
theorem dL_law_19 : decode cL_law 19 = .ok (.aload_n 0, 1) := by decide +kernel
theorem dL_law_20 : decode cL_law 20 = .ok (.arraylength, 1) := by decide +kernel
theorem dL_law_21 : decode cL_law 21 = .ok (.bipush 6, 2) := by decide +kernel
theorem dL_law_23 : decode cL_law 23 = .ok (.isub, 1) := by decide +kernel
theorem dL_law_24 : decode cL_law 24 = .ok (.if_icmp .gt 1131, 3) := by decide +kernel
theorem dL_law_27 : decode cL_law 27 = .ok (.aload_n 0, 1) := by decide +kernel
theorem dL_law_28 : decode cL_law 28 = .ok (.iload_n 3, 1) := by decide +kernel
theorem dL_law_29 : decode cL_law 29 = .ok (.iaload, 1) := by decide +kernel
theorem dL_law_30 : decode cL_law 30 = .ok (.bipush 63, 2) := by decide +kernel
theorem dL_law_32 : decode cL_law 32 = .ok (.iand, 1) := by decide +kernel
theorem dL_law_33 : decode cL_law 33 = .ok (.tableswitch 1116 0 32 #[147, 190, 233, 296, 319, 342, 355, 368, 391, 414, 437, 460, 493, 506, 539, 572, 605, 638, 661, 674, 697, 720, 763, 826, 879, 922, 945, 968, 991, 1024, 1057, 1080, 1103], 147) := by decide +kernel
theorem dL_law_180 : decode cL_law 180 = .ok (.aload_n 1, 1) := by decide +kernel
theorem dL_law_181 : decode cL_law 181 = .ok (.aload_n 0, 1) := by decide +kernel
theorem dL_law_182 : decode cL_law 182 = .ok (.iload_n 3, 1) := by decide +kernel
theorem dL_law_183 : decode cL_law 183 = .ok (.iconst 1, 1) := by decide +kernel
theorem dL_law_184 : decode cL_law 184 = .ok (.iadd, 1) := by decide +kernel
theorem dL_law_185 : decode cL_law 185 = .ok (.iaload, 1) := by decide +kernel
theorem dL_law_186 : decode cL_law 186 = .ok (.aload_n 0, 1) := by decide +kernel
theorem dL_law_187 : decode cL_law 187 = .ok (.iload_n 3, 1) := by decide +kernel
theorem dL_law_188 : decode cL_law 188 = .ok (.iconst 2, 1) := by decide +kernel
theorem dL_law_189 : decode cL_law 189 = .ok (.iadd, 1) := by decide +kernel
theorem dL_law_190 : decode cL_law 190 = .ok (.iaload, 1) := by decide +kernel
theorem dL_law_191 : decode cL_law 191 = .ok (.aload_n 0, 1) := by decide +kernel
theorem dL_law_192 : decode cL_law 192 = .ok (.iload_n 3, 1) := by decide +kernel
theorem dL_law_193 : decode cL_law 193 = .ok (.iconst 3, 1) := by decide +kernel
theorem dL_law_194 : decode cL_law 194 = .ok (.iadd, 1) := by decide +kernel
theorem dL_law_195 : decode cL_law 195 = .ok (.iaload, 1) := by decide +kernel
theorem dL_law_196 : decode cL_law 196 = .ok (.invokevirtual 13, 3) := by decide +kernel
theorem dL_law_199 : decode cL_law 199 = .ok (.aload_n 2, 1) := by decide +kernel
theorem dL_law_200 : decode cL_law 200 = .ok (.aload_n 0, 1) := by decide +kernel
theorem dL_law_201 : decode cL_law 201 = .ok (.iload_n 3, 1) := by decide +kernel
theorem dL_law_202 : decode cL_law 202 = .ok (.iconst 1, 1) := by decide +kernel
theorem dL_law_203 : decode cL_law 203 = .ok (.iadd, 1) := by decide +kernel
theorem dL_law_204 : decode cL_law 204 = .ok (.iaload, 1) := by decide +kernel
theorem dL_law_205 : decode cL_law 205 = .ok (.aload_n 0, 1) := by decide +kernel
theorem dL_law_206 : decode cL_law 206 = .ok (.iload_n 3, 1) := by decide +kernel
theorem dL_law_207 : decode cL_law 207 = .ok (.iconst 2, 1) := by decide +kernel
theorem dL_law_208 : decode cL_law 208 = .ok (.iadd, 1) := by decide +kernel
theorem dL_law_209 : decode cL_law 209 = .ok (.iaload, 1) := by decide +kernel
theorem dL_law_210 : decode cL_law 210 = .ok (.aload_n 0, 1) := by decide +kernel
theorem dL_law_211 : decode cL_law 211 = .ok (.iload_n 3, 1) := by decide +kernel
theorem dL_law_212 : decode cL_law 212 = .ok (.iconst 3, 1) := by decide +kernel
theorem dL_law_213 : decode cL_law 213 = .ok (.iadd, 1) := by decide +kernel
theorem dL_law_214 : decode cL_law 214 = .ok (.iaload, 1) := by decide +kernel
theorem dL_law_215 : decode cL_law 215 = .ok (.invokevirtual 17, 3) := by decide +kernel
theorem dL_law_218 : decode cL_law 218 = .ok (.if_icmp .eq 931, 3) := by decide +kernel
theorem dL_law_221 : decode cL_law 221 = .ok (.iconst 0, 1) := by decide +kernel
theorem dL_law_222 : decode cL_law 222 = .ok (.ireturn, 1) := by decide +kernel
theorem dL_law_223 : decode cL_law 223 = .ok (.aload_n 1, 1) := by decide +kernel
theorem dL_law_224 : decode cL_law 224 = .ok (.aload_n 0, 1) := by decide +kernel
theorem dL_law_225 : decode cL_law 225 = .ok (.iload_n 3, 1) := by decide +kernel
theorem dL_law_226 : decode cL_law 226 = .ok (.iconst 1, 1) := by decide +kernel
theorem dL_law_227 : decode cL_law 227 = .ok (.iadd, 1) := by decide +kernel
theorem dL_law_228 : decode cL_law 228 = .ok (.iaload, 1) := by decide +kernel
theorem dL_law_229 : decode cL_law 229 = .ok (.aload_n 0, 1) := by decide +kernel
theorem dL_law_230 : decode cL_law 230 = .ok (.iload_n 3, 1) := by decide +kernel
theorem dL_law_231 : decode cL_law 231 = .ok (.iconst 2, 1) := by decide +kernel
theorem dL_law_232 : decode cL_law 232 = .ok (.iadd, 1) := by decide +kernel
theorem dL_law_233 : decode cL_law 233 = .ok (.iaload, 1) := by decide +kernel
theorem dL_law_234 : decode cL_law 234 = .ok (.aload_n 0, 1) := by decide +kernel
theorem dL_law_235 : decode cL_law 235 = .ok (.iload_n 3, 1) := by decide +kernel
theorem dL_law_236 : decode cL_law 236 = .ok (.iconst 3, 1) := by decide +kernel
theorem dL_law_237 : decode cL_law 237 = .ok (.iadd, 1) := by decide +kernel
theorem dL_law_238 : decode cL_law 238 = .ok (.iaload, 1) := by decide +kernel
theorem dL_law_239 : decode cL_law 239 = .ok (.invokevirtual 18, 3) := by decide +kernel
theorem dL_law_242 : decode cL_law 242 = .ok (.aload_n 2, 1) := by decide +kernel
theorem dL_law_243 : decode cL_law 243 = .ok (.aload_n 0, 1) := by decide +kernel
theorem dL_law_244 : decode cL_law 244 = .ok (.iload_n 3, 1) := by decide +kernel
theorem dL_law_245 : decode cL_law 245 = .ok (.iconst 1, 1) := by decide +kernel
theorem dL_law_246 : decode cL_law 246 = .ok (.iadd, 1) := by decide +kernel
theorem dL_law_247 : decode cL_law 247 = .ok (.iaload, 1) := by decide +kernel
theorem dL_law_248 : decode cL_law 248 = .ok (.aload_n 0, 1) := by decide +kernel
theorem dL_law_249 : decode cL_law 249 = .ok (.iload_n 3, 1) := by decide +kernel
theorem dL_law_250 : decode cL_law 250 = .ok (.iconst 2, 1) := by decide +kernel
theorem dL_law_251 : decode cL_law 251 = .ok (.iadd, 1) := by decide +kernel
theorem dL_law_252 : decode cL_law 252 = .ok (.iaload, 1) := by decide +kernel
theorem dL_law_253 : decode cL_law 253 = .ok (.aload_n 0, 1) := by decide +kernel
theorem dL_law_254 : decode cL_law 254 = .ok (.iload_n 3, 1) := by decide +kernel
theorem dL_law_255 : decode cL_law 255 = .ok (.iconst 3, 1) := by decide +kernel
theorem dL_law_256 : decode cL_law 256 = .ok (.iadd, 1) := by decide +kernel
theorem dL_law_257 : decode cL_law 257 = .ok (.iaload, 1) := by decide +kernel
theorem dL_law_258 : decode cL_law 258 = .ok (.invokevirtual 21, 3) := by decide +kernel
theorem dL_law_261 : decode cL_law 261 = .ok (.if_icmp .eq 888, 3) := by decide +kernel
theorem dL_law_264 : decode cL_law 264 = .ok (.iconst 0, 1) := by decide +kernel
theorem dL_law_265 : decode cL_law 265 = .ok (.ireturn, 1) := by decide +kernel
theorem dL_law_266 : decode cL_law 266 = .ok (.aload_n 1, 1) := by decide +kernel
theorem dL_law_267 : decode cL_law 267 = .ok (.aload_n 0, 1) := by decide +kernel
theorem dL_law_268 : decode cL_law 268 = .ok (.iload_n 3, 1) := by decide +kernel
theorem dL_law_269 : decode cL_law 269 = .ok (.iconst 1, 1) := by decide +kernel
theorem dL_law_270 : decode cL_law 270 = .ok (.iadd, 1) := by decide +kernel
theorem dL_law_271 : decode cL_law 271 = .ok (.iaload, 1) := by decide +kernel
theorem dL_law_272 : decode cL_law 272 = .ok (.aload_n 0, 1) := by decide +kernel
theorem dL_law_273 : decode cL_law 273 = .ok (.iload_n 3, 1) := by decide +kernel
theorem dL_law_274 : decode cL_law 274 = .ok (.iconst 2, 1) := by decide +kernel
theorem dL_law_275 : decode cL_law 275 = .ok (.iadd, 1) := by decide +kernel
theorem dL_law_276 : decode cL_law 276 = .ok (.iaload, 1) := by decide +kernel
theorem dL_law_277 : decode cL_law 277 = .ok (.aload_n 0, 1) := by decide +kernel
theorem dL_law_278 : decode cL_law 278 = .ok (.iload_n 3, 1) := by decide +kernel
theorem dL_law_279 : decode cL_law 279 = .ok (.iconst 3, 1) := by decide +kernel
theorem dL_law_280 : decode cL_law 280 = .ok (.iadd, 1) := by decide +kernel
theorem dL_law_281 : decode cL_law 281 = .ok (.iaload, 1) := by decide +kernel
theorem dL_law_282 : decode cL_law 282 = .ok (.aload_n 0, 1) := by decide +kernel
theorem dL_law_283 : decode cL_law 283 = .ok (.iload_n 3, 1) := by decide +kernel
theorem dL_law_284 : decode cL_law 284 = .ok (.iconst 4, 1) := by decide +kernel
theorem dL_law_285 : decode cL_law 285 = .ok (.iadd, 1) := by decide +kernel
theorem dL_law_286 : decode cL_law 286 = .ok (.iaload, 1) := by decide +kernel
theorem dL_law_287 : decode cL_law 287 = .ok (.aload_n 0, 1) := by decide +kernel
theorem dL_law_288 : decode cL_law 288 = .ok (.iload_n 3, 1) := by decide +kernel
theorem dL_law_289 : decode cL_law 289 = .ok (.iconst 5, 1) := by decide +kernel
theorem dL_law_290 : decode cL_law 290 = .ok (.iadd, 1) := by decide +kernel
theorem dL_law_291 : decode cL_law 291 = .ok (.iaload, 1) := by decide +kernel
theorem dL_law_292 : decode cL_law 292 = .ok (.invokevirtual 22, 3) := by decide +kernel
theorem dL_law_295 : decode cL_law 295 = .ok (.aload_n 2, 1) := by decide +kernel
theorem dL_law_296 : decode cL_law 296 = .ok (.aload_n 0, 1) := by decide +kernel
theorem dL_law_297 : decode cL_law 297 = .ok (.iload_n 3, 1) := by decide +kernel
theorem dL_law_298 : decode cL_law 298 = .ok (.iconst 1, 1) := by decide +kernel
theorem dL_law_299 : decode cL_law 299 = .ok (.iadd, 1) := by decide +kernel
theorem dL_law_300 : decode cL_law 300 = .ok (.iaload, 1) := by decide +kernel
theorem dL_law_301 : decode cL_law 301 = .ok (.aload_n 0, 1) := by decide +kernel
theorem dL_law_302 : decode cL_law 302 = .ok (.iload_n 3, 1) := by decide +kernel
theorem dL_law_303 : decode cL_law 303 = .ok (.iconst 2, 1) := by decide +kernel
theorem dL_law_304 : decode cL_law 304 = .ok (.iadd, 1) := by decide +kernel
theorem dL_law_305 : decode cL_law 305 = .ok (.iaload, 1) := by decide +kernel
theorem dL_law_306 : decode cL_law 306 = .ok (.aload_n 0, 1) := by decide +kernel
theorem dL_law_307 : decode cL_law 307 = .ok (.iload_n 3, 1) := by decide +kernel
theorem dL_law_308 : decode cL_law 308 = .ok (.iconst 3, 1) := by decide +kernel
theorem dL_law_309 : decode cL_law 309 = .ok (.iadd, 1) := by decide +kernel
theorem dL_law_310 : decode cL_law 310 = .ok (.iaload, 1) := by decide +kernel
theorem dL_law_311 : decode cL_law 311 = .ok (.aload_n 0, 1) := by decide +kernel
theorem dL_law_312 : decode cL_law 312 = .ok (.iload_n 3, 1) := by decide +kernel
theorem dL_law_313 : decode cL_law 313 = .ok (.iconst 4, 1) := by decide +kernel
theorem dL_law_314 : decode cL_law 314 = .ok (.iadd, 1) := by decide +kernel
theorem dL_law_315 : decode cL_law 315 = .ok (.iaload, 1) := by decide +kernel
theorem dL_law_316 : decode cL_law 316 = .ok (.aload_n 0, 1) := by decide +kernel
theorem dL_law_317 : decode cL_law 317 = .ok (.iload_n 3, 1) := by decide +kernel
theorem dL_law_318 : decode cL_law 318 = .ok (.iconst 5, 1) := by decide +kernel
theorem dL_law_319 : decode cL_law 319 = .ok (.iadd, 1) := by decide +kernel
theorem dL_law_320 : decode cL_law 320 = .ok (.iaload, 1) := by decide +kernel
theorem dL_law_321 : decode cL_law 321 = .ok (.invokevirtual 26, 3) := by decide +kernel
theorem dL_law_324 : decode cL_law 324 = .ok (.if_icmp .eq 825, 3) := by decide +kernel
theorem dL_law_327 : decode cL_law 327 = .ok (.iconst 0, 1) := by decide +kernel
theorem dL_law_328 : decode cL_law 328 = .ok (.ireturn, 1) := by decide +kernel
theorem dL_law_329 : decode cL_law 329 = .ok (.aload_n 1, 1) := by decide +kernel
theorem dL_law_330 : decode cL_law 330 = .ok (.aload_n 0, 1) := by decide +kernel
theorem dL_law_331 : decode cL_law 331 = .ok (.iload_n 3, 1) := by decide +kernel
theorem dL_law_332 : decode cL_law 332 = .ok (.iconst 1, 1) := by decide +kernel
theorem dL_law_333 : decode cL_law 333 = .ok (.iadd, 1) := by decide +kernel
theorem dL_law_334 : decode cL_law 334 = .ok (.iaload, 1) := by decide +kernel
theorem dL_law_335 : decode cL_law 335 = .ok (.invokevirtual 27, 3) := by decide +kernel
theorem dL_law_338 : decode cL_law 338 = .ok (.aload_n 2, 1) := by decide +kernel
theorem dL_law_339 : decode cL_law 339 = .ok (.aload_n 0, 1) := by decide +kernel
theorem dL_law_340 : decode cL_law 340 = .ok (.iload_n 3, 1) := by decide +kernel
theorem dL_law_341 : decode cL_law 341 = .ok (.iconst 1, 1) := by decide +kernel
theorem dL_law_342 : decode cL_law 342 = .ok (.iadd, 1) := by decide +kernel
theorem dL_law_343 : decode cL_law 343 = .ok (.iaload, 1) := by decide +kernel
theorem dL_law_344 : decode cL_law 344 = .ok (.invokevirtual 31, 3) := by decide +kernel
theorem dL_law_347 : decode cL_law 347 = .ok (.if_icmp .eq 802, 3) := by decide +kernel
theorem dL_law_350 : decode cL_law 350 = .ok (.iconst 0, 1) := by decide +kernel
theorem dL_law_351 : decode cL_law 351 = .ok (.ireturn, 1) := by decide +kernel
theorem dL_law_352 : decode cL_law 352 = .ok (.aload_n 1, 1) := by decide +kernel
theorem dL_law_353 : decode cL_law 353 = .ok (.aload_n 0, 1) := by decide +kernel
theorem dL_law_354 : decode cL_law 354 = .ok (.iload_n 3, 1) := by decide +kernel
theorem dL_law_355 : decode cL_law 355 = .ok (.iconst 1, 1) := by decide +kernel
theorem dL_law_356 : decode cL_law 356 = .ok (.iadd, 1) := by decide +kernel
theorem dL_law_357 : decode cL_law 357 = .ok (.iaload, 1) := by decide +kernel
theorem dL_law_358 : decode cL_law 358 = .ok (.invokevirtual 32, 3) := by decide +kernel
theorem dL_law_361 : decode cL_law 361 = .ok (.aload_n 2, 1) := by decide +kernel
theorem dL_law_362 : decode cL_law 362 = .ok (.aload_n 0, 1) := by decide +kernel
theorem dL_law_363 : decode cL_law 363 = .ok (.iload_n 3, 1) := by decide +kernel
theorem dL_law_364 : decode cL_law 364 = .ok (.iconst 1, 1) := by decide +kernel
theorem dL_law_365 : decode cL_law 365 = .ok (.iadd, 1) := by decide +kernel
theorem dL_law_366 : decode cL_law 366 = .ok (.iaload, 1) := by decide +kernel
theorem dL_law_367 : decode cL_law 367 = .ok (.invokevirtual 35, 3) := by decide +kernel
theorem dL_law_370 : decode cL_law 370 = .ok (.if_icmp .eq 779, 3) := by decide +kernel
theorem dL_law_373 : decode cL_law 373 = .ok (.iconst 0, 1) := by decide +kernel
theorem dL_law_374 : decode cL_law 374 = .ok (.ireturn, 1) := by decide +kernel
theorem dL_law_375 : decode cL_law 375 = .ok (.aload_n 1, 1) := by decide +kernel
theorem dL_law_376 : decode cL_law 376 = .ok (.invokevirtual 36, 3) := by decide +kernel
theorem dL_law_379 : decode cL_law 379 = .ok (.aload_n 2, 1) := by decide +kernel
theorem dL_law_380 : decode cL_law 380 = .ok (.invokevirtual 40, 3) := by decide +kernel
theorem dL_law_383 : decode cL_law 383 = .ok (.if_icmp .eq 766, 3) := by decide +kernel
theorem dL_law_386 : decode cL_law 386 = .ok (.iconst 0, 1) := by decide +kernel
theorem dL_law_387 : decode cL_law 387 = .ok (.ireturn, 1) := by decide +kernel
theorem dL_law_388 : decode cL_law 388 = .ok (.aload_n 1, 1) := by decide +kernel
theorem dL_law_389 : decode cL_law 389 = .ok (.invokevirtual 41, 3) := by decide +kernel
theorem dL_law_392 : decode cL_law 392 = .ok (.aload_n 2, 1) := by decide +kernel
theorem dL_law_393 : decode cL_law 393 = .ok (.invokevirtual 44, 3) := by decide +kernel
theorem dL_law_396 : decode cL_law 396 = .ok (.if_icmp .eq 753, 3) := by decide +kernel
theorem dL_law_399 : decode cL_law 399 = .ok (.iconst 0, 1) := by decide +kernel
theorem dL_law_400 : decode cL_law 400 = .ok (.ireturn, 1) := by decide +kernel
theorem dL_law_401 : decode cL_law 401 = .ok (.aload_n 1, 1) := by decide +kernel
theorem dL_law_402 : decode cL_law 402 = .ok (.aload_n 0, 1) := by decide +kernel
theorem dL_law_403 : decode cL_law 403 = .ok (.iload_n 3, 1) := by decide +kernel
theorem dL_law_404 : decode cL_law 404 = .ok (.iconst 1, 1) := by decide +kernel
theorem dL_law_405 : decode cL_law 405 = .ok (.iadd, 1) := by decide +kernel
theorem dL_law_406 : decode cL_law 406 = .ok (.iaload, 1) := by decide +kernel
theorem dL_law_407 : decode cL_law 407 = .ok (.invokevirtual 45, 3) := by decide +kernel
theorem dL_law_410 : decode cL_law 410 = .ok (.aload_n 2, 1) := by decide +kernel
theorem dL_law_411 : decode cL_law 411 = .ok (.aload_n 0, 1) := by decide +kernel
theorem dL_law_412 : decode cL_law 412 = .ok (.iload_n 3, 1) := by decide +kernel
theorem dL_law_413 : decode cL_law 413 = .ok (.iconst 1, 1) := by decide +kernel
theorem dL_law_414 : decode cL_law 414 = .ok (.iadd, 1) := by decide +kernel
theorem dL_law_415 : decode cL_law 415 = .ok (.iaload, 1) := by decide +kernel
theorem dL_law_416 : decode cL_law 416 = .ok (.invokevirtual 48, 3) := by decide +kernel
theorem dL_law_419 : decode cL_law 419 = .ok (.if_icmp .eq 730, 3) := by decide +kernel
theorem dL_law_422 : decode cL_law 422 = .ok (.iconst 0, 1) := by decide +kernel
theorem dL_law_423 : decode cL_law 423 = .ok (.ireturn, 1) := by decide +kernel
theorem dL_law_424 : decode cL_law 424 = .ok (.aload_n 1, 1) := by decide +kernel
theorem dL_law_425 : decode cL_law 425 = .ok (.aload_n 0, 1) := by decide +kernel
theorem dL_law_426 : decode cL_law 426 = .ok (.iload_n 3, 1) := by decide +kernel
theorem dL_law_427 : decode cL_law 427 = .ok (.iconst 1, 1) := by decide +kernel
theorem dL_law_428 : decode cL_law 428 = .ok (.iadd, 1) := by decide +kernel
theorem dL_law_429 : decode cL_law 429 = .ok (.iaload, 1) := by decide +kernel
theorem dL_law_430 : decode cL_law 430 = .ok (.invokevirtual 49, 3) := by decide +kernel
theorem dL_law_433 : decode cL_law 433 = .ok (.aload_n 2, 1) := by decide +kernel
theorem dL_law_434 : decode cL_law 434 = .ok (.aload_n 0, 1) := by decide +kernel
theorem dL_law_435 : decode cL_law 435 = .ok (.iload_n 3, 1) := by decide +kernel
theorem dL_law_436 : decode cL_law 436 = .ok (.iconst 1, 1) := by decide +kernel
theorem dL_law_437 : decode cL_law 437 = .ok (.iadd, 1) := by decide +kernel
theorem dL_law_438 : decode cL_law 438 = .ok (.iaload, 1) := by decide +kernel
theorem dL_law_439 : decode cL_law 439 = .ok (.invokevirtual 52, 3) := by decide +kernel
theorem dL_law_442 : decode cL_law 442 = .ok (.if_icmp .eq 707, 3) := by decide +kernel
theorem dL_law_445 : decode cL_law 445 = .ok (.iconst 0, 1) := by decide +kernel
theorem dL_law_446 : decode cL_law 446 = .ok (.ireturn, 1) := by decide +kernel
theorem dL_law_447 : decode cL_law 447 = .ok (.aload_n 1, 1) := by decide +kernel
theorem dL_law_448 : decode cL_law 448 = .ok (.aload_n 0, 1) := by decide +kernel
theorem dL_law_449 : decode cL_law 449 = .ok (.iload_n 3, 1) := by decide +kernel
theorem dL_law_450 : decode cL_law 450 = .ok (.iconst 1, 1) := by decide +kernel
theorem dL_law_451 : decode cL_law 451 = .ok (.iadd, 1) := by decide +kernel
theorem dL_law_452 : decode cL_law 452 = .ok (.iaload, 1) := by decide +kernel
theorem dL_law_453 : decode cL_law 453 = .ok (.invokevirtual 53, 3) := by decide +kernel
theorem dL_law_456 : decode cL_law 456 = .ok (.aload_n 2, 1) := by decide +kernel
theorem dL_law_457 : decode cL_law 457 = .ok (.aload_n 0, 1) := by decide +kernel
theorem dL_law_458 : decode cL_law 458 = .ok (.iload_n 3, 1) := by decide +kernel
theorem dL_law_459 : decode cL_law 459 = .ok (.iconst 1, 1) := by decide +kernel
theorem dL_law_460 : decode cL_law 460 = .ok (.iadd, 1) := by decide +kernel
theorem dL_law_461 : decode cL_law 461 = .ok (.iaload, 1) := by decide +kernel
theorem dL_law_462 : decode cL_law 462 = .ok (.invokevirtual 56, 3) := by decide +kernel
theorem dL_law_465 : decode cL_law 465 = .ok (.if_icmp .eq 684, 3) := by decide +kernel
theorem dL_law_468 : decode cL_law 468 = .ok (.iconst 0, 1) := by decide +kernel
theorem dL_law_469 : decode cL_law 469 = .ok (.ireturn, 1) := by decide +kernel
theorem dL_law_470 : decode cL_law 470 = .ok (.aload_n 1, 1) := by decide +kernel
theorem dL_law_471 : decode cL_law 471 = .ok (.aload_n 0, 1) := by decide +kernel
theorem dL_law_472 : decode cL_law 472 = .ok (.iload_n 3, 1) := by decide +kernel
theorem dL_law_473 : decode cL_law 473 = .ok (.iconst 1, 1) := by decide +kernel
theorem dL_law_474 : decode cL_law 474 = .ok (.iadd, 1) := by decide +kernel
theorem dL_law_475 : decode cL_law 475 = .ok (.iaload, 1) := by decide +kernel
theorem dL_law_476 : decode cL_law 476 = .ok (.invokevirtual 57, 3) := by decide +kernel
theorem dL_law_479 : decode cL_law 479 = .ok (.aload_n 2, 1) := by decide +kernel
theorem dL_law_480 : decode cL_law 480 = .ok (.aload_n 0, 1) := by decide +kernel
theorem dL_law_481 : decode cL_law 481 = .ok (.iload_n 3, 1) := by decide +kernel
theorem dL_law_482 : decode cL_law 482 = .ok (.iconst 1, 1) := by decide +kernel
theorem dL_law_483 : decode cL_law 483 = .ok (.iadd, 1) := by decide +kernel
theorem dL_law_484 : decode cL_law 484 = .ok (.iaload, 1) := by decide +kernel
theorem dL_law_485 : decode cL_law 485 = .ok (.invokevirtual 60, 3) := by decide +kernel
theorem dL_law_488 : decode cL_law 488 = .ok (.if_icmp .eq 661, 3) := by decide +kernel
theorem dL_law_491 : decode cL_law 491 = .ok (.iconst 0, 1) := by decide +kernel
theorem dL_law_492 : decode cL_law 492 = .ok (.ireturn, 1) := by decide +kernel
theorem dL_law_493 : decode cL_law 493 = .ok (.aload_n 1, 1) := by decide +kernel
theorem dL_law_494 : decode cL_law 494 = .ok (.aload_n 0, 1) := by decide +kernel
theorem dL_law_495 : decode cL_law 495 = .ok (.iload_n 3, 1) := by decide +kernel
theorem dL_law_496 : decode cL_law 496 = .ok (.iconst 1, 1) := by decide +kernel
theorem dL_law_497 : decode cL_law 497 = .ok (.iadd, 1) := by decide +kernel
theorem dL_law_498 : decode cL_law 498 = .ok (.iaload, 1) := by decide +kernel
theorem dL_law_499 : decode cL_law 499 = .ok (.aload_n 0, 1) := by decide +kernel
theorem dL_law_500 : decode cL_law 500 = .ok (.iload_n 3, 1) := by decide +kernel
theorem dL_law_501 : decode cL_law 501 = .ok (.iconst 2, 1) := by decide +kernel
theorem dL_law_502 : decode cL_law 502 = .ok (.iadd, 1) := by decide +kernel
theorem dL_law_503 : decode cL_law 503 = .ok (.iaload, 1) := by decide +kernel
theorem dL_law_504 : decode cL_law 504 = .ok (.invokevirtual 61, 3) := by decide +kernel
theorem dL_law_507 : decode cL_law 507 = .ok (.aload_n 2, 1) := by decide +kernel
theorem dL_law_508 : decode cL_law 508 = .ok (.aload_n 0, 1) := by decide +kernel
theorem dL_law_509 : decode cL_law 509 = .ok (.iload_n 3, 1) := by decide +kernel
theorem dL_law_510 : decode cL_law 510 = .ok (.iconst 1, 1) := by decide +kernel
theorem dL_law_511 : decode cL_law 511 = .ok (.iadd, 1) := by decide +kernel
theorem dL_law_512 : decode cL_law 512 = .ok (.iaload, 1) := by decide +kernel
theorem dL_law_513 : decode cL_law 513 = .ok (.aload_n 0, 1) := by decide +kernel
theorem dL_law_514 : decode cL_law 514 = .ok (.iload_n 3, 1) := by decide +kernel
theorem dL_law_515 : decode cL_law 515 = .ok (.iconst 2, 1) := by decide +kernel
theorem dL_law_516 : decode cL_law 516 = .ok (.iadd, 1) := by decide +kernel
theorem dL_law_517 : decode cL_law 517 = .ok (.iaload, 1) := by decide +kernel
theorem dL_law_518 : decode cL_law 518 = .ok (.invokevirtual 65, 3) := by decide +kernel
theorem dL_law_521 : decode cL_law 521 = .ok (.if_icmp .eq 628, 3) := by decide +kernel
theorem dL_law_524 : decode cL_law 524 = .ok (.iconst 0, 1) := by decide +kernel
theorem dL_law_525 : decode cL_law 525 = .ok (.ireturn, 1) := by decide +kernel
theorem dL_law_526 : decode cL_law 526 = .ok (.aload_n 1, 1) := by decide +kernel
theorem dL_law_527 : decode cL_law 527 = .ok (.invokevirtual 66, 3) := by decide +kernel
theorem dL_law_530 : decode cL_law 530 = .ok (.aload_n 2, 1) := by decide +kernel
theorem dL_law_531 : decode cL_law 531 = .ok (.invokevirtual 69, 3) := by decide +kernel
theorem dL_law_534 : decode cL_law 534 = .ok (.if_icmp .eq 615, 3) := by decide +kernel
theorem dL_law_537 : decode cL_law 537 = .ok (.iconst 0, 1) := by decide +kernel
theorem dL_law_538 : decode cL_law 538 = .ok (.ireturn, 1) := by decide +kernel
theorem dL_law_539 : decode cL_law 539 = .ok (.aload_n 1, 1) := by decide +kernel
theorem dL_law_540 : decode cL_law 540 = .ok (.aload_n 0, 1) := by decide +kernel
theorem dL_law_541 : decode cL_law 541 = .ok (.iload_n 3, 1) := by decide +kernel
theorem dL_law_542 : decode cL_law 542 = .ok (.iconst 1, 1) := by decide +kernel
theorem dL_law_543 : decode cL_law 543 = .ok (.iadd, 1) := by decide +kernel
theorem dL_law_544 : decode cL_law 544 = .ok (.iaload, 1) := by decide +kernel
theorem dL_law_545 : decode cL_law 545 = .ok (.aload_n 0, 1) := by decide +kernel
theorem dL_law_546 : decode cL_law 546 = .ok (.iload_n 3, 1) := by decide +kernel
theorem dL_law_547 : decode cL_law 547 = .ok (.iconst 2, 1) := by decide +kernel
theorem dL_law_548 : decode cL_law 548 = .ok (.iadd, 1) := by decide +kernel
theorem dL_law_549 : decode cL_law 549 = .ok (.iaload, 1) := by decide +kernel
theorem dL_law_550 : decode cL_law 550 = .ok (.invokevirtual 70, 3) := by decide +kernel
theorem dL_law_553 : decode cL_law 553 = .ok (.aload_n 2, 1) := by decide +kernel
theorem dL_law_554 : decode cL_law 554 = .ok (.aload_n 0, 1) := by decide +kernel
theorem dL_law_555 : decode cL_law 555 = .ok (.iload_n 3, 1) := by decide +kernel
theorem dL_law_556 : decode cL_law 556 = .ok (.iconst 1, 1) := by decide +kernel
theorem dL_law_557 : decode cL_law 557 = .ok (.iadd, 1) := by decide +kernel
theorem dL_law_558 : decode cL_law 558 = .ok (.iaload, 1) := by decide +kernel
theorem dL_law_559 : decode cL_law 559 = .ok (.aload_n 0, 1) := by decide +kernel
theorem dL_law_560 : decode cL_law 560 = .ok (.iload_n 3, 1) := by decide +kernel
theorem dL_law_561 : decode cL_law 561 = .ok (.iconst 2, 1) := by decide +kernel
theorem dL_law_562 : decode cL_law 562 = .ok (.iadd, 1) := by decide +kernel
theorem dL_law_563 : decode cL_law 563 = .ok (.iaload, 1) := by decide +kernel
theorem dL_law_564 : decode cL_law 564 = .ok (.invokevirtual 73, 3) := by decide +kernel
theorem dL_law_567 : decode cL_law 567 = .ok (.if_icmp .eq 582, 3) := by decide +kernel
theorem dL_law_570 : decode cL_law 570 = .ok (.iconst 0, 1) := by decide +kernel
theorem dL_law_571 : decode cL_law 571 = .ok (.ireturn, 1) := by decide +kernel
theorem dL_law_572 : decode cL_law 572 = .ok (.aload_n 1, 1) := by decide +kernel
theorem dL_law_573 : decode cL_law 573 = .ok (.aload_n 0, 1) := by decide +kernel
theorem dL_law_574 : decode cL_law 574 = .ok (.iload_n 3, 1) := by decide +kernel
theorem dL_law_575 : decode cL_law 575 = .ok (.iconst 1, 1) := by decide +kernel
theorem dL_law_576 : decode cL_law 576 = .ok (.iadd, 1) := by decide +kernel
theorem dL_law_577 : decode cL_law 577 = .ok (.iaload, 1) := by decide +kernel
theorem dL_law_578 : decode cL_law 578 = .ok (.aload_n 0, 1) := by decide +kernel
theorem dL_law_579 : decode cL_law 579 = .ok (.iload_n 3, 1) := by decide +kernel
theorem dL_law_580 : decode cL_law 580 = .ok (.iconst 2, 1) := by decide +kernel
theorem dL_law_581 : decode cL_law 581 = .ok (.iadd, 1) := by decide +kernel
theorem dL_law_582 : decode cL_law 582 = .ok (.iaload, 1) := by decide +kernel
theorem dL_law_583 : decode cL_law 583 = .ok (.invokevirtual 74, 3) := by decide +kernel
theorem dL_law_586 : decode cL_law 586 = .ok (.aload_n 2, 1) := by decide +kernel
theorem dL_law_587 : decode cL_law 587 = .ok (.aload_n 0, 1) := by decide +kernel
theorem dL_law_588 : decode cL_law 588 = .ok (.iload_n 3, 1) := by decide +kernel
theorem dL_law_589 : decode cL_law 589 = .ok (.iconst 1, 1) := by decide +kernel
theorem dL_law_590 : decode cL_law 590 = .ok (.iadd, 1) := by decide +kernel
theorem dL_law_591 : decode cL_law 591 = .ok (.iaload, 1) := by decide +kernel
theorem dL_law_592 : decode cL_law 592 = .ok (.aload_n 0, 1) := by decide +kernel
theorem dL_law_593 : decode cL_law 593 = .ok (.iload_n 3, 1) := by decide +kernel
theorem dL_law_594 : decode cL_law 594 = .ok (.iconst 2, 1) := by decide +kernel
theorem dL_law_595 : decode cL_law 595 = .ok (.iadd, 1) := by decide +kernel
theorem dL_law_596 : decode cL_law 596 = .ok (.iaload, 1) := by decide +kernel
theorem dL_law_597 : decode cL_law 597 = .ok (.invokevirtual 77, 3) := by decide +kernel
theorem dL_law_600 : decode cL_law 600 = .ok (.if_icmp .eq 549, 3) := by decide +kernel
theorem dL_law_603 : decode cL_law 603 = .ok (.iconst 0, 1) := by decide +kernel
theorem dL_law_604 : decode cL_law 604 = .ok (.ireturn, 1) := by decide +kernel
theorem dL_law_605 : decode cL_law 605 = .ok (.aload_n 1, 1) := by decide +kernel
theorem dL_law_606 : decode cL_law 606 = .ok (.aload_n 0, 1) := by decide +kernel
theorem dL_law_607 : decode cL_law 607 = .ok (.iload_n 3, 1) := by decide +kernel
theorem dL_law_608 : decode cL_law 608 = .ok (.iconst 1, 1) := by decide +kernel
theorem dL_law_609 : decode cL_law 609 = .ok (.iadd, 1) := by decide +kernel
theorem dL_law_610 : decode cL_law 610 = .ok (.iaload, 1) := by decide +kernel
theorem dL_law_611 : decode cL_law 611 = .ok (.aload_n 0, 1) := by decide +kernel
theorem dL_law_612 : decode cL_law 612 = .ok (.iload_n 3, 1) := by decide +kernel
theorem dL_law_613 : decode cL_law 613 = .ok (.iconst 2, 1) := by decide +kernel
theorem dL_law_614 : decode cL_law 614 = .ok (.iadd, 1) := by decide +kernel
theorem dL_law_615 : decode cL_law 615 = .ok (.iaload, 1) := by decide +kernel
theorem dL_law_616 : decode cL_law 616 = .ok (.invokevirtual 78, 3) := by decide +kernel
theorem dL_law_619 : decode cL_law 619 = .ok (.aload_n 2, 1) := by decide +kernel
theorem dL_law_620 : decode cL_law 620 = .ok (.aload_n 0, 1) := by decide +kernel
theorem dL_law_621 : decode cL_law 621 = .ok (.iload_n 3, 1) := by decide +kernel
theorem dL_law_622 : decode cL_law 622 = .ok (.iconst 1, 1) := by decide +kernel
theorem dL_law_623 : decode cL_law 623 = .ok (.iadd, 1) := by decide +kernel
theorem dL_law_624 : decode cL_law 624 = .ok (.iaload, 1) := by decide +kernel
theorem dL_law_625 : decode cL_law 625 = .ok (.aload_n 0, 1) := by decide +kernel
theorem dL_law_626 : decode cL_law 626 = .ok (.iload_n 3, 1) := by decide +kernel
theorem dL_law_627 : decode cL_law 627 = .ok (.iconst 2, 1) := by decide +kernel
theorem dL_law_628 : decode cL_law 628 = .ok (.iadd, 1) := by decide +kernel
theorem dL_law_629 : decode cL_law 629 = .ok (.iaload, 1) := by decide +kernel
theorem dL_law_630 : decode cL_law 630 = .ok (.invokevirtual 81, 3) := by decide +kernel
theorem dL_law_633 : decode cL_law 633 = .ok (.if_icmp .eq 516, 3) := by decide +kernel
theorem dL_law_636 : decode cL_law 636 = .ok (.iconst 0, 1) := by decide +kernel
theorem dL_law_637 : decode cL_law 637 = .ok (.ireturn, 1) := by decide +kernel
theorem dL_law_638 : decode cL_law 638 = .ok (.aload_n 1, 1) := by decide +kernel
theorem dL_law_639 : decode cL_law 639 = .ok (.aload_n 0, 1) := by decide +kernel
theorem dL_law_640 : decode cL_law 640 = .ok (.iload_n 3, 1) := by decide +kernel
theorem dL_law_641 : decode cL_law 641 = .ok (.iconst 1, 1) := by decide +kernel
theorem dL_law_642 : decode cL_law 642 = .ok (.iadd, 1) := by decide +kernel
theorem dL_law_643 : decode cL_law 643 = .ok (.iaload, 1) := by decide +kernel
theorem dL_law_644 : decode cL_law 644 = .ok (.aload_n 0, 1) := by decide +kernel
theorem dL_law_645 : decode cL_law 645 = .ok (.iload_n 3, 1) := by decide +kernel
theorem dL_law_646 : decode cL_law 646 = .ok (.iconst 2, 1) := by decide +kernel
theorem dL_law_647 : decode cL_law 647 = .ok (.iadd, 1) := by decide +kernel
theorem dL_law_648 : decode cL_law 648 = .ok (.iaload, 1) := by decide +kernel
theorem dL_law_649 : decode cL_law 649 = .ok (.invokevirtual 82, 3) := by decide +kernel
theorem dL_law_652 : decode cL_law 652 = .ok (.aload_n 2, 1) := by decide +kernel
theorem dL_law_653 : decode cL_law 653 = .ok (.aload_n 0, 1) := by decide +kernel
theorem dL_law_654 : decode cL_law 654 = .ok (.iload_n 3, 1) := by decide +kernel
theorem dL_law_655 : decode cL_law 655 = .ok (.iconst 1, 1) := by decide +kernel
theorem dL_law_656 : decode cL_law 656 = .ok (.iadd, 1) := by decide +kernel
theorem dL_law_657 : decode cL_law 657 = .ok (.iaload, 1) := by decide +kernel
theorem dL_law_658 : decode cL_law 658 = .ok (.aload_n 0, 1) := by decide +kernel
theorem dL_law_659 : decode cL_law 659 = .ok (.iload_n 3, 1) := by decide +kernel
theorem dL_law_660 : decode cL_law 660 = .ok (.iconst 2, 1) := by decide +kernel
theorem dL_law_661 : decode cL_law 661 = .ok (.iadd, 1) := by decide +kernel
theorem dL_law_662 : decode cL_law 662 = .ok (.iaload, 1) := by decide +kernel
theorem dL_law_663 : decode cL_law 663 = .ok (.invokevirtual 85, 3) := by decide +kernel
theorem dL_law_666 : decode cL_law 666 = .ok (.if_icmp .eq 483, 3) := by decide +kernel
theorem dL_law_669 : decode cL_law 669 = .ok (.iconst 0, 1) := by decide +kernel
theorem dL_law_670 : decode cL_law 670 = .ok (.ireturn, 1) := by decide +kernel
theorem dL_law_671 : decode cL_law 671 = .ok (.aload_n 1, 1) := by decide +kernel
theorem dL_law_672 : decode cL_law 672 = .ok (.aload_n 0, 1) := by decide +kernel
theorem dL_law_673 : decode cL_law 673 = .ok (.iload_n 3, 1) := by decide +kernel
theorem dL_law_674 : decode cL_law 674 = .ok (.iconst 1, 1) := by decide +kernel
theorem dL_law_675 : decode cL_law 675 = .ok (.iadd, 1) := by decide +kernel
theorem dL_law_676 : decode cL_law 676 = .ok (.iaload, 1) := by decide +kernel
theorem dL_law_677 : decode cL_law 677 = .ok (.invokevirtual 86, 3) := by decide +kernel
theorem dL_law_680 : decode cL_law 680 = .ok (.aload_n 2, 1) := by decide +kernel
theorem dL_law_681 : decode cL_law 681 = .ok (.aload_n 0, 1) := by decide +kernel
theorem dL_law_682 : decode cL_law 682 = .ok (.iload_n 3, 1) := by decide +kernel
theorem dL_law_683 : decode cL_law 683 = .ok (.iconst 1, 1) := by decide +kernel
theorem dL_law_684 : decode cL_law 684 = .ok (.iadd, 1) := by decide +kernel
theorem dL_law_685 : decode cL_law 685 = .ok (.iaload, 1) := by decide +kernel
theorem dL_law_686 : decode cL_law 686 = .ok (.invokevirtual 89, 3) := by decide +kernel
theorem dL_law_689 : decode cL_law 689 = .ok (.if_icmp .eq 460, 3) := by decide +kernel
theorem dL_law_692 : decode cL_law 692 = .ok (.iconst 0, 1) := by decide +kernel
theorem dL_law_693 : decode cL_law 693 = .ok (.ireturn, 1) := by decide +kernel
theorem dL_law_694 : decode cL_law 694 = .ok (.aload_n 1, 1) := by decide +kernel
theorem dL_law_695 : decode cL_law 695 = .ok (.invokevirtual 90, 3) := by decide +kernel
theorem dL_law_698 : decode cL_law 698 = .ok (.aload_n 2, 1) := by decide +kernel
theorem dL_law_699 : decode cL_law 699 = .ok (.invokevirtual 93, 3) := by decide +kernel
theorem dL_law_702 : decode cL_law 702 = .ok (.if_icmp .eq 447, 3) := by decide +kernel
theorem dL_law_705 : decode cL_law 705 = .ok (.iconst 0, 1) := by decide +kernel
theorem dL_law_706 : decode cL_law 706 = .ok (.ireturn, 1) := by decide +kernel
theorem dL_law_707 : decode cL_law 707 = .ok (.aload_n 1, 1) := by decide +kernel
theorem dL_law_708 : decode cL_law 708 = .ok (.aload_n 0, 1) := by decide +kernel
theorem dL_law_709 : decode cL_law 709 = .ok (.iload_n 3, 1) := by decide +kernel
theorem dL_law_710 : decode cL_law 710 = .ok (.iconst 1, 1) := by decide +kernel
theorem dL_law_711 : decode cL_law 711 = .ok (.iadd, 1) := by decide +kernel
theorem dL_law_712 : decode cL_law 712 = .ok (.iaload, 1) := by decide +kernel
theorem dL_law_713 : decode cL_law 713 = .ok (.invokevirtual 94, 3) := by decide +kernel
theorem dL_law_716 : decode cL_law 716 = .ok (.aload_n 2, 1) := by decide +kernel
theorem dL_law_717 : decode cL_law 717 = .ok (.aload_n 0, 1) := by decide +kernel
theorem dL_law_718 : decode cL_law 718 = .ok (.iload_n 3, 1) := by decide +kernel
theorem dL_law_719 : decode cL_law 719 = .ok (.iconst 1, 1) := by decide +kernel
theorem dL_law_720 : decode cL_law 720 = .ok (.iadd, 1) := by decide +kernel
theorem dL_law_721 : decode cL_law 721 = .ok (.iaload, 1) := by decide +kernel
theorem dL_law_722 : decode cL_law 722 = .ok (.invokevirtual 97, 3) := by decide +kernel
theorem dL_law_725 : decode cL_law 725 = .ok (.if_icmp .eq 424, 3) := by decide +kernel
theorem dL_law_728 : decode cL_law 728 = .ok (.iconst 0, 1) := by decide +kernel
theorem dL_law_729 : decode cL_law 729 = .ok (.ireturn, 1) := by decide +kernel
theorem dL_law_730 : decode cL_law 730 = .ok (.aload_n 1, 1) := by decide +kernel
theorem dL_law_731 : decode cL_law 731 = .ok (.aload_n 0, 1) := by decide +kernel
theorem dL_law_732 : decode cL_law 732 = .ok (.iload_n 3, 1) := by decide +kernel
theorem dL_law_733 : decode cL_law 733 = .ok (.iconst 1, 1) := by decide +kernel
theorem dL_law_734 : decode cL_law 734 = .ok (.iadd, 1) := by decide +kernel
theorem dL_law_735 : decode cL_law 735 = .ok (.iaload, 1) := by decide +kernel
theorem dL_law_736 : decode cL_law 736 = .ok (.invokevirtual 98, 3) := by decide +kernel
theorem dL_law_739 : decode cL_law 739 = .ok (.aload_n 2, 1) := by decide +kernel
theorem dL_law_740 : decode cL_law 740 = .ok (.aload_n 0, 1) := by decide +kernel
theorem dL_law_741 : decode cL_law 741 = .ok (.iload_n 3, 1) := by decide +kernel
theorem dL_law_742 : decode cL_law 742 = .ok (.iconst 1, 1) := by decide +kernel
theorem dL_law_743 : decode cL_law 743 = .ok (.iadd, 1) := by decide +kernel
theorem dL_law_744 : decode cL_law 744 = .ok (.iaload, 1) := by decide +kernel
theorem dL_law_745 : decode cL_law 745 = .ok (.invokevirtual 101, 3) := by decide +kernel
theorem dL_law_748 : decode cL_law 748 = .ok (.if_icmp .eq 401, 3) := by decide +kernel
theorem dL_law_751 : decode cL_law 751 = .ok (.iconst 0, 1) := by decide +kernel
theorem dL_law_752 : decode cL_law 752 = .ok (.ireturn, 1) := by decide +kernel
theorem dL_law_753 : decode cL_law 753 = .ok (.aload_n 1, 1) := by decide +kernel
theorem dL_law_754 : decode cL_law 754 = .ok (.aload_n 0, 1) := by decide +kernel
theorem dL_law_755 : decode cL_law 755 = .ok (.iload_n 3, 1) := by decide +kernel
theorem dL_law_756 : decode cL_law 756 = .ok (.iconst 1, 1) := by decide +kernel
theorem dL_law_757 : decode cL_law 757 = .ok (.iadd, 1) := by decide +kernel
theorem dL_law_758 : decode cL_law 758 = .ok (.iaload, 1) := by decide +kernel
theorem dL_law_759 : decode cL_law 759 = .ok (.aload_n 0, 1) := by decide +kernel
theorem dL_law_760 : decode cL_law 760 = .ok (.iload_n 3, 1) := by decide +kernel
theorem dL_law_761 : decode cL_law 761 = .ok (.iconst 2, 1) := by decide +kernel
theorem dL_law_762 : decode cL_law 762 = .ok (.iadd, 1) := by decide +kernel
theorem dL_law_763 : decode cL_law 763 = .ok (.iaload, 1) := by decide +kernel
theorem dL_law_764 : decode cL_law 764 = .ok (.aload_n 0, 1) := by decide +kernel
theorem dL_law_765 : decode cL_law 765 = .ok (.iload_n 3, 1) := by decide +kernel
theorem dL_law_766 : decode cL_law 766 = .ok (.iconst 3, 1) := by decide +kernel
theorem dL_law_767 : decode cL_law 767 = .ok (.iadd, 1) := by decide +kernel
theorem dL_law_768 : decode cL_law 768 = .ok (.iaload, 1) := by decide +kernel
theorem dL_law_769 : decode cL_law 769 = .ok (.invokevirtual 102, 3) := by decide +kernel
theorem dL_law_772 : decode cL_law 772 = .ok (.aload_n 2, 1) := by decide +kernel
theorem dL_law_773 : decode cL_law 773 = .ok (.aload_n 0, 1) := by decide +kernel
theorem dL_law_774 : decode cL_law 774 = .ok (.iload_n 3, 1) := by decide +kernel
theorem dL_law_775 : decode cL_law 775 = .ok (.iconst 1, 1) := by decide +kernel
theorem dL_law_776 : decode cL_law 776 = .ok (.iadd, 1) := by decide +kernel
theorem dL_law_777 : decode cL_law 777 = .ok (.iaload, 1) := by decide +kernel
theorem dL_law_778 : decode cL_law 778 = .ok (.aload_n 0, 1) := by decide +kernel
theorem dL_law_779 : decode cL_law 779 = .ok (.iload_n 3, 1) := by decide +kernel
theorem dL_law_780 : decode cL_law 780 = .ok (.iconst 2, 1) := by decide +kernel
theorem dL_law_781 : decode cL_law 781 = .ok (.iadd, 1) := by decide +kernel
theorem dL_law_782 : decode cL_law 782 = .ok (.iaload, 1) := by decide +kernel
theorem dL_law_783 : decode cL_law 783 = .ok (.aload_n 0, 1) := by decide +kernel
theorem dL_law_784 : decode cL_law 784 = .ok (.iload_n 3, 1) := by decide +kernel
theorem dL_law_785 : decode cL_law 785 = .ok (.iconst 3, 1) := by decide +kernel
theorem dL_law_786 : decode cL_law 786 = .ok (.iadd, 1) := by decide +kernel
theorem dL_law_787 : decode cL_law 787 = .ok (.iaload, 1) := by decide +kernel
theorem dL_law_788 : decode cL_law 788 = .ok (.invokevirtual 105, 3) := by decide +kernel
theorem dL_law_791 : decode cL_law 791 = .ok (.if_icmp .eq 358, 3) := by decide +kernel
theorem dL_law_794 : decode cL_law 794 = .ok (.iconst 0, 1) := by decide +kernel
theorem dL_law_795 : decode cL_law 795 = .ok (.ireturn, 1) := by decide +kernel
theorem dL_law_796 : decode cL_law 796 = .ok (.aload_n 1, 1) := by decide +kernel
theorem dL_law_797 : decode cL_law 797 = .ok (.aload_n 0, 1) := by decide +kernel
theorem dL_law_798 : decode cL_law 798 = .ok (.iload_n 3, 1) := by decide +kernel
theorem dL_law_799 : decode cL_law 799 = .ok (.iconst 1, 1) := by decide +kernel
theorem dL_law_800 : decode cL_law 800 = .ok (.iadd, 1) := by decide +kernel
theorem dL_law_801 : decode cL_law 801 = .ok (.iaload, 1) := by decide +kernel
theorem dL_law_802 : decode cL_law 802 = .ok (.aload_n 0, 1) := by decide +kernel
theorem dL_law_803 : decode cL_law 803 = .ok (.iload_n 3, 1) := by decide +kernel
theorem dL_law_804 : decode cL_law 804 = .ok (.iconst 2, 1) := by decide +kernel
theorem dL_law_805 : decode cL_law 805 = .ok (.iadd, 1) := by decide +kernel
theorem dL_law_806 : decode cL_law 806 = .ok (.iaload, 1) := by decide +kernel
theorem dL_law_807 : decode cL_law 807 = .ok (.aload_n 0, 1) := by decide +kernel
theorem dL_law_808 : decode cL_law 808 = .ok (.iload_n 3, 1) := by decide +kernel
theorem dL_law_809 : decode cL_law 809 = .ok (.iconst 3, 1) := by decide +kernel
theorem dL_law_810 : decode cL_law 810 = .ok (.iadd, 1) := by decide +kernel
theorem dL_law_811 : decode cL_law 811 = .ok (.iaload, 1) := by decide +kernel
theorem dL_law_812 : decode cL_law 812 = .ok (.aload_n 0, 1) := by decide +kernel
theorem dL_law_813 : decode cL_law 813 = .ok (.iload_n 3, 1) := by decide +kernel
theorem dL_law_814 : decode cL_law 814 = .ok (.iconst 4, 1) := by decide +kernel
theorem dL_law_815 : decode cL_law 815 = .ok (.iadd, 1) := by decide +kernel
theorem dL_law_816 : decode cL_law 816 = .ok (.iaload, 1) := by decide +kernel
theorem dL_law_817 : decode cL_law 817 = .ok (.aload_n 0, 1) := by decide +kernel
theorem dL_law_818 : decode cL_law 818 = .ok (.iload_n 3, 1) := by decide +kernel
theorem dL_law_819 : decode cL_law 819 = .ok (.iconst 5, 1) := by decide +kernel
theorem dL_law_820 : decode cL_law 820 = .ok (.iadd, 1) := by decide +kernel
theorem dL_law_821 : decode cL_law 821 = .ok (.iaload, 1) := by decide +kernel
theorem dL_law_822 : decode cL_law 822 = .ok (.invokevirtual 106, 3) := by decide +kernel
theorem dL_law_825 : decode cL_law 825 = .ok (.aload_n 2, 1) := by decide +kernel
theorem dL_law_826 : decode cL_law 826 = .ok (.aload_n 0, 1) := by decide +kernel
theorem dL_law_827 : decode cL_law 827 = .ok (.iload_n 3, 1) := by decide +kernel
theorem dL_law_828 : decode cL_law 828 = .ok (.iconst 1, 1) := by decide +kernel
theorem dL_law_829 : decode cL_law 829 = .ok (.iadd, 1) := by decide +kernel
theorem dL_law_830 : decode cL_law 830 = .ok (.iaload, 1) := by decide +kernel
theorem dL_law_831 : decode cL_law 831 = .ok (.aload_n 0, 1) := by decide +kernel
theorem dL_law_832 : decode cL_law 832 = .ok (.iload_n 3, 1) := by decide +kernel
theorem dL_law_833 : decode cL_law 833 = .ok (.iconst 2, 1) := by decide +kernel
theorem dL_law_834 : decode cL_law 834 = .ok (.iadd, 1) := by decide +kernel
theorem dL_law_835 : decode cL_law 835 = .ok (.iaload, 1) := by decide +kernel
theorem dL_law_836 : decode cL_law 836 = .ok (.aload_n 0, 1) := by decide +kernel
theorem dL_law_837 : decode cL_law 837 = .ok (.iload_n 3, 1) := by decide +kernel
theorem dL_law_838 : decode cL_law 838 = .ok (.iconst 3, 1) := by decide +kernel
theorem dL_law_839 : decode cL_law 839 = .ok (.iadd, 1) := by decide +kernel
theorem dL_law_840 : decode cL_law 840 = .ok (.iaload, 1) := by decide +kernel
theorem dL_law_841 : decode cL_law 841 = .ok (.aload_n 0, 1) := by decide +kernel
theorem dL_law_842 : decode cL_law 842 = .ok (.iload_n 3, 1) := by decide +kernel
theorem dL_law_843 : decode cL_law 843 = .ok (.iconst 4, 1) := by decide +kernel
theorem dL_law_844 : decode cL_law 844 = .ok (.iadd, 1) := by decide +kernel
theorem dL_law_845 : decode cL_law 845 = .ok (.iaload, 1) := by decide +kernel
theorem dL_law_846 : decode cL_law 846 = .ok (.aload_n 0, 1) := by decide +kernel
theorem dL_law_847 : decode cL_law 847 = .ok (.iload_n 3, 1) := by decide +kernel
theorem dL_law_848 : decode cL_law 848 = .ok (.iconst 5, 1) := by decide +kernel
theorem dL_law_849 : decode cL_law 849 = .ok (.iadd, 1) := by decide +kernel
theorem dL_law_850 : decode cL_law 850 = .ok (.iaload, 1) := by decide +kernel
theorem dL_law_851 : decode cL_law 851 = .ok (.invokevirtual 109, 3) := by decide +kernel
theorem dL_law_854 : decode cL_law 854 = .ok (.if_icmp .eq 295, 3) := by decide +kernel
theorem dL_law_857 : decode cL_law 857 = .ok (.iconst 0, 1) := by decide +kernel
theorem dL_law_858 : decode cL_law 858 = .ok (.ireturn, 1) := by decide +kernel
theorem dL_law_859 : decode cL_law 859 = .ok (.aload_n 1, 1) := by decide +kernel
theorem dL_law_860 : decode cL_law 860 = .ok (.aload_n 0, 1) := by decide +kernel
theorem dL_law_861 : decode cL_law 861 = .ok (.iload_n 3, 1) := by decide +kernel
theorem dL_law_862 : decode cL_law 862 = .ok (.iconst 1, 1) := by decide +kernel
theorem dL_law_863 : decode cL_law 863 = .ok (.iadd, 1) := by decide +kernel
theorem dL_law_864 : decode cL_law 864 = .ok (.iaload, 1) := by decide +kernel
theorem dL_law_865 : decode cL_law 865 = .ok (.aload_n 0, 1) := by decide +kernel
theorem dL_law_866 : decode cL_law 866 = .ok (.iload_n 3, 1) := by decide +kernel
theorem dL_law_867 : decode cL_law 867 = .ok (.iconst 2, 1) := by decide +kernel
theorem dL_law_868 : decode cL_law 868 = .ok (.iadd, 1) := by decide +kernel
theorem dL_law_869 : decode cL_law 869 = .ok (.iaload, 1) := by decide +kernel
theorem dL_law_870 : decode cL_law 870 = .ok (.aload_n 0, 1) := by decide +kernel
theorem dL_law_871 : decode cL_law 871 = .ok (.iload_n 3, 1) := by decide +kernel
theorem dL_law_872 : decode cL_law 872 = .ok (.iconst 3, 1) := by decide +kernel
theorem dL_law_873 : decode cL_law 873 = .ok (.iadd, 1) := by decide +kernel
theorem dL_law_874 : decode cL_law 874 = .ok (.iaload, 1) := by decide +kernel
theorem dL_law_875 : decode cL_law 875 = .ok (.aload_n 0, 1) := by decide +kernel
theorem dL_law_876 : decode cL_law 876 = .ok (.iload_n 3, 1) := by decide +kernel
theorem dL_law_877 : decode cL_law 877 = .ok (.iconst 4, 1) := by decide +kernel
theorem dL_law_878 : decode cL_law 878 = .ok (.iadd, 1) := by decide +kernel
theorem dL_law_879 : decode cL_law 879 = .ok (.iaload, 1) := by decide +kernel
theorem dL_law_880 : decode cL_law 880 = .ok (.invokevirtual 110, 3) := by decide +kernel
theorem dL_law_883 : decode cL_law 883 = .ok (.aload_n 2, 1) := by decide +kernel
theorem dL_law_884 : decode cL_law 884 = .ok (.aload_n 0, 1) := by decide +kernel
theorem dL_law_885 : decode cL_law 885 = .ok (.iload_n 3, 1) := by decide +kernel
theorem dL_law_886 : decode cL_law 886 = .ok (.iconst 1, 1) := by decide +kernel
theorem dL_law_887 : decode cL_law 887 = .ok (.iadd, 1) := by decide +kernel
theorem dL_law_888 : decode cL_law 888 = .ok (.iaload, 1) := by decide +kernel
theorem dL_law_889 : decode cL_law 889 = .ok (.aload_n 0, 1) := by decide +kernel
theorem dL_law_890 : decode cL_law 890 = .ok (.iload_n 3, 1) := by decide +kernel
theorem dL_law_891 : decode cL_law 891 = .ok (.iconst 2, 1) := by decide +kernel
theorem dL_law_892 : decode cL_law 892 = .ok (.iadd, 1) := by decide +kernel
theorem dL_law_893 : decode cL_law 893 = .ok (.iaload, 1) := by decide +kernel
theorem dL_law_894 : decode cL_law 894 = .ok (.aload_n 0, 1) := by decide +kernel
theorem dL_law_895 : decode cL_law 895 = .ok (.iload_n 3, 1) := by decide +kernel
theorem dL_law_896 : decode cL_law 896 = .ok (.iconst 3, 1) := by decide +kernel
theorem dL_law_897 : decode cL_law 897 = .ok (.iadd, 1) := by decide +kernel
theorem dL_law_898 : decode cL_law 898 = .ok (.iaload, 1) := by decide +kernel
theorem dL_law_899 : decode cL_law 899 = .ok (.aload_n 0, 1) := by decide +kernel
theorem dL_law_900 : decode cL_law 900 = .ok (.iload_n 3, 1) := by decide +kernel
theorem dL_law_901 : decode cL_law 901 = .ok (.iconst 4, 1) := by decide +kernel
theorem dL_law_902 : decode cL_law 902 = .ok (.iadd, 1) := by decide +kernel
theorem dL_law_903 : decode cL_law 903 = .ok (.iaload, 1) := by decide +kernel
theorem dL_law_904 : decode cL_law 904 = .ok (.invokevirtual 114, 3) := by decide +kernel
theorem dL_law_907 : decode cL_law 907 = .ok (.if_icmp .eq 242, 3) := by decide +kernel
theorem dL_law_910 : decode cL_law 910 = .ok (.iconst 0, 1) := by decide +kernel
theorem dL_law_911 : decode cL_law 911 = .ok (.ireturn, 1) := by decide +kernel
theorem dL_law_912 : decode cL_law 912 = .ok (.aload_n 1, 1) := by decide +kernel
theorem dL_law_913 : decode cL_law 913 = .ok (.aload_n 0, 1) := by decide +kernel
theorem dL_law_914 : decode cL_law 914 = .ok (.iload_n 3, 1) := by decide +kernel
theorem dL_law_915 : decode cL_law 915 = .ok (.iconst 1, 1) := by decide +kernel
theorem dL_law_916 : decode cL_law 916 = .ok (.iadd, 1) := by decide +kernel
theorem dL_law_917 : decode cL_law 917 = .ok (.iaload, 1) := by decide +kernel
theorem dL_law_918 : decode cL_law 918 = .ok (.aload_n 0, 1) := by decide +kernel
theorem dL_law_919 : decode cL_law 919 = .ok (.iload_n 3, 1) := by decide +kernel
theorem dL_law_920 : decode cL_law 920 = .ok (.iconst 2, 1) := by decide +kernel
theorem dL_law_921 : decode cL_law 921 = .ok (.iadd, 1) := by decide +kernel
theorem dL_law_922 : decode cL_law 922 = .ok (.iaload, 1) := by decide +kernel
theorem dL_law_923 : decode cL_law 923 = .ok (.aload_n 0, 1) := by decide +kernel
theorem dL_law_924 : decode cL_law 924 = .ok (.iload_n 3, 1) := by decide +kernel
theorem dL_law_925 : decode cL_law 925 = .ok (.iconst 3, 1) := by decide +kernel
theorem dL_law_926 : decode cL_law 926 = .ok (.iadd, 1) := by decide +kernel
theorem dL_law_927 : decode cL_law 927 = .ok (.iaload, 1) := by decide +kernel
theorem dL_law_928 : decode cL_law 928 = .ok (.invokevirtual 115, 3) := by decide +kernel
theorem dL_law_931 : decode cL_law 931 = .ok (.aload_n 2, 1) := by decide +kernel
theorem dL_law_932 : decode cL_law 932 = .ok (.aload_n 0, 1) := by decide +kernel
theorem dL_law_933 : decode cL_law 933 = .ok (.iload_n 3, 1) := by decide +kernel
theorem dL_law_934 : decode cL_law 934 = .ok (.iconst 1, 1) := by decide +kernel
theorem dL_law_935 : decode cL_law 935 = .ok (.iadd, 1) := by decide +kernel
theorem dL_law_936 : decode cL_law 936 = .ok (.iaload, 1) := by decide +kernel
theorem dL_law_937 : decode cL_law 937 = .ok (.aload_n 0, 1) := by decide +kernel
theorem dL_law_938 : decode cL_law 938 = .ok (.iload_n 3, 1) := by decide +kernel
theorem dL_law_939 : decode cL_law 939 = .ok (.iconst 2, 1) := by decide +kernel
theorem dL_law_940 : decode cL_law 940 = .ok (.iadd, 1) := by decide +kernel
theorem dL_law_941 : decode cL_law 941 = .ok (.iaload, 1) := by decide +kernel
theorem dL_law_942 : decode cL_law 942 = .ok (.aload_n 0, 1) := by decide +kernel
theorem dL_law_943 : decode cL_law 943 = .ok (.iload_n 3, 1) := by decide +kernel
theorem dL_law_944 : decode cL_law 944 = .ok (.iconst 3, 1) := by decide +kernel
theorem dL_law_945 : decode cL_law 945 = .ok (.iadd, 1) := by decide +kernel
theorem dL_law_946 : decode cL_law 946 = .ok (.iaload, 1) := by decide +kernel
theorem dL_law_947 : decode cL_law 947 = .ok (.invokevirtual 118, 3) := by decide +kernel
theorem dL_law_950 : decode cL_law 950 = .ok (.if_icmp .eq 199, 3) := by decide +kernel
theorem dL_law_953 : decode cL_law 953 = .ok (.iconst 0, 1) := by decide +kernel
theorem dL_law_954 : decode cL_law 954 = .ok (.ireturn, 1) := by decide +kernel
theorem dL_law_955 : decode cL_law 955 = .ok (.aload_n 1, 1) := by decide +kernel
theorem dL_law_956 : decode cL_law 956 = .ok (.aload_n 0, 1) := by decide +kernel
theorem dL_law_957 : decode cL_law 957 = .ok (.iload_n 3, 1) := by decide +kernel
theorem dL_law_958 : decode cL_law 958 = .ok (.iconst 1, 1) := by decide +kernel
theorem dL_law_959 : decode cL_law 959 = .ok (.iadd, 1) := by decide +kernel
theorem dL_law_960 : decode cL_law 960 = .ok (.iaload, 1) := by decide +kernel
theorem dL_law_961 : decode cL_law 961 = .ok (.invokevirtual 119, 3) := by decide +kernel
theorem dL_law_964 : decode cL_law 964 = .ok (.aload_n 2, 1) := by decide +kernel
theorem dL_law_965 : decode cL_law 965 = .ok (.aload_n 0, 1) := by decide +kernel
theorem dL_law_966 : decode cL_law 966 = .ok (.iload_n 3, 1) := by decide +kernel
theorem dL_law_967 : decode cL_law 967 = .ok (.iconst 1, 1) := by decide +kernel
theorem dL_law_968 : decode cL_law 968 = .ok (.iadd, 1) := by decide +kernel
theorem dL_law_969 : decode cL_law 969 = .ok (.iaload, 1) := by decide +kernel
theorem dL_law_970 : decode cL_law 970 = .ok (.invokevirtual 122, 3) := by decide +kernel
theorem dL_law_973 : decode cL_law 973 = .ok (.if_icmp .eq 176, 3) := by decide +kernel
theorem dL_law_976 : decode cL_law 976 = .ok (.iconst 0, 1) := by decide +kernel
theorem dL_law_977 : decode cL_law 977 = .ok (.ireturn, 1) := by decide +kernel
theorem dL_law_978 : decode cL_law 978 = .ok (.aload_n 1, 1) := by decide +kernel
theorem dL_law_979 : decode cL_law 979 = .ok (.aload_n 0, 1) := by decide +kernel
theorem dL_law_980 : decode cL_law 980 = .ok (.iload_n 3, 1) := by decide +kernel
theorem dL_law_981 : decode cL_law 981 = .ok (.iconst 1, 1) := by decide +kernel
theorem dL_law_982 : decode cL_law 982 = .ok (.iadd, 1) := by decide +kernel
theorem dL_law_983 : decode cL_law 983 = .ok (.iaload, 1) := by decide +kernel
theorem dL_law_984 : decode cL_law 984 = .ok (.invokevirtual 123, 3) := by decide +kernel
theorem dL_law_987 : decode cL_law 987 = .ok (.aload_n 2, 1) := by decide +kernel
theorem dL_law_988 : decode cL_law 988 = .ok (.aload_n 0, 1) := by decide +kernel
theorem dL_law_989 : decode cL_law 989 = .ok (.iload_n 3, 1) := by decide +kernel
theorem dL_law_990 : decode cL_law 990 = .ok (.iconst 1, 1) := by decide +kernel
theorem dL_law_991 : decode cL_law 991 = .ok (.iadd, 1) := by decide +kernel
theorem dL_law_992 : decode cL_law 992 = .ok (.iaload, 1) := by decide +kernel
theorem dL_law_993 : decode cL_law 993 = .ok (.invokevirtual 126, 3) := by decide +kernel
theorem dL_law_996 : decode cL_law 996 = .ok (.if_icmp .eq 153, 3) := by decide +kernel
theorem dL_law_999 : decode cL_law 999 = .ok (.iconst 0, 1) := by decide +kernel
theorem dL_law_1000 : decode cL_law 1000 = .ok (.ireturn, 1) := by decide +kernel
theorem dL_law_1001 : decode cL_law 1001 = .ok (.aload_n 1, 1) := by decide +kernel
theorem dL_law_1002 : decode cL_law 1002 = .ok (.aload_n 0, 1) := by decide +kernel
theorem dL_law_1003 : decode cL_law 1003 = .ok (.iload_n 3, 1) := by decide +kernel
theorem dL_law_1004 : decode cL_law 1004 = .ok (.iconst 1, 1) := by decide +kernel
theorem dL_law_1005 : decode cL_law 1005 = .ok (.iadd, 1) := by decide +kernel
theorem dL_law_1006 : decode cL_law 1006 = .ok (.iaload, 1) := by decide +kernel
theorem dL_law_1007 : decode cL_law 1007 = .ok (.invokevirtual 127, 3) := by decide +kernel
theorem dL_law_1010 : decode cL_law 1010 = .ok (.aload_n 2, 1) := by decide +kernel
theorem dL_law_1011 : decode cL_law 1011 = .ok (.aload_n 0, 1) := by decide +kernel
theorem dL_law_1012 : decode cL_law 1012 = .ok (.iload_n 3, 1) := by decide +kernel
theorem dL_law_1013 : decode cL_law 1013 = .ok (.iconst 1, 1) := by decide +kernel
theorem dL_law_1014 : decode cL_law 1014 = .ok (.iadd, 1) := by decide +kernel
theorem dL_law_1015 : decode cL_law 1015 = .ok (.iaload, 1) := by decide +kernel
theorem dL_law_1016 : decode cL_law 1016 = .ok (.invokevirtual 130, 3) := by decide +kernel
theorem dL_law_1019 : decode cL_law 1019 = .ok (.if_icmp .eq 130, 3) := by decide +kernel
theorem dL_law_1022 : decode cL_law 1022 = .ok (.iconst 0, 1) := by decide +kernel
theorem dL_law_1023 : decode cL_law 1023 = .ok (.ireturn, 1) := by decide +kernel
theorem dL_law_1024 : decode cL_law 1024 = .ok (.aload_n 1, 1) := by decide +kernel
theorem dL_law_1025 : decode cL_law 1025 = .ok (.aload_n 0, 1) := by decide +kernel
theorem dL_law_1026 : decode cL_law 1026 = .ok (.iload_n 3, 1) := by decide +kernel
theorem dL_law_1027 : decode cL_law 1027 = .ok (.iconst 1, 1) := by decide +kernel
theorem dL_law_1028 : decode cL_law 1028 = .ok (.iadd, 1) := by decide +kernel
theorem dL_law_1029 : decode cL_law 1029 = .ok (.iaload, 1) := by decide +kernel
theorem dL_law_1030 : decode cL_law 1030 = .ok (.aload_n 0, 1) := by decide +kernel
theorem dL_law_1031 : decode cL_law 1031 = .ok (.iload_n 3, 1) := by decide +kernel
theorem dL_law_1032 : decode cL_law 1032 = .ok (.iconst 2, 1) := by decide +kernel
theorem dL_law_1033 : decode cL_law 1033 = .ok (.iadd, 1) := by decide +kernel
theorem dL_law_1034 : decode cL_law 1034 = .ok (.iaload, 1) := by decide +kernel
theorem dL_law_1035 : decode cL_law 1035 = .ok (.invokevirtual 131, 3) := by decide +kernel
theorem dL_law_1038 : decode cL_law 1038 = .ok (.aload_n 2, 1) := by decide +kernel
theorem dL_law_1039 : decode cL_law 1039 = .ok (.aload_n 0, 1) := by decide +kernel
theorem dL_law_1040 : decode cL_law 1040 = .ok (.iload_n 3, 1) := by decide +kernel
theorem dL_law_1041 : decode cL_law 1041 = .ok (.iconst 1, 1) := by decide +kernel
theorem dL_law_1042 : decode cL_law 1042 = .ok (.iadd, 1) := by decide +kernel
theorem dL_law_1043 : decode cL_law 1043 = .ok (.iaload, 1) := by decide +kernel
theorem dL_law_1044 : decode cL_law 1044 = .ok (.aload_n 0, 1) := by decide +kernel
theorem dL_law_1045 : decode cL_law 1045 = .ok (.iload_n 3, 1) := by decide +kernel
theorem dL_law_1046 : decode cL_law 1046 = .ok (.iconst 2, 1) := by decide +kernel
theorem dL_law_1047 : decode cL_law 1047 = .ok (.iadd, 1) := by decide +kernel
theorem dL_law_1048 : decode cL_law 1048 = .ok (.iaload, 1) := by decide +kernel
theorem dL_law_1049 : decode cL_law 1049 = .ok (.invokevirtual 134, 3) := by decide +kernel
theorem dL_law_1052 : decode cL_law 1052 = .ok (.if_icmp .eq 97, 3) := by decide +kernel
theorem dL_law_1055 : decode cL_law 1055 = .ok (.iconst 0, 1) := by decide +kernel
theorem dL_law_1056 : decode cL_law 1056 = .ok (.ireturn, 1) := by decide +kernel
theorem dL_law_1057 : decode cL_law 1057 = .ok (.aload_n 1, 1) := by decide +kernel
theorem dL_law_1058 : decode cL_law 1058 = .ok (.aload_n 0, 1) := by decide +kernel
theorem dL_law_1059 : decode cL_law 1059 = .ok (.iload_n 3, 1) := by decide +kernel
theorem dL_law_1060 : decode cL_law 1060 = .ok (.iconst 1, 1) := by decide +kernel
theorem dL_law_1061 : decode cL_law 1061 = .ok (.iadd, 1) := by decide +kernel
theorem dL_law_1062 : decode cL_law 1062 = .ok (.iaload, 1) := by decide +kernel
theorem dL_law_1063 : decode cL_law 1063 = .ok (.aload_n 0, 1) := by decide +kernel
theorem dL_law_1064 : decode cL_law 1064 = .ok (.iload_n 3, 1) := by decide +kernel
theorem dL_law_1065 : decode cL_law 1065 = .ok (.iconst 2, 1) := by decide +kernel
theorem dL_law_1066 : decode cL_law 1066 = .ok (.iadd, 1) := by decide +kernel
theorem dL_law_1067 : decode cL_law 1067 = .ok (.iaload, 1) := by decide +kernel
theorem dL_law_1068 : decode cL_law 1068 = .ok (.invokevirtual 135, 3) := by decide +kernel
theorem dL_law_1071 : decode cL_law 1071 = .ok (.aload_n 2, 1) := by decide +kernel
theorem dL_law_1072 : decode cL_law 1072 = .ok (.aload_n 0, 1) := by decide +kernel
theorem dL_law_1073 : decode cL_law 1073 = .ok (.iload_n 3, 1) := by decide +kernel
theorem dL_law_1074 : decode cL_law 1074 = .ok (.iconst 1, 1) := by decide +kernel
theorem dL_law_1075 : decode cL_law 1075 = .ok (.iadd, 1) := by decide +kernel
theorem dL_law_1076 : decode cL_law 1076 = .ok (.iaload, 1) := by decide +kernel
theorem dL_law_1077 : decode cL_law 1077 = .ok (.aload_n 0, 1) := by decide +kernel
theorem dL_law_1078 : decode cL_law 1078 = .ok (.iload_n 3, 1) := by decide +kernel
theorem dL_law_1079 : decode cL_law 1079 = .ok (.iconst 2, 1) := by decide +kernel
theorem dL_law_1080 : decode cL_law 1080 = .ok (.iadd, 1) := by decide +kernel
theorem dL_law_1081 : decode cL_law 1081 = .ok (.iaload, 1) := by decide +kernel
theorem dL_law_1082 : decode cL_law 1082 = .ok (.invokevirtual 138, 3) := by decide +kernel
theorem dL_law_1085 : decode cL_law 1085 = .ok (.if_icmp .eq 64, 3) := by decide +kernel
theorem dL_law_1088 : decode cL_law 1088 = .ok (.iconst 0, 1) := by decide +kernel
theorem dL_law_1089 : decode cL_law 1089 = .ok (.ireturn, 1) := by decide +kernel
theorem dL_law_1090 : decode cL_law 1090 = .ok (.aload_n 1, 1) := by decide +kernel
theorem dL_law_1091 : decode cL_law 1091 = .ok (.aload_n 0, 1) := by decide +kernel
theorem dL_law_1092 : decode cL_law 1092 = .ok (.iload_n 3, 1) := by decide +kernel
theorem dL_law_1093 : decode cL_law 1093 = .ok (.iconst 1, 1) := by decide +kernel
theorem dL_law_1094 : decode cL_law 1094 = .ok (.iadd, 1) := by decide +kernel
theorem dL_law_1095 : decode cL_law 1095 = .ok (.iaload, 1) := by decide +kernel
theorem dL_law_1096 : decode cL_law 1096 = .ok (.invokevirtual 139, 3) := by decide +kernel
theorem dL_law_1099 : decode cL_law 1099 = .ok (.aload_n 2, 1) := by decide +kernel
theorem dL_law_1100 : decode cL_law 1100 = .ok (.aload_n 0, 1) := by decide +kernel
theorem dL_law_1101 : decode cL_law 1101 = .ok (.iload_n 3, 1) := by decide +kernel
theorem dL_law_1102 : decode cL_law 1102 = .ok (.iconst 1, 1) := by decide +kernel
theorem dL_law_1103 : decode cL_law 1103 = .ok (.iadd, 1) := by decide +kernel
theorem dL_law_1104 : decode cL_law 1104 = .ok (.iaload, 1) := by decide +kernel
theorem dL_law_1105 : decode cL_law 1105 = .ok (.invokevirtual 142, 3) := by decide +kernel
theorem dL_law_1108 : decode cL_law 1108 = .ok (.if_icmp .eq 41, 3) := by decide +kernel
theorem dL_law_1111 : decode cL_law 1111 = .ok (.iconst 0, 1) := by decide +kernel
theorem dL_law_1112 : decode cL_law 1112 = .ok (.ireturn, 1) := by decide +kernel
theorem dL_law_1113 : decode cL_law 1113 = .ok (.aload_n 1, 1) := by decide +kernel
theorem dL_law_1114 : decode cL_law 1114 = .ok (.aload_n 0, 1) := by decide +kernel
theorem dL_law_1115 : decode cL_law 1115 = .ok (.iload_n 3, 1) := by decide +kernel
theorem dL_law_1116 : decode cL_law 1116 = .ok (.iconst 1, 1) := by decide +kernel
theorem dL_law_1117 : decode cL_law 1117 = .ok (.iadd, 1) := by decide +kernel
theorem dL_law_1118 : decode cL_law 1118 = .ok (.iaload, 1) := by decide +kernel
theorem dL_law_1119 : decode cL_law 1119 = .ok (.invokevirtual 143, 3) := by decide +kernel
theorem dL_law_1122 : decode cL_law 1122 = .ok (.aload_n 2, 1) := by decide +kernel
theorem dL_law_1123 : decode cL_law 1123 = .ok (.aload_n 0, 1) := by decide +kernel
theorem dL_law_1124 : decode cL_law 1124 = .ok (.iload_n 3, 1) := by decide +kernel
theorem dL_law_1125 : decode cL_law 1125 = .ok (.iconst 1, 1) := by decide +kernel
theorem dL_law_1126 : decode cL_law 1126 = .ok (.iadd, 1) := by decide +kernel
theorem dL_law_1127 : decode cL_law 1127 = .ok (.iaload, 1) := by decide +kernel
theorem dL_law_1128 : decode cL_law 1128 = .ok (.invokevirtual 146, 3) := by decide +kernel
theorem dL_law_1131 : decode cL_law 1131 = .ok (.if_icmp .eq 18, 3) := by decide +kernel
theorem dL_law_1134 : decode cL_law 1134 = .ok (.iconst 0, 1) := by decide +kernel
theorem dL_law_1135 : decode cL_law 1135 = .ok (.ireturn, 1) := by decide +kernel
theorem dL_law_1136 : decode cL_law 1136 = .ok (.aload_n 1, 1) := by decide +kernel
theorem dL_law_1137 : decode cL_law 1137 = .ok (.invokevirtual 147, 3) := by decide +kernel
theorem dL_law_1140 : decode cL_law 1140 = .ok (.aload_n 2, 1) := by decide +kernel
theorem dL_law_1141 : decode cL_law 1141 = .ok (.invokevirtual 150, 3) := by decide +kernel
theorem dL_law_1144 : decode cL_law 1144 = .ok (.if_icmp .eq 5, 3) := by decide +kernel
theorem dL_law_1147 : decode cL_law 1147 = .ok (.iconst 0, 1) := by decide +kernel
theorem dL_law_1148 : decode cL_law 1148 = .ok (.ireturn, 1) := by decide +kernel
theorem dL_law_1149 : decode cL_law 1149 = .ok (.iinc 3 6, 3) := by decide +kernel
theorem dL_law_1152 : decode cL_law 1152 = .ok (.goto (-1134), 3) := by decide +kernel
theorem dL_law_1155 : decode cL_law 1155 = .ok (.iconst 1, 1) := by decide +kernel
theorem dL_law_1156 : decode cL_law 1156 = .ok (.ireturn, 1) := by decide +kernel
end
