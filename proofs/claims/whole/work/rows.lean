section
-- ===== PART A: goes FIRST, ahead of the names: the tables' words, and 'selects' of the private methods out of them =====
/-- a private method of a class that the tables say can be made, by its rows of tables_1 -/
def lw_okq (q : MethodName × Nat) : Prop := (q.1.cls ≠ "java/lang/invoke/MethodHandle" ∧ q.1.cls ≠ "java/lang/invoke/VarHandle") ∧ Cond.instantiable q.1.cls q.2 ∈ tables_1 ∧ Cond.privateMethod q.1 ∈ tables_1 ∧ Cond.instanceMethod q.1 ∈ tables_1
theorem lw_p0 : lw_okq (⟨"MilkTruce$PassText", "letter", "(I)I"⟩, 2) := ⟨⟨by decide +kernel, by decide +kernel⟩, List.mem_of_getElem? (i := 22) (by decide +kernel), List.mem_of_getElem? (i := 218) (by decide +kernel), List.mem_of_getElem? (i := 219) (by decide +kernel)⟩
theorem lw_p1 : lw_okq (⟨"MilkTruce$PassText", "faultOfPart", "(I[I[II)I"⟩, 2) := ⟨⟨by decide +kernel, by decide +kernel⟩, List.mem_of_getElem? (i := 22) (by decide +kernel), List.mem_of_getElem? (i := 232) (by decide +kernel), List.mem_of_getElem? (i := 233) (by decide +kernel)⟩
theorem lw_p2 : lw_okq (⟨"MilkTruce$PassText", "figure", "(I)I"⟩, 2) := ⟨⟨by decide +kernel, by decide +kernel⟩, List.mem_of_getElem? (i := 22) (by decide +kernel), List.mem_of_getElem? (i := 236) (by decide +kernel), List.mem_of_getElem? (i := 237) (by decide +kernel)⟩
theorem lw_p3 : lw_okq (⟨"MilkTruce$Shelf", "at", "(I)LMilkTruce$Meadow;"⟩, 1) := ⟨⟨by decide +kernel, by decide +kernel⟩, List.mem_of_getElem? (i := 92) (by decide +kernel), List.mem_of_getElem? (i := 339) (by decide +kernel), List.mem_of_getElem? (i := 340) (by decide +kernel)⟩
theorem lw_p4 : lw_okq (⟨"MilkTruce$Meadow", "isWarning", "(I)Z"⟩, 9) := ⟨⟨by decide +kernel, by decide +kernel⟩, List.mem_of_getElem? (i := 52) (by decide +kernel), List.mem_of_getElem? (i := 359) (by decide +kernel), List.mem_of_getElem? (i := 360) (by decide +kernel)⟩
theorem lw_p5 : lw_okq (⟨"MilkTruce$Meadow", "milkDueCows", "()V"⟩, 9) := ⟨⟨by decide +kernel, by decide +kernel⟩, List.mem_of_getElem? (i := 52) (by decide +kernel), List.mem_of_getElem? (i := 363) (by decide +kernel), List.mem_of_getElem? (i := 364) (by decide +kernel)⟩
theorem lw_p6 : lw_okq (⟨"MilkTruce$Meadow", "letCowsEat", "()V"⟩, 9) := ⟨⟨by decide +kernel, by decide +kernel⟩, List.mem_of_getElem? (i := 52) (by decide +kernel), List.mem_of_getElem? (i := 371) (by decide +kernel), List.mem_of_getElem? (i := 372) (by decide +kernel)⟩
theorem lw_p7 : lw_okq (⟨"MilkTruce", "hoursOnAfter", "(III)I"⟩, 12) := ⟨⟨by decide +kernel, by decide +kernel⟩, List.mem_of_getElem? (i := 14) (by decide +kernel), List.mem_of_getElem? (i := 446) (by decide +kernel), List.mem_of_getElem? (i := 447) (by decide +kernel)⟩
theorem lw_p8 : lw_okq (⟨"MilkTruce", "choicesOf", "(I)LMilkTruce$Choices;"⟩, 12) := ⟨⟨by decide +kernel, by decide +kernel⟩, List.mem_of_getElem? (i := 14) (by decide +kernel), List.mem_of_getElem? (i := 487) (by decide +kernel), List.mem_of_getElem? (i := 488) (by decide +kernel)⟩
theorem lw_p9 : lw_okq (⟨"MilkTruce$Choices", "add", "(I)V"⟩, 2) := ⟨⟨by decide +kernel, by decide +kernel⟩, List.mem_of_getElem? (i := 140) (by decide +kernel), List.mem_of_getElem? (i := 495) (by decide +kernel), List.mem_of_getElem? (i := 496) (by decide +kernel)⟩
theorem lw_p10 : lw_okq (⟨"MilkTruce$Choices", "addMovesOf", "(ILMilkTruce$Meadow;)V"⟩, 2) := ⟨⟨by decide +kernel, by decide +kernel⟩, List.mem_of_getElem? (i := 140) (by decide +kernel), List.mem_of_getElem? (i := 503) (by decide +kernel), List.mem_of_getElem? (i := 504) (by decide +kernel)⟩
theorem lw_p11 : lw_okq (⟨"MilkTruce", "stopsAfterSowing", "(III)Z"⟩, 12) := ⟨⟨by decide +kernel, by decide +kernel⟩, List.mem_of_getElem? (i := 14) (by decide +kernel), List.mem_of_getElem? (i := 521) (by decide +kernel), List.mem_of_getElem? (i := 522) (by decide +kernel)⟩
theorem lw_p12 : lw_okq (⟨"MilkTruce", "stopsOf", "(II)I"⟩, 12) := ⟨⟨by decide +kernel, by decide +kernel⟩, List.mem_of_getElem? (i := 14) (by decide +kernel), List.mem_of_getElem? (i := 543) (by decide +kernel), List.mem_of_getElem? (i := 544) (by decide +kernel)⟩
theorem lw_p13 : lw_okq (⟨"MilkTruce", "isAllSoOfTrial", "()Z"⟩, 12) := ⟨⟨by decide +kernel, by decide +kernel⟩, List.mem_of_getElem? (i := 14) (by decide +kernel), List.mem_of_getElem? (i := 593) (by decide +kernel), List.mem_of_getElem? (i := 594) (by decide +kernel)⟩
theorem lw_p14 : lw_okq (⟨"MilkTruce", "isAtRest", "(IIII)Z"⟩, 12) := ⟨⟨by decide +kernel, by decide +kernel⟩, List.mem_of_getElem? (i := 14) (by decide +kernel), List.mem_of_getElem? (i := 607) (by decide +kernel), List.mem_of_getElem? (i := 608) (by decide +kernel)⟩
theorem lw_p15 : lw_okq (⟨"MilkTruce", "hoursOfPair", "(III)I"⟩, 12) := ⟨⟨by decide +kernel, by decide +kernel⟩, List.mem_of_getElem? (i := 14) (by decide +kernel), List.mem_of_getElem? (i := 611) (by decide +kernel), List.mem_of_getElem? (i := 612) (by decide +kernel)⟩
def lw_privs_1 : List (MethodName × Nat) := [(⟨"MilkTruce$PassText", "letter", "(I)I"⟩, 2), (⟨"MilkTruce$PassText", "faultOfPart", "(I[I[II)I"⟩, 2), (⟨"MilkTruce$PassText", "figure", "(I)I"⟩, 2), (⟨"MilkTruce$Shelf", "at", "(I)LMilkTruce$Meadow;"⟩, 1), (⟨"MilkTruce$Meadow", "isWarning", "(I)Z"⟩, 9), (⟨"MilkTruce$Meadow", "milkDueCows", "()V"⟩, 9), (⟨"MilkTruce$Meadow", "letCowsEat", "()V"⟩, 9), (⟨"MilkTruce", "hoursOnAfter", "(III)I"⟩, 12), (⟨"MilkTruce", "choicesOf", "(I)LMilkTruce$Choices;"⟩, 12), (⟨"MilkTruce$Choices", "add", "(I)V"⟩, 2), (⟨"MilkTruce$Choices", "addMovesOf", "(ILMilkTruce$Meadow;)V"⟩, 2), (⟨"MilkTruce", "stopsAfterSowing", "(III)Z"⟩, 12), (⟨"MilkTruce", "stopsOf", "(II)I"⟩, 12), (⟨"MilkTruce", "isAllSoOfTrial", "()Z"⟩, 12), (⟨"MilkTruce", "isAtRest", "(IIII)Z"⟩, 12), (⟨"MilkTruce", "hoursOfPair", "(III)I"⟩, 12)]
theorem lw_r1 : ∀ q ∈ lw_privs_1, lw_okq q := List.forall_mem_cons.mpr ⟨lw_p0, List.forall_mem_cons.mpr ⟨lw_p1, List.forall_mem_cons.mpr ⟨lw_p2, List.forall_mem_cons.mpr ⟨lw_p3, List.forall_mem_cons.mpr ⟨lw_p4, List.forall_mem_cons.mpr ⟨lw_p5, List.forall_mem_cons.mpr ⟨lw_p6, List.forall_mem_cons.mpr ⟨lw_p7, List.forall_mem_cons.mpr ⟨lw_p8, List.forall_mem_cons.mpr ⟨lw_p9, List.forall_mem_cons.mpr ⟨lw_p10, List.forall_mem_cons.mpr ⟨lw_p11, List.forall_mem_cons.mpr ⟨lw_p12, List.forall_mem_cons.mpr ⟨lw_p13, List.forall_mem_cons.mpr ⟨lw_p14, List.forall_mem_cons.mpr ⟨lw_p15, fun _ h => absurd h List.not_mem_nil⟩⟩⟩⟩⟩⟩⟩⟩⟩⟩⟩⟩⟩⟩⟩⟩
theorem lw_p16 : lw_okq (⟨"MilkTruce", "stopsLastBySnows", "(II)Z"⟩, 12) := ⟨⟨by decide +kernel, by decide +kernel⟩, List.mem_of_getElem? (i := 14) (by decide +kernel), List.mem_of_getElem? (i := 619) (by decide +kernel), List.mem_of_getElem? (i := 620) (by decide +kernel)⟩
theorem lw_p17 : lw_okq (⟨"MilkTruceModel", "readText", "()I"⟩, 26) := ⟨⟨by decide +kernel, by decide +kernel⟩, List.mem_of_getElem? (i := 659) (by decide +kernel), List.mem_of_getElem? (i := 760) (by decide +kernel), List.mem_of_getElem? (i := 761) (by decide +kernel)⟩
theorem lw_p18 : lw_okq (⟨"MilkTruceModel", "figureOf", "(I)I"⟩, 26) := ⟨⟨by decide +kernel, by decide +kernel⟩, List.mem_of_getElem? (i := 659) (by decide +kernel), List.mem_of_getElem? (i := 764) (by decide +kernel), List.mem_of_getElem? (i := 765) (by decide +kernel)⟩
theorem lw_p19 : lw_okq (⟨"MilkTruceModel", "figure", "(II)I"⟩, 26) := ⟨⟨by decide +kernel, by decide +kernel⟩, List.mem_of_getElem? (i := 659) (by decide +kernel), List.mem_of_getElem? (i := 772) (by decide +kernel), List.mem_of_getElem? (i := 773) (by decide +kernel)⟩
theorem lw_p20 : lw_okq (⟨"MilkTruceModel", "readCow", "()V"⟩, 26) := ⟨⟨by decide +kernel, by decide +kernel⟩, List.mem_of_getElem? (i := 659) (by decide +kernel), List.mem_of_getElem? (i := 776) (by decide +kernel), List.mem_of_getElem? (i := 777) (by decide +kernel)⟩
theorem lw_p21 : lw_okq (⟨"MilkTruceModel", "isCow", "(I)Z"⟩, 26) := ⟨⟨by decide +kernel, by decide +kernel⟩, List.mem_of_getElem? (i := 659) (by decide +kernel), List.mem_of_getElem? (i := 792) (by decide +kernel), List.mem_of_getElem? (i := 793) (by decide +kernel)⟩
theorem lw_p22 : lw_okq (⟨"MilkTruceModel", "isDue", "(II)Z"⟩, 26) := ⟨⟨by decide +kernel, by decide +kernel⟩, List.mem_of_getElem? (i := 659) (by decide +kernel), List.mem_of_getElem? (i := 796) (by decide +kernel), List.mem_of_getElem? (i := 797) (by decide +kernel)⟩
theorem lw_p23 : lw_okq (⟨"MilkTruceModel", "keepAct", "()V"⟩, 26) := ⟨⟨by decide +kernel, by decide +kernel⟩, List.mem_of_getElem? (i := 659) (by decide +kernel), List.mem_of_getElem? (i := 804) (by decide +kernel), List.mem_of_getElem? (i := 805) (by decide +kernel)⟩
theorem lw_p24 : lw_okq (⟨"MilkTruceModel", "passOn", "(IIZ)I"⟩, 26) := ⟨⟨by decide +kernel, by decide +kernel⟩, List.mem_of_getElem? (i := 659) (by decide +kernel), List.mem_of_getElem? (i := 808) (by decide +kernel), List.mem_of_getElem? (i := 809) (by decide +kernel)⟩
theorem lw_p25 : lw_okq (⟨"MilkTruceModel", "sortOf", "(IIZ)I"⟩, 26) := ⟨⟨by decide +kernel, by decide +kernel⟩, List.mem_of_getElem? (i := 659) (by decide +kernel), List.mem_of_getElem? (i := 812) (by decide +kernel), List.mem_of_getElem? (i := 813) (by decide +kernel)⟩
theorem lw_p26 : lw_okq (⟨"MilkTruceModel", "isSomeDue", "(II)Z"⟩, 26) := ⟨⟨by decide +kernel, by decide +kernel⟩, List.mem_of_getElem? (i := 659) (by decide +kernel), List.mem_of_getElem? (i := 816) (by decide +kernel), List.mem_of_getElem? (i := 817) (by decide +kernel)⟩
theorem lw_p27 : lw_okq (⟨"MilkTruceModel", "eat", "(II)V"⟩, 26) := ⟨⟨by decide +kernel, by decide +kernel⟩, List.mem_of_getElem? (i := 659) (by decide +kernel), List.mem_of_getElem? (i := 820) (by decide +kernel), List.mem_of_getElem? (i := 821) (by decide +kernel)⟩
theorem lw_p28 : lw_okq (⟨"MilkTruceModel", "isCowOn", "(I)Z"⟩, 26) := ⟨⟨by decide +kernel, by decide +kernel⟩, List.mem_of_getElem? (i := 659) (by decide +kernel), List.mem_of_getElem? (i := 828) (by decide +kernel), List.mem_of_getElem? (i := 829) (by decide +kernel)⟩
theorem lw_p29 : lw_okq (⟨"MilkTruceModel", "layTrial", "()V"⟩, 26) := ⟨⟨by decide +kernel, by decide +kernel⟩, List.mem_of_getElem? (i := 659) (by decide +kernel), List.mem_of_getElem? (i := 849) (by decide +kernel), List.mem_of_getElem? (i := 850) (by decide +kernel)⟩
theorem lw_p30 : lw_okq (⟨"MilkTruceModel", "manyOf", "(III)I"⟩, 26) := ⟨⟨by decide +kernel, by decide +kernel⟩, List.mem_of_getElem? (i := 659) (by decide +kernel), List.mem_of_getElem? (i := 857) (by decide +kernel), List.mem_of_getElem? (i := 858) (by decide +kernel)⟩
theorem lw_p31 : lw_okq (⟨"MilkTruceModel", "isChoice", "(II)Z"⟩, 26) := ⟨⟨by decide +kernel, by decide +kernel⟩, List.mem_of_getElem? (i := 659) (by decide +kernel), List.mem_of_getElem? (i := 870) (by decide +kernel), List.mem_of_getElem? (i := 871) (by decide +kernel)⟩
def lw_privs_2 : List (MethodName × Nat) := [(⟨"MilkTruce", "stopsLastBySnows", "(II)Z"⟩, 12), (⟨"MilkTruceModel", "readText", "()I"⟩, 26), (⟨"MilkTruceModel", "figureOf", "(I)I"⟩, 26), (⟨"MilkTruceModel", "figure", "(II)I"⟩, 26), (⟨"MilkTruceModel", "readCow", "()V"⟩, 26), (⟨"MilkTruceModel", "isCow", "(I)Z"⟩, 26), (⟨"MilkTruceModel", "isDue", "(II)Z"⟩, 26), (⟨"MilkTruceModel", "keepAct", "()V"⟩, 26), (⟨"MilkTruceModel", "passOn", "(IIZ)I"⟩, 26), (⟨"MilkTruceModel", "sortOf", "(IIZ)I"⟩, 26), (⟨"MilkTruceModel", "isSomeDue", "(II)Z"⟩, 26), (⟨"MilkTruceModel", "eat", "(II)V"⟩, 26), (⟨"MilkTruceModel", "isCowOn", "(I)Z"⟩, 26), (⟨"MilkTruceModel", "layTrial", "()V"⟩, 26), (⟨"MilkTruceModel", "manyOf", "(III)I"⟩, 26), (⟨"MilkTruceModel", "isChoice", "(II)Z"⟩, 26)]
theorem lw_r2 : ∀ q ∈ lw_privs_2, lw_okq q := List.forall_mem_cons.mpr ⟨lw_p16, List.forall_mem_cons.mpr ⟨lw_p17, List.forall_mem_cons.mpr ⟨lw_p18, List.forall_mem_cons.mpr ⟨lw_p19, List.forall_mem_cons.mpr ⟨lw_p20, List.forall_mem_cons.mpr ⟨lw_p21, List.forall_mem_cons.mpr ⟨lw_p22, List.forall_mem_cons.mpr ⟨lw_p23, List.forall_mem_cons.mpr ⟨lw_p24, List.forall_mem_cons.mpr ⟨lw_p25, List.forall_mem_cons.mpr ⟨lw_p26, List.forall_mem_cons.mpr ⟨lw_p27, List.forall_mem_cons.mpr ⟨lw_p28, List.forall_mem_cons.mpr ⟨lw_p29, List.forall_mem_cons.mpr ⟨lw_p30, List.forall_mem_cons.mpr ⟨lw_p31, fun _ h => absurd h List.not_mem_nil⟩⟩⟩⟩⟩⟩⟩⟩⟩⟩⟩⟩⟩⟩⟩⟩
theorem lw_p32 : lw_okq (⟨"MilkTruceModel", "moveTrial", "(I)V"⟩, 26) := ⟨⟨by decide +kernel, by decide +kernel⟩, List.mem_of_getElem? (i := 659) (by decide +kernel), List.mem_of_getElem? (i := 874) (by decide +kernel), List.mem_of_getElem? (i := 875) (by decide +kernel)⟩
theorem lw_p33 : lw_okq (⟨"MilkTruceModel", "stopsBy", "(III)Z"⟩, 26) := ⟨⟨by decide +kernel, by decide +kernel⟩, List.mem_of_getElem? (i := 659) (by decide +kernel), List.mem_of_getElem? (i := 882) (by decide +kernel), List.mem_of_getElem? (i := 883) (by decide +kernel)⟩
theorem lw_p34 : lw_okq (⟨"MilkTruceModel", "fits", "(II)Z"⟩, 26) := ⟨⟨by decide +kernel, by decide +kernel⟩, List.mem_of_getElem? (i := 659) (by decide +kernel), List.mem_of_getElem? (i := 923) (by decide +kernel), List.mem_of_getElem? (i := 924) (by decide +kernel)⟩
theorem lw_p35 : lw_okq (⟨"MilkTruceModel", "layOns", "(I)V"⟩, 26) := ⟨⟨by decide +kernel, by decide +kernel⟩, List.mem_of_getElem? (i := 659) (by decide +kernel), List.mem_of_getElem? (i := 931) (by decide +kernel), List.mem_of_getElem? (i := 932) (by decide +kernel)⟩
theorem lw_p36 : lw_okq (⟨"MilkTruceModel", "isRest", "(II)Z"⟩, 26) := ⟨⟨by decide +kernel, by decide +kernel⟩, List.mem_of_getElem? (i := 659) (by decide +kernel), List.mem_of_getElem? (i := 935) (by decide +kernel), List.mem_of_getElem? (i := 936) (by decide +kernel)⟩
def lw_privs_3 : List (MethodName × Nat) := [(⟨"MilkTruceModel", "moveTrial", "(I)V"⟩, 26), (⟨"MilkTruceModel", "stopsBy", "(III)Z"⟩, 26), (⟨"MilkTruceModel", "fits", "(II)Z"⟩, 26), (⟨"MilkTruceModel", "layOns", "(I)V"⟩, 26), (⟨"MilkTruceModel", "isRest", "(II)Z"⟩, 26)]
theorem lw_r3 : ∀ q ∈ lw_privs_3, lw_okq q := List.forall_mem_cons.mpr ⟨lw_p32, List.forall_mem_cons.mpr ⟨lw_p33, List.forall_mem_cons.mpr ⟨lw_p34, List.forall_mem_cons.mpr ⟨lw_p35, List.forall_mem_cons.mpr ⟨lw_p36, fun _ h => absurd h List.not_mem_nil⟩⟩⟩⟩⟩
def lw_privs : List (MethodName × Nat) := lw_privs_1 ++ (lw_privs_2 ++ (lw_privs_3))
def lw_tbl : List Cond := k2_sels lw_privs ++ tables_1
theorem lw_privs_ok : ∀ q ∈ lw_privs, lw_okq q := by
  show ∀ q ∈ lw_privs_1 ++ (lw_privs_2 ++ (lw_privs_3)), lw_okq q
  exact List.forall_mem_append.mpr ⟨lw_r1, List.forall_mem_append.mpr ⟨lw_r2, lw_r3⟩⟩

def RX0 : String := "MilkTruce$ActRow"
def TX0 : u_T := fun k => match k with
  | 0 => ("MilkTruce$ActRow", "before", "LMilkTruce$Shelf;", true)
  | 1 => ("MilkTruce$ActRow", "first", "I", false)
  | _ => ("MilkTruce$ActRow", "many", "I", false)
def tyX0 : Nat → FieldType := fun k => match k with
  | 0 => .object "MilkTruce$Shelf"
  | 1 => .int
  | _ => .int
abbrev wsX00 : List Cond := u_ws RX0 TX0 3
theorem nmX0 : ∀ a, a < 3 → ∀ b, b < 3 → a ≠ b → (TX0 a).2.1 ≠ (TX0 b).2.1 := by decide +kernel
theorem tyX0_ok : ∀ k, k < 3 → parseFieldDescriptor (TX0 k).2.2.1 = some (tyX0 k) := by decide +kernel
abbrev cX0_init : ByteArray := prog_2_method_1_code
def yX0_init : MethodName := ⟨RX0, "<init>", "(LMilkTruce$Herd;)V"⟩
abbrev cX0_clear : ByteArray := prog_2_method_2_code
def yX0_clear : MethodName := ⟨RX0, "clear", "()V"⟩
abbrev cX0_size : ByteArray := prog_2_method_3_code
def yX0_size : MethodName := ⟨RX0, "size", "()I"⟩
abbrev cX0_remember : ByteArray := prog_2_method_4_code
def yX0_remember : MethodName := ⟨RX0, "remember", "(LMilkTruce$Meadow;)V"⟩
abbrev cX0_takeBack : ByteArray := prog_2_method_5_code
def yX0_takeBack : MethodName := ⟨RX0, "takeBack", "(LMilkTruce$Meadow;)V"⟩
def RX1 : String := "MilkTruce$Choices"
def TX1 : u_T := fun k => match k with
  | 0 => ("MilkTruce$Choices", "row", "[I", true)
  | _ => ("MilkTruce$Choices", "many", "I", false)
def tyX1 : Nat → FieldType := fun k => match k with
  | 0 => .array .int
  | _ => .int
abbrev wsX10 : List Cond := u_ws RX1 TX1 2
theorem nmX1 : ∀ a, a < 2 → ∀ b, b < 2 → a ≠ b → (TX1 a).2.1 ≠ (TX1 b).2.1 := by decide +kernel
theorem tyX1_ok : ∀ k, k < 2 → parseFieldDescriptor (TX1 k).2.2.1 = some (tyX1 k) := by decide +kernel
abbrev cX1_init : ByteArray := prog_3_method_1_code
def yX1_init : MethodName := ⟨RX1, "<init>", "()V"⟩
abbrev cX1_lookAt : ByteArray := prog_3_method_2_code
def yX1_lookAt : MethodName := ⟨RX1, "lookAt", "(LMilkTruce$Meadow;I)V"⟩
abbrev cX1_addMovesOf : ByteArray := prog_3_method_3_code
def yX1_addMovesOf : MethodName := ⟨RX1, "addMovesOf", "(ILMilkTruce$Meadow;)V"⟩
abbrev cX1_add : ByteArray := prog_3_method_4_code
def yX1_add : MethodName := ⟨RX1, "add", "(I)V"⟩
abbrev cX1_size : ByteArray := prog_3_method_5_code
def yX1_size : MethodName := ⟨RX1, "size", "()I"⟩
abbrev cX1_at : ByteArray := prog_3_method_6_code
def yX1_at : MethodName := ⟨RX1, "at", "(I)I"⟩
def RX2 : String := "MilkTruce$Herd"
def TX2 : u_T := fun k => match k with
  | 0 => ("MilkTruce$Herd", "sides", "[I", true)
  | 1 => ("MilkTruce$Herd", "kinds", "[I", true)
  | _ => ("MilkTruce$Herd", "cows", "I", false)
def tyX2 : Nat → FieldType := fun k => match k with
  | 0 => .array .int
  | 1 => .array .int
  | _ => .int
abbrev wsX20 : List Cond := u_ws RX2 TX2 3
theorem nmX2 : ∀ a, a < 3 → ∀ b, b < 3 → a ≠ b → (TX2 a).2.1 ≠ (TX2 b).2.1 := by decide +kernel
theorem tyX2_ok : ∀ k, k < 3 → parseFieldDescriptor (TX2 k).2.2.1 = some (tyX2 k) := by decide +kernel
abbrev cX2_init : ByteArray := prog_4_method_1_code
def yX2_init : MethodName := ⟨RX2, "<init>", "()V"⟩
abbrev cX2_clear : ByteArray := prog_4_method_2_code
def yX2_clear : MethodName := ⟨RX2, "clear", "()V"⟩
abbrev cX2_add : ByteArray := prog_4_method_3_code
def yX2_add : MethodName := ⟨RX2, "add", "(II)V"⟩
abbrev cX2_size : ByteArray := prog_4_method_4_code
def yX2_size : MethodName := ⟨RX2, "size", "()I"⟩
abbrev cX2_has : ByteArray := prog_4_method_5_code
def yX2_has : MethodName := ⟨RX2, "has", "(I)Z"⟩
abbrev cX2_sideOf : ByteArray := prog_4_method_6_code
def yX2_sideOf : MethodName := ⟨RX2, "sideOf", "(I)I"⟩
abbrev cX2_kindOf : ByteArray := prog_4_method_7_code
def yX2_kindOf : MethodName := ⟨RX2, "kindOf", "(I)I"⟩
def RX3 : String := "MilkTruce$Meadow"
def TX3 : u_T := fun k => match k with
  | 0 => ("MilkTruce$Meadow", "herd", "LMilkTruce$Herd;", true)
  | 1 => ("MilkTruce$Meadow", "clover", "[I", true)
  | 2 => ("MilkTruce$Meadow", "cells", "[I", true)
  | 3 => ("MilkTruce$Meadow", "fullnesses", "[I", true)
  | 4 => ("MilkTruce$Meadow", "pails", "[I", true)
  | 5 => ("MilkTruce$Meadow", "here", "I", false)
  | 6 => ("MilkTruce$Meadow", "snowing", "Z", false)
  | 7 => ("MilkTruce$Meadow", "hours", "I", false)
  | _ => ("MilkTruce$Meadow", "warHours", "I", false)
def tyX3 : Nat → FieldType := fun k => match k with
  | 0 => .object "MilkTruce$Herd"
  | 1 => .array .int
  | 2 => .array .int
  | 3 => .array .int
  | 4 => .array .int
  | 5 => .int
  | 6 => .boolean
  | 7 => .int
  | _ => .int
abbrev wsX30 : List Cond := u_ws RX3 TX3 9
theorem nmX3 : ∀ a, a < 9 → ∀ b, b < 9 → a ≠ b → (TX3 a).2.1 ≠ (TX3 b).2.1 := by decide +kernel
theorem tyX3_ok : ∀ k, k < 9 → parseFieldDescriptor (TX3 k).2.2.1 = some (tyX3 k) := by decide +kernel
abbrev cX3_init : ByteArray := prog_5_method_1_code
def yX3_init : MethodName := ⟨RX3, "<init>", "(LMilkTruce$Herd;)V"⟩
abbrev cX3_clear : ByteArray := prog_5_method_2_code
def yX3_clear : MethodName := ⟨RX3, "clear", "()V"⟩
abbrev cX3_become : ByteArray := prog_5_method_3_code
def yX3_become : MethodName := ⟨RX3, "become", "(LMilkTruce$Meadow;)V"⟩
abbrev cX3_addCow : ByteArray := prog_5_method_4_code
def yX3_addCow : MethodName := ⟨RX3, "addCow", "(IIII)V"⟩
abbrev cX3_sendAwayAllBut : ByteArray := prog_5_method_5_code
def yX3_sendAwayAllBut : MethodName := ⟨RX3, "sendAwayAllBut", "(I)V"⟩
abbrev cX3_isHere : ByteArray := prog_5_method_6_code
def yX3_isHere : MethodName := ⟨RX3, "isHere", "(I)Z"⟩
abbrev cX3_isOfSide : ByteArray := prog_5_method_7_code
def yX3_isOfSide : MethodName := ⟨RX3, "isOfSide", "(II)Z"⟩
abbrev cX3_cellOf : ByteArray := prog_5_method_8_code
def yX3_cellOf : MethodName := ⟨RX3, "cellOf", "(I)I"⟩
abbrev cX3_fullnessOf : ByteArray := prog_5_method_9_code
def yX3_fullnessOf : MethodName := ⟨RX3, "fullnessOf", "(I)I"⟩
abbrev cX3_putCow : ByteArray := prog_5_method_10_code
def yX3_putCow : MethodName := ⟨RX3, "putCow", "(II)V"⟩
abbrev cX3_fillCow : ByteArray := prog_5_method_11_code
def yX3_fillCow : MethodName := ⟨RX3, "fillCow", "(II)V"⟩
abbrev cX3_moveBy : ByteArray := prog_5_method_12_code
def yX3_moveBy : MethodName := ⟨RX3, "moveBy", "(I)V"⟩
abbrev cX3_isGrazed : ByteArray := prog_5_method_13_code
def yX3_isGrazed : MethodName := ⟨RX3, "isGrazed", "(I)Z"⟩
abbrev cX3_cloverOn : ByteArray := prog_5_method_14_code
def yX3_cloverOn : MethodName := ⟨RX3, "cloverOn", "(I)I"⟩
abbrev cX3_growOn : ByteArray := prog_5_method_15_code
def yX3_growOn : MethodName := ⟨RX3, "growOn", "(II)V"⟩
abbrev cX3_maySow : ByteArray := prog_5_method_16_code
def yX3_maySow : MethodName := ⟨RX3, "maySow", "(I)Z"⟩
abbrev cX3_sowOn : ByteArray := prog_5_method_17_code
def yX3_sowOn : MethodName := ⟨RX3, "sowOn", "(I)V"⟩
abbrev cX3_isSnowing : ByteArray := prog_5_method_18_code
def yX3_isSnowing : MethodName := ⟨RX3, "isSnowing", "()Z"⟩
abbrev cX3_letSnow : ByteArray := prog_5_method_19_code
def yX3_letSnow : MethodName := ⟨RX3, "letSnow", "(Z)V"⟩
abbrev cX3_pailsOf : ByteArray := prog_5_method_20_code
def yX3_pailsOf : MethodName := ⟨RX3, "pailsOf", "(I)I"⟩
abbrev cX3_hourNow : ByteArray := prog_5_method_21_code
def yX3_hourNow : MethodName := ⟨RX3, "hourNow", "()I"⟩
abbrev cX3_hoursOfWar : ByteArray := prog_5_method_22_code
def yX3_hoursOfWar : MethodName := ⟨RX3, "hoursOfWar", "()I"⟩
abbrev cX3_isDue : ByteArray := prog_5_method_23_code
def yX3_isDue : MethodName := ⟨RX3, "isDue", "(I)Z"⟩
abbrev cX3_isWarning : ByteArray := prog_5_method_24_code
def yX3_isWarning : MethodName := ⟨RX3, "isWarning", "(I)Z"⟩
abbrev cX3_sortOfHour : ByteArray := prog_5_method_25_code
def yX3_sortOfHour : MethodName := ⟨RX3, "sortOfHour", "(Z)I"⟩
abbrev cX3_hourComes : ByteArray := prog_5_method_26_code
def yX3_hourComes : MethodName := ⟨RX3, "hourComes", "(Z)I"⟩
abbrev cX3_countOf : ByteArray := prog_5_method_27_code
def yX3_countOf : MethodName := ⟨RX3, "countOf", "(II)I"⟩
abbrev cX3_lastSortOf : ByteArray := prog_5_method_28_code
def yX3_lastSortOf : MethodName := ⟨RX3, "lastSortOf", "(I)I"⟩
abbrev cX3_milkDueCows : ByteArray := prog_5_method_29_code
def yX3_milkDueCows : MethodName := ⟨RX3, "milkDueCows", "()V"⟩
abbrev cX3_letCowsEat : ByteArray := prog_5_method_30_code
def yX3_letCowsEat : MethodName := ⟨RX3, "letCowsEat", "()V"⟩
def RX4 : String := "MilkTruce$PassText"
def TX4 : u_T := fun k => match k with
  | 0 => ("MilkTruce$PassText", "letters", "[I", true)
  | _ => ("MilkTruce$PassText", "length", "I", false)
def tyX4 : Nat → FieldType := fun k => match k with
  | 0 => .array .int
  | _ => .int
abbrev wsX40 : List Cond := u_ws RX4 TX4 2
theorem nmX4 : ∀ a, a < 2 → ∀ b, b < 2 → a ≠ b → (TX4 a).2.1 ≠ (TX4 b).2.1 := by decide +kernel
theorem tyX4_ok : ∀ k, k < 2 → parseFieldDescriptor (TX4 k).2.2.1 = some (tyX4 k) := by decide +kernel
abbrev cX4_init : ByteArray := prog_6_method_1_code
def yX4_init : MethodName := ⟨RX4, "<init>", "()V"⟩
abbrev cX4_size : ByteArray := prog_6_method_2_code
def yX4_size : MethodName := ⟨RX4, "size", "()I"⟩
abbrev cX4_clear : ByteArray := prog_6_method_3_code
def yX4_clear : MethodName := ⟨RX4, "clear", "()V"⟩
abbrev cX4_add : ByteArray := prog_6_method_4_code
def yX4_add : MethodName := ⟨RX4, "add", "(I)Z"⟩
abbrev cX4_letter : ByteArray := prog_6_method_5_code
def yX4_letter : MethodName := ⟨RX4, "letter", "(I)I"⟩
abbrev cX4_figure : ByteArray := prog_6_method_6_code
def yX4_figure : MethodName := ⟨RX4, "figure", "(I)I"⟩
abbrev cX4_faultPlace : ByteArray := prog_6_method_7_code
def yX4_faultPlace : MethodName := ⟨RX4, "faultPlace", "()I"⟩
abbrev cX4_faultOfPart : ByteArray := prog_6_method_8_code
def yX4_faultOfPart : MethodName := ⟨RX4, "faultOfPart", "(I[I[II)I"⟩
abbrev cX4_tellTo : ByteArray := prog_6_method_9_code
def yX4_tellTo : MethodName := ⟨RX4, "tellTo", "(LMilkTruce$Meadow;)V"⟩
def RX5 : String := "MilkTruce$Shelf"
def TX5 : u_T := fun k => match k with
  | _ => ("MilkTruce$Shelf", "places", "[LMilkTruce$Meadow;", true)
def tyX5 : Nat → FieldType := fun k => match k with
  | _ => .array (.object "MilkTruce$Meadow")
abbrev wsX50 : List Cond := u_ws RX5 TX5 1
theorem nmX5 : ∀ a, a < 1 → ∀ b, b < 1 → a ≠ b → (TX5 a).2.1 ≠ (TX5 b).2.1 := by decide +kernel
theorem tyX5_ok : ∀ k, k < 1 → parseFieldDescriptor (TX5 k).2.2.1 = some (tyX5 k) := by decide +kernel
abbrev cX5_init : ByteArray := prog_7_method_1_code
def yX5_init : MethodName := ⟨RX5, "<init>", "(ILMilkTruce$Herd;)V"⟩
abbrev cX5_at : ByteArray := prog_7_method_2_code
def yX5_at : MethodName := ⟨RX5, "at", "(I)LMilkTruce$Meadow;"⟩
abbrev cX5_put : ByteArray := prog_7_method_3_code
def yX5_put : MethodName := ⟨RX5, "put", "(ILMilkTruce$Meadow;)V"⟩
abbrev cX5_take : ByteArray := prog_7_method_4_code
def yX5_take : MethodName := ⟨RX5, "take", "(ILMilkTruce$Meadow;)V"⟩
def RX6 : String := "MilkTruce$Tellings"
def TX6 : u_T := fun k => match k with
  | 0 => ("MilkTruce$Tellings", "cows", "[I", true)
  | 1 => ("MilkTruce$Tellings", "hours", "[I", true)
  | 2 => ("MilkTruce$Tellings", "dues", "[Z", true)
  | _ => ("MilkTruce$Tellings", "many", "I", false)
def tyX6 : Nat → FieldType := fun k => match k with
  | 0 => .array .int
  | 1 => .array .int
  | 2 => .array .boolean
  | _ => .int
abbrev wsX60 : List Cond := u_ws RX6 TX6 4
theorem nmX6 : ∀ a, a < 4 → ∀ b, b < 4 → a ≠ b → (TX6 a).2.1 ≠ (TX6 b).2.1 := by decide +kernel
theorem tyX6_ok : ∀ k, k < 4 → parseFieldDescriptor (TX6 k).2.2.1 = some (tyX6 k) := by decide +kernel
abbrev cX6_init : ByteArray := prog_8_method_1_code
def yX6_init : MethodName := ⟨RX6, "<init>", "()V"⟩
abbrev cX6_clear : ByteArray := prog_8_method_2_code
def yX6_clear : MethodName := ⟨RX6, "clear", "()V"⟩
abbrev cX6_size : ByteArray := prog_8_method_3_code
def yX6_size : MethodName := ⟨RX6, "size", "()I"⟩
abbrev cX6_add : ByteArray := prog_8_method_4_code
def yX6_add : MethodName := ⟨RX6, "add", "(IIZ)Z"⟩
abbrev cX6_areSoOf : ByteArray := prog_8_method_5_code
def yX6_areSoOf : MethodName := ⟨RX6, "areSoOf", "(LMilkTruce$Meadow;I)Z"⟩
def RX7 : String := "MilkTruce"
def TX7 : u_T := fun k => match k with
  | 0 => ("MilkTruce", "text", "LMilkTruce$PassText;", true)
  | 1 => ("MilkTruce", "herd", "LMilkTruce$Herd;", true)
  | 2 => ("MilkTruce", "meadow", "LMilkTruce$Meadow;", true)
  | 3 => ("MilkTruce", "trial", "LMilkTruce$Meadow;", true)
  | 4 => ("MilkTruce", "acts", "LMilkTruce$ActRow;", true)
  | 5 => ("MilkTruce", "kept", "LMilkTruce$Shelf;", true)
  | 6 => ("MilkTruce", "isKept", "[Z", true)
  | 7 => ("MilkTruce", "tellings", "LMilkTruce$Tellings;", true)
  | 8 => ("MilkTruce", "choicesOfSide0", "LMilkTruce$Choices;", true)
  | 9 => ("MilkTruce", "choicesOfSide1", "LMilkTruce$Choices;", true)
  | 10 => ("MilkTruce", "pairHours", "[I", true)
  | _ => ("MilkTruce", "seedNow", "J", false)
def tyX7 : Nat → FieldType := fun k => match k with
  | 0 => .object "MilkTruce$PassText"
  | 1 => .object "MilkTruce$Herd"
  | 2 => .object "MilkTruce$Meadow"
  | 3 => .object "MilkTruce$Meadow"
  | 4 => .object "MilkTruce$ActRow"
  | 5 => .object "MilkTruce$Shelf"
  | 6 => .array .boolean
  | 7 => .object "MilkTruce$Tellings"
  | 8 => .object "MilkTruce$Choices"
  | 9 => .object "MilkTruce$Choices"
  | 10 => .array .int
  | _ => .long
abbrev wsX70 : List Cond := u_ws RX7 TX7 12
theorem nmX7 : ∀ a, a < 12 → ∀ b, b < 12 → a ≠ b → (TX7 a).2.1 ≠ (TX7 b).2.1 := by decide +kernel
theorem tyX7_ok : ∀ k, k < 12 → parseFieldDescriptor (TX7 k).2.2.1 = some (tyX7 k) := by decide +kernel
abbrev cX7_init : ByteArray := prog_1_method_1_code
def yX7_init : MethodName := ⟨RX7, "<init>", "()V"⟩
abbrev cX7_write : ByteArray := prog_1_method_2_code
def yX7_write : MethodName := ⟨RX7, "write", "(I)I"⟩
abbrev cX7_wipe : ByteArray := prog_1_method_3_code
def yX7_wipe : MethodName := ⟨RX7, "wipe", "()I"⟩
abbrev cX7_fault : ByteArray := prog_1_method_4_code
def yX7_fault : MethodName := ⟨RX7, "fault", "()I"⟩
abbrev cX7_pass : ByteArray := prog_1_method_5_code
def yX7_pass : MethodName := ⟨RX7, "pass", "()I"⟩
abbrev cX7_clover : ByteArray := prog_1_method_6_code
def yX7_clover : MethodName := ⟨RX7, "clover", "(I)I"⟩
abbrev cX7_cow : ByteArray := prog_1_method_7_code
def yX7_cow : MethodName := ⟨RX7, "cow", "(II)I"⟩
abbrev cX7_hour : ByteArray := prog_1_method_8_code
def yX7_hour : MethodName := ⟨RX7, "hour", "(Z)I"⟩
abbrev cX7_move : ByteArray := prog_1_method_9_code
def yX7_move : MethodName := ⟨RX7, "move", "(II)I"⟩
abbrev cX7_sow : ByteArray := prog_1_method_10_code
def yX7_sow : MethodName := ⟨RX7, "sow", "(I)I"⟩
abbrev cX7_snow : ByteArray := prog_1_method_11_code
def yX7_snow : MethodName := ⟨RX7, "snow", "()I"⟩
abbrev cX7_undo : ByteArray := prog_1_method_12_code
def yX7_undo : MethodName := ⟨RX7, "undo", "()I"⟩
abbrev cX7_sorts : ByteArray := prog_1_method_13_code
def yX7_sorts : MethodName := ⟨RX7, "sorts", "(I)I"⟩
abbrev cX7_on : ByteArray := prog_1_method_14_code
def yX7_on : MethodName := ⟨RX7, "on", "(I)I"⟩
abbrev cX7_milk : ByteArray := prog_1_method_15_code
def yX7_milk : MethodName := ⟨RX7, "milk", "(II)I"⟩
abbrev cX7_graze : ByteArray := prog_1_method_16_code
def yX7_graze : MethodName := ⟨RX7, "graze", "(IIZI)I"⟩
abbrev cX7_fewest : ByteArray := prog_1_method_17_code
def yX7_fewest : MethodName := ⟨RX7, "fewest", "(IZ)I"⟩
abbrev cX7_judge : ByteArray := prog_1_method_18_code
def yX7_judge : MethodName := ⟨RX7, "judge", "(II)I"⟩
abbrev cX7_share : ByteArray := prog_1_method_19_code
def yX7_share : MethodName := ⟨RX7, "share", "(IIZ)I"⟩
abbrev cX7_rang : ByteArray := prog_1_method_20_code
def yX7_rang : MethodName := ⟨RX7, "rang", "(II)I"⟩
abbrev cX7_tell : ByteArray := prog_1_method_21_code
def yX7_tell : MethodName := ⟨RX7, "tell", "(IIZ)I"⟩
abbrev cX7_untell : ByteArray := prog_1_method_22_code
def yX7_untell : MethodName := ⟨RX7, "untell", "()I"⟩
abbrev cX7_full : ByteArray := prog_1_method_23_code
def yX7_full : MethodName := ⟨RX7, "full", "(I)I"⟩
abbrev cX7_rests : ByteArray := prog_1_method_24_code
def yX7_rests : MethodName := ⟨RX7, "rests", "(II)I"⟩
abbrev cX7_chance : ByteArray := prog_1_method_25_code
def yX7_chance : MethodName := ⟨RX7, "chance", "(IIZ)I"⟩
abbrev cX7_seed : ByteArray := prog_1_method_26_code
def yX7_seed : MethodName := ⟨RX7, "seed", "(J)J"⟩
abbrev cX7_summers : ByteArray := prog_1_method_27_code
def yX7_summers : MethodName := ⟨RX7, "summers", "(I)I"⟩
abbrev cX7_keep : ByteArray := prog_1_method_28_code
def yX7_keep : MethodName := ⟨RX7, "keep", "(I)I"⟩
abbrev cX7_again : ByteArray := prog_1_method_29_code
def yX7_again : MethodName := ⟨RX7, "again", "(I)I"⟩
abbrev cX7_count : ByteArray := prog_1_method_30_code
def yX7_count : MethodName := ⟨RX7, "count", "(I)I"⟩
abbrev cX7_isCell : ByteArray := prog_1_method_31_code
def yX7_isCell : MethodName := ⟨RX7, "isCell", "(I)Z"⟩
abbrev cX7_isSide : ByteArray := prog_1_method_32_code
def yX7_isSide : MethodName := ⟨RX7, "isSide", "(I)Z"⟩
abbrev cX7_isSlot : ByteArray := prog_1_method_33_code
def yX7_isSlot : MethodName := ⟨RX7, "isSlot", "(I)Z"⟩
abbrev cX7_isAhead : ByteArray := prog_1_method_34_code
def yX7_isAhead : MethodName := ⟨RX7, "isAhead", "(I)Z"⟩
abbrev cX7_cowOfChoice : ByteArray := prog_1_method_35_code
def yX7_cowOfChoice : MethodName := ⟨RX7, "cowOfChoice", "(I)I"⟩
abbrev cX7_cellOfChoice : ByteArray := prog_1_method_36_code
def yX7_cellOfChoice : MethodName := ⟨RX7, "cellOfChoice", "(I)I"⟩
abbrev cX7_areToOneCell : ByteArray := prog_1_method_37_code
def yX7_areToOneCell : MethodName := ⟨RX7, "areToOneCell", "(II)Z"⟩
abbrev cX7_hoursOnAfter : ByteArray := prog_1_method_38_code
def yX7_hoursOnAfter : MethodName := ⟨RX7, "hoursOnAfter", "(III)I"⟩
abbrev cX7_stopsOf : ByteArray := prog_1_method_39_code
def yX7_stopsOf : MethodName := ⟨RX7, "stopsOf", "(II)I"⟩
abbrev cX7_stopsAfterSowing : ByteArray := prog_1_method_40_code
def yX7_stopsAfterSowing : MethodName := ⟨RX7, "stopsAfterSowing", "(III)Z"⟩
abbrev cX7_stopsLastBySnows : ByteArray := prog_1_method_41_code
def yX7_stopsLastBySnows : MethodName := ⟨RX7, "stopsLastBySnows", "(II)Z"⟩
abbrev cX7_isAllSoOfTrial : ByteArray := prog_1_method_42_code
def yX7_isAllSoOfTrial : MethodName := ⟨RX7, "isAllSoOfTrial", "()Z"⟩
abbrev cX7_choicesOf : ByteArray := prog_1_method_43_code
def yX7_choicesOf : MethodName := ⟨RX7, "choicesOf", "(I)LMilkTruce$Choices;"⟩
abbrev cX7_hoursOfPair : ByteArray := prog_1_method_44_code
def yX7_hoursOfPair : MethodName := ⟨RX7, "hoursOfPair", "(III)I"⟩
abbrev cX7_isAtRest : ByteArray := prog_1_method_45_code
def yX7_isAtRest : MethodName := ⟨RX7, "isAtRest", "(IIII)Z"⟩
abbrev cX7_termOf : ByteArray := prog_1_method_46_code
def yX7_termOf : MethodName := ⟨RX7, "termOf", "(IIZ)I"⟩
abbrev cX7_commonDivisor : ByteArray := prog_1_method_47_code
def yX7_commonDivisor : MethodName := ⟨RX7, "commonDivisor", "(II)I"⟩
abbrev cX7_powerOfTen : ByteArray := prog_1_method_48_code
def yX7_powerOfTen : MethodName := ⟨RX7, "powerOfTen", "(I)I"⟩
abbrev cX7_power : ByteArray := prog_1_method_49_code
def yX7_power : MethodName := ⟨RX7, "power", "(II)I"⟩
abbrev cX7_factorial : ByteArray := prog_1_method_50_code
def yX7_factorial : MethodName := ⟨RX7, "factorial", "(I)I"⟩
def RX8 : String := "MilkTruceModel"
def TX8 : u_T := fun k => match k with
  | 0 => ("MilkTruceModel", "cows", "I", false)
  | 1 => ("MilkTruceModel", "side", "[I", true)
  | 2 => ("MilkTruceModel", "kind", "[I", true)
  | 3 => ("MilkTruceModel", "now", "[I", true)
  | 4 => ("MilkTruceModel", "read", "[I", true)
  | 5 => ("MilkTruceModel", "readSide", "[I", true)
  | 6 => ("MilkTruceModel", "readKind", "[I", true)
  | 7 => ("MilkTruceModel", "readCows", "I", false)
  | 8 => ("MilkTruceModel", "readClover", "I", false)
  | 9 => ("MilkTruceModel", "readCells", "I", false)
  | 10 => ("MilkTruceModel", "text", "[I", true)
  | 11 => ("MilkTruceModel", "length", "I", false)
  | 12 => ("MilkTruceModel", "at", "I", false)
  | 13 => ("MilkTruceModel", "faultAt", "I", false)
  | 14 => ("MilkTruceModel", "acts", "I", false)
  | 15 => ("MilkTruceModel", "next", "I", false)
  | 16 => ("MilkTruceModel", "row", "[I", true)
  | 17 => ("MilkTruceModel", "stops", "[I", true)
  | 18 => ("MilkTruceModel", "tolds", "I", false)
  | 19 => ("MilkTruceModel", "toldOf", "[I", true)
  | 20 => ("MilkTruceModel", "toldAt", "[I", true)
  | 21 => ("MilkTruceModel", "toldDue", "[Z", true)
  | 22 => ("MilkTruceModel", "ons", "[I", true)
  | 23 => ("MilkTruceModel", "seed", "J", false)
  | 24 => ("MilkTruceModel", "isKept", "[Z", true)
  | _ => ("MilkTruceModel", "kept", "[I", true)
def tyX8 : Nat → FieldType := fun k => match k with
  | 0 => .int
  | 1 => .array .int
  | 2 => .array .int
  | 3 => .array .int
  | 4 => .array .int
  | 5 => .array .int
  | 6 => .array .int
  | 7 => .int
  | 8 => .int
  | 9 => .int
  | 10 => .array .int
  | 11 => .int
  | 12 => .int
  | 13 => .int
  | 14 => .int
  | 15 => .int
  | 16 => .array .int
  | 17 => .array .int
  | 18 => .int
  | 19 => .array .int
  | 20 => .array .int
  | 21 => .array .boolean
  | 22 => .array .int
  | 23 => .long
  | 24 => .array .boolean
  | _ => .array .int
abbrev wsX80 : List Cond := u_ws RX8 TX8 26
theorem nmX8 : ∀ a, a < 26 → ∀ b, b < 26 → a ≠ b → (TX8 a).2.1 ≠ (TX8 b).2.1 := by decide +kernel
theorem tyX8_ok : ∀ k, k < 26 → parseFieldDescriptor (TX8 k).2.2.1 = some (tyX8 k) := by decide +kernel
abbrev cX8_init : ByteArray := prog_10_method_1_code
def yX8_init : MethodName := ⟨RX8, "<init>", "()V"⟩
abbrev cX8_in : ByteArray := prog_10_method_3_code
def yX8_in : MethodName := ⟨RX8, "in", "(JJJ)Z"⟩
abbrev cX8_has : ByteArray := prog_10_method_4_code
def yX8_has : MethodName := ⟨RX8, "has", "(II)Z"⟩
abbrev cX8_ones : ByteArray := prog_10_method_5_code
def yX8_ones : MethodName := ⟨RX8, "ones", "(I)I"⟩
abbrev cX8_write : ByteArray := prog_10_method_6_code
def yX8_write : MethodName := ⟨RX8, "write", "(I)I"⟩
abbrev cX8_wipe : ByteArray := prog_10_method_7_code
def yX8_wipe : MethodName := ⟨RX8, "wipe", "()I"⟩
abbrev cX8_figure : ByteArray := prog_10_method_8_code
def yX8_figure : MethodName := ⟨RX8, "figure", "(II)I"⟩
abbrev cX8_figureOf : ByteArray := prog_10_method_9_code
def yX8_figureOf : MethodName := ⟨RX8, "figureOf", "(I)I"⟩
abbrev cX8_readText : ByteArray := prog_10_method_10_code
def yX8_readText : MethodName := ⟨RX8, "readText", "()I"⟩
abbrev cX8_readCow : ByteArray := prog_10_method_11_code
def yX8_readCow : MethodName := ⟨RX8, "readCow", "()V"⟩
abbrev cX8_fault : ByteArray := prog_10_method_12_code
def yX8_fault : MethodName := ⟨RX8, "fault", "()I"⟩
abbrev cX8_pass : ByteArray := prog_10_method_13_code
def yX8_pass : MethodName := ⟨RX8, "pass", "()I"⟩
abbrev cX8_isCow : ByteArray := prog_10_method_14_code
def yX8_isCow : MethodName := ⟨RX8, "isCow", "(I)Z"⟩
abbrev cX8_clover : ByteArray := prog_10_method_15_code
def yX8_clover : MethodName := ⟨RX8, "clover", "(I)I"⟩
abbrev cX8_isDue : ByteArray := prog_10_method_16_code
def yX8_isDue : MethodName := ⟨RX8, "isDue", "(II)Z"⟩
abbrev cX8_cow : ByteArray := prog_10_method_17_code
def yX8_cow : MethodName := ⟨RX8, "cow", "(II)I"⟩
abbrev cX8_isSomeDue : ByteArray := prog_10_method_18_code
def yX8_isSomeDue : MethodName := ⟨RX8, "isSomeDue", "(II)Z"⟩
abbrev cX8_sortOf : ByteArray := prog_10_method_19_code
def yX8_sortOf : MethodName := ⟨RX8, "sortOf", "(IIZ)I"⟩
abbrev cX8_eat : ByteArray := prog_10_method_20_code
def yX8_eat : MethodName := ⟨RX8, "eat", "(II)V"⟩
abbrev cX8_passOn : ByteArray := prog_10_method_21_code
def yX8_passOn : MethodName := ⟨RX8, "passOn", "(IIZ)I"⟩
abbrev cX8_keepAct : ByteArray := prog_10_method_22_code
def yX8_keepAct : MethodName := ⟨RX8, "keepAct", "()V"⟩
abbrev cX8_hour : ByteArray := prog_10_method_23_code
def yX8_hour : MethodName := ⟨RX8, "hour", "(Z)I"⟩
abbrev cX8_isCowOn : ByteArray := prog_10_method_24_code
def yX8_isCowOn : MethodName := ⟨RX8, "isCowOn", "(I)Z"⟩
abbrev cX8_move : ByteArray := prog_10_method_25_code
def yX8_move : MethodName := ⟨RX8, "move", "(II)I"⟩
abbrev cX8_sow : ByteArray := prog_10_method_26_code
def yX8_sow : MethodName := ⟨RX8, "sow", "(I)I"⟩
abbrev cX8_snow : ByteArray := prog_10_method_27_code
def yX8_snow : MethodName := ⟨RX8, "snow", "()I"⟩
abbrev cX8_undo : ByteArray := prog_10_method_28_code
def yX8_undo : MethodName := ⟨RX8, "undo", "()I"⟩
abbrev cX8_layTrial : ByteArray := prog_10_method_29_code
def yX8_layTrial : MethodName := ⟨RX8, "layTrial", "()V"⟩
abbrev cX8_sorts : ByteArray := prog_10_method_30_code
def yX8_sorts : MethodName := ⟨RX8, "sorts", "(I)I"⟩
abbrev cX8_manyOf : ByteArray := prog_10_method_31_code
def yX8_manyOf : MethodName := ⟨RX8, "manyOf", "(III)I"⟩
abbrev cX8_on : ByteArray := prog_10_method_32_code
def yX8_on : MethodName := ⟨RX8, "on", "(I)I"⟩
abbrev cX8_milk : ByteArray := prog_10_method_33_code
def yX8_milk : MethodName := ⟨RX8, "milk", "(II)I"⟩
abbrev cX8_isChoice : ByteArray := prog_10_method_34_code
def yX8_isChoice : MethodName := ⟨RX8, "isChoice", "(II)Z"⟩
abbrev cX8_moveTrial : ByteArray := prog_10_method_35_code
def yX8_moveTrial : MethodName := ⟨RX8, "moveTrial", "(I)V"⟩
abbrev cX8_graze : ByteArray := prog_10_method_36_code
def yX8_graze : MethodName := ⟨RX8, "graze", "(IIZI)I"⟩
abbrev cX8_stopsBy : ByteArray := prog_10_method_37_code
def yX8_stopsBy : MethodName := ⟨RX8, "stopsBy", "(III)Z"⟩
abbrev cX8_fewest : ByteArray := prog_10_method_38_code
def yX8_fewest : MethodName := ⟨RX8, "fewest", "(IZ)I"⟩
abbrev cX8_tenTo : ByteArray := prog_10_method_39_code
def yX8_tenTo : MethodName := ⟨RX8, "tenTo", "(I)I"⟩
abbrev cX8_judge : ByteArray := prog_10_method_40_code
def yX8_judge : MethodName := ⟨RX8, "judge", "(II)I"⟩
abbrev cX8_factorial : ByteArray := prog_10_method_41_code
def yX8_factorial : MethodName := ⟨RX8, "factorial", "(I)I"⟩
abbrev cX8_common : ByteArray := prog_10_method_42_code
def yX8_common : MethodName := ⟨RX8, "common", "(II)I"⟩
abbrev cX8_share : ByteArray := prog_10_method_43_code
def yX8_share : MethodName := ⟨RX8, "share", "(IIZ)I"⟩
abbrev cX8_rang : ByteArray := prog_10_method_44_code
def yX8_rang : MethodName := ⟨RX8, "rang", "(II)I"⟩
abbrev cX8_tell : ByteArray := prog_10_method_45_code
def yX8_tell : MethodName := ⟨RX8, "tell", "(IIZ)I"⟩
abbrev cX8_untell : ByteArray := prog_10_method_46_code
def yX8_untell : MethodName := ⟨RX8, "untell", "()I"⟩
abbrev cX8_fits : ByteArray := prog_10_method_47_code
def yX8_fits : MethodName := ⟨RX8, "fits", "(II)Z"⟩
abbrev cX8_full : ByteArray := prog_10_method_48_code
def yX8_full : MethodName := ⟨RX8, "full", "(I)I"⟩
abbrev cX8_layOns : ByteArray := prog_10_method_49_code
def yX8_layOns : MethodName := ⟨RX8, "layOns", "(I)V"⟩
abbrev cX8_isRest : ByteArray := prog_10_method_50_code
def yX8_isRest : MethodName := ⟨RX8, "isRest", "(II)Z"⟩
abbrev cX8_rests : ByteArray := prog_10_method_51_code
def yX8_rests : MethodName := ⟨RX8, "rests", "(II)I"⟩
abbrev cX8_chance : ByteArray := prog_10_method_52_code
def yX8_chance : MethodName := ⟨RX8, "chance", "(IIZ)I"⟩
abbrev cX8_seed : ByteArray := prog_10_method_53_code
def yX8_seed : MethodName := ⟨RX8, "seed", "(J)J"⟩
abbrev cX8_summers : ByteArray := prog_10_method_54_code
def yX8_summers : MethodName := ⟨RX8, "summers", "(I)I"⟩
abbrev cX8_keep : ByteArray := prog_10_method_55_code
def yX8_keep : MethodName := ⟨RX8, "keep", "(I)I"⟩
abbrev cX8_again : ByteArray := prog_10_method_56_code
def yX8_again : MethodName := ⟨RX8, "again", "(I)I"⟩
abbrev cX8_count : ByteArray := prog_10_method_57_code
def yX8_count : MethodName := ⟨RX8, "count", "(I)I"⟩
def RJ6 : String := "java/lang/Integer"
abbrev cJ6_bitCount_0f7a4 : ByteArray := prog_11_method_49_code
def yJ6_bitCount_0f7a4 : MethodName := ⟨RJ6, "bitCount", "(I)I"⟩
def RJ9 : String := "java/lang/Math"
abbrev cJ9_abs_0f7a4 : ByteArray := prog_12_method_59_code
def yJ9_abs_0f7a4 : MethodName := ⟨RJ9, "abs", "(I)I"⟩
abbrev cJ9_max_7cf53 : ByteArray := prog_12_method_65_code
def yJ9_max_7cf53 : MethodName := ⟨RJ9, "max", "(II)I"⟩
abbrev cJ9_min_7cf53 : ByteArray := prog_12_method_69_code
def yJ9_min_7cf53 : MethodName := ⟨RJ9, "min", "(II)I"⟩
def RJ10 : String := "java/lang/System"
abbrev vwCl : List vw_C := [(RX0, TX0, 3), (RX1, TX1, 2), (RX2, TX2, 3), (RX3, TX3, 9), (RX4, TX4, 2), (RX5, TX5, 1), (RX6, TX6, 4), (RX7, TX7, 12), (RX8, TX8, 26)]
end
section
/-! THE DEEP INTERPRETER'S TABLES, by program (wip/whole/gen_parts.py) -/
/-- the words that a callee may be handed -/
def dxTb : List Cond := lw_tbl.filter goodWord
def dxRn : List String := [RX0, RX1, RX2, RX3, RX4, RX5, RX6, RX7, RX8, "MilkTruceLaw", "java/lang/Integer"]
/-- a method: name, bytes, locals, answer; class, the place of its code word; frames and local words below it -/
def dxMs_0 : List (MethodName × ByteArray × Nat × Option FieldType × Nat × Nat × Nat × Nat) := [
  (yX0_init, cX0_init, 2, (Option.none : Option Jvm.ClassFile.FieldType), 0, 126, 3, 65),
  (yX0_clear, cX0_clear, 1, (Option.none : Option Jvm.ClassFile.FieldType), 0, 322, 0, 0),
  (yX0_size, cX0_size, 1, (Option.some Jvm.ClassFile.FieldType.int), 0, 461, 0, 0),
  (yX0_remember, cX0_remember, 2, (Option.none : Option Jvm.ClassFile.FieldType), 0, 370, 3, 70),
  (yX0_takeBack, cX0_takeBack, 2, (Option.none : Option Jvm.ClassFile.FieldType), 0, 465, 3, 70),
  (yX1_init, cX1_init, 1, (Option.none : Option Jvm.ClassFile.FieldType), 1, 180, 1, 21),
  (yX1_lookAt, cX1_lookAt, 4, (Option.none : Option Jvm.ClassFile.FieldType), 1, 530, 3, 66),
  (yX1_addMovesOf, cX1_addMovesOf, 4, (Option.none : Option Jvm.ClassFile.FieldType), 1, 542, 2, 43),
  (yX1_add, cX1_add, 2, (Option.none : Option Jvm.ClassFile.FieldType), 1, 534, 0, 0),
  (yX1_size, cX1_size, 1, (Option.some Jvm.ClassFile.FieldType.int), 1, 547, 0, 0),
  (yX1_at, cX1_at, 2, (Option.some Jvm.ClassFile.FieldType.int), 1, 551, 0, 0),
  (yX2_init, cX2_init, 1, (Option.none : Option Jvm.ClassFile.FieldType), 2, 76, 1, 21),
  (yX2_clear, cX2_clear, 1, (Option.none : Option Jvm.ClassFile.FieldType), 2, 287, 0, 0),
  (yX2_add, cX2_add, 3, (Option.none : Option Jvm.ClassFile.FieldType), 2, 314, 0, 0),
  (yX2_size, cX2_size, 1, (Option.some Jvm.ClassFile.FieldType.int), 2, 310, 0, 0),
  (yX2_has, cX2_has, 2, (Option.some Jvm.ClassFile.FieldType.boolean), 2, 318, 0, 0),
  (yX2_sideOf, cX2_sideOf, 2, (Option.some Jvm.ClassFile.FieldType.int), 2, 349, 0, 0),
  (yX2_kindOf, cX2_kindOf, 2, (Option.some Jvm.ClassFile.FieldType.int), 2, 357, 0, 0),
  (yX3_init, cX3_init, 2, (Option.none : Option Jvm.ClassFile.FieldType), 3, 92, 1, 21),
  (yX3_clear, cX3_clear, 2, (Option.none : Option Jvm.ClassFile.FieldType), 3, 291, 0, 0),
  (yX3_become, cX3_become, 2, (Option.none : Option Jvm.ClassFile.FieldType), 3, 382, 1, 26),
  (yX3_addCow, cX3_addCow, 6, (Option.none : Option Jvm.ClassFile.FieldType), 3, 306, 1, 22),
  (yX3_sendAwayAllBut, cX3_sendAwayAllBut, 2, (Option.none : Option Jvm.ClassFile.FieldType), 3, 586, 0, 0),
  (yX3_isHere, cX3_isHere, 2, (Option.some Jvm.ClassFile.FieldType.boolean), 3, 345, 0, 0),
  (yX3_isOfSide, cX3_isOfSide, 3, (Option.some Jvm.ClassFile.FieldType.boolean), 3, 538, 1, 21),
  (yX3_cellOf, cX3_cellOf, 2, (Option.some Jvm.ClassFile.FieldType.int), 3, 341, 1, 21),
  (yX3_fullnessOf, cX3_fullnessOf, 2, (Option.some Jvm.ClassFile.FieldType.int), 3, 353, 1, 21),
  (yX3_putCow, cX3_putCow, 3, (Option.none : Option Jvm.ClassFile.FieldType), 3, 428, 1, 21),
  (yX3_fillCow, cX3_fillCow, 3, (Option.none : Option Jvm.ClassFile.FieldType), 3, 628, 1, 21),
  (yX3_moveBy, cX3_moveBy, 2, (Option.none : Option Jvm.ClassFile.FieldType), 3, 495, 2, 43)]
def dxMs_1 : List (MethodName × ByteArray × Nat × Option FieldType × Nat × Nat × Nat × Nat) := [
  (yX3_isGrazed, cX3_isGrazed, 3, (Option.some Jvm.ClassFile.FieldType.boolean), 3, 424, 1, 21),
  (yX3_cloverOn, cX3_cloverOn, 2, (Option.some Jvm.ClassFile.FieldType.int), 3, 332, 1, 20),
  (yX3_growOn, cX3_growOn, 3, (Option.none : Option Jvm.ClassFile.FieldType), 3, 299, 1, 20),
  (yX3_maySow, cX3_maySow, 2, (Option.some Jvm.ClassFile.FieldType.boolean), 3, 436, 1, 20),
  (yX3_sowOn, cX3_sowOn, 2, (Option.none : Option Jvm.ClassFile.FieldType), 3, 440, 2, 41),
  (yX3_isSnowing, cX3_isSnowing, 1, (Option.some Jvm.ClassFile.FieldType.boolean), 3, 449, 0, 0),
  (yX3_letSnow, cX3_letSnow, 2, (Option.none : Option Jvm.ClassFile.FieldType), 3, 453, 0, 0),
  (yX3_pailsOf, cX3_pailsOf, 2, (Option.some Jvm.ClassFile.FieldType.int), 3, 518, 1, 20),
  (yX3_hourNow, cX3_hourNow, 1, (Option.some Jvm.ClassFile.FieldType.int), 3, 681, 0, 0),
  (yX3_hoursOfWar, cX3_hoursOfWar, 1, (Option.some Jvm.ClassFile.FieldType.int), 3, 694, 0, 0),
  (yX3_isDue, cX3_isDue, 3, (Option.some Jvm.ClassFile.FieldType.boolean), 3, 361, 1, 21),
  (yX3_isWarning, cX3_isWarning, 2, (Option.some Jvm.ClassFile.FieldType.boolean), 3, 398, 1, 21),
  (yX3_sortOfHour, cX3_sortOfHour, 4, (Option.some Jvm.ClassFile.FieldType.int), 3, 393, 2, 43),
  (yX3_hourComes, cX3_hourComes, 3, (Option.some Jvm.ClassFile.FieldType.int), 3, 389, 3, 66),
  (yX3_countOf, cX3_countOf, 5, (Option.some Jvm.ClassFile.FieldType.int), 3, 504, 4, 88),
  (yX3_lastSortOf, cX3_lastSortOf, 4, (Option.some Jvm.ClassFile.FieldType.int), 3, 514, 4, 88),
  (yX3_milkDueCows, cX3_milkDueCows, 3, (Option.none : Option Jvm.ClassFile.FieldType), 3, 402, 2, 43),
  (yX3_letCowsEat, cX3_letCowsEat, 5, (Option.none : Option Jvm.ClassFile.FieldType), 3, 410, 2, 42),
  (yX4_init, cX4_init, 1, (Option.none : Option Jvm.ClassFile.FieldType), 4, 62, 1, 21),
  (yX4_size, cX4_size, 1, (Option.some Jvm.ClassFile.FieldType.int), 4, 237, 0, 0),
  (yX4_clear, cX4_clear, 1, (Option.none : Option Jvm.ClassFile.FieldType), 4, 245, 0, 0),
  (yX4_add, cX4_add, 2, (Option.some Jvm.ClassFile.FieldType.boolean), 4, 233, 0, 0),
  (yX4_letter, cX4_letter, 2, (Option.some Jvm.ClassFile.FieldType.int), 4, 257, 0, 0),
  (yX4_figure, cX4_figure, 3, (Option.some Jvm.ClassFile.FieldType.int), 4, 275, 1, 21),
  (yX4_faultPlace, cX4_faultPlace, 8, (Option.some Jvm.ClassFile.FieldType.int), 4, 253, 3, 71),
  (yX4_faultOfPart, cX4_faultOfPart, 9, (Option.some Jvm.ClassFile.FieldType.int), 4, 271, 2, 43),
  (yX4_tellTo, cX4_tellTo, 4, (Option.none : Option Jvm.ClassFile.FieldType), 4, 295, 2, 47),
  (yX5_init, cX5_init, 4, (Option.none : Option Jvm.ClassFile.FieldType), 5, 132, 2, 42),
  (yX5_at, cX5_at, 2, (Option.some (Jvm.ClassFile.FieldType.object "MilkTruce$Meadow")), 5, 378, 0, 0),
  (yX5_put, cX5_put, 4, (Option.none : Option Jvm.ClassFile.FieldType), 5, 374, 2, 47)]
def dxMs_2 : List (MethodName × ByteArray × Nat × Option FieldType × Nat × Nat × Nat × Nat) := [
  (yX5_take, cX5_take, 4, (Option.none : Option Jvm.ClassFile.FieldType), 5, 469, 2, 47),
  (yX6_init, cX6_init, 1, (Option.none : Option Jvm.ClassFile.FieldType), 6, 160, 1, 21),
  (yX6_clear, cX6_clear, 1, (Option.none : Option Jvm.ClassFile.FieldType), 6, 620, 0, 0),
  (yX6_size, cX6_size, 1, (Option.some Jvm.ClassFile.FieldType.int), 6, 612, 0, 0),
  (yX6_add, cX6_add, 4, (Option.some Jvm.ClassFile.FieldType.boolean), 6, 608, 0, 0),
  (yX6_areSoOf, cX6_areSoOf, 5, (Option.some Jvm.ClassFile.FieldType.boolean), 6, 636, 2, 43),
  (yX7_init, cX7_init, 1, (Option.none : Option Jvm.ClassFile.FieldType), 7, 54, 4, 86),
  (yX7_write, cX7_write, 2, (Option.some Jvm.ClassFile.FieldType.int), 7, 229, 1, 21),
  (yX7_wipe, cX7_wipe, 2, (Option.some Jvm.ClassFile.FieldType.int), 7, 241, 1, 20),
  (yX7_fault, cX7_fault, 1, (Option.some Jvm.ClassFile.FieldType.int), 7, 249, 4, 98),
  (yX7_pass, cX7_pass, 2, (Option.some Jvm.ClassFile.FieldType.int), 7, 283, 4, 98),
  (yX7_clover, cX7_clover, 2, (Option.some Jvm.ClassFile.FieldType.int), 7, 327, 2, 41),
  (yX7_cow, cX7_cow, 3, (Option.some Jvm.ClassFile.FieldType.int), 7, 336, 2, 43),
  (yX7_hour, cX7_hour, 2, (Option.some Jvm.ClassFile.FieldType.int), 7, 366, 4, 91),
  (yX7_move, cX7_move, 4, (Option.some Jvm.ClassFile.FieldType.int), 7, 420, 4, 91),
  (yX7_sow, cX7_sow, 2, (Option.some Jvm.ClassFile.FieldType.int), 7, 432, 4, 91),
  (yX7_snow, cX7_snow, 1, (Option.some Jvm.ClassFile.FieldType.int), 7, 445, 4, 91),
  (yX7_undo, cX7_undo, 1, (Option.some Jvm.ClassFile.FieldType.int), 7, 457, 4, 91),
  (yX7_sorts, cX7_sorts, 4, (Option.some Jvm.ClassFile.FieldType.int), 7, 473, 4, 88),
  (yX7_on, cX7_on, 2, (Option.some Jvm.ClassFile.FieldType.int), 7, 481, 6, 135),
  (yX7_milk, cX7_milk, 3, (Option.some Jvm.ClassFile.FieldType.int), 7, 509, 5, 111),
  (yX7_graze, cX7_graze, 10, (Option.some Jvm.ClassFile.FieldType.int), 7, 522, 6, 135),
  (yX7_fewest, cX7_fewest, 6, (Option.some Jvm.ClassFile.FieldType.int), 7, 556, 6, 138),
  (yX7_judge, cX7_judge, 5, (Option.some Jvm.ClassFile.FieldType.int), 7, 570, 4, 88),
  (yX7_share, cX7_share, 10, (Option.some Jvm.ClassFile.FieldType.int), 7, 574, 6, 134),
  (yX7_rang, cX7_rang, 7, (Option.some Jvm.ClassFile.FieldType.int), 7, 599, 4, 88),
  (yX7_tell, cX7_tell, 4, (Option.some Jvm.ClassFile.FieldType.int), 7, 604, 1, 23),
  (yX7_untell, cX7_untell, 2, (Option.some Jvm.ClassFile.FieldType.int), 7, 616, 1, 20),
  (yX7_full, cX7_full, 4, (Option.some Jvm.ClassFile.FieldType.int), 7, 624, 5, 109),
  (yX7_rests, cX7_rests, 10, (Option.some Jvm.ClassFile.FieldType.int), 7, 642, 6, 135)]
def dxMs_3 : List (MethodName × ByteArray × Nat × Option FieldType × Nat × Nat × Nat × Nat) := [
  (yX7_chance, cX7_chance, 7, (Option.some Jvm.ClassFile.FieldType.int), 7, 654, 5, 112),
  (yX7_seed, cX7_seed, 5, (Option.some Jvm.ClassFile.FieldType.long), 7, 662, 0, 0),
  (yX7_summers, cX7_summers, 4, (Option.some Jvm.ClassFile.FieldType.int), 7, 666, 4, 88),
  (yX7_keep, cX7_keep, 2, (Option.some Jvm.ClassFile.FieldType.int), 7, 673, 3, 70),
  (yX7_again, cX7_again, 2, (Option.some Jvm.ClassFile.FieldType.int), 7, 685, 3, 70),
  (yX7_count, cX7_count, 2, (Option.some Jvm.ClassFile.FieldType.int), 7, 690, 3, 66),
  (yX7_isCell, cX7_isCell, 1, (Option.some Jvm.ClassFile.FieldType.boolean), 7, 302, 0, 0),
  (yX7_isSide, cX7_isSide, 1, (Option.some Jvm.ClassFile.FieldType.boolean), 7, 406, 0, 0),
  (yX7_isSlot, cX7_isSlot, 1, (Option.some Jvm.ClassFile.FieldType.boolean), 7, 676, 0, 0),
  (yX7_isAhead, cX7_isAhead, 1, (Option.some Jvm.ClassFile.FieldType.boolean), 7, 476, 0, 0),
  (yX7_cowOfChoice, cX7_cowOfChoice, 1, (Option.some Jvm.ClassFile.FieldType.int), 7, 498, 0, 0),
  (yX7_cellOfChoice, cX7_cellOfChoice, 1, (Option.some Jvm.ClassFile.FieldType.int), 7, 491, 0, 0),
  (yX7_areToOneCell, cX7_areToOneCell, 2, (Option.some Jvm.ClassFile.FieldType.boolean), 7, 488, 1, 20),
  (yX7_hoursOnAfter, cX7_hoursOnAfter, 4, (Option.some Jvm.ClassFile.FieldType.int), 7, 485, 5, 112),
  (yX7_stopsOf, cX7_stopsOf, 3, (Option.some Jvm.ClassFile.FieldType.int), 7, 582, 5, 112),
  (yX7_stopsAfterSowing, cX7_stopsAfterSowing, 8, (Option.some Jvm.ClassFile.FieldType.boolean), 7, 560, 5, 111),
  (yX7_stopsLastBySnows, cX7_stopsLastBySnows, 5, (Option.some Jvm.ClassFile.FieldType.boolean), 7, 658, 4, 88),
  (yX7_isAllSoOfTrial, cX7_isAllSoOfTrial, 2, (Option.some Jvm.ClassFile.FieldType.boolean), 7, 632, 4, 88),
  (yX7_choicesOf, cX7_choicesOf, 3, (Option.some (Jvm.ClassFile.FieldType.object "MilkTruce$Choices")), 7, 526, 4, 89),
  (yX7_hoursOfPair, cX7_hoursOfPair, 5, (Option.some Jvm.ClassFile.FieldType.int), 7, 650, 0, 0),
  (yX7_isAtRest, cX7_isAtRest, 8, (Option.some Jvm.ClassFile.FieldType.boolean), 7, 646, 1, 24),
  (yX7_termOf, cX7_termOf, 4, (Option.some Jvm.ClassFile.FieldType.int), 7, 589, 1, 25),
  (yX7_commonDivisor, cX7_commonDivisor, 6, (Option.some Jvm.ClassFile.FieldType.int), 7, 595, 0, 0),
  (yX7_powerOfTen, cX7_powerOfTen, 1, (Option.some Jvm.ClassFile.FieldType.int), 7, 563, 1, 23),
  (yX7_power, cX7_power, 4, (Option.some Jvm.ClassFile.FieldType.int), 7, 566, 0, 0),
  (yX7_factorial, cX7_factorial, 3, (Option.some Jvm.ClassFile.FieldType.int), 7, 578, 0, 0),
  (yX8_init, cX8_init, 1, (Option.none : Option Jvm.ClassFile.FieldType), 8, 699, 1, 21),
  (yX8_in, cX8_in, 6, (Option.some Jvm.ClassFile.FieldType.boolean), 8, 787, 0, 0),
  (yX8_has, cX8_has, 2, (Option.some Jvm.ClassFile.FieldType.boolean), 8, 807, 0, 0),
  (yX8_ones, cX8_ones, 3, (Option.some Jvm.ClassFile.FieldType.int), 8, 935, 0, 0)]
def dxMs_4 : List (MethodName × ByteArray × Nat × Option FieldType × Nat × Nat × Nat × Nat) := [
  (yX8_write, cX8_write, 2, (Option.some Jvm.ClassFile.FieldType.int), 8, 783, 1, 25),
  (yX8_wipe, cX8_wipe, 2, (Option.some Jvm.ClassFile.FieldType.int), 8, 791, 0, 0),
  (yX8_figure, cX8_figure, 4, (Option.some Jvm.ClassFile.FieldType.int), 8, 811, 1, 25),
  (yX8_figureOf, cX8_figureOf, 3, (Option.some Jvm.ClassFile.FieldType.int), 8, 803, 1, 25),
  (yX8_readText, cX8_readText, 2, (Option.some Jvm.ClassFile.FieldType.int), 8, 799, 3, 68),
  (yX8_readCow, cX8_readCow, 1, (Option.none : Option Jvm.ClassFile.FieldType), 8, 815, 2, 48),
  (yX8_fault, cX8_fault, 1, (Option.some Jvm.ClassFile.FieldType.int), 8, 795, 4, 89),
  (yX8_pass, cX8_pass, 2, (Option.some Jvm.ClassFile.FieldType.int), 8, 819, 4, 89),
  (yX8_isCow, cX8_isCow, 2, (Option.some Jvm.ClassFile.FieldType.boolean), 8, 831, 1, 25),
  (yX8_clover, cX8_clover, 2, (Option.some Jvm.ClassFile.FieldType.int), 8, 823, 1, 25),
  (yX8_isDue, cX8_isDue, 4, (Option.some Jvm.ClassFile.FieldType.boolean), 8, 835, 0, 0),
  (yX8_cow, cX8_cow, 3, (Option.some Jvm.ClassFile.FieldType.int), 8, 827, 2, 46),
  (yX8_isSomeDue, cX8_isSomeDue, 5, (Option.some Jvm.ClassFile.FieldType.boolean), 8, 855, 1, 23),
  (yX8_sortOf, cX8_sortOf, 6, (Option.some Jvm.ClassFile.FieldType.int), 8, 851, 2, 47),
  (yX8_eat, cX8_eat, 6, (Option.none : Option Jvm.ClassFile.FieldType), 8, 859, 0, 0),
  (yX8_passOn, cX8_passOn, 7, (Option.some Jvm.ClassFile.FieldType.int), 8, 847, 3, 72),
  (yX8_keepAct, cX8_keepAct, 2, (Option.none : Option Jvm.ClassFile.FieldType), 8, 843, 0, 0),
  (yX8_hour, cX8_hour, 2, (Option.some Jvm.ClassFile.FieldType.int), 8, 839, 4, 98),
  (yX8_isCowOn, cX8_isCowOn, 4, (Option.some Jvm.ClassFile.FieldType.boolean), 8, 867, 0, 0),
  (yX8_move, cX8_move, 4, (Option.some Jvm.ClassFile.FieldType.int), 8, 863, 2, 46),
  (yX8_sow, cX8_sow, 2, (Option.some Jvm.ClassFile.FieldType.int), 8, 871, 1, 25),
  (yX8_snow, cX8_snow, 1, (Option.some Jvm.ClassFile.FieldType.int), 8, 875, 1, 21),
  (yX8_undo, cX8_undo, 2, (Option.some Jvm.ClassFile.FieldType.int), 8, 879, 0, 0),
  (yX8_layTrial, cX8_layTrial, 2, (Option.none : Option Jvm.ClassFile.FieldType), 8, 888, 0, 0),
  (yX8_sorts, cX8_sorts, 4, (Option.some Jvm.ClassFile.FieldType.int), 8, 883, 4, 98),
  (yX8_manyOf, cX8_manyOf, 6, (Option.some Jvm.ClassFile.FieldType.int), 8, 896, 4, 98),
  (yX8_on, cX8_on, 2, (Option.some Jvm.ClassFile.FieldType.int), 8, 892, 5, 123),
  (yX8_milk, cX8_milk, 3, (Option.some Jvm.ClassFile.FieldType.int), 8, 900, 5, 123),
  (yX8_isChoice, cX8_isChoice, 4, (Option.some Jvm.ClassFile.FieldType.boolean), 8, 909, 2, 46),
  (yX8_moveTrial, cX8_moveTrial, 2, (Option.none : Option Jvm.ClassFile.FieldType), 8, 913, 0, 0)]
def dxMs_5 : List (MethodName × ByteArray × Nat × Option FieldType × Nat × Nat × Nat × Nat) := [
  (yX8_graze, cX8_graze, 10, (Option.some Jvm.ClassFile.FieldType.int), 8, 904, 5, 123),
  (yX8_stopsBy, cX8_stopsBy, 9, (Option.some Jvm.ClassFile.FieldType.boolean), 8, 921, 4, 98),
  (yX8_fewest, cX8_fewest, 6, (Option.some Jvm.ClassFile.FieldType.int), 8, 917, 5, 126),
  (yX8_tenTo, cX8_tenTo, 3, (Option.some Jvm.ClassFile.FieldType.int), 8, 928, 0, 0),
  (yX8_judge, cX8_judge, 4, (Option.some Jvm.ClassFile.FieldType.int), 8, 925, 4, 98),
  (yX8_factorial, cX8_factorial, 3, (Option.some Jvm.ClassFile.FieldType.int), 8, 938, 0, 0),
  (yX8_common, cX8_common, 5, (Option.some Jvm.ClassFile.FieldType.int), 8, 941, 0, 0),
  (yX8_share, cX8_share, 7, (Option.some Jvm.ClassFile.FieldType.int), 8, 932, 5, 123),
  (yX8_rang, cX8_rang, 7, (Option.some Jvm.ClassFile.FieldType.int), 8, 945, 4, 98),
  (yX8_tell, cX8_tell, 4, (Option.some Jvm.ClassFile.FieldType.int), 8, 949, 2, 46),
  (yX8_untell, cX8_untell, 2, (Option.some Jvm.ClassFile.FieldType.int), 8, 954, 0, 0),
  (yX8_fits, cX8_fits, 7, (Option.some Jvm.ClassFile.FieldType.boolean), 8, 962, 4, 98),
  (yX8_full, cX8_full, 4, (Option.some Jvm.ClassFile.FieldType.int), 8, 958, 5, 124),
  (yX8_layOns, cX8_layOns, 5, (Option.none : Option Jvm.ClassFile.FieldType), 8, 970, 5, 123),
  (yX8_isRest, cX8_isRest, 6, (Option.some Jvm.ClassFile.FieldType.boolean), 8, 974, 0, 0),
  (yX8_rests, cX8_rests, 7, (Option.some Jvm.ClassFile.FieldType.int), 8, 966, 6, 147),
  (yX8_chance, cX8_chance, 10, (Option.some Jvm.ClassFile.FieldType.int), 8, 978, 4, 98),
  (yX8_seed, cX8_seed, 5, (Option.some Jvm.ClassFile.FieldType.long), 8, 984, 0, 0),
  (yX8_summers, cX8_summers, 4, (Option.some Jvm.ClassFile.FieldType.int), 8, 988, 4, 98),
  (yX8_keep, cX8_keep, 3, (Option.some Jvm.ClassFile.FieldType.int), 8, 996, 1, 25),
  (yX8_again, cX8_again, 3, (Option.some Jvm.ClassFile.FieldType.int), 8, 1000, 1, 25),
  (yX8_count, cX8_count, 2, (Option.some Jvm.ClassFile.FieldType.int), 8, 1004, 3, 72),
  (yJ6_bitCount_0f7a4, cJ6_bitCount_0f7a4, 1, (Option.some Jvm.ClassFile.FieldType.int), 10, 260, 0, 0),
  (x, code, 4, (Option.some Jvm.ClassFile.FieldType.boolean), 9, 37, 7, 173)]
def dxMs : List (MethodName × ByteArray × Nat × Option FieldType × Nat × Nat × Nat × Nat) := dxMs_0 ++ (dxMs_1 ++ (dxMs_2 ++ (dxMs_3 ++ (dxMs_4 ++ (dxMs_5)))))
def dxLaw : Nat := 173
/-- calls: class, entry, kind, method; places of words -/
def dxLkT : List (Nat × Nat × Nat × Nat × Nat × Nat × Nat × Nat) := [
  (0, 3, 5, 0, 125, 0, 0, 0),
  (0, 11, 3, 57, 128, 129, 0, 43),
  (0, 27, 0, 59, 358, 359, 360, 43),
  (0, 31, 0, 60, 448, 449, 450, 43),
  (1, 3, 5, 0, 176, 0, 0, 0),
  (1, 19, 0, 8, 509, 510, 9, 46),
  (1, 23, 0, 24, 512, 513, 514, 41),
  (1, 29, 0, 7, 516, 517, 10, 46),
  (1, 33, 0, 30, 519, 404, 405, 41),
  (2, 3, 5, 0, 75, 0, 0, 0),
  (3, 3, 5, 0, 91, 0, 0, 0),
  (3, 42, 9, 0, 369, 0, 0, 0),
  (3, 48, 0, 14, 294, 295, 296, 40),
  (3, 54, 0, 13, 298, 299, 300, 40),
  (3, 58, 0, 15, 302, 303, 304, 40),
  (3, 62, 0, 23, 329, 330, 331, 41),
  (3, 65, 0, 16, 387, 334, 335, 40),
  (3, 69, 2, 96, 300, 288, 0, 38),
  (3, 72, 2, 100, 496, 477, 0, 38),
  (3, 75, 2, 101, 499, 471, 0, 38),
  (3, 78, 0, 27, 479, 408, 409, 41),
  (3, 81, 0, 33, 423, 416, 417, 41),
  (3, 84, 2, 97, 404, 388, 0, 38),
  (3, 87, 0, 17, 349, 342, 343, 40),
  (3, 90, 0, 40, 380, 346, 347, 41),
  (3, 93, 0, 41, 381, 382, 4, 41),
  (3, 96, 0, 42, 376, 377, 378, 41),
  (3, 100, 0, 46, 384, 385, 5, 41),
  (3, 103, 0, 47, 390, 391, 6, 41),
  (3, 106, 0, 43, 484, 373, 374, 41),
  (3, 109, 0, 25, 393, 326, 327, 41),
  (3, 112, 0, 31, 394, 317, 318, 41),
  (3, 115, 0, 32, 395, 285, 286, 41),
  (3, 118, 7, 0, 396, 0, 0, 0),
  (4, 3, 5, 0, 62, 0, 0, 0),
  (4, 19, 0, 52, 249, 250, 0, 39),
  (4, 23, 1, 172, 252, 253, 0, 48),
  (4, 34, 0, 55, 260, 261, 1, 39),
  (4, 44, 0, 53, 263, 264, 2, 39),
  (4, 47, 0, 32, 284, 285, 286, 41),
  (4, 53, 0, 21, 290, 291, 292, 41),
  (5, 1, 5, 0, 131, 0, 0, 0),
  (5, 7, 8, 0, 132, 0, 0, 0),
  (5, 21, 3, 18, 136, 89, 0, 41),
  (5, 24, 0, 58, 362, 363, 3, 43),
  (5, 28, 0, 20, 365, 366, 367, 41),
  (6, 3, 5, 0, 157, 0, 0, 0),
  (6, 26, 0, 23, 610, 330, 331, 41),
  (6, 32, 0, 40, 611, 346, 347, 41),
  (7, 1, 5, 0, 55, 0, 0, 0),
  (7, 9, 4, 48, 60, 60, 0, 39),
  (7, 18, 4, 11, 74, 73, 0, 40),
  (7, 25, 3, 18, 88, 89, 0, 41),
  (7, 37, 3, 0, 122, 123, 0, 42),
  (7, 44, 3, 57, 152, 129, 0, 43),
  (7, 57, 4, 61, 158, 155, 0, 45),
  (7, 64, 4, 5, 178, 174, 0, 46),
  (7, 76, 0, 51, 225, 226, 227, 39),
  (7, 80, 0, 49, 229, 230, 231, 39),
  (7, 84, 0, 50, 237, 238, 239, 39),
  (7, 87, 0, 54, 245, 246, 247, 39),
  (7, 90, 0, 12, 272, 273, 274, 40),
  (7, 91, 0, 19, 276, 277, 278, 41),
  (7, 92, 0, 56, 280, 281, 282, 39),
  (7, 96, 0, 1, 306, 307, 308, 42),
  (7, 97, 0, 14, 310, 295, 296, 40),
  (7, 98, 1, 96, 315, 288, 0, 38),
  (7, 101, 0, 31, 316, 317, 318, 41),
  (7, 105, 0, 15, 324, 303, 304, 40),
  (7, 108, 0, 25, 325, 326, 327, 41),
  (7, 111, 0, 16, 333, 334, 335, 40),
  (7, 114, 0, 26, 337, 338, 339, 41),
  (7, 117, 0, 17, 341, 342, 343, 40),
  (7, 120, 0, 40, 345, 346, 347, 41),
  (7, 123, 0, 3, 354, 355, 356, 42),
  (7, 126, 0, 43, 372, 373, 374, 41),
  (7, 130, 0, 30, 403, 404, 405, 41),
  (7, 133, 0, 27, 407, 408, 409, 41),
  (7, 137, 0, 33, 415, 416, 417, 41),
  (7, 140, 0, 34, 419, 420, 421, 41),
  (7, 144, 0, 35, 428, 429, 430, 41),
  (7, 148, 0, 36, 432, 433, 434, 41),
  (7, 152, 0, 2, 440, 441, 442, 42),
  (7, 153, 0, 4, 444, 445, 446, 42),
  (7, 156, 1, 99, 456, 457, 0, 38),
  (7, 159, 0, 20, 459, 366, 367, 41),
  (7, 162, 0, 103, 464, 465, 7, 38),
  (7, 166, 1, 97, 489, 388, 0, 38),
  (7, 169, 0, 45, 490, 491, 492, 41),
  (7, 172, 0, 37, 494, 495, 496, 41),
  (7, 175, 0, 108, 502, 503, 8, 38),
  (7, 179, 0, 9, 520, 521, 522, 46),
  (7, 180, 0, 10, 524, 525, 526, 46),
  (7, 183, 1, 100, 528, 477, 0, 38),
  (7, 186, 1, 101, 470, 471, 0, 38),
  (7, 189, 0, 105, 533, 534, 11, 38),
  (7, 193, 1, 113, 536, 537, 0, 38),
  (7, 196, 1, 172, 550, 253, 0, 48),
  (7, 201, 1, 115, 551, 552, 0, 38),
  (7, 204, 0, 104, 554, 555, 12, 38),
  (7, 208, 1, 111, 561, 562, 0, 38),
  (7, 212, 0, 42, 574, 377, 378, 41),
  (7, 215, 0, 64, 579, 580, 581, 45),
  (7, 218, 0, 63, 583, 584, 585, 45),
  (7, 219, 0, 62, 591, 592, 593, 45),
  (7, 220, 0, 28, 599, 600, 601, 41),
  (7, 223, 0, 107, 603, 604, 13, 38),
  (7, 226, 0, 110, 616, 617, 14, 38),
  (7, 230, 0, 106, 626, 627, 16, 38),
  (7, 234, 1, 114, 539, 540, 0, 38),
  (7, 247, 1, 98, 644, 645, 0, 38),
  (7, 250, 0, 59, 647, 359, 360, 43),
  (7, 254, 0, 38, 648, 649, 650, 41),
  (7, 257, 0, 60, 656, 449, 450, 43),
  (7, 260, 0, 39, 661, 662, 663, 41),
  (7, 263, 1, 102, 467, 468, 0, 38),
  (7, 266, 0, 29, 473, 474, 475, 41),
  (7, 269, 0, 44, 480, 481, 482, 41),
  (7, 272, 0, 22, 557, 558, 559, 41),
  (7, 275, 0, 65, 606, 607, 608, 45),
  (7, 279, 0, 6, 505, 506, 507, 46),
  (7, 283, 0, 109, 619, 620, 15, 38),
  (7, 286, 6, 0, 564, 0, 0, 0),
  (7, 291, 1, 112, 567, 568, 0, 38),
  (8, 1, 5, 0, 670, 0, 0, 0),
  (8, 62, 1, 117, 755, 756, 0, 47),
  (8, 77, 1, 118, 773, 774, 0, 47),
  (8, 90, 0, 123, 769, 770, 18, 47),
  (8, 94, 0, 122, 776, 777, 19, 47),
  (8, 98, 0, 125, 779, 780, 20, 47),
  (8, 101, 0, 124, 766, 767, 17, 47),
  (8, 108, 0, 128, 794, 795, 21, 47),
  (8, 112, 0, 130, 797, 798, 22, 47),
  (8, 115, 0, 132, 813, 814, 26, 47),
  (8, 118, 0, 133, 810, 811, 25, 47),
  (8, 122, 0, 134, 816, 817, 27, 47),
  (8, 129, 0, 136, 804, 805, 23, 47),
  (8, 132, 0, 135, 807, 808, 24, 47),
  (8, 135, 0, 138, 823, 824, 28, 47),
  (8, 140, 0, 143, 843, 844, 29, 47),
  (8, 143, 0, 145, 850, 851, 30, 47),
  (8, 149, 0, 148, 862, 863, 31, 47),
  (8, 152, 0, 149, 865, 866, 32, 47),
  (8, 156, 0, 151, 872, 873, 33, 47),
  (8, 160, 1, 153, 879, 880, 0, 47),
  (8, 163, 1, 119, 886, 887, 0, 47),
  (8, 166, 1, 155, 889, 890, 0, 47),
  (8, 169, 1, 156, 892, 893, 0, 47),
  (8, 177, 0, 161, 912, 913, 34, 47),
  (8, 180, 0, 163, 919, 920, 35, 47),
  (8, 183, 0, 164, 922, 923, 36, 47),
  (9, 9, 3, 66, 52, 53, 0, 38),
  (9, 12, 3, 116, 667, 668, 0, 47),
  (9, 13, 0, 67, 221, 222, 223, 38),
  (9, 17, 0, 120, 750, 751, 752, 47),
  (9, 18, 0, 68, 233, 234, 235, 38),
  (9, 22, 0, 121, 758, 759, 760, 47),
  (9, 23, 0, 69, 241, 242, 243, 38),
  (9, 26, 0, 126, 762, 763, 764, 47),
  (9, 27, 0, 70, 268, 269, 270, 38),
  (9, 30, 0, 127, 782, 783, 784, 47),
  (9, 31, 0, 71, 311, 312, 313, 38),
  (9, 34, 0, 129, 786, 787, 788, 47),
  (9, 35, 0, 72, 320, 321, 322, 38),
  (9, 39, 0, 131, 790, 791, 792, 47),
  (9, 40, 0, 73, 350, 351, 352, 38),
  (9, 44, 0, 137, 800, 801, 802, 47),
  (9, 45, 0, 74, 399, 400, 401, 38),
  (9, 48, 0, 139, 819, 820, 821, 47),
  (9, 49, 0, 75, 411, 412, 413, 38),
  (9, 52, 0, 140, 826, 827, 828, 47),
  (9, 53, 0, 76, 424, 425, 426, 38),
  (9, 56, 0, 141, 830, 831, 832, 47),
  (9, 57, 0, 77, 436, 437, 438, 38),
  (9, 60, 0, 142, 834, 835, 836, 47),
  (9, 61, 0, 78, 452, 453, 454, 38),
  (9, 64, 0, 144, 838, 839, 840, 47),
  (9, 65, 0, 79, 460, 461, 462, 38),
  (9, 68, 0, 146, 846, 847, 848, 47),
  (9, 69, 0, 80, 485, 486, 487, 38),
  (9, 72, 0, 147, 853, 854, 855, 47),
  (9, 73, 0, 81, 498, 499, 500, 38),
  (9, 77, 0, 150, 857, 858, 859, 47),
  (9, 78, 0, 82, 529, 530, 531, 38),
  (9, 82, 0, 152, 868, 869, 870, 47),
  (9, 83, 0, 83, 542, 543, 544, 38),
  (9, 86, 0, 154, 875, 876, 877, 47),
  (9, 87, 0, 84, 546, 547, 548, 38),
  (9, 91, 0, 157, 882, 883, 884, 47),
  (9, 92, 0, 85, 570, 571, 572, 38),
  (9, 95, 0, 158, 895, 896, 897, 47),
  (9, 96, 0, 86, 575, 576, 577, 38),
  (9, 99, 0, 159, 899, 900, 901, 47),
  (9, 100, 0, 87, 587, 588, 589, 38),
  (9, 103, 0, 160, 904, 905, 906, 47),
  (9, 104, 0, 88, 595, 596, 597, 38),
  (9, 107, 0, 162, 908, 909, 910, 47),
  (9, 108, 0, 89, 612, 613, 614, 38),
  (9, 111, 0, 165, 915, 916, 917, 47),
  (9, 112, 0, 90, 622, 623, 624, 38),
  (9, 115, 0, 166, 925, 926, 927, 47),
  (9, 118, 0, 91, 629, 630, 631, 38),
  (9, 122, 0, 167, 931, 932, 933, 47),
  (9, 123, 0, 92, 633, 634, 635, 38),
  (9, 126, 0, 168, 935, 936, 937, 47),
  (9, 127, 0, 93, 640, 641, 642, 38),
  (9, 130, 0, 169, 943, 944, 945, 47),
  (9, 131, 0, 94, 652, 653, 654, 38),
  (9, 134, 0, 170, 947, 948, 949, 47),
  (9, 135, 0, 95, 657, 658, 659, 38),
  (9, 138, 0, 171, 951, 952, 953, 47)]
/-- fields: class, entry, the object's class, the field; place -/
def dxFT : List (Nat × Nat × Nat × Nat × Nat) := [
  (0, 14, 0, 0, 141),
  (0, 20, 0, 2, 143),
  (0, 24, 0, 1, 142),
  (1, 9, 1, 0, 177),
  (1, 15, 1, 1, 178),
  (2, 9, 2, 0, 76),
  (2, 15, 2, 1, 77),
  (2, 18, 2, 2, 78),
  (3, 9, 3, 1, 93),
  (3, 15, 3, 2, 94),
  (3, 18, 3, 3, 95),
  (3, 21, 3, 4, 96),
  (3, 24, 3, 0, 92),
  (3, 28, 3, 5, 97),
  (3, 32, 3, 6, 98),
  (3, 36, 3, 7, 99),
  (3, 39, 3, 8, 100),
  (4, 9, 4, 0, 63),
  (4, 15, 4, 1, 64),
  (5, 15, 5, 0, 137),
  (6, 9, 6, 0, 158),
  (6, 15, 6, 1, 159),
  (6, 18, 6, 2, 160),
  (6, 22, 6, 3, 161),
  (7, 10, 7, 0, 184),
  (7, 19, 7, 1, 185),
  (7, 28, 7, 2, 186),
  (7, 32, 7, 3, 187),
  (7, 38, 7, 4, 188),
  (7, 47, 7, 5, 189),
  (7, 51, 7, 6, 190),
  (7, 58, 7, 7, 191),
  (7, 65, 7, 8, 192),
  (7, 69, 7, 9, 193),
  (7, 72, 7, 10, 194),
  (7, 237, 7, 11, 195),
  (8, 7, 8, 1, 672),
  (8, 13, 8, 2, 673),
  (8, 16, 8, 3, 674),
  (8, 19, 8, 4, 675),
  (8, 22, 8, 5, 676),
  (8, 25, 8, 6, 677),
  (8, 28, 8, 10, 681),
  (8, 31, 8, 16, 687),
  (8, 34, 8, 17, 688),
  (8, 37, 8, 19, 690),
  (8, 40, 8, 20, 691),
  (8, 43, 8, 21, 692),
  (8, 47, 8, 22, 693),
  (8, 50, 8, 24, 695),
  (8, 53, 8, 25, 696),
  (8, 56, 8, 0, 671),
  (8, 66, 8, 11, 682),
  (8, 69, 8, 13, 684),
  (8, 72, 8, 12, 683),
  (8, 81, 8, 7, 678),
  (8, 84, 8, 8, 679),
  (8, 87, 8, 9, 680),
  (8, 105, 8, 14, 685),
  (8, 126, 8, 15, 686),
  (8, 174, 8, 18, 689),
  (8, 190, 8, 23, 694)]
def dxST : List (Nat × Nat × Nat × Nat) := [(4, 28, 0, 258), (4, 31, 1, 259), (4, 38, 2, 266), (4, 41, 3, 267)]
def dxCT : List (Nat × Nat × Nat × Nat) := [(9, 7, 7, 50), (7, 7, 4, 58), (7, 16, 2, 71), (7, 23, 3, 86), (7, 35, 0, 120), (0, 9, 5, 126), (5, 13, 3, 135), (7, 42, 5, 151), (7, 55, 6, 153), (7, 62, 1, 172), (9, 10, 8, 665)]
def dxKT : List (Nat × Nat × (Int32 ⊕ Int64) × Nat) := [(10, 265, .inl 1431655765, 255), (10, 266, .inl 858993459, 256), (10, 267, .inl 252645135, 257), (7, 241, .inr 6364136223846793005, 637), (7, 243, .inr 1442695040888963407, 638), (7, 245, .inr 20, 639), (8, 60, .inr 255, 754), (8, 75, .inr 9, 772), (8, 138, .inr 8, 842), (8, 147, .inr 2, 861), (8, 172, .inr 7, 903), (8, 186, .inr 6, 929), (8, 188, .inr 10, 930), (8, 194, .inr 30, 939), (8, 196, .inr 6364136223846793005, 940), (8, 198, .inr 1442695040888963407, 941), (8, 200, .inr 20, 942), (9, 116, .inr 4294967295, 955)]
end
section
/-! THE DEEP INTERPRETER: the machine's bytecode run over a list of cells. A cell's number k stands for the address B + k; '.float i' stands for the i-th table (0 to 3: the static arrays; 4: the script). -/
abbrev dxE : Type := (Nat × vp_A) ⊕ (Nat × List Value)
abbrev dxH : Type := List dxE
abbrev dxL : Type := List (Option Value)
abbrev dxT : Type := Nat → Nat × (Nat → Int32)
def dxM (k : Nat) : MethodName × ByteArray × Nat × Option FieldType × Nat × Nat × Nat × Nat := dxMs.getD k (yX0_init, cX0_init, 0, none, 0, 0, 0, 0)
def dxY (k : Nat) : MethodName := (dxM k).1
def dxB (k : Nat) : ByteArray := (dxM k).2.1
def dxMl (k : Nat) : Nat := (dxM k).2.2.1
def dxRt (k : Nat) : Option FieldType := (dxM k).2.2.2.1
def dxCi (k : Nat) : Nat := (dxM k).2.2.2.2.1
def dxPs (k : Nat) : Nat := (dxM k).2.2.2.2.2.1
def dxFr (k : Nat) : Nat := (dxM k).2.2.2.2.2.2.1
def dxLo (k : Nat) : Nat := (dxM k).2.2.2.2.2.2.2
def dxR (ci : Nat) : String := dxRn.getD ci ""
def dxCl (c : Nat) : vw_C := vwCl.getD c (RX0, TX0, 0)
def dxTyp (c : Nat) : Nat → FieldType := match c with
  | 0 => tyX0
  | 1 => tyX1
  | 2 => tyX2
  | 3 => tyX3
  | 4 => tyX4
  | 5 => tyX5
  | 6 => tyX6
  | 7 => tyX7
  | _ => tyX8
/-- the tables of calls, fields, classes, constants -/
def dxLk (ci idx : Nat) : Option (Nat × Nat × Nat × Nat × Nat × Nat) := (dxLkT.find? (fun q => q.1 == ci && q.2.1 == idx)).map (fun q => q.2.2)
def dxF (ci idx : Nat) : Option (Nat × Nat × Nat) := (dxFT.find? (fun q => q.1 == ci && q.2.1 == idx)).map (fun q => q.2.2)
def dxS (ci idx : Nat) : Option (Nat × Nat) := (dxST.find? (fun q => q.1 == ci && q.2.1 == idx)).map (fun q => q.2.2)
def dxC (ci idx : Nat) : Option (Nat × Nat) := (dxCT.find? (fun q => q.1 == ci && q.2.1 == idx)).map (fun q => q.2.2)
def dxK (ci idx : Nat) : Option ((Int32 ⊕ Int64) × Nat) := (dxKT.find? (fun q => q.1 == ci && q.2.1 == idx)).map (fun q => q.2.2)
def dxI (k pc : Nat) : Option (Instr × Nat) := match decode (dxB k) pc with
  | .ok q => some q
  | .error _ => none
-- operands
def dxII (f : Int32 → Int32 → Option Value) (S : List Value) : Option (List Value) := match S with
  | .int y :: .int x :: r => (f x y).map (· :: r)
  | _ => none
def dxI1 (f : Int32 → Value) (S : List Value) : Option (List Value) := match S with
  | .int x :: r => some (f x :: r)
  | _ => none
def dxJJ (f : Int64 → Int64 → Option Value) (S : List Value) : Option (List Value) := match S with
  | .long y :: .long x :: r => (f x y).map (· :: r)
  | _ => none
def dxJ1 (f : Int64 → Value) (S : List Value) : Option (List Value) := match S with
  | .long x :: r => some (f x :: r)
  | _ => none
def dxJI (f : Int64 → Int32 → Value) (S : List Value) : Option (List Value) := match S with
  | .int y :: .long x :: r => some (f x y :: r)
  | _ => none
def dxOne (f : Value → List Value) (S : List Value) : Option (List Value) := match S with
  | v :: r => if v.category = 1 then some (f v ++ r) else none
  | _ => none
def dxTwo (S : List Value) : Option (List Value) := match S with
  | v :: w :: r => if v.category = 1 ∧ w.category = 1 then some (v :: w :: v :: w :: r) else none
  | _ => none
def dxPop (i : Instr) (n : Nat) (S : List Value) : Option (List Value) := match i, n with
  | .iconst c, 1 => some (.int (Int32.ofInt c) :: S)
  | .bipush c, 2 => some (.int (Int8.ofInt c).toInt32 :: S)
  | .sipush c, 3 => some (.int (Int16.ofInt c).toInt32 :: S)
  | .lconst c, 1 => some (.long (Int64.ofNat c) :: S)
  | .aconst_null, 1 => some (.null :: S)
  | .dup, 1 => dxOne (fun v => [v, v]) S
  | .pop, 1 => dxOne (fun _ => []) S
  | .dup2, 1 => dxTwo S
  | .iadd, 1 => dxII (fun x y => some (.int (x + y))) S
  | .isub, 1 => dxII (fun x y => some (.int (x - y))) S
  | .imul, 1 => dxII (fun x y => some (.int (x * y))) S
  | .idiv, 1 => dxII (fun x y => if y = 0 then none else some (.int (x / y))) S
  | .irem, 1 => dxII (fun x y => if y = 0 then none else some (.int (x - x / y * y))) S
  | .iand, 1 => dxII (fun x y => some (.int (x &&& y))) S
  | .ior, 1 => dxII (fun x y => some (.int (x ||| y))) S
  | .ixor, 1 => dxII (fun x y => some (.int (x ^^^ y))) S
  | .ishl, 1 => dxII (fun x y => some (.int (x <<< (y &&& 31)))) S
  | .ishr, 1 => dxII (fun x y => some (.int (x >>> (y &&& 31)))) S
  | .iushr, 1 => dxII (fun x y => some (.int (x.toUInt32 >>> (y.toUInt32 &&& Int32.toUInt32 31)).toInt32)) S
  | .ineg, 1 => dxI1 (fun x => .int (-x)) S
  | .i2l, 1 => dxI1 (fun x => .long x.toInt64) S
  | .l2i, 1 => dxJ1 (fun x => .int x.toInt32) S
  | .ladd, 1 => dxJJ (fun x y => some (.long (x + y))) S
  | .lmul, 1 => dxJJ (fun x y => some (.long (x * y))) S
  | .land, 1 => dxJJ (fun x y => some (.long (x &&& y))) S
  | .lor, 1 => dxJJ (fun x y => some (.long (x ||| y))) S
  | .lrem, 1 => dxJJ (fun x y => if y = 0 then none else some (.long (x - x / y * y))) S
  | .lcmp, 1 => dxJJ (fun x y => some (.int (lg_cmp x y))) S
  | .lshl, 1 => dxJI (fun x y => .long (x <<< (y.toInt64 &&& 63))) S
  | .lushr, 1 => dxJI (fun x y => .long (x.toUInt64 >>> (y.toInt64.toUInt64 &&& Int64.toUInt64 63)).toInt64) S
  | _, _ => none
-- locals
def dxNo2 (L : dxL) (j : Nat) : Bool := match j with
  | 0 => true
  | i + 1 => match L[i]? with
    | some (some (.long _)) => false
    | some (some (.double _)) => false
    | _ => true
def dxLdI (L : dxL) (j : Nat) (S : List Value) : Option (dxL × List Value) := match L[j]? with
  | some (some (.int x)) => some (L, .int x :: S)
  | _ => none
def dxLdJ (L : dxL) (j : Nat) (S : List Value) : Option (dxL × List Value) := match L[j]? with
  | some (some (.long x)) => some (L, .long x :: S)
  | _ => none
def dxLdA (L : dxL) (j : Nat) (S : List Value) : Option (dxL × List Value) := match L[j]? with
  | some (some (.ref x)) => some (L, .ref x :: S)
  | some (some (.float x)) => some (L, .float x :: S)
  | _ => none
def dxStI (L : dxL) (j : Nat) (S : List Value) : Option (dxL × List Value) := match S with
  | .int x :: r => if j < L.length ∧ dxNo2 L j = true then some (L.set j (some (.int x)), r) else none
  | _ => none
def dxStA (L : dxL) (j : Nat) (S : List Value) : Option (dxL × List Value) := match S with
  | .ref x :: r => if j < L.length ∧ dxNo2 L j = true then some (L.set j (some (.ref x)), r) else none
  | _ => none
def dxStJ (L : dxL) (j : Nat) (S : List Value) : Option (dxL × List Value) := match S with
  | .long x :: r => if j + 1 < L.length ∧ dxNo2 L j = true then some ((L.set j (some (.long x))).set (j + 1) none, r) else none
  | _ => none
def dxLoc (i : Instr) (n : Nat) (L : dxL) (S : List Value) : Option (dxL × List Value) := match i, n with
  | .iload_n j, 1 => dxLdI L j S
  | .iload j, 2 => dxLdI L j S
  | .lload_n j, 1 => dxLdJ L j S
  | .lload j, 2 => dxLdJ L j S
  | .aload_n j, 1 => dxLdA L j S
  | .aload j, 2 => dxLdA L j S
  | .istore_n j, 1 => dxStI L j S
  | .istore j, 2 => dxStI L j S
  | .astore_n j, 1 => dxStA L j S
  | .astore j, 2 => dxStA L j S
  | .lstore_n j, 1 => dxStJ L j S
  | .lstore j, 2 => dxStJ L j S
  | .iinc j d, 3 => match L[j]? with
    | some (some (.int x)) => if dxNo2 L j = true then some (L.set j (some (.int (x + Int32.ofInt d))), S) else none
    | _ => none
  | _, _ => none
-- jumps
def dxTg (pc : Nat) (off : Int) : Nat := ((pc : Int) + off).toNat
def dxIf2 (c : Int32 → Int32 → Bool) (t e : Nat) (S : List Value) : Option (Nat × List Value) := match S with
  | .int y :: .int x :: r => some (if c x y = true then t else e, r)
  | _ => none
def dxIf1 (c : Int32 → Bool) (t e : Nat) (S : List Value) : Option (Nat × List Value) := match S with
  | .int x :: r => some (if c x = true then t else e, r)
  | _ => none
def dxJmp (i : Instr) (n pc : Nat) (S : List Value) : Option (Nat × List Value) := match i, n with
  | .goto o, 3 => if 0 ≤ (pc : Int) + o then some (dxTg pc o, S) else none
  | .if_icmp .eq o, 3 => if 0 ≤ (pc : Int) + o then dxIf2 (fun x y => decide (x = y)) (dxTg pc o) (pc + 3) S else none
  | .if_icmp .ne o, 3 => if 0 ≤ (pc : Int) + o then dxIf2 (fun x y => decide (¬ x = y)) (dxTg pc o) (pc + 3) S else none
  | .if_icmp .lt o, 3 => if 0 ≤ (pc : Int) + o then dxIf2 (fun x y => decide (x < y)) (dxTg pc o) (pc + 3) S else none
  | .if_icmp .ge o, 3 => if 0 ≤ (pc : Int) + o then dxIf2 (fun x y => decide (y ≤ x)) (dxTg pc o) (pc + 3) S else none
  | .if_icmp .gt o, 3 => if 0 ≤ (pc : Int) + o then dxIf2 (fun x y => decide (y < x)) (dxTg pc o) (pc + 3) S else none
  | .if_icmp .le o, 3 => if 0 ≤ (pc : Int) + o then dxIf2 (fun x y => decide (x ≤ y)) (dxTg pc o) (pc + 3) S else none
  | .ifCond .eq o, 3 => if 0 ≤ (pc : Int) + o then dxIf1 (fun x => decide (x = 0)) (dxTg pc o) (pc + 3) S else none
  | .ifCond .ne o, 3 => if 0 ≤ (pc : Int) + o then dxIf1 (fun x => decide (¬ x = 0)) (dxTg pc o) (pc + 3) S else none
  | .ifCond .lt o, 3 => if 0 ≤ (pc : Int) + o then dxIf1 (fun x => decide (x < 0)) (dxTg pc o) (pc + 3) S else none
  | .ifCond .ge o, 3 => if 0 ≤ (pc : Int) + o then dxIf1 (fun x => decide (0 ≤ x)) (dxTg pc o) (pc + 3) S else none
  | .ifCond .gt o, 3 => if 0 ≤ (pc : Int) + o then dxIf1 (fun x => decide (0 < x)) (dxTg pc o) (pc + 3) S else none
  | .ifCond .le o, 3 => if 0 ≤ (pc : Int) + o then dxIf1 (fun x => decide (x ≤ 0)) (dxTg pc o) (pc + 3) S else none
  | .ifnull o, 3 => if 0 ≤ (pc : Int) + o then (match S with
    | .ref _ :: r => some (pc + 3, r)
    | .null :: r => some (dxTg pc o, r)
    | _ => none) else none
  | .tableswitch d lo hi offs, _ => match S with
    | .int x :: r => if x.toInt < lo ∨ hi < x.toInt then (if 0 ≤ (pc : Int) + d then some (dxTg pc d, r) else none) else match offs[(x.toInt - lo).toNat]? with
      | some o => if 0 ≤ (pc : Int) + o then some (dxTg pc o, r) else none
      | none => none
    | _ => none
  | _, _ => none
-- constants
def dxKst (ci : Nat) (i : Instr) (n : Nat) (S : List Value) : Option (List Value) := match i, n with
  | .ldc_w idx, 3 => match dxK ci idx with
    | some (.inl v, _) => some (.int v :: S)
    | _ => none
  | .ldc2_w idx, 3 => match dxK ci idx with
    | some (.inr v, _) => some (.long v :: S)
    | _ => none
  | _, _ => none
-- cells
def dxFit (t : FieldType) (v : Value) : Bool := match t, v with
  | .int, .int _ => true
  | .boolean, .int x => x == 0 || x == 1
  | .long, .long _ => true
  | .object _, .ref _ => true
  | .array _, .ref _ => true
  | _, _ => false
def dxIn (i : Int32) (n : Nat) : Bool := decide (¬ (i < 0 ∨ n ≤ i.toNatClampNeg))
def dxGet (ci idx : Nat) (S : List Value) (H : dxH) : Option (List Value × dxH) := match dxF ci idx with
  | some (c, j, _) => match S with
    | .ref a :: r => match H[a]? with
      | some (.inr (c', fs)) => if c' = c then (match fs[j]? with
        | some v => some (v :: r, H)
        | none => none) else none
      | _ => none
    | _ => none
  | none => none
def dxPut (k idx : Nat) (S : List Value) (H : dxH) : Option (List Value × dxH) := match dxF (dxCi k) idx with
  | some (c, j, _) => match S with
    | v :: .ref a :: r => match H[a]? with
      | some (.inr (c', fs)) => if c' = c ∧ j < fs.length ∧ dxFit (dxTyp c j) v = true ∧ (((dxCl c).2.1 j).2.2.2 = false ∨ ((dxY k).name = "<init>" ∧ c = dxCi k)) then some (r, H.set a (.inr (c, fs.set j v))) else none
      | _ => none
    | _ => none
  | none => none
def dxALd (t : Nat) (tb : dxT) (S : List Value) (H : dxH) : Option (List Value × dxH) := match S with
  | .int i :: .ref a :: r => match H[a]? with
    | some (.inl (t', n, .inl f)) => if t' = t ∧ dxIn i n = true then some (.int (f i.toNatClampNeg) :: r, H) else none
    | _ => none
  | .int i :: .float u :: r => if t = 0 ∧ u.toNat < 5 ∧ dxIn i (tb u.toNat).1 = true then some (.int ((tb u.toNat).2 i.toNatClampNeg) :: r, H) else none
  | _ => none
def dxASt (t : Nat) (S : List Value) (H : dxH) : Option (List Value × dxH) := match S with
  | .int x :: .int i :: .ref a :: r => match H[a]? with
    | some (.inl (t', n, .inl f)) => if t' = t ∧ dxIn i n = true ∧ (t = 1 → vp_nar .boolean x = x) then some (r, H.set a (.inl (t, n, .inl (upd f i.toNatClampNeg x)))) else none
    | _ => none
  | _ => none
def dxQLd (S : List Value) (H : dxH) : Option (List Value × dxH) := match S with
  | .int i :: .ref a :: r => match H[a]? with
    | some (.inl (t', n, .inr (.inr (.inr (.inr f))))) => if t' = 2 ∧ dxIn i n = true then some (va_rf (f i.toNatClampNeg) :: r, H) else none
    | _ => none
  | _ => none
def dxQSt (S : List Value) (H : dxH) : Option (List Value × dxH) := match S with
  | .ref v :: .int i :: .ref a :: r => match H[a]?, H[v]? with
    | some (.inl (t', n, .inr (.inr (.inr (.inr f))))), some (.inr (3, _)) => if t' = 2 ∧ dxIn i n = true then some (r, H.set a (.inl (2, n, .inr (.inr (.inr (.inr (va_up f i.toNatClampNeg (some v)))))))) else none
    | _, _ => none
  | _ => none
def dxLen (tb : dxT) (S : List Value) (H : dxH) : Option (List Value × dxH) := match S with
  | .ref a :: r => match H[a]? with
    | some (.inl (t', n, _)) => if t' < 3 then some (.int (Int32.ofNat n) :: r, H) else none
    | _ => none
  | .float u :: r => if u.toNat < 5 then some (.int (Int32.ofNat (tb u.toNat).1) :: r, H) else none
  | _ => none
def dxHp (tb : dxT) (k : Nat) (i : Instr) (n : Nat) (S : List Value) (H : dxH) : Option (List Value × dxH) := match i, n with
  | .getfield idx, 3 => dxGet (dxCi k) idx S H
  | .putfield idx, 3 => dxPut k idx S H
  | .iaload, 1 => dxALd 0 tb S H
  | .baload, 1 => dxALd 1 tb S H
  | .iastore, 1 => dxASt 0 S H
  | .bastore, 1 => dxASt 1 S H
  | .aaload, 1 => dxQLd S H
  | .aastore, 1 => dxQSt S H
  | .arraylength, 1 => dxLen tb S H
  | .getstatic idx, 3 => match dxS (dxCi k) idx with
    | some (u, _) => some (.float (UInt32.ofNat u) :: S, H)
    | none => none
  | _, _ => none
-- new cells
def dxDef (t : FieldType) : Value := match t with
  | .int => .int 0
  | .boolean => .int 0
  | .long => .long 0
  | _ => .null
def dxNwA (t : Nat) (S : List Value) (H : dxH) (z : Nat) : Option (List Value × dxH × Nat) := match S with
  | .int m :: r => if ¬ m < 0 ∧ m.toNatClampNeg ≤ 100000 then some (.ref H.length :: r, H ++ [.inl (t, m.toNatClampNeg, .inl (fun _ => 0))], z + m.toNatClampNeg) else none
  | _ => none
def dxNw (k : Nat) (i : Instr) (n : Nat) (S : List Value) (H : dxH) (z : Nat) : Option (List Value × dxH × Nat) := match i, n with
  | .new idx, 3 => match dxC (dxCi k) idx with
    | some (c, _) => if c < 9 then some (.ref H.length :: S, H ++ [.inr (c, (List.range (dxCl c).2.2).map (fun j => dxDef (dxTyp c j)))], z + (dxCl c).2.2) else none
    | none => none
  | .newarray .int, 2 => dxNwA 0 S H z
  | .newarray .boolean, 2 => dxNwA 1 S H z
  | .anewarray idx, 3 => match dxC (dxCi k) idx with
    | some (3, _) => match S with
      | .int m :: r => if ¬ m < 0 ∧ m.toNatClampNeg ≤ 100000 then some (.ref H.length :: r, H ++ [.inl (2, m.toNatClampNeg, .inr (.inr (.inr (.inr (fun _ => none)))))], z + m.toNatClampNeg) else none
      | _ => none
    | _ => none
  | _, _ => none
-- the JDK's own
def dxW8 (S : List Value) : Bool := decide ((S.map fun v => v.category).sum ≤ 8)
def dxCpy (S : List Value) (H : dxH) : Option (List Value × dxH) := match S with
  | .int m :: .int dp :: .ref a :: .int sp :: .ref b :: r => match H[b]?, H[a]? with
    | some (.inl (0, n0, .inl f)), some (.inl (0, n1, .inl g)) => if dxW8 r = true ∧ ¬ sp < 0 ∧ ¬ dp < 0 ∧ ¬ m < 0 ∧ sp.toNatClampNeg + m.toNatClampNeg ≤ n0 ∧ dp.toNatClampNeg + m.toNatClampNeg ≤ n1 then some (r, H.set a (.inl (0, n1, .inl (va_cpy f g sp.toNatClampNeg dp.toNatClampNeg m.toNatClampNeg)))) else none
    | _, _ => none
  | _ => none
def dxBi (k : Nat) (i : Instr) (n : Nat) (S : List Value) (H : dxH) : Option (List Value × dxH) := match i, n with
  | .invokespecial idx, 3 => match dxLk (dxCi k) idx with
    | some (5, _) => match S with
      | .ref _ :: r => if dxW8 r = true ∧ 1 ≤ dxFr k ∧ 21 ≤ dxLo k then some (r, H) else none
      | _ => none
    | _ => none
  | .invokestatic idx, 3 => if 1 ≤ dxFr k ∧ 21 ≤ dxLo k then (match dxLk (dxCi k) idx with
    | some (6, _) => match S with
      | .int x :: r => if dxW8 r = true then some (.int (if 0 ≤ x then x else 0 - x) :: r, H) else none
      | _ => none
    | some (7, _) => match S with
      | .int y :: .int x :: r => if dxW8 r = true then some (.int (if y < x then y else x) :: r, H) else none
      | _ => none
    | some (8, _) => match S with
      | .int y :: .int x :: r => if dxW8 r = true then some (.int (if x < y then y else x) :: r, H) else none
      | _ => none
    | some (9, _) => if 26 ≤ dxLo k then dxCpy S H else none
    | _ => none) else none
  | _, _ => none
/-- a step that is no call of ours and no return -/
def dxStep (tb : dxT) (k : Nat) (i : Instr) (n pc : Nat) (L : dxL) (S : List Value) (H : dxH) (z : Nat) : Option (Nat × dxL × List Value × dxH × Nat) := match dxPop i n S with
  | some S' => some (pc + n, L, S', H, z)
  | none => match dxLoc i n L S with
    | some (L', S') => some (pc + n, L', S', H, z)
    | none => match dxJmp i n pc S with
      | some (pc', S') => some (pc', L, S', H, z)
      | none => match dxKst (dxCi k) i n S with
        | some S' => some (pc + n, L, S', H, z)
        | none => match dxHp tb k i n S H with
          | some (S', H') => some (pc + n, L, S', H', z)
          | none => match dxNw k i n S H z with
            | some (S', H', z') => some (pc + n, L, S', H', z')
            | none => match dxBi k i n S H with
              | some (S', H') => some (pc + n, L, S', H', z)
              | none => none
/-- a return -/
def dxRet (k : Nat) (i : Instr) (n : Nat) (S : List Value) : Option (Option Value) := match i, n with
  | .ireturn, 1 => match S with
    | [.int v] => if dxRt k = some .int ∨ (dxRt k = some .boolean ∧ v &&& 1 = v) then some (some (.int v)) else none
    | _ => none
  | .lreturn, 1 => match S with
    | [.long v] => if dxRt k = some .long then some (some (.long v)) else none
    | _ => none
  | .areturn, 1 => match S, dxRt k with
    | [.ref a], some (.object _) => some (some (.ref a))
    | [.null], some (.object _) => some (some .null)
    | _, _ => none
  | .return_, 1 => match S with
    | [] => if dxRt k = none then some none else none
    | _ => none
  | _, _ => none
/-- a call of ours: the method, how many values it takes from the stack (its receiver too) -/
def dxNp (k : Nat) : Nat := ((parseMethodDescriptor (dxY k).desc).map (fun d => d.parameters.length)).getD 0
def dxCal (k : Nat) (i : Instr) (n : Nat) : Option (Nat × Nat) := match i, n with
  | .invokevirtual idx, 3 => match dxLk (dxCi k) idx with
    | some (0, y, _) => some (y, dxNp y + 1)
    | _ => none
  | .invokestatic idx, 3 => match dxLk (dxCi k) idx with
    | some (1, y, _) => some (y, dxNp y)
    | some (2, y, _) => some (y, dxNp y)
    | _ => none
  | .invokespecial idx, 3 => match dxLk (dxCi k) idx with
    | some (3, y, _) => some (y, dxNp y + 1)
    | some (4, y, _) => some (y, dxNp y + 1)
    | _ => none
  | _, _ => none
/-- a method's locals at its entry -/
def dxArg : List Value → dxL
  | [] => []
  | v :: vs => if v.category = 2 then some v :: none :: dxArg vs else some v :: dxArg vs
def dxEnt (k : Nat) (vs : List Value) : dxL := dxArg vs ++ List.replicate (dxMl k - (dxArg vs).length) none
/-- the receiver of a call is an object of the method's class -/
def dxRcv (k y : Nat) (i : Instr) (vs : List Value) (H : dxH) : Bool := match i with
  | .invokestatic _ => true
  | .invokespecial _ => match vs with
    | .ref _ :: _ => true
    | _ => false
  | _ => match vs with
    | .ref a :: _ => match H[a]? with
      | some (.inr (c, _)) => decide (c = dxCi y) && decide (c < 9)
      | _ => false
    | _ => false
def dxRun (tb : dxT) : Nat → Nat → Nat → dxL → List Value → dxH → Nat → Option (Option Value × dxH × Nat)
  | 0, _, _, _, _, _, _ => none
  | f + 1, k, pc, L, S, H, z => match dxI k pc with
    | none => none
    | some (i, n) => match dxRet k i n S with
      | some r => some (r, H, z)
      | none => match dxCal k i n with
        | some (y, na) => if na ≤ S.length ∧ (dxArg (S.take na).reverse).length ≤ dxMl y ∧ dxRcv k y i (S.take na).reverse H = true ∧ dxW8 (S.drop na) = true ∧ dxFr y + 1 ≤ dxFr k ∧ 8 + (dxMl y + 11) + dxLo y ≤ dxLo k then
            (match dxRun tb f y 0 (dxEnt y (S.take na).reverse) [] H z with
            | some (r, H', z') => dxRun tb f k (pc + 3) L (r.toList ++ S.drop na) H' z'
            | none => none) else none
        | none => match dxStep tb k i n pc L S H z with
          | some (pc', L', S', H', z') => dxRun tb f k pc' L' S' H' z'
          | none => none
end
section
/-! the methods' code words, by program -/
theorem dxMc0 : lw_tbl[126]? = some (Cond.code (dxY 0) (dxB 0) (dxMl 0) (dxRt 0)) := by decide +kernel
theorem dxMc1 : lw_tbl[322]? = some (Cond.code (dxY 1) (dxB 1) (dxMl 1) (dxRt 1)) := by decide +kernel
theorem dxMc2 : lw_tbl[461]? = some (Cond.code (dxY 2) (dxB 2) (dxMl 2) (dxRt 2)) := by decide +kernel
theorem dxMc3 : lw_tbl[370]? = some (Cond.code (dxY 3) (dxB 3) (dxMl 3) (dxRt 3)) := by decide +kernel
theorem dxMc4 : lw_tbl[465]? = some (Cond.code (dxY 4) (dxB 4) (dxMl 4) (dxRt 4)) := by decide +kernel
theorem dxMc5 : lw_tbl[180]? = some (Cond.code (dxY 5) (dxB 5) (dxMl 5) (dxRt 5)) := by decide +kernel
theorem dxMc6 : lw_tbl[530]? = some (Cond.code (dxY 6) (dxB 6) (dxMl 6) (dxRt 6)) := by decide +kernel
theorem dxMc7 : lw_tbl[542]? = some (Cond.code (dxY 7) (dxB 7) (dxMl 7) (dxRt 7)) := by decide +kernel
theorem dxMc8 : lw_tbl[534]? = some (Cond.code (dxY 8) (dxB 8) (dxMl 8) (dxRt 8)) := by decide +kernel
theorem dxMc9 : lw_tbl[547]? = some (Cond.code (dxY 9) (dxB 9) (dxMl 9) (dxRt 9)) := by decide +kernel
theorem dxMc10 : lw_tbl[551]? = some (Cond.code (dxY 10) (dxB 10) (dxMl 10) (dxRt 10)) := by decide +kernel
theorem dxMc11 : lw_tbl[76]? = some (Cond.code (dxY 11) (dxB 11) (dxMl 11) (dxRt 11)) := by decide +kernel
theorem dxMc12 : lw_tbl[287]? = some (Cond.code (dxY 12) (dxB 12) (dxMl 12) (dxRt 12)) := by decide +kernel
theorem dxMc13 : lw_tbl[314]? = some (Cond.code (dxY 13) (dxB 13) (dxMl 13) (dxRt 13)) := by decide +kernel
theorem dxMc14 : lw_tbl[310]? = some (Cond.code (dxY 14) (dxB 14) (dxMl 14) (dxRt 14)) := by decide +kernel
theorem dxMc15 : lw_tbl[318]? = some (Cond.code (dxY 15) (dxB 15) (dxMl 15) (dxRt 15)) := by decide +kernel
theorem dxMc16 : lw_tbl[349]? = some (Cond.code (dxY 16) (dxB 16) (dxMl 16) (dxRt 16)) := by decide +kernel
theorem dxMc17 : lw_tbl[357]? = some (Cond.code (dxY 17) (dxB 17) (dxMl 17) (dxRt 17)) := by decide +kernel
theorem dxMc18 : lw_tbl[92]? = some (Cond.code (dxY 18) (dxB 18) (dxMl 18) (dxRt 18)) := by decide +kernel
theorem dxMc19 : lw_tbl[291]? = some (Cond.code (dxY 19) (dxB 19) (dxMl 19) (dxRt 19)) := by decide +kernel
theorem dxMc20 : lw_tbl[382]? = some (Cond.code (dxY 20) (dxB 20) (dxMl 20) (dxRt 20)) := by decide +kernel
theorem dxMc21 : lw_tbl[306]? = some (Cond.code (dxY 21) (dxB 21) (dxMl 21) (dxRt 21)) := by decide +kernel
theorem dxMc22 : lw_tbl[586]? = some (Cond.code (dxY 22) (dxB 22) (dxMl 22) (dxRt 22)) := by decide +kernel
theorem dxMc23 : lw_tbl[345]? = some (Cond.code (dxY 23) (dxB 23) (dxMl 23) (dxRt 23)) := by decide +kernel
theorem dxMc24 : lw_tbl[538]? = some (Cond.code (dxY 24) (dxB 24) (dxMl 24) (dxRt 24)) := by decide +kernel
theorem dxMc25 : lw_tbl[341]? = some (Cond.code (dxY 25) (dxB 25) (dxMl 25) (dxRt 25)) := by decide +kernel
theorem dxMc26 : lw_tbl[353]? = some (Cond.code (dxY 26) (dxB 26) (dxMl 26) (dxRt 26)) := by decide +kernel
theorem dxMc27 : lw_tbl[428]? = some (Cond.code (dxY 27) (dxB 27) (dxMl 27) (dxRt 27)) := by decide +kernel
theorem dxMc28 : lw_tbl[628]? = some (Cond.code (dxY 28) (dxB 28) (dxMl 28) (dxRt 28)) := by decide +kernel
theorem dxMc29 : lw_tbl[495]? = some (Cond.code (dxY 29) (dxB 29) (dxMl 29) (dxRt 29)) := by decide +kernel
theorem dxMc30 : lw_tbl[424]? = some (Cond.code (dxY 30) (dxB 30) (dxMl 30) (dxRt 30)) := by decide +kernel
theorem dxMc31 : lw_tbl[332]? = some (Cond.code (dxY 31) (dxB 31) (dxMl 31) (dxRt 31)) := by decide +kernel
theorem dxMc32 : lw_tbl[299]? = some (Cond.code (dxY 32) (dxB 32) (dxMl 32) (dxRt 32)) := by decide +kernel
theorem dxMc33 : lw_tbl[436]? = some (Cond.code (dxY 33) (dxB 33) (dxMl 33) (dxRt 33)) := by decide +kernel
theorem dxMc34 : lw_tbl[440]? = some (Cond.code (dxY 34) (dxB 34) (dxMl 34) (dxRt 34)) := by decide +kernel
theorem dxMc35 : lw_tbl[449]? = some (Cond.code (dxY 35) (dxB 35) (dxMl 35) (dxRt 35)) := by decide +kernel
theorem dxMc36 : lw_tbl[453]? = some (Cond.code (dxY 36) (dxB 36) (dxMl 36) (dxRt 36)) := by decide +kernel
theorem dxMc37 : lw_tbl[518]? = some (Cond.code (dxY 37) (dxB 37) (dxMl 37) (dxRt 37)) := by decide +kernel
theorem dxMc38 : lw_tbl[681]? = some (Cond.code (dxY 38) (dxB 38) (dxMl 38) (dxRt 38)) := by decide +kernel
theorem dxMc39 : lw_tbl[694]? = some (Cond.code (dxY 39) (dxB 39) (dxMl 39) (dxRt 39)) := by decide +kernel
theorem dxMc40 : lw_tbl[361]? = some (Cond.code (dxY 40) (dxB 40) (dxMl 40) (dxRt 40)) := by decide +kernel
theorem dxMc41 : lw_tbl[398]? = some (Cond.code (dxY 41) (dxB 41) (dxMl 41) (dxRt 41)) := by decide +kernel
theorem dxMc42 : lw_tbl[393]? = some (Cond.code (dxY 42) (dxB 42) (dxMl 42) (dxRt 42)) := by decide +kernel
theorem dxMc43 : lw_tbl[389]? = some (Cond.code (dxY 43) (dxB 43) (dxMl 43) (dxRt 43)) := by decide +kernel
theorem dxMc44 : lw_tbl[504]? = some (Cond.code (dxY 44) (dxB 44) (dxMl 44) (dxRt 44)) := by decide +kernel
theorem dxMc45 : lw_tbl[514]? = some (Cond.code (dxY 45) (dxB 45) (dxMl 45) (dxRt 45)) := by decide +kernel
theorem dxMc46 : lw_tbl[402]? = some (Cond.code (dxY 46) (dxB 46) (dxMl 46) (dxRt 46)) := by decide +kernel
theorem dxMc47 : lw_tbl[410]? = some (Cond.code (dxY 47) (dxB 47) (dxMl 47) (dxRt 47)) := by decide +kernel
theorem dxMc48 : lw_tbl[62]? = some (Cond.code (dxY 48) (dxB 48) (dxMl 48) (dxRt 48)) := by decide +kernel
theorem dxMc49 : lw_tbl[237]? = some (Cond.code (dxY 49) (dxB 49) (dxMl 49) (dxRt 49)) := by decide +kernel
theorem dxMc50 : lw_tbl[245]? = some (Cond.code (dxY 50) (dxB 50) (dxMl 50) (dxRt 50)) := by decide +kernel
theorem dxMc51 : lw_tbl[233]? = some (Cond.code (dxY 51) (dxB 51) (dxMl 51) (dxRt 51)) := by decide +kernel
theorem dxMc52 : lw_tbl[257]? = some (Cond.code (dxY 52) (dxB 52) (dxMl 52) (dxRt 52)) := by decide +kernel
theorem dxMc53 : lw_tbl[275]? = some (Cond.code (dxY 53) (dxB 53) (dxMl 53) (dxRt 53)) := by decide +kernel
theorem dxMc54 : lw_tbl[253]? = some (Cond.code (dxY 54) (dxB 54) (dxMl 54) (dxRt 54)) := by decide +kernel
theorem dxMc55 : lw_tbl[271]? = some (Cond.code (dxY 55) (dxB 55) (dxMl 55) (dxRt 55)) := by decide +kernel
theorem dxMc56 : lw_tbl[295]? = some (Cond.code (dxY 56) (dxB 56) (dxMl 56) (dxRt 56)) := by decide +kernel
theorem dxMc57 : lw_tbl[132]? = some (Cond.code (dxY 57) (dxB 57) (dxMl 57) (dxRt 57)) := by decide +kernel
theorem dxMc58 : lw_tbl[378]? = some (Cond.code (dxY 58) (dxB 58) (dxMl 58) (dxRt 58)) := by decide +kernel
theorem dxMc59 : lw_tbl[374]? = some (Cond.code (dxY 59) (dxB 59) (dxMl 59) (dxRt 59)) := by decide +kernel
theorem dxMc60 : lw_tbl[469]? = some (Cond.code (dxY 60) (dxB 60) (dxMl 60) (dxRt 60)) := by decide +kernel
theorem dxMc61 : lw_tbl[160]? = some (Cond.code (dxY 61) (dxB 61) (dxMl 61) (dxRt 61)) := by decide +kernel
theorem dxMc62 : lw_tbl[620]? = some (Cond.code (dxY 62) (dxB 62) (dxMl 62) (dxRt 62)) := by decide +kernel
theorem dxMc63 : lw_tbl[612]? = some (Cond.code (dxY 63) (dxB 63) (dxMl 63) (dxRt 63)) := by decide +kernel
theorem dxMc64 : lw_tbl[608]? = some (Cond.code (dxY 64) (dxB 64) (dxMl 64) (dxRt 64)) := by decide +kernel
theorem dxMc65 : lw_tbl[636]? = some (Cond.code (dxY 65) (dxB 65) (dxMl 65) (dxRt 65)) := by decide +kernel
theorem dxMc66 : lw_tbl[54]? = some (Cond.code (dxY 66) (dxB 66) (dxMl 66) (dxRt 66)) := by decide +kernel
theorem dxMc67 : lw_tbl[229]? = some (Cond.code (dxY 67) (dxB 67) (dxMl 67) (dxRt 67)) := by decide +kernel
theorem dxMc68 : lw_tbl[241]? = some (Cond.code (dxY 68) (dxB 68) (dxMl 68) (dxRt 68)) := by decide +kernel
theorem dxMc69 : lw_tbl[249]? = some (Cond.code (dxY 69) (dxB 69) (dxMl 69) (dxRt 69)) := by decide +kernel
theorem dxMc70 : lw_tbl[283]? = some (Cond.code (dxY 70) (dxB 70) (dxMl 70) (dxRt 70)) := by decide +kernel
theorem dxMc71 : lw_tbl[327]? = some (Cond.code (dxY 71) (dxB 71) (dxMl 71) (dxRt 71)) := by decide +kernel
theorem dxMc72 : lw_tbl[336]? = some (Cond.code (dxY 72) (dxB 72) (dxMl 72) (dxRt 72)) := by decide +kernel
theorem dxMc73 : lw_tbl[366]? = some (Cond.code (dxY 73) (dxB 73) (dxMl 73) (dxRt 73)) := by decide +kernel
theorem dxMc74 : lw_tbl[420]? = some (Cond.code (dxY 74) (dxB 74) (dxMl 74) (dxRt 74)) := by decide +kernel
theorem dxMc75 : lw_tbl[432]? = some (Cond.code (dxY 75) (dxB 75) (dxMl 75) (dxRt 75)) := by decide +kernel
theorem dxMc76 : lw_tbl[445]? = some (Cond.code (dxY 76) (dxB 76) (dxMl 76) (dxRt 76)) := by decide +kernel
theorem dxMc77 : lw_tbl[457]? = some (Cond.code (dxY 77) (dxB 77) (dxMl 77) (dxRt 77)) := by decide +kernel
theorem dxMc78 : lw_tbl[473]? = some (Cond.code (dxY 78) (dxB 78) (dxMl 78) (dxRt 78)) := by decide +kernel
theorem dxMc79 : lw_tbl[481]? = some (Cond.code (dxY 79) (dxB 79) (dxMl 79) (dxRt 79)) := by decide +kernel
theorem dxMc80 : lw_tbl[509]? = some (Cond.code (dxY 80) (dxB 80) (dxMl 80) (dxRt 80)) := by decide +kernel
theorem dxMc81 : lw_tbl[522]? = some (Cond.code (dxY 81) (dxB 81) (dxMl 81) (dxRt 81)) := by decide +kernel
theorem dxMc82 : lw_tbl[556]? = some (Cond.code (dxY 82) (dxB 82) (dxMl 82) (dxRt 82)) := by decide +kernel
theorem dxMc83 : lw_tbl[570]? = some (Cond.code (dxY 83) (dxB 83) (dxMl 83) (dxRt 83)) := by decide +kernel
theorem dxMc84 : lw_tbl[574]? = some (Cond.code (dxY 84) (dxB 84) (dxMl 84) (dxRt 84)) := by decide +kernel
theorem dxMc85 : lw_tbl[599]? = some (Cond.code (dxY 85) (dxB 85) (dxMl 85) (dxRt 85)) := by decide +kernel
theorem dxMc86 : lw_tbl[604]? = some (Cond.code (dxY 86) (dxB 86) (dxMl 86) (dxRt 86)) := by decide +kernel
theorem dxMc87 : lw_tbl[616]? = some (Cond.code (dxY 87) (dxB 87) (dxMl 87) (dxRt 87)) := by decide +kernel
theorem dxMc88 : lw_tbl[624]? = some (Cond.code (dxY 88) (dxB 88) (dxMl 88) (dxRt 88)) := by decide +kernel
theorem dxMc89 : lw_tbl[642]? = some (Cond.code (dxY 89) (dxB 89) (dxMl 89) (dxRt 89)) := by decide +kernel
theorem dxMc90 : lw_tbl[654]? = some (Cond.code (dxY 90) (dxB 90) (dxMl 90) (dxRt 90)) := by decide +kernel
theorem dxMc91 : lw_tbl[662]? = some (Cond.code (dxY 91) (dxB 91) (dxMl 91) (dxRt 91)) := by decide +kernel
theorem dxMc92 : lw_tbl[666]? = some (Cond.code (dxY 92) (dxB 92) (dxMl 92) (dxRt 92)) := by decide +kernel
theorem dxMc93 : lw_tbl[673]? = some (Cond.code (dxY 93) (dxB 93) (dxMl 93) (dxRt 93)) := by decide +kernel
theorem dxMc94 : lw_tbl[685]? = some (Cond.code (dxY 94) (dxB 94) (dxMl 94) (dxRt 94)) := by decide +kernel
theorem dxMc95 : lw_tbl[690]? = some (Cond.code (dxY 95) (dxB 95) (dxMl 95) (dxRt 95)) := by decide +kernel
theorem dxMc96 : lw_tbl[302]? = some (Cond.code (dxY 96) (dxB 96) (dxMl 96) (dxRt 96)) := by decide +kernel
theorem dxMc97 : lw_tbl[406]? = some (Cond.code (dxY 97) (dxB 97) (dxMl 97) (dxRt 97)) := by decide +kernel
theorem dxMc98 : lw_tbl[676]? = some (Cond.code (dxY 98) (dxB 98) (dxMl 98) (dxRt 98)) := by decide +kernel
theorem dxMc99 : lw_tbl[476]? = some (Cond.code (dxY 99) (dxB 99) (dxMl 99) (dxRt 99)) := by decide +kernel
theorem dxMc100 : lw_tbl[498]? = some (Cond.code (dxY 100) (dxB 100) (dxMl 100) (dxRt 100)) := by decide +kernel
theorem dxMc101 : lw_tbl[491]? = some (Cond.code (dxY 101) (dxB 101) (dxMl 101) (dxRt 101)) := by decide +kernel
theorem dxMc102 : lw_tbl[488]? = some (Cond.code (dxY 102) (dxB 102) (dxMl 102) (dxRt 102)) := by decide +kernel
theorem dxMc103 : lw_tbl[485]? = some (Cond.code (dxY 103) (dxB 103) (dxMl 103) (dxRt 103)) := by decide +kernel
theorem dxMc104 : lw_tbl[582]? = some (Cond.code (dxY 104) (dxB 104) (dxMl 104) (dxRt 104)) := by decide +kernel
theorem dxMc105 : lw_tbl[560]? = some (Cond.code (dxY 105) (dxB 105) (dxMl 105) (dxRt 105)) := by decide +kernel
theorem dxMc106 : lw_tbl[658]? = some (Cond.code (dxY 106) (dxB 106) (dxMl 106) (dxRt 106)) := by decide +kernel
theorem dxMc107 : lw_tbl[632]? = some (Cond.code (dxY 107) (dxB 107) (dxMl 107) (dxRt 107)) := by decide +kernel
theorem dxMc108 : lw_tbl[526]? = some (Cond.code (dxY 108) (dxB 108) (dxMl 108) (dxRt 108)) := by decide +kernel
theorem dxMc109 : lw_tbl[650]? = some (Cond.code (dxY 109) (dxB 109) (dxMl 109) (dxRt 109)) := by decide +kernel
theorem dxMc110 : lw_tbl[646]? = some (Cond.code (dxY 110) (dxB 110) (dxMl 110) (dxRt 110)) := by decide +kernel
theorem dxMc111 : lw_tbl[589]? = some (Cond.code (dxY 111) (dxB 111) (dxMl 111) (dxRt 111)) := by decide +kernel
theorem dxMc112 : lw_tbl[595]? = some (Cond.code (dxY 112) (dxB 112) (dxMl 112) (dxRt 112)) := by decide +kernel
theorem dxMc113 : lw_tbl[563]? = some (Cond.code (dxY 113) (dxB 113) (dxMl 113) (dxRt 113)) := by decide +kernel
theorem dxMc114 : lw_tbl[566]? = some (Cond.code (dxY 114) (dxB 114) (dxMl 114) (dxRt 114)) := by decide +kernel
theorem dxMc115 : lw_tbl[578]? = some (Cond.code (dxY 115) (dxB 115) (dxMl 115) (dxRt 115)) := by decide +kernel
theorem dxMc116 : lw_tbl[699]? = some (Cond.code (dxY 116) (dxB 116) (dxMl 116) (dxRt 116)) := by decide +kernel
theorem dxMc117 : lw_tbl[787]? = some (Cond.code (dxY 117) (dxB 117) (dxMl 117) (dxRt 117)) := by decide +kernel
theorem dxMc118 : lw_tbl[807]? = some (Cond.code (dxY 118) (dxB 118) (dxMl 118) (dxRt 118)) := by decide +kernel
theorem dxMc119 : lw_tbl[935]? = some (Cond.code (dxY 119) (dxB 119) (dxMl 119) (dxRt 119)) := by decide +kernel
theorem dxMc120 : lw_tbl[783]? = some (Cond.code (dxY 120) (dxB 120) (dxMl 120) (dxRt 120)) := by decide +kernel
theorem dxMc121 : lw_tbl[791]? = some (Cond.code (dxY 121) (dxB 121) (dxMl 121) (dxRt 121)) := by decide +kernel
theorem dxMc122 : lw_tbl[811]? = some (Cond.code (dxY 122) (dxB 122) (dxMl 122) (dxRt 122)) := by decide +kernel
theorem dxMc123 : lw_tbl[803]? = some (Cond.code (dxY 123) (dxB 123) (dxMl 123) (dxRt 123)) := by decide +kernel
theorem dxMc124 : lw_tbl[799]? = some (Cond.code (dxY 124) (dxB 124) (dxMl 124) (dxRt 124)) := by decide +kernel
theorem dxMc125 : lw_tbl[815]? = some (Cond.code (dxY 125) (dxB 125) (dxMl 125) (dxRt 125)) := by decide +kernel
theorem dxMc126 : lw_tbl[795]? = some (Cond.code (dxY 126) (dxB 126) (dxMl 126) (dxRt 126)) := by decide +kernel
theorem dxMc127 : lw_tbl[819]? = some (Cond.code (dxY 127) (dxB 127) (dxMl 127) (dxRt 127)) := by decide +kernel
theorem dxMc128 : lw_tbl[831]? = some (Cond.code (dxY 128) (dxB 128) (dxMl 128) (dxRt 128)) := by decide +kernel
theorem dxMc129 : lw_tbl[823]? = some (Cond.code (dxY 129) (dxB 129) (dxMl 129) (dxRt 129)) := by decide +kernel
theorem dxMc130 : lw_tbl[835]? = some (Cond.code (dxY 130) (dxB 130) (dxMl 130) (dxRt 130)) := by decide +kernel
theorem dxMc131 : lw_tbl[827]? = some (Cond.code (dxY 131) (dxB 131) (dxMl 131) (dxRt 131)) := by decide +kernel
theorem dxMc132 : lw_tbl[855]? = some (Cond.code (dxY 132) (dxB 132) (dxMl 132) (dxRt 132)) := by decide +kernel
theorem dxMc133 : lw_tbl[851]? = some (Cond.code (dxY 133) (dxB 133) (dxMl 133) (dxRt 133)) := by decide +kernel
theorem dxMc134 : lw_tbl[859]? = some (Cond.code (dxY 134) (dxB 134) (dxMl 134) (dxRt 134)) := by decide +kernel
theorem dxMc135 : lw_tbl[847]? = some (Cond.code (dxY 135) (dxB 135) (dxMl 135) (dxRt 135)) := by decide +kernel
theorem dxMc136 : lw_tbl[843]? = some (Cond.code (dxY 136) (dxB 136) (dxMl 136) (dxRt 136)) := by decide +kernel
theorem dxMc137 : lw_tbl[839]? = some (Cond.code (dxY 137) (dxB 137) (dxMl 137) (dxRt 137)) := by decide +kernel
theorem dxMc138 : lw_tbl[867]? = some (Cond.code (dxY 138) (dxB 138) (dxMl 138) (dxRt 138)) := by decide +kernel
theorem dxMc139 : lw_tbl[863]? = some (Cond.code (dxY 139) (dxB 139) (dxMl 139) (dxRt 139)) := by decide +kernel
theorem dxMc140 : lw_tbl[871]? = some (Cond.code (dxY 140) (dxB 140) (dxMl 140) (dxRt 140)) := by decide +kernel
theorem dxMc141 : lw_tbl[875]? = some (Cond.code (dxY 141) (dxB 141) (dxMl 141) (dxRt 141)) := by decide +kernel
theorem dxMc142 : lw_tbl[879]? = some (Cond.code (dxY 142) (dxB 142) (dxMl 142) (dxRt 142)) := by decide +kernel
theorem dxMc143 : lw_tbl[888]? = some (Cond.code (dxY 143) (dxB 143) (dxMl 143) (dxRt 143)) := by decide +kernel
theorem dxMc144 : lw_tbl[883]? = some (Cond.code (dxY 144) (dxB 144) (dxMl 144) (dxRt 144)) := by decide +kernel
theorem dxMc145 : lw_tbl[896]? = some (Cond.code (dxY 145) (dxB 145) (dxMl 145) (dxRt 145)) := by decide +kernel
theorem dxMc146 : lw_tbl[892]? = some (Cond.code (dxY 146) (dxB 146) (dxMl 146) (dxRt 146)) := by decide +kernel
theorem dxMc147 : lw_tbl[900]? = some (Cond.code (dxY 147) (dxB 147) (dxMl 147) (dxRt 147)) := by decide +kernel
theorem dxMc148 : lw_tbl[909]? = some (Cond.code (dxY 148) (dxB 148) (dxMl 148) (dxRt 148)) := by decide +kernel
theorem dxMc149 : lw_tbl[913]? = some (Cond.code (dxY 149) (dxB 149) (dxMl 149) (dxRt 149)) := by decide +kernel
theorem dxMc150 : lw_tbl[904]? = some (Cond.code (dxY 150) (dxB 150) (dxMl 150) (dxRt 150)) := by decide +kernel
theorem dxMc151 : lw_tbl[921]? = some (Cond.code (dxY 151) (dxB 151) (dxMl 151) (dxRt 151)) := by decide +kernel
theorem dxMc152 : lw_tbl[917]? = some (Cond.code (dxY 152) (dxB 152) (dxMl 152) (dxRt 152)) := by decide +kernel
theorem dxMc153 : lw_tbl[928]? = some (Cond.code (dxY 153) (dxB 153) (dxMl 153) (dxRt 153)) := by decide +kernel
theorem dxMc154 : lw_tbl[925]? = some (Cond.code (dxY 154) (dxB 154) (dxMl 154) (dxRt 154)) := by decide +kernel
theorem dxMc155 : lw_tbl[938]? = some (Cond.code (dxY 155) (dxB 155) (dxMl 155) (dxRt 155)) := by decide +kernel
theorem dxMc156 : lw_tbl[941]? = some (Cond.code (dxY 156) (dxB 156) (dxMl 156) (dxRt 156)) := by decide +kernel
theorem dxMc157 : lw_tbl[932]? = some (Cond.code (dxY 157) (dxB 157) (dxMl 157) (dxRt 157)) := by decide +kernel
theorem dxMc158 : lw_tbl[945]? = some (Cond.code (dxY 158) (dxB 158) (dxMl 158) (dxRt 158)) := by decide +kernel
theorem dxMc159 : lw_tbl[949]? = some (Cond.code (dxY 159) (dxB 159) (dxMl 159) (dxRt 159)) := by decide +kernel
theorem dxMc160 : lw_tbl[954]? = some (Cond.code (dxY 160) (dxB 160) (dxMl 160) (dxRt 160)) := by decide +kernel
theorem dxMc161 : lw_tbl[962]? = some (Cond.code (dxY 161) (dxB 161) (dxMl 161) (dxRt 161)) := by decide +kernel
theorem dxMc162 : lw_tbl[958]? = some (Cond.code (dxY 162) (dxB 162) (dxMl 162) (dxRt 162)) := by decide +kernel
theorem dxMc163 : lw_tbl[970]? = some (Cond.code (dxY 163) (dxB 163) (dxMl 163) (dxRt 163)) := by decide +kernel
theorem dxMc164 : lw_tbl[974]? = some (Cond.code (dxY 164) (dxB 164) (dxMl 164) (dxRt 164)) := by decide +kernel
theorem dxMc165 : lw_tbl[966]? = some (Cond.code (dxY 165) (dxB 165) (dxMl 165) (dxRt 165)) := by decide +kernel
theorem dxMc166 : lw_tbl[978]? = some (Cond.code (dxY 166) (dxB 166) (dxMl 166) (dxRt 166)) := by decide +kernel
theorem dxMc167 : lw_tbl[984]? = some (Cond.code (dxY 167) (dxB 167) (dxMl 167) (dxRt 167)) := by decide +kernel
theorem dxMc168 : lw_tbl[988]? = some (Cond.code (dxY 168) (dxB 168) (dxMl 168) (dxRt 168)) := by decide +kernel
theorem dxMc169 : lw_tbl[996]? = some (Cond.code (dxY 169) (dxB 169) (dxMl 169) (dxRt 169)) := by decide +kernel
theorem dxMc170 : lw_tbl[1000]? = some (Cond.code (dxY 170) (dxB 170) (dxMl 170) (dxRt 170)) := by decide +kernel
theorem dxMc171 : lw_tbl[1004]? = some (Cond.code (dxY 171) (dxB 171) (dxMl 171) (dxRt 171)) := by decide +kernel
theorem dxMc172 : lw_tbl[260]? = some (Cond.code (dxY 172) (dxB 172) (dxMl 172) (dxRt 172)) := by decide +kernel
theorem dxMc_all : ∀ k, k < 173 → lw_tbl[dxPs k]? = some (Cond.code (dxY k) (dxB k) (dxMl k) (dxRt k))
  | 0, _ => dxMc0
  | 1, _ => dxMc1
  | 2, _ => dxMc2
  | 3, _ => dxMc3
  | 4, _ => dxMc4
  | 5, _ => dxMc5
  | 6, _ => dxMc6
  | 7, _ => dxMc7
  | 8, _ => dxMc8
  | 9, _ => dxMc9
  | 10, _ => dxMc10
  | 11, _ => dxMc11
  | 12, _ => dxMc12
  | 13, _ => dxMc13
  | 14, _ => dxMc14
  | 15, _ => dxMc15
  | 16, _ => dxMc16
  | 17, _ => dxMc17
  | 18, _ => dxMc18
  | 19, _ => dxMc19
  | 20, _ => dxMc20
  | 21, _ => dxMc21
  | 22, _ => dxMc22
  | 23, _ => dxMc23
  | 24, _ => dxMc24
  | 25, _ => dxMc25
  | 26, _ => dxMc26
  | 27, _ => dxMc27
  | 28, _ => dxMc28
  | 29, _ => dxMc29
  | 30, _ => dxMc30
  | 31, _ => dxMc31
  | 32, _ => dxMc32
  | 33, _ => dxMc33
  | 34, _ => dxMc34
  | 35, _ => dxMc35
  | 36, _ => dxMc36
  | 37, _ => dxMc37
  | 38, _ => dxMc38
  | 39, _ => dxMc39
  | 40, _ => dxMc40
  | 41, _ => dxMc41
  | 42, _ => dxMc42
  | 43, _ => dxMc43
  | 44, _ => dxMc44
  | 45, _ => dxMc45
  | 46, _ => dxMc46
  | 47, _ => dxMc47
  | 48, _ => dxMc48
  | 49, _ => dxMc49
  | 50, _ => dxMc50
  | 51, _ => dxMc51
  | 52, _ => dxMc52
  | 53, _ => dxMc53
  | 54, _ => dxMc54
  | 55, _ => dxMc55
  | 56, _ => dxMc56
  | 57, _ => dxMc57
  | 58, _ => dxMc58
  | 59, _ => dxMc59
  | 60, _ => dxMc60
  | 61, _ => dxMc61
  | 62, _ => dxMc62
  | 63, _ => dxMc63
  | 64, _ => dxMc64
  | 65, _ => dxMc65
  | 66, _ => dxMc66
  | 67, _ => dxMc67
  | 68, _ => dxMc68
  | 69, _ => dxMc69
  | 70, _ => dxMc70
  | 71, _ => dxMc71
  | 72, _ => dxMc72
  | 73, _ => dxMc73
  | 74, _ => dxMc74
  | 75, _ => dxMc75
  | 76, _ => dxMc76
  | 77, _ => dxMc77
  | 78, _ => dxMc78
  | 79, _ => dxMc79
  | 80, _ => dxMc80
  | 81, _ => dxMc81
  | 82, _ => dxMc82
  | 83, _ => dxMc83
  | 84, _ => dxMc84
  | 85, _ => dxMc85
  | 86, _ => dxMc86
  | 87, _ => dxMc87
  | 88, _ => dxMc88
  | 89, _ => dxMc89
  | 90, _ => dxMc90
  | 91, _ => dxMc91
  | 92, _ => dxMc92
  | 93, _ => dxMc93
  | 94, _ => dxMc94
  | 95, _ => dxMc95
  | 96, _ => dxMc96
  | 97, _ => dxMc97
  | 98, _ => dxMc98
  | 99, _ => dxMc99
  | 100, _ => dxMc100
  | 101, _ => dxMc101
  | 102, _ => dxMc102
  | 103, _ => dxMc103
  | 104, _ => dxMc104
  | 105, _ => dxMc105
  | 106, _ => dxMc106
  | 107, _ => dxMc107
  | 108, _ => dxMc108
  | 109, _ => dxMc109
  | 110, _ => dxMc110
  | 111, _ => dxMc111
  | 112, _ => dxMc112
  | 113, _ => dxMc113
  | 114, _ => dxMc114
  | 115, _ => dxMc115
  | 116, _ => dxMc116
  | 117, _ => dxMc117
  | 118, _ => dxMc118
  | 119, _ => dxMc119
  | 120, _ => dxMc120
  | 121, _ => dxMc121
  | 122, _ => dxMc122
  | 123, _ => dxMc123
  | 124, _ => dxMc124
  | 125, _ => dxMc125
  | 126, _ => dxMc126
  | 127, _ => dxMc127
  | 128, _ => dxMc128
  | 129, _ => dxMc129
  | 130, _ => dxMc130
  | 131, _ => dxMc131
  | 132, _ => dxMc132
  | 133, _ => dxMc133
  | 134, _ => dxMc134
  | 135, _ => dxMc135
  | 136, _ => dxMc136
  | 137, _ => dxMc137
  | 138, _ => dxMc138
  | 139, _ => dxMc139
  | 140, _ => dxMc140
  | 141, _ => dxMc141
  | 142, _ => dxMc142
  | 143, _ => dxMc143
  | 144, _ => dxMc144
  | 145, _ => dxMc145
  | 146, _ => dxMc146
  | 147, _ => dxMc147
  | 148, _ => dxMc148
  | 149, _ => dxMc149
  | 150, _ => dxMc150
  | 151, _ => dxMc151
  | 152, _ => dxMc152
  | 153, _ => dxMc153
  | 154, _ => dxMc154
  | 155, _ => dxMc155
  | 156, _ => dxMc156
  | 157, _ => dxMc157
  | 158, _ => dxMc158
  | 159, _ => dxMc159
  | 160, _ => dxMc160
  | 161, _ => dxMc161
  | 162, _ => dxMc162
  | 163, _ => dxMc163
  | 164, _ => dxMc164
  | 165, _ => dxMc165
  | 166, _ => dxMc166
  | 167, _ => dxMc167
  | 168, _ => dxMc168
  | 169, _ => dxMc169
  | 170, _ => dxMc170
  | 171, _ => dxMc171
  | 172, _ => dxMc172
  | k + 173, h => absurd h (by omega)
end
section
/-! soundness of the deep interpreter: stack, locals, jumps, constants -/
def dxV (b : Nat) (st : Nat → Nat) (v : Value) : Value := match v with
  | .ref a => .ref (b + a)
  | .float u => .ref (st u.toNat)
  | w => w
theorem dxV_cat (b : Nat) (st : Nat → Nat) (v : Value) : (dxV b st v).category = v.category := by cases v <;> rfl
theorem dxV_sum (b : Nat) (st : Nat → Nat) (S : List Value) : ((S.map (dxV b st)).map fun v => v.category).sum = (S.map fun v => v.category).sum := by
  rw [List.map_map]
  congr 1
  exact List.map_congr_left fun v _ => dxV_cat b st v
/-- the machine's locals hold the interpreter's -/
def dxLs (b : Nat) (st : Nat → Nat) (ls : Array Slot) (nL : Nat) (L : dxL) : Prop := ls.size = nL ∧ lv_wf ls ∧ L.length = nL ∧ ∀ (i : Nat) (v : Value), L[i]? = some (some v) → ls[i]? = some (.val (dxV b st v))
def dxLc (b : Nat) (st : Nat → Nat) (L : dxL) : List (Nat × Value) := (List.range L.length).filterMap (fun i => ((L[i]?).getD none).map (fun v => (i, dxV b st v)))
theorem dxLc_mem {b : Nat} {st : Nat → Nat} {L : dxL} {q : Nat × Value} : q ∈ dxLc b st L ↔ ∃ v, L[q.1]? = some (some v) ∧ q.2 = dxV b st v := by
  unfold dxLc
  rw [List.mem_filterMap]
  constructor
  · rintro ⟨i, hi, h⟩
    cases hx : L[i]? with
    | none => rw [hx] at h; cases h
    | some o =>
      cases o with
      | none => rw [hx] at h; cases h
      | some v => rw [hx] at h; cases h; exact ⟨v, hx, rfl⟩
  · rintro ⟨v, h1, h2⟩
    refine ⟨q.1, List.mem_range.mpr (List.getElem?_eq_some_iff.mp h1).1, ?_⟩
    rw [h1]
    show some (q.1, dxV b st v) = some q
    rw [← h2]
theorem dxLs.has {b : Nat} {st : Nat → Nat} {ls : Array Slot} {nL : Nat} {L : dxL} (h : dxLs b st ls nL L) : lv_has ls nL (dxLc b st L) := ⟨h.1, h.2.1, fun q hq => by
  obtain ⟨v, h1, h2⟩ := dxLc_mem.mp hq
  rw [h2]
  exact h.2.2.2 _ _ h1⟩
theorem dxNo2_spec {b : Nat} {st : Nat → Nat} {L : dxL} {j i : Nat} (h : dxNo2 L j = true) (hi : i + 1 = j) {v : Value} (hv : L[i]? = some (some v)) : (dxV b st v).category = 1 := by
  subst hi
  rw [dxV_cat]
  unfold dxNo2 at h
  simp only [hv] at h
  cases v <;> first | rfl | (simp at h)
theorem dxLs.set {b : Nat} {st : Nat → Nat} {ls' : Array Slot} {nL : Nat} {L : dxL} {j : Nat} {v w : Value} (hw : w = dxV b st v) (hlen : L.length = nL) (hn : dxNo2 L j = true) (hj : j < L.length) (h : lv_has ls' nL ((j, w) :: (dxLc b st L).filter (fun q => !(q.1 == j) && !(q.1 + 1 == j && q.2.category == 2)))) : dxLs b st ls' nL (L.set j (some v)) := by
  subst hw
  refine ⟨h.1, h.2.1, by rw [List.length_set]; exact hlen, fun i u hu => ?_⟩
  by_cases hij : i = j
  · subst hij
    rw [List.getElem?_set_self hj] at hu
    cases hu
    exact h.2.2 (i, _) List.mem_cons_self
  · rw [List.getElem?_set_ne (Ne.symm hij)] at hu
    refine h.2.2 (i, _) (List.mem_cons_of_mem _ (List.mem_filter.mpr ⟨dxLc_mem.mpr ⟨u, hu, rfl⟩, ?_⟩))
    simp only [Bool.and_eq_true, Bool.not_eq_true', beq_eq_false_iff_ne, ne_eq, Bool.and_eq_false_iff]
    refine ⟨hij, ?_⟩
    by_cases h1 : i + 1 = j
    · right
      exact fun z => absurd ((dxNo2_spec (b := b) (st := st) hn h1 hu).symm.trans z) (by decide)
    · left; exact h1
theorem dxLs.setJ {b : Nat} {st : Nat → Nat} {ls' : Array Slot} {nL : Nat} {L : dxL} {j : Nat} {x : Int64} (hlen : L.length = nL) (hn : dxNo2 L j = true) (hj : j + 1 < L.length) (h : lv_has ls' nL ((j, Value.long x) :: (dxLc b st L).filter (fun q => !(q.1 == j) && (!(q.1 == j + 1) && !(q.1 + 1 == j && q.2.category == 2))))) : dxLs b st ls' nL ((L.set j (some (.long x))).set (j + 1) none) := by
  refine ⟨h.1, h.2.1, by rw [List.length_set, List.length_set]; exact hlen, fun i u hu => ?_⟩
  by_cases h2 : i = j + 1
  · subst h2
    rw [List.getElem?_set_self (by rw [List.length_set]; exact hj)] at hu
    cases hu
  · rw [List.getElem?_set_ne (Ne.symm h2)] at hu
    by_cases hij : i = j
    · subst hij
      rw [List.getElem?_set_self (by omega)] at hu
      cases hu
      exact h.2.2 (i, _) List.mem_cons_self
    · rw [List.getElem?_set_ne (Ne.symm hij)] at hu
      refine h.2.2 (i, _) (List.mem_cons_of_mem _ (List.mem_filter.mpr ⟨dxLc_mem.mpr ⟨u, hu, rfl⟩, ?_⟩))
      simp only [Bool.and_eq_true, Bool.not_eq_true', beq_eq_false_iff_ne, ne_eq, Bool.and_eq_false_iff]
      refine ⟨hij, h2, ?_⟩
      by_cases h1 : i + 1 = j
      · right
        exact fun z => absurd ((dxNo2_spec (b := b) (st := st) hn h1 hu).symm.trans z) (by decide)
      · left; exact h1
theorem dxII_ok {f : Int32 → Int32 → Option Value} {S S' : List Value} (h : dxII f S = some S') : ∃ y x r v, S = .int y :: .int x :: r ∧ f x y = some v ∧ S' = v :: r := by
  unfold dxII at h
  split at h
  · rename_i y x r
    cases hv : f x y with
    | none => rw [hv] at h; cases h
    | some v => rw [hv] at h; cases h; exact ⟨y, x, r, v, rfl, hv, rfl⟩
  · cases h
theorem dxJJ_ok {f : Int64 → Int64 → Option Value} {S S' : List Value} (h : dxJJ f S = some S') : ∃ y x r v, S = .long y :: .long x :: r ∧ f x y = some v ∧ S' = v :: r := by
  unfold dxJJ at h
  split at h
  · rename_i y x r
    cases hv : f x y with
    | none => rw [hv] at h; cases h
    | some v => rw [hv] at h; cases h; exact ⟨y, x, r, v, rfl, hv, rfl⟩
  · cases h
theorem dxI1_ok {f : Int32 → Value} {S S' : List Value} (h : dxI1 f S = some S') : ∃ x r, S = .int x :: r ∧ S' = f x :: r := by
  unfold dxI1 at h
  split at h
  · cases h; exact ⟨_, _, rfl, rfl⟩
  · cases h
theorem dxJ1_ok {f : Int64 → Value} {S S' : List Value} (h : dxJ1 f S = some S') : ∃ x r, S = .long x :: r ∧ S' = f x :: r := by
  unfold dxJ1 at h
  split at h
  · cases h; exact ⟨_, _, rfl, rfl⟩
  · cases h
theorem dxJI_ok {f : Int64 → Int32 → Value} {S S' : List Value} (h : dxJI f S = some S') : ∃ y x r, S = .int y :: .long x :: r ∧ S' = f x y :: r := by
  unfold dxJI at h
  split at h
  · cases h; exact ⟨_, _, _, rfl, rfl⟩
  · cases h
theorem dxOne_ok {f : Value → List Value} {S S' : List Value} (h : dxOne f S = some S') : ∃ v r, S = v :: r ∧ v.category = 1 ∧ S' = f v ++ r := by
  unfold dxOne at h
  split at h
  · split at h
    · cases h; exact ⟨_, _, rfl, by assumption, rfl⟩
    · cases h
  · cases h
theorem dxTwo_ok {S S' : List Value} (h : dxTwo S = some S') : ∃ v w r, S = v :: w :: r ∧ v.category = 1 ∧ w.category = 1 ∧ S' = v :: w :: v :: w :: r := by
  unfold dxTwo at h
  split at h
  · split at h
    · rename_i hc
      cases h; exact ⟨_, _, _, rfl, hc.1, hc.2, rfl⟩
    · cases h
  · cases h
section DX1
variable {p : Program} {l : Launch} {e : Env} {R : Room} {s : State} {m : MethodId} {args : Array Value} {below : List Frame} {meth : Method} {c : Code} {H : Heap} {locs : List Loc} {cells slots : Nat} {Q : State → Prop}
variable {cc : ByteArray} {pc : Nat} {ls : Array Slot} {b : Nat} {st : Nat → Nat} {i : Instr} {n : Nat} {S S' : List Value} {L L' : dxL} {nL : Nat}
theorem dxPop_ok (hx : p.tables.exec = Jvm.exec) (hb : c.code = cc) (hd : decode cc pc = .ok (i, n)) (h : dxPop i n S = some S')
    (k : W p l e R s m args below meth c H locs cells slots Q (F0 m (pc + n) ls (S'.map (dxV b st)))) : W p l e R s m args below meth c H locs cells slots Q (F0 m pc ls (S.map (dxV b st))) := by
  unfold dxPop at h
  split at h
  · cases h; exact lv_iconst hx hb hd rfl k
  · cases h; exact lv_bipush hx hb hd rfl k
  · cases h; exact lv_sipush hx hb hd rfl k
  · cases h; exact lv_lconst hx hb hd rfl k
  · cases h; exact lv_null hx hb hd k
  · obtain ⟨v, r, rfl, hv, rfl⟩ := dxOne_ok h; exact lv_dup hx hb hd (by rw [dxV_cat]; exact hv) k
  · obtain ⟨v, r, rfl, hv, rfl⟩ := dxOne_ok h; exact lv_pop hx hb hd (by rw [dxV_cat]; exact hv) k
  · obtain ⟨v, w, r, rfl, hv, hw, rfl⟩ := dxTwo_ok h; exact lv_dup2_11 hx hb hd (by rw [dxV_cat]; exact hv) (by rw [dxV_cat]; exact hw) k
  · obtain ⟨y, x, r, v, rfl, hv, rfl⟩ := dxII_ok h; cases hv; exact lv_iadd hx hb hd k
  · obtain ⟨y, x, r, v, rfl, hv, rfl⟩ := dxII_ok h; cases hv; exact lv_isub hx hb hd k
  · obtain ⟨y, x, r, v, rfl, hv, rfl⟩ := dxII_ok h; cases hv; exact lv_imul hx hb hd k
  · obtain ⟨y, x, r, v, rfl, hv, rfl⟩ := dxII_ok h
    by_cases hy : y = 0
    · rw [if_pos hy] at hv; cases hv
    · rw [if_neg hy] at hv; cases hv; exact lv_idiv hx hb hd hy k
  · obtain ⟨y, x, r, v, rfl, hv, rfl⟩ := dxII_ok h
    by_cases hy : y = 0
    · rw [if_pos hy] at hv; cases hv
    · rw [if_neg hy] at hv; cases hv; exact lv_irem hx hb hd hy k
  · obtain ⟨y, x, r, v, rfl, hv, rfl⟩ := dxII_ok h; cases hv; exact lv_iand hx hb hd k
  · obtain ⟨y, x, r, v, rfl, hv, rfl⟩ := dxII_ok h; cases hv; exact lv_ior hx hb hd k
  · obtain ⟨y, x, r, v, rfl, hv, rfl⟩ := dxII_ok h; cases hv; exact lv_ixor hx hb hd k
  · obtain ⟨y, x, r, v, rfl, hv, rfl⟩ := dxII_ok h; cases hv; exact lv_ishl hx hb hd k
  · obtain ⟨y, x, r, v, rfl, hv, rfl⟩ := dxII_ok h; cases hv; exact lv_ishr hx hb hd k
  · obtain ⟨y, x, r, v, rfl, hv, rfl⟩ := dxII_ok h; cases hv; exact lv_iushr hx hb hd rfl k
  · obtain ⟨x, r, rfl, rfl⟩ := dxI1_ok h; exact lv_ineg hx hb hd k
  · obtain ⟨x, r, rfl, rfl⟩ := dxI1_ok h; exact lv_i2l hx hb hd rfl k
  · obtain ⟨x, r, rfl, rfl⟩ := dxJ1_ok h; exact lv_l2i hx hb hd rfl k
  · obtain ⟨y, x, r, v, rfl, hv, rfl⟩ := dxJJ_ok h; cases hv; exact lv_ladd hx hb hd k
  · obtain ⟨y, x, r, v, rfl, hv, rfl⟩ := dxJJ_ok h; cases hv; exact lv_lmul hx hb hd k
  · obtain ⟨y, x, r, v, rfl, hv, rfl⟩ := dxJJ_ok h; cases hv; exact lv_land hx hb hd k
  · obtain ⟨y, x, r, v, rfl, hv, rfl⟩ := dxJJ_ok h; cases hv; exact lv_lor hx hb hd k
  · obtain ⟨y, x, r, v, rfl, hv, rfl⟩ := dxJJ_ok h
    by_cases hy : y = 0
    · rw [if_pos hy] at hv; cases hv
    · rw [if_neg hy] at hv; cases hv; exact lv_lrem hx hb hd hy k
  · obtain ⟨y, x, r, v, rfl, hv, rfl⟩ := dxJJ_ok h; cases hv; exact W.lcmp hx hb hd k
  · obtain ⟨y, x, r, rfl, rfl⟩ := dxJI_ok h; exact lv_lshl hx hb hd rfl k
  · obtain ⟨y, x, r, rfl, rfl⟩ := dxJI_ok h; exact lv_lushr hx hb hd rfl k
  · cases h
theorem dxLdI_ok {j : Nat} (h : dxLdI L j S = some (L', S')) (hl : dxLs b st ls nL L) : ∃ x, ls[j]? = some (.val (.int x)) ∧ L' = L ∧ S' = .int x :: S := by
  unfold dxLdI at h
  split at h
  · rename_i x hv
    cases h; exact ⟨x, hl.2.2.2 _ _ hv, rfl, rfl⟩
  · cases h
theorem dxLdJ_ok {j : Nat} (h : dxLdJ L j S = some (L', S')) (hl : dxLs b st ls nL L) : ∃ x, ls[j]? = some (.val (.long x)) ∧ L' = L ∧ S' = .long x :: S := by
  unfold dxLdJ at h
  split at h
  · rename_i x hv
    cases h; exact ⟨x, hl.2.2.2 _ _ hv, rfl, rfl⟩
  · cases h
theorem dxLdA_ok {j : Nat} (h : dxLdA L j S = some (L', S')) (hl : dxLs b st ls nL L) : ∃ a v, ls[j]? = some (.val (.ref a)) ∧ L' = L ∧ S' = v :: S ∧ dxV b st v = .ref a := by
  unfold dxLdA at h
  split at h
  · rename_i x hv
    cases h; exact ⟨_, _, hl.2.2.2 _ _ hv, rfl, rfl, rfl⟩
  · rename_i x hv
    cases h; exact ⟨_, _, hl.2.2.2 _ _ hv, rfl, rfl, rfl⟩
  · cases h
theorem dxStI_ok {j : Nat} (h : dxStI L j S = some (L', S')) : ∃ x, S = .int x :: S' ∧ j < L.length ∧ dxNo2 L j = true ∧ L' = L.set j (some (.int x)) := by
  unfold dxStI at h
  split at h
  · split at h
    · rename_i hc
      cases h; exact ⟨_, rfl, hc.1, hc.2, rfl⟩
    · cases h
  · cases h
theorem dxStA_ok {j : Nat} (h : dxStA L j S = some (L', S')) : ∃ x, S = .ref x :: S' ∧ j < L.length ∧ dxNo2 L j = true ∧ L' = L.set j (some (.ref x)) := by
  unfold dxStA at h
  split at h
  · split at h
    · rename_i hc
      cases h; exact ⟨_, rfl, hc.1, hc.2, rfl⟩
    · cases h
  · cases h
theorem dxStJ_ok {j : Nat} (h : dxStJ L j S = some (L', S')) : ∃ x, S = .long x :: S' ∧ j + 1 < L.length ∧ dxNo2 L j = true ∧ L' = (L.set j (some (.long x))).set (j + 1) none := by
  unfold dxStJ at h
  split at h
  · split at h
    · rename_i hc
      cases h; exact ⟨_, rfl, hc.1, hc.2, rfl⟩
    · cases h
  · cases h
theorem dxLoc_ok (hx : p.tables.exec = Jvm.exec) (hb : c.code = cc) (hd : decode cc pc = .ok (i, n)) (hl : dxLs b st ls nL L) (h : dxLoc i n L S = some (L', S'))
    (k : ∀ ls' : Array Slot, dxLs b st ls' nL L' → W p l e R s m args below meth c H locs cells slots Q (F0 m (pc + n) ls' (S'.map (dxV b st)))) : W p l e R s m args below meth c H locs cells slots Q (F0 m pc ls (S.map (dxV b st))) := by
  have hlen := hl.2.2.1
  unfold dxLoc at h
  split at h
  · obtain ⟨x, h1, rfl, rfl⟩ := dxLdI_ok h hl; exact lv_iload_n hx hb hd rfl h1 (k ls hl)
  · obtain ⟨x, h1, rfl, rfl⟩ := dxLdI_ok h hl; exact lv_iload hx hb hd h1 (k ls hl)
  · obtain ⟨x, h1, rfl, rfl⟩ := dxLdJ_ok h hl; exact lv_lload_n hx hb hd rfl h1 (k ls hl)
  · obtain ⟨x, h1, rfl, rfl⟩ := dxLdJ_ok h hl; exact lv_lload hx hb hd h1 (k ls hl)
  · obtain ⟨x, v, h1, rfl, rfl, hv⟩ := dxLdA_ok h hl
    have k := k ls hl
    rw [List.map_cons, hv] at k
    exact lv_aload_n hx hb hd rfl h1 k
  · obtain ⟨x, v, h1, rfl, rfl, hv⟩ := dxLdA_ok h hl
    have k := k ls hl
    rw [List.map_cons, hv] at k
    exact lv_aload hx hb hd h1 k
  · obtain ⟨x, rfl, hj, hn, rfl⟩ := dxStI_ok h
    exact lv_istore_n hx hb hd rfl hl.has (by omega) rfl fun ls' h' => k ls' (dxLs.set rfl hlen hn hj h')
  · obtain ⟨x, rfl, hj, hn, rfl⟩ := dxStI_ok h
    exact lv_istore hx hb hd hl.has (by omega) rfl fun ls' h' => k ls' (dxLs.set rfl hlen hn hj h')
  · obtain ⟨x, rfl, hj, hn, rfl⟩ := dxStA_ok h
    exact lv_astore_n hx hb hd rfl hl.has (by omega) rfl fun ls' h' => k ls' (dxLs.set (v := .ref x) rfl hlen hn hj h')
  · obtain ⟨x, rfl, hj, hn, rfl⟩ := dxStA_ok h
    exact lv_astore hx hb hd hl.has (by omega) rfl fun ls' h' => k ls' (dxLs.set (v := .ref x) rfl hlen hn hj h')
  · obtain ⟨x, rfl, hj, hn, rfl⟩ := dxStJ_ok h
    exact lv_lstore_n hx hb hd rfl hl.has (by omega) rfl fun ls' h' => k ls' (dxLs.setJ hlen hn hj h')
  · obtain ⟨x, rfl, hj, hn, rfl⟩ := dxStJ_ok h
    exact lv_lstore hx hb hd hl.has (by omega) rfl fun ls' h' => k ls' (dxLs.setJ hlen hn hj h')
  · rename_i j d
    split at h
    · rename_i x hv
      split at h
      · rename_i hn
        cases h
        obtain ⟨q, hq⟩ := List.getElem?_of_mem (dxLc_mem (b := b) (st := st) (q := (j, .int x)) |>.mpr ⟨.int x, hv, rfl⟩)
        exact lv_iinc hx hb hd hl.has hq rfl (by have := (List.getElem?_eq_some_iff.mp hv).1; omega) rfl fun ls' h' => k ls' (dxLs.set rfl hlen hn (List.getElem?_eq_some_iff.mp hv).1 h')
      · cases h
    · cases h
  · cases h
theorem dxTg_ok {o : Int} (h : 0 ≤ (pc : Int) + o) : (pc : Int) + o = (dxTg pc o : Int) := by
  unfold dxTg
  omega
theorem dxIf2_ok {f : Int32 → Int32 → Bool} {t u pc' : Nat} (h : dxIf2 f t u S = some (pc', S')) : ∃ y x, S = .int y :: .int x :: S' ∧ pc' = if f x y = true then t else u := by
  unfold dxIf2 at h
  split at h
  · cases h; exact ⟨_, _, rfl, rfl⟩
  · cases h
theorem dxIf1_ok {f : Int32 → Bool} {t u pc' : Nat} (h : dxIf1 f t u S = some (pc', S')) : ∃ x, S = .int x :: S' ∧ pc' = if f x = true then t else u := by
  unfold dxIf1 at h
  split at h
  · cases h; exact ⟨_, rfl, rfl⟩
  · cases h
theorem dxJmp_ok {pc' : Nat} (hx : p.tables.exec = Jvm.exec) (hb : c.code = cc) (hd : decode cc pc = .ok (i, n)) (h : dxJmp i n pc S = some (pc', S'))
    (k : W p l e R s m args below meth c H locs cells slots Q (F0 m pc' ls (S'.map (dxV b st)))) : W p l e R s m args below meth c H locs cells slots Q (F0 m pc ls (S.map (dxV b st))) := by
  unfold dxJmp at h
  split at h
  · split at h
    · rename_i h0; cases h; exact lv_goto hx hb hd (dxTg_ok h0) k
    · cases h
  · split at h
    · rename_i h0; obtain ⟨y, x, rfl, rfl⟩ := dxIf2_ok h
      exact lv_icmp_eq hx hb hd (dxTg_ok h0) (fun q => by rwa [if_pos (by simp [q])] at k) (fun q => by rwa [if_neg (by simp [q])] at k)
    · cases h
  · split at h
    · rename_i h0; obtain ⟨y, x, rfl, rfl⟩ := dxIf2_ok h
      exact lv_icmp_ne hx hb hd (dxTg_ok h0) (fun q => by rwa [if_pos (by simp [q])] at k) (fun q => by rwa [if_neg (by simp [q])] at k)
    · cases h
  · split at h
    · rename_i h0; obtain ⟨y, x, rfl, rfl⟩ := dxIf2_ok h
      exact lv_icmp_lt hx hb hd (dxTg_ok h0) (fun q => by rwa [if_pos (decide_eq_true q)] at k) (fun q => by rwa [if_neg (fun z => q (of_decide_eq_true z))] at k)
    · cases h
  · split at h
    · rename_i h0; obtain ⟨y, x, rfl, rfl⟩ := dxIf2_ok h
      exact lv_icmp_ge hx hb hd (dxTg_ok h0) (fun q => by rwa [if_pos (decide_eq_true q)] at k) (fun q => by rwa [if_neg (fun z => q (of_decide_eq_true z))] at k)
    · cases h
  · split at h
    · rename_i h0; obtain ⟨y, x, rfl, rfl⟩ := dxIf2_ok h
      exact lv_icmp_gt hx hb hd (dxTg_ok h0) (fun q => by rwa [if_pos (decide_eq_true q)] at k) (fun q => by rwa [if_neg (fun z => q (of_decide_eq_true z))] at k)
    · cases h
  · split at h
    · rename_i h0; obtain ⟨y, x, rfl, rfl⟩ := dxIf2_ok h
      exact lv_icmp_le hx hb hd (dxTg_ok h0) (fun q => by rwa [if_pos (decide_eq_true q)] at k) (fun q => by rwa [if_neg (fun z => q (of_decide_eq_true z))] at k)
    · cases h
  · split at h
    · rename_i h0; obtain ⟨x, rfl, rfl⟩ := dxIf1_ok h
      exact lv_if_eq hx hb hd (dxTg_ok h0) (fun q => by rwa [if_pos (decide_eq_true q)] at k) (fun q => by rwa [if_neg (fun z => q (of_decide_eq_true z))] at k)
    · cases h
  · split at h
    · rename_i h0; obtain ⟨x, rfl, rfl⟩ := dxIf1_ok h
      exact lv_if_ne hx hb hd (dxTg_ok h0) (fun q => by rwa [if_pos (decide_eq_true q)] at k) (fun q => by rwa [if_neg (fun z => (of_decide_eq_true z) q)] at k)
    · cases h
  · split at h
    · rename_i h0; obtain ⟨x, rfl, rfl⟩ := dxIf1_ok h
      exact lv_if_lt hx hb hd (dxTg_ok h0) (fun q => by rwa [if_pos (decide_eq_true q)] at k) (fun q => by rwa [if_neg (fun z => q (of_decide_eq_true z))] at k)
    · cases h
  · split at h
    · rename_i h0; obtain ⟨x, rfl, rfl⟩ := dxIf1_ok h
      exact lv_if_ge hx hb hd (dxTg_ok h0) (fun q => by rwa [if_pos (decide_eq_true q)] at k) (fun q => by rwa [if_neg (fun z => q (of_decide_eq_true z))] at k)
    · cases h
  · split at h
    · rename_i h0; obtain ⟨x, rfl, rfl⟩ := dxIf1_ok h
      exact lv_if_gt hx hb hd (dxTg_ok h0) (fun q => by rwa [if_pos (decide_eq_true q)] at k) (fun q => by rwa [if_neg (fun z => q (of_decide_eq_true z))] at k)
    · cases h
  · split at h
    · rename_i h0; obtain ⟨x, rfl, rfl⟩ := dxIf1_ok h
      exact lv_if_le hx hb hd (dxTg_ok h0) (fun q => by rwa [if_pos (decide_eq_true q)] at k) (fun q => by rwa [if_neg (fun z => q (of_decide_eq_true z))] at k)
    · cases h
  · split at h
    · rename_i h0
      split at h
      · cases h; exact lv_ifnull hx hb hd k
      · cases h; exact lv_ifnullN hx hb hd (dxTg_ok h0) k
      · cases h
    · cases h
  · split at h
    · split at h
      · rename_i hr
        split at h
        · rename_i h0; cases h; exact lv_tableOut hx hb hd hr (dxTg_ok h0) k
        · cases h
      · rename_i hr
        split at h
        · rename_i o ho
          split at h
          · rename_i h0; cases h; exact lv_tableIn hx hb hd (fun q => hr (Or.inl q)) (fun q => hr (Or.inr q)) ho (dxTg_ok h0) k
          · cases h
        · cases h
    · cases h
  · cases h
/-- the words of constants, links, fields, classes: among the tables' -/
theorem dx_find {α : Type} {T : List (Nat × Nat × α)} {ci idx : Nat} {v : α} (h : (T.find? (fun q => q.1 == ci && q.2.1 == idx)).map (fun q => q.2.2) = some v) : (ci, idx, v) ∈ T := by
  cases hf : T.find? (fun q => q.1 == ci && q.2.1 == idx) with
  | none => rw [hf] at h; cases h
  | some q =>
    rw [hf] at h
    have h1 := List.find?_some hf
    have h2 := List.mem_of_find?_eq_some hf
    simp only [Bool.and_eq_true, beq_iff_eq] at h1
    obtain ⟨a, b, v'⟩ := q
    simp only [Option.map_some, Option.some.injEq] at h
    simp only at h1
    rw [← h1.1, ← h1.2, ← h]
    exact h2
def dxKw (q : Nat × Nat × (Int32 ⊕ Int64) × Nat) : Cond := match q.2.2.1 with
  | .inl v => .constant (dxR q.1) q.2.1 v
  | .inr v => .constantLong (dxR q.1) q.2.1 v
theorem dxKw_all : ∀ q ∈ dxKT, dxTb[q.2.2.2]? = some (dxKw q) := by decide +kernel
theorem dxKst_ok {ci : Nat} (hx : p.tables.exec = Jvm.exec) (hb : c.code = cc) (hown : s.vm.findClass (dxR ci) = some m.cls) (hts : ∀ w ∈ dxTb, w.before args s = true) (hd : decode cc pc = .ok (i, n)) (h : dxKst ci i n S = some S')
    (k : W p l e R s m args below meth c H locs cells slots Q (F0 m (pc + n) ls (S'.map (dxV b st)))) : W p l e R s m args below meth c H locs cells slots Q (F0 m pc ls (S.map (dxV b st))) := by
  unfold dxKst at h
  split at h
  · split at h
    · rename_i v q hq
      cases h
      exact lv_ldcw hx hb hown (hts _ (List.mem_of_getElem? (dxKw_all _ (dx_find hq)))) hd k
    · cases h
  · split at h
    · rename_i v q hq
      cases h
      exact lv_ldc2 hx hb hown (hts _ (List.mem_of_getElem? (dxKw_all _ (dx_find hq)))) hd k
    · cases h
  · cases h
end DX1
end
section
/-! soundness of the deep interpreter: cells, new cells, the JDK's own -/
def dxAc (b : Nat) (x : vp_A) : vp_A := match x with
  | (n, .inr (.inr (.inr (.inr f)))) => (n, .inr (.inr (.inr (.inr (fun j => (f j).map (fun q => b + q))))))
  | y => y
def dxEc (b : Nat) (st : Nat → Nat) (cy : Nat → ClassId) (e : dxE) : va_E := match e with
  | .inl (t, x) => .inl (cy t, dxAc b x)
  | .inr (c, fs) => .inr (c, fs.map (dxV b st))
def dxWc (b : Nat) (st : Nat → Nat) (cy : Nat → ClassId) (H : dxH) : va_W := H.mapIdx (fun k e => (b + k, dxEc b st cy e))
theorem dxWc_get {b : Nat} {st : Nat → Nat} {cy : Nat → ClassId} {H : dxH} {k : Nat} {e : dxE} (h : H[k]? = some e) : (dxWc b st cy H)[k]? = some (b + k, dxEc b st cy e) := by
  unfold dxWc
  rw [List.getElem?_mapIdx, h]
  rfl
theorem dxWc_inv {b : Nat} {st : Nat → Nat} {cy : Nat → ClassId} {H : dxH} {k : Nat} {q : Nat × va_E} (h : (dxWc b st cy H)[k]? = some q) : ∃ e, H[k]? = some e ∧ q = (b + k, dxEc b st cy e) := by
  unfold dxWc at h
  rw [List.getElem?_mapIdx] at h
  cases hx : H[k]? with
  | none => rw [hx] at h; cases h
  | some e => rw [hx] at h; cases h; exact ⟨e, rfl, rfl⟩
theorem dxWc_set (b : Nat) (st : Nat → Nat) (cy : Nat → ClassId) (H : dxH) (k : Nat) (e : dxE) : dxWc b st cy (H.set k e) = (dxWc b st cy H).set k (b + k, dxEc b st cy e) := by
  apply List.ext_getElem?
  intro j
  by_cases hj : k = j
  · subst hj
    by_cases hl : k < H.length
    · rw [dxWc_get (List.getElem?_set_self hl), List.getElem?_set_self (by unfold dxWc; rw [List.length_mapIdx]; exact hl)]
    · rw [List.getElem?_eq_none (by unfold dxWc; rw [List.length_mapIdx, List.length_set]; omega), List.getElem?_eq_none (by rw [List.length_set]; unfold dxWc; rw [List.length_mapIdx]; omega)]
  · rw [List.getElem?_set_ne hj]
    unfold dxWc
    rw [List.getElem?_mapIdx, List.getElem?_mapIdx, List.getElem?_set_ne hj]
theorem dxWc_app (b : Nat) (st : Nat → Nat) (cy : Nat → ClassId) (H : dxH) (e : dxE) : dxWc b st cy (H ++ [e]) = dxWc b st cy H ++ [(b + H.length, dxEc b st cy e)] := by
  unfold dxWc
  rw [List.mapIdx_append]
  simp
theorem dxWc_D (b : Nat) (st : Nat → Nat) (cy : Nat → ClassId) (H : dxH) : va_D (fun q => b ≤ q) (dxWc b st cy H) := by
  refine ⟨fun i j p q hi hj h => ?_, fun k q hk => ?_⟩
  · obtain ⟨_, -, rfl⟩ := dxWc_inv hi
    obtain ⟨_, -, rfl⟩ := dxWc_inv hj
    simp only at h
    omega
  · obtain ⟨_, -, rfl⟩ := dxWc_inv hk
    exact Nat.le_add_right _ _
def dxTy (cy : Nat → ClassId) : List (ClassId × FieldType) := [(cy 0, .int), (cy 1, .boolean), (cy 2, .object RX3)]
-- the classes
theorem dxCl_at {c : Nat} (h : c < 9) : vwCl[c]? = some ((dxCl c).1, (dxCl c).2.1, (dxCl c).2.2) := by
  have : ∀ c, c < 9 → (vwCl[c]?).isSome = true := by decide +kernel
  have h1 := this c h
  unfold dxCl
  cases hx : vwCl[c]? with
  | none => rw [hx] at h1; cases h1
  | some q => simp [List.getD, hx]
theorem dxCl_R {c : Nat} (h : c < 9) : (dxCl c).1 = dxR c := by
  have : ∀ c, c < 9 → (dxCl c).1 = dxR c := by decide +kernel
  exact this c h
theorem dxCl_uw {c : Nat} (h : c < 9) : ∀ w ∈ u_ws (dxCl c).1 (dxCl c).2.1 (dxCl c).2.2, w ∈ dxTb := by
  have : ∀ c, c < 9 → ∀ w ∈ u_ws (dxCl c).1 (dxCl c).2.1 (dxCl c).2.2, w ∈ dxTb := by decide +kernel
  exact this c h
theorem dxCl_ty {c : Nat} (h : c < 9) : ∀ j, j < (dxCl c).2.2 → parseFieldDescriptor ((dxCl c).2.1 j).2.2.1 = some (dxTyp c j) := by
  have : ∀ c, c < 9 → ∀ j, j < (dxCl c).2.2 → parseFieldDescriptor ((dxCl c).2.1 j).2.2.1 = some (dxTyp c j) := by decide +kernel
  exact this c h
theorem dxCl_nm {c : Nat} (h : c < 9) : ∀ i, i < (dxCl c).2.2 → ∀ j, j < (dxCl c).2.2 → i ≠ j → ((dxCl c).2.1 i).2.1 ≠ ((dxCl c).2.1 j).2.1 := by
  have : ∀ c, c < 9 → ∀ i, i < (dxCl c).2.2 → ∀ j, j < (dxCl c).2.2 → i ≠ j → ((dxCl c).2.1 i).2.1 ≠ ((dxCl c).2.1 j).2.1 := by decide +kernel
  exact this c h
theorem dxCl_in {c : Nat} (h : c < 9) : Cond.instantiable (dxCl c).1 (dxCl c).2.2 ∈ dxTb ∧ Cond.initialized (dxCl c).1 ∈ dxTb := by
  have : ∀ c, c < 9 → Cond.instantiable (dxCl c).1 (dxCl c).2.2 ∈ dxTb ∧ Cond.initialized (dxCl c).1 ∈ dxTb := by decide +kernel
  exact this c h
theorem dxCl_df {c : Nat} (h : c < 9) : ∀ j, j < (dxCl c).2.2 → dxDef (dxTyp c j) = defaultValue (dxTyp c j) := by
  have : ∀ c, c < 9 → ∀ j, j < (dxCl c).2.2 → dxDef (dxTyp c j) = defaultValue (dxTyp c j) := by decide +kernel
  exact this c h
theorem dxFw_all : ∀ q ∈ dxFT, dxTb[q.2.2.2.2]? = some (Cond.fieldLink (dxR q.1) q.2.1 ((dxCl q.2.2.1).2.1 q.2.2.2.1).1 ((dxCl q.2.2.1).2.1 q.2.2.2.1).2.1 ((dxCl q.2.2.1).2.1 q.2.2.2.1).2.2.1) ∧ q.2.2.1 < 9 ∧ q.2.2.2.1 < (dxCl q.2.2.1).2.2 ∧ ((dxCl q.2.2.1).2.1 q.2.2.2.1).1 = dxR q.2.2.1 := by decide +kernel
def dxSn (u : Nat) : String := ["CLOVER_LEAST", "CLOVER_MOST", "COW_LEAST", "COW_MOST"].getD u ""
theorem dxSw_all : ∀ q ∈ dxST, dxTb[q.2.2.2]? = some (Cond.fieldLink (dxR q.1) q.2.1 RX4 (dxSn q.2.2.1) "[I") ∧ q.2.2.1 < 4 := by decide +kernel
theorem dxCw_all : ∀ q ∈ dxCT, dxTb[q.2.2.2]? = some (Cond.classLink (dxR q.1) q.2.1 (dxCl q.2.2.1).1) := by decide +kernel
def dxLkw (q : Nat × Nat × Nat × Nat × Nat × Nat × Nat × Nat) : List (Nat × Cond) := match q with
  | (ci, idx, kind, k, p1, p2, p3, p4) => match kind with
    | 0 => [(p1, .methodLink (dxR ci) idx (dxY k)), (p2, .instanceMethod (dxY k)), (p3, .selects (dxY k).cls (dxY k) (dxY k)), (p4, .initialized (dxY k).cls)]
    | 1 => [(p1, .methodLink (dxR ci) idx (dxY k)), (p2, .static (dxY k)), (p4, .initialized (dxY k).cls)]
    | 2 => [(p2, .static (dxY k)), (p4, .initialized (dxY k).cls)]
    | 3 => [(p1, .methodLink (dxR ci) idx (dxY k)), (p2, .instanceMethod (dxY k)), (p4, .initialized (dxY k).cls)]
    | 4 => [(p2, .instanceMethod (dxY k)), (p4, .initialized (dxY k).cls)]
    | 5 => [(p1, .methodLink (dxR ci) idx Lib.objectInit)]
    | 6 => [(p1, .methodLink (dxR ci) idx Lib.Math.abs.name)]
    | 7 => [(p1, .methodLink (dxR ci) idx Lib.Math.min.name)]
    | 8 => [(p1, .methodLink (dxR ci) idx Lib.Math.max.name)]
    | 9 => [(p1, .methodLink (dxR ci) idx arraycopyName)]
    | _ => []
theorem dxLkw_all : ∀ q ∈ dxLkT, ∀ r ∈ dxLkw q, dxTb[r.1]? = some r.2 := by decide +kernel
theorem dxLk_w {ci idx kind k p1 p2 p3 p4 : Nat} (h : dxLk ci idx = some (kind, k, p1, p2, p3, p4)) {r : Nat × Cond} (hr : r ∈ dxLkw (ci, idx, kind, k, p1, p2, p3, p4)) : r.2 ∈ dxTb := List.mem_of_getElem? (dxLkw_all _ (dx_find h) r hr)
theorem dxNst_all : ∀ q ∈ dxLkT, (q.2.2.1 = 2 ∨ q.2.2.1 = 4) → lw_tbl[q.2.2.2.2.1]? = some (Cond.methodLinkNest (dxR q.1) q.2.1 (dxY q.2.2.2.1) "MilkTruce") := by decide +kernel
theorem dxW_obj : Cond.instanceMethod Lib.objectInit ∈ dxTb ∧ Cond.code Lib.objectInit ⟨#[0xb1]⟩ 1 none ∈ dxTb := by decide +kernel
theorem dxW_math : Cond.static Lib.Math.abs.name ∈ dxTb ∧ Cond.static Lib.Math.min.name ∈ dxTb ∧ Cond.static Lib.Math.max.name ∈ dxTb ∧ Cond.initialized "java/lang/Math" ∈ dxTb ∧ Cond.code Lib.Math.abs.name Lib.Math.abs.code 1 (some .int) ∈ dxTb ∧ Cond.code Lib.Math.min.name Lib.Math.min.code 2 (some .int) ∈ dxTb ∧ Cond.code Lib.Math.max.name Lib.Math.max.code 2 (some .int) ∈ dxTb := by decide +kernel
theorem dxW_copy : Cond.native arraycopyName ∈ dxTb ∧ Cond.static arraycopyName ∈ dxTb ∧ Cond.initialized "java/lang/System" ∈ dxTb := by decide +kernel
theorem dxW_arr : Cond.arrayClass .int ∈ dxTb ∧ Cond.arrayClass .boolean ∈ dxTb := by decide +kernel
theorem dxFit_ok {b : Nat} {st : Nat → Nat} {t : FieldType} {v : Value} (h : dxFit t v = true) : narrow t (dxV b st v) = dxV b st v ∧ fits t (dxV b st v) = true := by
  unfold dxFit at h
  split at h
  · exact ⟨rfl, rfl⟩
  · rename_i x
    simp only [Bool.or_eq_true, beq_iff_eq] at h
    rcases h with rfl | rfl
    · exact ⟨rfl, rfl⟩
    · exact ⟨rfl, rfl⟩
  · exact ⟨rfl, rfl⟩
  · exact ⟨rfl, rfl⟩
  · exact ⟨rfl, rfl⟩
  · cases h
section DX2
variable {p : Program} {l : Launch} {e : Env} {R : Room} {s : State} {m : MethodId} {args : Array Value} {below : List Frame} {meth : Method} {c : Code} {Hp : Heap} {locs : List Loc} {cells slots : Nat} {Q : State → Prop}
variable {cc : ByteArray} {pc : Nat} {ls : Array Slot} {b : Nat} {st : Nat → Nat} {cy : Nat → ClassId} {D : va_G} {i : Instr} {n : Nat} {S S' : List Value} {H H' : dxH} {k idx : Nat} {tb : dxT}
theorem dx_size (h : Hp.size ≤ s.heap.size + cells → W p l e R s m args below meth c Hp locs cells slots Q (F0 m pc ls S)) : W p l e R s m args below meth c Hp locs cells slots Q (F0 m pc ls S) :=
  fun T hT X => h (by rw [← hT]; exact X.heapSize) T hT X
theorem dxGet_ok (hx : p.tables.exec = Jvm.exec) (hb : c.code = cc) (hown : s.vm.findClass (dxR (dxCi k)) = some m.cls) (hts : ∀ w ∈ dxTb, w.before args s = true) (hK : va_K D vwCl (dxTy cy) s) (hP : va_P D vwCl (dxWc b st cy H) Hp) (hd : decode cc pc = .ok (.getfield idx, 3)) (h : dxGet (dxCi k) idx S H = some (S', H'))
    (kk : H' = H → W p l e R s m args below meth c Hp locs cells slots Q (F0 m (pc + 3) ls (S'.map (dxV b st)))) : W p l e R s m args below meth c Hp locs cells slots Q (F0 m pc ls (S.map (dxV b st))) := by
  unfold dxGet at h
  split at h
  · rename_i ci j w hf
    obtain ⟨f1, f2, f3, f4⟩ := dxFw_all _ (dx_find hf)
    split at h
    · rename_i a r
      split at h
      · rename_i c' fs ha
        split at h
        · rename_i hc
          subst hc
          split at h
          · rename_i v hv
            cases h
            refine va_get hx hb hts (dxCl_uw f2) hown hK hP a (dxWc_get ha) (dxCl_at f2) j f3 (hts _ (List.mem_of_getElem? f1)) (fun _ q => q) (v := dxV b st v) ?_ hd (kk rfl)
            rw [List.getElem?_map, hv]
            rfl
          · cases h
        · cases h
      · cases h
    · cases h
  · cases h
theorem dxPut_ok (hx : p.tables.exec = Jvm.exec) (hb : c.code = cc) (hown : s.vm.findClass (dxR (dxCi k)) = some m.cls) (hname : (dxY k).name = "<init>" → meth.name = "<init>") (hts : ∀ w ∈ dxTb, w.before args s = true) (hK : va_K D vwCl (dxTy cy) s) (hP : va_P D vwCl (dxWc b st cy H) Hp) (hS : va_S (fun q => b ≤ q) s.heap Hp locs) (hd : decode cc pc = .ok (.putfield idx, 3)) (h : dxPut k idx S H = some (S', H'))
    (kk : ∀ (Hp' : Heap) (locs' : List Loc), H'.length = H.length → va_P D vwCl (dxWc b st cy H') Hp' → va_S (fun q => b ≤ q) s.heap Hp' locs' → W p l e R s m args below meth c Hp' locs' cells slots Q (F0 m (pc + 3) ls (S'.map (dxV b st)))) : W p l e R s m args below meth c Hp locs cells slots Q (F0 m pc ls (S.map (dxV b st))) := by
  unfold dxPut at h
  split at h
  · rename_i ci j w hf
    obtain ⟨f1, f2, f3, f4⟩ := dxFw_all _ (dx_find hf)
    split at h
    · rename_i v a r
      split at h
      · rename_i c' fs ha
        split at h
        · rename_i hc
          obtain ⟨rfl, hj, hfit, hfin⟩ := hc
          cases h
          have e1 : dxWc b st cy (H.set a (.inr (c', fs.set j v))) = (dxWc b st cy H).set a (b + a, .inr (c', (fs.map (dxV b st)).set j (dxV b st v))) := by
            rw [dxWc_set]
            show List.set _ _ (_, Sum.inr (_, _)) = _
            rw [List.map_set]
          have kk' : ∀ (Hp' : Heap) (locs' : List Loc), va_P D vwCl ((dxWc b st cy H).set a (b + a, .inr (c', (fs.map (dxV b st)).set j (dxV b st v)))) Hp' → va_D (fun q => b ≤ q) ((dxWc b st cy H).set a (b + a, .inr (c', (fs.map (dxV b st)).set j (dxV b st v)))) → va_S (fun q => b ≤ q) s.heap Hp' locs' → W p l e R s m args below meth c Hp' locs' cells slots Q (F0 m (pc + 3) ls (S'.map (dxV b st))) := fun Hp' locs' g1 _ g3 => kk Hp' locs' (by rw [List.length_set]) (by rw [e1]; exact g1) g3
          by_cases hfi : ((dxCl c').2.1 j).2.2.2 = false
          · exact va_put hx hb hts (dxCl_uw f2) (dxTyp c') (dxCl_ty f2) (dxCl_nm f2) hown hK hP (dxWc_D b st cy H) hS a (dxWc_get ha) (dxCl_at f2) j f3 (hts _ (List.mem_of_getElem? f1)) (fun _ q => q) hfi (dxCl_ty f2 j f3) (dxFit_ok hfit).1 (dxFit_ok hfit).2 (by rw [List.length_map]; exact hj) hd kk'
          · rcases hfin with h0 | ⟨h1, h2⟩
            · exact absurd h0 hfi
            · exact va_putF hx hb hts (dxCl_uw f2) (dxTyp c') (dxCl_ty f2) (dxCl_nm f2) hown hK hP (dxWc_D b st cy H) hS a (dxWc_get ha) (dxCl_at f2) j f3 (hts _ (List.mem_of_getElem? f1)) (fun _ q => q) (by simpa using hfi) (hname h1) (by rw [← h2]; exact f4) (dxCl_ty f2 j f3) (dxFit_ok hfit).1 (dxFit_ok hfit).2 (by rw [List.length_map]; exact hj) hd kk'
        · cases h
      · cases h
    · cases h
  · cases h
theorem dxIn_ok {x : Int32} {N : Nat} (h : dxIn x N = true) : vp_in x N := by
  unfold dxIn at h
  show ¬ (x < 0 ∨ N ≤ x.toNatClampNeg)
  exact of_decide_eq_true h
theorem dxUp_q (f : Nat → Option Nat) (j v : Nat) : (fun q => (va_up f j (some v) q).map (fun z => b + z)) = va_up (fun q => (f q).map (fun z => b + z)) j (some (b + v)) := by
  funext q
  unfold va_up
  split <;> rfl
theorem dxHp_ok (hx : p.tables.exec = Jvm.exec) (hb : c.code = cc) (hown : s.vm.findClass (dxR (dxCi k)) = some m.cls) (hname : (dxY k).name = "<init>" → meth.name = "<init>") (hts : ∀ w ∈ dxTb, w.before args s = true) (hK : va_K D vwCl (dxTy cy) s) (hP : va_P D vwCl (dxWc b st cy H) Hp) (hS : va_S (fun q => b ≤ q) s.heap Hp locs)
    (hT : ∀ j, j < 5 → va_T .int (st j) (tb j).1 (fun q => .int ((tb j).2 q)) (fun q => b ≤ q) s s.heap) (hZ : ∀ j, j < 4 → va_Z RX4 (dxSn j) "[I" (.ref (st j)) (fun q => b ≤ q) s s.heap)
    (hd : decode cc pc = .ok (i, n)) (h : dxHp tb k i n S H = some (S', H'))
    (kk : ∀ (Hp' : Heap) (locs' : List Loc), H'.length = H.length → va_P D vwCl (dxWc b st cy H') Hp' → va_S (fun q => b ≤ q) s.heap Hp' locs' → W p l e R s m args below meth c Hp' locs' cells slots Q (F0 m (pc + n) ls (S'.map (dxV b st)))) : W p l e R s m args below meth c Hp locs cells slots Q (F0 m pc ls (S.map (dxV b st))) := by
  have k0 : H' = H → W p l e R s m args below meth c Hp locs cells slots Q (F0 m (pc + n) ls (S'.map (dxV b st))) := fun q => kk Hp locs (by rw [q]) (by rw [q]; exact hP) hS
  have hD := dxWc_D b st cy H
  unfold dxHp at h
  split at h
  · exact dxGet_ok hx hb hown hts hK hP hd h k0
  · exact dxPut_ok hx hb hown hname hts hK hP hS hd h kk
  · unfold dxALd at h
    split at h
    · rename_i x a r
      split at h
      · rename_i t' N f ha
        split at h
        · rename_i hc
          obtain ⟨rfl, hc⟩ := hc
          cases h
          exact va_iald hx hb hK hP a 0 (dxWc_get ha) rfl (dxIn_ok hc) hd (k0 rfl)
        · cases h
      · cases h
    · rename_i x u r
      split at h
      · rename_i hc
        cases h
        exact va_ti hx hb (hT _ hc.2.1) hS (dxIn_ok hc.2.2) rfl hd (k0 rfl)
      · cases h
    · cases h
  · unfold dxALd at h
    split at h
    · rename_i x a r
      split at h
      · rename_i t' N f ha
        split at h
        · rename_i hc
          obtain ⟨rfl, hc⟩ := hc
          cases h
          exact va_zald hx hb hK hP a 1 (dxWc_get ha) rfl (dxIn_ok hc) hd (k0 rfl)
        · cases h
      · cases h
    · split at h
      · rename_i hc
        exact absurd hc.1 (by decide)
      · cases h
    · cases h
  · unfold dxASt at h
    split at h
    · rename_i x y a r
      split at h
      · rename_i t' N f ha
        split at h
        · rename_i hc
          obtain ⟨rfl, hc, -⟩ := hc
          cases h
          exact va_iast hx hb hK hP hD hS a 0 (dxWc_get ha) rfl (dxIn_ok hc) hd (fun Hp' locs' g1 _ g3 => kk Hp' locs' (by rw [List.length_set]) (by rw [dxWc_set]; exact g1) g3)
        · cases h
      · cases h
    · cases h
  · unfold dxASt at h
    split at h
    · rename_i x y a r
      split at h
      · rename_i t' N f ha
        split at h
        · rename_i hc
          obtain ⟨rfl, hc, hz⟩ := hc
          cases h
          exact va_zast hx hb hK hP hD hS a 1 (dxWc_get ha) rfl (dxIn_ok hc) hd (fun Hp' locs' g1 _ g3 => kk Hp' locs' (by rw [List.length_set]) (by rw [dxWc_set]; rw [hz rfl] at g1; exact g1) g3)
        · cases h
      · cases h
    · cases h
  · unfold dxQLd at h
    split at h
    · rename_i x a r
      split at h
      · rename_i t' N f ha
        split at h
        · rename_i hc
          obtain ⟨rfl, hc⟩ := hc
          cases h
          refine va_aldq hx hb hK hP a 2 (dxWc_get ha) rfl (dxIn_ok hc) hd ?_
          have k1 := k0 rfl
          rw [List.map_cons] at k1
          have e1 : dxV b st (va_rf (f x.toNatClampNeg)) = va_rf ((f x.toNatClampNeg).map (fun q => b + q)) := by cases f x.toNatClampNeg <;> rfl
          rw [e1] at k1
          exact k1
        · cases h
      · cases h
    · cases h
  · unfold dxQSt at h
    split at h
    · rename_i v x a r
      split at h
      · rename_i t' N f fs ha hv
        split at h
        · rename_i hc
          obtain ⟨rfl, hc⟩ := hc
          cases h
          refine va_astq hx hb hK hP hD hS a 2 v 3 (dxWc_get ha) rfl (dxWc_get hv) (r := (RX3, TX3, 9)) rfl (dxIn_ok hc) hd (fun Hp' locs' g1 _ g3 => kk Hp' locs' (by rw [List.length_set]) ?_ g3)
          rw [dxWc_set]
          show va_P D vwCl (List.set _ _ (_, Sum.inl (_, _, Sum.inr (Sum.inr (Sum.inr (Sum.inr _)))))) _
          rw [dxUp_q]
          exact g1
        · cases h
      · cases h
    · cases h
  · unfold dxLen at h
    split at h
    · rename_i a r
      split at h
      · rename_i t' N x ha
        split at h
        · rename_i hc
          cases h
          have hlen : (dxAc b (N, x)).1 = N := by
            unfold dxAc
            split
            · rename_i heq; cases heq; rfl
            · rfl
          have ht : ∃ ty, (dxTy cy)[t']? = some (cy t', ty) := by
            match t', hc with
            | 0, _ => exact ⟨_, rfl⟩
            | 1, _ => exact ⟨_, rfl⟩
            | 2, _ => exact ⟨_, rfl⟩
          obtain ⟨ty, ht⟩ := ht
          exact va_alen hx hb hK hP a t' (dxWc_get ha) ht (by rw [hlen]) hd (k0 rfl)
        · cases h
      · cases h
    · rename_i u r
      split at h
      · rename_i hc
        cases h
        exact va_tlen hx hb (hT _ hc) hS rfl hd (k0 rfl)
      · cases h
    · cases h
  · split at h
    · rename_i u w hu
      cases h
      obtain ⟨f1, f2⟩ := dxSw_all _ (dx_find hu)
      refine va_gets hx hb (hZ u f2) hS hown (hts _ (List.mem_of_getElem? f1)) (fun _ q => q) hd ?_
      have k1 := k0 rfl
      rw [List.map_cons] at k1
      have e1 : dxV b st (.float (UInt32.ofNat u)) = .ref (st u) := by
        show Value.ref (st (UInt32.ofNat u).toNat) = _
        have f3 : u < 4 := f2
        have : (UInt32.ofNat u).toNat = u := UInt32.toNat_ofNat_of_lt' (by show u < 4294967296; omega)
        rw [this]
      rw [e1] at k1
      exact k1
    · cases h
  · cases h
end DX2
end
section
/-! soundness of the deep interpreter: new cells, the JDK's own, the step -/
section DX3
variable {p : Program} {l : Launch} {e : Env} {R : Room} {s : State} {m : MethodId} {args : Array Value} {below : List Frame} {meth : Method} {c : Code} {Hp : Heap} {locs : List Loc} {cells slots : Nat} {Q : State → Prop}
variable {cc : ByteArray} {pc : Nat} {ls : Array Slot} {b : Nat} {st : Nat → Nat} {cy : Nat → ClassId} {D : va_G} {i : Instr} {n : Nat} {S S' : List Value} {H H' : dxH} {k idx : Nat} {tb : dxT} {n0 z0 z z' : Nat}
/-- a new cell lies behind the others -/
theorem dx_new_at {H1 : Heap} {q : Nat} {x : va_E} (hP : va_P D vwCl (dxWc b st cy H ++ [(q, x)]) H1) (hD : va_D (fun q => b ≤ q) (dxWc b st cy H ++ [(q, x)])) (hz : H1.size ≤ b + H.length + 1) : q = b + H.length := by
  have hl : (dxWc b st cy H).length = H.length := by unfold dxWc; rw [List.length_mapIdx]
  have h1 : (dxWc b st cy H ++ [(q, x)])[H.length]? = some (q, x) := by
    rw [List.getElem?_append_right (by omega), hl, Nat.sub_self]
    rfl
  have h2 : b ≤ q := hD.2 _ _ h1
  have h3 : q < H1.size := (hP _ _ h1).lt
  rcases Nat.lt_or_ge q (b + H.length) with hq | hq
  · have h4 : q - b < H.length := by omega
    have h5 : (dxWc b st cy H ++ [(q, x)])[q - b]? = some (b + (q - b), dxEc b st cy (H[q - b])) := by
      rw [List.getElem?_append_left (by omega)]
      exact dxWc_get (List.getElem?_eq_getElem h4)
    have h6 := hD.1 _ _ _ _ h5 h1 (by show b + (q - b) = q; omega)
    omega
  · omega
theorem dx_cy {ty : FieldType} {t : Nat} {cA : ClassId} (ht : (dxTy cy)[t]? = some (cy t, ty)) (hK : va_K D vwCl (dxTy cy ++ [(cA, ty)]) s) : cA = cy t := by
  have h1 := (hK.2 (dxTy cy).length (cA, ty) (by rw [List.getElem?_append_right (Nat.le_refl _), Nat.sub_self]; rfl)).2
  have h2 := (hK.2 t (cy t, ty) (by rw [List.getElem?_append_left (List.getElem?_eq_some_iff.mp ht).1]; exact ht)).2
  cases ty with
  | object C =>
    obtain ⟨-, -, -, -, -, e1⟩ := h1
    obtain ⟨-, -, -, -, -, e2⟩ := h2
    exact Option.some.inj (e1.symm.trans e2)
  | _ => exact Option.some.inj (Eq.trans (Eq.symm h1) h2)
theorem dxNwA_ok {t : Nat} {atype : ArrayType} {ty : FieldType} (hx : p.tables.exec = Jvm.exec) (hb : c.code = cc) (hts : ∀ w ∈ dxTb, w.before args s = true) (hK : va_K D vwCl (dxTy cy) s) (hP : va_P D vwCl (dxWc b st cy H) Hp) (hS : va_S (fun q => b ≤ q) s.heap Hp locs)
    (hty : newarray.typeOf atype = ty) (hw : Cond.arrayClass ty ∈ dxTb) (ht : (dxTy cy)[t]? = some (cy t, ty)) (ha : ∀ (cA : ClassId) (N : Nat), vp_cell cA (N, .inl (fun _ => (0 : Int32))) = arrV cA N (fun _ => defaultValue ty)) (hcb : componentBytes ty ≤ 8)
    (hs0 : s.heap.size = b + n0) (hn0 : n0 ≤ H.length) (hz0 : z0 ≤ z) (hc1 : H'.length - n0 ≤ R.cells) (hc2 : z' - z0 ≤ R.slots)
    (hd : decode cc pc = .ok (.newarray atype, 2)) (h : dxNwA t S H z = some (S', H', z'))
    (kk : ∀ (Hp' : Heap) (locs' : List Loc), H.length ≤ H'.length → z ≤ z' → va_P D vwCl (dxWc b st cy H') Hp' → va_S (fun q => b ≤ q) s.heap Hp' locs' → W p l e R s m args below meth c Hp' locs' (H'.length - n0) (z' - z0) Q (F0 m (pc + 2) ls (S'.map (dxV b st)))) : W p l e R s m args below meth c Hp locs (H.length - n0) (z - z0) Q (F0 m pc ls (S.map (dxV b st))) := by
  unfold dxNwA at h
  split at h
  · rename_i x r
    split at h
    · rename_i hc
      cases h
      rw [List.length_append, List.length_singleton] at hc1
      refine va_newa hx hb (atype := atype) (by rw [hty]; exact hts _ hw) hty hK hP (dxWc_D b st cy H) hS (fun q h => by omega) (n := x) (N' := x.toNatClampNeg) (ha := fun cA => ha cA x.toNatClampNeg) hc.1 rfl ?_ (by omega) (by omega) hd (fun q cA H1 hK1 hP1 hD1 hS1 => ?_)
      · exact Nat.le_trans (Nat.mul_le_mul hc.2 hcb) (Nat.le_of_ble_eq_true rfl)
      · refine dx_size fun hz => ?_
        have e1 := dx_new_at hP1 hD1 (by omega)
        have e2 := dx_cy ht hK1
        subst e1
        subst e2
        have e3 : dxWc b st cy (H ++ [.inl (t, x.toNatClampNeg, .inl (fun _ => 0))]) = dxWc b st cy H ++ [(b + H.length, .inl (cy t, x.toNatClampNeg, .inl (fun _ => 0)))] := dxWc_app b st cy H _
        have k1 := kk H1 locs (by rw [List.length_append]; omega) (by omega) (by rw [e3]; exact hP1) hS1
        rw [List.length_append, List.length_singleton, show H.length + 1 - n0 = H.length - n0 + 1 by omega, show z + x.toNatClampNeg - z0 = z - z0 + x.toNatClampNeg by omega] at k1
        exact k1
    · cases h
  · cases h
theorem dxNw_ok (ho : va_AO RX3 s) (hx : p.tables.exec = Jvm.exec) (hb : c.code = cc) (hown : s.vm.findClass (dxR (dxCi k)) = some m.cls) (hts : ∀ w ∈ dxTb, w.before args s = true) (hK : va_K D vwCl (dxTy cy) s) (hP : va_P D vwCl (dxWc b st cy H) Hp) (hS : va_S (fun q => b ≤ q) s.heap Hp locs)
    (hs0 : s.heap.size = b + n0) (hn0 : n0 ≤ H.length) (hz0 : z0 ≤ z) (hc1 : H'.length - n0 ≤ R.cells) (hc2 : z' - z0 ≤ R.slots)
    (hd : decode cc pc = .ok (i, n)) (h : dxNw k i n S H z = some (S', H', z'))
    (kk : ∀ (Hp' : Heap) (locs' : List Loc), H.length ≤ H'.length → z ≤ z' → va_P D vwCl (dxWc b st cy H') Hp' → va_S (fun q => b ≤ q) s.heap Hp' locs' → W p l e R s m args below meth c Hp' locs' (H'.length - n0) (z' - z0) Q (F0 m (pc + n) ls (S'.map (dxV b st)))) : W p l e R s m args below meth c Hp locs (H.length - n0) (z - z0) Q (F0 m pc ls (S.map (dxV b st))) := by
  have hA : ∀ q : Nat, s.heap.size ≤ q → b ≤ q := fun q h => by omega
  unfold dxNw at h
  split at h
  · split at h
    · rename_i idx _ cc' w hf
      split at h
      · rename_i hc9
        cases h
        rw [List.length_append, List.length_singleton] at hc1
        have hcw : Cond.classLink (dxR (dxCi k)) idx (dxCl cc').1 ∈ dxTb := List.mem_of_getElem? (dxCw_all _ (dx_find hf))
        refine va_new hx hb hts (dxCl_uw hc9) (dxTyp cc') (dxCl_ty hc9) hown (hts _ hcw) (hts _ (dxCl_in hc9).1) (hts _ (dxCl_in hc9).2) hK hP (dxWc_D b st cy H) hS hA (dxCl_at hc9) (fs := ((List.range (dxCl cc').2.2).map (fun j => dxDef (dxTyp cc' j))).map (dxV b st)) (fun j hj => ?_) (by omega) (by omega) hd (fun q H1 hP1 hD1 hS1 => ?_)
        · unfold vp_V
          rw [List.map_map, List.getD_eq_getElem?_getD, List.getElem?_map, List.getElem?_range hj]
          show _ = dxV b st (dxDef (dxTyp cc' j))
          have hq := dxCl_df hc9 j hj
          rw [← hq]
          unfold dxDef
          cases dxTyp cc' j <;> rfl
        · refine dx_size fun hz => ?_
          have e1 := dx_new_at hP1 hD1 (by omega)
          subst e1
          have k1 := kk H1 locs (by rw [List.length_append]; omega) (by omega) (by rw [dxWc_app]; exact hP1) hS1
          rw [List.length_append, List.length_singleton, show H.length + 1 - n0 = H.length - n0 + 1 by omega, show z + (dxCl cc').2.2 - z0 = z - z0 + (dxCl cc').2.2 by omega] at k1
          exact k1
      · cases h
    · cases h
  · exact dxNwA_ok (atype := .int) (ty := .int) hx hb hts hK hP hS rfl dxW_arr.1 rfl (fun _ _ => rfl) (by decide) hs0 hn0 hz0 hc1 hc2 hd h kk
  · exact dxNwA_ok (atype := .boolean) (ty := .boolean) hx hb hts hK hP hS rfl dxW_arr.2 rfl (fun _ _ => rfl) (by decide) hs0 hn0 hz0 hc1 hc2 hd h kk
  · split at h
    · rename_i idx _ w hf
      split at h
      · rename_i x r
        split at h
        · rename_i hc
          cases h
          rw [List.length_append, List.length_singleton] at hc1
          have hcw : Cond.classLink (dxR (dxCi k)) idx RX3 ∈ dxTb := List.mem_of_getElem? (dxCw_all _ (dx_find hf))
          refine va_newq hx hb hown (hts _ hcw) ho hK hP (dxWc_D b st cy H) hS hA (n := x) hc.1 rfl ?_ (by omega) (by omega) hd (fun q cA H1 hK1 hP1 hD1 hS1 => ?_)
          · omega
          · refine dx_size fun hz => ?_
            have e1 := dx_new_at hP1 hD1 (by omega)
            have e2 : cA = cy 2 := dx_cy (t := 2) rfl hK1
            subst e1
            subst e2
            have k1 := kk H1 locs (by rw [List.length_append]; omega) (by omega) (by rw [dxWc_app]; exact hP1) hS1
            rw [List.length_append, List.length_singleton, show H.length + 1 - n0 = H.length - n0 + 1 by omega, show z + x.toNatClampNeg - z0 = z - z0 + x.toNatClampNeg by omega] at k1
            exact k1
        · cases h
      · cases h
    · cases h
  · cases h
theorem dxW8_ok (h : dxW8 S = true) : ((S.map (dxV b st)).map fun v => v.category).sum ≤ 8 := by
  rw [dxV_sum]
  unfold dxW8 at h
  exact of_decide_eq_true h
theorem dxBi_ok (hx : p.tables.exec = Jvm.exec) (hb : c.code = cc) (hml : c.maxLocals = ls.size) (hown : s.vm.findClass (dxR (dxCi k)) = some m.cls) (hts : ∀ w ∈ dxTb, w.before args s = true) (hK : va_K D vwCl (dxTy cy) s) (hP : va_P D vwCl (dxWc b st cy H) Hp) (hS : va_S (fun q => b ≤ q) s.heap Hp locs)
    (hfr : dxFr k ≤ R.frames) (hlo : dxLo k ≤ R.locals) (hcl : cells ≤ R.cells) (hsl : slots ≤ R.slots)
    (hd : decode cc pc = .ok (i, n)) (h : dxBi k i n S H = some (S', H'))
    (kk : ∀ (Hp' : Heap) (locs' : List Loc), H'.length = H.length → va_P D vwCl (dxWc b st cy H') Hp' → va_S (fun q => b ≤ q) s.heap Hp' locs' → W p l e R s m args below meth c Hp' locs' cells slots Q (F0 m (pc + n) ls (S'.map (dxV b st)))) : W p l e R s m args below meth c Hp locs cells slots Q (F0 m pc ls (S.map (dxV b st))) := by
  have k0 : H' = H → W p l e R s m args below meth c Hp locs cells slots Q (F0 m (pc + n) ls (S'.map (dxV b st))) := fun q => kk Hp locs (by rw [q]) (by rw [q]; exact hP) hS
  unfold dxBi at h
  split at h
  · split at h
    · rename_i idx w hf
      split at h
      · rename_i a r
        split at h
        · rename_i hc
          obtain ⟨hw, h1, h2⟩ := hc
          cases h
          obtain ⟨w1, w2, w3, w4, w5⟩ := w
          have hsum := dxW8_ok (b := b) (st := st) hw
          refine W.objInit hx hb hown (hts _ (dxLk_w hf (List.mem_cons_self))) (hts _ dxW_obj.1) (hts _ dxW_obj.2) rfl (by rw [hml]) (a := b + a) (rest := S'.map (dxV b st)) rfl hd (by omega) (by show 2 * 0 + _ + 12 ≤ _; omega) (k0 rfl)
        · cases h
      · cases h
    · cases h
  · split at h
    · rename_i hc
      split at h
      · rename_i w hf
        split at h
        · split at h
          · rename_i hw
            cases h
            obtain ⟨w1, w2, w3, w4, w5⟩ := w
            have hsum := dxW8_ok (b := b) (st := st) hw
            exact va_mabs hx hb hml hown (hts _ (dxLk_w hf (List.mem_cons_self))) (hts _ dxW_math.1) (hts _ dxW_math.2.2.2.1) (hts _ dxW_math.2.2.2.2.1) (by omega) (by omega) hcl hsl hd (k0 rfl)
          · cases h
        · cases h
      · rename_i w hf
        split at h
        · split at h
          · rename_i hw
            cases h
            obtain ⟨w1, w2, w3, w4, w5⟩ := w
            have hsum := dxW8_ok (b := b) (st := st) hw
            exact va_mmin hx hb hml hown (hts _ (dxLk_w hf (List.mem_cons_self))) (hts _ dxW_math.2.1) (hts _ dxW_math.2.2.2.1) (hts _ dxW_math.2.2.2.2.2.1) (by omega) (by omega) hcl hsl hd (k0 rfl)
          · cases h
        · cases h
      · rename_i w hf
        split at h
        · split at h
          · rename_i hw
            cases h
            obtain ⟨w1, w2, w3, w4, w5⟩ := w
            have hsum := dxW8_ok (b := b) (st := st) hw
            exact va_mmax hx hb hml hown (hts _ (dxLk_w hf (List.mem_cons_self))) (hts _ dxW_math.2.2.1) (hts _ dxW_math.2.2.2.1) (hts _ dxW_math.2.2.2.2.2.2) (by omega) (by omega) hcl hsl hd (k0 rfl)
          · cases h
        · cases h
      · rename_i w hf
        split at h
        · rename_i h26
          unfold dxCpy at h
          split at h
          · rename_i x dp a sp a0 r
            split at h
            · rename_i n0' f n1' g ha0 ha
              split at h
              · rename_i hq
                obtain ⟨hw, q1, q2, q3, q4, q5⟩ := hq
                cases h
                obtain ⟨w1, w2, w3, w4, w5⟩ := w
                have hsum := dxW8_ok (b := b) (st := st) hw
                refine va_copyi hx hb hml hown (hts _ (dxLk_w hf (List.mem_cons_self))) (hts _ dxW_copy.1) (hts _ dxW_copy.2.1) (hts _ dxW_copy.2.2) hK hP (dxWc_D b st cy H) hS a0 a 0 0 (dxWc_get ha0) (dxWc_get ha) rfl rfl rfl q1 q2 q3 q4 q5 (fun _ _ => rfl) (by omega) ?_ hd (fun Hp' locs' g1 _ g3 => kk Hp' locs' (by rw [List.length_set]) (by rw [dxWc_set]; exact g1) g3)
                have : nativeFrameWords "java/lang/System" "arraycopy" 5 = 7 := by decide +kernel
                rw [this]
                omega
              · cases h
            · cases h
          · cases h
        · cases h
      · cases h
    · cases h
  · cases h
end DX3
end
section
/-! soundness of the deep interpreter: calls, returns, the whole run -/
theorem dxASt_len {t : Nat} {S S' : List Value} {H H' : dxH} (h : dxASt t S H = some (S', H')) : H'.length = H.length := by
  unfold dxASt at h
  repeat' split at h
  all_goals first | (cases h; done) | (cases h; rw [List.length_set])
theorem dxHp_len {tb : dxT} {k n : Nat} {i : Instr} {S S' : List Value} {H H' : dxH} (h : dxHp tb k i n S H = some (S', H')) : H'.length = H.length := by
  unfold dxHp at h
  split at h
  · unfold dxGet at h
    repeat' split at h
    all_goals first | (cases h; done) | (cases h; rfl)
  · unfold dxPut at h
    repeat' split at h
    all_goals first | (cases h; done) | (cases h; rw [List.length_set])
  · unfold dxALd at h
    repeat' split at h
    all_goals first | (cases h; done) | (cases h; rfl)
  · unfold dxALd at h
    repeat' split at h
    all_goals first | (cases h; done) | (cases h; rfl)
  · exact dxASt_len h
  · exact dxASt_len h
  · unfold dxQLd at h
    repeat' split at h
    all_goals first | (cases h; done) | (cases h; rfl)
  · unfold dxQSt at h
    repeat' split at h
    all_goals first | (cases h; done) | (cases h; rw [List.length_set])
  · unfold dxLen at h
    repeat' split at h
    all_goals first | (cases h; done) | (cases h; rfl)
  · repeat' split at h
    all_goals first | (cases h; done) | (cases h; rfl)
  · cases h
theorem dxBi_len {k n : Nat} {i : Instr} {S S' : List Value} {H H' : dxH} (h : dxBi k i n S H = some (S', H')) : H'.length = H.length := by
  unfold dxBi at h
  unfold dxCpy at h
  repeat' split at h
  all_goals first | (cases h; done) | (cases h; rfl) | (cases h; rw [List.length_set])
theorem dxNw_len {k n : Nat} {i : Instr} {S S' : List Value} {H H' : dxH} {z z' : Nat} (h : dxNw k i n S H z = some (S', H', z')) : H.length ≤ H'.length ∧ z ≤ z' := by
  unfold dxNw at h
  unfold dxNwA at h
  repeat' split at h
  all_goals first | (cases h; done) | (cases h; rw [List.length_append]; exact ⟨Nat.le_add_right _ _, Nat.le_add_right _ _⟩)
theorem dxStep_len {tb : dxT} {k n pc pc' : Nat} {i : Instr} {L L' : dxL} {S S' : List Value} {H H' : dxH} {z z' : Nat} (h : dxStep tb k i n pc L S H z = some (pc', L', S', H', z')) : H.length ≤ H'.length ∧ z ≤ z' := by
  unfold dxStep at h
  split at h
  · cases h; exact ⟨Nat.le_refl _, Nat.le_refl _⟩
  · split at h
    · cases h; exact ⟨Nat.le_refl _, Nat.le_refl _⟩
    · split at h
      · cases h; exact ⟨Nat.le_refl _, Nat.le_refl _⟩
      · split at h
        · cases h; exact ⟨Nat.le_refl _, Nat.le_refl _⟩
        · split at h
          · rename_i hq; cases h; exact ⟨Nat.le_of_eq (dxHp_len hq).symm, Nat.le_refl _⟩
          · split at h
            · rename_i hq; cases h; exact dxNw_len hq
            · split at h
              · rename_i hq; cases h; exact ⟨Nat.le_of_eq (dxBi_len hq).symm, Nat.le_refl _⟩
              · cases h
theorem dxRun_len {tb : dxT} : ∀ (f : Nat) {k pc : Nat} {L : dxL} {S : List Value} {H : dxH} {z : Nat} {r : Option Value} {H' : dxH} {z' : Nat}, dxRun tb f k pc L S H z = some (r, H', z') → H.length ≤ H'.length ∧ z ≤ z'
  | 0, _, _, _, _, _, _, _, _, _, h => by cases h
  | f + 1, k, pc, L, S, H, z, r, H', z', h => by
    unfold dxRun at h
    split at h
    · cases h
    · split at h
      · cases h; exact ⟨Nat.le_refl _, Nat.le_refl _⟩
      · split at h
        · split at h
          · split at h
            · rename_i hq
              have h1 := dxRun_len f hq
              have h2 := dxRun_len f h
              exact ⟨Nat.le_trans h1.1 h2.1, Nat.le_trans h1.2 h2.2⟩
            · cases h
          · cases h
        · split at h
          · rename_i hq
            have h1 := dxStep_len hq
            have h2 := dxRun_len f h
            exact ⟨Nat.le_trans h1.1 h2.1, Nat.le_trans h1.2 h2.2⟩
          · cases h
-- what holds of a state beside its cells
def dxNs (U : State) : Prop := ∀ q ∈ dxLkT, (q.2.2.1 = 2 ∨ q.2.2.1 = 4) → va_Nw (.methodLinkNest (dxR q.1) q.2.1 (dxY q.2.2.2.1) "MilkTruce") U
def dxFx (b : Nat) (st : Nat → Nat) (cy : Nat → ClassId) (D : va_G) (tb : dxT) (U : State) : Prop := va_K D vwCl (dxTy cy) U ∧ (∀ j, j < 5 → va_T .int (st j) (tb j).1 (fun q => .int ((tb j).2 q)) (fun q => b ≤ q) U U.heap) ∧ (∀ j, j < 4 → va_Z RX4 (dxSn j) "[I" (.ref (st j)) (fun q => b ≤ q) U U.heap) ∧ va_AO RX3 U ∧ dxNs U
def dxWd (b : Nat) (st : Nat → Nat) (cy : Nat → ClassId) (D : va_G) (tb : dxT) (H : dxH) (U : State) : Prop := U.heap.size = b + H.length ∧ va_P D vwCl (dxWc b st cy H) U.heap ∧ dxFx b st cy D tb U
theorem dxFx.to {b : Nat} {st : Nat → Nat} {cy : Nat → ClassId} {D : va_G} {tb : dxT} {s U : State} (h : dxFx b st cy D tb s) (hW : s.WarmedH U.vm) (hq : ∀ a : Nat, a < s.heap.size → ¬ b ≤ a → U.heap[a]? = s.heap[a]?) : dxFx b st cy D tb U :=
  ⟨h.1.moved hW.alike, fun j hj => va_T.moved hW.alike ((h.2.1 j hj).kept hq), fun j hj => va_Z.moved hW.alike ((h.2.2.1 j hj).kept hq), h.2.2.2.1.moved hW.alike, fun q hq hk => (h.2.2.2.2 q hq hk).warmM hW⟩
theorem dxWd.blind {b : Nat} {st : Nat → Nat} {cy : Nat → ClassId} {D : va_G} {tb : dxT} {H : dxH} {U : State} (h : dxWd b st cy D tb H U) (g : JFrame) (mk : MethodId) (a : Array Value) : dxWd b st cy D tb H (U.calling g mk a) :=
  ⟨h.1, h.2.1, dxFx.to (U := U.calling g mk a) h.2.2 (State.WarmedH.refl U) (fun _ _ _ => rfl)⟩
theorem dx_size_eq {b : Nat} {st : Nat → Nat} {cy : Nat → ClassId} {D : va_G} {s : State} {H : dxH} {Hp : Heap} {locs : List Loc} {n0 : Nat} (hP : va_P D vwCl (dxWc b st cy H) Hp) (hS : va_S (fun q => b ≤ q) s.heap Hp locs) (hs0 : s.heap.size = b + n0) (hn0 : n0 ≤ H.length) (hz : Hp.size ≤ s.heap.size + (H.length - n0)) : Hp.size = b + H.length := by
  have h1 : b + H.length ≤ Hp.size := by
    by_cases h0 : H.length = 0
    · have := hS.1
      omega
    · have h2 := (hP (H.length - 1) _ (dxWc_get (List.getElem?_eq_getElem (by omega : H.length - 1 < H.length)))).lt
      simp only at h2
      omega
  omega
-- methods
theorem dxMt_all : ∀ k, k < 173 → True ∧ plainName (dxY k).cls = true ∧ ((dxY k).cls ≠ "java/lang/invoke/MethodHandle" ∧ (dxY k).cls ≠ "java/lang/invoke/VarHandle" ∧ (parseMethodDescriptor (dxY k).desc).map (fun d => d.parameters.length) = some (dxNp k)) ∧ (dxY k).cls = dxR (dxCi k) := by decide +kernel
theorem dxMk_all : ∀ q ∈ dxLkT, q.2.2.1 < 5 → q.2.2.2.1 < 173 ∧ (q.2.2.1 = 3 ∨ q.2.2.1 = 4 → (dxY q.2.2.2.1).name = "<init>" ∧ dxRt q.2.2.2.1 = none) := by decide +kernel
def dxWs (k : Nat) : List Cond := .code (dxY k) (dxB k) (dxMl k) (dxRt k) :: dxTb
theorem dxTb_good : GoodIn dxTb dxTb := fun w hw => ⟨hw, good_of_word (List.mem_filter.mp hw).2⟩
theorem dxWs_good {k : Nat} (hk : k < 173) : GoodIn dxTb (dxWs k) := fun w hw => by
  rcases List.mem_cons.mp hw with rfl | h
  · exact dxTb_good _ (List.mem_filter.mpr ⟨List.mem_of_getElem? (dxMc_all k hk), rfl⟩)
  · exact dxTb_good w h
def dxRm (k mc ms : Nat) : Room := { frames := dxFr k, cells := mc, slots := ms, locals := dxLo k }
def dxPc (b : Nat) (st : Nat → Nat) (cy : Nat → ClassId) (D : va_G) (tb : dxT) (vs : List Value) (H : dxH) : Array Value → State → Prop := va_Pc (vs.map (dxV b st)) (dxWd b st cy D tb H)
def dxQc (b : Nat) (st : Nat → Nat) (cy : Nat → ClassId) (D : va_G) (tb : dxT) (r : Option Value) (H : dxH) : Array Value → State → Outcome → State → Prop := fun _ u o t => o = .returned (r.map (dxV b st)) ∧ dxWd b st cy D tb H t ∧ va_F (fun q => b ≤ q) u t
def dxCx (b : Nat) (st : Nat → Nat) (cy : Nat → ClassId) (D : va_G) (tb : dxT) (k : Nat) (p : Program) (s : State) (m : MethodId) (args : Array Value) (meth : Method) (c : Code) : Prop :=
  p.tables.exec = Jvm.exec ∧ c.code = dxB k ∧ c.maxLocals = dxMl k ∧ s.vm.findClass (dxR (dxCi k)) = some m.cls ∧ ((dxY k).name = "<init>" → meth.name = "<init>") ∧ (∀ w ∈ dxTb, w.before args s = true) ∧ dxFx b st cy D tb s
theorem dxPc_blind {b : Nat} {st : Nat → Nat} {cy : Nat → ClassId} {D : va_G} {tb : dxT} {vs : List Value} {H : dxH} : FrameBlind (dxPc b st cy D tb vs H) := fun a U g mk q => ⟨q.1, q.2.blind g mk a⟩
theorem dxI_ok {k pc : Nat} {i : Instr} {n : Nat} (h : dxI k pc = some (i, n)) : decode (dxB k) pc = .ok (i, n) := by
  unfold dxI at h
  split at h
  · rename_i hq; cases h; exact hq
  · cases h
-- locals at the entry
theorem dxArg_len (b : Nat) (st : Nat → Nat) : ∀ vs : List Value, (lg_sl (vs.map (dxV b st))).length = (dxArg vs).length
  | [] => rfl
  | v :: vs => by
    have ih := dxArg_len b st vs
    have hc := dxV_cat b st v
    unfold dxArg
    show (List.flatMap _ (dxV b st v :: vs.map (dxV b st))).length = _
    rw [List.flatMap_cons, List.length_append]
    have e : (List.flatMap (fun v => if v.category = 2 then [Slot.val v, Slot.second] else [Slot.val v]) (vs.map (dxV b st))).length = (dxArg vs).length := ih
    rw [e, hc]
    by_cases h2 : v.category = 2
    · rw [if_pos h2, if_pos h2]; simp; omega
    · rw [if_neg h2, if_neg h2]; simp; omega
theorem dxArg_get (b : Nat) (st : Nat → Nat) : ∀ (vs : List Value) (i j : Nat) (v : Value), (dxArg vs)[j]? = some (some v) → (i + j, dxV b st v) ∈ lv_args i (vs.map (dxV b st))
  | [], i, j, v, h => by cases h
  | w :: vs, i, j, v, h => by
    unfold dxArg at h
    show _ ∈ (i, dxV b st w) :: lv_args (if (dxV b st w).category = 2 then i + 2 else i + 1) (vs.map (dxV b st))
    rw [dxV_cat]
    by_cases h2 : w.category = 2
    · rw [if_pos h2] at h ⊢
      match j, h with
      | 0, h => cases h; exact List.mem_cons_self
      | 1, h => cases h
      | j + 2, h =>
        have := dxArg_get b st vs (i + 2) j v h
        rw [show i + (j + 2) = i + 2 + j by omega]
        exact List.mem_cons_of_mem _ this
    · rw [if_neg h2] at h ⊢
      match j, h with
      | 0, h => cases h; exact List.mem_cons_self
      | j + 1, h =>
        have := dxArg_get b st vs (i + 1) j v h
        rw [show i + (j + 1) = i + 1 + j by omega]
        exact List.mem_cons_of_mem _ this
theorem dxEnt_ls {b : Nat} {st : Nat → Nat} {k : Nat} {vs : List Value} {ls : Array Slot} (hl : lv_has ls (dxMl k) (lv_args 0 (vs.map (dxV b st)))) (hle : (dxArg vs).length ≤ dxMl k) : dxLs b st ls (dxMl k) (dxEnt k vs) := by
  refine ⟨hl.1, hl.2.1, by unfold dxEnt; rw [List.length_append, List.length_replicate]; omega, fun i v h => ?_⟩
  unfold dxEnt at h
  by_cases hi : i < (dxArg vs).length
  · rw [List.getElem?_append_left hi] at h
    have h1 := hl.2.2 _ (dxArg_get b st vs 0 i v h)
    rwa [Nat.zero_add] at h1
  · rw [List.getElem?_append_right (by omega)] at h
    have h1 := List.mem_of_getElem? h
    have h2 := (List.mem_replicate.mp h1).2
    cases h2
section DX4
variable {p : Program} {l : Launch} {e : Env} {R : Room} {s : State} {m : MethodId} {args : Array Value} {below : List Frame} {meth : Method} {c : Code} {Hp : Heap} {locs : List Loc} {cells slots : Nat} {Q : State → Prop}
variable {cc : ByteArray} {pc : Nat} {ls : Array Slot} {b : Nat} {st : Nat → Nat} {cy : Nat → ClassId} {D : va_G} {i : Instr} {n : Nat} {S S' : List Value} {H H' H1 : dxH} {k y idx : Nat} {tb : dxT} {n0 z0 z z' mc ms : Nat}
/-- behind a call -/
theorem dx_back {a : Array Value} {st0 rest : List Value} {r : Option Value} {free : Addr → Prop} (hfree : ∀ q, free q → b ≤ q) (hr : va_Run p l e R s m args below meth c Hp locs cells slots mc ms (F0 m pc ls st0) rest (dxQc b st cy D tb r H1 a) free) (hsz : b ≤ s.heap.size) (hS : va_S (fun q => b ≤ q) s.heap Hp locs)
    (kk : ∀ (Hp' : Heap) (locs' : List Loc), va_P D vwCl (dxWc b st cy H1) Hp' → va_S (fun q => b ≤ q) s.heap Hp' locs' → W p l e R s m args below meth c Hp' locs' (cells + mc) (slots + ms) Q (F0 m (pc + 3) ls ((r.map (dxV b st)).toList ++ rest))) : W p l e R s m args below meth c Hp locs cells slots Q (F0 m pc ls st0) := by
  intro T hT X
  obtain ⟨v, st₀, t, T', L, h0, X', hL, e1, e2, ⟨hv, hw, hz, hk⟩, stp⟩ := hr T hT X
  cases hv
  rw [h0] at hz hk
  obtain ⟨t2, a1, b1⟩ := kk T'.heap (locs ++ L) (by rw [e1]; exact hw.2.1) ⟨Nat.le_trans hS.1 (by rw [e1]; exact hz), fun q h1 h2 => by rw [e1, hk q (Nat.lt_of_lt_of_le h1 hS.1) h2]; exact hS.2.1 q h1 h2, fun q hq => by
      rcases List.mem_append.mp hq with h | h
      · exact hS.2.2 q h
      · exact hfree _ (hL q h)⟩ T' rfl X'
  exact ⟨t2, stp t2 a1, b1⟩
/-- a method's return -/
theorem dx_ret {r : Option Value} (hx : p.tables.exec = Jvm.exec) (hb : c.code = dxB k) (hret : meth.sig.returnType = dxRt k) (hlocks : meth.locks = false) (hFx : dxFx b st cy D tb s) (hd : decode (dxB k) pc = .ok (i, n)) (h : dxRet k i n S = some r)
    (hs0 : s.heap.size = b + n0) (hn0 : n0 ≤ H.length) (hP : va_P D vwCl (dxWc b st cy H) Hp) (hS : va_S (fun q => b ≤ q) s.heap Hp locs) : W p l e R s m args below meth c Hp locs (H.length - n0) slots (MQ below (dxQc b st cy D tb r H) args s (H.length - n0) slots (fun q => b ≤ q)) (F0 m pc ls (S.map (dxV b st))) := by
  refine dx_size fun hz => ?_
  have hq : ∀ t : State, t.heap = Hp → s.WarmedH t.vm → dxQc b st cy D tb r H args s (.returned (r.map (dxV b st))) t := fun t ht hW =>
    ⟨rfl, ⟨by rw [ht]; exact dx_size_eq hP hS hs0 hn0 hz, by rw [ht]; exact hP, hFx.to hW (fun a h1 h2 => by rw [ht]; exact hS.2.1 a h1 h2)⟩, hS.F ht⟩
  unfold dxRet at h
  split at h
  · split at h
    · rename_i v
      split at h
      · rename_i hc
        cases h
        rcases hc with hc | ⟨hc, hv⟩
        · exact W.zret (ty := .int) hx hb (hret.trans hc) rfl hq hS.2.2 hd hlocks
        · exact W.zret (ty := .boolean) hx hb (hret.trans hc) (by show Value.int (v &&& 1) = _; rw [hv]) hq hS.2.2 hd hlocks
      · cases h
    · cases h
  · split at h
    · split at h
      · rename_i hc
        cases h
        exact W.lret hx hb (hret.trans hc) hq hS.2.2 hd hlocks
      · cases h
    · cases h
  · split at h
    · rename_i hc
      cases h
      exact W.aret hx hb (hret.trans hc) (Or.inl ⟨_, rfl⟩) (Or.inr ⟨_, rfl⟩) hq hS.2.2 hd hlocks
    · rename_i hc
      cases h
      exact W.aret hx hb (hret.trans hc) (Or.inl ⟨_, rfl⟩) (Or.inl rfl) hq hS.2.2 hd hlocks
    · cases h
  · split at h
    · split at h
      · rename_i hc
        cases h
        exact W.vret hx hb (hret.trans hc) hq hS.2.2 hd hlocks
      · cases h
    · cases h
  · cases h
end DX4
def dxSnd (tb : dxT) (l : Launch) (f : Nat) : Prop := ∀ (b : Nat) (st : Nat → Nat) (cy : Nat → ClassId) (D : va_G) (k pc : Nat) (L : dxL) (S : List Value) (H : dxH) (z : Nat) (r : Option Value) (H' : dxH) (z' : Nat), dxRun tb f k pc L S H z = some (r, H', z') →
  ∀ (p : Program) (e : Env) (R : Room) (s : State) (m : MethodId) (args : Array Value) (below : List Frame) (meth : Method) (c : Code) (Hp : Heap) (locs : List Loc) (Q : State → Prop) (ls : Array Slot) (n0 z0 : Nat), dxCx b st cy D tb k p s m args meth c → s.heap.size = b + n0 → n0 ≤ H.length → z0 ≤ z → H'.length - n0 ≤ R.cells → z' - z0 ≤ R.slots → dxFr k ≤ R.frames → dxLo k ≤ R.locals →
    va_P D vwCl (dxWc b st cy H) Hp → va_S (fun q => b ≤ q) s.heap Hp locs → dxLs b st ls (dxMl k) L →
    (∀ (Hp' : Heap) (locs' : List Loc) (ls' : Array Slot) (pc' : Nat) (i : Instr) (n : Nat) (S' : List Value), decode (dxB k) pc' = .ok (i, n) → dxRet k i n S' = some r → va_P D vwCl (dxWc b st cy H') Hp' → va_S (fun q => b ≤ q) s.heap Hp' locs' → W p l e R s m args below meth c Hp' locs' (H'.length - n0) (z' - z0) Q (F0 m pc' ls' (S'.map (dxV b st)))) →
    W p l e R s m args below meth c Hp locs (H.length - n0) (z - z0) Q (F0 m pc ls (S.map (dxV b st)))
/-- a method's contract out of the run of its body -/
theorem dx_met {tb : dxT} {l : Launch} {f : Nat} (ih : dxSnd tb l f) (b : Nat) (st : Nat → Nat) (cy : Nat → ClassId) (D : va_G) {k : Nat} (hk : k < 173) {vs : List Value} (hle : (dxArg vs).length ≤ dxMl k) {H : dxH} {z : Nat} {r : Option Value} {H' : dxH} {z' : Nat} (h : dxRun tb f k 0 (dxEnt k vs) [] H z = some (r, H', z')) :
    Met l (dxY k) (dxWs k) (dxRm k (H'.length - H.length) (z' - z)) (dxPc b st cy D tb vs H) (dxQc b st cy D tb r H') (H'.length - H.length) (z' - z) (fun q => b ≤ q) := by
  refine Met.ofW (cc := dxB k) (maxL := dxMl k) (ret := dxRt k) (dxMt_all k hk).2.1 rfl ?_
  intro p e s m args below meth c s₁ B hml hv
  obtain ⟨rfl, hw1, hw2, hw3⟩ := hv
  have hts := atoms_spec (ws := dxWs k) B.pre
  have hlen := dxRun_len f h
  have hown : s.vm.findClass (dxR (dxCi k)) = some m.cls := by
    rw [← (dxMt_all k hk).2.2.2]
    exact findClass_of_methodNamed B.named
  rw [lg_entry_eq]
  have hl := lv_entry (vs.map (dxV b st)) (n := dxMl k) (by rw [dxArg_len]; exact hle)
  generalize (lg_sl (vs.map (dxV b st)) ++ List.replicate (dxMl k - (lg_sl (vs.map (dxV b st))).length) Slot.unset).toArray = ls at hl ⊢
  have k1 := ih b st cy D k 0 (dxEnt k vs) [] H z r H' z' h p e (headSpec (dxWs k) (dxRm k (H'.length - H.length) (z' - z))).room s m (vs.map (dxV b st)).toArray below meth c s.heap [] (MQ below (dxQc b st cy D tb r H') (vs.map (dxV b st)).toArray s (H'.length - H.length) (z' - z) (fun q => b ≤ q)) ls H.length z
    ⟨B.exec, B.bytes, hml, hown, fun hn => (name_of_methodNamed B.named B.method).1.trans hn, fun w hw => hts w (List.mem_cons_of_mem _ hw), hw3⟩ hw1 (Nat.le_refl _) (Nat.le_refl _) (Nat.le_refl _) (Nat.le_refl _) (Nat.le_refl _) (Nat.le_refl _) hw2 va_S.rf (dxEnt_ls hl hle)
    (fun Hp' locs' ls' pc' i n S' hd hr hP' hS' => dx_ret B.exec B.bytes B.returns B.notSynchronized hw3 hd hr hw1 hlen.1 hP' hS')
  rw [Nat.sub_self, Nat.sub_self] at k1
  exact k1
theorem dx_sound (tb : dxT) (l : Launch) : ∀ f : Nat, dxSnd tb l f
  | 0 => fun _ _ _ _ _ _ _ _ _ _ _ _ _ h => by cases h
  | f + 1 => by
    have ih := dx_sound tb l f
    intro b st cy D k pc L S H z r H' z' h p e R s m args below meth c Hp locs Q ls n0 z0 hC hs0 hn0 hz0 hc1 hc2 hfr hlo hP hS hl ret
    obtain ⟨hx, hb, hml, hown, hname, hts, hFx⟩ := id hC
    unfold dxRun at h
    split at h
    · cases h
    · rename_i i n hI
      have hd := dxI_ok hI
      split at h
      · rename_i r' hr
        cases h
        exact ret Hp locs ls pc i n S hd hr hP hS
      · split at h
        · rename_i y na hcal
          split at h
          · rename_i hg
            obtain ⟨g1, g2, g3, g4, g5, g6⟩ := hg
            split at h
            · rename_i r1 H1 z1 hcall
              have m1 := dxRun_len f hcall
              have m2 := dxRun_len f h
              have hsl : (List.take na S).length = na := by rw [List.length_take]; omega
              have goOn : ∀ (Hp' : Heap) (locs' : List Loc), va_P D vwCl (dxWc b st cy H1) Hp' → va_S (fun q => b ≤ q) s.heap Hp' locs' → W p l e R s m args below meth c Hp' locs' (H.length - n0 + (H1.length - H.length)) (z - z0 + (z1 - z)) Q (F0 m (pc + 3) ls ((r1.map (dxV b st)).toList ++ (List.drop na S).map (dxV b st))) := by
                intro Hp' locs' hP' hS'
                have k1 := ih b st cy D k (pc + 3) L (r1.toList ++ List.drop na S) H1 z1 r H' z' h p e R s m args below meth c Hp' locs' Q ls n0 z0 hC hs0 (by omega) (by omega) hc1 hc2 hfr hlo hP' hS' hl ret
                rw [List.map_append, show H1.length - n0 = H.length - n0 + (H1.length - H.length) by omega, show z1 - z0 = z - z0 + (z1 - z) by omega] at k1
                cases r1 <;> exact k1
              have hsplit : S.map (dxV b st) = (((List.take na S).reverse).map (dxV b st)).reverse ++ (List.drop na S).map (dxV b st) := by
                rw [← List.map_reverse, List.reverse_reverse, ← List.map_append, List.take_append_drop]
              have hbs : b ≤ s.heap.size := by omega
              have hRm : (dxRm y (H1.length - H.length) (z1 - z)).frames + 1 ≤ R.frames ∧ 8 + (dxMl y + 11) + (dxRm y (H1.length - H.length) (z1 - z)).locals ≤ R.locals := ⟨by show dxFr y + 1 ≤ _; omega, by show 8 + (dxMl y + 11) + dxLo y ≤ _; omega⟩
              have hroom : H.length - n0 + (H1.length - H.length) ≤ R.cells ∧ z - z0 + (z1 - z) ≤ R.slots := by omega
              have hsz := dx_size (p := p) (l := l) (e := e) (R := R) (s := s) (m := m) (args := args) (below := below) (meth := meth) (c := c) (Hp := Hp) (locs := locs) (cells := H.length - n0) (slots := z - z0) (Q := Q) (pc := pc) (ls := ls) (S := S.map (dxV b st))
              refine hsz fun hz => ?_
              have hse := dx_size_eq hP hS hs0 hn0 hz
              have hpre : ∀ U : State, U.heap = Hp → s.WarmedH U.vm → dxPc b st cy D tb (List.take na S).reverse H (((List.take na S).reverse).map (dxV b st)).toArray U := fun U hU hW => ⟨rfl, by rw [hU]; exact hse, by rw [hU]; exact hP, hFx.to hW (fun a h1 h2 => by rw [hU]; exact hS.2.1 a h1 h2)⟩
              have hw8 := dxW8_ok (b := b) (st := st) g4
              unfold dxCal at hcal
              split at hcal
              · -- invokevirtual
                rename_i idx _
                split at hcal
                · rename_i y' w hlk
                  cases hcal
                  obtain ⟨p1, p2, p3, p4⟩ := w
                  obtain ⟨hk, -⟩ := dxMk_all _ (dx_find hlk) (by show 0 < 5; decide)
                  have hMt := dxMt_all y hk
                  have hmet := dx_met ih b st cy D hk g2 hcall
                  have w1 := dxLk_w hlk (r := (p1, _)) (by exact List.mem_cons_self)
                  have w2 := dxLk_w hlk (r := (p2, _)) (by exact List.mem_cons_of_mem _ List.mem_cons_self)
                  have w3 := dxLk_w hlk (r := (p3, _)) (by exact List.mem_cons_of_mem _ (List.mem_cons_of_mem _ List.mem_cons_self))
                  have w4 := dxLk_w hlk (r := (p4, _)) (by exact List.mem_cons_of_mem _ (List.mem_cons_of_mem _ (List.mem_cons_of_mem _ List.mem_cons_self)))
                  have hGv : GoodIn dxTb (wsV (dxR (dxCi k)) idx (dxY y).cls (dxY y) (dxWs y)) := by
                    intro w hw
                    unfold wsV at hw
                    rcases List.mem_append.mp hw with h | h
                    · rcases List.mem_cons.mp h with rfl | h
                      · exact dxTb_good _ w1
                      · rcases List.mem_cons.mp h with rfl | h
                        · exact dxTb_good _ w2
                        · rcases List.mem_cons.mp h with rfl | h
                          · exact dxTb_good _ w3
                          · rcases List.mem_cons.mp h with rfl | h
                            · exact dxTb_good _ w4
                            · cases h
                    · exact dxWs_good hk w h
                  simp only [dxRcv] at g3
                  generalize hvs : (List.take (dxNp y + 1) S).reverse = vs at *
                  have hlv : vs.length = dxNp y + 1 := by rw [← hvs, List.length_reverse]; exact hsl
                  split at g3
                  · rename_i a As
                    split at g3
                    · rename_i cc fs ha
                      simp only [Bool.and_eq_true, decide_eq_true_eq] at g3
                      obtain ⟨rfl, hc9⟩ := g3
                      have hrecv : ∃ cellB : Cell, Hp[b + a]? = some cellB ∧ cellB.vm.isStatics = false ∧ s.vm.findClass (dxY y).cls = some cellB.cls := by
                        rw [hMt.2.2.2, ← dxCl_R hc9]
                        exact va_recv hFx.1 hP (dxCl_at hc9) (dxWc_get ha)
                      rw [hsplit]
                      have e1 : (((Value.ref a :: As).map (dxV b st)).reverse ++ (List.drop (dxNp y + 1) S).map (dxV b st)) = (As.map (dxV b st)).reverse ++ .ref (b + a) :: (List.drop (dxNp y + 1) S).map (dxV b st) := by
                        rw [List.map_cons, List.reverse_cons, List.append_assoc]
                        rfl
                      rw [e1]
                      exact dx_back (fun _ h => h) (va_runV (As := As.map (dxV b st)) (rest := (List.drop (dxNp y + 1) S).map (dxV b st)) ⟨hx, hb, hml, hown, hts⟩ hmet (cwV (dxNp y) hts hGv rfl rfl rfl ⟨rfl, hMt.2.2.1⟩ hRm) ⟨dxPc_blind, hrecv, hpre⟩ rfl (by rw [List.length_map]; simpa using hlv) hl.1 rfl (by show 2 * 0 + _ ≤ 8; omega) hd hroom) hbs hS goOn
                    · cases g3
                  · cases g3
                · cases hcal
              · -- invokestatic
                rename_i idx _
                split at hcal
                · rename_i y' w hlk
                  cases hcal
                  obtain ⟨p1, p2, p3, p4⟩ := w
                  obtain ⟨hk, -⟩ := dxMk_all _ (dx_find hlk) (by show 1 < 5; decide)
                  have hMt := dxMt_all y hk
                  have hmet := dx_met ih b st cy D hk g2 hcall
                  have w1 := dxLk_w hlk (r := (p1, _)) (by exact List.mem_cons_self)
                  have w2 := dxLk_w hlk (r := (p2, _)) (by exact List.mem_cons_of_mem _ List.mem_cons_self)
                  have w4 := dxLk_w hlk (r := (p4, _)) (by exact List.mem_cons_of_mem _ (List.mem_cons_of_mem _ List.mem_cons_self))
                  have hGv : GoodIn dxTb (va_wsS (dxR (dxCi k)) idx (dxY y) (dxWs y)) := by
                    intro w hw
                    unfold va_wsS at hw
                    rcases List.mem_append.mp hw with h | h
                    · rcases List.mem_cons.mp h with rfl | h
                      · exact dxTb_good _ w1
                      · rcases List.mem_cons.mp h with rfl | h
                        · exact dxTb_good _ w2
                        · rcases List.mem_cons.mp h with rfl | h
                          · exact dxTb_good _ w4
                          · cases h
                    · exact dxWs_good hk w h
                  rw [hsplit]
                  exact dx_back (fun _ h => h) (va_runS (As := ((List.take (dxNp y) S).reverse).map (dxV b st)) (rest := (List.drop (dxNp y) S).map (dxV b st)) ⟨hx, hb, hml, hown, hts⟩ hmet (va_cwS (dxNp y) hts hGv rfl rfl rfl hMt.2.2.1 hRm) ⟨dxPc_blind, hpre⟩ rfl (by rw [List.length_map, List.length_reverse]; exact hsl) hl.1 rfl (by show 2 * 0 + _ ≤ 8; omega) hd hroom) hbs hS goOn
                · rename_i y' w hlk
                  cases hcal
                  obtain ⟨p1, p2, p3, p4⟩ := w
                  obtain ⟨hk, -⟩ := dxMk_all _ (dx_find hlk) (by show 2 < 5; decide)
                  have hMt := dxMt_all y hk
                  have hmet := dx_met ih b st cy D hk g2 hcall
                  have w2 := dxLk_w hlk (r := (p2, _)) (by exact List.mem_cons_self)
                  have w4 := dxLk_w hlk (r := (p4, _)) (by exact List.mem_cons_of_mem _ List.mem_cons_self)
                  have hN := hFx.2.2.2.2 _ (dx_find hlk) (Or.inl rfl)
                  rw [hsplit]
                  exact dx_back (fun _ h => h) (va_runSN (As := ((List.take (dxNp y) S).reverse).map (dxV b st)) (rest := (List.drop (dxNp y) S).map (dxV b st)) ⟨hx, hb, hml, hown, hts⟩ hmet ⟨va_cnB (dxNp y) hts (dxWs_good hk) rfl rfl rfl hN (hts _ w4) hMt.2.2.1 hRm, hts _ w2, trivial⟩ ⟨dxPc_blind, hpre⟩ rfl (by rw [List.length_map, List.length_reverse]; exact hsl) hl.1 rfl (by show 2 * 0 + _ ≤ 8; omega) hd hroom) hbs hS goOn
                · cases hcal
              · -- invokespecial
                rename_i idx _
                split at hcal
                · rename_i y' w hlk
                  cases hcal
                  obtain ⟨p1, p2, p3, p4⟩ := w
                  obtain ⟨hk, hnr⟩ := dxMk_all _ (dx_find hlk) (by show 3 < 5; decide)
                  obtain ⟨hnm, hrt⟩ := hnr (Or.inl rfl)
                  have hMt := dxMt_all y hk
                  have hmet := dx_met ih b st cy D hk g2 hcall
                  have w1 := dxLk_w hlk (r := (p1, _)) (by exact List.mem_cons_self)
                  have w2 := dxLk_w hlk (r := (p2, _)) (by exact List.mem_cons_of_mem _ List.mem_cons_self)
                  have w4 := dxLk_w hlk (r := (p4, _)) (by exact List.mem_cons_of_mem _ (List.mem_cons_of_mem _ List.mem_cons_self))
                  simp only [dxRcv] at g3
                  generalize hvs : (List.take (dxNp y + 1) S).reverse = vs at *
                  have hlv : vs.length = dxNp y + 1 := by rw [← hvs, List.length_reverse]; exact hsl
                  split at g3
                  · rename_i a As
                    rw [hsplit]
                    have e1 : (((Value.ref a :: As).map (dxV b st)).reverse ++ (List.drop (dxNp y + 1) S).map (dxV b st)) = (As.map (dxV b st)).reverse ++ .ref (b + a) :: (List.drop (dxNp y + 1) S).map (dxV b st) := by
                      rw [List.map_cons, List.reverse_cons, List.append_assoc]
                      rfl
                    rw [e1]
                    exact dx_back (fun _ h => h) (va_runI (As := As.map (dxV b st)) (rest := (List.drop (dxNp y + 1) S).map (dxV b st)) ⟨hx, hb, hml, hown, hts⟩ hmet (cwI (dxNp y) hts (dxWs_good hk) (by unfold dxWs; rw [hrt]) rfl rfl (hts _ w4) (hts _ w1) (hts _ w2) hnm hMt.2.2.1 hRm) ⟨dxPc_blind, hpre⟩ rfl (by rw [List.length_map]; simpa using hlv) hl.1 rfl (by show 2 * 0 + _ ≤ 8; omega) hd hroom) hbs hS goOn
                  · cases g3
                · rename_i y' w hlk
                  cases hcal
                  obtain ⟨p1, p2, p3, p4⟩ := w
                  obtain ⟨hk, hnr⟩ := dxMk_all _ (dx_find hlk) (by show 4 < 5; decide)
                  obtain ⟨hnm, hrt⟩ := hnr (Or.inr rfl)
                  have hMt := dxMt_all y hk
                  have hmet := dx_met ih b st cy D hk g2 hcall
                  have w2 := dxLk_w hlk (r := (p2, _)) (by exact List.mem_cons_self)
                  have w4 := dxLk_w hlk (r := (p4, _)) (by exact List.mem_cons_of_mem _ List.mem_cons_self)
                  have hN := hFx.2.2.2.2 _ (dx_find hlk) (Or.inr rfl)
                  simp only [dxRcv] at g3
                  generalize hvs : (List.take (dxNp y + 1) S).reverse = vs at *
                  have hlv : vs.length = dxNp y + 1 := by rw [← hvs, List.length_reverse]; exact hsl
                  split at g3
                  · rename_i a As
                    rw [hsplit]
                    have e1 : (((Value.ref a :: As).map (dxV b st)).reverse ++ (List.drop (dxNp y + 1) S).map (dxV b st)) = (As.map (dxV b st)).reverse ++ .ref (b + a) :: (List.drop (dxNp y + 1) S).map (dxV b st) := by
                      rw [List.map_cons, List.reverse_cons, List.append_assoc]
                      rfl
                    rw [e1]
                    exact dx_back (fun _ h => h) (va_runIN (As := As.map (dxV b st)) (rest := (List.drop (dxNp y + 1) S).map (dxV b st)) ⟨hx, hb, hml, hown, hts⟩ hmet ⟨va_cnB (dxNp y) hts (dxWs_good hk) (by unfold dxWs; rw [hrt]) rfl rfl hN (hts _ w4) hMt.2.2.1 hRm, hnm, hts _ w2⟩ ⟨dxPc_blind, hpre⟩ rfl (by rw [List.length_map]; simpa using hlv) hl.1 rfl (by show 2 * 0 + _ ≤ 8; omega) hd hroom) hbs hS goOn
                  · cases g3
                · cases hcal
              · cases hcal
            · cases h
          · cases h
        · split at h
          · rename_i pc1 L1 S1 H1 z1 hst
            have m1 := dxStep_len hst
            have m2 := dxRun_len f h
            have goOn : ∀ (Hp' : Heap) (locs' : List Loc) (ls' : Array Slot), dxLs b st ls' (dxMl k) L1 → va_P D vwCl (dxWc b st cy H1) Hp' → va_S (fun q => b ≤ q) s.heap Hp' locs' → W p l e R s m args below meth c Hp' locs' (H1.length - n0) (z1 - z0) Q (F0 m pc1 ls' (S1.map (dxV b st))) := fun Hp' locs' ls' hl' hP' hS' =>
              ih b st cy D k pc1 L1 S1 H1 z1 r H' z' h p e R s m args below meth c Hp' locs' Q ls' n0 z0 hC hs0 (by omega) (by omega) hc1 hc2 hfr hlo hP' hS' hl' ret
            unfold dxStep at hst
            split at hst
            · rename_i hq; cases hst; exact dxPop_ok hx hb hd hq (goOn Hp locs ls hl hP hS)
            · split at hst
              · rename_i hq; cases hst; exact dxLoc_ok hx hb hd hl hq (fun ls' hl' => goOn Hp locs ls' hl' hP hS)
              · split at hst
                · rename_i hq; cases hst; exact dxJmp_ok hx hb hd hq (goOn Hp locs ls hl hP hS)
                · split at hst
                  · rename_i hq; cases hst; exact dxKst_ok hx hb hown hts hd hq (goOn Hp locs ls hl hP hS)
                  · split at hst
                    · rename_i hq
                      cases hst
                      refine dxHp_ok hx hb hown hname hts hFx.1 hP hS hFx.2.1 hFx.2.2.1 hd hq (fun Hp' locs' hlen hP' hS' => ?_)
                      rw [← hlen]
                      exact goOn Hp' locs' ls hl hP' hS'
                    · split at hst
                      · rename_i hq
                        cases hst
                        exact dxNw_ok hFx.2.2.2.1 hx hb hown hts hFx.1 hP hS hs0 hn0 hz0 (by omega) (by omega) hd hq (fun Hp' locs' _ _ hP' hS' => goOn Hp' locs' ls hl hP' hS')
                      · split at hst
                        · rename_i hq
                          cases hst
                          have hlen := dxBi_len hq
                          refine dxBi_ok hx hb (hml.trans hl.1.symm) hown hts hFx.1 hP hS hfr hlo (by omega) (by omega) hd hq (fun Hp' locs' hlen hP' hS' => ?_)
                          rw [← hlen]
                          exact goOn Hp' locs' ls hl hP' hS'
                        · cases hst
          · cases h
end
section
/-! THE CLAIM OUT OF ONE WALK OF THE LAW'S BODY. Your part is whole_start (and what it stands on); all else here is the same for every law, but numbers. -/
def R_law : String := "MilkTruceLaw"
def lw_P (b : Addr) (xs : List Int32) (args : Array Value) (s : State) : Prop := args = #[.ref b] ∧ s.IntsAt b xs ∧ xs.length ≤ 320 ∧ (Jvm.Cond.and given_1 narrow_1).before args s = true
def lw_Q (_ : Array Value) (s : State) (o : Outcome) (t : State) : Prop := o = .returned (some (.int 1)) ∧ Framed s o t [] 600000 7302250
def lw_Z (below : List Frame) (a : Array Value) (s : State) : State → Prop := fun t => ∃ o, t.status = .running ∧ Ended t below o ∧ lw_Q a s o t
/-- the law's own end, with 1 on the stack, nothing written that was there before, its room as the claim has it -/
theorem lw_ret {p : Program} {l : Launch} {e : Env} {s : State} {m : MethodId} {below : List Frame} {meth : Method} {c : Code} {b : Nat} (hx : p.tables.exec = Jvm.exec) (hb : c.code = code) (hr : meth.sig.returnType = ret) (hlocks : meth.locks = false) {pc : Nat} {H : Heap} {ls : Array Slot} (hdg : decode code pc = .ok (.ireturn, 1)) : W p l e room_1 s m #[Value.ref b] below meth c H [] 600000 7302250 (lw_Z below #[Value.ref b] s) (F0 m pc ls [.int 1]) := by
  intro T hT X
  obtain ⟨fs, hret, hrun, hended, hW, hframe⟩ := X.leave (v := some (.int 1)) (hlocks := hlocks) (fun h => by rw [hr] at h; cases h)
  have hmeth' : T.vm.method? m = some meth := X.method'
  refine ⟨T.setFrames fs, ?_, .returned (some (.int 1)), hrun, hended, rfl, ⟨_, rfl⟩, hW, hframe⟩
  jvm_step X.here [X.here.top, hx, hb, hdg, hmeth', hr, ret, narrow_b1]
  (try refine ⟨rfl, ?_⟩); (try refine ⟨rfl, ?_⟩)
  first | (intro acts; rw [hret _ acts rfl rfl rfl]) | rw [hret _ _ rfl rfl rfl]
  exact Steps.refl _
/-- what holds at the law's entry: the machine, the code, the tables' words (any of lw_tbl by 'hts w (by decide +kernel)'), the script of L ints xs at the cell b, what the Statement gives of the start (any of its parts by flat_of_before) -/
def lw_At (p : Program) (s : State) (m : MethodId) (meth : Method) (c : Code) (b L : Nat) (xs : Nat → Int32) : Prop :=
  p.tables.exec = Jvm.exec ∧ c.code = code ∧ meth.sig.returnType = ret ∧ c.maxLocals = 4 ∧ s.vm.findClass R_law = some m.cls ∧ (∀ w ∈ lw_tbl, w.before #[Value.ref b] s = true) ∧ va_X b L xs s s.heap ∧ b < s.heap.size ∧ meth.locks = false ∧ (Jvm.Cond.and given_1 narrow_1).before #[Value.ref b] s = true
/-- the tables: the class's static arrays, the script -/
def dxTbl (L : Nat) (xs : Nat → Int32) : dxT := fun j => match j with
  | 0 => (2, fun q => [0, 1].getD q 0)
  | 1 => (2, fun q => [9, 9].getD q 0)
  | 2 => (4, fun q => [0, 0, 0, 0].getD q 0)
  | 3 => (4, fun q => [9, 1, 9, 3].getD q 0)
  | _ => (L, xs)
theorem dxB_law : dxB 173 = code := rfl
/-- WHAT IS LEFT: the law's run in the deep interpreter -/
def dxGo : Prop := ∀ (L : Nat) (xs : Nat → Int32), L ≤ 320 → ∃ (f : Nat) (H' : dxH) (z' : Nat), dxRun (dxTbl L xs) f 173 0 (dxEnt 173 [.float 4]) [] [] 0 = some (some (.int 1), H', z') ∧ H'.length ≤ 600000 ∧ z' ≤ 7302250
theorem dx_tab {args : Array Value} {s : State} {n : String} {N : Nat} {f : Nat → Int32} {A : Nat → Prop} (hN : N < 2 ^ 31) (harr : (Cond.arrayOf (.static RX4 n "[I") .int).before args s = true) (hlen : (Cond.eq (.length (.static RX4 n "[I")) (.int (Int32.ofNat N))).before args s = true) (hel : ∀ j : Nat, j < N → (Cond.eq (.elem (.static RX4 n "[I") (.int (Int32.ofNat j))) (.int (f j))).before args s = true) (hl : (Cond.laysStatic RX4 n "[I").before args s = true) (hini : (Cond.initialized RX4).before args s = true) (hA : ∀ a : Nat, a < s.heap.size → ¬ A a) : ∃ t : Nat, va_Z RX4 n "[I" (.ref t) A s s.heap ∧ va_T .int t N (fun j => .int (f j)) A s s.heap := by
  obtain ⟨t, h1, h2⟩ := va_Tof (f := fun j => .int (f j)) hN harr (va_eqt hlen) (fun j hj => va_eqt (hel j hj)) hA
  exact ⟨t, va_Zref hl hini h1 hA, h2⟩
set_option maxRecDepth 100000 in
theorem dx_whole (go : dxGo) {p : Program} {e : Env} {s : State} {m : MethodId} {below : List Frame} {meth : Method} {c : Code} (l : Launch) {b L : Nat} {xs : Nat → Int32} (hL : L ≤ 320) (C0 : lw_At p s m meth c b L xs) : W p l e room_1 s m #[Value.ref b] below meth c s.heap [] 0 0 (lw_Z below #[Value.ref b] s) (entryFrame m ([Value.ref b] : List Value).toArray 4) := by
  obtain ⟨hx, hb, hr0, hml, hown, hts, hX, hbl, hlocks, hgv⟩ := id C0
  have hA : ∀ a : Nat, a < s.heap.size → ¬ s.heap.size ≤ a := fun a h => by omega
  have hf := flat_of_before _ hgv
  have hin4 : (Cond.initialized RX4).before #[Value.ref b] s = true := hts _ (by decide +kernel)
  obtain ⟨t0, hZ0, hT0⟩ := dx_tab (n := "CLOVER_LEAST") (N := 2) (f := fun q => [0, 1].getD q 0) (by decide) (hf _ (by decide +kernel)) (hf _ (by decide +kernel)) (fun j hj => by rcases (show j = 0 ∨ j = 1 by omega) with rfl | rfl <;> exact hf _ (by decide +kernel)) (hts _ (by decide +kernel)) hin4 hA
  obtain ⟨t1, hZ1, hT1⟩ := dx_tab (n := "CLOVER_MOST") (N := 2) (f := fun q => [9, 9].getD q 0) (by decide) (hf _ (by decide +kernel)) (hf _ (by decide +kernel)) (fun j hj => by rcases (show j = 0 ∨ j = 1 by omega) with rfl | rfl <;> exact hf _ (by decide +kernel)) (hts _ (by decide +kernel)) hin4 hA
  obtain ⟨t2, hZ2, hT2⟩ := dx_tab (n := "COW_LEAST") (N := 4) (f := fun q => [0, 0, 0, 0].getD q 0) (by decide) (hf _ (by decide +kernel)) (hf _ (by decide +kernel)) (fun j hj => by rcases (show j = 0 ∨ j = 1 ∨ j = 2 ∨ j = 3 by omega) with rfl | rfl | rfl | rfl <;> exact hf _ (by decide +kernel)) (hts _ (by decide +kernel)) hin4 hA
  obtain ⟨t3, hZ3, hT3⟩ := dx_tab (n := "COW_MOST") (N := 4) (f := fun q => [9, 1, 9, 3].getD q 0) (by decide) (hf _ (by decide +kernel)) (hf _ (by decide +kernel)) (fun j hj => by rcases (show j = 0 ∨ j = 1 ∨ j = 2 ∨ j = 3 by omega) with rfl | rfl | rfl | rfl <;> exact hf _ (by decide +kernel)) (hts _ (by decide +kernel)) hin4 hA
  have hT4 : va_T .int b L (fun q => .int (xs q)) (fun q => s.heap.size ≤ q) s s.heap := by
    obtain ⟨scr, h1, h2, h3, h4, h5⟩ := hX
    exact ⟨scr, h1, h2, h3, by omega, by rw [h4], h5, by omega⟩
  -- the classes
  have hcl : ∀ c : Nat, ∃ q : ClassId × (Nat → Nat), c < 9 → u_Kn s (dxCl c).1 (dxCl c).2.1 (dxCl c).2.2 q.1 q.2 := by
    intro c
    by_cases hc : c < 9
    · obtain ⟨cC, iS, h⟩ := u_known (n := (dxCl c).2.2) hts (fun w hw => (List.mem_filter.mp (dxCl_uw hc w hw)).1) (hts _ (List.mem_filter.mp (dxCl_in hc).1).1)
      exact ⟨(cC, iS), fun _ => h⟩
    · exact ⟨(0, fun _ => 0), fun h => absurd h hc⟩
  obtain ⟨aI, kI, mI, i1, i2, i3⟩ := Cond.arrayClass_spec (hts _ (List.mem_filter.mp dxW_arr.1).1)
  obtain ⟨aZ, kZ, mZ, j1, j2, j3⟩ := Cond.arrayClass_spec (hts _ (List.mem_filter.mp dxW_arr.2).1)
  have hAO : va_AO RX3 s := va_AO.of (hts (.arrayOver (.object RX3)) (by decide +kernel))
  obtain ⟨mM, aM, kM, m1, -, m2, m3, m4⟩ := Cond.arrayOver_spec hAO
  have hK : va_K (fun c => (Classical.choose (hcl c)).1, fun c => (Classical.choose (hcl c)).2) vwCl (dxTy (fun t => if t = 0 then aI else if t = 1 then aZ else aM)) s := by
    refine ⟨fun c q hq => ?_, fun k q hq => ?_⟩
    · have hc : c < 9 := (List.getElem?_eq_some_iff.mp hq).1
      have h1 := Classical.choose_spec (hcl c) hc
      have h2 := dxCl_at hc
      rw [hq] at h2
      cases h2
      exact h1
    · match k, hq with
      | 0, hq => cases hq; exact ⟨fun n z => ⟨fun k h => (by cases h), kI, i2, mI, i3⟩, i1⟩
      | 1, hq => cases hq; exact ⟨fun n z => ⟨fun k h => (by cases h), kZ, j2, mZ, j3⟩, j1⟩
      | 2, hq => cases hq; exact ⟨fun n z => ⟨fun k h => (by cases h), kM, m2, mM, m3⟩, kM, mM, m2, m3, m1, m4⟩
      | k + 3, hq => cases hq
  have hFx : dxFx s.heap.size (fun j => if j = 0 then t0 else if j = 1 then t1 else if j = 2 then t2 else if j = 3 then t3 else b) (fun t => if t = 0 then aI else if t = 1 then aZ else aM) (fun c => (Classical.choose (hcl c)).1, fun c => (Classical.choose (hcl c)).2) (dxTbl L xs) s := by
    refine ⟨hK, fun j hj => ?_, fun j hj => ?_, hAO, fun q hq hk => va_Nw.of rfl (hts _ (List.mem_of_getElem? (dxNst_all q hq hk)))⟩
    · rcases (show j = 0 ∨ j = 1 ∨ j = 2 ∨ j = 3 ∨ j = 4 by omega) with rfl | rfl | rfl | rfl | rfl
      · exact hT0
      · exact hT1
      · exact hT2
      · exact hT3
      · exact hT4
    · rcases (show j = 0 ∨ j = 1 ∨ j = 2 ∨ j = 3 by omega) with rfl | rfl | rfl | rfl
      · exact hZ0
      · exact hZ1
      · exact hZ2
      · exact hZ3
  obtain ⟨f, H', z', hrun, hcells, hslots⟩ := go L xs hL
  have hl := lv_entry ([.ref b]) (n := 4) (Nat.le_of_ble_eq_true rfl)
  rw [lg_entry_eq]
  generalize (lg_sl ([.ref b]) ++ List.replicate (4 - (lg_sl ([.ref b])).length) Slot.unset).toArray = ls at hl ⊢
  have hls : dxLs s.heap.size (fun j => if j = 0 then t0 else if j = 1 then t1 else if j = 2 then t2 else if j = 3 then t3 else b) ls (dxMl 173) (dxEnt 173 [.float 4]) := dxEnt_ls (k := 173) (vs := [.float 4]) hl (by decide +kernel)
  have hcode : dxB 173 = code := dxB_law
  have k1 := dx_sound (dxTbl L xs) l f s.heap.size (fun j => if j = 0 then t0 else if j = 1 then t1 else if j = 2 then t2 else if j = 3 then t3 else b) (fun t => if t = 0 then aI else if t = 1 then aZ else aM) (fun c => (Classical.choose (hcl c)).1, fun c => (Classical.choose (hcl c)).2) 173 0 (dxEnt 173 [.float 4]) [] [] 0 (some (.int 1)) H' z' hrun p e room_1 s m #[Value.ref b] below meth c s.heap [] (lw_Z below #[Value.ref b] s) ls 0 0
    ⟨hx, hb.trans hcode.symm, hml.trans (by decide +kernel), hown, fun h => absurd h (by decide +kernel), fun w hw => hts w (List.mem_filter.mp hw).1, hFx⟩ rfl (Nat.le_refl _) (Nat.le_refl _) hcells hslots (by decide +kernel) (by decide +kernel) (fun k q h => by simp [dxWc] at h) va_S.rf hls
    (fun Hp' locs' ls' pc' i n S' hd hr hP' hS' => by
      refine va_forget hS'.2.2 (W.widen (k := 600000) (n := 7302250) hcells hslots ?_)
      unfold dxRet at hr
      split at hr
      · split at hr
        · split at hr
          · cases hr
            exact lw_ret hx hb hr0 hlocks (hcode ▸ hd)
          · cases hr
        · cases hr
      · repeat' split at hr
        all_goals cases hr
      · repeat' split at hr
        all_goals cases hr
      · repeat' split at hr
        all_goals cases hr
      · cases hr)
  exact k1
end
section
/-! the runs of the deep interpreter, walked by rules: a rule an instruction -/
def Ev (tb : dxT) (k pc : Nat) (L : dxL) (S : List Value) (H : dxH) (Q : Option Value → dxH → Prop) : Prop := ∃ (f : Nat) (r : Option Value) (H' : dxH), (∀ z : Nat, dxRun tb f k pc L S H z = some (r, H', z)) ∧ Q r H'
/-- a whole call -/
def Cl (tb : dxT) (k : Nat) (vs : List Value) (H : dxH) (Q : Option Value → dxH → Prop) : Prop := Ev tb k 0 (dxEnt k vs) [] H Q
theorem dxRun_more {tb : dxT} : ∀ (f : Nat) {k pc : Nat} {L : dxL} {S : List Value} {H : dxH} {z : Nat} {x : Option Value × dxH × Nat}, dxRun tb f k pc L S H z = some x → dxRun tb (f + 1) k pc L S H z = some x
  | 0, _, _, _, _, _, _, _, h => by cases h
  | f + 1, k, pc, L, S, H, z, x, h => by
    unfold dxRun at h
    unfold dxRun
    split at h
    · cases h
    · rename_i i n hI
      split at h
      · exact h
      · split at h
        · split at h
          · rename_i hg
            rw [if_pos hg]
            split at h
            · rename_i hq
              rw [dxRun_more f hq]
              exact dxRun_more f h
            · cases h
          · cases h
        · split at h
          · exact dxRun_more f h
          · cases h
theorem dxRun_add {tb : dxT} {f : Nat} (g : Nat) {k pc : Nat} {L : dxL} {S : List Value} {H : dxH} {z : Nat} {x : Option Value × dxH × Nat} (h : dxRun tb f k pc L S H z = some x) : dxRun tb (f + g) k pc L S H z = some x := by
  induction g with
  | zero => exact h
  | succ g ih => exact dxRun_more _ ih
section EV
variable {tb : dxT} {k pc : Nat} {L L' : dxL} {S S' : List Value} {H H' : dxH} {Q : Option Value → dxH → Prop} {i : Instr} {n pc' : Nat}
theorem Ev.post {Q' : Option Value → dxH → Prop} (h : Ev tb k pc L S H Q) (hq : ∀ r H', Q r H' → Q' r H') : Ev tb k pc L S H Q' := by
  obtain ⟨f, r, H', h1, h2⟩ := h
  exact ⟨f, r, H', h1, hq _ _ h2⟩
theorem ev_step (hI : dxI k pc = some (i, n)) (h1 : dxRet k i n S = none) (h2 : dxCal k i n = none) (h3 : ∀ z : Nat, dxStep tb k i n pc L S H z = some (pc', L', S', H', z)) (kk : Ev tb k pc' L' S' H' Q) : Ev tb k pc L S H Q := by
  obtain ⟨f, r, H'', h4, h5⟩ := kk
  refine ⟨f + 1, r, H'', fun z => ?_, h5⟩
  unfold dxRun
  simp only [hI, h1, h2, h3]
  exact h4 z
theorem ev_ret {r : Option Value} (hI : dxI k pc = some (i, n)) (h1 : dxRet k i n S = some r) (hq : Q r H) : Ev tb k pc L S H Q := by
  refine ⟨1, r, H, fun z => ?_, hq⟩
  unfold dxRun
  simp only [hI, h1]
theorem ev_call {y na : Nat} {Qc : Option Value → dxH → Prop} (hI : dxI k pc = some (i, n)) (h1 : dxRet k i n S = none) (h2 : dxCal k i n = some (y, na)) (hg : na ≤ S.length ∧ (dxArg (S.take na).reverse).length ≤ dxMl y ∧ dxRcv k y i (S.take na).reverse H = true ∧ dxW8 (S.drop na) = true ∧ dxFr y + 1 ≤ dxFr k ∧ 8 + (dxMl y + 11) + dxLo y ≤ dxLo k)
    (hc : Cl tb y (S.take na).reverse H Qc) (kk : ∀ r H1, Qc r H1 → Ev tb k (pc + 3) L (r.toList ++ S.drop na) H1 Q) : Ev tb k pc L S H Q := by
  obtain ⟨f, r, H1, h4, h5⟩ := hc
  obtain ⟨f', r', H', h6, h7⟩ := kk r H1 h5
  refine ⟨f + f' + 1, r', H', fun z => ?_, h7⟩
  unfold dxRun
  simp only [hI, h1, h2, if_pos hg, dxRun_add f' (h4 z)]
  rw [Nat.add_comm f f']
  exact dxRun_add f (h6 z)

theorem ev_iconst {c : Int} {v : Int32} (hI : dxI k pc = some (.iconst c, 1)) (hv : Int32.ofInt c = v) (kk : Ev tb k (pc + 1) L (.int v :: S) H Q) : Ev tb k pc L (S) H Q := ev_step hI rfl rfl (fun _ => by subst hv; rfl) kk
theorem ev_bipush {c : Int} {v : Int32} (hI : dxI k pc = some (.bipush c, 2)) (hv : (Int8.ofInt c).toInt32 = v) (kk : Ev tb k (pc + 2) L (.int v :: S) H Q) : Ev tb k pc L (S) H Q := ev_step hI rfl rfl (fun _ => by subst hv; rfl) kk
theorem ev_sipush {c : Int} {v : Int32} (hI : dxI k pc = some (.sipush c, 3)) (hv : (Int16.ofInt c).toInt32 = v) (kk : Ev tb k (pc + 3) L (.int v :: S) H Q) : Ev tb k pc L (S) H Q := ev_step hI rfl rfl (fun _ => by subst hv; rfl) kk
theorem ev_lconst {c : Fin 2} {v : Int64} (hI : dxI k pc = some (.lconst c, 1)) (hv : Int64.ofNat c = v) (kk : Ev tb k (pc + 1) L (.long v :: S) H Q) : Ev tb k pc L (S) H Q := ev_step hI rfl rfl (fun _ => by subst hv; rfl) kk
theorem ev_aconst_null (hI : dxI k pc = some (.aconst_null, 1)) (kk : Ev tb k (pc + 1) L (.null :: S) H Q) : Ev tb k pc L (S) H Q := ev_step hI rfl rfl (fun _ => rfl) kk
theorem ev_dup {v : Value} (hI : dxI k pc = some (.dup, 1)) (hv : v.category = 1) (kk : Ev tb k (pc + 1) L (v :: v :: S) H Q) : Ev tb k pc L (v :: S) H Q := ev_step hI rfl rfl (fun _ => by simp only [dxStep, dxPop, dxOne, if_pos hv]; rfl) kk
theorem ev_pop {v : Value} (hI : dxI k pc = some (.pop, 1)) (hv : v.category = 1) (kk : Ev tb k (pc + 1) L (S) H Q) : Ev tb k pc L (v :: S) H Q := ev_step hI rfl rfl (fun _ => by simp only [dxStep, dxPop, dxOne, if_pos hv]; rfl) kk
theorem ev_dup2 {v u : Value} (hI : dxI k pc = some (.dup2, 1)) (hv : v.category = 1) (hu : u.category = 1) (kk : Ev tb k (pc + 1) L (v :: u :: v :: u :: S) H Q) : Ev tb k pc L (v :: u :: S) H Q := ev_step hI rfl rfl (fun _ => by simp only [dxStep, dxPop, dxTwo, hv, hu, and_self, if_true]) kk
theorem ev_iadd {x y : Int32} (hI : dxI k pc = some (.iadd, 1)) (kk : Ev tb k (pc + 1) L (.int (x + y) :: S) H Q) : Ev tb k pc L (.int y :: .int x :: S) H Q := ev_step hI rfl rfl (fun _ => rfl) kk
theorem ev_isub {x y : Int32} (hI : dxI k pc = some (.isub, 1)) (kk : Ev tb k (pc + 1) L (.int (x - y) :: S) H Q) : Ev tb k pc L (.int y :: .int x :: S) H Q := ev_step hI rfl rfl (fun _ => rfl) kk
theorem ev_imul {x y : Int32} (hI : dxI k pc = some (.imul, 1)) (kk : Ev tb k (pc + 1) L (.int (x * y) :: S) H Q) : Ev tb k pc L (.int y :: .int x :: S) H Q := ev_step hI rfl rfl (fun _ => rfl) kk
theorem ev_iand {x y : Int32} (hI : dxI k pc = some (.iand, 1)) (kk : Ev tb k (pc + 1) L (.int (x &&& y) :: S) H Q) : Ev tb k pc L (.int y :: .int x :: S) H Q := ev_step hI rfl rfl (fun _ => rfl) kk
theorem ev_ior {x y : Int32} (hI : dxI k pc = some (.ior, 1)) (kk : Ev tb k (pc + 1) L (.int (x ||| y) :: S) H Q) : Ev tb k pc L (.int y :: .int x :: S) H Q := ev_step hI rfl rfl (fun _ => rfl) kk
theorem ev_ixor {x y : Int32} (hI : dxI k pc = some (.ixor, 1)) (kk : Ev tb k (pc + 1) L (.int (x ^^^ y) :: S) H Q) : Ev tb k pc L (.int y :: .int x :: S) H Q := ev_step hI rfl rfl (fun _ => rfl) kk
theorem ev_ishl {x y : Int32} (hI : dxI k pc = some (.ishl, 1)) (kk : Ev tb k (pc + 1) L (.int (x <<< (y &&& 31)) :: S) H Q) : Ev tb k pc L (.int y :: .int x :: S) H Q := ev_step hI rfl rfl (fun _ => rfl) kk
theorem ev_ishr {x y : Int32} (hI : dxI k pc = some (.ishr, 1)) (kk : Ev tb k (pc + 1) L (.int (x >>> (y &&& 31)) :: S) H Q) : Ev tb k pc L (.int y :: .int x :: S) H Q := ev_step hI rfl rfl (fun _ => rfl) kk
theorem ev_iushr {x y : Int32} (hI : dxI k pc = some (.iushr, 1)) (kk : Ev tb k (pc + 1) L (.int ((x.toUInt32 >>> (y.toUInt32 &&& Int32.toUInt32 31)).toInt32) :: S) H Q) : Ev tb k pc L (.int y :: .int x :: S) H Q := ev_step hI rfl rfl (fun _ => rfl) kk
theorem ev_idiv {x y : Int32} (hI : dxI k pc = some (.idiv, 1)) (hy : ¬ y = 0) (kk : Ev tb k (pc + 1) L (.int (x / y) :: S) H Q) : Ev tb k pc L (.int y :: .int x :: S) H Q := ev_step hI rfl rfl (fun _ => by simp only [dxStep, dxPop, dxII, if_neg hy]; rfl) kk
theorem ev_irem {x y : Int32} (hI : dxI k pc = some (.irem, 1)) (hy : ¬ y = 0) (kk : Ev tb k (pc + 1) L (.int (x - x / y * y) :: S) H Q) : Ev tb k pc L (.int y :: .int x :: S) H Q := ev_step hI rfl rfl (fun _ => by simp only [dxStep, dxPop, dxII, if_neg hy]; rfl) kk
theorem ev_ineg {x : Int32} (hI : dxI k pc = some (.ineg, 1)) (kk : Ev tb k (pc + 1) L (.int (-x) :: S) H Q) : Ev tb k pc L (.int x :: S) H Q := ev_step hI rfl rfl (fun _ => rfl) kk
theorem ev_i2l {x : Int32} (hI : dxI k pc = some (.i2l, 1)) (kk : Ev tb k (pc + 1) L (.long x.toInt64 :: S) H Q) : Ev tb k pc L (.int x :: S) H Q := ev_step hI rfl rfl (fun _ => rfl) kk
theorem ev_l2i {x : Int64} (hI : dxI k pc = some (.l2i, 1)) (kk : Ev tb k (pc + 1) L (.int x.toInt32 :: S) H Q) : Ev tb k pc L (.long x :: S) H Q := ev_step hI rfl rfl (fun _ => rfl) kk
theorem ev_ladd {x y : Int64} (hI : dxI k pc = some (.ladd, 1)) (kk : Ev tb k (pc + 1) L (.long (x + y) :: S) H Q) : Ev tb k pc L (.long y :: .long x :: S) H Q := ev_step hI rfl rfl (fun _ => rfl) kk
theorem ev_lmul {x y : Int64} (hI : dxI k pc = some (.lmul, 1)) (kk : Ev tb k (pc + 1) L (.long (x * y) :: S) H Q) : Ev tb k pc L (.long y :: .long x :: S) H Q := ev_step hI rfl rfl (fun _ => rfl) kk
theorem ev_land {x y : Int64} (hI : dxI k pc = some (.land, 1)) (kk : Ev tb k (pc + 1) L (.long (x &&& y) :: S) H Q) : Ev tb k pc L (.long y :: .long x :: S) H Q := ev_step hI rfl rfl (fun _ => rfl) kk
theorem ev_lor {x y : Int64} (hI : dxI k pc = some (.lor, 1)) (kk : Ev tb k (pc + 1) L (.long (x ||| y) :: S) H Q) : Ev tb k pc L (.long y :: .long x :: S) H Q := ev_step hI rfl rfl (fun _ => rfl) kk
theorem ev_lrem {x y : Int64} (hI : dxI k pc = some (.lrem, 1)) (hy : ¬ y = 0) (kk : Ev tb k (pc + 1) L (.long (x - x / y * y) :: S) H Q) : Ev tb k pc L (.long y :: .long x :: S) H Q := ev_step hI rfl rfl (fun _ => by simp only [dxStep, dxPop, dxJJ, if_neg hy]; rfl) kk
theorem ev_lcmp {x y : Int64} (hI : dxI k pc = some (.lcmp, 1)) (kk : Ev tb k (pc + 1) L (.int (lg_cmp x y) :: S) H Q) : Ev tb k pc L (.long y :: .long x :: S) H Q := ev_step hI rfl rfl (fun _ => rfl) kk
theorem ev_lshl {x : Int64} {y : Int32} (hI : dxI k pc = some (.lshl, 1)) (kk : Ev tb k (pc + 1) L (.long (x <<< (y.toInt64 &&& 63)) :: S) H Q) : Ev tb k pc L (.int y :: .long x :: S) H Q := ev_step hI rfl rfl (fun _ => rfl) kk
theorem ev_lushr {x : Int64} {y : Int32} (hI : dxI k pc = some (.lushr, 1)) (kk : Ev tb k (pc + 1) L (.long (x.toUInt64 >>> (y.toInt64.toUInt64 &&& Int64.toUInt64 63)).toInt64 :: S) H Q) : Ev tb k pc L (.int y :: .long x :: S) H Q := ev_step hI rfl rfl (fun _ => rfl) kk
theorem ev_iload_n {j : Fin 4} {x : Int32} (hI : dxI k pc = some (.iload_n j, 1)) (hl : L[(j : Nat)]? = some (some (.int x))) (kk : Ev tb k (pc + 1) L (.int x :: S) H Q) : Ev tb k pc L S H Q := ev_step hI rfl rfl (fun _ => by simp only [dxStep, dxPop, dxLoc, dxLdI, hl]) kk
theorem ev_iload {j : Nat} {x : Int32} (hI : dxI k pc = some (.iload j, 2)) (hl : L[(j : Nat)]? = some (some (.int x))) (kk : Ev tb k (pc + 2) L (.int x :: S) H Q) : Ev tb k pc L S H Q := ev_step hI rfl rfl (fun _ => by simp only [dxStep, dxPop, dxLoc, dxLdI, hl]) kk
theorem ev_lload_n {j : Fin 4} {x : Int64} (hI : dxI k pc = some (.lload_n j, 1)) (hl : L[(j : Nat)]? = some (some (.long x))) (kk : Ev tb k (pc + 1) L (.long x :: S) H Q) : Ev tb k pc L S H Q := ev_step hI rfl rfl (fun _ => by simp only [dxStep, dxPop, dxLoc, dxLdJ, hl]) kk
theorem ev_lload {j : Nat} {x : Int64} (hI : dxI k pc = some (.lload j, 2)) (hl : L[(j : Nat)]? = some (some (.long x))) (kk : Ev tb k (pc + 2) L (.long x :: S) H Q) : Ev tb k pc L S H Q := ev_step hI rfl rfl (fun _ => by simp only [dxStep, dxPop, dxLoc, dxLdJ, hl]) kk
theorem ev_aload_n {j : Fin 4} {x : Nat} (hI : dxI k pc = some (.aload_n j, 1)) (hl : L[(j : Nat)]? = some (some (.ref x))) (kk : Ev tb k (pc + 1) L (.ref x :: S) H Q) : Ev tb k pc L S H Q := ev_step hI rfl rfl (fun _ => by simp only [dxStep, dxPop, dxLoc, dxLdA, hl]) kk
theorem ev_aload {j : Nat} {x : Nat} (hI : dxI k pc = some (.aload j, 2)) (hl : L[(j : Nat)]? = some (some (.ref x))) (kk : Ev tb k (pc + 2) L (.ref x :: S) H Q) : Ev tb k pc L S H Q := ev_step hI rfl rfl (fun _ => by simp only [dxStep, dxPop, dxLoc, dxLdA, hl]) kk
theorem ev_aloadT_n {j : Fin 4} {x : UInt32} (hI : dxI k pc = some (.aload_n j, 1)) (hl : L[(j : Nat)]? = some (some (.float x))) (kk : Ev tb k (pc + 1) L (.float x :: S) H Q) : Ev tb k pc L S H Q := ev_step hI rfl rfl (fun _ => by simp only [dxStep, dxPop, dxLoc, dxLdA, hl]) kk
theorem ev_aloadT {j : Nat} {x : UInt32} (hI : dxI k pc = some (.aload j, 2)) (hl : L[(j : Nat)]? = some (some (.float x))) (kk : Ev tb k (pc + 2) L (.float x :: S) H Q) : Ev tb k pc L S H Q := ev_step hI rfl rfl (fun _ => by simp only [dxStep, dxPop, dxLoc, dxLdA, hl]) kk
theorem ev_istore_n {j : Fin 4} {x : Int32} (hI : dxI k pc = some (.istore_n j, 1)) (hl : (j : Nat) < L.length ∧ dxNo2 L j = true) (hL : L.set j (some (.int x)) = L') (kk : Ev tb k (pc + 1) L' S H Q) : Ev tb k pc L (.int x :: S) H Q := ev_step hI rfl rfl (fun _ => by simp only [dxStep, dxPop, dxLoc, dxStI, if_pos hl, hL]) kk
theorem ev_istore {j : Nat} {x : Int32} (hI : dxI k pc = some (.istore j, 2)) (hl : (j : Nat) < L.length ∧ dxNo2 L j = true) (hL : L.set j (some (.int x)) = L') (kk : Ev tb k (pc + 2) L' S H Q) : Ev tb k pc L (.int x :: S) H Q := ev_step hI rfl rfl (fun _ => by simp only [dxStep, dxPop, dxLoc, dxStI, if_pos hl, hL]) kk
theorem ev_astore_n {j : Fin 4} {x : Nat} (hI : dxI k pc = some (.astore_n j, 1)) (hl : (j : Nat) < L.length ∧ dxNo2 L j = true) (hL : L.set j (some (.ref x)) = L') (kk : Ev tb k (pc + 1) L' S H Q) : Ev tb k pc L (.ref x :: S) H Q := ev_step hI rfl rfl (fun _ => by simp only [dxStep, dxPop, dxLoc, dxStA, if_pos hl, hL]) kk
theorem ev_astore {j : Nat} {x : Nat} (hI : dxI k pc = some (.astore j, 2)) (hl : (j : Nat) < L.length ∧ dxNo2 L j = true) (hL : L.set j (some (.ref x)) = L') (kk : Ev tb k (pc + 2) L' S H Q) : Ev tb k pc L (.ref x :: S) H Q := ev_step hI rfl rfl (fun _ => by simp only [dxStep, dxPop, dxLoc, dxStA, if_pos hl, hL]) kk
theorem ev_lstore_n {j : Fin 4} {x : Int64} (hI : dxI k pc = some (.lstore_n j, 1)) (hl : (j : Nat) + 1 < L.length ∧ dxNo2 L j = true) (hL : (L.set j (some (.long x))).set (j + 1) none = L') (kk : Ev tb k (pc + 1) L' S H Q) : Ev tb k pc L (.long x :: S) H Q := ev_step hI rfl rfl (fun _ => by simp only [dxStep, dxPop, dxLoc, dxStJ, if_pos hl, hL]) kk
theorem ev_lstore {j : Nat} {x : Int64} (hI : dxI k pc = some (.lstore j, 2)) (hl : (j : Nat) + 1 < L.length ∧ dxNo2 L j = true) (hL : (L.set j (some (.long x))).set (j + 1) none = L') (kk : Ev tb k (pc + 2) L' S H Q) : Ev tb k pc L (.long x :: S) H Q := ev_step hI rfl rfl (fun _ => by simp only [dxStep, dxPop, dxLoc, dxStJ, if_pos hl, hL]) kk
theorem ev_iinc {j : Nat} {d : Int} {x v : Int32} (hI : dxI k pc = some (.iinc j d, 3)) (hl : L[j]? = some (some (.int x))) (hn : dxNo2 L j = true) (hv : x + Int32.ofInt d = v) (hL : L.set j (some (.int v)) = L') (kk : Ev tb k (pc + 3) L' S H Q) : Ev tb k pc L S H Q := ev_step hI rfl rfl (fun _ => by subst hv; simp only [dxStep, dxPop, dxLoc, hl, if_pos hn, hL]) kk
theorem ev_goto {o : Int} {t : Nat} (hI : dxI k pc = some (.goto o, 3)) (ht : (pc : Int) + o = (t : Int)) (kk : Ev tb k t L S H Q) : Ev tb k pc L S H Q := by
  have h0 : 0 ≤ (pc : Int) + o := by omega
  have h1 : dxTg pc o = t := by unfold dxTg; omega
  exact ev_step hI rfl rfl (fun _ => by simp only [dxStep, dxPop, dxLoc, dxJmp, if_pos h0, h1]) kk
theorem ev_icmp_eq {o : Int} {t : Nat} {x y : Int32} (hI : dxI k pc = some (.if_icmp .eq o, 3)) (ht : (pc : Int) + o = (t : Int)) (kt : x = y → Ev tb k t L S H Q) (kf : ¬ x = y → Ev tb k (pc + 3) L S H Q) : Ev tb k pc L (.int y :: .int x :: S) H Q := by
  have h0 : 0 ≤ (pc : Int) + o := by omega
  have h1 : dxTg pc o = t := by unfold dxTg; omega
  by_cases c : x = y
  · refine ev_step (pc' := t) hI rfl rfl (fun _ => ?_) (kt c)
    simp only [dxStep, dxPop, dxLoc, dxJmp, if_pos h0, h1, dxIf2]
    simp [c]
  · refine ev_step (pc' := pc + 3) hI rfl rfl (fun _ => ?_) (kf (by first | exact c | exact Classical.not_not.mp c))
    simp only [dxStep, dxPop, dxLoc, dxJmp, if_pos h0, h1, dxIf2]
    simp [c]
theorem ev_icmp_ne {o : Int} {t : Nat} {x y : Int32} (hI : dxI k pc = some (.if_icmp .ne o, 3)) (ht : (pc : Int) + o = (t : Int)) (kt : ¬ x = y → Ev tb k t L S H Q) (kf : x = y → Ev tb k (pc + 3) L S H Q) : Ev tb k pc L (.int y :: .int x :: S) H Q := by
  have h0 : 0 ≤ (pc : Int) + o := by omega
  have h1 : dxTg pc o = t := by unfold dxTg; omega
  by_cases c : ¬ x = y
  · refine ev_step (pc' := t) hI rfl rfl (fun _ => ?_) (kt c)
    simp only [dxStep, dxPop, dxLoc, dxJmp, if_pos h0, h1, dxIf2]
    simp [c]
  · refine ev_step (pc' := pc + 3) hI rfl rfl (fun _ => ?_) (kf (by first | exact c | exact Classical.not_not.mp c))
    simp only [dxStep, dxPop, dxLoc, dxJmp, if_pos h0, h1, dxIf2]
    simp [c]
theorem ev_icmp_lt {o : Int} {t : Nat} {x y : Int32} (hI : dxI k pc = some (.if_icmp .lt o, 3)) (ht : (pc : Int) + o = (t : Int)) (kt : x < y → Ev tb k t L S H Q) (kf : ¬ x < y → Ev tb k (pc + 3) L S H Q) : Ev tb k pc L (.int y :: .int x :: S) H Q := by
  have h0 : 0 ≤ (pc : Int) + o := by omega
  have h1 : dxTg pc o = t := by unfold dxTg; omega
  by_cases c : x < y
  · refine ev_step (pc' := t) hI rfl rfl (fun _ => ?_) (kt c)
    simp only [dxStep, dxPop, dxLoc, dxJmp, if_pos h0, h1, dxIf2]
    simp [c]
  · refine ev_step (pc' := pc + 3) hI rfl rfl (fun _ => ?_) (kf (by first | exact c | exact Classical.not_not.mp c))
    simp only [dxStep, dxPop, dxLoc, dxJmp, if_pos h0, h1, dxIf2]
    simp [c]
theorem ev_icmp_ge {o : Int} {t : Nat} {x y : Int32} (hI : dxI k pc = some (.if_icmp .ge o, 3)) (ht : (pc : Int) + o = (t : Int)) (kt : y ≤ x → Ev tb k t L S H Q) (kf : ¬ y ≤ x → Ev tb k (pc + 3) L S H Q) : Ev tb k pc L (.int y :: .int x :: S) H Q := by
  have h0 : 0 ≤ (pc : Int) + o := by omega
  have h1 : dxTg pc o = t := by unfold dxTg; omega
  by_cases c : y ≤ x
  · refine ev_step (pc' := t) hI rfl rfl (fun _ => ?_) (kt c)
    simp only [dxStep, dxPop, dxLoc, dxJmp, if_pos h0, h1, dxIf2]
    simp [c]
  · refine ev_step (pc' := pc + 3) hI rfl rfl (fun _ => ?_) (kf (by first | exact c | exact Classical.not_not.mp c))
    simp only [dxStep, dxPop, dxLoc, dxJmp, if_pos h0, h1, dxIf2]
    simp [c]
theorem ev_icmp_gt {o : Int} {t : Nat} {x y : Int32} (hI : dxI k pc = some (.if_icmp .gt o, 3)) (ht : (pc : Int) + o = (t : Int)) (kt : y < x → Ev tb k t L S H Q) (kf : ¬ y < x → Ev tb k (pc + 3) L S H Q) : Ev tb k pc L (.int y :: .int x :: S) H Q := by
  have h0 : 0 ≤ (pc : Int) + o := by omega
  have h1 : dxTg pc o = t := by unfold dxTg; omega
  by_cases c : y < x
  · refine ev_step (pc' := t) hI rfl rfl (fun _ => ?_) (kt c)
    simp only [dxStep, dxPop, dxLoc, dxJmp, if_pos h0, h1, dxIf2]
    simp [c]
  · refine ev_step (pc' := pc + 3) hI rfl rfl (fun _ => ?_) (kf (by first | exact c | exact Classical.not_not.mp c))
    simp only [dxStep, dxPop, dxLoc, dxJmp, if_pos h0, h1, dxIf2]
    simp [c]
theorem ev_icmp_le {o : Int} {t : Nat} {x y : Int32} (hI : dxI k pc = some (.if_icmp .le o, 3)) (ht : (pc : Int) + o = (t : Int)) (kt : x ≤ y → Ev tb k t L S H Q) (kf : ¬ x ≤ y → Ev tb k (pc + 3) L S H Q) : Ev tb k pc L (.int y :: .int x :: S) H Q := by
  have h0 : 0 ≤ (pc : Int) + o := by omega
  have h1 : dxTg pc o = t := by unfold dxTg; omega
  by_cases c : x ≤ y
  · refine ev_step (pc' := t) hI rfl rfl (fun _ => ?_) (kt c)
    simp only [dxStep, dxPop, dxLoc, dxJmp, if_pos h0, h1, dxIf2]
    simp [c]
  · refine ev_step (pc' := pc + 3) hI rfl rfl (fun _ => ?_) (kf (by first | exact c | exact Classical.not_not.mp c))
    simp only [dxStep, dxPop, dxLoc, dxJmp, if_pos h0, h1, dxIf2]
    simp [c]
theorem ev_if_eq {o : Int} {t : Nat} {x : Int32} (hI : dxI k pc = some (.ifCond .eq o, 3)) (ht : (pc : Int) + o = (t : Int)) (kt : x = 0 → Ev tb k t L S H Q) (kf : ¬ x = 0 → Ev tb k (pc + 3) L S H Q) : Ev tb k pc L (.int x :: S) H Q := by
  have h0 : 0 ≤ (pc : Int) + o := by omega
  have h1 : dxTg pc o = t := by unfold dxTg; omega
  by_cases c : x = 0
  · refine ev_step (pc' := t) hI rfl rfl (fun _ => ?_) (kt c)
    simp only [dxStep, dxPop, dxLoc, dxJmp, if_pos h0, h1, dxIf1]
    simp [c]
  · refine ev_step (pc' := pc + 3) hI rfl rfl (fun _ => ?_) (kf (by first | exact c | exact Classical.not_not.mp c))
    simp only [dxStep, dxPop, dxLoc, dxJmp, if_pos h0, h1, dxIf1]
    simp [c]
theorem ev_if_ne {o : Int} {t : Nat} {x : Int32} (hI : dxI k pc = some (.ifCond .ne o, 3)) (ht : (pc : Int) + o = (t : Int)) (kt : ¬ x = 0 → Ev tb k t L S H Q) (kf : x = 0 → Ev tb k (pc + 3) L S H Q) : Ev tb k pc L (.int x :: S) H Q := by
  have h0 : 0 ≤ (pc : Int) + o := by omega
  have h1 : dxTg pc o = t := by unfold dxTg; omega
  by_cases c : ¬ x = 0
  · refine ev_step (pc' := t) hI rfl rfl (fun _ => ?_) (kt c)
    simp only [dxStep, dxPop, dxLoc, dxJmp, if_pos h0, h1, dxIf1]
    simp [c]
  · refine ev_step (pc' := pc + 3) hI rfl rfl (fun _ => ?_) (kf (by first | exact c | exact Classical.not_not.mp c))
    simp only [dxStep, dxPop, dxLoc, dxJmp, if_pos h0, h1, dxIf1]
    simp [c]
theorem ev_if_lt {o : Int} {t : Nat} {x : Int32} (hI : dxI k pc = some (.ifCond .lt o, 3)) (ht : (pc : Int) + o = (t : Int)) (kt : x < 0 → Ev tb k t L S H Q) (kf : ¬ x < 0 → Ev tb k (pc + 3) L S H Q) : Ev tb k pc L (.int x :: S) H Q := by
  have h0 : 0 ≤ (pc : Int) + o := by omega
  have h1 : dxTg pc o = t := by unfold dxTg; omega
  by_cases c : x < 0
  · refine ev_step (pc' := t) hI rfl rfl (fun _ => ?_) (kt c)
    simp only [dxStep, dxPop, dxLoc, dxJmp, if_pos h0, h1, dxIf1]
    simp [c]
  · refine ev_step (pc' := pc + 3) hI rfl rfl (fun _ => ?_) (kf (by first | exact c | exact Classical.not_not.mp c))
    simp only [dxStep, dxPop, dxLoc, dxJmp, if_pos h0, h1, dxIf1]
    simp [c]
theorem ev_if_ge {o : Int} {t : Nat} {x : Int32} (hI : dxI k pc = some (.ifCond .ge o, 3)) (ht : (pc : Int) + o = (t : Int)) (kt : 0 ≤ x → Ev tb k t L S H Q) (kf : ¬ 0 ≤ x → Ev tb k (pc + 3) L S H Q) : Ev tb k pc L (.int x :: S) H Q := by
  have h0 : 0 ≤ (pc : Int) + o := by omega
  have h1 : dxTg pc o = t := by unfold dxTg; omega
  by_cases c : 0 ≤ x
  · refine ev_step (pc' := t) hI rfl rfl (fun _ => ?_) (kt c)
    simp only [dxStep, dxPop, dxLoc, dxJmp, if_pos h0, h1, dxIf1]
    simp [c]
  · refine ev_step (pc' := pc + 3) hI rfl rfl (fun _ => ?_) (kf (by first | exact c | exact Classical.not_not.mp c))
    simp only [dxStep, dxPop, dxLoc, dxJmp, if_pos h0, h1, dxIf1]
    simp [c]
theorem ev_if_gt {o : Int} {t : Nat} {x : Int32} (hI : dxI k pc = some (.ifCond .gt o, 3)) (ht : (pc : Int) + o = (t : Int)) (kt : 0 < x → Ev tb k t L S H Q) (kf : ¬ 0 < x → Ev tb k (pc + 3) L S H Q) : Ev tb k pc L (.int x :: S) H Q := by
  have h0 : 0 ≤ (pc : Int) + o := by omega
  have h1 : dxTg pc o = t := by unfold dxTg; omega
  by_cases c : 0 < x
  · refine ev_step (pc' := t) hI rfl rfl (fun _ => ?_) (kt c)
    simp only [dxStep, dxPop, dxLoc, dxJmp, if_pos h0, h1, dxIf1]
    simp [c]
  · refine ev_step (pc' := pc + 3) hI rfl rfl (fun _ => ?_) (kf (by first | exact c | exact Classical.not_not.mp c))
    simp only [dxStep, dxPop, dxLoc, dxJmp, if_pos h0, h1, dxIf1]
    simp [c]
theorem ev_if_le {o : Int} {t : Nat} {x : Int32} (hI : dxI k pc = some (.ifCond .le o, 3)) (ht : (pc : Int) + o = (t : Int)) (kt : x ≤ 0 → Ev tb k t L S H Q) (kf : ¬ x ≤ 0 → Ev tb k (pc + 3) L S H Q) : Ev tb k pc L (.int x :: S) H Q := by
  have h0 : 0 ≤ (pc : Int) + o := by omega
  have h1 : dxTg pc o = t := by unfold dxTg; omega
  by_cases c : x ≤ 0
  · refine ev_step (pc' := t) hI rfl rfl (fun _ => ?_) (kt c)
    simp only [dxStep, dxPop, dxLoc, dxJmp, if_pos h0, h1, dxIf1]
    simp [c]
  · refine ev_step (pc' := pc + 3) hI rfl rfl (fun _ => ?_) (kf (by first | exact c | exact Classical.not_not.mp c))
    simp only [dxStep, dxPop, dxLoc, dxJmp, if_pos h0, h1, dxIf1]
    simp [c]
theorem ev_ifnullR {o : Int} {a : Nat} (hI : dxI k pc = some (.ifnull o, 3)) (ht : 0 ≤ (pc : Int) + o) (kk : Ev tb k (pc + 3) L S H Q) : Ev tb k pc L (.ref a :: S) H Q := ev_step hI rfl rfl (fun _ => by simp only [dxStep, dxPop, dxLoc, dxJmp, if_pos ht]) kk
theorem ev_tabIn {d lo hi o : Int} {offs : Array Int} {t : Nat} {x : Int32} (hI : dxI k pc = some (.tableswitch d lo hi offs, n)) (h1 : ¬ (x.toInt < lo ∨ hi < x.toInt)) (h2 : offs[(x.toInt - lo).toNat]? = some o) (ht : (pc : Int) + o = (t : Int)) (kk : Ev tb k t L S H Q) : Ev tb k pc L (.int x :: S) H Q := by
  have h0 : 0 ≤ (pc : Int) + o := by omega
  have h3 : dxTg pc o = t := by unfold dxTg; omega
  refine ev_step (pc' := t) hI (by rfl) (by rfl) (fun _ => ?_) kk
  simp only [dxStep, dxPop, dxLoc, dxJmp, if_neg h1, h2, if_pos h0, h3]
theorem ev_tabOut {d lo hi : Int} {offs : Array Int} {t : Nat} {x : Int32} (hI : dxI k pc = some (.tableswitch d lo hi offs, n)) (h1 : x.toInt < lo ∨ hi < x.toInt) (ht : (pc : Int) + d = (t : Int)) (kk : Ev tb k t L S H Q) : Ev tb k pc L (.int x :: S) H Q := by
  have h0 : 0 ≤ (pc : Int) + d := by omega
  have h3 : dxTg pc d = t := by unfold dxTg; omega
  refine ev_step (pc' := t) hI (by rfl) (by rfl) (fun _ => ?_) kk
  simp only [dxStep, dxPop, dxLoc, dxJmp, if_pos h1, if_pos h0, h3]
theorem ev_ldc2 {ci idx w : Nat} {v : Int64} (hI : dxI k pc = some (.ldc2_w idx, 3)) (hc : dxCi k = ci) (hk : dxK ci idx = some (.inr v, w)) (kk : Ev tb k (pc + 3) L (.long v :: S) H Q) : Ev tb k pc L S H Q := ev_step hI rfl rfl (fun _ => by simp only [dxStep, dxPop, dxLoc, dxJmp, dxKst, hc, hk]) kk
theorem ev_ldcw {ci idx w : Nat} {v : Int32} (hI : dxI k pc = some (.ldc_w idx, 3)) (hc : dxCi k = ci) (hk : dxK ci idx = some (.inl v, w)) (kk : Ev tb k (pc + 3) L (.int v :: S) H Q) : Ev tb k pc L S H Q := ev_step hI rfl rfl (fun _ => by simp only [dxStep, dxPop, dxLoc, dxJmp, dxKst, hc, hk]) kk
theorem ev_get {ci idx c j w a : Nat} {fs : List Value} {v : Value} (hI : dxI k pc = some (.getfield idx, 3)) (hc : dxCi k = ci) (hf : dxF ci idx = some (c, j, w)) (ho : H[a]? = some (.inr (c, fs))) (hv : fs[j]? = some v) (kk : Ev tb k (pc + 3) L (v :: S) H Q) : Ev tb k pc L (.ref a :: S) H Q := ev_step hI rfl rfl (fun _ => by simp only [dxStep, dxPop, dxLoc, dxJmp, dxKst, dxHp, dxGet, hc, hf, ho, hv, if_true]) kk
theorem ev_put {ci idx c j w a : Nat} {fs fs' : List Value} {v : Value} (hI : dxI k pc = some (.putfield idx, 3)) (hc : dxCi k = ci) (hf : dxF ci idx = some (c, j, w)) (ho : H[a]? = some (.inr (c, fs))) (hg : j < fs.length ∧ dxFit (dxTyp c j) v = true ∧ (((dxCl c).2.1 j).2.2.2 = false ∨ ((dxY k).name = "<init>" ∧ c = dxCi k))) (hs : fs.set j v = fs') (kk : Ev tb k (pc + 3) L S (H.set a (.inr (c, fs'))) Q) : Ev tb k pc L (v :: .ref a :: S) H Q := ev_step hI rfl rfl (fun _ => by simp only [dxStep, dxPop, dxLoc, dxJmp, dxKst, dxHp, dxPut, hc, hf, ho]; rw [if_pos ⟨trivial, by rw [hc] at hg; exact hg⟩, hs]) kk
theorem ev_iald {a m : Nat} {x : Int32} {f : Nat → Int32} (hI : dxI k pc = some (.iaload, 1)) (ho : H[a]? = some (.inl (0, m, .inl f))) (hin : dxIn x m = true) (kk : Ev tb k (pc + 1) L (.int (f x.toNatClampNeg) :: S) H Q) : Ev tb k pc L (.int x :: .ref a :: S) H Q := ev_step hI rfl rfl (fun _ => by simp only [dxStep, dxPop, dxLoc, dxJmp, dxKst, dxHp, dxALd, ho]; rw [if_pos ⟨trivial, hin⟩]) kk
theorem ev_iald_n {a m j : Nat} {f : Nat → Int32} (hI : dxI k pc = some (.iaload, 1)) (ho : H[a]? = some (.inl (0, m, .inl f))) (hj : j < m ∧ m < 2147483648) (kk : Ev tb k (pc + 1) L (.int (f j) :: S) H Q) : Ev tb k pc L (.int (nI j) :: .ref a :: S) H Q := by
  have e1 : (nI j).toNatClampNeg = j := nI_clamp (Nat.lt_trans hj.1 hj.2)
  refine ev_iald hI ho ?_ (by rw [e1]; exact kk)
  unfold dxIn
  exact decide_eq_true (vp_in_nI hj.1 hj.2)
theorem ev_bald {a m : Nat} {x : Int32} {f : Nat → Int32} (hI : dxI k pc = some (.baload, 1)) (ho : H[a]? = some (.inl (1, m, .inl f))) (hin : dxIn x m = true) (kk : Ev tb k (pc + 1) L (.int (f x.toNatClampNeg) :: S) H Q) : Ev tb k pc L (.int x :: .ref a :: S) H Q := ev_step hI rfl rfl (fun _ => by simp only [dxStep, dxPop, dxLoc, dxJmp, dxKst, dxHp, dxALd, ho]; rw [if_pos ⟨trivial, hin⟩]) kk
theorem ev_tald {m : Nat} {u : UInt32} {x : Int32} {f : Nat → Int32} (hI : dxI k pc = some (.iaload, 1)) (hu : u.toNat < 5) (ht : tb u.toNat = (m, f)) (hin : dxIn x m = true) (kk : Ev tb k (pc + 1) L (.int (f x.toNatClampNeg) :: S) H Q) : Ev tb k pc L (.int x :: .float u :: S) H Q := ev_step hI rfl rfl (fun _ => by simp only [dxStep, dxPop, dxLoc, dxJmp, dxKst, dxHp, dxALd, ht]; rw [if_pos ⟨trivial, hu, hin⟩]) kk
theorem ev_iast {a m : Nat} {x y : Int32} {f : Nat → Int32} (hI : dxI k pc = some (.iastore, 1)) (ho : H[a]? = some (.inl (0, m, .inl f))) (hin : dxIn x m = true) (kk : Ev tb k (pc + 1) L S (H.set a (.inl (0, m, .inl (upd f x.toNatClampNeg y)))) Q) : Ev tb k pc L (.int y :: .int x :: .ref a :: S) H Q := ev_step hI rfl rfl (fun _ => by simp only [dxStep, dxPop, dxLoc, dxJmp, dxKst, dxHp, dxASt, ho]; rw [if_pos ⟨trivial, hin, fun h => absurd h (by decide)⟩]) kk
theorem ev_bast {a m : Nat} {x y : Int32} {f : Nat → Int32} (hI : dxI k pc = some (.bastore, 1)) (ho : H[a]? = some (.inl (1, m, .inl f))) (hin : dxIn x m = true) (hy : vp_nar .boolean y = y) (kk : Ev tb k (pc + 1) L S (H.set a (.inl (1, m, .inl (upd f x.toNatClampNeg y)))) Q) : Ev tb k pc L (.int y :: .int x :: .ref a :: S) H Q := ev_step hI rfl rfl (fun _ => by simp only [dxStep, dxPop, dxLoc, dxJmp, dxKst, dxHp, dxASt, ho]; rw [if_pos ⟨trivial, hin, fun _ => hy⟩]) kk
theorem ev_aald {a m v : Nat} {x : Int32} {f : Nat → Option Nat} (hI : dxI k pc = some (.aaload, 1)) (ho : H[a]? = some (.inl (2, m, .inr (.inr (.inr (.inr f)))))) (hin : dxIn x m = true) (hv : f x.toNatClampNeg = some v) (kk : Ev tb k (pc + 1) L (.ref v :: S) H Q) : Ev tb k pc L (.int x :: .ref a :: S) H Q := ev_step hI rfl rfl (fun _ => by simp only [dxStep, dxPop, dxLoc, dxJmp, dxKst, dxHp, dxQLd, ho]; rw [if_pos ⟨trivial, hin⟩, hv]; rfl) kk
theorem ev_alen {a t m : Nat} {x : (Nat → Int32) ⊕ (Nat → Int64) ⊕ (Nat → UInt32) ⊕ (Nat → UInt64) ⊕ (Nat → Option Nat)} (hI : dxI k pc = some (.arraylength, 1)) (ho : H[a]? = some (.inl (t, m, x))) (ht : t < 3) (kk : Ev tb k (pc + 1) L (.int (nI m) :: S) H Q) : Ev tb k pc L (.ref a :: S) H Q := ev_step hI rfl rfl (fun _ => by simp only [dxStep, dxPop, dxLoc, dxJmp, dxKst, dxHp, dxLen, ho]; rw [if_pos ht]; rfl) kk
theorem ev_tlen {m : Nat} {u : UInt32} {f : Nat → Int32} (hI : dxI k pc = some (.arraylength, 1)) (hu : u.toNat < 5) (ht : tb u.toNat = (m, f)) (kk : Ev tb k (pc + 1) L (.int (nI m) :: S) H Q) : Ev tb k pc L (.float u :: S) H Q := ev_step hI rfl rfl (fun _ => by simp only [dxStep, dxPop, dxLoc, dxJmp, dxKst, dxHp, dxLen, ht]; rw [if_pos hu]; rfl) kk
theorem ev_gets {ci idx u w : Nat} (hI : dxI k pc = some (.getstatic idx, 3)) (hc : dxCi k = ci) (hs : dxS ci idx = some (u, w)) (kk : Ev tb k (pc + 3) L (.float (UInt32.ofNat u) :: S) H Q) : Ev tb k pc L S H Q := ev_step hI rfl rfl (fun _ => by simp only [dxStep, dxPop, dxLoc, dxJmp, dxKst, dxHp, hc, hs]) kk
theorem ev_mth {ci idx : Nat} {S' : List Value} (hI : dxI k pc = some (.invokestatic idx, 3)) (hb : dxBi k (.invokestatic idx) 3 S H = some (S', H)) (hc : dxCal k (.invokestatic idx) 3 = none) (kk : Ev tb k (pc + 3) L S' H Q) : Ev tb k pc L S H Q := ev_step hI rfl hc (fun _ => by simp only [dxStep, dxPop, dxLoc, dxJmp, dxKst, dxHp, dxNw, hb]) kk
theorem ev_abs {ci idx : Nat} {w : Nat × Nat × Nat × Nat × Nat} {x : Int32} (hI : dxI k pc = some (.invokestatic idx, 3)) (hc : dxCi k = ci) (hl : dxLk ci idx = some (6, w)) (hr : 1 ≤ dxFr k ∧ 21 ≤ dxLo k) (hw : dxW8 S = true) (kk : Ev tb k (pc + 3) L (.int (if 0 ≤ x then x else 0 - x) :: S) H Q) : Ev tb k pc L (.int x :: S) H Q := ev_mth (ci := ci) hI (by simp only [dxBi, hc, hl, if_pos hr, if_pos hw]) (by simp only [dxCal, hc, hl]) kk
theorem ev_min {ci idx : Nat} {w : Nat × Nat × Nat × Nat × Nat} {x y : Int32} (hI : dxI k pc = some (.invokestatic idx, 3)) (hc : dxCi k = ci) (hl : dxLk ci idx = some (7, w)) (hr : 1 ≤ dxFr k ∧ 21 ≤ dxLo k) (hw : dxW8 S = true) (kk : Ev tb k (pc + 3) L (.int (if y < x then y else x) :: S) H Q) : Ev tb k pc L (.int y :: .int x :: S) H Q := ev_mth (ci := ci) hI (by simp only [dxBi, hc, hl, if_pos hr, if_pos hw]) (by simp only [dxCal, hc, hl]) kk
theorem ev_copy {ci idx : Nat} {w : Nat × Nat × Nat × Nat × Nat} {sp dp m : Int32} {a b n0 n1 : Nat} {f g : Nat → Int32} (hI : dxI k pc = some (.invokestatic idx, 3)) (hc : dxCi k = ci) (hl : dxLk ci idx = some (9, w)) (hr : (1 ≤ dxFr k ∧ 21 ≤ dxLo k) ∧ 26 ≤ dxLo k) (h0 : H[b]? = some (.inl (0, n0, .inl f))) (h1 : H[a]? = some (.inl (0, n1, .inl g))) (hw : dxW8 S = true ∧ ¬ sp < 0 ∧ ¬ dp < 0 ∧ ¬ m < 0 ∧ sp.toNatClampNeg + m.toNatClampNeg ≤ n0 ∧ dp.toNatClampNeg + m.toNatClampNeg ≤ n1) (kk : Ev tb k (pc + 3) L S (H.set a (.inl (0, n1, .inl (va_cpy f g sp.toNatClampNeg dp.toNatClampNeg m.toNatClampNeg)))) Q) : Ev tb k pc L (.int m :: .int dp :: .ref a :: .int sp :: .ref b :: S) H Q := ev_step hI rfl (by simp only [dxCal, hc, hl]) (fun _ => by simp only [dxStep, dxPop, dxLoc, dxJmp, dxKst, dxHp, dxNw, dxBi, hc, hl, if_pos hr.1, if_pos hr.2, dxCpy, h0, h1, if_pos hw]) kk
-- calls
theorem ev_callV {ci idx y na a c : Nat} {w : Nat × Nat × Nat × Nat} {vs rest : List Value} {fs : List Value} {Qc : Option Value → dxH → Prop} (hI : dxI k pc = some (.invokevirtual idx, 3)) (hc : dxCi k = ci) (hl : dxLk ci idx = some (0, y, w)) (hn : dxNp y + 1 = na) (hcy : dxCi y = c) (hc9 : c < 9) (hr : dxFr y + 1 ≤ dxFr k ∧ 8 + (dxMl y + 11) + dxLo y ≤ dxLo k) (ha : (dxArg (.ref a :: vs)).length ≤ dxMl y) (hS : S.take na = (Value.ref a :: vs).reverse ∧ S.drop na = rest ∧ na ≤ S.length) (hw : dxW8 rest = true) (ho : H[a]? = some (.inr (c, fs)))
    (hcl : Cl tb y (.ref a :: vs) H Qc) (kk : ∀ r H1, Qc r H1 → Ev tb k (pc + 3) L (r.toList ++ rest) H1 Q) : Ev tb k pc L S H Q := by
  obtain ⟨s1, s2, s3⟩ := hS
  refine ev_call (y := y) (na := na) (Qc := Qc) hI rfl (by simp only [dxCal, hc, hl, hn]) ⟨s3, ?_, ?_, ?_, hr⟩ ?_ ?_
  · rw [s1, List.reverse_reverse]; exact ha
  · rw [s1, List.reverse_reverse]
    simp only [dxRcv, ho, hcy]
    simp [hc9]
  · rw [s2]; exact hw
  · rw [s1, List.reverse_reverse]; exact hcl
  · rw [s2]; exact kk
theorem ev_callS {ci idx y na kd : Nat} {w : Nat × Nat × Nat × Nat} {vs rest : List Value} {Qc : Option Value → dxH → Prop} (hI : dxI k pc = some (.invokestatic idx, 3)) (hc : dxCi k = ci) (hl : dxLk ci idx = some (kd, y, w)) (hkd : kd = 1 ∨ kd = 2) (hn : dxNp y = na) (hr : dxFr y + 1 ≤ dxFr k ∧ 8 + (dxMl y + 11) + dxLo y ≤ dxLo k) (ha : (dxArg vs).length ≤ dxMl y) (hS : S.take na = vs.reverse ∧ S.drop na = rest ∧ na ≤ S.length) (hw : dxW8 rest = true)
    (hcl : Cl tb y vs H Qc) (kk : ∀ r H1, Qc r H1 → Ev tb k (pc + 3) L (r.toList ++ rest) H1 Q) : Ev tb k pc L S H Q := by
  obtain ⟨s1, s2, s3⟩ := hS
  refine ev_call (y := y) (na := na) (Qc := Qc) hI rfl ?_ ⟨s3, ?_, ?_, ?_, hr⟩ ?_ ?_
  · rcases hkd with rfl | rfl <;> simp only [dxCal, hc, hl, hn]
  · rw [s1, List.reverse_reverse]; exact ha
  · rfl
  · rw [s2]; exact hw
  · rw [s1, List.reverse_reverse]; exact hcl
  · rw [s2]; exact kk
-- returns
theorem ev_iret {x : Int32} (hI : dxI k pc = some (.ireturn, 1)) (hr : dxRt k = some .int) (hq : Q (some (.int x)) H) : Ev tb k pc L [.int x] H Q := ev_ret hI (by simp only [dxRet]; rw [if_pos (Or.inl hr)]) hq
theorem ev_zret {x : Int32} (hI : dxI k pc = some (.ireturn, 1)) (hr : dxRt k = some .boolean) (hx : x &&& 1 = x) (hq : Q (some (.int x)) H) : Ev tb k pc L [.int x] H Q := ev_ret hI (by simp only [dxRet]; rw [if_pos (Or.inr ⟨hr, hx⟩)]) hq
theorem ev_lret {x : Int64} (hI : dxI k pc = some (.lreturn, 1)) (hr : dxRt k = some .long) (hq : Q (some (.long x)) H) : Ev tb k pc L [.long x] H Q := ev_ret hI (by simp only [dxRet]; rw [if_pos hr]) hq
theorem ev_aret {a : Nat} {n : String} (hI : dxI k pc = some (.areturn, 1)) (hr : dxRt k = some (.object n)) (hq : Q (some (.ref a)) H) : Ev tb k pc L [.ref a] H Q := ev_ret hI (by simp only [dxRet, hr]) hq
theorem ev_vret (hI : dxI k pc = some (.return_, 1)) (hr : dxRt k = none) (hq : Q none H) : Ev tb k pc L [] H Q := ev_ret hI (by simp only [dxRet]; rw [if_pos hr]) hq
end EV
end
section
theorem ci0 : dxCi 0 = 0 := by decide +kernel
theorem ci1 : dxCi 1 = 0 := by decide +kernel
theorem ci2 : dxCi 2 = 0 := by decide +kernel
theorem ci3 : dxCi 3 = 0 := by decide +kernel
theorem ci4 : dxCi 4 = 0 := by decide +kernel
theorem ci5 : dxCi 5 = 1 := by decide +kernel
theorem ci6 : dxCi 6 = 1 := by decide +kernel
theorem ci7 : dxCi 7 = 1 := by decide +kernel
theorem ci8 : dxCi 8 = 1 := by decide +kernel
theorem ci9 : dxCi 9 = 1 := by decide +kernel
theorem ci10 : dxCi 10 = 1 := by decide +kernel
theorem ci11 : dxCi 11 = 2 := by decide +kernel
theorem ci12 : dxCi 12 = 2 := by decide +kernel
theorem ci13 : dxCi 13 = 2 := by decide +kernel
theorem ci14 : dxCi 14 = 2 := by decide +kernel
theorem ci15 : dxCi 15 = 2 := by decide +kernel
theorem ci16 : dxCi 16 = 2 := by decide +kernel
theorem ci17 : dxCi 17 = 2 := by decide +kernel
theorem ci18 : dxCi 18 = 3 := by decide +kernel
theorem ci19 : dxCi 19 = 3 := by decide +kernel
theorem ci20 : dxCi 20 = 3 := by decide +kernel
theorem ci21 : dxCi 21 = 3 := by decide +kernel
theorem ci22 : dxCi 22 = 3 := by decide +kernel
theorem ci23 : dxCi 23 = 3 := by decide +kernel
theorem ci24 : dxCi 24 = 3 := by decide +kernel
theorem ci25 : dxCi 25 = 3 := by decide +kernel
theorem ci26 : dxCi 26 = 3 := by decide +kernel
theorem ci27 : dxCi 27 = 3 := by decide +kernel
theorem ci28 : dxCi 28 = 3 := by decide +kernel
theorem ci29 : dxCi 29 = 3 := by decide +kernel
theorem ci30 : dxCi 30 = 3 := by decide +kernel
theorem ci31 : dxCi 31 = 3 := by decide +kernel
theorem ci32 : dxCi 32 = 3 := by decide +kernel
theorem ci33 : dxCi 33 = 3 := by decide +kernel
theorem ci34 : dxCi 34 = 3 := by decide +kernel
theorem ci35 : dxCi 35 = 3 := by decide +kernel
theorem ci36 : dxCi 36 = 3 := by decide +kernel
theorem ci37 : dxCi 37 = 3 := by decide +kernel
theorem ci38 : dxCi 38 = 3 := by decide +kernel
theorem ci39 : dxCi 39 = 3 := by decide +kernel
theorem ci40 : dxCi 40 = 3 := by decide +kernel
theorem ci41 : dxCi 41 = 3 := by decide +kernel
theorem ci42 : dxCi 42 = 3 := by decide +kernel
theorem ci43 : dxCi 43 = 3 := by decide +kernel
theorem ci44 : dxCi 44 = 3 := by decide +kernel
theorem ci45 : dxCi 45 = 3 := by decide +kernel
theorem ci46 : dxCi 46 = 3 := by decide +kernel
theorem ci47 : dxCi 47 = 3 := by decide +kernel
theorem ci48 : dxCi 48 = 4 := by decide +kernel
theorem ci49 : dxCi 49 = 4 := by decide +kernel
theorem ci50 : dxCi 50 = 4 := by decide +kernel
theorem ci51 : dxCi 51 = 4 := by decide +kernel
theorem ci52 : dxCi 52 = 4 := by decide +kernel
theorem ci53 : dxCi 53 = 4 := by decide +kernel
theorem ci54 : dxCi 54 = 4 := by decide +kernel
theorem ci55 : dxCi 55 = 4 := by decide +kernel
theorem ci56 : dxCi 56 = 4 := by decide +kernel
theorem ci57 : dxCi 57 = 5 := by decide +kernel
theorem ci58 : dxCi 58 = 5 := by decide +kernel
theorem ci59 : dxCi 59 = 5 := by decide +kernel
theorem ci60 : dxCi 60 = 5 := by decide +kernel
theorem ci61 : dxCi 61 = 6 := by decide +kernel
theorem ci62 : dxCi 62 = 6 := by decide +kernel
theorem ci63 : dxCi 63 = 6 := by decide +kernel
theorem ci64 : dxCi 64 = 6 := by decide +kernel
theorem ci65 : dxCi 65 = 6 := by decide +kernel
theorem ci66 : dxCi 66 = 7 := by decide +kernel
theorem ci67 : dxCi 67 = 7 := by decide +kernel
theorem ci68 : dxCi 68 = 7 := by decide +kernel
theorem ci69 : dxCi 69 = 7 := by decide +kernel
theorem ci70 : dxCi 70 = 7 := by decide +kernel
theorem ci71 : dxCi 71 = 7 := by decide +kernel
theorem ci72 : dxCi 72 = 7 := by decide +kernel
theorem ci73 : dxCi 73 = 7 := by decide +kernel
theorem ci74 : dxCi 74 = 7 := by decide +kernel
theorem ci75 : dxCi 75 = 7 := by decide +kernel
theorem ci76 : dxCi 76 = 7 := by decide +kernel
theorem ci77 : dxCi 77 = 7 := by decide +kernel
theorem ci78 : dxCi 78 = 7 := by decide +kernel
theorem ci79 : dxCi 79 = 7 := by decide +kernel
theorem ci80 : dxCi 80 = 7 := by decide +kernel
theorem ci81 : dxCi 81 = 7 := by decide +kernel
theorem ci82 : dxCi 82 = 7 := by decide +kernel
theorem ci83 : dxCi 83 = 7 := by decide +kernel
theorem ci84 : dxCi 84 = 7 := by decide +kernel
theorem ci85 : dxCi 85 = 7 := by decide +kernel
theorem ci86 : dxCi 86 = 7 := by decide +kernel
theorem ci87 : dxCi 87 = 7 := by decide +kernel
theorem ci88 : dxCi 88 = 7 := by decide +kernel
theorem ci89 : dxCi 89 = 7 := by decide +kernel
theorem ci90 : dxCi 90 = 7 := by decide +kernel
theorem ci91 : dxCi 91 = 7 := by decide +kernel
theorem ci92 : dxCi 92 = 7 := by decide +kernel
theorem ci93 : dxCi 93 = 7 := by decide +kernel
theorem ci94 : dxCi 94 = 7 := by decide +kernel
theorem ci95 : dxCi 95 = 7 := by decide +kernel
theorem ci96 : dxCi 96 = 7 := by decide +kernel
theorem ci97 : dxCi 97 = 7 := by decide +kernel
theorem ci98 : dxCi 98 = 7 := by decide +kernel
theorem ci99 : dxCi 99 = 7 := by decide +kernel
theorem ci100 : dxCi 100 = 7 := by decide +kernel
theorem ci101 : dxCi 101 = 7 := by decide +kernel
theorem ci102 : dxCi 102 = 7 := by decide +kernel
theorem ci103 : dxCi 103 = 7 := by decide +kernel
theorem ci104 : dxCi 104 = 7 := by decide +kernel
theorem ci105 : dxCi 105 = 7 := by decide +kernel
theorem ci106 : dxCi 106 = 7 := by decide +kernel
theorem ci107 : dxCi 107 = 7 := by decide +kernel
theorem ci108 : dxCi 108 = 7 := by decide +kernel
theorem ci109 : dxCi 109 = 7 := by decide +kernel
theorem ci110 : dxCi 110 = 7 := by decide +kernel
theorem ci111 : dxCi 111 = 7 := by decide +kernel
theorem ci112 : dxCi 112 = 7 := by decide +kernel
theorem ci113 : dxCi 113 = 7 := by decide +kernel
theorem ci114 : dxCi 114 = 7 := by decide +kernel
theorem ci115 : dxCi 115 = 7 := by decide +kernel
theorem ci116 : dxCi 116 = 8 := by decide +kernel
theorem ci117 : dxCi 117 = 8 := by decide +kernel
theorem ci118 : dxCi 118 = 8 := by decide +kernel
theorem ci119 : dxCi 119 = 8 := by decide +kernel
theorem ci120 : dxCi 120 = 8 := by decide +kernel
theorem ci121 : dxCi 121 = 8 := by decide +kernel
theorem ci122 : dxCi 122 = 8 := by decide +kernel
theorem ci123 : dxCi 123 = 8 := by decide +kernel
theorem ci124 : dxCi 124 = 8 := by decide +kernel
theorem ci125 : dxCi 125 = 8 := by decide +kernel
theorem ci126 : dxCi 126 = 8 := by decide +kernel
theorem ci127 : dxCi 127 = 8 := by decide +kernel
theorem ci128 : dxCi 128 = 8 := by decide +kernel
theorem ci129 : dxCi 129 = 8 := by decide +kernel
theorem ci130 : dxCi 130 = 8 := by decide +kernel
theorem ci131 : dxCi 131 = 8 := by decide +kernel
theorem ci132 : dxCi 132 = 8 := by decide +kernel
theorem ci133 : dxCi 133 = 8 := by decide +kernel
theorem ci134 : dxCi 134 = 8 := by decide +kernel
theorem ci135 : dxCi 135 = 8 := by decide +kernel
theorem ci136 : dxCi 136 = 8 := by decide +kernel
theorem ci137 : dxCi 137 = 8 := by decide +kernel
theorem ci138 : dxCi 138 = 8 := by decide +kernel
theorem ci139 : dxCi 139 = 8 := by decide +kernel
theorem ci140 : dxCi 140 = 8 := by decide +kernel
theorem ci141 : dxCi 141 = 8 := by decide +kernel
theorem ci142 : dxCi 142 = 8 := by decide +kernel
theorem ci143 : dxCi 143 = 8 := by decide +kernel
theorem ci144 : dxCi 144 = 8 := by decide +kernel
theorem ci145 : dxCi 145 = 8 := by decide +kernel
theorem ci146 : dxCi 146 = 8 := by decide +kernel
theorem ci147 : dxCi 147 = 8 := by decide +kernel
theorem ci148 : dxCi 148 = 8 := by decide +kernel
theorem ci149 : dxCi 149 = 8 := by decide +kernel
theorem ci150 : dxCi 150 = 8 := by decide +kernel
theorem ci151 : dxCi 151 = 8 := by decide +kernel
theorem ci152 : dxCi 152 = 8 := by decide +kernel
theorem ci153 : dxCi 153 = 8 := by decide +kernel
theorem ci154 : dxCi 154 = 8 := by decide +kernel
theorem ci155 : dxCi 155 = 8 := by decide +kernel
theorem ci156 : dxCi 156 = 8 := by decide +kernel
theorem ci157 : dxCi 157 = 8 := by decide +kernel
theorem ci158 : dxCi 158 = 8 := by decide +kernel
theorem ci159 : dxCi 159 = 8 := by decide +kernel
theorem ci160 : dxCi 160 = 8 := by decide +kernel
theorem ci161 : dxCi 161 = 8 := by decide +kernel
theorem ci162 : dxCi 162 = 8 := by decide +kernel
theorem ci163 : dxCi 163 = 8 := by decide +kernel
theorem ci164 : dxCi 164 = 8 := by decide +kernel
theorem ci165 : dxCi 165 = 8 := by decide +kernel
theorem ci166 : dxCi 166 = 8 := by decide +kernel
theorem ci167 : dxCi 167 = 8 := by decide +kernel
theorem ci168 : dxCi 168 = 8 := by decide +kernel
theorem ci169 : dxCi 169 = 8 := by decide +kernel
theorem ci170 : dxCi 170 = 8 := by decide +kernel
theorem ci171 : dxCi 171 = 8 := by decide +kernel
theorem ci172 : dxCi 172 = 10 := by decide +kernel
theorem ci173 : dxCi 173 = 9 := by decide +kernel
theorem lk0_3 : dxLk 0 3 = some (5, 0, 125, 0, 0, 0) := by decide +kernel
theorem lk0_11 : dxLk 0 11 = some (3, 57, 128, 129, 0, 43) := by decide +kernel
theorem lk0_27 : dxLk 0 27 = some (0, 59, 358, 359, 360, 43) := by decide +kernel
theorem lk0_31 : dxLk 0 31 = some (0, 60, 448, 449, 450, 43) := by decide +kernel
theorem lk1_3 : dxLk 1 3 = some (5, 0, 176, 0, 0, 0) := by decide +kernel
theorem lk1_19 : dxLk 1 19 = some (0, 8, 509, 510, 9, 46) := by decide +kernel
theorem lk1_23 : dxLk 1 23 = some (0, 24, 512, 513, 514, 41) := by decide +kernel
theorem lk1_29 : dxLk 1 29 = some (0, 7, 516, 517, 10, 46) := by decide +kernel
theorem lk1_33 : dxLk 1 33 = some (0, 30, 519, 404, 405, 41) := by decide +kernel
theorem lk2_3 : dxLk 2 3 = some (5, 0, 75, 0, 0, 0) := by decide +kernel
theorem lk3_3 : dxLk 3 3 = some (5, 0, 91, 0, 0, 0) := by decide +kernel
theorem lk3_42 : dxLk 3 42 = some (9, 0, 369, 0, 0, 0) := by decide +kernel
theorem lk3_48 : dxLk 3 48 = some (0, 14, 294, 295, 296, 40) := by decide +kernel
theorem lk3_54 : dxLk 3 54 = some (0, 13, 298, 299, 300, 40) := by decide +kernel
theorem lk3_58 : dxLk 3 58 = some (0, 15, 302, 303, 304, 40) := by decide +kernel
theorem lk3_62 : dxLk 3 62 = some (0, 23, 329, 330, 331, 41) := by decide +kernel
theorem lk3_65 : dxLk 3 65 = some (0, 16, 387, 334, 335, 40) := by decide +kernel
theorem lk3_69 : dxLk 3 69 = some (2, 96, 300, 288, 0, 38) := by decide +kernel
theorem lk3_72 : dxLk 3 72 = some (2, 100, 496, 477, 0, 38) := by decide +kernel
theorem lk3_75 : dxLk 3 75 = some (2, 101, 499, 471, 0, 38) := by decide +kernel
theorem lk3_78 : dxLk 3 78 = some (0, 27, 479, 408, 409, 41) := by decide +kernel
theorem lk3_81 : dxLk 3 81 = some (0, 33, 423, 416, 417, 41) := by decide +kernel
theorem lk3_84 : dxLk 3 84 = some (2, 97, 404, 388, 0, 38) := by decide +kernel
theorem lk3_87 : dxLk 3 87 = some (0, 17, 349, 342, 343, 40) := by decide +kernel
theorem lk3_90 : dxLk 3 90 = some (0, 40, 380, 346, 347, 41) := by decide +kernel
theorem lk3_93 : dxLk 3 93 = some (0, 41, 381, 382, 4, 41) := by decide +kernel
theorem lk3_96 : dxLk 3 96 = some (0, 42, 376, 377, 378, 41) := by decide +kernel
theorem lk3_100 : dxLk 3 100 = some (0, 46, 384, 385, 5, 41) := by decide +kernel
theorem lk3_103 : dxLk 3 103 = some (0, 47, 390, 391, 6, 41) := by decide +kernel
theorem lk3_106 : dxLk 3 106 = some (0, 43, 484, 373, 374, 41) := by decide +kernel
theorem lk3_109 : dxLk 3 109 = some (0, 25, 393, 326, 327, 41) := by decide +kernel
theorem lk3_112 : dxLk 3 112 = some (0, 31, 394, 317, 318, 41) := by decide +kernel
theorem lk3_115 : dxLk 3 115 = some (0, 32, 395, 285, 286, 41) := by decide +kernel
theorem lk3_118 : dxLk 3 118 = some (7, 0, 396, 0, 0, 0) := by decide +kernel
theorem lk4_3 : dxLk 4 3 = some (5, 0, 62, 0, 0, 0) := by decide +kernel
theorem lk4_19 : dxLk 4 19 = some (0, 52, 249, 250, 0, 39) := by decide +kernel
theorem lk4_23 : dxLk 4 23 = some (1, 172, 252, 253, 0, 48) := by decide +kernel
theorem lk4_34 : dxLk 4 34 = some (0, 55, 260, 261, 1, 39) := by decide +kernel
theorem lk4_44 : dxLk 4 44 = some (0, 53, 263, 264, 2, 39) := by decide +kernel
theorem lk4_47 : dxLk 4 47 = some (0, 32, 284, 285, 286, 41) := by decide +kernel
theorem lk4_53 : dxLk 4 53 = some (0, 21, 290, 291, 292, 41) := by decide +kernel
theorem lk5_1 : dxLk 5 1 = some (5, 0, 131, 0, 0, 0) := by decide +kernel
theorem lk5_7 : dxLk 5 7 = some (8, 0, 132, 0, 0, 0) := by decide +kernel
theorem lk5_21 : dxLk 5 21 = some (3, 18, 136, 89, 0, 41) := by decide +kernel
theorem lk5_24 : dxLk 5 24 = some (0, 58, 362, 363, 3, 43) := by decide +kernel
theorem lk5_28 : dxLk 5 28 = some (0, 20, 365, 366, 367, 41) := by decide +kernel
theorem lk6_3 : dxLk 6 3 = some (5, 0, 157, 0, 0, 0) := by decide +kernel
theorem lk6_26 : dxLk 6 26 = some (0, 23, 610, 330, 331, 41) := by decide +kernel
theorem lk6_32 : dxLk 6 32 = some (0, 40, 611, 346, 347, 41) := by decide +kernel
theorem lk7_1 : dxLk 7 1 = some (5, 0, 55, 0, 0, 0) := by decide +kernel
theorem lk7_9 : dxLk 7 9 = some (4, 48, 60, 60, 0, 39) := by decide +kernel
theorem lk7_18 : dxLk 7 18 = some (4, 11, 74, 73, 0, 40) := by decide +kernel
theorem lk7_25 : dxLk 7 25 = some (3, 18, 88, 89, 0, 41) := by decide +kernel
theorem lk7_37 : dxLk 7 37 = some (3, 0, 122, 123, 0, 42) := by decide +kernel
theorem lk7_44 : dxLk 7 44 = some (3, 57, 152, 129, 0, 43) := by decide +kernel
theorem lk7_57 : dxLk 7 57 = some (4, 61, 158, 155, 0, 45) := by decide +kernel
theorem lk7_64 : dxLk 7 64 = some (4, 5, 178, 174, 0, 46) := by decide +kernel
theorem lk7_76 : dxLk 7 76 = some (0, 51, 225, 226, 227, 39) := by decide +kernel
theorem lk7_80 : dxLk 7 80 = some (0, 49, 229, 230, 231, 39) := by decide +kernel
theorem lk7_84 : dxLk 7 84 = some (0, 50, 237, 238, 239, 39) := by decide +kernel
theorem lk7_87 : dxLk 7 87 = some (0, 54, 245, 246, 247, 39) := by decide +kernel
theorem lk7_90 : dxLk 7 90 = some (0, 12, 272, 273, 274, 40) := by decide +kernel
theorem lk7_91 : dxLk 7 91 = some (0, 19, 276, 277, 278, 41) := by decide +kernel
theorem lk7_92 : dxLk 7 92 = some (0, 56, 280, 281, 282, 39) := by decide +kernel
theorem lk7_96 : dxLk 7 96 = some (0, 1, 306, 307, 308, 42) := by decide +kernel
theorem lk7_97 : dxLk 7 97 = some (0, 14, 310, 295, 296, 40) := by decide +kernel
theorem lk7_98 : dxLk 7 98 = some (1, 96, 315, 288, 0, 38) := by decide +kernel
theorem lk7_101 : dxLk 7 101 = some (0, 31, 316, 317, 318, 41) := by decide +kernel
theorem lk7_105 : dxLk 7 105 = some (0, 15, 324, 303, 304, 40) := by decide +kernel
theorem lk7_108 : dxLk 7 108 = some (0, 25, 325, 326, 327, 41) := by decide +kernel
theorem lk7_111 : dxLk 7 111 = some (0, 16, 333, 334, 335, 40) := by decide +kernel
theorem lk7_114 : dxLk 7 114 = some (0, 26, 337, 338, 339, 41) := by decide +kernel
theorem lk7_117 : dxLk 7 117 = some (0, 17, 341, 342, 343, 40) := by decide +kernel
theorem lk7_120 : dxLk 7 120 = some (0, 40, 345, 346, 347, 41) := by decide +kernel
theorem lk7_123 : dxLk 7 123 = some (0, 3, 354, 355, 356, 42) := by decide +kernel
theorem lk7_126 : dxLk 7 126 = some (0, 43, 372, 373, 374, 41) := by decide +kernel
theorem lk7_130 : dxLk 7 130 = some (0, 30, 403, 404, 405, 41) := by decide +kernel
theorem lk7_133 : dxLk 7 133 = some (0, 27, 407, 408, 409, 41) := by decide +kernel
theorem lk7_137 : dxLk 7 137 = some (0, 33, 415, 416, 417, 41) := by decide +kernel
theorem lk7_140 : dxLk 7 140 = some (0, 34, 419, 420, 421, 41) := by decide +kernel
theorem lk7_144 : dxLk 7 144 = some (0, 35, 428, 429, 430, 41) := by decide +kernel
theorem lk7_148 : dxLk 7 148 = some (0, 36, 432, 433, 434, 41) := by decide +kernel
theorem lk7_152 : dxLk 7 152 = some (0, 2, 440, 441, 442, 42) := by decide +kernel
theorem lk7_153 : dxLk 7 153 = some (0, 4, 444, 445, 446, 42) := by decide +kernel
theorem lk7_156 : dxLk 7 156 = some (1, 99, 456, 457, 0, 38) := by decide +kernel
theorem lk7_159 : dxLk 7 159 = some (0, 20, 459, 366, 367, 41) := by decide +kernel
theorem lk7_162 : dxLk 7 162 = some (0, 103, 464, 465, 7, 38) := by decide +kernel
theorem lk7_166 : dxLk 7 166 = some (1, 97, 489, 388, 0, 38) := by decide +kernel
theorem lk7_169 : dxLk 7 169 = some (0, 45, 490, 491, 492, 41) := by decide +kernel
theorem lk7_172 : dxLk 7 172 = some (0, 37, 494, 495, 496, 41) := by decide +kernel
theorem lk7_175 : dxLk 7 175 = some (0, 108, 502, 503, 8, 38) := by decide +kernel
theorem lk7_179 : dxLk 7 179 = some (0, 9, 520, 521, 522, 46) := by decide +kernel
theorem lk7_180 : dxLk 7 180 = some (0, 10, 524, 525, 526, 46) := by decide +kernel
theorem lk7_183 : dxLk 7 183 = some (1, 100, 528, 477, 0, 38) := by decide +kernel
theorem lk7_186 : dxLk 7 186 = some (1, 101, 470, 471, 0, 38) := by decide +kernel
theorem lk7_189 : dxLk 7 189 = some (0, 105, 533, 534, 11, 38) := by decide +kernel
theorem lk7_193 : dxLk 7 193 = some (1, 113, 536, 537, 0, 38) := by decide +kernel
theorem lk7_196 : dxLk 7 196 = some (1, 172, 550, 253, 0, 48) := by decide +kernel
theorem lk7_201 : dxLk 7 201 = some (1, 115, 551, 552, 0, 38) := by decide +kernel
theorem lk7_204 : dxLk 7 204 = some (0, 104, 554, 555, 12, 38) := by decide +kernel
theorem lk7_208 : dxLk 7 208 = some (1, 111, 561, 562, 0, 38) := by decide +kernel
theorem lk7_212 : dxLk 7 212 = some (0, 42, 574, 377, 378, 41) := by decide +kernel
theorem lk7_215 : dxLk 7 215 = some (0, 64, 579, 580, 581, 45) := by decide +kernel
theorem lk7_218 : dxLk 7 218 = some (0, 63, 583, 584, 585, 45) := by decide +kernel
theorem lk7_219 : dxLk 7 219 = some (0, 62, 591, 592, 593, 45) := by decide +kernel
theorem lk7_220 : dxLk 7 220 = some (0, 28, 599, 600, 601, 41) := by decide +kernel
theorem lk7_223 : dxLk 7 223 = some (0, 107, 603, 604, 13, 38) := by decide +kernel
theorem lk7_226 : dxLk 7 226 = some (0, 110, 616, 617, 14, 38) := by decide +kernel
theorem lk7_230 : dxLk 7 230 = some (0, 106, 626, 627, 16, 38) := by decide +kernel
theorem lk7_234 : dxLk 7 234 = some (1, 114, 539, 540, 0, 38) := by decide +kernel
theorem lk7_247 : dxLk 7 247 = some (1, 98, 644, 645, 0, 38) := by decide +kernel
theorem lk7_250 : dxLk 7 250 = some (0, 59, 647, 359, 360, 43) := by decide +kernel
theorem lk7_254 : dxLk 7 254 = some (0, 38, 648, 649, 650, 41) := by decide +kernel
theorem lk7_257 : dxLk 7 257 = some (0, 60, 656, 449, 450, 43) := by decide +kernel
theorem lk7_260 : dxLk 7 260 = some (0, 39, 661, 662, 663, 41) := by decide +kernel
theorem lk7_263 : dxLk 7 263 = some (1, 102, 467, 468, 0, 38) := by decide +kernel
theorem lk7_266 : dxLk 7 266 = some (0, 29, 473, 474, 475, 41) := by decide +kernel
theorem lk7_269 : dxLk 7 269 = some (0, 44, 480, 481, 482, 41) := by decide +kernel
theorem lk7_272 : dxLk 7 272 = some (0, 22, 557, 558, 559, 41) := by decide +kernel
theorem lk7_275 : dxLk 7 275 = some (0, 65, 606, 607, 608, 45) := by decide +kernel
theorem lk7_279 : dxLk 7 279 = some (0, 6, 505, 506, 507, 46) := by decide +kernel
theorem lk7_283 : dxLk 7 283 = some (0, 109, 619, 620, 15, 38) := by decide +kernel
theorem lk7_286 : dxLk 7 286 = some (6, 0, 564, 0, 0, 0) := by decide +kernel
theorem lk7_291 : dxLk 7 291 = some (1, 112, 567, 568, 0, 38) := by decide +kernel
theorem lk8_1 : dxLk 8 1 = some (5, 0, 670, 0, 0, 0) := by decide +kernel
theorem lk8_62 : dxLk 8 62 = some (1, 117, 755, 756, 0, 47) := by decide +kernel
theorem lk8_77 : dxLk 8 77 = some (1, 118, 773, 774, 0, 47) := by decide +kernel
theorem lk8_90 : dxLk 8 90 = some (0, 123, 769, 770, 18, 47) := by decide +kernel
theorem lk8_94 : dxLk 8 94 = some (0, 122, 776, 777, 19, 47) := by decide +kernel
theorem lk8_98 : dxLk 8 98 = some (0, 125, 779, 780, 20, 47) := by decide +kernel
theorem lk8_101 : dxLk 8 101 = some (0, 124, 766, 767, 17, 47) := by decide +kernel
theorem lk8_108 : dxLk 8 108 = some (0, 128, 794, 795, 21, 47) := by decide +kernel
theorem lk8_112 : dxLk 8 112 = some (0, 130, 797, 798, 22, 47) := by decide +kernel
theorem lk8_115 : dxLk 8 115 = some (0, 132, 813, 814, 26, 47) := by decide +kernel
theorem lk8_118 : dxLk 8 118 = some (0, 133, 810, 811, 25, 47) := by decide +kernel
theorem lk8_122 : dxLk 8 122 = some (0, 134, 816, 817, 27, 47) := by decide +kernel
theorem lk8_129 : dxLk 8 129 = some (0, 136, 804, 805, 23, 47) := by decide +kernel
theorem lk8_132 : dxLk 8 132 = some (0, 135, 807, 808, 24, 47) := by decide +kernel
theorem lk8_135 : dxLk 8 135 = some (0, 138, 823, 824, 28, 47) := by decide +kernel
theorem lk8_140 : dxLk 8 140 = some (0, 143, 843, 844, 29, 47) := by decide +kernel
theorem lk8_143 : dxLk 8 143 = some (0, 145, 850, 851, 30, 47) := by decide +kernel
theorem lk8_149 : dxLk 8 149 = some (0, 148, 862, 863, 31, 47) := by decide +kernel
theorem lk8_152 : dxLk 8 152 = some (0, 149, 865, 866, 32, 47) := by decide +kernel
theorem lk8_156 : dxLk 8 156 = some (0, 151, 872, 873, 33, 47) := by decide +kernel
theorem lk8_160 : dxLk 8 160 = some (1, 153, 879, 880, 0, 47) := by decide +kernel
theorem lk8_163 : dxLk 8 163 = some (1, 119, 886, 887, 0, 47) := by decide +kernel
theorem lk8_166 : dxLk 8 166 = some (1, 155, 889, 890, 0, 47) := by decide +kernel
theorem lk8_169 : dxLk 8 169 = some (1, 156, 892, 893, 0, 47) := by decide +kernel
theorem lk8_177 : dxLk 8 177 = some (0, 161, 912, 913, 34, 47) := by decide +kernel
theorem lk8_180 : dxLk 8 180 = some (0, 163, 919, 920, 35, 47) := by decide +kernel
theorem lk8_183 : dxLk 8 183 = some (0, 164, 922, 923, 36, 47) := by decide +kernel
theorem lk9_9 : dxLk 9 9 = some (3, 66, 52, 53, 0, 38) := by decide +kernel
theorem lk9_12 : dxLk 9 12 = some (3, 116, 667, 668, 0, 47) := by decide +kernel
theorem lk9_13 : dxLk 9 13 = some (0, 67, 221, 222, 223, 38) := by decide +kernel
theorem lk9_17 : dxLk 9 17 = some (0, 120, 750, 751, 752, 47) := by decide +kernel
theorem lk9_18 : dxLk 9 18 = some (0, 68, 233, 234, 235, 38) := by decide +kernel
theorem lk9_22 : dxLk 9 22 = some (0, 121, 758, 759, 760, 47) := by decide +kernel
theorem lk9_23 : dxLk 9 23 = some (0, 69, 241, 242, 243, 38) := by decide +kernel
theorem lk9_26 : dxLk 9 26 = some (0, 126, 762, 763, 764, 47) := by decide +kernel
theorem lk9_27 : dxLk 9 27 = some (0, 70, 268, 269, 270, 38) := by decide +kernel
theorem lk9_30 : dxLk 9 30 = some (0, 127, 782, 783, 784, 47) := by decide +kernel
theorem lk9_31 : dxLk 9 31 = some (0, 71, 311, 312, 313, 38) := by decide +kernel
theorem lk9_34 : dxLk 9 34 = some (0, 129, 786, 787, 788, 47) := by decide +kernel
theorem lk9_35 : dxLk 9 35 = some (0, 72, 320, 321, 322, 38) := by decide +kernel
theorem lk9_39 : dxLk 9 39 = some (0, 131, 790, 791, 792, 47) := by decide +kernel
theorem lk9_40 : dxLk 9 40 = some (0, 73, 350, 351, 352, 38) := by decide +kernel
theorem lk9_44 : dxLk 9 44 = some (0, 137, 800, 801, 802, 47) := by decide +kernel
theorem lk9_45 : dxLk 9 45 = some (0, 74, 399, 400, 401, 38) := by decide +kernel
theorem lk9_48 : dxLk 9 48 = some (0, 139, 819, 820, 821, 47) := by decide +kernel
theorem lk9_49 : dxLk 9 49 = some (0, 75, 411, 412, 413, 38) := by decide +kernel
theorem lk9_52 : dxLk 9 52 = some (0, 140, 826, 827, 828, 47) := by decide +kernel
theorem lk9_53 : dxLk 9 53 = some (0, 76, 424, 425, 426, 38) := by decide +kernel
theorem lk9_56 : dxLk 9 56 = some (0, 141, 830, 831, 832, 47) := by decide +kernel
theorem lk9_57 : dxLk 9 57 = some (0, 77, 436, 437, 438, 38) := by decide +kernel
theorem lk9_60 : dxLk 9 60 = some (0, 142, 834, 835, 836, 47) := by decide +kernel
theorem lk9_61 : dxLk 9 61 = some (0, 78, 452, 453, 454, 38) := by decide +kernel
theorem lk9_64 : dxLk 9 64 = some (0, 144, 838, 839, 840, 47) := by decide +kernel
theorem lk9_65 : dxLk 9 65 = some (0, 79, 460, 461, 462, 38) := by decide +kernel
theorem lk9_68 : dxLk 9 68 = some (0, 146, 846, 847, 848, 47) := by decide +kernel
theorem lk9_69 : dxLk 9 69 = some (0, 80, 485, 486, 487, 38) := by decide +kernel
theorem lk9_72 : dxLk 9 72 = some (0, 147, 853, 854, 855, 47) := by decide +kernel
theorem lk9_73 : dxLk 9 73 = some (0, 81, 498, 499, 500, 38) := by decide +kernel
theorem lk9_77 : dxLk 9 77 = some (0, 150, 857, 858, 859, 47) := by decide +kernel
theorem lk9_78 : dxLk 9 78 = some (0, 82, 529, 530, 531, 38) := by decide +kernel
theorem lk9_82 : dxLk 9 82 = some (0, 152, 868, 869, 870, 47) := by decide +kernel
theorem lk9_83 : dxLk 9 83 = some (0, 83, 542, 543, 544, 38) := by decide +kernel
theorem lk9_86 : dxLk 9 86 = some (0, 154, 875, 876, 877, 47) := by decide +kernel
theorem lk9_87 : dxLk 9 87 = some (0, 84, 546, 547, 548, 38) := by decide +kernel
theorem lk9_91 : dxLk 9 91 = some (0, 157, 882, 883, 884, 47) := by decide +kernel
theorem lk9_92 : dxLk 9 92 = some (0, 85, 570, 571, 572, 38) := by decide +kernel
theorem lk9_95 : dxLk 9 95 = some (0, 158, 895, 896, 897, 47) := by decide +kernel
theorem lk9_96 : dxLk 9 96 = some (0, 86, 575, 576, 577, 38) := by decide +kernel
theorem lk9_99 : dxLk 9 99 = some (0, 159, 899, 900, 901, 47) := by decide +kernel
theorem lk9_100 : dxLk 9 100 = some (0, 87, 587, 588, 589, 38) := by decide +kernel
theorem lk9_103 : dxLk 9 103 = some (0, 160, 904, 905, 906, 47) := by decide +kernel
theorem lk9_104 : dxLk 9 104 = some (0, 88, 595, 596, 597, 38) := by decide +kernel
theorem lk9_107 : dxLk 9 107 = some (0, 162, 908, 909, 910, 47) := by decide +kernel
theorem lk9_108 : dxLk 9 108 = some (0, 89, 612, 613, 614, 38) := by decide +kernel
theorem lk9_111 : dxLk 9 111 = some (0, 165, 915, 916, 917, 47) := by decide +kernel
theorem lk9_112 : dxLk 9 112 = some (0, 90, 622, 623, 624, 38) := by decide +kernel
theorem lk9_115 : dxLk 9 115 = some (0, 166, 925, 926, 927, 47) := by decide +kernel
theorem lk9_118 : dxLk 9 118 = some (0, 91, 629, 630, 631, 38) := by decide +kernel
theorem lk9_122 : dxLk 9 122 = some (0, 167, 931, 932, 933, 47) := by decide +kernel
theorem lk9_123 : dxLk 9 123 = some (0, 92, 633, 634, 635, 38) := by decide +kernel
theorem lk9_126 : dxLk 9 126 = some (0, 168, 935, 936, 937, 47) := by decide +kernel
theorem lk9_127 : dxLk 9 127 = some (0, 93, 640, 641, 642, 38) := by decide +kernel
theorem lk9_130 : dxLk 9 130 = some (0, 169, 943, 944, 945, 47) := by decide +kernel
theorem lk9_131 : dxLk 9 131 = some (0, 94, 652, 653, 654, 38) := by decide +kernel
theorem lk9_134 : dxLk 9 134 = some (0, 170, 947, 948, 949, 47) := by decide +kernel
theorem lk9_135 : dxLk 9 135 = some (0, 95, 657, 658, 659, 38) := by decide +kernel
theorem lk9_138 : dxLk 9 138 = some (0, 171, 951, 952, 953, 47) := by decide +kernel
theorem fl0_14 : dxF 0 14 = some (0, 0, 141) := by decide +kernel
theorem fl0_20 : dxF 0 20 = some (0, 2, 143) := by decide +kernel
theorem fl0_24 : dxF 0 24 = some (0, 1, 142) := by decide +kernel
theorem fl1_9 : dxF 1 9 = some (1, 0, 177) := by decide +kernel
theorem fl1_15 : dxF 1 15 = some (1, 1, 178) := by decide +kernel
theorem fl2_9 : dxF 2 9 = some (2, 0, 76) := by decide +kernel
theorem fl2_15 : dxF 2 15 = some (2, 1, 77) := by decide +kernel
theorem fl2_18 : dxF 2 18 = some (2, 2, 78) := by decide +kernel
theorem fl3_9 : dxF 3 9 = some (3, 1, 93) := by decide +kernel
theorem fl3_15 : dxF 3 15 = some (3, 2, 94) := by decide +kernel
theorem fl3_18 : dxF 3 18 = some (3, 3, 95) := by decide +kernel
theorem fl3_21 : dxF 3 21 = some (3, 4, 96) := by decide +kernel
theorem fl3_24 : dxF 3 24 = some (3, 0, 92) := by decide +kernel
theorem fl3_28 : dxF 3 28 = some (3, 5, 97) := by decide +kernel
theorem fl3_32 : dxF 3 32 = some (3, 6, 98) := by decide +kernel
theorem fl3_36 : dxF 3 36 = some (3, 7, 99) := by decide +kernel
theorem fl3_39 : dxF 3 39 = some (3, 8, 100) := by decide +kernel
theorem fl4_9 : dxF 4 9 = some (4, 0, 63) := by decide +kernel
theorem fl4_15 : dxF 4 15 = some (4, 1, 64) := by decide +kernel
theorem fl5_15 : dxF 5 15 = some (5, 0, 137) := by decide +kernel
theorem fl6_9 : dxF 6 9 = some (6, 0, 158) := by decide +kernel
theorem fl6_15 : dxF 6 15 = some (6, 1, 159) := by decide +kernel
theorem fl6_18 : dxF 6 18 = some (6, 2, 160) := by decide +kernel
theorem fl6_22 : dxF 6 22 = some (6, 3, 161) := by decide +kernel
theorem fl7_10 : dxF 7 10 = some (7, 0, 184) := by decide +kernel
theorem fl7_19 : dxF 7 19 = some (7, 1, 185) := by decide +kernel
theorem fl7_28 : dxF 7 28 = some (7, 2, 186) := by decide +kernel
theorem fl7_32 : dxF 7 32 = some (7, 3, 187) := by decide +kernel
theorem fl7_38 : dxF 7 38 = some (7, 4, 188) := by decide +kernel
theorem fl7_47 : dxF 7 47 = some (7, 5, 189) := by decide +kernel
theorem fl7_51 : dxF 7 51 = some (7, 6, 190) := by decide +kernel
theorem fl7_58 : dxF 7 58 = some (7, 7, 191) := by decide +kernel
theorem fl7_65 : dxF 7 65 = some (7, 8, 192) := by decide +kernel
theorem fl7_69 : dxF 7 69 = some (7, 9, 193) := by decide +kernel
theorem fl7_72 : dxF 7 72 = some (7, 10, 194) := by decide +kernel
theorem fl7_237 : dxF 7 237 = some (7, 11, 195) := by decide +kernel
theorem fl8_7 : dxF 8 7 = some (8, 1, 672) := by decide +kernel
theorem fl8_13 : dxF 8 13 = some (8, 2, 673) := by decide +kernel
theorem fl8_16 : dxF 8 16 = some (8, 3, 674) := by decide +kernel
theorem fl8_19 : dxF 8 19 = some (8, 4, 675) := by decide +kernel
theorem fl8_22 : dxF 8 22 = some (8, 5, 676) := by decide +kernel
theorem fl8_25 : dxF 8 25 = some (8, 6, 677) := by decide +kernel
theorem fl8_28 : dxF 8 28 = some (8, 10, 681) := by decide +kernel
theorem fl8_31 : dxF 8 31 = some (8, 16, 687) := by decide +kernel
theorem fl8_34 : dxF 8 34 = some (8, 17, 688) := by decide +kernel
theorem fl8_37 : dxF 8 37 = some (8, 19, 690) := by decide +kernel
theorem fl8_40 : dxF 8 40 = some (8, 20, 691) := by decide +kernel
theorem fl8_43 : dxF 8 43 = some (8, 21, 692) := by decide +kernel
theorem fl8_47 : dxF 8 47 = some (8, 22, 693) := by decide +kernel
theorem fl8_50 : dxF 8 50 = some (8, 24, 695) := by decide +kernel
theorem fl8_53 : dxF 8 53 = some (8, 25, 696) := by decide +kernel
theorem fl8_56 : dxF 8 56 = some (8, 0, 671) := by decide +kernel
theorem fl8_66 : dxF 8 66 = some (8, 11, 682) := by decide +kernel
theorem fl8_69 : dxF 8 69 = some (8, 13, 684) := by decide +kernel
theorem fl8_72 : dxF 8 72 = some (8, 12, 683) := by decide +kernel
theorem fl8_81 : dxF 8 81 = some (8, 7, 678) := by decide +kernel
theorem fl8_84 : dxF 8 84 = some (8, 8, 679) := by decide +kernel
theorem fl8_87 : dxF 8 87 = some (8, 9, 680) := by decide +kernel
theorem fl8_105 : dxF 8 105 = some (8, 14, 685) := by decide +kernel
theorem fl8_126 : dxF 8 126 = some (8, 15, 686) := by decide +kernel
theorem fl8_174 : dxF 8 174 = some (8, 18, 689) := by decide +kernel
theorem fl8_190 : dxF 8 190 = some (8, 23, 694) := by decide +kernel
theorem st4_28 : dxS 4 28 = some (0, 258) := by decide +kernel
theorem st4_31 : dxS 4 31 = some (1, 259) := by decide +kernel
theorem st4_38 : dxS 4 38 = some (2, 266) := by decide +kernel
theorem st4_41 : dxS 4 41 = some (3, 267) := by decide +kernel
theorem ks10_265 : dxK 10 265 = some (.inl 1431655765, 255) := by decide +kernel
theorem ks10_266 : dxK 10 266 = some (.inl 858993459, 256) := by decide +kernel
theorem ks10_267 : dxK 10 267 = some (.inl 252645135, 257) := by decide +kernel
theorem ks7_241 : dxK 7 241 = some (.inr 6364136223846793005, 637) := by decide +kernel
theorem ks7_243 : dxK 7 243 = some (.inr 1442695040888963407, 638) := by decide +kernel
theorem ks7_245 : dxK 7 245 = some (.inr 20, 639) := by decide +kernel
theorem ks8_60 : dxK 8 60 = some (.inr 255, 754) := by decide +kernel
theorem ks8_75 : dxK 8 75 = some (.inr 9, 772) := by decide +kernel
theorem ks8_138 : dxK 8 138 = some (.inr 8, 842) := by decide +kernel
theorem ks8_147 : dxK 8 147 = some (.inr 2, 861) := by decide +kernel
theorem ks8_172 : dxK 8 172 = some (.inr 7, 903) := by decide +kernel
theorem ks8_186 : dxK 8 186 = some (.inr 6, 929) := by decide +kernel
theorem ks8_188 : dxK 8 188 = some (.inr 10, 930) := by decide +kernel
theorem ks8_194 : dxK 8 194 = some (.inr 30, 939) := by decide +kernel
theorem ks8_196 : dxK 8 196 = some (.inr 6364136223846793005, 940) := by decide +kernel
theorem ks8_198 : dxK 8 198 = some (.inr 1442695040888963407, 941) := by decide +kernel
theorem ks8_200 : dxK 8 200 = some (.inr 20, 942) := by decide +kernel
theorem ks9_116 : dxK 9 116 = some (.inr 4294967295, 955) := by decide +kernel
theorem i0_0 : dxI 0 0 = some (.aload_n 0, 1) := by decide +kernel
theorem i0_1 : dxI 0 1 = some (.invokespecial 3, 3) := by decide +kernel
theorem i0_4 : dxI 0 4 = some (.aload_n 0, 1) := by decide +kernel
theorem i0_5 : dxI 0 5 = some (.new 9, 3) := by decide +kernel
theorem i0_8 : dxI 0 8 = some (.dup, 1) := by decide +kernel
theorem i0_9 : dxI 0 9 = some (.bipush 14, 2) := by decide +kernel
theorem i0_11 : dxI 0 11 = some (.aload_n 1, 1) := by decide +kernel
theorem i0_12 : dxI 0 12 = some (.invokespecial 11, 3) := by decide +kernel
theorem i0_15 : dxI 0 15 = some (.putfield 14, 3) := by decide +kernel
theorem i0_18 : dxI 0 18 = some (.return_, 1) := by decide +kernel
theorem i1_0 : dxI 1 0 = some (.aload_n 0, 1) := by decide +kernel
theorem i1_1 : dxI 1 1 = some (.iconst 0, 1) := by decide +kernel
theorem i1_2 : dxI 1 2 = some (.putfield 20, 3) := by decide +kernel
theorem i1_5 : dxI 1 5 = some (.return_, 1) := by decide +kernel
theorem i2_0 : dxI 2 0 = some (.aload_n 0, 1) := by decide +kernel
theorem i2_1 : dxI 2 1 = some (.getfield 20, 3) := by decide +kernel
theorem i2_4 : dxI 2 4 = some (.ireturn, 1) := by decide +kernel
theorem i3_0 : dxI 3 0 = some (.aload_n 0, 1) := by decide +kernel
theorem i3_1 : dxI 3 1 = some (.getfield 14, 3) := by decide +kernel
theorem i3_4 : dxI 3 4 = some (.aload_n 0, 1) := by decide +kernel
theorem i3_5 : dxI 3 5 = some (.getfield 24, 3) := by decide +kernel
theorem i3_8 : dxI 3 8 = some (.aload_n 0, 1) := by decide +kernel
theorem i3_9 : dxI 3 9 = some (.getfield 20, 3) := by decide +kernel
theorem i3_12 : dxI 3 12 = some (.iadd, 1) := by decide +kernel
theorem i3_13 : dxI 3 13 = some (.bipush 14, 2) := by decide +kernel
theorem i3_15 : dxI 3 15 = some (.irem, 1) := by decide +kernel
theorem i3_16 : dxI 3 16 = some (.aload_n 1, 1) := by decide +kernel
theorem i3_17 : dxI 3 17 = some (.invokevirtual 27, 3) := by decide +kernel
theorem i3_20 : dxI 3 20 = some (.aload_n 0, 1) := by decide +kernel
theorem i3_21 : dxI 3 21 = some (.getfield 20, 3) := by decide +kernel
theorem i3_24 : dxI 3 24 = some (.bipush 14, 2) := by decide +kernel
theorem i3_26 : dxI 3 26 = some (.if_icmp .ge 16, 3) := by decide +kernel
theorem i3_29 : dxI 3 29 = some (.aload_n 0, 1) := by decide +kernel
theorem i3_30 : dxI 3 30 = some (.dup, 1) := by decide +kernel
theorem i3_31 : dxI 3 31 = some (.getfield 20, 3) := by decide +kernel
theorem i3_34 : dxI 3 34 = some (.iconst 1, 1) := by decide +kernel
theorem i3_35 : dxI 3 35 = some (.iadd, 1) := by decide +kernel
theorem i3_36 : dxI 3 36 = some (.putfield 20, 3) := by decide +kernel
theorem i3_39 : dxI 3 39 = some (.goto 16, 3) := by decide +kernel
theorem i3_42 : dxI 3 42 = some (.aload_n 0, 1) := by decide +kernel
theorem i3_43 : dxI 3 43 = some (.aload_n 0, 1) := by decide +kernel
theorem i3_44 : dxI 3 44 = some (.getfield 24, 3) := by decide +kernel
theorem i3_47 : dxI 3 47 = some (.iconst 1, 1) := by decide +kernel
theorem i3_48 : dxI 3 48 = some (.iadd, 1) := by decide +kernel
theorem i3_49 : dxI 3 49 = some (.bipush 14, 2) := by decide +kernel
theorem i3_51 : dxI 3 51 = some (.irem, 1) := by decide +kernel
theorem i3_52 : dxI 3 52 = some (.putfield 24, 3) := by decide +kernel
theorem i3_55 : dxI 3 55 = some (.return_, 1) := by decide +kernel
theorem i4_0 : dxI 4 0 = some (.aload_n 0, 1) := by decide +kernel
theorem i4_1 : dxI 4 1 = some (.getfield 20, 3) := by decide +kernel
theorem i4_4 : dxI 4 4 = some (.ifCond .le 33, 3) := by decide +kernel
theorem i4_7 : dxI 4 7 = some (.aload_n 0, 1) := by decide +kernel
theorem i4_8 : dxI 4 8 = some (.dup, 1) := by decide +kernel
theorem i4_9 : dxI 4 9 = some (.getfield 20, 3) := by decide +kernel
theorem i4_12 : dxI 4 12 = some (.iconst 1, 1) := by decide +kernel
theorem i4_13 : dxI 4 13 = some (.isub, 1) := by decide +kernel
theorem i4_14 : dxI 4 14 = some (.putfield 20, 3) := by decide +kernel
theorem i4_17 : dxI 4 17 = some (.aload_n 0, 1) := by decide +kernel
theorem i4_18 : dxI 4 18 = some (.getfield 14, 3) := by decide +kernel
theorem i4_21 : dxI 4 21 = some (.aload_n 0, 1) := by decide +kernel
theorem i4_22 : dxI 4 22 = some (.getfield 24, 3) := by decide +kernel
theorem i4_25 : dxI 4 25 = some (.aload_n 0, 1) := by decide +kernel
theorem i4_26 : dxI 4 26 = some (.getfield 20, 3) := by decide +kernel
theorem i4_29 : dxI 4 29 = some (.iadd, 1) := by decide +kernel
theorem i4_30 : dxI 4 30 = some (.bipush 14, 2) := by decide +kernel
theorem i4_32 : dxI 4 32 = some (.irem, 1) := by decide +kernel
theorem i4_33 : dxI 4 33 = some (.aload_n 1, 1) := by decide +kernel
theorem i4_34 : dxI 4 34 = some (.invokevirtual 31, 3) := by decide +kernel
theorem i4_37 : dxI 4 37 = some (.return_, 1) := by decide +kernel
theorem i5_0 : dxI 5 0 = some (.aload_n 0, 1) := by decide +kernel
theorem i5_1 : dxI 5 1 = some (.invokespecial 3, 3) := by decide +kernel
theorem i5_4 : dxI 5 4 = some (.aload_n 0, 1) := by decide +kernel
theorem i5_5 : dxI 5 5 = some (.bipush 26, 2) := by decide +kernel
theorem i5_7 : dxI 5 7 = some (.newarray .int, 2) := by decide +kernel
theorem i5_9 : dxI 5 9 = some (.putfield 9, 3) := by decide +kernel
theorem i5_12 : dxI 5 12 = some (.return_, 1) := by decide +kernel
theorem i6_0 : dxI 6 0 = some (.aload_n 0, 1) := by decide +kernel
theorem i6_1 : dxI 6 1 = some (.iconst 0, 1) := by decide +kernel
theorem i6_2 : dxI 6 2 = some (.putfield 15, 3) := by decide +kernel
theorem i6_5 : dxI 6 5 = some (.aload_n 0, 1) := by decide +kernel
theorem i6_6 : dxI 6 6 = some (.iconst 0, 1) := by decide +kernel
theorem i6_7 : dxI 6 7 = some (.invokevirtual 19, 3) := by decide +kernel
theorem i6_10 : dxI 6 10 = some (.iconst 0, 1) := by decide +kernel
theorem i6_11 : dxI 6 11 = some (.istore_n 3, 1) := by decide +kernel
theorem i6_12 : dxI 6 12 = some (.iload_n 3, 1) := by decide +kernel
theorem i6_13 : dxI 6 13 = some (.bipush 6, 2) := by decide +kernel
theorem i6_15 : dxI 6 15 = some (.if_icmp .ge 24, 3) := by decide +kernel
theorem i6_18 : dxI 6 18 = some (.aload_n 1, 1) := by decide +kernel
theorem i6_19 : dxI 6 19 = some (.iload_n 3, 1) := by decide +kernel
theorem i6_20 : dxI 6 20 = some (.iload_n 2, 1) := by decide +kernel
theorem i6_21 : dxI 6 21 = some (.invokevirtual 23, 3) := by decide +kernel
theorem i6_24 : dxI 6 24 = some (.ifCond .eq 9, 3) := by decide +kernel
theorem i6_27 : dxI 6 27 = some (.aload_n 0, 1) := by decide +kernel
theorem i6_28 : dxI 6 28 = some (.iload_n 3, 1) := by decide +kernel
theorem i6_29 : dxI 6 29 = some (.aload_n 1, 1) := by decide +kernel
theorem i6_30 : dxI 6 30 = some (.invokevirtual 29, 3) := by decide +kernel
theorem i6_33 : dxI 6 33 = some (.iinc 3 1, 3) := by decide +kernel
theorem i6_36 : dxI 6 36 = some (.goto (-24), 3) := by decide +kernel
theorem i6_39 : dxI 6 39 = some (.return_, 1) := by decide +kernel
theorem i7_0 : dxI 7 0 = some (.iconst 0, 1) := by decide +kernel
theorem i7_1 : dxI 7 1 = some (.istore_n 3, 1) := by decide +kernel
theorem i7_2 : dxI 7 2 = some (.iload_n 3, 1) := by decide +kernel
theorem i7_3 : dxI 7 3 = some (.bipush 10, 2) := by decide +kernel
theorem i7_5 : dxI 7 5 = some (.if_icmp .ge 29, 3) := by decide +kernel
theorem i7_8 : dxI 7 8 = some (.aload_n 2, 1) := by decide +kernel
theorem i7_9 : dxI 7 9 = some (.iload_n 3, 1) := by decide +kernel
theorem i7_10 : dxI 7 10 = some (.invokevirtual 33, 3) := by decide +kernel
theorem i7_13 : dxI 7 13 = some (.ifCond .ne 15, 3) := by decide +kernel
theorem i7_16 : dxI 7 16 = some (.aload_n 0, 1) := by decide +kernel
theorem i7_17 : dxI 7 17 = some (.bipush 10, 2) := by decide +kernel
theorem i7_19 : dxI 7 19 = some (.iload_n 1, 1) := by decide +kernel
theorem i7_20 : dxI 7 20 = some (.imul, 1) := by decide +kernel
theorem i7_21 : dxI 7 21 = some (.iload_n 3, 1) := by decide +kernel
theorem i7_22 : dxI 7 22 = some (.iadd, 1) := by decide +kernel
theorem i7_23 : dxI 7 23 = some (.iconst 1, 1) := by decide +kernel
theorem i7_24 : dxI 7 24 = some (.iadd, 1) := by decide +kernel
theorem i7_25 : dxI 7 25 = some (.invokevirtual 19, 3) := by decide +kernel
theorem i7_28 : dxI 7 28 = some (.iinc 3 1, 3) := by decide +kernel
theorem i7_31 : dxI 7 31 = some (.goto (-29), 3) := by decide +kernel
theorem i7_34 : dxI 7 34 = some (.return_, 1) := by decide +kernel
theorem i8_0 : dxI 8 0 = some (.aload_n 0, 1) := by decide +kernel
theorem i8_1 : dxI 8 1 = some (.getfield 15, 3) := by decide +kernel
theorem i8_4 : dxI 8 4 = some (.bipush 26, 2) := by decide +kernel
theorem i8_6 : dxI 8 6 = some (.if_icmp .ge 23, 3) := by decide +kernel
theorem i8_9 : dxI 8 9 = some (.aload_n 0, 1) := by decide +kernel
theorem i8_10 : dxI 8 10 = some (.getfield 9, 3) := by decide +kernel
theorem i8_13 : dxI 8 13 = some (.aload_n 0, 1) := by decide +kernel
theorem i8_14 : dxI 8 14 = some (.getfield 15, 3) := by decide +kernel
theorem i8_17 : dxI 8 17 = some (.iload_n 1, 1) := by decide +kernel
theorem i8_18 : dxI 8 18 = some (.iastore, 1) := by decide +kernel
theorem i8_19 : dxI 8 19 = some (.aload_n 0, 1) := by decide +kernel
theorem i8_20 : dxI 8 20 = some (.dup, 1) := by decide +kernel
theorem i8_21 : dxI 8 21 = some (.getfield 15, 3) := by decide +kernel
theorem i8_24 : dxI 8 24 = some (.iconst 1, 1) := by decide +kernel
theorem i8_25 : dxI 8 25 = some (.iadd, 1) := by decide +kernel
theorem i8_26 : dxI 8 26 = some (.putfield 15, 3) := by decide +kernel
theorem i8_29 : dxI 8 29 = some (.return_, 1) := by decide +kernel
theorem i9_0 : dxI 9 0 = some (.aload_n 0, 1) := by decide +kernel
theorem i9_1 : dxI 9 1 = some (.getfield 15, 3) := by decide +kernel
theorem i9_4 : dxI 9 4 = some (.ireturn, 1) := by decide +kernel
theorem i10_0 : dxI 10 0 = some (.iload_n 1, 1) := by decide +kernel
theorem i10_1 : dxI 10 1 = some (.ifCond .lt 26, 3) := by decide +kernel
theorem i10_4 : dxI 10 4 = some (.iload_n 1, 1) := by decide +kernel
theorem i10_5 : dxI 10 5 = some (.aload_n 0, 1) := by decide +kernel
theorem i10_6 : dxI 10 6 = some (.getfield 15, 3) := by decide +kernel
theorem i10_9 : dxI 10 9 = some (.if_icmp .ge 18, 3) := by decide +kernel
theorem i10_12 : dxI 10 12 = some (.iload_n 1, 1) := by decide +kernel
theorem i10_13 : dxI 10 13 = some (.bipush 26, 2) := by decide +kernel
theorem i10_15 : dxI 10 15 = some (.if_icmp .ge 12, 3) := by decide +kernel
theorem i10_18 : dxI 10 18 = some (.aload_n 0, 1) := by decide +kernel
theorem i10_19 : dxI 10 19 = some (.getfield 9, 3) := by decide +kernel
theorem i10_22 : dxI 10 22 = some (.iload_n 1, 1) := by decide +kernel
theorem i10_23 : dxI 10 23 = some (.iaload, 1) := by decide +kernel
theorem i10_24 : dxI 10 24 = some (.goto 4, 3) := by decide +kernel
theorem i10_27 : dxI 10 27 = some (.iconst 0, 1) := by decide +kernel
theorem i10_28 : dxI 10 28 = some (.ireturn, 1) := by decide +kernel
theorem i11_0 : dxI 11 0 = some (.aload_n 0, 1) := by decide +kernel
theorem i11_1 : dxI 11 1 = some (.invokespecial 3, 3) := by decide +kernel
theorem i11_4 : dxI 11 4 = some (.aload_n 0, 1) := by decide +kernel
theorem i11_5 : dxI 11 5 = some (.bipush 6, 2) := by decide +kernel
theorem i11_7 : dxI 11 7 = some (.newarray .int, 2) := by decide +kernel
theorem i11_9 : dxI 11 9 = some (.putfield 9, 3) := by decide +kernel
theorem i11_12 : dxI 11 12 = some (.aload_n 0, 1) := by decide +kernel
theorem i11_13 : dxI 11 13 = some (.bipush 6, 2) := by decide +kernel
theorem i11_15 : dxI 11 15 = some (.newarray .int, 2) := by decide +kernel
theorem i11_17 : dxI 11 17 = some (.putfield 15, 3) := by decide +kernel
theorem i11_20 : dxI 11 20 = some (.return_, 1) := by decide +kernel
theorem i12_0 : dxI 12 0 = some (.aload_n 0, 1) := by decide +kernel
theorem i12_1 : dxI 12 1 = some (.iconst 0, 1) := by decide +kernel
theorem i12_2 : dxI 12 2 = some (.putfield 18, 3) := by decide +kernel
theorem i12_5 : dxI 12 5 = some (.return_, 1) := by decide +kernel
theorem i13_0 : dxI 13 0 = some (.aload_n 0, 1) := by decide +kernel
theorem i13_1 : dxI 13 1 = some (.getfield 18, 3) := by decide +kernel
theorem i13_4 : dxI 13 4 = some (.bipush 6, 2) := by decide +kernel
theorem i13_6 : dxI 13 6 = some (.if_icmp .ge 33, 3) := by decide +kernel
theorem i13_9 : dxI 13 9 = some (.aload_n 0, 1) := by decide +kernel
theorem i13_10 : dxI 13 10 = some (.getfield 9, 3) := by decide +kernel
theorem i13_13 : dxI 13 13 = some (.aload_n 0, 1) := by decide +kernel
theorem i13_14 : dxI 13 14 = some (.getfield 18, 3) := by decide +kernel
theorem i13_17 : dxI 13 17 = some (.iload_n 1, 1) := by decide +kernel
theorem i13_18 : dxI 13 18 = some (.iastore, 1) := by decide +kernel
theorem i13_19 : dxI 13 19 = some (.aload_n 0, 1) := by decide +kernel
theorem i13_20 : dxI 13 20 = some (.getfield 15, 3) := by decide +kernel
theorem i13_23 : dxI 13 23 = some (.aload_n 0, 1) := by decide +kernel
theorem i13_24 : dxI 13 24 = some (.getfield 18, 3) := by decide +kernel
theorem i13_27 : dxI 13 27 = some (.iload_n 2, 1) := by decide +kernel
theorem i13_28 : dxI 13 28 = some (.iastore, 1) := by decide +kernel
theorem i13_29 : dxI 13 29 = some (.aload_n 0, 1) := by decide +kernel
theorem i13_30 : dxI 13 30 = some (.dup, 1) := by decide +kernel
theorem i13_31 : dxI 13 31 = some (.getfield 18, 3) := by decide +kernel
theorem i13_34 : dxI 13 34 = some (.iconst 1, 1) := by decide +kernel
theorem i13_35 : dxI 13 35 = some (.iadd, 1) := by decide +kernel
theorem i13_36 : dxI 13 36 = some (.putfield 18, 3) := by decide +kernel
theorem i13_39 : dxI 13 39 = some (.return_, 1) := by decide +kernel
theorem i14_0 : dxI 14 0 = some (.aload_n 0, 1) := by decide +kernel
theorem i14_1 : dxI 14 1 = some (.getfield 18, 3) := by decide +kernel
theorem i14_4 : dxI 14 4 = some (.ireturn, 1) := by decide +kernel
theorem i15_0 : dxI 15 0 = some (.iload_n 1, 1) := by decide +kernel
theorem i15_1 : dxI 15 1 = some (.ifCond .lt 21, 3) := by decide +kernel
theorem i15_4 : dxI 15 4 = some (.iload_n 1, 1) := by decide +kernel
theorem i15_5 : dxI 15 5 = some (.aload_n 0, 1) := by decide +kernel
theorem i15_6 : dxI 15 6 = some (.getfield 18, 3) := by decide +kernel
theorem i15_9 : dxI 15 9 = some (.if_icmp .ge 13, 3) := by decide +kernel
theorem i15_12 : dxI 15 12 = some (.iload_n 1, 1) := by decide +kernel
theorem i15_13 : dxI 15 13 = some (.bipush 6, 2) := by decide +kernel
theorem i15_15 : dxI 15 15 = some (.if_icmp .ge 7, 3) := by decide +kernel
theorem i15_18 : dxI 15 18 = some (.iconst 1, 1) := by decide +kernel
theorem i15_19 : dxI 15 19 = some (.goto 4, 3) := by decide +kernel
theorem i15_22 : dxI 15 22 = some (.iconst 0, 1) := by decide +kernel
theorem i15_23 : dxI 15 23 = some (.ireturn, 1) := by decide +kernel
theorem i16_0 : dxI 16 0 = some (.iload_n 1, 1) := by decide +kernel
theorem i16_1 : dxI 16 1 = some (.ifCond .lt 18, 3) := by decide +kernel
theorem i16_4 : dxI 16 4 = some (.iload_n 1, 1) := by decide +kernel
theorem i16_5 : dxI 16 5 = some (.bipush 6, 2) := by decide +kernel
theorem i16_7 : dxI 16 7 = some (.if_icmp .ge 12, 3) := by decide +kernel
theorem i16_10 : dxI 16 10 = some (.aload_n 0, 1) := by decide +kernel
theorem i16_11 : dxI 16 11 = some (.getfield 9, 3) := by decide +kernel
theorem i16_14 : dxI 16 14 = some (.iload_n 1, 1) := by decide +kernel
theorem i16_15 : dxI 16 15 = some (.iaload, 1) := by decide +kernel
theorem i16_16 : dxI 16 16 = some (.goto 5, 3) := by decide +kernel
theorem i16_19 : dxI 16 19 = some (.bipush (-9), 2) := by decide +kernel
theorem i16_21 : dxI 16 21 = some (.ireturn, 1) := by decide +kernel
theorem i17_0 : dxI 17 0 = some (.iload_n 1, 1) := by decide +kernel
theorem i17_1 : dxI 17 1 = some (.ifCond .lt 18, 3) := by decide +kernel
theorem i17_4 : dxI 17 4 = some (.iload_n 1, 1) := by decide +kernel
theorem i17_5 : dxI 17 5 = some (.bipush 6, 2) := by decide +kernel
theorem i17_7 : dxI 17 7 = some (.if_icmp .ge 12, 3) := by decide +kernel
theorem i17_10 : dxI 17 10 = some (.aload_n 0, 1) := by decide +kernel
theorem i17_11 : dxI 17 11 = some (.getfield 15, 3) := by decide +kernel
theorem i17_14 : dxI 17 14 = some (.iload_n 1, 1) := by decide +kernel
theorem i17_15 : dxI 17 15 = some (.iaload, 1) := by decide +kernel
theorem i17_16 : dxI 17 16 = some (.goto 5, 3) := by decide +kernel
theorem i17_19 : dxI 17 19 = some (.bipush (-9), 2) := by decide +kernel
theorem i17_21 : dxI 17 21 = some (.ireturn, 1) := by decide +kernel
theorem i18_0 : dxI 18 0 = some (.aload_n 0, 1) := by decide +kernel
theorem i18_1 : dxI 18 1 = some (.invokespecial 3, 3) := by decide +kernel
theorem i18_4 : dxI 18 4 = some (.aload_n 0, 1) := by decide +kernel
theorem i18_5 : dxI 18 5 = some (.bipush 10, 2) := by decide +kernel
theorem i18_7 : dxI 18 7 = some (.newarray .int, 2) := by decide +kernel
theorem i18_9 : dxI 18 9 = some (.putfield 9, 3) := by decide +kernel
theorem i18_12 : dxI 18 12 = some (.aload_n 0, 1) := by decide +kernel
theorem i18_13 : dxI 18 13 = some (.bipush 6, 2) := by decide +kernel
theorem i18_15 : dxI 18 15 = some (.newarray .int, 2) := by decide +kernel
theorem i18_17 : dxI 18 17 = some (.putfield 15, 3) := by decide +kernel
theorem i18_20 : dxI 18 20 = some (.aload_n 0, 1) := by decide +kernel
theorem i18_21 : dxI 18 21 = some (.bipush 6, 2) := by decide +kernel
theorem i18_23 : dxI 18 23 = some (.newarray .int, 2) := by decide +kernel
theorem i18_25 : dxI 18 25 = some (.putfield 18, 3) := by decide +kernel
theorem i18_28 : dxI 18 28 = some (.aload_n 0, 1) := by decide +kernel
theorem i18_29 : dxI 18 29 = some (.iconst 2, 1) := by decide +kernel
theorem i18_30 : dxI 18 30 = some (.newarray .int, 2) := by decide +kernel
theorem i18_32 : dxI 18 32 = some (.putfield 21, 3) := by decide +kernel
theorem i18_35 : dxI 18 35 = some (.aload_n 0, 1) := by decide +kernel
theorem i18_36 : dxI 18 36 = some (.aload_n 1, 1) := by decide +kernel
theorem i18_37 : dxI 18 37 = some (.putfield 24, 3) := by decide +kernel
theorem i18_40 : dxI 18 40 = some (.return_, 1) := by decide +kernel
theorem i19_0 : dxI 19 0 = some (.iconst 0, 1) := by decide +kernel
theorem i19_1 : dxI 19 1 = some (.istore_n 1, 1) := by decide +kernel
theorem i19_2 : dxI 19 2 = some (.iload_n 1, 1) := by decide +kernel
theorem i19_3 : dxI 19 3 = some (.bipush 10, 2) := by decide +kernel
theorem i19_5 : dxI 19 5 = some (.if_icmp .ge 16, 3) := by decide +kernel
theorem i19_8 : dxI 19 8 = some (.aload_n 0, 1) := by decide +kernel
theorem i19_9 : dxI 19 9 = some (.getfield 9, 3) := by decide +kernel
theorem i19_12 : dxI 19 12 = some (.iload_n 1, 1) := by decide +kernel
theorem i19_13 : dxI 19 13 = some (.iconst 0, 1) := by decide +kernel
theorem i19_14 : dxI 19 14 = some (.iastore, 1) := by decide +kernel
theorem i19_15 : dxI 19 15 = some (.iinc 1 1, 3) := by decide +kernel
theorem i19_18 : dxI 19 18 = some (.goto (-16), 3) := by decide +kernel
theorem i19_21 : dxI 19 21 = some (.iconst 0, 1) := by decide +kernel
theorem i19_22 : dxI 19 22 = some (.istore_n 1, 1) := by decide +kernel
theorem i19_23 : dxI 19 23 = some (.iload_n 1, 1) := by decide +kernel
theorem i19_24 : dxI 19 24 = some (.iconst 2, 1) := by decide +kernel
theorem i19_25 : dxI 19 25 = some (.if_icmp .ge 16, 3) := by decide +kernel
theorem i19_28 : dxI 19 28 = some (.aload_n 0, 1) := by decide +kernel
theorem i19_29 : dxI 19 29 = some (.getfield 21, 3) := by decide +kernel
theorem i19_32 : dxI 19 32 = some (.iload_n 1, 1) := by decide +kernel
theorem i19_33 : dxI 19 33 = some (.iconst 0, 1) := by decide +kernel
theorem i19_34 : dxI 19 34 = some (.iastore, 1) := by decide +kernel
theorem i19_35 : dxI 19 35 = some (.iinc 1 1, 3) := by decide +kernel
theorem i19_38 : dxI 19 38 = some (.goto (-15), 3) := by decide +kernel
theorem i19_41 : dxI 19 41 = some (.aload_n 0, 1) := by decide +kernel
theorem i19_42 : dxI 19 42 = some (.iconst 0, 1) := by decide +kernel
theorem i19_43 : dxI 19 43 = some (.putfield 28, 3) := by decide +kernel
theorem i19_46 : dxI 19 46 = some (.aload_n 0, 1) := by decide +kernel
theorem i19_47 : dxI 19 47 = some (.iconst 0, 1) := by decide +kernel
theorem i19_48 : dxI 19 48 = some (.putfield 32, 3) := by decide +kernel
theorem i19_51 : dxI 19 51 = some (.aload_n 0, 1) := by decide +kernel
theorem i19_52 : dxI 19 52 = some (.iconst 0, 1) := by decide +kernel
theorem i19_53 : dxI 19 53 = some (.putfield 36, 3) := by decide +kernel
theorem i19_56 : dxI 19 56 = some (.aload_n 0, 1) := by decide +kernel
theorem i19_57 : dxI 19 57 = some (.iconst 0, 1) := by decide +kernel
theorem i19_58 : dxI 19 58 = some (.putfield 39, 3) := by decide +kernel
theorem i19_61 : dxI 19 61 = some (.return_, 1) := by decide +kernel
theorem i20_0 : dxI 20 0 = some (.aload_n 1, 1) := by decide +kernel
theorem i20_1 : dxI 20 1 = some (.getfield 9, 3) := by decide +kernel
theorem i20_4 : dxI 20 4 = some (.iconst 0, 1) := by decide +kernel
theorem i20_5 : dxI 20 5 = some (.aload_n 0, 1) := by decide +kernel
theorem i20_6 : dxI 20 6 = some (.getfield 9, 3) := by decide +kernel
theorem i20_9 : dxI 20 9 = some (.iconst 0, 1) := by decide +kernel
theorem i20_10 : dxI 20 10 = some (.bipush 10, 2) := by decide +kernel
theorem i20_12 : dxI 20 12 = some (.invokestatic 42, 3) := by decide +kernel
theorem i20_15 : dxI 20 15 = some (.aload_n 1, 1) := by decide +kernel
theorem i20_16 : dxI 20 16 = some (.getfield 15, 3) := by decide +kernel
theorem i20_19 : dxI 20 19 = some (.iconst 0, 1) := by decide +kernel
theorem i20_20 : dxI 20 20 = some (.aload_n 0, 1) := by decide +kernel
theorem i20_21 : dxI 20 21 = some (.getfield 15, 3) := by decide +kernel
theorem i20_24 : dxI 20 24 = some (.iconst 0, 1) := by decide +kernel
theorem i20_25 : dxI 20 25 = some (.bipush 6, 2) := by decide +kernel
theorem i20_27 : dxI 20 27 = some (.invokestatic 42, 3) := by decide +kernel
theorem i20_30 : dxI 20 30 = some (.aload_n 1, 1) := by decide +kernel
theorem i20_31 : dxI 20 31 = some (.getfield 18, 3) := by decide +kernel
theorem i20_34 : dxI 20 34 = some (.iconst 0, 1) := by decide +kernel
theorem i20_35 : dxI 20 35 = some (.aload_n 0, 1) := by decide +kernel
theorem i20_36 : dxI 20 36 = some (.getfield 18, 3) := by decide +kernel
theorem i20_39 : dxI 20 39 = some (.iconst 0, 1) := by decide +kernel
theorem i20_40 : dxI 20 40 = some (.bipush 6, 2) := by decide +kernel
theorem i20_42 : dxI 20 42 = some (.invokestatic 42, 3) := by decide +kernel
theorem i20_45 : dxI 20 45 = some (.aload_n 1, 1) := by decide +kernel
theorem i20_46 : dxI 20 46 = some (.getfield 21, 3) := by decide +kernel
theorem i20_49 : dxI 20 49 = some (.iconst 0, 1) := by decide +kernel
theorem i20_50 : dxI 20 50 = some (.aload_n 0, 1) := by decide +kernel
theorem i20_51 : dxI 20 51 = some (.getfield 21, 3) := by decide +kernel
theorem i20_54 : dxI 20 54 = some (.iconst 0, 1) := by decide +kernel
theorem i20_55 : dxI 20 55 = some (.iconst 2, 1) := by decide +kernel
theorem i20_56 : dxI 20 56 = some (.invokestatic 42, 3) := by decide +kernel
theorem i20_59 : dxI 20 59 = some (.aload_n 0, 1) := by decide +kernel
theorem i20_60 : dxI 20 60 = some (.aload_n 1, 1) := by decide +kernel
theorem i20_61 : dxI 20 61 = some (.getfield 28, 3) := by decide +kernel
theorem i20_64 : dxI 20 64 = some (.putfield 28, 3) := by decide +kernel
theorem i20_67 : dxI 20 67 = some (.aload_n 0, 1) := by decide +kernel
theorem i20_68 : dxI 20 68 = some (.aload_n 1, 1) := by decide +kernel
theorem i20_69 : dxI 20 69 = some (.getfield 32, 3) := by decide +kernel
theorem i20_72 : dxI 20 72 = some (.putfield 32, 3) := by decide +kernel
theorem i20_75 : dxI 20 75 = some (.aload_n 0, 1) := by decide +kernel
theorem i20_76 : dxI 20 76 = some (.aload_n 1, 1) := by decide +kernel
theorem i20_77 : dxI 20 77 = some (.getfield 36, 3) := by decide +kernel
theorem i20_80 : dxI 20 80 = some (.putfield 36, 3) := by decide +kernel
theorem i20_83 : dxI 20 83 = some (.aload_n 0, 1) := by decide +kernel
theorem i20_84 : dxI 20 84 = some (.aload_n 1, 1) := by decide +kernel
theorem i20_85 : dxI 20 85 = some (.getfield 39, 3) := by decide +kernel
theorem i20_88 : dxI 20 88 = some (.putfield 39, 3) := by decide +kernel
theorem i20_91 : dxI 20 91 = some (.return_, 1) := by decide +kernel
theorem i21_0 : dxI 21 0 = some (.aload_n 0, 1) := by decide +kernel
theorem i21_1 : dxI 21 1 = some (.getfield 24, 3) := by decide +kernel
theorem i21_4 : dxI 21 4 = some (.invokevirtual 48, 3) := by decide +kernel
theorem i21_7 : dxI 21 7 = some (.istore 5, 2) := by decide +kernel
theorem i21_9 : dxI 21 9 = some (.aload_n 0, 1) := by decide +kernel
theorem i21_10 : dxI 21 10 = some (.getfield 24, 3) := by decide +kernel
theorem i21_13 : dxI 21 13 = some (.iload_n 2, 1) := by decide +kernel
theorem i21_14 : dxI 21 14 = some (.iload 4, 2) := by decide +kernel
theorem i21_16 : dxI 21 16 = some (.invokevirtual 54, 3) := by decide +kernel
theorem i21_19 : dxI 21 19 = some (.aload_n 0, 1) := by decide +kernel
theorem i21_20 : dxI 21 20 = some (.getfield 24, 3) := by decide +kernel
theorem i21_23 : dxI 21 23 = some (.iload 5, 2) := by decide +kernel
theorem i21_25 : dxI 21 25 = some (.invokevirtual 58, 3) := by decide +kernel
theorem i21_28 : dxI 21 28 = some (.ifCond .eq 32, 3) := by decide +kernel
theorem i21_31 : dxI 21 31 = some (.aload_n 0, 1) := by decide +kernel
theorem i21_32 : dxI 21 32 = some (.dup, 1) := by decide +kernel
theorem i21_33 : dxI 21 33 = some (.getfield 28, 3) := by decide +kernel
theorem i21_36 : dxI 21 36 = some (.iconst 1, 1) := by decide +kernel
theorem i21_37 : dxI 21 37 = some (.iload 5, 2) := by decide +kernel
theorem i21_39 : dxI 21 39 = some (.ishl, 1) := by decide +kernel
theorem i21_40 : dxI 21 40 = some (.ior, 1) := by decide +kernel
theorem i21_41 : dxI 21 41 = some (.putfield 28, 3) := by decide +kernel
theorem i21_44 : dxI 21 44 = some (.aload_n 0, 1) := by decide +kernel
theorem i21_45 : dxI 21 45 = some (.getfield 15, 3) := by decide +kernel
theorem i21_48 : dxI 21 48 = some (.iload 5, 2) := by decide +kernel
theorem i21_50 : dxI 21 50 = some (.iload_n 1, 1) := by decide +kernel
theorem i21_51 : dxI 21 51 = some (.iastore, 1) := by decide +kernel
theorem i21_52 : dxI 21 52 = some (.aload_n 0, 1) := by decide +kernel
theorem i21_53 : dxI 21 53 = some (.getfield 18, 3) := by decide +kernel
theorem i21_56 : dxI 21 56 = some (.iload 5, 2) := by decide +kernel
theorem i21_58 : dxI 21 58 = some (.iload_n 3, 1) := by decide +kernel
theorem i21_59 : dxI 21 59 = some (.iastore, 1) := by decide +kernel
theorem i21_60 : dxI 21 60 = some (.return_, 1) := by decide +kernel
theorem i22_0 : dxI 22 0 = some (.aload_n 0, 1) := by decide +kernel
theorem i22_1 : dxI 22 1 = some (.dup, 1) := by decide +kernel
theorem i22_2 : dxI 22 2 = some (.getfield 28, 3) := by decide +kernel
theorem i22_5 : dxI 22 5 = some (.iload_n 1, 1) := by decide +kernel
theorem i22_6 : dxI 22 6 = some (.iand, 1) := by decide +kernel
theorem i22_7 : dxI 22 7 = some (.putfield 28, 3) := by decide +kernel
theorem i22_10 : dxI 22 10 = some (.return_, 1) := by decide +kernel
theorem i23_0 : dxI 23 0 = some (.iload_n 1, 1) := by decide +kernel
theorem i23_1 : dxI 23 1 = some (.ifCond .lt 25, 3) := by decide +kernel
theorem i23_4 : dxI 23 4 = some (.iload_n 1, 1) := by decide +kernel
theorem i23_5 : dxI 23 5 = some (.bipush 6, 2) := by decide +kernel
theorem i23_7 : dxI 23 7 = some (.if_icmp .ge 19, 3) := by decide +kernel
theorem i23_10 : dxI 23 10 = some (.aload_n 0, 1) := by decide +kernel
theorem i23_11 : dxI 23 11 = some (.getfield 28, 3) := by decide +kernel
theorem i23_14 : dxI 23 14 = some (.iload_n 1, 1) := by decide +kernel
theorem i23_15 : dxI 23 15 = some (.ishr, 1) := by decide +kernel
theorem i23_16 : dxI 23 16 = some (.iconst 1, 1) := by decide +kernel
theorem i23_17 : dxI 23 17 = some (.iand, 1) := by decide +kernel
theorem i23_18 : dxI 23 18 = some (.iconst 1, 1) := by decide +kernel
theorem i23_19 : dxI 23 19 = some (.if_icmp .ne 7, 3) := by decide +kernel
theorem i23_22 : dxI 23 22 = some (.iconst 1, 1) := by decide +kernel
theorem i23_23 : dxI 23 23 = some (.goto 4, 3) := by decide +kernel
theorem i23_26 : dxI 23 26 = some (.iconst 0, 1) := by decide +kernel
theorem i23_27 : dxI 23 27 = some (.ireturn, 1) := by decide +kernel
theorem i24_0 : dxI 24 0 = some (.aload_n 0, 1) := by decide +kernel
theorem i24_1 : dxI 24 1 = some (.iload_n 1, 1) := by decide +kernel
theorem i24_2 : dxI 24 2 = some (.invokevirtual 62, 3) := by decide +kernel
theorem i24_5 : dxI 24 5 = some (.ifCond .eq 19, 3) := by decide +kernel
theorem i24_8 : dxI 24 8 = some (.aload_n 0, 1) := by decide +kernel
theorem i24_9 : dxI 24 9 = some (.getfield 24, 3) := by decide +kernel
theorem i24_12 : dxI 24 12 = some (.iload_n 1, 1) := by decide +kernel
theorem i24_13 : dxI 24 13 = some (.invokevirtual 65, 3) := by decide +kernel
theorem i24_16 : dxI 24 16 = some (.iload_n 2, 1) := by decide +kernel
theorem i24_17 : dxI 24 17 = some (.if_icmp .ne 7, 3) := by decide +kernel
theorem i24_20 : dxI 24 20 = some (.iconst 1, 1) := by decide +kernel
theorem i24_21 : dxI 24 21 = some (.goto 4, 3) := by decide +kernel
theorem i24_24 : dxI 24 24 = some (.iconst 0, 1) := by decide +kernel
theorem i24_25 : dxI 24 25 = some (.ireturn, 1) := by decide +kernel
theorem i25_0 : dxI 25 0 = some (.aload_n 0, 1) := by decide +kernel
theorem i25_1 : dxI 25 1 = some (.iload_n 1, 1) := by decide +kernel
theorem i25_2 : dxI 25 2 = some (.invokevirtual 62, 3) := by decide +kernel
theorem i25_5 : dxI 25 5 = some (.ifCond .eq 12, 3) := by decide +kernel
theorem i25_8 : dxI 25 8 = some (.aload_n 0, 1) := by decide +kernel
theorem i25_9 : dxI 25 9 = some (.getfield 15, 3) := by decide +kernel
theorem i25_12 : dxI 25 12 = some (.iload_n 1, 1) := by decide +kernel
theorem i25_13 : dxI 25 13 = some (.iaload, 1) := by decide +kernel
theorem i25_14 : dxI 25 14 = some (.goto 5, 3) := by decide +kernel
theorem i25_17 : dxI 25 17 = some (.bipush (-9), 2) := by decide +kernel
theorem i25_19 : dxI 25 19 = some (.ireturn, 1) := by decide +kernel
theorem i26_0 : dxI 26 0 = some (.aload_n 0, 1) := by decide +kernel
theorem i26_1 : dxI 26 1 = some (.iload_n 1, 1) := by decide +kernel
theorem i26_2 : dxI 26 2 = some (.invokevirtual 62, 3) := by decide +kernel
theorem i26_5 : dxI 26 5 = some (.ifCond .eq 12, 3) := by decide +kernel
theorem i26_8 : dxI 26 8 = some (.aload_n 0, 1) := by decide +kernel
theorem i26_9 : dxI 26 9 = some (.getfield 18, 3) := by decide +kernel
theorem i26_12 : dxI 26 12 = some (.iload_n 1, 1) := by decide +kernel
theorem i26_13 : dxI 26 13 = some (.iaload, 1) := by decide +kernel
theorem i26_14 : dxI 26 14 = some (.goto 5, 3) := by decide +kernel
theorem i26_17 : dxI 26 17 = some (.bipush (-9), 2) := by decide +kernel
theorem i26_19 : dxI 26 19 = some (.ireturn, 1) := by decide +kernel
theorem i27_0 : dxI 27 0 = some (.aload_n 0, 1) := by decide +kernel
theorem i27_1 : dxI 27 1 = some (.iload_n 1, 1) := by decide +kernel
theorem i27_2 : dxI 27 2 = some (.invokevirtual 62, 3) := by decide +kernel
theorem i27_5 : dxI 27 5 = some (.ifCond .eq 17, 3) := by decide +kernel
theorem i27_8 : dxI 27 8 = some (.iload_n 2, 1) := by decide +kernel
theorem i27_9 : dxI 27 9 = some (.invokestatic 69, 3) := by decide +kernel
theorem i27_12 : dxI 27 12 = some (.ifCond .eq 10, 3) := by decide +kernel
theorem i27_15 : dxI 27 15 = some (.aload_n 0, 1) := by decide +kernel
theorem i27_16 : dxI 27 16 = some (.getfield 15, 3) := by decide +kernel
theorem i27_19 : dxI 27 19 = some (.iload_n 1, 1) := by decide +kernel
theorem i27_20 : dxI 27 20 = some (.iload_n 2, 1) := by decide +kernel
theorem i27_21 : dxI 27 21 = some (.iastore, 1) := by decide +kernel
theorem i27_22 : dxI 27 22 = some (.return_, 1) := by decide +kernel
theorem i28_0 : dxI 28 0 = some (.aload_n 0, 1) := by decide +kernel
theorem i28_1 : dxI 28 1 = some (.iload_n 1, 1) := by decide +kernel
theorem i28_2 : dxI 28 2 = some (.invokevirtual 62, 3) := by decide +kernel
theorem i28_5 : dxI 28 5 = some (.ifCond .eq 10, 3) := by decide +kernel
theorem i28_8 : dxI 28 8 = some (.aload_n 0, 1) := by decide +kernel
theorem i28_9 : dxI 28 9 = some (.getfield 18, 3) := by decide +kernel
theorem i28_12 : dxI 28 12 = some (.iload_n 1, 1) := by decide +kernel
theorem i28_13 : dxI 28 13 = some (.iload_n 2, 1) := by decide +kernel
theorem i28_14 : dxI 28 14 = some (.iastore, 1) := by decide +kernel
theorem i28_15 : dxI 28 15 = some (.return_, 1) := by decide +kernel
theorem i29_0 : dxI 29 0 = some (.iload_n 1, 1) := by decide +kernel
theorem i29_1 : dxI 29 1 = some (.ifCond .eq 15, 3) := by decide +kernel
theorem i29_4 : dxI 29 4 = some (.aload_n 0, 1) := by decide +kernel
theorem i29_5 : dxI 29 5 = some (.iload_n 1, 1) := by decide +kernel
theorem i29_6 : dxI 29 6 = some (.invokestatic 72, 3) := by decide +kernel
theorem i29_9 : dxI 29 9 = some (.iload_n 1, 1) := by decide +kernel
theorem i29_10 : dxI 29 10 = some (.invokestatic 75, 3) := by decide +kernel
theorem i29_13 : dxI 29 13 = some (.invokevirtual 78, 3) := by decide +kernel
theorem i29_16 : dxI 29 16 = some (.return_, 1) := by decide +kernel
theorem i30_0 : dxI 30 0 = some (.iconst 0, 1) := by decide +kernel
theorem i30_1 : dxI 30 1 = some (.istore_n 2, 1) := by decide +kernel
theorem i30_2 : dxI 30 2 = some (.iload_n 2, 1) := by decide +kernel
theorem i30_3 : dxI 30 3 = some (.bipush 6, 2) := by decide +kernel
theorem i30_5 : dxI 30 5 = some (.if_icmp .ge 29, 3) := by decide +kernel
theorem i30_8 : dxI 30 8 = some (.aload_n 0, 1) := by decide +kernel
theorem i30_9 : dxI 30 9 = some (.iload_n 2, 1) := by decide +kernel
theorem i30_10 : dxI 30 10 = some (.invokevirtual 62, 3) := by decide +kernel
theorem i30_13 : dxI 30 13 = some (.ifCond .eq 15, 3) := by decide +kernel
theorem i30_16 : dxI 30 16 = some (.aload_n 0, 1) := by decide +kernel
theorem i30_17 : dxI 30 17 = some (.getfield 15, 3) := by decide +kernel
theorem i30_20 : dxI 30 20 = some (.iload_n 2, 1) := by decide +kernel
theorem i30_21 : dxI 30 21 = some (.iaload, 1) := by decide +kernel
theorem i30_22 : dxI 30 22 = some (.iload_n 1, 1) := by decide +kernel
theorem i30_23 : dxI 30 23 = some (.if_icmp .ne 5, 3) := by decide +kernel
theorem i30_26 : dxI 30 26 = some (.iconst 1, 1) := by decide +kernel
theorem i30_27 : dxI 30 27 = some (.ireturn, 1) := by decide +kernel
theorem i30_28 : dxI 30 28 = some (.iinc 2 1, 3) := by decide +kernel
theorem i30_31 : dxI 30 31 = some (.goto (-29), 3) := by decide +kernel
theorem i30_34 : dxI 30 34 = some (.iconst 0, 1) := by decide +kernel
theorem i30_35 : dxI 30 35 = some (.ireturn, 1) := by decide +kernel
theorem i31_0 : dxI 31 0 = some (.iload_n 1, 1) := by decide +kernel
theorem i31_1 : dxI 31 1 = some (.invokestatic 69, 3) := by decide +kernel
theorem i31_4 : dxI 31 4 = some (.ifCond .eq 12, 3) := by decide +kernel
theorem i31_7 : dxI 31 7 = some (.aload_n 0, 1) := by decide +kernel
theorem i31_8 : dxI 31 8 = some (.getfield 9, 3) := by decide +kernel
theorem i31_11 : dxI 31 11 = some (.iload_n 1, 1) := by decide +kernel
theorem i31_12 : dxI 31 12 = some (.iaload, 1) := by decide +kernel
theorem i31_13 : dxI 31 13 = some (.goto 4, 3) := by decide +kernel
theorem i31_16 : dxI 31 16 = some (.iconst 0, 1) := by decide +kernel
theorem i31_17 : dxI 31 17 = some (.ireturn, 1) := by decide +kernel
theorem i32_0 : dxI 32 0 = some (.iload_n 1, 1) := by decide +kernel
theorem i32_1 : dxI 32 1 = some (.invokestatic 69, 3) := by decide +kernel
theorem i32_4 : dxI 32 4 = some (.ifCond .eq 10, 3) := by decide +kernel
theorem i32_7 : dxI 32 7 = some (.aload_n 0, 1) := by decide +kernel
theorem i32_8 : dxI 32 8 = some (.getfield 9, 3) := by decide +kernel
theorem i32_11 : dxI 32 11 = some (.iload_n 1, 1) := by decide +kernel
theorem i32_12 : dxI 32 12 = some (.iload_n 2, 1) := by decide +kernel
theorem i32_13 : dxI 32 13 = some (.iastore, 1) := by decide +kernel
theorem i32_14 : dxI 32 14 = some (.return_, 1) := by decide +kernel
theorem i33_0 : dxI 33 0 = some (.iload_n 1, 1) := by decide +kernel
theorem i33_1 : dxI 33 1 = some (.invokestatic 69, 3) := by decide +kernel
theorem i33_4 : dxI 33 4 = some (.ifCond .eq 18, 3) := by decide +kernel
theorem i33_7 : dxI 33 7 = some (.aload_n 0, 1) := by decide +kernel
theorem i33_8 : dxI 33 8 = some (.getfield 9, 3) := by decide +kernel
theorem i33_11 : dxI 33 11 = some (.iload_n 1, 1) := by decide +kernel
theorem i33_12 : dxI 33 12 = some (.iaload, 1) := by decide +kernel
theorem i33_13 : dxI 33 13 = some (.bipush 9, 2) := by decide +kernel
theorem i33_15 : dxI 33 15 = some (.if_icmp .ge 7, 3) := by decide +kernel
theorem i33_18 : dxI 33 18 = some (.iconst 1, 1) := by decide +kernel
theorem i33_19 : dxI 33 19 = some (.goto 4, 3) := by decide +kernel
theorem i33_22 : dxI 33 22 = some (.iconst 0, 1) := by decide +kernel
theorem i33_23 : dxI 33 23 = some (.ireturn, 1) := by decide +kernel
theorem i34_0 : dxI 34 0 = some (.aload_n 0, 1) := by decide +kernel
theorem i34_1 : dxI 34 1 = some (.iload_n 1, 1) := by decide +kernel
theorem i34_2 : dxI 34 2 = some (.invokevirtual 81, 3) := by decide +kernel
theorem i34_5 : dxI 34 5 = some (.ifCond .eq 13, 3) := by decide +kernel
theorem i34_8 : dxI 34 8 = some (.aload_n 0, 1) := by decide +kernel
theorem i34_9 : dxI 34 9 = some (.getfield 9, 3) := by decide +kernel
theorem i34_12 : dxI 34 12 = some (.iload_n 1, 1) := by decide +kernel
theorem i34_13 : dxI 34 13 = some (.dup2, 1) := by decide +kernel
theorem i34_14 : dxI 34 14 = some (.iaload, 1) := by decide +kernel
theorem i34_15 : dxI 34 15 = some (.iconst 1, 1) := by decide +kernel
theorem i34_16 : dxI 34 16 = some (.iadd, 1) := by decide +kernel
theorem i34_17 : dxI 34 17 = some (.iastore, 1) := by decide +kernel
theorem i34_18 : dxI 34 18 = some (.return_, 1) := by decide +kernel
theorem i35_0 : dxI 35 0 = some (.aload_n 0, 1) := by decide +kernel
theorem i35_1 : dxI 35 1 = some (.getfield 32, 3) := by decide +kernel
theorem i35_4 : dxI 35 4 = some (.ireturn, 1) := by decide +kernel
theorem i36_0 : dxI 36 0 = some (.aload_n 0, 1) := by decide +kernel
theorem i36_1 : dxI 36 1 = some (.iload_n 1, 1) := by decide +kernel
theorem i36_2 : dxI 36 2 = some (.putfield 32, 3) := by decide +kernel
theorem i36_5 : dxI 36 5 = some (.return_, 1) := by decide +kernel
theorem i37_0 : dxI 37 0 = some (.iload_n 1, 1) := by decide +kernel
theorem i37_1 : dxI 37 1 = some (.invokestatic 84, 3) := by decide +kernel
theorem i37_4 : dxI 37 4 = some (.ifCond .eq 12, 3) := by decide +kernel
theorem i37_7 : dxI 37 7 = some (.aload_n 0, 1) := by decide +kernel
theorem i37_8 : dxI 37 8 = some (.getfield 21, 3) := by decide +kernel
theorem i37_11 : dxI 37 11 = some (.iload_n 1, 1) := by decide +kernel
theorem i37_12 : dxI 37 12 = some (.iaload, 1) := by decide +kernel
theorem i37_13 : dxI 37 13 = some (.goto 4, 3) := by decide +kernel
theorem i37_16 : dxI 37 16 = some (.iconst 0, 1) := by decide +kernel
theorem i37_17 : dxI 37 17 = some (.ireturn, 1) := by decide +kernel
theorem i38_0 : dxI 38 0 = some (.aload_n 0, 1) := by decide +kernel
theorem i38_1 : dxI 38 1 = some (.getfield 36, 3) := by decide +kernel
theorem i38_4 : dxI 38 4 = some (.ireturn, 1) := by decide +kernel
theorem i39_0 : dxI 39 0 = some (.aload_n 0, 1) := by decide +kernel
theorem i39_1 : dxI 39 1 = some (.getfield 39, 3) := by decide +kernel
theorem i39_4 : dxI 39 4 = some (.ireturn, 1) := by decide +kernel
theorem i40_0 : dxI 40 0 = some (.aload_n 0, 1) := by decide +kernel
theorem i40_1 : dxI 40 1 = some (.getfield 24, 3) := by decide +kernel
theorem i40_4 : dxI 40 4 = some (.iload_n 1, 1) := by decide +kernel
theorem i40_5 : dxI 40 5 = some (.invokevirtual 87, 3) := by decide +kernel
theorem i40_8 : dxI 40 8 = some (.istore_n 2, 1) := by decide +kernel
theorem i40_9 : dxI 40 9 = some (.aload_n 0, 1) := by decide +kernel
theorem i40_10 : dxI 40 10 = some (.iload_n 1, 1) := by decide +kernel
theorem i40_11 : dxI 40 11 = some (.invokevirtual 62, 3) := by decide +kernel
theorem i40_14 : dxI 40 14 = some (.ifCond .eq 33, 3) := by decide +kernel
theorem i40_17 : dxI 40 17 = some (.iload_n 2, 1) := by decide +kernel
theorem i40_18 : dxI 40 18 = some (.iconst 2, 1) := by decide +kernel
theorem i40_19 : dxI 40 19 = some (.if_icmp .eq 28, 3) := by decide +kernel
theorem i40_22 : dxI 40 22 = some (.aload_n 0, 1) := by decide +kernel
theorem i40_23 : dxI 40 23 = some (.getfield 18, 3) := by decide +kernel
theorem i40_26 : dxI 40 26 = some (.iload_n 1, 1) := by decide +kernel
theorem i40_27 : dxI 40 27 = some (.iaload, 1) := by decide +kernel
theorem i40_28 : dxI 40 28 = some (.iload_n 2, 1) := by decide +kernel
theorem i40_29 : dxI 40 29 = some (.iconst 1, 1) := by decide +kernel
theorem i40_30 : dxI 40 30 = some (.if_icmp .ne 8, 3) := by decide +kernel
theorem i40_33 : dxI 40 33 = some (.bipush 9, 2) := by decide +kernel
theorem i40_35 : dxI 40 35 = some (.goto 5, 3) := by decide +kernel
theorem i40_38 : dxI 40 38 = some (.bipush 6, 2) := by decide +kernel
theorem i40_40 : dxI 40 40 = some (.if_icmp .lt 7, 3) := by decide +kernel
theorem i40_43 : dxI 40 43 = some (.iconst 1, 1) := by decide +kernel
theorem i40_44 : dxI 40 44 = some (.goto 4, 3) := by decide +kernel
theorem i40_47 : dxI 40 47 = some (.iconst 0, 1) := by decide +kernel
theorem i40_48 : dxI 40 48 = some (.ireturn, 1) := by decide +kernel
theorem i41_0 : dxI 41 0 = some (.aload_n 0, 1) := by decide +kernel
theorem i41_1 : dxI 41 1 = some (.iload_n 1, 1) := by decide +kernel
theorem i41_2 : dxI 41 2 = some (.invokevirtual 62, 3) := by decide +kernel
theorem i41_5 : dxI 41 5 = some (.ifCond .eq 29, 3) := by decide +kernel
theorem i41_8 : dxI 41 8 = some (.aload_n 0, 1) := by decide +kernel
theorem i41_9 : dxI 41 9 = some (.getfield 24, 3) := by decide +kernel
theorem i41_12 : dxI 41 12 = some (.iload_n 1, 1) := by decide +kernel
theorem i41_13 : dxI 41 13 = some (.invokevirtual 87, 3) := by decide +kernel
theorem i41_16 : dxI 41 16 = some (.iconst 3, 1) := by decide +kernel
theorem i41_17 : dxI 41 17 = some (.if_icmp .ne 17, 3) := by decide +kernel
theorem i41_20 : dxI 41 20 = some (.aload_n 0, 1) := by decide +kernel
theorem i41_21 : dxI 41 21 = some (.getfield 18, 3) := by decide +kernel
theorem i41_24 : dxI 41 24 = some (.iload_n 1, 1) := by decide +kernel
theorem i41_25 : dxI 41 25 = some (.iaload, 1) := by decide +kernel
theorem i41_26 : dxI 41 26 = some (.iconst 5, 1) := by decide +kernel
theorem i41_27 : dxI 41 27 = some (.if_icmp .ne 7, 3) := by decide +kernel
theorem i41_30 : dxI 41 30 = some (.iconst 1, 1) := by decide +kernel
theorem i41_31 : dxI 41 31 = some (.goto 4, 3) := by decide +kernel
theorem i41_34 : dxI 41 34 = some (.iconst 0, 1) := by decide +kernel
theorem i41_35 : dxI 41 35 = some (.ireturn, 1) := by decide +kernel
theorem i42_0 : dxI 42 0 = some (.aload_n 0, 1) := by decide +kernel
theorem i42_1 : dxI 42 1 = some (.getfield 32, 3) := by decide +kernel
theorem i42_4 : dxI 42 4 = some (.ifCond .eq 5, 3) := by decide +kernel
theorem i42_7 : dxI 42 7 = some (.iconst 3, 1) := by decide +kernel
theorem i42_8 : dxI 42 8 = some (.ireturn, 1) := by decide +kernel
theorem i42_9 : dxI 42 9 = some (.iload_n 1, 1) := by decide +kernel
theorem i42_10 : dxI 42 10 = some (.ifCond .eq 5, 3) := by decide +kernel
theorem i42_13 : dxI 42 13 = some (.iconst 1, 1) := by decide +kernel
theorem i42_14 : dxI 42 14 = some (.ireturn, 1) := by decide +kernel
theorem i42_15 : dxI 42 15 = some (.iconst 0, 1) := by decide +kernel
theorem i42_16 : dxI 42 16 = some (.istore_n 2, 1) := by decide +kernel
theorem i42_17 : dxI 42 17 = some (.iconst 0, 1) := by decide +kernel
theorem i42_18 : dxI 42 18 = some (.istore_n 3, 1) := by decide +kernel
theorem i42_19 : dxI 42 19 = some (.iload_n 3, 1) := by decide +kernel
theorem i42_20 : dxI 42 20 = some (.bipush 6, 2) := by decide +kernel
theorem i42_22 : dxI 42 22 = some (.if_icmp .ge 29, 3) := by decide +kernel
theorem i42_25 : dxI 42 25 = some (.aload_n 0, 1) := by decide +kernel
theorem i42_26 : dxI 42 26 = some (.iload_n 3, 1) := by decide +kernel
theorem i42_27 : dxI 42 27 = some (.invokevirtual 90, 3) := by decide +kernel
theorem i42_30 : dxI 42 30 = some (.ifCond .eq 5, 3) := by decide +kernel
theorem i42_33 : dxI 42 33 = some (.iconst 1, 1) := by decide +kernel
theorem i42_34 : dxI 42 34 = some (.ireturn, 1) := by decide +kernel
theorem i42_35 : dxI 42 35 = some (.aload_n 0, 1) := by decide +kernel
theorem i42_36 : dxI 42 36 = some (.iload_n 3, 1) := by decide +kernel
theorem i42_37 : dxI 42 37 = some (.invokevirtual 93, 3) := by decide +kernel
theorem i42_40 : dxI 42 40 = some (.ifCond .eq 5, 3) := by decide +kernel
theorem i42_43 : dxI 42 43 = some (.iconst 2, 1) := by decide +kernel
theorem i42_44 : dxI 42 44 = some (.istore_n 2, 1) := by decide +kernel
theorem i42_45 : dxI 42 45 = some (.iinc 3 1, 3) := by decide +kernel
theorem i42_48 : dxI 42 48 = some (.goto (-29), 3) := by decide +kernel
theorem i42_51 : dxI 42 51 = some (.iload_n 2, 1) := by decide +kernel
theorem i42_52 : dxI 42 52 = some (.ireturn, 1) := by decide +kernel
theorem i43_0 : dxI 43 0 = some (.aload_n 0, 1) := by decide +kernel
theorem i43_1 : dxI 43 1 = some (.iload_n 1, 1) := by decide +kernel
theorem i43_2 : dxI 43 2 = some (.invokevirtual 96, 3) := by decide +kernel
theorem i43_5 : dxI 43 5 = some (.istore_n 2, 1) := by decide +kernel
theorem i43_6 : dxI 43 6 = some (.iload_n 2, 1) := by decide +kernel
theorem i43_7 : dxI 43 7 = some (.iconst 1, 1) := by decide +kernel
theorem i43_8 : dxI 43 8 = some (.if_icmp .ne 7, 3) := by decide +kernel
theorem i43_11 : dxI 43 11 = some (.aload_n 0, 1) := by decide +kernel
theorem i43_12 : dxI 43 12 = some (.invokevirtual 100, 3) := by decide +kernel
theorem i43_15 : dxI 43 15 = some (.iload_n 2, 1) := by decide +kernel
theorem i43_16 : dxI 43 16 = some (.iconst 3, 1) := by decide +kernel
theorem i43_17 : dxI 43 17 = some (.if_icmp .eq 7, 3) := by decide +kernel
theorem i43_20 : dxI 43 20 = some (.aload_n 0, 1) := by decide +kernel
theorem i43_21 : dxI 43 21 = some (.invokevirtual 103, 3) := by decide +kernel
theorem i43_24 : dxI 43 24 = some (.iload_n 2, 1) := by decide +kernel
theorem i43_25 : dxI 43 25 = some (.ifCond .ne 13, 3) := by decide +kernel
theorem i43_28 : dxI 43 28 = some (.aload_n 0, 1) := by decide +kernel
theorem i43_29 : dxI 43 29 = some (.dup, 1) := by decide +kernel
theorem i43_30 : dxI 43 30 = some (.getfield 39, 3) := by decide +kernel
theorem i43_33 : dxI 43 33 = some (.iconst 1, 1) := by decide +kernel
theorem i43_34 : dxI 43 34 = some (.iadd, 1) := by decide +kernel
theorem i43_35 : dxI 43 35 = some (.putfield 39, 3) := by decide +kernel
theorem i43_38 : dxI 43 38 = some (.aload_n 0, 1) := by decide +kernel
theorem i43_39 : dxI 43 39 = some (.dup, 1) := by decide +kernel
theorem i43_40 : dxI 43 40 = some (.getfield 36, 3) := by decide +kernel
theorem i43_43 : dxI 43 43 = some (.iconst 1, 1) := by decide +kernel
theorem i43_44 : dxI 43 44 = some (.iadd, 1) := by decide +kernel
theorem i43_45 : dxI 43 45 = some (.putfield 36, 3) := by decide +kernel
theorem i43_48 : dxI 43 48 = some (.iload_n 2, 1) := by decide +kernel
theorem i43_49 : dxI 43 49 = some (.ireturn, 1) := by decide +kernel
theorem i44_0 : dxI 44 0 = some (.iconst 0, 1) := by decide +kernel
theorem i44_1 : dxI 44 1 = some (.istore_n 3, 1) := by decide +kernel
theorem i44_2 : dxI 44 2 = some (.iconst 0, 1) := by decide +kernel
theorem i44_3 : dxI 44 3 = some (.istore 4, 2) := by decide +kernel
theorem i44_5 : dxI 44 5 = some (.iload 4, 2) := by decide +kernel
theorem i44_7 : dxI 44 7 = some (.iload_n 2, 1) := by decide +kernel
theorem i44_8 : dxI 44 8 = some (.if_icmp .ge 21, 3) := by decide +kernel
theorem i44_11 : dxI 44 11 = some (.aload_n 0, 1) := by decide +kernel
theorem i44_12 : dxI 44 12 = some (.iconst 0, 1) := by decide +kernel
theorem i44_13 : dxI 44 13 = some (.invokevirtual 106, 3) := by decide +kernel
theorem i44_16 : dxI 44 16 = some (.iload_n 1, 1) := by decide +kernel
theorem i44_17 : dxI 44 17 = some (.if_icmp .ne 6, 3) := by decide +kernel
theorem i44_20 : dxI 44 20 = some (.iinc 3 1, 3) := by decide +kernel
theorem i44_23 : dxI 44 23 = some (.iinc 4 1, 3) := by decide +kernel
theorem i44_26 : dxI 44 26 = some (.goto (-21), 3) := by decide +kernel
theorem i44_29 : dxI 44 29 = some (.iload_n 3, 1) := by decide +kernel
theorem i44_30 : dxI 44 30 = some (.ireturn, 1) := by decide +kernel
theorem i45_0 : dxI 45 0 = some (.bipush (-9), 2) := by decide +kernel
theorem i45_2 : dxI 45 2 = some (.istore_n 2, 1) := by decide +kernel
theorem i45_3 : dxI 45 3 = some (.iconst 0, 1) := by decide +kernel
theorem i45_4 : dxI 45 4 = some (.istore_n 3, 1) := by decide +kernel
theorem i45_5 : dxI 45 5 = some (.iload_n 3, 1) := by decide +kernel
theorem i45_6 : dxI 45 6 = some (.iload_n 1, 1) := by decide +kernel
theorem i45_7 : dxI 45 7 = some (.if_icmp .ge 15, 3) := by decide +kernel
theorem i45_10 : dxI 45 10 = some (.aload_n 0, 1) := by decide +kernel
theorem i45_11 : dxI 45 11 = some (.iconst 0, 1) := by decide +kernel
theorem i45_12 : dxI 45 12 = some (.invokevirtual 106, 3) := by decide +kernel
theorem i45_15 : dxI 45 15 = some (.istore_n 2, 1) := by decide +kernel
theorem i45_16 : dxI 45 16 = some (.iinc 3 1, 3) := by decide +kernel
theorem i45_19 : dxI 45 19 = some (.goto (-14), 3) := by decide +kernel
theorem i45_22 : dxI 45 22 = some (.iload_n 2, 1) := by decide +kernel
theorem i45_23 : dxI 45 23 = some (.ireturn, 1) := by decide +kernel
theorem i46_0 : dxI 46 0 = some (.iconst 0, 1) := by decide +kernel
theorem i46_1 : dxI 46 1 = some (.istore_n 1, 1) := by decide +kernel
theorem i46_2 : dxI 46 2 = some (.iload_n 1, 1) := by decide +kernel
theorem i46_3 : dxI 46 3 = some (.bipush 6, 2) := by decide +kernel
theorem i46_5 : dxI 46 5 = some (.if_icmp .ge 55, 3) := by decide +kernel
theorem i46_8 : dxI 46 8 = some (.aload_n 0, 1) := by decide +kernel
theorem i46_9 : dxI 46 9 = some (.getfield 24, 3) := by decide +kernel
theorem i46_12 : dxI 46 12 = some (.iload_n 1, 1) := by decide +kernel
theorem i46_13 : dxI 46 13 = some (.invokevirtual 65, 3) := by decide +kernel
theorem i46_16 : dxI 46 16 = some (.istore_n 2, 1) := by decide +kernel
theorem i46_17 : dxI 46 17 = some (.aload_n 0, 1) := by decide +kernel
theorem i46_18 : dxI 46 18 = some (.iload_n 1, 1) := by decide +kernel
theorem i46_19 : dxI 46 19 = some (.invokevirtual 90, 3) := by decide +kernel
theorem i46_22 : dxI 46 22 = some (.ifCond .eq 32, 3) := by decide +kernel
theorem i46_25 : dxI 46 25 = some (.iload_n 2, 1) := by decide +kernel
theorem i46_26 : dxI 46 26 = some (.invokestatic 84, 3) := by decide +kernel
theorem i46_29 : dxI 46 29 = some (.ifCond .eq 25, 3) := by decide +kernel
theorem i46_32 : dxI 46 32 = some (.aload_n 0, 1) := by decide +kernel
theorem i46_33 : dxI 46 33 = some (.getfield 21, 3) := by decide +kernel
theorem i46_36 : dxI 46 36 = some (.iload_n 2, 1) := by decide +kernel
theorem i46_37 : dxI 46 37 = some (.dup2, 1) := by decide +kernel
theorem i46_38 : dxI 46 38 = some (.iaload, 1) := by decide +kernel
theorem i46_39 : dxI 46 39 = some (.aload_n 0, 1) := by decide +kernel
theorem i46_40 : dxI 46 40 = some (.getfield 18, 3) := by decide +kernel
theorem i46_43 : dxI 46 43 = some (.iload_n 1, 1) := by decide +kernel
theorem i46_44 : dxI 46 44 = some (.iaload, 1) := by decide +kernel
theorem i46_45 : dxI 46 45 = some (.iadd, 1) := by decide +kernel
theorem i46_46 : dxI 46 46 = some (.iastore, 1) := by decide +kernel
theorem i46_47 : dxI 46 47 = some (.aload_n 0, 1) := by decide +kernel
theorem i46_48 : dxI 46 48 = some (.getfield 18, 3) := by decide +kernel
theorem i46_51 : dxI 46 51 = some (.iload_n 1, 1) := by decide +kernel
theorem i46_52 : dxI 46 52 = some (.iconst 0, 1) := by decide +kernel
theorem i46_53 : dxI 46 53 = some (.iastore, 1) := by decide +kernel
theorem i46_54 : dxI 46 54 = some (.iinc 1 1, 3) := by decide +kernel
theorem i46_57 : dxI 46 57 = some (.goto (-55), 3) := by decide +kernel
theorem i46_60 : dxI 46 60 = some (.return_, 1) := by decide +kernel
theorem i47_0 : dxI 47 0 = some (.iconst 0, 1) := by decide +kernel
theorem i47_1 : dxI 47 1 = some (.istore_n 1, 1) := by decide +kernel
theorem i47_2 : dxI 47 2 = some (.iload_n 1, 1) := by decide +kernel
theorem i47_3 : dxI 47 3 = some (.bipush 6, 2) := by decide +kernel
theorem i47_5 : dxI 47 5 = some (.if_icmp .ge 65, 3) := by decide +kernel
theorem i47_8 : dxI 47 8 = some (.aload_n 0, 1) := by decide +kernel
theorem i47_9 : dxI 47 9 = some (.iload_n 1, 1) := by decide +kernel
theorem i47_10 : dxI 47 10 = some (.invokevirtual 109, 3) := by decide +kernel
theorem i47_13 : dxI 47 13 = some (.istore_n 2, 1) := by decide +kernel
theorem i47_14 : dxI 47 14 = some (.aload_n 0, 1) := by decide +kernel
theorem i47_15 : dxI 47 15 = some (.iload_n 2, 1) := by decide +kernel
theorem i47_16 : dxI 47 16 = some (.invokevirtual 112, 3) := by decide +kernel
theorem i47_19 : dxI 47 19 = some (.istore_n 3, 1) := by decide +kernel
theorem i47_20 : dxI 47 20 = some (.iload_n 3, 1) := by decide +kernel
theorem i47_21 : dxI 47 21 = some (.ifCond .le 43, 3) := by decide +kernel
theorem i47_24 : dxI 47 24 = some (.aload_n 0, 1) := by decide +kernel
theorem i47_25 : dxI 47 25 = some (.iload_n 2, 1) := by decide +kernel
theorem i47_26 : dxI 47 26 = some (.iload_n 3, 1) := by decide +kernel
theorem i47_27 : dxI 47 27 = some (.iconst 1, 1) := by decide +kernel
theorem i47_28 : dxI 47 28 = some (.isub, 1) := by decide +kernel
theorem i47_29 : dxI 47 29 = some (.invokevirtual 115, 3) := by decide +kernel
theorem i47_32 : dxI 47 32 = some (.aload_n 0, 1) := by decide +kernel
theorem i47_33 : dxI 47 33 = some (.getfield 18, 3) := by decide +kernel
theorem i47_36 : dxI 47 36 = some (.iload_n 1, 1) := by decide +kernel
theorem i47_37 : dxI 47 37 = some (.iaload, 1) := by decide +kernel
theorem i47_38 : dxI 47 38 = some (.iload_n 3, 1) := by decide +kernel
theorem i47_39 : dxI 47 39 = some (.iconst 5, 1) := by decide +kernel
theorem i47_40 : dxI 47 40 = some (.if_icmp .lt 7, 3) := by decide +kernel
theorem i47_43 : dxI 47 43 = some (.iconst 2, 1) := by decide +kernel
theorem i47_44 : dxI 47 44 = some (.goto 4, 3) := by decide +kernel
theorem i47_47 : dxI 47 47 = some (.iconst 1, 1) := by decide +kernel
theorem i47_48 : dxI 47 48 = some (.iadd, 1) := by decide +kernel
theorem i47_49 : dxI 47 49 = some (.istore 4, 2) := by decide +kernel
theorem i47_51 : dxI 47 51 = some (.aload_n 0, 1) := by decide +kernel
theorem i47_52 : dxI 47 52 = some (.getfield 18, 3) := by decide +kernel
theorem i47_55 : dxI 47 55 = some (.iload_n 1, 1) := by decide +kernel
theorem i47_56 : dxI 47 56 = some (.iload 4, 2) := by decide +kernel
theorem i47_58 : dxI 47 58 = some (.bipush 9, 2) := by decide +kernel
theorem i47_60 : dxI 47 60 = some (.invokestatic 118, 3) := by decide +kernel
theorem i47_63 : dxI 47 63 = some (.iastore, 1) := by decide +kernel
theorem i47_64 : dxI 47 64 = some (.iinc 1 1, 3) := by decide +kernel
theorem i47_67 : dxI 47 67 = some (.goto (-65), 3) := by decide +kernel
theorem i47_70 : dxI 47 70 = some (.return_, 1) := by decide +kernel
theorem i48_0 : dxI 48 0 = some (.aload_n 0, 1) := by decide +kernel
theorem i48_1 : dxI 48 1 = some (.invokespecial 3, 3) := by decide +kernel
theorem i48_4 : dxI 48 4 = some (.aload_n 0, 1) := by decide +kernel
theorem i48_5 : dxI 48 5 = some (.bipush 64, 2) := by decide +kernel
theorem i48_7 : dxI 48 7 = some (.newarray .int, 2) := by decide +kernel
theorem i48_9 : dxI 48 9 = some (.putfield 9, 3) := by decide +kernel
theorem i48_12 : dxI 48 12 = some (.return_, 1) := by decide +kernel
theorem i49_0 : dxI 49 0 = some (.aload_n 0, 1) := by decide +kernel
theorem i49_1 : dxI 49 1 = some (.getfield 15, 3) := by decide +kernel
theorem i49_4 : dxI 49 4 = some (.ireturn, 1) := by decide +kernel
theorem i50_0 : dxI 50 0 = some (.aload_n 0, 1) := by decide +kernel
theorem i50_1 : dxI 50 1 = some (.iconst 0, 1) := by decide +kernel
theorem i50_2 : dxI 50 2 = some (.putfield 15, 3) := by decide +kernel
theorem i50_5 : dxI 50 5 = some (.return_, 1) := by decide +kernel
theorem i51_0 : dxI 51 0 = some (.aload_n 0, 1) := by decide +kernel
theorem i51_1 : dxI 51 1 = some (.getfield 15, 3) := by decide +kernel
theorem i51_4 : dxI 51 4 = some (.bipush 64, 2) := by decide +kernel
theorem i51_6 : dxI 51 6 = some (.if_icmp .lt 5, 3) := by decide +kernel
theorem i51_9 : dxI 51 9 = some (.iconst 0, 1) := by decide +kernel
theorem i51_10 : dxI 51 10 = some (.ireturn, 1) := by decide +kernel
theorem i51_11 : dxI 51 11 = some (.aload_n 0, 1) := by decide +kernel
theorem i51_12 : dxI 51 12 = some (.getfield 9, 3) := by decide +kernel
theorem i51_15 : dxI 51 15 = some (.aload_n 0, 1) := by decide +kernel
theorem i51_16 : dxI 51 16 = some (.getfield 15, 3) := by decide +kernel
theorem i51_19 : dxI 51 19 = some (.iload_n 1, 1) := by decide +kernel
theorem i51_20 : dxI 51 20 = some (.iastore, 1) := by decide +kernel
theorem i51_21 : dxI 51 21 = some (.aload_n 0, 1) := by decide +kernel
theorem i51_22 : dxI 51 22 = some (.dup, 1) := by decide +kernel
theorem i51_23 : dxI 51 23 = some (.getfield 15, 3) := by decide +kernel
theorem i51_26 : dxI 51 26 = some (.iconst 1, 1) := by decide +kernel
theorem i51_27 : dxI 51 27 = some (.iadd, 1) := by decide +kernel
theorem i51_28 : dxI 51 28 = some (.putfield 15, 3) := by decide +kernel
theorem i51_31 : dxI 51 31 = some (.iconst 1, 1) := by decide +kernel
theorem i51_32 : dxI 51 32 = some (.ireturn, 1) := by decide +kernel
theorem i52_0 : dxI 52 0 = some (.iload_n 1, 1) := by decide +kernel
theorem i52_1 : dxI 52 1 = some (.ifCond .lt 26, 3) := by decide +kernel
theorem i52_4 : dxI 52 4 = some (.iload_n 1, 1) := by decide +kernel
theorem i52_5 : dxI 52 5 = some (.aload_n 0, 1) := by decide +kernel
theorem i52_6 : dxI 52 6 = some (.getfield 15, 3) := by decide +kernel
theorem i52_9 : dxI 52 9 = some (.if_icmp .ge 18, 3) := by decide +kernel
theorem i52_12 : dxI 52 12 = some (.iload_n 1, 1) := by decide +kernel
theorem i52_13 : dxI 52 13 = some (.bipush 64, 2) := by decide +kernel
theorem i52_15 : dxI 52 15 = some (.if_icmp .ge 12, 3) := by decide +kernel
theorem i52_18 : dxI 52 18 = some (.aload_n 0, 1) := by decide +kernel
theorem i52_19 : dxI 52 19 = some (.getfield 9, 3) := by decide +kernel
theorem i52_22 : dxI 52 22 = some (.iload_n 1, 1) := by decide +kernel
theorem i52_23 : dxI 52 23 = some (.iaload, 1) := by decide +kernel
theorem i52_24 : dxI 52 24 = some (.goto 5, 3) := by decide +kernel
theorem i52_27 : dxI 52 27 = some (.bipush (-9), 2) := by decide +kernel
theorem i52_29 : dxI 52 29 = some (.ireturn, 1) := by decide +kernel
theorem i53_0 : dxI 53 0 = some (.aload_n 0, 1) := by decide +kernel
theorem i53_1 : dxI 53 1 = some (.iload_n 1, 1) := by decide +kernel
theorem i53_2 : dxI 53 2 = some (.invokevirtual 19, 3) := by decide +kernel
theorem i53_5 : dxI 53 5 = some (.istore_n 2, 1) := by decide +kernel
theorem i53_6 : dxI 53 6 = some (.iload_n 2, 1) := by decide +kernel
theorem i53_7 : dxI 53 7 = some (.bipush 48, 2) := by decide +kernel
theorem i53_9 : dxI 53 9 = some (.if_icmp .lt 16, 3) := by decide +kernel
theorem i53_12 : dxI 53 12 = some (.iload_n 2, 1) := by decide +kernel
theorem i53_13 : dxI 53 13 = some (.bipush 57, 2) := by decide +kernel
theorem i53_15 : dxI 53 15 = some (.if_icmp .gt 10, 3) := by decide +kernel
theorem i53_18 : dxI 53 18 = some (.iload_n 2, 1) := by decide +kernel
theorem i53_19 : dxI 53 19 = some (.bipush 48, 2) := by decide +kernel
theorem i53_21 : dxI 53 21 = some (.isub, 1) := by decide +kernel
theorem i53_22 : dxI 53 22 = some (.goto 5, 3) := by decide +kernel
theorem i53_25 : dxI 53 25 = some (.bipush (-9), 2) := by decide +kernel
theorem i53_27 : dxI 53 27 = some (.ireturn, 1) := by decide +kernel
theorem i54_0 : dxI 54 0 = some (.aload_n 0, 1) := by decide +kernel
theorem i54_1 : dxI 54 1 = some (.iconst 0, 1) := by decide +kernel
theorem i54_2 : dxI 54 2 = some (.invokevirtual 19, 3) := by decide +kernel
theorem i54_5 : dxI 54 5 = some (.bipush 77, 2) := by decide +kernel
theorem i54_7 : dxI 54 7 = some (.if_icmp .eq 5, 3) := by decide +kernel
theorem i54_10 : dxI 54 10 = some (.iconst 0, 1) := by decide +kernel
theorem i54_11 : dxI 54 11 = some (.ireturn, 1) := by decide +kernel
theorem i54_12 : dxI 54 12 = some (.iconst 0, 1) := by decide +kernel
theorem i54_13 : dxI 54 13 = some (.istore_n 1, 1) := by decide +kernel
theorem i54_14 : dxI 54 14 = some (.iconst 0, 1) := by decide +kernel
theorem i54_15 : dxI 54 15 = some (.istore_n 2, 1) := by decide +kernel
theorem i54_16 : dxI 54 16 = some (.iconst 1, 1) := by decide +kernel
theorem i54_17 : dxI 54 17 = some (.istore_n 3, 1) := by decide +kernel
theorem i54_18 : dxI 54 18 = some (.iconst 0, 1) := by decide +kernel
theorem i54_19 : dxI 54 19 = some (.istore 4, 2) := by decide +kernel
theorem i54_21 : dxI 54 21 = some (.iload 4, 2) := by decide +kernel
theorem i54_23 : dxI 54 23 = some (.bipush 64, 2) := by decide +kernel
theorem i54_25 : dxI 54 25 = some (.if_icmp .ge 166, 3) := by decide +kernel
theorem i54_28 : dxI 54 28 = some (.iload_n 3, 1) := by decide +kernel
theorem i54_29 : dxI 54 29 = some (.aload_n 0, 1) := by decide +kernel
theorem i54_30 : dxI 54 30 = some (.getfield 15, 3) := by decide +kernel
theorem i54_33 : dxI 54 33 = some (.if_icmp .ge 158, 3) := by decide +kernel
theorem i54_36 : dxI 54 36 = some (.aload_n 0, 1) := by decide +kernel
theorem i54_37 : dxI 54 37 = some (.iload_n 3, 1) := by decide +kernel
theorem i54_38 : dxI 54 38 = some (.invokevirtual 19, 3) := by decide +kernel
theorem i54_41 : dxI 54 41 = some (.bipush 71, 2) := by decide +kernel
theorem i54_43 : dxI 54 43 = some (.if_icmp .ne 7, 3) := by decide +kernel
theorem i54_46 : dxI 54 46 = some (.iconst 1, 1) := by decide +kernel
theorem i54_47 : dxI 54 47 = some (.goto 4, 3) := by decide +kernel
theorem i54_50 : dxI 54 50 = some (.iconst 0, 1) := by decide +kernel
theorem i54_51 : dxI 54 51 = some (.istore 5, 2) := by decide +kernel
theorem i54_53 : dxI 54 53 = some (.iload 5, 2) := by decide +kernel
theorem i54_55 : dxI 54 55 = some (.ifCond .eq 13, 3) := by decide +kernel
theorem i54_58 : dxI 54 58 = some (.iload_n 1, 1) := by decide +kernel
theorem i54_59 : dxI 54 59 = some (.sipush 1023, 3) := by decide +kernel
theorem i54_62 : dxI 54 62 = some (.if_icmp .ne 27, 3) := by decide +kernel
theorem i54_65 : dxI 54 65 = some (.goto 22, 3) := by decide +kernel
theorem i54_68 : dxI 54 68 = some (.aload_n 0, 1) := by decide +kernel
theorem i54_69 : dxI 54 69 = some (.iload_n 3, 1) := by decide +kernel
theorem i54_70 : dxI 54 70 = some (.invokevirtual 19, 3) := by decide +kernel
theorem i54_73 : dxI 54 73 = some (.bipush 75, 2) := by decide +kernel
theorem i54_75 : dxI 54 75 = some (.if_icmp .ne 12, 3) := by decide +kernel
theorem i54_78 : dxI 54 78 = some (.iload_n 2, 1) := by decide +kernel
theorem i54_79 : dxI 54 79 = some (.invokestatic 23, 3) := by decide +kernel
theorem i54_82 : dxI 54 82 = some (.bipush 6, 2) := by decide +kernel
theorem i54_84 : dxI 54 84 = some (.if_icmp .lt 5, 3) := by decide +kernel
theorem i54_87 : dxI 54 87 = some (.iload_n 3, 1) := by decide +kernel
theorem i54_88 : dxI 54 88 = some (.ireturn, 1) := by decide +kernel
theorem i54_89 : dxI 54 89 = some (.iload 5, 2) := by decide +kernel
theorem i54_91 : dxI 54 91 = some (.ifCond .eq 18, 3) := by decide +kernel
theorem i54_94 : dxI 54 94 = some (.aload_n 0, 1) := by decide +kernel
theorem i54_95 : dxI 54 95 = some (.iload_n 3, 1) := by decide +kernel
theorem i54_96 : dxI 54 96 = some (.getstatic 28, 3) := by decide +kernel
theorem i54_99 : dxI 54 99 = some (.getstatic 31, 3) := by decide +kernel
theorem i54_102 : dxI 54 102 = some (.iload_n 1, 1) := by decide +kernel
theorem i54_103 : dxI 54 103 = some (.invokevirtual 34, 3) := by decide +kernel
theorem i54_106 : dxI 54 106 = some (.goto 15, 3) := by decide +kernel
theorem i54_109 : dxI 54 109 = some (.aload_n 0, 1) := by decide +kernel
theorem i54_110 : dxI 54 110 = some (.iload_n 3, 1) := by decide +kernel
theorem i54_111 : dxI 54 111 = some (.getstatic 38, 3) := by decide +kernel
theorem i54_114 : dxI 54 114 = some (.getstatic 41, 3) := by decide +kernel
theorem i54_117 : dxI 54 117 = some (.iload_n 2, 1) := by decide +kernel
theorem i54_118 : dxI 54 118 = some (.invokevirtual 34, 3) := by decide +kernel
theorem i54_121 : dxI 54 121 = some (.istore 6, 2) := by decide +kernel
theorem i54_123 : dxI 54 123 = some (.iload 6, 2) := by decide +kernel
theorem i54_125 : dxI 54 125 = some (.bipush (-9), 2) := by decide +kernel
theorem i54_127 : dxI 54 127 = some (.if_icmp .eq 6, 3) := by decide +kernel
theorem i54_130 : dxI 54 130 = some (.iload 6, 2) := by decide +kernel
theorem i54_132 : dxI 54 132 = some (.ireturn, 1) := by decide +kernel
theorem i54_133 : dxI 54 133 = some (.iconst 1, 1) := by decide +kernel
theorem i54_134 : dxI 54 134 = some (.aload_n 0, 1) := by decide +kernel
theorem i54_135 : dxI 54 135 = some (.iload_n 3, 1) := by decide +kernel
theorem i54_136 : dxI 54 136 = some (.iconst 1, 1) := by decide +kernel
theorem i54_137 : dxI 54 137 = some (.iadd, 1) := by decide +kernel
theorem i54_138 : dxI 54 138 = some (.invokevirtual 44, 3) := by decide +kernel
theorem i54_141 : dxI 54 141 = some (.ishl, 1) := by decide +kernel
theorem i54_142 : dxI 54 142 = some (.istore 7, 2) := by decide +kernel
theorem i54_144 : dxI 54 144 = some (.iload_n 1, 1) := by decide +kernel
theorem i54_145 : dxI 54 145 = some (.iload 5, 2) := by decide +kernel
theorem i54_147 : dxI 54 147 = some (.ifCond .eq 8, 3) := by decide +kernel
theorem i54_150 : dxI 54 150 = some (.iload 7, 2) := by decide +kernel
theorem i54_152 : dxI 54 152 = some (.goto 4, 3) := by decide +kernel
theorem i54_155 : dxI 54 155 = some (.iconst 0, 1) := by decide +kernel
theorem i54_156 : dxI 54 156 = some (.ior, 1) := by decide +kernel
theorem i54_157 : dxI 54 157 = some (.istore_n 1, 1) := by decide +kernel
theorem i54_158 : dxI 54 158 = some (.iload_n 2, 1) := by decide +kernel
theorem i54_159 : dxI 54 159 = some (.iload 5, 2) := by decide +kernel
theorem i54_161 : dxI 54 161 = some (.ifCond .eq 7, 3) := by decide +kernel
theorem i54_164 : dxI 54 164 = some (.iconst 0, 1) := by decide +kernel
theorem i54_165 : dxI 54 165 = some (.goto 5, 3) := by decide +kernel
theorem i54_168 : dxI 54 168 = some (.iload 7, 2) := by decide +kernel
theorem i54_170 : dxI 54 170 = some (.ior, 1) := by decide +kernel
theorem i54_171 : dxI 54 171 = some (.istore_n 2, 1) := by decide +kernel
theorem i54_172 : dxI 54 172 = some (.iload_n 3, 1) := by decide +kernel
theorem i54_173 : dxI 54 173 = some (.iload 5, 2) := by decide +kernel
theorem i54_175 : dxI 54 175 = some (.ifCond .eq 7, 3) := by decide +kernel
theorem i54_178 : dxI 54 178 = some (.iconst 3, 1) := by decide +kernel
theorem i54_179 : dxI 54 179 = some (.goto 4, 3) := by decide +kernel
theorem i54_182 : dxI 54 182 = some (.iconst 5, 1) := by decide +kernel
theorem i54_183 : dxI 54 183 = some (.iadd, 1) := by decide +kernel
theorem i54_184 : dxI 54 184 = some (.istore_n 3, 1) := by decide +kernel
theorem i54_185 : dxI 54 185 = some (.iinc 4 1, 3) := by decide +kernel
theorem i54_188 : dxI 54 188 = some (.goto (-167), 3) := by decide +kernel
theorem i54_191 : dxI 54 191 = some (.bipush (-9), 2) := by decide +kernel
theorem i54_193 : dxI 54 193 = some (.ireturn, 1) := by decide +kernel
theorem i55_0 : dxI 55 0 = some (.iconst 0, 1) := by decide +kernel
theorem i55_1 : dxI 55 1 = some (.istore 5, 2) := by decide +kernel
theorem i55_3 : dxI 55 3 = some (.iload 5, 2) := by decide +kernel
theorem i55_5 : dxI 55 5 = some (.aload_n 2, 1) := by decide +kernel
theorem i55_6 : dxI 55 6 = some (.arraylength, 1) := by decide +kernel
theorem i55_7 : dxI 55 7 = some (.if_icmp .ge 100, 3) := by decide +kernel
theorem i55_10 : dxI 55 10 = some (.iload 5, 2) := by decide +kernel
theorem i55_12 : dxI 55 12 = some (.aload_n 3, 1) := by decide +kernel
theorem i55_13 : dxI 55 13 = some (.arraylength, 1) := by decide +kernel
theorem i55_14 : dxI 55 14 = some (.if_icmp .ge 93, 3) := by decide +kernel
theorem i55_17 : dxI 55 17 = some (.iload_n 1, 1) := by decide +kernel
theorem i55_18 : dxI 55 18 = some (.iconst 1, 1) := by decide +kernel
theorem i55_19 : dxI 55 19 = some (.iadd, 1) := by decide +kernel
theorem i55_20 : dxI 55 20 = some (.iload 5, 2) := by decide +kernel
theorem i55_22 : dxI 55 22 = some (.iadd, 1) := by decide +kernel
theorem i55_23 : dxI 55 23 = some (.istore 6, 2) := by decide +kernel
theorem i55_25 : dxI 55 25 = some (.iload 6, 2) := by decide +kernel
theorem i55_27 : dxI 55 27 = some (.aload_n 0, 1) := by decide +kernel
theorem i55_28 : dxI 55 28 = some (.getfield 15, 3) := by decide +kernel
theorem i55_31 : dxI 55 31 = some (.if_icmp .lt 8, 3) := by decide +kernel
theorem i55_34 : dxI 55 34 = some (.aload_n 0, 1) := by decide +kernel
theorem i55_35 : dxI 55 35 = some (.getfield 15, 3) := by decide +kernel
theorem i55_38 : dxI 55 38 = some (.ireturn, 1) := by decide +kernel
theorem i55_39 : dxI 55 39 = some (.aload_n 0, 1) := by decide +kernel
theorem i55_40 : dxI 55 40 = some (.iload 6, 2) := by decide +kernel
theorem i55_42 : dxI 55 42 = some (.invokevirtual 44, 3) := by decide +kernel
theorem i55_45 : dxI 55 45 = some (.istore 7, 2) := by decide +kernel
theorem i55_47 : dxI 55 47 = some (.iload 5, 2) := by decide +kernel
theorem i55_49 : dxI 55 49 = some (.ifCond .ne 23, 3) := by decide +kernel
theorem i55_52 : dxI 55 52 = some (.iload 7, 2) := by decide +kernel
theorem i55_54 : dxI 55 54 = some (.ifCond .lt 18, 3) := by decide +kernel
theorem i55_57 : dxI 55 57 = some (.iload 4, 2) := by decide +kernel
theorem i55_59 : dxI 55 59 = some (.iload 7, 2) := by decide +kernel
theorem i55_61 : dxI 55 61 = some (.ishr, 1) := by decide +kernel
theorem i55_62 : dxI 55 62 = some (.iconst 1, 1) := by decide +kernel
theorem i55_63 : dxI 55 63 = some (.iand, 1) := by decide +kernel
theorem i55_64 : dxI 55 64 = some (.iconst 1, 1) := by decide +kernel
theorem i55_65 : dxI 55 65 = some (.if_icmp .ne 7, 3) := by decide +kernel
theorem i55_68 : dxI 55 68 = some (.iconst 1, 1) := by decide +kernel
theorem i55_69 : dxI 55 69 = some (.goto 4, 3) := by decide +kernel
theorem i55_72 : dxI 55 72 = some (.iconst 0, 1) := by decide +kernel
theorem i55_73 : dxI 55 73 = some (.istore 8, 2) := by decide +kernel
theorem i55_75 : dxI 55 75 = some (.iload 7, 2) := by decide +kernel
theorem i55_77 : dxI 55 77 = some (.aload_n 2, 1) := by decide +kernel
theorem i55_78 : dxI 55 78 = some (.iload 5, 2) := by decide +kernel
theorem i55_80 : dxI 55 80 = some (.iaload, 1) := by decide +kernel
theorem i55_81 : dxI 55 81 = some (.if_icmp .lt 17, 3) := by decide +kernel
theorem i55_84 : dxI 55 84 = some (.iload 7, 2) := by decide +kernel
theorem i55_86 : dxI 55 86 = some (.aload_n 3, 1) := by decide +kernel
theorem i55_87 : dxI 55 87 = some (.iload 5, 2) := by decide +kernel
theorem i55_89 : dxI 55 89 = some (.iaload, 1) := by decide +kernel
theorem i55_90 : dxI 55 90 = some (.if_icmp .gt 8, 3) := by decide +kernel
theorem i55_93 : dxI 55 93 = some (.iload 8, 2) := by decide +kernel
theorem i55_95 : dxI 55 95 = some (.ifCond .eq 6, 3) := by decide +kernel
theorem i55_98 : dxI 55 98 = some (.iload 6, 2) := by decide +kernel
theorem i55_100 : dxI 55 100 = some (.ireturn, 1) := by decide +kernel
theorem i55_101 : dxI 55 101 = some (.iinc 5 1, 3) := by decide +kernel
theorem i55_104 : dxI 55 104 = some (.goto (-101), 3) := by decide +kernel
theorem i55_107 : dxI 55 107 = some (.bipush (-9), 2) := by decide +kernel
theorem i55_109 : dxI 55 109 = some (.ireturn, 1) := by decide +kernel
theorem i56_0 : dxI 56 0 = some (.iconst 1, 1) := by decide +kernel
theorem i56_1 : dxI 56 1 = some (.istore_n 2, 1) := by decide +kernel
theorem i56_2 : dxI 56 2 = some (.iconst 0, 1) := by decide +kernel
theorem i56_3 : dxI 56 3 = some (.istore_n 3, 1) := by decide +kernel
theorem i56_4 : dxI 56 4 = some (.iload_n 3, 1) := by decide +kernel
theorem i56_5 : dxI 56 5 = some (.bipush 64, 2) := by decide +kernel
theorem i56_7 : dxI 56 7 = some (.if_icmp .ge 86, 3) := by decide +kernel
theorem i56_10 : dxI 56 10 = some (.iload_n 2, 1) := by decide +kernel
theorem i56_11 : dxI 56 11 = some (.aload_n 0, 1) := by decide +kernel
theorem i56_12 : dxI 56 12 = some (.getfield 15, 3) := by decide +kernel
theorem i56_15 : dxI 56 15 = some (.if_icmp .ge 78, 3) := by decide +kernel
theorem i56_18 : dxI 56 18 = some (.aload_n 0, 1) := by decide +kernel
theorem i56_19 : dxI 56 19 = some (.iload_n 2, 1) := by decide +kernel
theorem i56_20 : dxI 56 20 = some (.invokevirtual 19, 3) := by decide +kernel
theorem i56_23 : dxI 56 23 = some (.bipush 71, 2) := by decide +kernel
theorem i56_25 : dxI 56 25 = some (.if_icmp .ne 27, 3) := by decide +kernel
theorem i56_28 : dxI 56 28 = some (.aload_n 1, 1) := by decide +kernel
theorem i56_29 : dxI 56 29 = some (.aload_n 0, 1) := by decide +kernel
theorem i56_30 : dxI 56 30 = some (.iload_n 2, 1) := by decide +kernel
theorem i56_31 : dxI 56 31 = some (.iconst 1, 1) := by decide +kernel
theorem i56_32 : dxI 56 32 = some (.iadd, 1) := by decide +kernel
theorem i56_33 : dxI 56 33 = some (.invokevirtual 44, 3) := by decide +kernel
theorem i56_36 : dxI 56 36 = some (.aload_n 0, 1) := by decide +kernel
theorem i56_37 : dxI 56 37 = some (.iload_n 2, 1) := by decide +kernel
theorem i56_38 : dxI 56 38 = some (.iconst 2, 1) := by decide +kernel
theorem i56_39 : dxI 56 39 = some (.iadd, 1) := by decide +kernel
theorem i56_40 : dxI 56 40 = some (.invokevirtual 44, 3) := by decide +kernel
theorem i56_43 : dxI 56 43 = some (.invokevirtual 47, 3) := by decide +kernel
theorem i56_46 : dxI 56 46 = some (.iinc 2 3, 3) := by decide +kernel
theorem i56_49 : dxI 56 49 = some (.goto 38, 3) := by decide +kernel
theorem i56_52 : dxI 56 52 = some (.aload_n 1, 1) := by decide +kernel
theorem i56_53 : dxI 56 53 = some (.aload_n 0, 1) := by decide +kernel
theorem i56_54 : dxI 56 54 = some (.iload_n 2, 1) := by decide +kernel
theorem i56_55 : dxI 56 55 = some (.iconst 1, 1) := by decide +kernel
theorem i56_56 : dxI 56 56 = some (.iadd, 1) := by decide +kernel
theorem i56_57 : dxI 56 57 = some (.invokevirtual 44, 3) := by decide +kernel
theorem i56_60 : dxI 56 60 = some (.aload_n 0, 1) := by decide +kernel
theorem i56_61 : dxI 56 61 = some (.iload_n 2, 1) := by decide +kernel
theorem i56_62 : dxI 56 62 = some (.iconst 2, 1) := by decide +kernel
theorem i56_63 : dxI 56 63 = some (.iadd, 1) := by decide +kernel
theorem i56_64 : dxI 56 64 = some (.invokevirtual 44, 3) := by decide +kernel
theorem i56_67 : dxI 56 67 = some (.aload_n 0, 1) := by decide +kernel
theorem i56_68 : dxI 56 68 = some (.iload_n 2, 1) := by decide +kernel
theorem i56_69 : dxI 56 69 = some (.iconst 3, 1) := by decide +kernel
theorem i56_70 : dxI 56 70 = some (.iadd, 1) := by decide +kernel
theorem i56_71 : dxI 56 71 = some (.invokevirtual 44, 3) := by decide +kernel
theorem i56_74 : dxI 56 74 = some (.aload_n 0, 1) := by decide +kernel
theorem i56_75 : dxI 56 75 = some (.iload_n 2, 1) := by decide +kernel
theorem i56_76 : dxI 56 76 = some (.iconst 4, 1) := by decide +kernel
theorem i56_77 : dxI 56 77 = some (.iadd, 1) := by decide +kernel
theorem i56_78 : dxI 56 78 = some (.invokevirtual 44, 3) := by decide +kernel
theorem i56_81 : dxI 56 81 = some (.invokevirtual 53, 3) := by decide +kernel
theorem i56_84 : dxI 56 84 = some (.iinc 2 5, 3) := by decide +kernel
theorem i56_87 : dxI 56 87 = some (.iinc 3 1, 3) := by decide +kernel
theorem i56_90 : dxI 56 90 = some (.goto (-86), 3) := by decide +kernel
theorem i56_93 : dxI 56 93 = some (.return_, 1) := by decide +kernel
theorem i57_0 : dxI 57 0 = some (.aload_n 0, 1) := by decide +kernel
theorem i57_1 : dxI 57 1 = some (.invokespecial 1, 3) := by decide +kernel
theorem i57_4 : dxI 57 4 = some (.aload_n 0, 1) := by decide +kernel
theorem i57_5 : dxI 57 5 = some (.iload_n 1, 1) := by decide +kernel
theorem i57_6 : dxI 57 6 = some (.iconst 0, 1) := by decide +kernel
theorem i57_7 : dxI 57 7 = some (.invokestatic 7, 3) := by decide +kernel
theorem i57_10 : dxI 57 10 = some (.anewarray 13, 3) := by decide +kernel
theorem i57_13 : dxI 57 13 = some (.putfield 15, 3) := by decide +kernel
theorem i57_16 : dxI 57 16 = some (.iconst 0, 1) := by decide +kernel
theorem i57_17 : dxI 57 17 = some (.istore_n 3, 1) := by decide +kernel
theorem i57_18 : dxI 57 18 = some (.iload_n 3, 1) := by decide +kernel
theorem i57_19 : dxI 57 19 = some (.aload_n 0, 1) := by decide +kernel
theorem i57_20 : dxI 57 20 = some (.getfield 15, 3) := by decide +kernel
theorem i57_23 : dxI 57 23 = some (.arraylength, 1) := by decide +kernel
theorem i57_24 : dxI 57 24 = some (.if_icmp .ge 23, 3) := by decide +kernel
theorem i57_27 : dxI 57 27 = some (.aload_n 0, 1) := by decide +kernel
theorem i57_28 : dxI 57 28 = some (.getfield 15, 3) := by decide +kernel
theorem i57_31 : dxI 57 31 = some (.iload_n 3, 1) := by decide +kernel
theorem i57_32 : dxI 57 32 = some (.new 13, 3) := by decide +kernel
theorem i57_35 : dxI 57 35 = some (.dup, 1) := by decide +kernel
theorem i57_36 : dxI 57 36 = some (.aload_n 2, 1) := by decide +kernel
theorem i57_37 : dxI 57 37 = some (.invokespecial 21, 3) := by decide +kernel
theorem i57_40 : dxI 57 40 = some (.aastore, 1) := by decide +kernel
theorem i57_41 : dxI 57 41 = some (.iinc 3 1, 3) := by decide +kernel
theorem i57_44 : dxI 57 44 = some (.goto (-26), 3) := by decide +kernel
theorem i57_47 : dxI 57 47 = some (.return_, 1) := by decide +kernel
theorem i58_0 : dxI 58 0 = some (.iload_n 1, 1) := by decide +kernel
theorem i58_1 : dxI 58 1 = some (.ifCond .lt 21, 3) := by decide +kernel
theorem i58_4 : dxI 58 4 = some (.iload_n 1, 1) := by decide +kernel
theorem i58_5 : dxI 58 5 = some (.aload_n 0, 1) := by decide +kernel
theorem i58_6 : dxI 58 6 = some (.getfield 15, 3) := by decide +kernel
theorem i58_9 : dxI 58 9 = some (.arraylength, 1) := by decide +kernel
theorem i58_10 : dxI 58 10 = some (.if_icmp .ge 12, 3) := by decide +kernel
theorem i58_13 : dxI 58 13 = some (.aload_n 0, 1) := by decide +kernel
theorem i58_14 : dxI 58 14 = some (.getfield 15, 3) := by decide +kernel
theorem i58_17 : dxI 58 17 = some (.iload_n 1, 1) := by decide +kernel
theorem i58_18 : dxI 58 18 = some (.aaload, 1) := by decide +kernel
theorem i58_19 : dxI 58 19 = some (.goto 4, 3) := by decide +kernel
theorem i58_22 : dxI 58 22 = some (.aconst_null, 1) := by decide +kernel
theorem i58_23 : dxI 58 23 = some (.areturn, 1) := by decide +kernel
theorem i59_0 : dxI 59 0 = some (.aload_n 0, 1) := by decide +kernel
theorem i59_1 : dxI 59 1 = some (.iload_n 1, 1) := by decide +kernel
theorem i59_2 : dxI 59 2 = some (.invokevirtual 24, 3) := by decide +kernel
theorem i59_5 : dxI 59 5 = some (.astore_n 3, 1) := by decide +kernel
theorem i59_6 : dxI 59 6 = some (.aload_n 3, 1) := by decide +kernel
theorem i59_7 : dxI 59 7 = some (.ifnull 8, 3) := by decide +kernel
theorem i59_10 : dxI 59 10 = some (.aload_n 3, 1) := by decide +kernel
theorem i59_11 : dxI 59 11 = some (.aload_n 2, 1) := by decide +kernel
theorem i59_12 : dxI 59 12 = some (.invokevirtual 28, 3) := by decide +kernel
theorem i59_15 : dxI 59 15 = some (.return_, 1) := by decide +kernel
theorem i60_0 : dxI 60 0 = some (.aload_n 0, 1) := by decide +kernel
theorem i60_1 : dxI 60 1 = some (.iload_n 1, 1) := by decide +kernel
theorem i60_2 : dxI 60 2 = some (.invokevirtual 24, 3) := by decide +kernel
theorem i60_5 : dxI 60 5 = some (.astore_n 3, 1) := by decide +kernel
theorem i60_6 : dxI 60 6 = some (.aload_n 3, 1) := by decide +kernel
theorem i60_7 : dxI 60 7 = some (.ifnull 8, 3) := by decide +kernel
theorem i60_10 : dxI 60 10 = some (.aload_n 2, 1) := by decide +kernel
theorem i60_11 : dxI 60 11 = some (.aload_n 3, 1) := by decide +kernel
theorem i60_12 : dxI 60 12 = some (.invokevirtual 28, 3) := by decide +kernel
theorem i60_15 : dxI 60 15 = some (.return_, 1) := by decide +kernel
theorem i61_0 : dxI 61 0 = some (.aload_n 0, 1) := by decide +kernel
theorem i61_1 : dxI 61 1 = some (.invokespecial 3, 3) := by decide +kernel
theorem i61_4 : dxI 61 4 = some (.aload_n 0, 1) := by decide +kernel
theorem i61_5 : dxI 61 5 = some (.bipush 6, 2) := by decide +kernel
theorem i61_7 : dxI 61 7 = some (.newarray .int, 2) := by decide +kernel
theorem i61_9 : dxI 61 9 = some (.putfield 9, 3) := by decide +kernel
theorem i61_12 : dxI 61 12 = some (.aload_n 0, 1) := by decide +kernel
theorem i61_13 : dxI 61 13 = some (.bipush 6, 2) := by decide +kernel
theorem i61_15 : dxI 61 15 = some (.newarray .int, 2) := by decide +kernel
theorem i61_17 : dxI 61 17 = some (.putfield 15, 3) := by decide +kernel
theorem i61_20 : dxI 61 20 = some (.aload_n 0, 1) := by decide +kernel
theorem i61_21 : dxI 61 21 = some (.bipush 6, 2) := by decide +kernel
theorem i61_23 : dxI 61 23 = some (.newarray .boolean, 2) := by decide +kernel
theorem i61_25 : dxI 61 25 = some (.putfield 18, 3) := by decide +kernel
theorem i61_28 : dxI 61 28 = some (.return_, 1) := by decide +kernel
theorem i62_0 : dxI 62 0 = some (.aload_n 0, 1) := by decide +kernel
theorem i62_1 : dxI 62 1 = some (.iconst 0, 1) := by decide +kernel
theorem i62_2 : dxI 62 2 = some (.putfield 22, 3) := by decide +kernel
theorem i62_5 : dxI 62 5 = some (.return_, 1) := by decide +kernel
theorem i63_0 : dxI 63 0 = some (.aload_n 0, 1) := by decide +kernel
theorem i63_1 : dxI 63 1 = some (.getfield 22, 3) := by decide +kernel
theorem i63_4 : dxI 63 4 = some (.ireturn, 1) := by decide +kernel
theorem i64_0 : dxI 64 0 = some (.aload_n 0, 1) := by decide +kernel
theorem i64_1 : dxI 64 1 = some (.getfield 22, 3) := by decide +kernel
theorem i64_4 : dxI 64 4 = some (.bipush 6, 2) := by decide +kernel
theorem i64_6 : dxI 64 6 = some (.if_icmp .lt 5, 3) := by decide +kernel
theorem i64_9 : dxI 64 9 = some (.iconst 0, 1) := by decide +kernel
theorem i64_10 : dxI 64 10 = some (.ireturn, 1) := by decide +kernel
theorem i64_11 : dxI 64 11 = some (.aload_n 0, 1) := by decide +kernel
theorem i64_12 : dxI 64 12 = some (.getfield 9, 3) := by decide +kernel
theorem i64_15 : dxI 64 15 = some (.aload_n 0, 1) := by decide +kernel
theorem i64_16 : dxI 64 16 = some (.getfield 22, 3) := by decide +kernel
theorem i64_19 : dxI 64 19 = some (.iload_n 1, 1) := by decide +kernel
theorem i64_20 : dxI 64 20 = some (.iastore, 1) := by decide +kernel
theorem i64_21 : dxI 64 21 = some (.aload_n 0, 1) := by decide +kernel
theorem i64_22 : dxI 64 22 = some (.getfield 15, 3) := by decide +kernel
theorem i64_25 : dxI 64 25 = some (.aload_n 0, 1) := by decide +kernel
theorem i64_26 : dxI 64 26 = some (.getfield 22, 3) := by decide +kernel
theorem i64_29 : dxI 64 29 = some (.iload_n 2, 1) := by decide +kernel
theorem i64_30 : dxI 64 30 = some (.iastore, 1) := by decide +kernel
theorem i64_31 : dxI 64 31 = some (.aload_n 0, 1) := by decide +kernel
theorem i64_32 : dxI 64 32 = some (.getfield 18, 3) := by decide +kernel
theorem i64_35 : dxI 64 35 = some (.aload_n 0, 1) := by decide +kernel
theorem i64_36 : dxI 64 36 = some (.getfield 22, 3) := by decide +kernel
theorem i64_39 : dxI 64 39 = some (.iload_n 3, 1) := by decide +kernel
theorem i64_40 : dxI 64 40 = some (.bastore, 1) := by decide +kernel
theorem i64_41 : dxI 64 41 = some (.aload_n 0, 1) := by decide +kernel
theorem i64_42 : dxI 64 42 = some (.dup, 1) := by decide +kernel
theorem i64_43 : dxI 64 43 = some (.getfield 22, 3) := by decide +kernel
theorem i64_46 : dxI 64 46 = some (.iconst 1, 1) := by decide +kernel
theorem i64_47 : dxI 64 47 = some (.iadd, 1) := by decide +kernel
theorem i64_48 : dxI 64 48 = some (.putfield 22, 3) := by decide +kernel
theorem i64_51 : dxI 64 51 = some (.iconst 1, 1) := by decide +kernel
theorem i64_52 : dxI 64 52 = some (.ireturn, 1) := by decide +kernel
theorem i65_0 : dxI 65 0 = some (.iconst 0, 1) := by decide +kernel
theorem i65_1 : dxI 65 1 = some (.istore_n 3, 1) := by decide +kernel
theorem i65_2 : dxI 65 2 = some (.iload_n 3, 1) := by decide +kernel
theorem i65_3 : dxI 65 3 = some (.aload_n 0, 1) := by decide +kernel
theorem i65_4 : dxI 65 4 = some (.getfield 22, 3) := by decide +kernel
theorem i65_7 : dxI 65 7 = some (.if_icmp .ge 71, 3) := by decide +kernel
theorem i65_10 : dxI 65 10 = some (.iload_n 3, 1) := by decide +kernel
theorem i65_11 : dxI 65 11 = some (.bipush 6, 2) := by decide +kernel
theorem i65_13 : dxI 65 13 = some (.if_icmp .ge 65, 3) := by decide +kernel
theorem i65_16 : dxI 65 16 = some (.aload_n 0, 1) := by decide +kernel
theorem i65_17 : dxI 65 17 = some (.getfield 15, 3) := by decide +kernel
theorem i65_20 : dxI 65 20 = some (.iload_n 3, 1) := by decide +kernel
theorem i65_21 : dxI 65 21 = some (.iaload, 1) := by decide +kernel
theorem i65_22 : dxI 65 22 = some (.iload_n 2, 1) := by decide +kernel
theorem i65_23 : dxI 65 23 = some (.if_icmp .ne 20, 3) := by decide +kernel
theorem i65_26 : dxI 65 26 = some (.aload_n 1, 1) := by decide +kernel
theorem i65_27 : dxI 65 27 = some (.aload_n 0, 1) := by decide +kernel
theorem i65_28 : dxI 65 28 = some (.getfield 9, 3) := by decide +kernel
theorem i65_31 : dxI 65 31 = some (.iload_n 3, 1) := by decide +kernel
theorem i65_32 : dxI 65 32 = some (.iaload, 1) := by decide +kernel
theorem i65_33 : dxI 65 33 = some (.invokevirtual 26, 3) := by decide +kernel
theorem i65_36 : dxI 65 36 = some (.ifCond .eq 7, 3) := by decide +kernel
theorem i65_39 : dxI 65 39 = some (.iconst 1, 1) := by decide +kernel
theorem i65_40 : dxI 65 40 = some (.goto 4, 3) := by decide +kernel
theorem i65_43 : dxI 65 43 = some (.iconst 0, 1) := by decide +kernel
theorem i65_44 : dxI 65 44 = some (.istore 4, 2) := by decide +kernel
theorem i65_46 : dxI 65 46 = some (.iload 4, 2) := by decide +kernel
theorem i65_48 : dxI 65 48 = some (.ifCond .eq 24, 3) := by decide +kernel
theorem i65_51 : dxI 65 51 = some (.aload_n 1, 1) := by decide +kernel
theorem i65_52 : dxI 65 52 = some (.aload_n 0, 1) := by decide +kernel
theorem i65_53 : dxI 65 53 = some (.getfield 9, 3) := by decide +kernel
theorem i65_56 : dxI 65 56 = some (.iload_n 3, 1) := by decide +kernel
theorem i65_57 : dxI 65 57 = some (.iaload, 1) := by decide +kernel
theorem i65_58 : dxI 65 58 = some (.invokevirtual 32, 3) := by decide +kernel
theorem i65_61 : dxI 65 61 = some (.aload_n 0, 1) := by decide +kernel
theorem i65_62 : dxI 65 62 = some (.getfield 18, 3) := by decide +kernel
theorem i65_65 : dxI 65 65 = some (.iload_n 3, 1) := by decide +kernel
theorem i65_66 : dxI 65 66 = some (.baload, 1) := by decide +kernel
theorem i65_67 : dxI 65 67 = some (.if_icmp .eq 5, 3) := by decide +kernel
theorem i65_70 : dxI 65 70 = some (.iconst 0, 1) := by decide +kernel
theorem i65_71 : dxI 65 71 = some (.ireturn, 1) := by decide +kernel
theorem i65_72 : dxI 65 72 = some (.iinc 3 1, 3) := by decide +kernel
theorem i65_75 : dxI 65 75 = some (.goto (-73), 3) := by decide +kernel
theorem i65_78 : dxI 65 78 = some (.iconst 1, 1) := by decide +kernel
theorem i65_79 : dxI 65 79 = some (.ireturn, 1) := by decide +kernel
theorem i66_0 : dxI 66 0 = some (.aload_n 0, 1) := by decide +kernel
theorem i66_1 : dxI 66 1 = some (.invokespecial 1, 3) := by decide +kernel
theorem i66_4 : dxI 66 4 = some (.aload_n 0, 1) := by decide +kernel
theorem i66_5 : dxI 66 5 = some (.new 7, 3) := by decide +kernel
theorem i66_8 : dxI 66 8 = some (.dup, 1) := by decide +kernel
theorem i66_9 : dxI 66 9 = some (.invokespecial 9, 3) := by decide +kernel
theorem i66_12 : dxI 66 12 = some (.putfield 10, 3) := by decide +kernel
theorem i66_15 : dxI 66 15 = some (.aload_n 0, 1) := by decide +kernel
theorem i66_16 : dxI 66 16 = some (.new 16, 3) := by decide +kernel
theorem i66_19 : dxI 66 19 = some (.dup, 1) := by decide +kernel
theorem i66_20 : dxI 66 20 = some (.invokespecial 18, 3) := by decide +kernel
theorem i66_23 : dxI 66 23 = some (.putfield 19, 3) := by decide +kernel
theorem i66_26 : dxI 66 26 = some (.aload_n 0, 1) := by decide +kernel
theorem i66_27 : dxI 66 27 = some (.new 23, 3) := by decide +kernel
theorem i66_30 : dxI 66 30 = some (.dup, 1) := by decide +kernel
theorem i66_31 : dxI 66 31 = some (.aload_n 0, 1) := by decide +kernel
theorem i66_32 : dxI 66 32 = some (.getfield 19, 3) := by decide +kernel
theorem i66_35 : dxI 66 35 = some (.invokespecial 25, 3) := by decide +kernel
theorem i66_38 : dxI 66 38 = some (.putfield 28, 3) := by decide +kernel
theorem i66_41 : dxI 66 41 = some (.aload_n 0, 1) := by decide +kernel
theorem i66_42 : dxI 66 42 = some (.new 23, 3) := by decide +kernel
theorem i66_45 : dxI 66 45 = some (.dup, 1) := by decide +kernel
theorem i66_46 : dxI 66 46 = some (.aload_n 0, 1) := by decide +kernel
theorem i66_47 : dxI 66 47 = some (.getfield 19, 3) := by decide +kernel
theorem i66_50 : dxI 66 50 = some (.invokespecial 25, 3) := by decide +kernel
theorem i66_53 : dxI 66 53 = some (.putfield 32, 3) := by decide +kernel
theorem i66_56 : dxI 66 56 = some (.aload_n 0, 1) := by decide +kernel
theorem i66_57 : dxI 66 57 = some (.new 35, 3) := by decide +kernel
theorem i66_60 : dxI 66 60 = some (.dup, 1) := by decide +kernel
theorem i66_61 : dxI 66 61 = some (.aload_n 0, 1) := by decide +kernel
theorem i66_62 : dxI 66 62 = some (.getfield 19, 3) := by decide +kernel
theorem i66_65 : dxI 66 65 = some (.invokespecial 37, 3) := by decide +kernel
theorem i66_68 : dxI 66 68 = some (.putfield 38, 3) := by decide +kernel
theorem i66_71 : dxI 66 71 = some (.aload_n 0, 1) := by decide +kernel
theorem i66_72 : dxI 66 72 = some (.new 42, 3) := by decide +kernel
theorem i66_75 : dxI 66 75 = some (.dup, 1) := by decide +kernel
theorem i66_76 : dxI 66 76 = some (.iconst 2, 1) := by decide +kernel
theorem i66_77 : dxI 66 77 = some (.aload_n 0, 1) := by decide +kernel
theorem i66_78 : dxI 66 78 = some (.getfield 19, 3) := by decide +kernel
theorem i66_81 : dxI 66 81 = some (.invokespecial 44, 3) := by decide +kernel
theorem i66_84 : dxI 66 84 = some (.putfield 47, 3) := by decide +kernel
theorem i66_87 : dxI 66 87 = some (.aload_n 0, 1) := by decide +kernel
theorem i66_88 : dxI 66 88 = some (.iconst 2, 1) := by decide +kernel
theorem i66_89 : dxI 66 89 = some (.newarray .boolean, 2) := by decide +kernel
theorem i66_91 : dxI 66 91 = some (.putfield 51, 3) := by decide +kernel
theorem i66_94 : dxI 66 94 = some (.aload_n 0, 1) := by decide +kernel
theorem i66_95 : dxI 66 95 = some (.new 55, 3) := by decide +kernel
theorem i66_98 : dxI 66 98 = some (.dup, 1) := by decide +kernel
theorem i66_99 : dxI 66 99 = some (.invokespecial 57, 3) := by decide +kernel
theorem i66_102 : dxI 66 102 = some (.putfield 58, 3) := by decide +kernel
theorem i66_105 : dxI 66 105 = some (.aload_n 0, 1) := by decide +kernel
theorem i66_106 : dxI 66 106 = some (.new 62, 3) := by decide +kernel
theorem i66_109 : dxI 66 109 = some (.dup, 1) := by decide +kernel
theorem i66_110 : dxI 66 110 = some (.invokespecial 64, 3) := by decide +kernel
theorem i66_113 : dxI 66 113 = some (.putfield 65, 3) := by decide +kernel
theorem i66_116 : dxI 66 116 = some (.aload_n 0, 1) := by decide +kernel
theorem i66_117 : dxI 66 117 = some (.new 62, 3) := by decide +kernel
theorem i66_120 : dxI 66 120 = some (.dup, 1) := by decide +kernel
theorem i66_121 : dxI 66 121 = some (.invokespecial 64, 3) := by decide +kernel
theorem i66_124 : dxI 66 124 = some (.putfield 69, 3) := by decide +kernel
theorem i66_127 : dxI 66 127 = some (.aload_n 0, 1) := by decide +kernel
theorem i66_128 : dxI 66 128 = some (.sipush 176, 3) := by decide +kernel
theorem i66_131 : dxI 66 131 = some (.newarray .int, 2) := by decide +kernel
theorem i66_133 : dxI 66 133 = some (.putfield 72, 3) := by decide +kernel
theorem i66_136 : dxI 66 136 = some (.return_, 1) := by decide +kernel
theorem i67_0 : dxI 67 0 = some (.iload_n 1, 1) := by decide +kernel
theorem i67_1 : dxI 67 1 = some (.ifCond .lt 10, 3) := by decide +kernel
theorem i67_4 : dxI 67 4 = some (.iload_n 1, 1) := by decide +kernel
theorem i67_5 : dxI 67 5 = some (.sipush 255, 3) := by decide +kernel
theorem i67_8 : dxI 67 8 = some (.if_icmp .le 6, 3) := by decide +kernel
theorem i67_11 : dxI 67 11 = some (.bipush (-2), 2) := by decide +kernel
theorem i67_13 : dxI 67 13 = some (.ireturn, 1) := by decide +kernel
theorem i67_14 : dxI 67 14 = some (.aload_n 0, 1) := by decide +kernel
theorem i67_15 : dxI 67 15 = some (.getfield 10, 3) := by decide +kernel
theorem i67_18 : dxI 67 18 = some (.iload_n 1, 1) := by decide +kernel
theorem i67_19 : dxI 67 19 = some (.invokevirtual 76, 3) := by decide +kernel
theorem i67_22 : dxI 67 22 = some (.ifCond .eq 13, 3) := by decide +kernel
theorem i67_25 : dxI 67 25 = some (.aload_n 0, 1) := by decide +kernel
theorem i67_26 : dxI 67 26 = some (.getfield 10, 3) := by decide +kernel
theorem i67_29 : dxI 67 29 = some (.invokevirtual 80, 3) := by decide +kernel
theorem i67_32 : dxI 67 32 = some (.goto 5, 3) := by decide +kernel
theorem i67_35 : dxI 67 35 = some (.bipush (-4), 2) := by decide +kernel
theorem i67_37 : dxI 67 37 = some (.ireturn, 1) := by decide +kernel
theorem i68_0 : dxI 68 0 = some (.aload_n 0, 1) := by decide +kernel
theorem i68_1 : dxI 68 1 = some (.getfield 10, 3) := by decide +kernel
theorem i68_4 : dxI 68 4 = some (.invokevirtual 80, 3) := by decide +kernel
theorem i68_7 : dxI 68 7 = some (.istore_n 1, 1) := by decide +kernel
theorem i68_8 : dxI 68 8 = some (.aload_n 0, 1) := by decide +kernel
theorem i68_9 : dxI 68 9 = some (.getfield 10, 3) := by decide +kernel
theorem i68_12 : dxI 68 12 = some (.invokevirtual 84, 3) := by decide +kernel
theorem i68_15 : dxI 68 15 = some (.iload_n 1, 1) := by decide +kernel
theorem i68_16 : dxI 68 16 = some (.ireturn, 1) := by decide +kernel
theorem i69_0 : dxI 69 0 = some (.aload_n 0, 1) := by decide +kernel
theorem i69_1 : dxI 69 1 = some (.getfield 10, 3) := by decide +kernel
theorem i69_4 : dxI 69 4 = some (.invokevirtual 87, 3) := by decide +kernel
theorem i69_7 : dxI 69 7 = some (.ireturn, 1) := by decide +kernel
theorem i70_0 : dxI 70 0 = some (.aload_n 0, 1) := by decide +kernel
theorem i70_1 : dxI 70 1 = some (.getfield 10, 3) := by decide +kernel
theorem i70_4 : dxI 70 4 = some (.invokevirtual 87, 3) := by decide +kernel
theorem i70_7 : dxI 70 7 = some (.bipush (-9), 2) := by decide +kernel
theorem i70_9 : dxI 70 9 = some (.if_icmp .eq 6, 3) := by decide +kernel
theorem i70_12 : dxI 70 12 = some (.bipush (-3), 2) := by decide +kernel
theorem i70_14 : dxI 70 14 = some (.ireturn, 1) := by decide +kernel
theorem i70_15 : dxI 70 15 = some (.aload_n 0, 1) := by decide +kernel
theorem i70_16 : dxI 70 16 = some (.getfield 19, 3) := by decide +kernel
theorem i70_19 : dxI 70 19 = some (.invokevirtual 90, 3) := by decide +kernel
theorem i70_22 : dxI 70 22 = some (.aload_n 0, 1) := by decide +kernel
theorem i70_23 : dxI 70 23 = some (.getfield 28, 3) := by decide +kernel
theorem i70_26 : dxI 70 26 = some (.invokevirtual 91, 3) := by decide +kernel
theorem i70_29 : dxI 70 29 = some (.aload_n 0, 1) := by decide +kernel
theorem i70_30 : dxI 70 30 = some (.getfield 10, 3) := by decide +kernel
theorem i70_33 : dxI 70 33 = some (.aload_n 0, 1) := by decide +kernel
theorem i70_34 : dxI 70 34 = some (.getfield 28, 3) := by decide +kernel
theorem i70_37 : dxI 70 37 = some (.invokevirtual 92, 3) := by decide +kernel
theorem i70_40 : dxI 70 40 = some (.aload_n 0, 1) := by decide +kernel
theorem i70_41 : dxI 70 41 = some (.getfield 38, 3) := by decide +kernel
theorem i70_44 : dxI 70 44 = some (.invokevirtual 96, 3) := by decide +kernel
theorem i70_47 : dxI 70 47 = some (.iconst 0, 1) := by decide +kernel
theorem i70_48 : dxI 70 48 = some (.istore_n 1, 1) := by decide +kernel
theorem i70_49 : dxI 70 49 = some (.iload_n 1, 1) := by decide +kernel
theorem i70_50 : dxI 70 50 = some (.iconst 2, 1) := by decide +kernel
theorem i70_51 : dxI 70 51 = some (.if_icmp .ge 16, 3) := by decide +kernel
theorem i70_54 : dxI 70 54 = some (.aload_n 0, 1) := by decide +kernel
theorem i70_55 : dxI 70 55 = some (.getfield 51, 3) := by decide +kernel
theorem i70_58 : dxI 70 58 = some (.iload_n 1, 1) := by decide +kernel
theorem i70_59 : dxI 70 59 = some (.iconst 0, 1) := by decide +kernel
theorem i70_60 : dxI 70 60 = some (.bastore, 1) := by decide +kernel
theorem i70_61 : dxI 70 61 = some (.iinc 1 1, 3) := by decide +kernel
theorem i70_64 : dxI 70 64 = some (.goto (-15), 3) := by decide +kernel
theorem i70_67 : dxI 70 67 = some (.aload_n 0, 1) := by decide +kernel
theorem i70_68 : dxI 70 68 = some (.getfield 19, 3) := by decide +kernel
theorem i70_71 : dxI 70 71 = some (.invokevirtual 97, 3) := by decide +kernel
theorem i70_74 : dxI 70 74 = some (.ireturn, 1) := by decide +kernel
theorem i71_0 : dxI 71 0 = some (.iload_n 1, 1) := by decide +kernel
theorem i71_1 : dxI 71 1 = some (.invokestatic 98, 3) := by decide +kernel
theorem i71_4 : dxI 71 4 = some (.ifCond .eq 14, 3) := by decide +kernel
theorem i71_7 : dxI 71 7 = some (.aload_n 0, 1) := by decide +kernel
theorem i71_8 : dxI 71 8 = some (.getfield 28, 3) := by decide +kernel
theorem i71_11 : dxI 71 11 = some (.iload_n 1, 1) := by decide +kernel
theorem i71_12 : dxI 71 12 = some (.invokevirtual 101, 3) := by decide +kernel
theorem i71_15 : dxI 71 15 = some (.goto 5, 3) := by decide +kernel
theorem i71_18 : dxI 71 18 = some (.bipush (-2), 2) := by decide +kernel
theorem i71_20 : dxI 71 20 = some (.ireturn, 1) := by decide +kernel
theorem i72_0 : dxI 72 0 = some (.aload_n 0, 1) := by decide +kernel
theorem i72_1 : dxI 72 1 = some (.getfield 19, 3) := by decide +kernel
theorem i72_4 : dxI 72 4 = some (.iload_n 1, 1) := by decide +kernel
theorem i72_5 : dxI 72 5 = some (.invokevirtual 105, 3) := by decide +kernel
theorem i72_8 : dxI 72 8 = some (.ifCond .ne 5, 3) := by decide +kernel
theorem i72_11 : dxI 72 11 = some (.iconst (-1), 1) := by decide +kernel
theorem i72_12 : dxI 72 12 = some (.ireturn, 1) := by decide +kernel
theorem i72_13 : dxI 72 13 = some (.iload_n 2, 1) := by decide +kernel
theorem i72_14 : dxI 72 14 = some (.tableswitch 87 0 4 #[34, 43, 52, 61, 70], 34) := by decide +kernel
theorem i72_48 : dxI 72 48 = some (.aload_n 0, 1) := by decide +kernel
theorem i72_49 : dxI 72 49 = some (.getfield 28, 3) := by decide +kernel
theorem i72_52 : dxI 72 52 = some (.iload_n 1, 1) := by decide +kernel
theorem i72_53 : dxI 72 53 = some (.invokevirtual 108, 3) := by decide +kernel
theorem i72_56 : dxI 72 56 = some (.ireturn, 1) := by decide +kernel
theorem i72_57 : dxI 72 57 = some (.aload_n 0, 1) := by decide +kernel
theorem i72_58 : dxI 72 58 = some (.getfield 19, 3) := by decide +kernel
theorem i72_61 : dxI 72 61 = some (.iload_n 1, 1) := by decide +kernel
theorem i72_62 : dxI 72 62 = some (.invokevirtual 111, 3) := by decide +kernel
theorem i72_65 : dxI 72 65 = some (.ireturn, 1) := by decide +kernel
theorem i72_66 : dxI 72 66 = some (.aload_n 0, 1) := by decide +kernel
theorem i72_67 : dxI 72 67 = some (.getfield 28, 3) := by decide +kernel
theorem i72_70 : dxI 72 70 = some (.iload_n 1, 1) := by decide +kernel
theorem i72_71 : dxI 72 71 = some (.invokevirtual 114, 3) := by decide +kernel
theorem i72_74 : dxI 72 74 = some (.ireturn, 1) := by decide +kernel
theorem i72_75 : dxI 72 75 = some (.aload_n 0, 1) := by decide +kernel
theorem i72_76 : dxI 72 76 = some (.getfield 19, 3) := by decide +kernel
theorem i72_79 : dxI 72 79 = some (.iload_n 1, 1) := by decide +kernel
theorem i72_80 : dxI 72 80 = some (.invokevirtual 117, 3) := by decide +kernel
theorem i72_83 : dxI 72 83 = some (.ireturn, 1) := by decide +kernel
theorem i72_84 : dxI 72 84 = some (.aload_n 0, 1) := by decide +kernel
theorem i72_85 : dxI 72 85 = some (.getfield 28, 3) := by decide +kernel
theorem i72_88 : dxI 72 88 = some (.iload_n 1, 1) := by decide +kernel
theorem i72_89 : dxI 72 89 = some (.invokevirtual 120, 3) := by decide +kernel
theorem i72_92 : dxI 72 92 = some (.ifCond .eq 7, 3) := by decide +kernel
theorem i72_95 : dxI 72 95 = some (.iconst 1, 1) := by decide +kernel
theorem i72_96 : dxI 72 96 = some (.goto 4, 3) := by decide +kernel
theorem i72_99 : dxI 72 99 = some (.iconst 0, 1) := by decide +kernel
theorem i72_100 : dxI 72 100 = some (.ireturn, 1) := by decide +kernel
theorem i72_101 : dxI 72 101 = some (.bipush (-2), 2) := by decide +kernel
theorem i72_103 : dxI 72 103 = some (.ireturn, 1) := by decide +kernel
theorem i73_0 : dxI 73 0 = some (.aload_n 0, 1) := by decide +kernel
theorem i73_1 : dxI 73 1 = some (.getfield 38, 3) := by decide +kernel
theorem i73_4 : dxI 73 4 = some (.aload_n 0, 1) := by decide +kernel
theorem i73_5 : dxI 73 5 = some (.getfield 28, 3) := by decide +kernel
theorem i73_8 : dxI 73 8 = some (.invokevirtual 123, 3) := by decide +kernel
theorem i73_11 : dxI 73 11 = some (.aload_n 0, 1) := by decide +kernel
theorem i73_12 : dxI 73 12 = some (.getfield 28, 3) := by decide +kernel
theorem i73_15 : dxI 73 15 = some (.iload_n 1, 1) := by decide +kernel
theorem i73_16 : dxI 73 16 = some (.invokevirtual 126, 3) := by decide +kernel
theorem i73_19 : dxI 73 19 = some (.ireturn, 1) := by decide +kernel
theorem i74_0 : dxI 74 0 = some (.aload_n 0, 1) := by decide +kernel
theorem i74_1 : dxI 74 1 = some (.getfield 19, 3) := by decide +kernel
theorem i74_4 : dxI 74 4 = some (.iload_n 1, 1) := by decide +kernel
theorem i74_5 : dxI 74 5 = some (.invokevirtual 105, 3) := by decide +kernel
theorem i74_8 : dxI 74 8 = some (.ifCond .ne 5, 3) := by decide +kernel
theorem i74_11 : dxI 74 11 = some (.iconst (-1), 1) := by decide +kernel
theorem i74_12 : dxI 74 12 = some (.ireturn, 1) := by decide +kernel
theorem i74_13 : dxI 74 13 = some (.iload_n 2, 1) := by decide +kernel
theorem i74_14 : dxI 74 14 = some (.invokestatic 98, 3) := by decide +kernel
theorem i74_17 : dxI 74 17 = some (.ifCond .ne 6, 3) := by decide +kernel
theorem i74_20 : dxI 74 20 = some (.bipush (-2), 2) := by decide +kernel
theorem i74_22 : dxI 74 22 = some (.ireturn, 1) := by decide +kernel
theorem i74_23 : dxI 74 23 = some (.aload_n 0, 1) := by decide +kernel
theorem i74_24 : dxI 74 24 = some (.getfield 28, 3) := by decide +kernel
theorem i74_27 : dxI 74 27 = some (.iload_n 2, 1) := by decide +kernel
theorem i74_28 : dxI 74 28 = some (.invokevirtual 130, 3) := by decide +kernel
theorem i74_31 : dxI 74 31 = some (.ifCond .eq 6, 3) := by decide +kernel
theorem i74_34 : dxI 74 34 = some (.bipush (-3), 2) := by decide +kernel
theorem i74_36 : dxI 74 36 = some (.ireturn, 1) := by decide +kernel
theorem i74_37 : dxI 74 37 = some (.aload_n 0, 1) := by decide +kernel
theorem i74_38 : dxI 74 38 = some (.getfield 38, 3) := by decide +kernel
theorem i74_41 : dxI 74 41 = some (.aload_n 0, 1) := by decide +kernel
theorem i74_42 : dxI 74 42 = some (.getfield 28, 3) := by decide +kernel
theorem i74_45 : dxI 74 45 = some (.invokevirtual 123, 3) := by decide +kernel
theorem i74_48 : dxI 74 48 = some (.aload_n 0, 1) := by decide +kernel
theorem i74_49 : dxI 74 49 = some (.getfield 28, 3) := by decide +kernel
theorem i74_52 : dxI 74 52 = some (.iload_n 1, 1) := by decide +kernel
theorem i74_53 : dxI 74 53 = some (.invokevirtual 108, 3) := by decide +kernel
theorem i74_56 : dxI 74 56 = some (.istore_n 3, 1) := by decide +kernel
theorem i74_57 : dxI 74 57 = some (.aload_n 0, 1) := by decide +kernel
theorem i74_58 : dxI 74 58 = some (.getfield 28, 3) := by decide +kernel
theorem i74_61 : dxI 74 61 = some (.iload_n 1, 1) := by decide +kernel
theorem i74_62 : dxI 74 62 = some (.iload_n 2, 1) := by decide +kernel
theorem i74_63 : dxI 74 63 = some (.invokevirtual 133, 3) := by decide +kernel
theorem i74_66 : dxI 74 66 = some (.iload_n 3, 1) := by decide +kernel
theorem i74_67 : dxI 74 67 = some (.ireturn, 1) := by decide +kernel
theorem i75_0 : dxI 75 0 = some (.iload_n 1, 1) := by decide +kernel
theorem i75_1 : dxI 75 1 = some (.invokestatic 98, 3) := by decide +kernel
theorem i75_4 : dxI 75 4 = some (.ifCond .ne 6, 3) := by decide +kernel
theorem i75_7 : dxI 75 7 = some (.bipush (-2), 2) := by decide +kernel
theorem i75_9 : dxI 75 9 = some (.ireturn, 1) := by decide +kernel
theorem i75_10 : dxI 75 10 = some (.aload_n 0, 1) := by decide +kernel
theorem i75_11 : dxI 75 11 = some (.getfield 28, 3) := by decide +kernel
theorem i75_14 : dxI 75 14 = some (.iload_n 1, 1) := by decide +kernel
theorem i75_15 : dxI 75 15 = some (.invokevirtual 137, 3) := by decide +kernel
theorem i75_18 : dxI 75 18 = some (.ifCond .ne 6, 3) := by decide +kernel
theorem i75_21 : dxI 75 21 = some (.bipush (-4), 2) := by decide +kernel
theorem i75_23 : dxI 75 23 = some (.ireturn, 1) := by decide +kernel
theorem i75_24 : dxI 75 24 = some (.aload_n 0, 1) := by decide +kernel
theorem i75_25 : dxI 75 25 = some (.getfield 38, 3) := by decide +kernel
theorem i75_28 : dxI 75 28 = some (.aload_n 0, 1) := by decide +kernel
theorem i75_29 : dxI 75 29 = some (.getfield 28, 3) := by decide +kernel
theorem i75_32 : dxI 75 32 = some (.invokevirtual 123, 3) := by decide +kernel
theorem i75_35 : dxI 75 35 = some (.aload_n 0, 1) := by decide +kernel
theorem i75_36 : dxI 75 36 = some (.getfield 28, 3) := by decide +kernel
theorem i75_39 : dxI 75 39 = some (.iload_n 1, 1) := by decide +kernel
theorem i75_40 : dxI 75 40 = some (.invokevirtual 140, 3) := by decide +kernel
theorem i75_43 : dxI 75 43 = some (.aload_n 0, 1) := by decide +kernel
theorem i75_44 : dxI 75 44 = some (.getfield 28, 3) := by decide +kernel
theorem i75_47 : dxI 75 47 = some (.iload_n 1, 1) := by decide +kernel
theorem i75_48 : dxI 75 48 = some (.invokevirtual 101, 3) := by decide +kernel
theorem i75_51 : dxI 75 51 = some (.ireturn, 1) := by decide +kernel
theorem i76_0 : dxI 76 0 = some (.aload_n 0, 1) := by decide +kernel
theorem i76_1 : dxI 76 1 = some (.getfield 38, 3) := by decide +kernel
theorem i76_4 : dxI 76 4 = some (.aload_n 0, 1) := by decide +kernel
theorem i76_5 : dxI 76 5 = some (.getfield 28, 3) := by decide +kernel
theorem i76_8 : dxI 76 8 = some (.invokevirtual 123, 3) := by decide +kernel
theorem i76_11 : dxI 76 11 = some (.aload_n 0, 1) := by decide +kernel
theorem i76_12 : dxI 76 12 = some (.getfield 28, 3) := by decide +kernel
theorem i76_15 : dxI 76 15 = some (.aload_n 0, 1) := by decide +kernel
theorem i76_16 : dxI 76 16 = some (.getfield 28, 3) := by decide +kernel
theorem i76_19 : dxI 76 19 = some (.invokevirtual 144, 3) := by decide +kernel
theorem i76_22 : dxI 76 22 = some (.ifCond .ne 7, 3) := by decide +kernel
theorem i76_25 : dxI 76 25 = some (.iconst 1, 1) := by decide +kernel
theorem i76_26 : dxI 76 26 = some (.goto 4, 3) := by decide +kernel
theorem i76_29 : dxI 76 29 = some (.iconst 0, 1) := by decide +kernel
theorem i76_30 : dxI 76 30 = some (.invokevirtual 148, 3) := by decide +kernel
theorem i76_33 : dxI 76 33 = some (.aload_n 0, 1) := by decide +kernel
theorem i76_34 : dxI 76 34 = some (.getfield 28, 3) := by decide +kernel
theorem i76_37 : dxI 76 37 = some (.invokevirtual 144, 3) := by decide +kernel
theorem i76_40 : dxI 76 40 = some (.ifCond .eq 7, 3) := by decide +kernel
theorem i76_43 : dxI 76 43 = some (.iconst 1, 1) := by decide +kernel
theorem i76_44 : dxI 76 44 = some (.goto 4, 3) := by decide +kernel
theorem i76_47 : dxI 76 47 = some (.iconst 0, 1) := by decide +kernel
theorem i76_48 : dxI 76 48 = some (.ireturn, 1) := by decide +kernel
theorem i77_0 : dxI 77 0 = some (.aload_n 0, 1) := by decide +kernel
theorem i77_1 : dxI 77 1 = some (.getfield 38, 3) := by decide +kernel
theorem i77_4 : dxI 77 4 = some (.invokevirtual 152, 3) := by decide +kernel
theorem i77_7 : dxI 77 7 = some (.ifCond .ne 6, 3) := by decide +kernel
theorem i77_10 : dxI 77 10 = some (.bipush (-3), 2) := by decide +kernel
theorem i77_12 : dxI 77 12 = some (.ireturn, 1) := by decide +kernel
theorem i77_13 : dxI 77 13 = some (.aload_n 0, 1) := by decide +kernel
theorem i77_14 : dxI 77 14 = some (.getfield 38, 3) := by decide +kernel
theorem i77_17 : dxI 77 17 = some (.aload_n 0, 1) := by decide +kernel
theorem i77_18 : dxI 77 18 = some (.getfield 28, 3) := by decide +kernel
theorem i77_21 : dxI 77 21 = some (.invokevirtual 153, 3) := by decide +kernel
theorem i77_24 : dxI 77 24 = some (.aload_n 0, 1) := by decide +kernel
theorem i77_25 : dxI 77 25 = some (.getfield 38, 3) := by decide +kernel
theorem i77_28 : dxI 77 28 = some (.invokevirtual 152, 3) := by decide +kernel
theorem i77_31 : dxI 77 31 = some (.ireturn, 1) := by decide +kernel
theorem i78_0 : dxI 78 0 = some (.iload_n 1, 1) := by decide +kernel
theorem i78_1 : dxI 78 1 = some (.invokestatic 156, 3) := by decide +kernel
theorem i78_4 : dxI 78 4 = some (.ifCond .ne 6, 3) := by decide +kernel
theorem i78_7 : dxI 78 7 = some (.bipush (-2), 2) := by decide +kernel
theorem i78_9 : dxI 78 9 = some (.ireturn, 1) := by decide +kernel
theorem i78_10 : dxI 78 10 = some (.aload_n 0, 1) := by decide +kernel
theorem i78_11 : dxI 78 11 = some (.getfield 32, 3) := by decide +kernel
theorem i78_14 : dxI 78 14 = some (.aload_n 0, 1) := by decide +kernel
theorem i78_15 : dxI 78 15 = some (.getfield 28, 3) := by decide +kernel
theorem i78_18 : dxI 78 18 = some (.invokevirtual 159, 3) := by decide +kernel
theorem i78_21 : dxI 78 21 = some (.iconst 0, 1) := by decide +kernel
theorem i78_22 : dxI 78 22 = some (.istore_n 2, 1) := by decide +kernel
theorem i78_23 : dxI 78 23 = some (.iconst 0, 1) := by decide +kernel
theorem i78_24 : dxI 78 24 = some (.istore_n 3, 1) := by decide +kernel
theorem i78_25 : dxI 78 25 = some (.iload_n 3, 1) := by decide +kernel
theorem i78_26 : dxI 78 26 = some (.iload_n 1, 1) := by decide +kernel
theorem i78_27 : dxI 78 27 = some (.if_icmp .ge 23, 3) := by decide +kernel
theorem i78_30 : dxI 78 30 = some (.bipush 10, 2) := by decide +kernel
theorem i78_32 : dxI 78 32 = some (.iload_n 2, 1) := by decide +kernel
theorem i78_33 : dxI 78 33 = some (.imul, 1) := by decide +kernel
theorem i78_34 : dxI 78 34 = some (.aload_n 0, 1) := by decide +kernel
theorem i78_35 : dxI 78 35 = some (.getfield 32, 3) := by decide +kernel
theorem i78_38 : dxI 78 38 = some (.iconst 0, 1) := by decide +kernel
theorem i78_39 : dxI 78 39 = some (.invokevirtual 126, 3) := by decide +kernel
theorem i78_42 : dxI 78 42 = some (.iadd, 1) := by decide +kernel
theorem i78_43 : dxI 78 43 = some (.istore_n 2, 1) := by decide +kernel
theorem i78_44 : dxI 78 44 = some (.iinc 3 1, 3) := by decide +kernel
theorem i78_47 : dxI 78 47 = some (.goto (-22), 3) := by decide +kernel
theorem i78_50 : dxI 78 50 = some (.iload_n 2, 1) := by decide +kernel
theorem i78_51 : dxI 78 51 = some (.ireturn, 1) := by decide +kernel
theorem i79_0 : dxI 79 0 = some (.iload_n 1, 1) := by decide +kernel
theorem i79_1 : dxI 79 1 = some (.invokestatic 156, 3) := by decide +kernel
theorem i79_4 : dxI 79 4 = some (.ifCond .eq 13, 3) := by decide +kernel
theorem i79_7 : dxI 79 7 = some (.aload_n 0, 1) := by decide +kernel
theorem i79_8 : dxI 79 8 = some (.iconst 0, 1) := by decide +kernel
theorem i79_9 : dxI 79 9 = some (.iconst 0, 1) := by decide +kernel
theorem i79_10 : dxI 79 10 = some (.iload_n 1, 1) := by decide +kernel
theorem i79_11 : dxI 79 11 = some (.invokevirtual 162, 3) := by decide +kernel
theorem i79_14 : dxI 79 14 = some (.goto 5, 3) := by decide +kernel
theorem i79_17 : dxI 79 17 = some (.bipush (-2), 2) := by decide +kernel
theorem i79_19 : dxI 79 19 = some (.ireturn, 1) := by decide +kernel
theorem i80_0 : dxI 80 0 = some (.iload_n 1, 1) := by decide +kernel
theorem i80_1 : dxI 80 1 = some (.invokestatic 166, 3) := by decide +kernel
theorem i80_4 : dxI 80 4 = some (.ifCond .eq 10, 3) := by decide +kernel
theorem i80_7 : dxI 80 7 = some (.iload_n 2, 1) := by decide +kernel
theorem i80_8 : dxI 80 8 = some (.invokestatic 156, 3) := by decide +kernel
theorem i80_11 : dxI 80 11 = some (.ifCond .ne 6, 3) := by decide +kernel
theorem i80_14 : dxI 80 14 = some (.bipush (-2), 2) := by decide +kernel
theorem i80_16 : dxI 80 16 = some (.ireturn, 1) := by decide +kernel
theorem i80_17 : dxI 80 17 = some (.aload_n 0, 1) := by decide +kernel
theorem i80_18 : dxI 80 18 = some (.getfield 32, 3) := by decide +kernel
theorem i80_21 : dxI 80 21 = some (.aload_n 0, 1) := by decide +kernel
theorem i80_22 : dxI 80 22 = some (.getfield 28, 3) := by decide +kernel
theorem i80_25 : dxI 80 25 = some (.invokevirtual 159, 3) := by decide +kernel
theorem i80_28 : dxI 80 28 = some (.aload_n 0, 1) := by decide +kernel
theorem i80_29 : dxI 80 29 = some (.getfield 32, 3) := by decide +kernel
theorem i80_32 : dxI 80 32 = some (.iload_n 2, 1) := by decide +kernel
theorem i80_33 : dxI 80 33 = some (.invokevirtual 169, 3) := by decide +kernel
theorem i80_36 : dxI 80 36 = some (.pop, 1) := by decide +kernel
theorem i80_37 : dxI 80 37 = some (.aload_n 0, 1) := by decide +kernel
theorem i80_38 : dxI 80 38 = some (.getfield 32, 3) := by decide +kernel
theorem i80_41 : dxI 80 41 = some (.iload_n 1, 1) := by decide +kernel
theorem i80_42 : dxI 80 42 = some (.invokevirtual 172, 3) := by decide +kernel
theorem i80_45 : dxI 80 45 = some (.aload_n 0, 1) := by decide +kernel
theorem i80_46 : dxI 80 46 = some (.getfield 28, 3) := by decide +kernel
theorem i80_49 : dxI 80 49 = some (.iload_n 1, 1) := by decide +kernel
theorem i80_50 : dxI 80 50 = some (.invokevirtual 172, 3) := by decide +kernel
theorem i80_53 : dxI 80 53 = some (.isub, 1) := by decide +kernel
theorem i80_54 : dxI 80 54 = some (.ireturn, 1) := by decide +kernel
theorem i81_0 : dxI 81 0 = some (.iload_n 1, 1) := by decide +kernel
theorem i81_1 : dxI 81 1 = some (.invokestatic 166, 3) := by decide +kernel
theorem i81_4 : dxI 81 4 = some (.ifCond .eq 21, 3) := by decide +kernel
theorem i81_7 : dxI 81 7 = some (.iload_n 2, 1) := by decide +kernel
theorem i81_8 : dxI 81 8 = some (.invokestatic 156, 3) := by decide +kernel
theorem i81_11 : dxI 81 11 = some (.ifCond .eq 14, 3) := by decide +kernel
theorem i81_14 : dxI 81 14 = some (.iload 4, 2) := by decide +kernel
theorem i81_16 : dxI 81 16 = some (.ifCond .lt 9, 3) := by decide +kernel
theorem i81_19 : dxI 81 19 = some (.iload 4, 2) := by decide +kernel
theorem i81_21 : dxI 81 21 = some (.iconst 2, 1) := by decide +kernel
theorem i81_22 : dxI 81 22 = some (.if_icmp .le 6, 3) := by decide +kernel
theorem i81_25 : dxI 81 25 = some (.bipush (-2), 2) := by decide +kernel
theorem i81_27 : dxI 81 27 = some (.ireturn, 1) := by decide +kernel
theorem i81_28 : dxI 81 28 = some (.aload_n 0, 1) := by decide +kernel
theorem i81_29 : dxI 81 29 = some (.iload_n 1, 1) := by decide +kernel
theorem i81_30 : dxI 81 30 = some (.invokevirtual 175, 3) := by decide +kernel
theorem i81_33 : dxI 81 33 = some (.astore 5, 2) := by decide +kernel
theorem i81_35 : dxI 81 35 = some (.iconst 0, 1) := by decide +kernel
theorem i81_36 : dxI 81 36 = some (.istore 6, 2) := by decide +kernel
theorem i81_38 : dxI 81 38 = some (.aload_n 0, 1) := by decide +kernel
theorem i81_39 : dxI 81 39 = some (.iconst 0, 1) := by decide +kernel
theorem i81_40 : dxI 81 40 = some (.iconst 0, 1) := by decide +kernel
theorem i81_41 : dxI 81 41 = some (.iload_n 2, 1) := by decide +kernel
theorem i81_42 : dxI 81 42 = some (.invokevirtual 162, 3) := by decide +kernel
theorem i81_45 : dxI 81 45 = some (.istore 7, 2) := by decide +kernel
theorem i81_47 : dxI 81 47 = some (.iconst 0, 1) := by decide +kernel
theorem i81_48 : dxI 81 48 = some (.istore 8, 2) := by decide +kernel
theorem i81_50 : dxI 81 50 = some (.iload 8, 2) := by decide +kernel
theorem i81_52 : dxI 81 52 = some (.aload 5, 2) := by decide +kernel
theorem i81_54 : dxI 81 54 = some (.invokevirtual 179, 3) := by decide +kernel
theorem i81_57 : dxI 81 57 = some (.if_icmp .ge 58, 3) := by decide +kernel
theorem i81_60 : dxI 81 60 = some (.aload_n 0, 1) := by decide +kernel
theorem i81_61 : dxI 81 61 = some (.aload 5, 2) := by decide +kernel
theorem i81_63 : dxI 81 63 = some (.iload 8, 2) := by decide +kernel
theorem i81_65 : dxI 81 65 = some (.invokevirtual 180, 3) := by decide +kernel
theorem i81_68 : dxI 81 68 = some (.iconst 0, 1) := by decide +kernel
theorem i81_69 : dxI 81 69 = some (.iload_n 2, 1) := by decide +kernel
theorem i81_70 : dxI 81 70 = some (.invokevirtual 162, 3) := by decide +kernel
theorem i81_73 : dxI 81 73 = some (.istore 9, 2) := by decide +kernel
theorem i81_75 : dxI 81 75 = some (.iload_n 3, 1) := by decide +kernel
theorem i81_76 : dxI 81 76 = some (.ifCond .eq 13, 3) := by decide +kernel
theorem i81_79 : dxI 81 79 = some (.iload 9, 2) := by decide +kernel
theorem i81_81 : dxI 81 81 = some (.iload 7, 2) := by decide +kernel
theorem i81_83 : dxI 81 83 = some (.if_icmp .le 26, 3) := by decide +kernel
theorem i81_86 : dxI 81 86 = some (.goto 10, 3) := by decide +kernel
theorem i81_89 : dxI 81 89 = some (.iload 9, 2) := by decide +kernel
theorem i81_91 : dxI 81 91 = some (.iload 7, 2) := by decide +kernel
theorem i81_93 : dxI 81 93 = some (.if_icmp .ge 16, 3) := by decide +kernel
theorem i81_96 : dxI 81 96 = some (.aload 5, 2) := by decide +kernel
theorem i81_98 : dxI 81 98 = some (.iload 8, 2) := by decide +kernel
theorem i81_100 : dxI 81 100 = some (.invokevirtual 180, 3) := by decide +kernel
theorem i81_103 : dxI 81 103 = some (.istore 6, 2) := by decide +kernel
theorem i81_105 : dxI 81 105 = some (.iload 9, 2) := by decide +kernel
theorem i81_107 : dxI 81 107 = some (.istore 7, 2) := by decide +kernel
theorem i81_109 : dxI 81 109 = some (.iinc 8 1, 3) := by decide +kernel
theorem i81_112 : dxI 81 112 = some (.goto (-62), 3) := by decide +kernel
theorem i81_115 : dxI 81 115 = some (.iload 4, 2) := by decide +kernel
theorem i81_117 : dxI 81 117 = some (.iconst 2, 1) := by decide +kernel
theorem i81_118 : dxI 81 118 = some (.if_icmp .ne 6, 3) := by decide +kernel
theorem i81_121 : dxI 81 121 = some (.iload 7, 2) := by decide +kernel
theorem i81_123 : dxI 81 123 = some (.ireturn, 1) := by decide +kernel
theorem i81_124 : dxI 81 124 = some (.iload 6, 2) := by decide +kernel
theorem i81_126 : dxI 81 126 = some (.ifCond .ne 6, 3) := by decide +kernel
theorem i81_129 : dxI 81 129 = some (.bipush (-9), 2) := by decide +kernel
theorem i81_131 : dxI 81 131 = some (.ireturn, 1) := by decide +kernel
theorem i81_132 : dxI 81 132 = some (.iload 4, 2) := by decide +kernel
theorem i81_134 : dxI 81 134 = some (.ifCond .ne 11, 3) := by decide +kernel
theorem i81_137 : dxI 81 137 = some (.iload 6, 2) := by decide +kernel
theorem i81_139 : dxI 81 139 = some (.invokestatic 183, 3) := by decide +kernel
theorem i81_142 : dxI 81 142 = some (.goto 8, 3) := by decide +kernel
theorem i81_145 : dxI 81 145 = some (.iload 6, 2) := by decide +kernel
theorem i81_147 : dxI 81 147 = some (.invokestatic 186, 3) := by decide +kernel
theorem i81_150 : dxI 81 150 = some (.ireturn, 1) := by decide +kernel
theorem i82_0 : dxI 82 0 = some (.iload_n 1, 1) := by decide +kernel
theorem i82_1 : dxI 82 1 = some (.invokestatic 156, 3) := by decide +kernel
theorem i82_4 : dxI 82 4 = some (.ifCond .ne 6, 3) := by decide +kernel
theorem i82_7 : dxI 82 7 = some (.bipush (-2), 2) := by decide +kernel
theorem i82_9 : dxI 82 9 = some (.ireturn, 1) := by decide +kernel
theorem i82_10 : dxI 82 10 = some (.iconst 1, 1) := by decide +kernel
theorem i82_11 : dxI 82 11 = some (.istore_n 3, 1) := by decide +kernel
theorem i82_12 : dxI 82 12 = some (.iconst 0, 1) := by decide +kernel
theorem i82_13 : dxI 82 13 = some (.istore 4, 2) := by decide +kernel
theorem i82_15 : dxI 82 15 = some (.iload 4, 2) := by decide +kernel
theorem i82_17 : dxI 82 17 = some (.iconst 3, 1) := by decide +kernel
theorem i82_18 : dxI 82 18 = some (.if_icmp .gt 55, 3) := by decide +kernel
theorem i82_21 : dxI 82 21 = some (.iconst 0, 1) := by decide +kernel
theorem i82_22 : dxI 82 22 = some (.istore 5, 2) := by decide +kernel
theorem i82_24 : dxI 82 24 = some (.iload 5, 2) := by decide +kernel
theorem i82_26 : dxI 82 26 = some (.iload_n 3, 1) := by decide +kernel
theorem i82_27 : dxI 82 27 = some (.if_icmp .ge 35, 3) := by decide +kernel
theorem i82_30 : dxI 82 30 = some (.aload_n 0, 1) := by decide +kernel
theorem i82_31 : dxI 82 31 = some (.iload 4, 2) := by decide +kernel
theorem i82_33 : dxI 82 33 = some (.iload 5, 2) := by decide +kernel
theorem i82_35 : dxI 82 35 = some (.iload_n 1, 1) := by decide +kernel
theorem i82_36 : dxI 82 36 = some (.invokevirtual 189, 3) := by decide +kernel
theorem i82_39 : dxI 82 39 = some (.ifCond .eq 17, 3) := by decide +kernel
theorem i82_42 : dxI 82 42 = some (.iload_n 2, 1) := by decide +kernel
theorem i82_43 : dxI 82 43 = some (.ifCond .eq 10, 3) := by decide +kernel
theorem i82_46 : dxI 82 46 = some (.iload_n 3, 1) := by decide +kernel
theorem i82_47 : dxI 82 47 = some (.iload 5, 2) := by decide +kernel
theorem i82_49 : dxI 82 49 = some (.iadd, 1) := by decide +kernel
theorem i82_50 : dxI 82 50 = some (.goto 5, 3) := by decide +kernel
theorem i82_53 : dxI 82 53 = some (.iload 4, 2) := by decide +kernel
theorem i82_55 : dxI 82 55 = some (.ireturn, 1) := by decide +kernel
theorem i82_56 : dxI 82 56 = some (.iinc 5 1, 3) := by decide +kernel
theorem i82_59 : dxI 82 59 = some (.goto (-35), 3) := by decide +kernel
theorem i82_62 : dxI 82 62 = some (.iload_n 3, 1) := by decide +kernel
theorem i82_63 : dxI 82 63 = some (.bipush 10, 2) := by decide +kernel
theorem i82_65 : dxI 82 65 = some (.imul, 1) := by decide +kernel
theorem i82_66 : dxI 82 66 = some (.istore_n 3, 1) := by decide +kernel
theorem i82_67 : dxI 82 67 = some (.iinc 4 1, 3) := by decide +kernel
theorem i82_70 : dxI 82 70 = some (.goto (-55), 3) := by decide +kernel
theorem i82_73 : dxI 82 73 = some (.bipush (-9), 2) := by decide +kernel
theorem i82_75 : dxI 82 75 = some (.ireturn, 1) := by decide +kernel
theorem i83_0 : dxI 83 0 = some (.iload_n 1, 1) := by decide +kernel
theorem i83_1 : dxI 83 1 = some (.invokestatic 156, 3) := by decide +kernel
theorem i83_4 : dxI 83 4 = some (.ifCond .eq 15, 3) := by decide +kernel
theorem i83_7 : dxI 83 7 = some (.iload_n 2, 1) := by decide +kernel
theorem i83_8 : dxI 83 8 = some (.ifCond .lt 11, 3) := by decide +kernel
theorem i83_11 : dxI 83 11 = some (.iload_n 2, 1) := by decide +kernel
theorem i83_12 : dxI 83 12 = some (.iload_n 1, 1) := by decide +kernel
theorem i83_13 : dxI 83 13 = some (.invokestatic 193, 3) := by decide +kernel
theorem i83_16 : dxI 83 16 = some (.if_icmp .lt 6, 3) := by decide +kernel
theorem i83_19 : dxI 83 19 = some (.bipush (-2), 2) := by decide +kernel
theorem i83_21 : dxI 83 21 = some (.ireturn, 1) := by decide +kernel
theorem i83_22 : dxI 83 22 = some (.aload_n 0, 1) := by decide +kernel
theorem i83_23 : dxI 83 23 = some (.getfield 32, 3) := by decide +kernel
theorem i83_26 : dxI 83 26 = some (.aload_n 0, 1) := by decide +kernel
theorem i83_27 : dxI 83 27 = some (.getfield 28, 3) := by decide +kernel
theorem i83_30 : dxI 83 30 = some (.invokevirtual 159, 3) := by decide +kernel
theorem i83_33 : dxI 83 33 = some (.iload_n 1, 1) := by decide +kernel
theorem i83_34 : dxI 83 34 = some (.iconst 1, 1) := by decide +kernel
theorem i83_35 : dxI 83 35 = some (.isub, 1) := by decide +kernel
theorem i83_36 : dxI 83 36 = some (.invokestatic 193, 3) := by decide +kernel
theorem i83_39 : dxI 83 39 = some (.istore_n 3, 1) := by decide +kernel
theorem i83_40 : dxI 83 40 = some (.iconst 0, 1) := by decide +kernel
theorem i83_41 : dxI 83 41 = some (.istore 4, 2) := by decide +kernel
theorem i83_43 : dxI 83 43 = some (.iload 4, 2) := by decide +kernel
theorem i83_45 : dxI 83 45 = some (.iload_n 1, 1) := by decide +kernel
theorem i83_46 : dxI 83 46 = some (.if_icmp .ge 38, 3) := by decide +kernel
theorem i83_49 : dxI 83 49 = some (.iload_n 3, 1) := by decide +kernel
theorem i83_50 : dxI 83 50 = some (.ifCond .le 34, 3) := by decide +kernel
theorem i83_53 : dxI 83 53 = some (.iload_n 2, 1) := by decide +kernel
theorem i83_54 : dxI 83 54 = some (.iload_n 3, 1) := by decide +kernel
theorem i83_55 : dxI 83 55 = some (.idiv, 1) := by decide +kernel
theorem i83_56 : dxI 83 56 = some (.bipush 10, 2) := by decide +kernel
theorem i83_58 : dxI 83 58 = some (.irem, 1) := by decide +kernel
theorem i83_59 : dxI 83 59 = some (.aload_n 0, 1) := by decide +kernel
theorem i83_60 : dxI 83 60 = some (.getfield 32, 3) := by decide +kernel
theorem i83_63 : dxI 83 63 = some (.iconst 0, 1) := by decide +kernel
theorem i83_64 : dxI 83 64 = some (.invokevirtual 126, 3) := by decide +kernel
theorem i83_67 : dxI 83 67 = some (.if_icmp .eq 6, 3) := by decide +kernel
theorem i83_70 : dxI 83 70 = some (.iload 4, 2) := by decide +kernel
theorem i83_72 : dxI 83 72 = some (.ireturn, 1) := by decide +kernel
theorem i83_73 : dxI 83 73 = some (.iload_n 3, 1) := by decide +kernel
theorem i83_74 : dxI 83 74 = some (.bipush 10, 2) := by decide +kernel
theorem i83_76 : dxI 83 76 = some (.idiv, 1) := by decide +kernel
theorem i83_77 : dxI 83 77 = some (.istore_n 3, 1) := by decide +kernel
theorem i83_78 : dxI 83 78 = some (.iinc 4 1, 3) := by decide +kernel
theorem i83_81 : dxI 83 81 = some (.goto (-38), 3) := by decide +kernel
theorem i83_84 : dxI 83 84 = some (.bipush (-9), 2) := by decide +kernel
theorem i83_86 : dxI 83 86 = some (.ireturn, 1) := by decide +kernel
theorem i84_0 : dxI 84 0 = some (.aload_n 0, 1) := by decide +kernel
theorem i84_1 : dxI 84 1 = some (.getfield 19, 3) := by decide +kernel
theorem i84_4 : dxI 84 4 = some (.iload_n 1, 1) := by decide +kernel
theorem i84_5 : dxI 84 5 = some (.invokevirtual 105, 3) := by decide +kernel
theorem i84_8 : dxI 84 8 = some (.ifCond .ne 5, 3) := by decide +kernel
theorem i84_11 : dxI 84 11 = some (.iconst (-1), 1) := by decide +kernel
theorem i84_12 : dxI 84 12 = some (.ireturn, 1) := by decide +kernel
theorem i84_13 : dxI 84 13 = some (.iload_n 2, 1) := by decide +kernel
theorem i84_14 : dxI 84 14 = some (.invokestatic 156, 3) := by decide +kernel
theorem i84_17 : dxI 84 17 = some (.ifCond .ne 6, 3) := by decide +kernel
theorem i84_20 : dxI 84 20 = some (.bipush (-2), 2) := by decide +kernel
theorem i84_22 : dxI 84 22 = some (.ireturn, 1) := by decide +kernel
theorem i84_23 : dxI 84 23 = some (.aload_n 0, 1) := by decide +kernel
theorem i84_24 : dxI 84 24 = some (.getfield 19, 3) := by decide +kernel
theorem i84_27 : dxI 84 27 = some (.invokevirtual 97, 3) := by decide +kernel
theorem i84_30 : dxI 84 30 = some (.istore 4, 2) := by decide +kernel
theorem i84_32 : dxI 84 32 = some (.iconst 1, 1) := by decide +kernel
theorem i84_33 : dxI 84 33 = some (.iload_n 1, 1) := by decide +kernel
theorem i84_34 : dxI 84 34 = some (.ishl, 1) := by decide +kernel
theorem i84_35 : dxI 84 35 = some (.istore 5, 2) := by decide +kernel
theorem i84_37 : dxI 84 37 = some (.iconst 0, 1) := by decide +kernel
theorem i84_38 : dxI 84 38 = some (.istore 6, 2) := by decide +kernel
theorem i84_40 : dxI 84 40 = some (.iconst 0, 1) := by decide +kernel
theorem i84_41 : dxI 84 41 = some (.istore 7, 2) := by decide +kernel
theorem i84_43 : dxI 84 43 = some (.iload 7, 2) := by decide +kernel
theorem i84_45 : dxI 84 45 = some (.iconst 1, 1) := by decide +kernel
theorem i84_46 : dxI 84 46 = some (.iload 4, 2) := by decide +kernel
theorem i84_48 : dxI 84 48 = some (.ishl, 1) := by decide +kernel
theorem i84_49 : dxI 84 49 = some (.if_icmp .ge 68, 3) := by decide +kernel
theorem i84_52 : dxI 84 52 = some (.iload 7, 2) := by decide +kernel
theorem i84_54 : dxI 84 54 = some (.iload 5, 2) := by decide +kernel
theorem i84_56 : dxI 84 56 = some (.iand, 1) := by decide +kernel
theorem i84_57 : dxI 84 57 = some (.ifCond .ne 54, 3) := by decide +kernel
theorem i84_60 : dxI 84 60 = some (.iload 7, 2) := by decide +kernel
theorem i84_62 : dxI 84 62 = some (.invokestatic 196, 3) := by decide +kernel
theorem i84_65 : dxI 84 65 = some (.istore 8, 2) := by decide +kernel
theorem i84_67 : dxI 84 67 = some (.iload 8, 2) := by decide +kernel
theorem i84_69 : dxI 84 69 = some (.invokestatic 201, 3) := by decide +kernel
theorem i84_72 : dxI 84 72 = some (.iload 4, 2) := by decide +kernel
theorem i84_74 : dxI 84 74 = some (.iconst 1, 1) := by decide +kernel
theorem i84_75 : dxI 84 75 = some (.isub, 1) := by decide +kernel
theorem i84_76 : dxI 84 76 = some (.iload 8, 2) := by decide +kernel
theorem i84_78 : dxI 84 78 = some (.isub, 1) := by decide +kernel
theorem i84_79 : dxI 84 79 = some (.invokestatic 201, 3) := by decide +kernel
theorem i84_82 : dxI 84 82 = some (.imul, 1) := by decide +kernel
theorem i84_83 : dxI 84 83 = some (.istore 9, 2) := by decide +kernel
theorem i84_85 : dxI 84 85 = some (.iload 6, 2) := by decide +kernel
theorem i84_87 : dxI 84 87 = some (.iload 9, 2) := by decide +kernel
theorem i84_89 : dxI 84 89 = some (.aload_n 0, 1) := by decide +kernel
theorem i84_90 : dxI 84 90 = some (.iload 7, 2) := by decide +kernel
theorem i84_92 : dxI 84 92 = some (.iload 5, 2) := by decide +kernel
theorem i84_94 : dxI 84 94 = some (.ior, 1) := by decide +kernel
theorem i84_95 : dxI 84 95 = some (.iload_n 2, 1) := by decide +kernel
theorem i84_96 : dxI 84 96 = some (.invokevirtual 204, 3) := by decide +kernel
theorem i84_99 : dxI 84 99 = some (.aload_n 0, 1) := by decide +kernel
theorem i84_100 : dxI 84 100 = some (.iload 7, 2) := by decide +kernel
theorem i84_102 : dxI 84 102 = some (.iload_n 2, 1) := by decide +kernel
theorem i84_103 : dxI 84 103 = some (.invokevirtual 204, 3) := by decide +kernel
theorem i84_106 : dxI 84 106 = some (.isub, 1) := by decide +kernel
theorem i84_107 : dxI 84 107 = some (.imul, 1) := by decide +kernel
theorem i84_108 : dxI 84 108 = some (.iadd, 1) := by decide +kernel
theorem i84_109 : dxI 84 109 = some (.istore 6, 2) := by decide +kernel
theorem i84_111 : dxI 84 111 = some (.iinc 7 1, 3) := by decide +kernel
theorem i84_114 : dxI 84 114 = some (.goto (-71), 3) := by decide +kernel
theorem i84_117 : dxI 84 117 = some (.iload 6, 2) := by decide +kernel
theorem i84_119 : dxI 84 119 = some (.iload 4, 2) := by decide +kernel
theorem i84_121 : dxI 84 121 = some (.invokestatic 201, 3) := by decide +kernel
theorem i84_124 : dxI 84 124 = some (.iload_n 3, 1) := by decide +kernel
theorem i84_125 : dxI 84 125 = some (.invokestatic 208, 3) := by decide +kernel
theorem i84_128 : dxI 84 128 = some (.ireturn, 1) := by decide +kernel
theorem i85_0 : dxI 85 0 = some (.iload_n 1, 1) := by decide +kernel
theorem i85_1 : dxI 85 1 = some (.invokestatic 156, 3) := by decide +kernel
theorem i85_4 : dxI 85 4 = some (.ifCond .eq 14, 3) := by decide +kernel
theorem i85_7 : dxI 85 7 = some (.iload_n 2, 1) := by decide +kernel
theorem i85_8 : dxI 85 8 = some (.ifCond .lt 10, 3) := by decide +kernel
theorem i85_11 : dxI 85 11 = some (.iload_n 2, 1) := by decide +kernel
theorem i85_12 : dxI 85 12 = some (.iconst 1, 1) := by decide +kernel
theorem i85_13 : dxI 85 13 = some (.iload_n 1, 1) := by decide +kernel
theorem i85_14 : dxI 85 14 = some (.ishl, 1) := by decide +kernel
theorem i85_15 : dxI 85 15 = some (.if_icmp .lt 6, 3) := by decide +kernel
theorem i85_18 : dxI 85 18 = some (.bipush (-2), 2) := by decide +kernel
theorem i85_20 : dxI 85 20 = some (.ireturn, 1) := by decide +kernel
theorem i85_21 : dxI 85 21 = some (.aload_n 0, 1) := by decide +kernel
theorem i85_22 : dxI 85 22 = some (.getfield 28, 3) := by decide +kernel
theorem i85_25 : dxI 85 25 = some (.invokevirtual 144, 3) := by decide +kernel
theorem i85_28 : dxI 85 28 = some (.ifCond .eq 6, 3) := by decide +kernel
theorem i85_31 : dxI 85 31 = some (.bipush (-9), 2) := by decide +kernel
theorem i85_33 : dxI 85 33 = some (.ireturn, 1) := by decide +kernel
theorem i85_34 : dxI 85 34 = some (.aload_n 0, 1) := by decide +kernel
theorem i85_35 : dxI 85 35 = some (.getfield 32, 3) := by decide +kernel
theorem i85_38 : dxI 85 38 = some (.aload_n 0, 1) := by decide +kernel
theorem i85_39 : dxI 85 39 = some (.getfield 28, 3) := by decide +kernel
theorem i85_42 : dxI 85 42 = some (.invokevirtual 159, 3) := by decide +kernel
theorem i85_45 : dxI 85 45 = some (.iconst 0, 1) := by decide +kernel
theorem i85_46 : dxI 85 46 = some (.istore_n 3, 1) := by decide +kernel
theorem i85_47 : dxI 85 47 = some (.iconst 0, 1) := by decide +kernel
theorem i85_48 : dxI 85 48 = some (.istore 4, 2) := by decide +kernel
theorem i85_50 : dxI 85 50 = some (.iload 4, 2) := by decide +kernel
theorem i85_52 : dxI 85 52 = some (.iload_n 1, 1) := by decide +kernel
theorem i85_53 : dxI 85 53 = some (.if_icmp .ge 85, 3) := by decide +kernel
theorem i85_56 : dxI 85 56 = some (.iload_n 2, 1) := by decide +kernel
theorem i85_57 : dxI 85 57 = some (.iload 4, 2) := by decide +kernel
theorem i85_59 : dxI 85 59 = some (.ishr, 1) := by decide +kernel
theorem i85_60 : dxI 85 60 = some (.iconst 1, 1) := by decide +kernel
theorem i85_61 : dxI 85 61 = some (.iand, 1) := by decide +kernel
theorem i85_62 : dxI 85 62 = some (.iconst 1, 1) := by decide +kernel
theorem i85_63 : dxI 85 63 = some (.if_icmp .ne 7, 3) := by decide +kernel
theorem i85_66 : dxI 85 66 = some (.iconst 1, 1) := by decide +kernel
theorem i85_67 : dxI 85 67 = some (.goto 4, 3) := by decide +kernel
theorem i85_70 : dxI 85 70 = some (.iconst 0, 1) := by decide +kernel
theorem i85_71 : dxI 85 71 = some (.istore 5, 2) := by decide +kernel
theorem i85_73 : dxI 85 73 = some (.aload_n 0, 1) := by decide +kernel
theorem i85_74 : dxI 85 74 = some (.getfield 32, 3) := by decide +kernel
theorem i85_77 : dxI 85 77 = some (.iconst 0, 1) := by decide +kernel
theorem i85_78 : dxI 85 78 = some (.invokevirtual 212, 3) := by decide +kernel
theorem i85_81 : dxI 85 81 = some (.iconst 1, 1) := by decide +kernel
theorem i85_82 : dxI 85 82 = some (.if_icmp .ne 7, 3) := by decide +kernel
theorem i85_85 : dxI 85 85 = some (.iconst 1, 1) := by decide +kernel
theorem i85_86 : dxI 85 86 = some (.goto 4, 3) := by decide +kernel
theorem i85_89 : dxI 85 89 = some (.iconst 0, 1) := by decide +kernel
theorem i85_90 : dxI 85 90 = some (.istore 6, 2) := by decide +kernel
theorem i85_92 : dxI 85 92 = some (.iload 6, 2) := by decide +kernel
theorem i85_94 : dxI 85 94 = some (.ifCond .eq 11, 3) := by decide +kernel
theorem i85_97 : dxI 85 97 = some (.iload 5, 2) := by decide +kernel
theorem i85_99 : dxI 85 99 = some (.ifCond .ne 6, 3) := by decide +kernel
theorem i85_102 : dxI 85 102 = some (.bipush (-9), 2) := by decide +kernel
theorem i85_104 : dxI 85 104 = some (.ireturn, 1) := by decide +kernel
theorem i85_105 : dxI 85 105 = some (.iload 5, 2) := by decide +kernel
theorem i85_107 : dxI 85 107 = some (.ifCond .eq 15, 3) := by decide +kernel
theorem i85_110 : dxI 85 110 = some (.iload 6, 2) := by decide +kernel
theorem i85_112 : dxI 85 112 = some (.ifCond .ne 10, 3) := by decide +kernel
theorem i85_115 : dxI 85 115 = some (.iload_n 3, 1) := by decide +kernel
theorem i85_116 : dxI 85 116 = some (.iconst 1, 1) := by decide +kernel
theorem i85_117 : dxI 85 117 = some (.iload 4, 2) := by decide +kernel
theorem i85_119 : dxI 85 119 = some (.ishl, 1) := by decide +kernel
theorem i85_120 : dxI 85 120 = some (.ior, 1) := by decide +kernel
theorem i85_121 : dxI 85 121 = some (.istore_n 3, 1) := by decide +kernel
theorem i85_122 : dxI 85 122 = some (.aload_n 0, 1) := by decide +kernel
theorem i85_123 : dxI 85 123 = some (.getfield 32, 3) := by decide +kernel
theorem i85_126 : dxI 85 126 = some (.iload 5, 2) := by decide +kernel
theorem i85_128 : dxI 85 128 = some (.invokevirtual 126, 3) := by decide +kernel
theorem i85_131 : dxI 85 131 = some (.pop, 1) := by decide +kernel
theorem i85_132 : dxI 85 132 = some (.iinc 4 1, 3) := by decide +kernel
theorem i85_135 : dxI 85 135 = some (.goto (-85), 3) := by decide +kernel
theorem i85_138 : dxI 85 138 = some (.iload_n 3, 1) := by decide +kernel
theorem i85_139 : dxI 85 139 = some (.ireturn, 1) := by decide +kernel
theorem i86_0 : dxI 86 0 = some (.aload_n 0, 1) := by decide +kernel
theorem i86_1 : dxI 86 1 = some (.getfield 19, 3) := by decide +kernel
theorem i86_4 : dxI 86 4 = some (.iload_n 1, 1) := by decide +kernel
theorem i86_5 : dxI 86 5 = some (.invokevirtual 105, 3) := by decide +kernel
theorem i86_8 : dxI 86 8 = some (.ifCond .ne 5, 3) := by decide +kernel
theorem i86_11 : dxI 86 11 = some (.iconst (-1), 1) := by decide +kernel
theorem i86_12 : dxI 86 12 = some (.ireturn, 1) := by decide +kernel
theorem i86_13 : dxI 86 13 = some (.iload_n 2, 1) := by decide +kernel
theorem i86_14 : dxI 86 14 = some (.ifCond .lt 9, 3) := by decide +kernel
theorem i86_17 : dxI 86 17 = some (.iload_n 2, 1) := by decide +kernel
theorem i86_18 : dxI 86 18 = some (.bipush 8, 2) := by decide +kernel
theorem i86_20 : dxI 86 20 = some (.if_icmp .lt 6, 3) := by decide +kernel
theorem i86_23 : dxI 86 23 = some (.bipush (-2), 2) := by decide +kernel
theorem i86_25 : dxI 86 25 = some (.ireturn, 1) := by decide +kernel
theorem i86_26 : dxI 86 26 = some (.aload_n 0, 1) := by decide +kernel
theorem i86_27 : dxI 86 27 = some (.getfield 58, 3) := by decide +kernel
theorem i86_30 : dxI 86 30 = some (.iload_n 1, 1) := by decide +kernel
theorem i86_31 : dxI 86 31 = some (.iload_n 2, 1) := by decide +kernel
theorem i86_32 : dxI 86 32 = some (.iload_n 3, 1) := by decide +kernel
theorem i86_33 : dxI 86 33 = some (.invokevirtual 215, 3) := by decide +kernel
theorem i86_36 : dxI 86 36 = some (.ifCond .eq 13, 3) := by decide +kernel
theorem i86_39 : dxI 86 39 = some (.aload_n 0, 1) := by decide +kernel
theorem i86_40 : dxI 86 40 = some (.getfield 58, 3) := by decide +kernel
theorem i86_43 : dxI 86 43 = some (.invokevirtual 218, 3) := by decide +kernel
theorem i86_46 : dxI 86 46 = some (.goto 5, 3) := by decide +kernel
theorem i86_49 : dxI 86 49 = some (.bipush (-4), 2) := by decide +kernel
theorem i86_51 : dxI 86 51 = some (.ireturn, 1) := by decide +kernel
theorem i87_0 : dxI 87 0 = some (.aload_n 0, 1) := by decide +kernel
theorem i87_1 : dxI 87 1 = some (.getfield 58, 3) := by decide +kernel
theorem i87_4 : dxI 87 4 = some (.invokevirtual 218, 3) := by decide +kernel
theorem i87_7 : dxI 87 7 = some (.istore_n 1, 1) := by decide +kernel
theorem i87_8 : dxI 87 8 = some (.aload_n 0, 1) := by decide +kernel
theorem i87_9 : dxI 87 9 = some (.getfield 58, 3) := by decide +kernel
theorem i87_12 : dxI 87 12 = some (.invokevirtual 219, 3) := by decide +kernel
theorem i87_15 : dxI 87 15 = some (.iload_n 1, 1) := by decide +kernel
theorem i87_16 : dxI 87 16 = some (.ireturn, 1) := by decide +kernel
theorem i88_0 : dxI 88 0 = some (.aload_n 0, 1) := by decide +kernel
theorem i88_1 : dxI 88 1 = some (.getfield 19, 3) := by decide +kernel
theorem i88_4 : dxI 88 4 = some (.iload_n 1, 1) := by decide +kernel
theorem i88_5 : dxI 88 5 = some (.invokevirtual 105, 3) := by decide +kernel
theorem i88_8 : dxI 88 8 = some (.ifCond .ne 5, 3) := by decide +kernel
theorem i88_11 : dxI 88 11 = some (.iconst (-1), 1) := by decide +kernel
theorem i88_12 : dxI 88 12 = some (.ireturn, 1) := by decide +kernel
theorem i88_13 : dxI 88 13 = some (.iconst 0, 1) := by decide +kernel
theorem i88_14 : dxI 88 14 = some (.istore_n 2, 1) := by decide +kernel
theorem i88_15 : dxI 88 15 = some (.iconst 0, 1) := by decide +kernel
theorem i88_16 : dxI 88 16 = some (.istore_n 3, 1) := by decide +kernel
theorem i88_17 : dxI 88 17 = some (.iload_n 3, 1) := by decide +kernel
theorem i88_18 : dxI 88 18 = some (.bipush 9, 2) := by decide +kernel
theorem i88_20 : dxI 88 20 = some (.if_icmp .gt 42, 3) := by decide +kernel
theorem i88_23 : dxI 88 23 = some (.aload_n 0, 1) := by decide +kernel
theorem i88_24 : dxI 88 24 = some (.getfield 32, 3) := by decide +kernel
theorem i88_27 : dxI 88 27 = some (.aload_n 0, 1) := by decide +kernel
theorem i88_28 : dxI 88 28 = some (.getfield 28, 3) := by decide +kernel
theorem i88_31 : dxI 88 31 = some (.invokevirtual 159, 3) := by decide +kernel
theorem i88_34 : dxI 88 34 = some (.aload_n 0, 1) := by decide +kernel
theorem i88_35 : dxI 88 35 = some (.getfield 32, 3) := by decide +kernel
theorem i88_38 : dxI 88 38 = some (.iload_n 1, 1) := by decide +kernel
theorem i88_39 : dxI 88 39 = some (.iload_n 3, 1) := by decide +kernel
theorem i88_40 : dxI 88 40 = some (.invokevirtual 220, 3) := by decide +kernel
theorem i88_43 : dxI 88 43 = some (.aload_n 0, 1) := by decide +kernel
theorem i88_44 : dxI 88 44 = some (.invokevirtual 223, 3) := by decide +kernel
theorem i88_47 : dxI 88 47 = some (.ifCond .eq 9, 3) := by decide +kernel
theorem i88_50 : dxI 88 50 = some (.iload_n 2, 1) := by decide +kernel
theorem i88_51 : dxI 88 51 = some (.iconst 1, 1) := by decide +kernel
theorem i88_52 : dxI 88 52 = some (.iload_n 3, 1) := by decide +kernel
theorem i88_53 : dxI 88 53 = some (.ishl, 1) := by decide +kernel
theorem i88_54 : dxI 88 54 = some (.ior, 1) := by decide +kernel
theorem i88_55 : dxI 88 55 = some (.istore_n 2, 1) := by decide +kernel
theorem i88_56 : dxI 88 56 = some (.iinc 3 1, 3) := by decide +kernel
theorem i88_59 : dxI 88 59 = some (.goto (-42), 3) := by decide +kernel
theorem i88_62 : dxI 88 62 = some (.iload_n 2, 1) := by decide +kernel
theorem i88_63 : dxI 88 63 = some (.ireturn, 1) := by decide +kernel
theorem i89_0 : dxI 89 0 = some (.iload_n 1, 1) := by decide +kernel
theorem i89_1 : dxI 89 1 = some (.invokestatic 156, 3) := by decide +kernel
theorem i89_4 : dxI 89 4 = some (.ifCond .eq 12, 3) := by decide +kernel
theorem i89_7 : dxI 89 7 = some (.iload_n 2, 1) := by decide +kernel
theorem i89_8 : dxI 89 8 = some (.ifCond .lt 8, 3) := by decide +kernel
theorem i89_11 : dxI 89 11 = some (.iload_n 2, 1) := by decide +kernel
theorem i89_12 : dxI 89 12 = some (.iconst 1, 1) := by decide +kernel
theorem i89_13 : dxI 89 13 = some (.if_icmp .le 6, 3) := by decide +kernel
theorem i89_16 : dxI 89 16 = some (.bipush (-2), 2) := by decide +kernel
theorem i89_18 : dxI 89 18 = some (.ireturn, 1) := by decide +kernel
theorem i89_19 : dxI 89 19 = some (.aload_n 0, 1) := by decide +kernel
theorem i89_20 : dxI 89 20 = some (.iconst 0, 1) := by decide +kernel
theorem i89_21 : dxI 89 21 = some (.invokevirtual 175, 3) := by decide +kernel
theorem i89_24 : dxI 89 24 = some (.astore_n 3, 1) := by decide +kernel
theorem i89_25 : dxI 89 25 = some (.aload_n 0, 1) := by decide +kernel
theorem i89_26 : dxI 89 26 = some (.iconst 1, 1) := by decide +kernel
theorem i89_27 : dxI 89 27 = some (.invokevirtual 175, 3) := by decide +kernel
theorem i89_30 : dxI 89 30 = some (.astore 4, 2) := by decide +kernel
theorem i89_32 : dxI 89 32 = some (.iconst 0, 1) := by decide +kernel
theorem i89_33 : dxI 89 33 = some (.istore 5, 2) := by decide +kernel
theorem i89_35 : dxI 89 35 = some (.iconst 0, 1) := by decide +kernel
theorem i89_36 : dxI 89 36 = some (.istore 6, 2) := by decide +kernel
theorem i89_38 : dxI 89 38 = some (.iload 6, 2) := by decide +kernel
theorem i89_40 : dxI 89 40 = some (.aload_n 3, 1) := by decide +kernel
theorem i89_41 : dxI 89 41 = some (.invokevirtual 179, 3) := by decide +kernel
theorem i89_44 : dxI 89 44 = some (.if_icmp .ge 64, 3) := by decide +kernel
theorem i89_47 : dxI 89 47 = some (.iconst 0, 1) := by decide +kernel
theorem i89_48 : dxI 89 48 = some (.istore 7, 2) := by decide +kernel
theorem i89_50 : dxI 89 50 = some (.iload 7, 2) := by decide +kernel
theorem i89_52 : dxI 89 52 = some (.aload 4, 2) := by decide +kernel
theorem i89_54 : dxI 89 54 = some (.invokevirtual 179, 3) := by decide +kernel
theorem i89_57 : dxI 89 57 = some (.if_icmp .ge 45, 3) := by decide +kernel
theorem i89_60 : dxI 89 60 = some (.iload 5, 2) := by decide +kernel
theorem i89_62 : dxI 89 62 = some (.sipush 176, 3) := by decide +kernel
theorem i89_65 : dxI 89 65 = some (.if_icmp .ge 37, 3) := by decide +kernel
theorem i89_68 : dxI 89 68 = some (.aload_n 0, 1) := by decide +kernel
theorem i89_69 : dxI 89 69 = some (.getfield 72, 3) := by decide +kernel
theorem i89_72 : dxI 89 72 = some (.iload 5, 2) := by decide +kernel
theorem i89_74 : dxI 89 74 = some (.aload_n 0, 1) := by decide +kernel
theorem i89_75 : dxI 89 75 = some (.aload_n 3, 1) := by decide +kernel
theorem i89_76 : dxI 89 76 = some (.iload 6, 2) := by decide +kernel
theorem i89_78 : dxI 89 78 = some (.invokevirtual 180, 3) := by decide +kernel
theorem i89_81 : dxI 89 81 = some (.aload 4, 2) := by decide +kernel
theorem i89_83 : dxI 89 83 = some (.iload 7, 2) := by decide +kernel
theorem i89_85 : dxI 89 85 = some (.invokevirtual 180, 3) := by decide +kernel
theorem i89_88 : dxI 89 88 = some (.iload_n 1, 1) := by decide +kernel
theorem i89_89 : dxI 89 89 = some (.invokevirtual 162, 3) := by decide +kernel
theorem i89_92 : dxI 89 92 = some (.iastore, 1) := by decide +kernel
theorem i89_93 : dxI 89 93 = some (.iinc 5 1, 3) := by decide +kernel
theorem i89_96 : dxI 89 96 = some (.iinc 7 1, 3) := by decide +kernel
theorem i89_99 : dxI 89 99 = some (.goto (-49), 3) := by decide +kernel
theorem i89_102 : dxI 89 102 = some (.iinc 6 1, 3) := by decide +kernel
theorem i89_105 : dxI 89 105 = some (.goto (-67), 3) := by decide +kernel
theorem i89_108 : dxI 89 108 = some (.iconst 0, 1) := by decide +kernel
theorem i89_109 : dxI 89 109 = some (.istore 6, 2) := by decide +kernel
theorem i89_111 : dxI 89 111 = some (.bipush (-9), 2) := by decide +kernel
theorem i89_113 : dxI 89 113 = some (.istore 7, 2) := by decide +kernel
theorem i89_115 : dxI 89 115 = some (.iconst 0, 1) := by decide +kernel
theorem i89_116 : dxI 89 116 = some (.istore 8, 2) := by decide +kernel
theorem i89_118 : dxI 89 118 = some (.iload 8, 2) := by decide +kernel
theorem i89_120 : dxI 89 120 = some (.aload_n 3, 1) := by decide +kernel
theorem i89_121 : dxI 89 121 = some (.invokevirtual 179, 3) := by decide +kernel
theorem i89_124 : dxI 89 124 = some (.if_icmp .ge 83, 3) := by decide +kernel
theorem i89_127 : dxI 89 127 = some (.iconst 0, 1) := by decide +kernel
theorem i89_128 : dxI 89 128 = some (.istore 9, 2) := by decide +kernel
theorem i89_130 : dxI 89 130 = some (.iload 9, 2) := by decide +kernel
theorem i89_132 : dxI 89 132 = some (.aload 4, 2) := by decide +kernel
theorem i89_134 : dxI 89 134 = some (.invokevirtual 179, 3) := by decide +kernel
theorem i89_137 : dxI 89 137 = some (.if_icmp .ge 64, 3) := by decide +kernel
theorem i89_140 : dxI 89 140 = some (.aload_n 0, 1) := by decide +kernel
theorem i89_141 : dxI 89 141 = some (.iload 8, 2) := by decide +kernel
theorem i89_143 : dxI 89 143 = some (.iload 9, 2) := by decide +kernel
theorem i89_145 : dxI 89 145 = some (.aload_n 3, 1) := by decide +kernel
theorem i89_146 : dxI 89 146 = some (.invokevirtual 179, 3) := by decide +kernel
theorem i89_149 : dxI 89 149 = some (.aload 4, 2) := by decide +kernel
theorem i89_151 : dxI 89 151 = some (.invokevirtual 179, 3) := by decide +kernel
theorem i89_154 : dxI 89 154 = some (.invokevirtual 226, 3) := by decide +kernel
theorem i89_157 : dxI 89 157 = some (.ifCond .eq 38, 3) := by decide +kernel
theorem i89_160 : dxI 89 160 = some (.iinc 6 1, 3) := by decide +kernel
theorem i89_163 : dxI 89 163 = some (.iload 7, 2) := by decide +kernel
theorem i89_165 : dxI 89 165 = some (.bipush (-9), 2) := by decide +kernel
theorem i89_167 : dxI 89 167 = some (.if_icmp .ne 24, 3) := by decide +kernel
theorem i89_170 : dxI 89 170 = some (.sipush 1000, 3) := by decide +kernel
theorem i89_173 : dxI 89 173 = some (.aload_n 3, 1) := by decide +kernel
theorem i89_174 : dxI 89 174 = some (.iload 8, 2) := by decide +kernel
theorem i89_176 : dxI 89 176 = some (.invokevirtual 180, 3) := by decide +kernel
theorem i89_179 : dxI 89 179 = some (.imul, 1) := by decide +kernel
theorem i89_180 : dxI 89 180 = some (.aload 4, 2) := by decide +kernel
theorem i89_182 : dxI 89 182 = some (.iload 9, 2) := by decide +kernel
theorem i89_184 : dxI 89 184 = some (.invokevirtual 180, 3) := by decide +kernel
theorem i89_187 : dxI 89 187 = some (.iadd, 1) := by decide +kernel
theorem i89_188 : dxI 89 188 = some (.goto 5, 3) := by decide +kernel
theorem i89_191 : dxI 89 191 = some (.iload 7, 2) := by decide +kernel
theorem i89_193 : dxI 89 193 = some (.istore 7, 2) := by decide +kernel
theorem i89_195 : dxI 89 195 = some (.iinc 9 1, 3) := by decide +kernel
theorem i89_198 : dxI 89 198 = some (.goto (-68), 3) := by decide +kernel
theorem i89_201 : dxI 89 201 = some (.iinc 8 1, 3) := by decide +kernel
theorem i89_204 : dxI 89 204 = some (.goto (-86), 3) := by decide +kernel
theorem i89_207 : dxI 89 207 = some (.iload_n 2, 1) := by decide +kernel
theorem i89_208 : dxI 89 208 = some (.ifCond .ne 8, 3) := by decide +kernel
theorem i89_211 : dxI 89 211 = some (.iload 6, 2) := by decide +kernel
theorem i89_213 : dxI 89 213 = some (.goto 5, 3) := by decide +kernel
theorem i89_216 : dxI 89 216 = some (.iload 7, 2) := by decide +kernel
theorem i89_218 : dxI 89 218 = some (.ireturn, 1) := by decide +kernel
theorem i90_0 : dxI 90 0 = some (.iload_n 1, 1) := by decide +kernel
theorem i90_1 : dxI 90 1 = some (.iconst 1, 1) := by decide +kernel
theorem i90_2 : dxI 90 2 = some (.if_icmp .lt 19, 3) := by decide +kernel
theorem i90_5 : dxI 90 5 = some (.iload_n 1, 1) := by decide +kernel
theorem i90_6 : dxI 90 6 = some (.bipush 6, 2) := by decide +kernel
theorem i90_8 : dxI 90 8 = some (.if_icmp .gt 13, 3) := by decide +kernel
theorem i90_11 : dxI 90 11 = some (.iload_n 2, 1) := by decide +kernel
theorem i90_12 : dxI 90 12 = some (.ifCond .lt 9, 3) := by decide +kernel
theorem i90_15 : dxI 90 15 = some (.iload_n 2, 1) := by decide +kernel
theorem i90_16 : dxI 90 16 = some (.bipush 10, 2) := by decide +kernel
theorem i90_18 : dxI 90 18 = some (.if_icmp .le 6, 3) := by decide +kernel
theorem i90_21 : dxI 90 21 = some (.bipush (-2), 2) := by decide +kernel
theorem i90_23 : dxI 90 23 = some (.ireturn, 1) := by decide +kernel
theorem i90_24 : dxI 90 24 = some (.iconst 0, 1) := by decide +kernel
theorem i90_25 : dxI 90 25 = some (.istore 4, 2) := by decide +kernel
theorem i90_27 : dxI 90 27 = some (.iconst 0, 1) := by decide +kernel
theorem i90_28 : dxI 90 28 = some (.istore 5, 2) := by decide +kernel
theorem i90_30 : dxI 90 30 = some (.iload 5, 2) := by decide +kernel
theorem i90_32 : dxI 90 32 = some (.iconst 1, 1) := by decide +kernel
theorem i90_33 : dxI 90 33 = some (.iload_n 1, 1) := by decide +kernel
theorem i90_34 : dxI 90 34 = some (.ishl, 1) := by decide +kernel
theorem i90_35 : dxI 90 35 = some (.if_icmp .ge 49, 3) := by decide +kernel
theorem i90_38 : dxI 90 38 = some (.aload_n 0, 1) := by decide +kernel
theorem i90_39 : dxI 90 39 = some (.iload 5, 2) := by decide +kernel
theorem i90_41 : dxI 90 41 = some (.iload_n 1, 1) := by decide +kernel
theorem i90_42 : dxI 90 42 = some (.invokevirtual 230, 3) := by decide +kernel
theorem i90_45 : dxI 90 45 = some (.ifCond .eq 33, 3) := by decide +kernel
theorem i90_48 : dxI 90 48 = some (.iload 5, 2) := by decide +kernel
theorem i90_50 : dxI 90 50 = some (.invokestatic 196, 3) := by decide +kernel
theorem i90_53 : dxI 90 53 = some (.istore 6, 2) := by decide +kernel
theorem i90_55 : dxI 90 55 = some (.iload 4, 2) := by decide +kernel
theorem i90_57 : dxI 90 57 = some (.iload_n 2, 1) := by decide +kernel
theorem i90_58 : dxI 90 58 = some (.iload 6, 2) := by decide +kernel
theorem i90_60 : dxI 90 60 = some (.invokestatic 234, 3) := by decide +kernel
theorem i90_63 : dxI 90 63 = some (.bipush 10, 2) := by decide +kernel
theorem i90_65 : dxI 90 65 = some (.iload_n 2, 1) := by decide +kernel
theorem i90_66 : dxI 90 66 = some (.isub, 1) := by decide +kernel
theorem i90_67 : dxI 90 67 = some (.iload_n 1, 1) := by decide +kernel
theorem i90_68 : dxI 90 68 = some (.iload 6, 2) := by decide +kernel
theorem i90_70 : dxI 90 70 = some (.isub, 1) := by decide +kernel
theorem i90_71 : dxI 90 71 = some (.invokestatic 234, 3) := by decide +kernel
theorem i90_74 : dxI 90 74 = some (.imul, 1) := by decide +kernel
theorem i90_75 : dxI 90 75 = some (.iadd, 1) := by decide +kernel
theorem i90_76 : dxI 90 76 = some (.istore 4, 2) := by decide +kernel
theorem i90_78 : dxI 90 78 = some (.iinc 5 1, 3) := by decide +kernel
theorem i90_81 : dxI 90 81 = some (.goto (-51), 3) := by decide +kernel
theorem i90_84 : dxI 90 84 = some (.iload 4, 2) := by decide +kernel
theorem i90_86 : dxI 90 86 = some (.iload_n 1, 1) := by decide +kernel
theorem i90_87 : dxI 90 87 = some (.invokestatic 193, 3) := by decide +kernel
theorem i90_90 : dxI 90 90 = some (.iload_n 3, 1) := by decide +kernel
theorem i90_91 : dxI 90 91 = some (.invokestatic 208, 3) := by decide +kernel
theorem i90_94 : dxI 90 94 = some (.ireturn, 1) := by decide +kernel
theorem i91_0 : dxI 91 0 = some (.aload_n 0, 1) := by decide +kernel
theorem i91_1 : dxI 91 1 = some (.getfield 237, 3) := by decide +kernel
theorem i91_4 : dxI 91 4 = some (.lstore_n 3, 1) := by decide +kernel
theorem i91_5 : dxI 91 5 = some (.aload_n 0, 1) := by decide +kernel
theorem i91_6 : dxI 91 6 = some (.lload_n 1, 1) := by decide +kernel
theorem i91_7 : dxI 91 7 = some (.putfield 237, 3) := by decide +kernel
theorem i91_10 : dxI 91 10 = some (.lload_n 3, 1) := by decide +kernel
theorem i91_11 : dxI 91 11 = some (.lreturn, 1) := by decide +kernel
theorem i92_0 : dxI 92 0 = some (.iload_n 1, 1) := by decide +kernel
theorem i92_1 : dxI 92 1 = some (.iconst 1, 1) := by decide +kernel
theorem i92_2 : dxI 92 2 = some (.if_icmp .lt 9, 3) := by decide +kernel
theorem i92_5 : dxI 92 5 = some (.iload_n 1, 1) := by decide +kernel
theorem i92_6 : dxI 92 6 = some (.bipush 30, 2) := by decide +kernel
theorem i92_8 : dxI 92 8 = some (.if_icmp .le 6, 3) := by decide +kernel
theorem i92_11 : dxI 92 11 = some (.bipush (-2), 2) := by decide +kernel
theorem i92_13 : dxI 92 13 = some (.ireturn, 1) := by decide +kernel
theorem i92_14 : dxI 92 14 = some (.aload_n 0, 1) := by decide +kernel
theorem i92_15 : dxI 92 15 = some (.getfield 32, 3) := by decide +kernel
theorem i92_18 : dxI 92 18 = some (.aload_n 0, 1) := by decide +kernel
theorem i92_19 : dxI 92 19 = some (.getfield 28, 3) := by decide +kernel
theorem i92_22 : dxI 92 22 = some (.invokevirtual 159, 3) := by decide +kernel
theorem i92_25 : dxI 92 25 = some (.iconst 0, 1) := by decide +kernel
theorem i92_26 : dxI 92 26 = some (.istore_n 2, 1) := by decide +kernel
theorem i92_27 : dxI 92 27 = some (.iload_n 2, 1) := by decide +kernel
theorem i92_28 : dxI 92 28 = some (.iload_n 1, 1) := by decide +kernel
theorem i92_29 : dxI 92 29 = some (.if_icmp .ge 86, 3) := by decide +kernel
theorem i92_32 : dxI 92 32 = some (.aload_n 0, 1) := by decide +kernel
theorem i92_33 : dxI 92 33 = some (.aload_n 0, 1) := by decide +kernel
theorem i92_34 : dxI 92 34 = some (.getfield 237, 3) := by decide +kernel
theorem i92_37 : dxI 92 37 = some (.ldc2_w 241, 3) := by decide +kernel
theorem i92_40 : dxI 92 40 = some (.lmul, 1) := by decide +kernel
theorem i92_41 : dxI 92 41 = some (.ldc2_w 243, 3) := by decide +kernel
theorem i92_44 : dxI 92 44 = some (.ladd, 1) := by decide +kernel
theorem i92_45 : dxI 92 45 = some (.putfield 237, 3) := by decide +kernel
theorem i92_48 : dxI 92 48 = some (.aload_n 0, 1) := by decide +kernel
theorem i92_49 : dxI 92 49 = some (.getfield 237, 3) := by decide +kernel
theorem i92_52 : dxI 92 52 = some (.bipush 33, 2) := by decide +kernel
theorem i92_54 : dxI 92 54 = some (.lushr, 1) := by decide +kernel
theorem i92_55 : dxI 92 55 = some (.ldc2_w 245, 3) := by decide +kernel
theorem i92_58 : dxI 92 58 = some (.lrem, 1) := by decide +kernel
theorem i92_59 : dxI 92 59 = some (.l2i, 1) := by decide +kernel
theorem i92_60 : dxI 92 60 = some (.istore_n 3, 1) := by decide +kernel
theorem i92_61 : dxI 92 61 = some (.iload_n 3, 1) := by decide +kernel
theorem i92_62 : dxI 92 62 = some (.invokestatic 98, 3) := by decide +kernel
theorem i92_65 : dxI 92 65 = some (.ifCond .eq 11, 3) := by decide +kernel
theorem i92_68 : dxI 92 68 = some (.aload_n 0, 1) := by decide +kernel
theorem i92_69 : dxI 92 69 = some (.getfield 32, 3) := by decide +kernel
theorem i92_72 : dxI 92 72 = some (.iload_n 3, 1) := by decide +kernel
theorem i92_73 : dxI 92 73 = some (.invokevirtual 140, 3) := by decide +kernel
theorem i92_76 : dxI 92 76 = some (.aload_n 0, 1) := by decide +kernel
theorem i92_77 : dxI 92 77 = some (.getfield 32, 3) := by decide +kernel
theorem i92_80 : dxI 92 80 = some (.iload_n 3, 1) := by decide +kernel
theorem i92_81 : dxI 92 81 = some (.bipush 10, 2) := by decide +kernel
theorem i92_83 : dxI 92 83 = some (.if_icmp .lt 13, 3) := by decide +kernel
theorem i92_86 : dxI 92 86 = some (.iload_n 3, 1) := by decide +kernel
theorem i92_87 : dxI 92 87 = some (.bipush 11, 2) := by decide +kernel
theorem i92_89 : dxI 92 89 = some (.if_icmp .gt 7, 3) := by decide +kernel
theorem i92_92 : dxI 92 92 = some (.iconst 1, 1) := by decide +kernel
theorem i92_93 : dxI 92 93 = some (.goto 4, 3) := by decide +kernel
theorem i92_96 : dxI 92 96 = some (.iconst 0, 1) := by decide +kernel
theorem i92_97 : dxI 92 97 = some (.invokevirtual 148, 3) := by decide +kernel
theorem i92_100 : dxI 92 100 = some (.aload_n 0, 1) := by decide +kernel
theorem i92_101 : dxI 92 101 = some (.getfield 32, 3) := by decide +kernel
theorem i92_104 : dxI 92 104 = some (.iconst 0, 1) := by decide +kernel
theorem i92_105 : dxI 92 105 = some (.invokevirtual 126, 3) := by decide +kernel
theorem i92_108 : dxI 92 108 = some (.pop, 1) := by decide +kernel
theorem i92_109 : dxI 92 109 = some (.iinc 2 1, 3) := by decide +kernel
theorem i92_112 : dxI 92 112 = some (.goto (-85), 3) := by decide +kernel
theorem i92_115 : dxI 92 115 = some (.aload_n 0, 1) := by decide +kernel
theorem i92_116 : dxI 92 116 = some (.getfield 32, 3) := by decide +kernel
theorem i92_119 : dxI 92 119 = some (.iconst 0, 1) := by decide +kernel
theorem i92_120 : dxI 92 120 = some (.invokevirtual 172, 3) := by decide +kernel
theorem i92_123 : dxI 92 123 = some (.aload_n 0, 1) := by decide +kernel
theorem i92_124 : dxI 92 124 = some (.getfield 28, 3) := by decide +kernel
theorem i92_127 : dxI 92 127 = some (.iconst 0, 1) := by decide +kernel
theorem i92_128 : dxI 92 128 = some (.invokevirtual 172, 3) := by decide +kernel
theorem i92_131 : dxI 92 131 = some (.isub, 1) := by decide +kernel
theorem i92_132 : dxI 92 132 = some (.istore_n 2, 1) := by decide +kernel
theorem i92_133 : dxI 92 133 = some (.aload_n 0, 1) := by decide +kernel
theorem i92_134 : dxI 92 134 = some (.getfield 32, 3) := by decide +kernel
theorem i92_137 : dxI 92 137 = some (.iconst 1, 1) := by decide +kernel
theorem i92_138 : dxI 92 138 = some (.invokevirtual 172, 3) := by decide +kernel
theorem i92_141 : dxI 92 141 = some (.aload_n 0, 1) := by decide +kernel
theorem i92_142 : dxI 92 142 = some (.getfield 28, 3) := by decide +kernel
theorem i92_145 : dxI 92 145 = some (.iconst 1, 1) := by decide +kernel
theorem i92_146 : dxI 92 146 = some (.invokevirtual 172, 3) := by decide +kernel
theorem i92_149 : dxI 92 149 = some (.isub, 1) := by decide +kernel
theorem i92_150 : dxI 92 150 = some (.istore_n 3, 1) := by decide +kernel
theorem i92_151 : dxI 92 151 = some (.iload_n 2, 1) := by decide +kernel
theorem i92_152 : dxI 92 152 = some (.iload_n 3, 1) := by decide +kernel
theorem i92_153 : dxI 92 153 = some (.isub, 1) := by decide +kernel
theorem i92_154 : dxI 92 154 = some (.sipush 1000, 3) := by decide +kernel
theorem i92_157 : dxI 92 157 = some (.iadd, 1) := by decide +kernel
theorem i92_158 : dxI 92 158 = some (.ireturn, 1) := by decide +kernel
theorem i93_0 : dxI 93 0 = some (.iload_n 1, 1) := by decide +kernel
theorem i93_1 : dxI 93 1 = some (.invokestatic 247, 3) := by decide +kernel
theorem i93_4 : dxI 93 4 = some (.ifCond .ne 5, 3) := by decide +kernel
theorem i93_7 : dxI 93 7 = some (.iconst (-1), 1) := by decide +kernel
theorem i93_8 : dxI 93 8 = some (.ireturn, 1) := by decide +kernel
theorem i93_9 : dxI 93 9 = some (.aload_n 0, 1) := by decide +kernel
theorem i93_10 : dxI 93 10 = some (.getfield 47, 3) := by decide +kernel
theorem i93_13 : dxI 93 13 = some (.iload_n 1, 1) := by decide +kernel
theorem i93_14 : dxI 93 14 = some (.aload_n 0, 1) := by decide +kernel
theorem i93_15 : dxI 93 15 = some (.getfield 28, 3) := by decide +kernel
theorem i93_18 : dxI 93 18 = some (.invokevirtual 250, 3) := by decide +kernel
theorem i93_21 : dxI 93 21 = some (.aload_n 0, 1) := by decide +kernel
theorem i93_22 : dxI 93 22 = some (.getfield 51, 3) := by decide +kernel
theorem i93_25 : dxI 93 25 = some (.iload_n 1, 1) := by decide +kernel
theorem i93_26 : dxI 93 26 = some (.iconst 1, 1) := by decide +kernel
theorem i93_27 : dxI 93 27 = some (.bastore, 1) := by decide +kernel
theorem i93_28 : dxI 93 28 = some (.aload_n 0, 1) := by decide +kernel
theorem i93_29 : dxI 93 29 = some (.getfield 28, 3) := by decide +kernel
theorem i93_32 : dxI 93 32 = some (.invokevirtual 254, 3) := by decide +kernel
theorem i93_35 : dxI 93 35 = some (.ireturn, 1) := by decide +kernel
theorem i94_0 : dxI 94 0 = some (.iload_n 1, 1) := by decide +kernel
theorem i94_1 : dxI 94 1 = some (.invokestatic 247, 3) := by decide +kernel
theorem i94_4 : dxI 94 4 = some (.ifCond .ne 5, 3) := by decide +kernel
theorem i94_7 : dxI 94 7 = some (.iconst (-1), 1) := by decide +kernel
theorem i94_8 : dxI 94 8 = some (.ireturn, 1) := by decide +kernel
theorem i94_9 : dxI 94 9 = some (.aload_n 0, 1) := by decide +kernel
theorem i94_10 : dxI 94 10 = some (.getfield 51, 3) := by decide +kernel
theorem i94_13 : dxI 94 13 = some (.iload_n 1, 1) := by decide +kernel
theorem i94_14 : dxI 94 14 = some (.baload, 1) := by decide +kernel
theorem i94_15 : dxI 94 15 = some (.ifCond .ne 6, 3) := by decide +kernel
theorem i94_18 : dxI 94 18 = some (.bipush (-3), 2) := by decide +kernel
theorem i94_20 : dxI 94 20 = some (.ireturn, 1) := by decide +kernel
theorem i94_21 : dxI 94 21 = some (.aload_n 0, 1) := by decide +kernel
theorem i94_22 : dxI 94 22 = some (.getfield 47, 3) := by decide +kernel
theorem i94_25 : dxI 94 25 = some (.iload_n 1, 1) := by decide +kernel
theorem i94_26 : dxI 94 26 = some (.aload_n 0, 1) := by decide +kernel
theorem i94_27 : dxI 94 27 = some (.getfield 28, 3) := by decide +kernel
theorem i94_30 : dxI 94 30 = some (.invokevirtual 257, 3) := by decide +kernel
theorem i94_33 : dxI 94 33 = some (.aload_n 0, 1) := by decide +kernel
theorem i94_34 : dxI 94 34 = some (.getfield 38, 3) := by decide +kernel
theorem i94_37 : dxI 94 37 = some (.invokevirtual 96, 3) := by decide +kernel
theorem i94_40 : dxI 94 40 = some (.aload_n 0, 1) := by decide +kernel
theorem i94_41 : dxI 94 41 = some (.getfield 28, 3) := by decide +kernel
theorem i94_44 : dxI 94 44 = some (.invokevirtual 254, 3) := by decide +kernel
theorem i94_47 : dxI 94 47 = some (.ireturn, 1) := by decide +kernel
theorem i95_0 : dxI 95 0 = some (.iload_n 1, 1) := by decide +kernel
theorem i95_1 : dxI 95 1 = some (.tableswitch 146 0 9 #[55, 63, 71, 79, 95, 104, 113, 121, 130, 138], 55) := by decide +kernel
theorem i95_56 : dxI 95 56 = some (.aload_n 0, 1) := by decide +kernel
theorem i95_57 : dxI 95 57 = some (.getfield 10, 3) := by decide +kernel
theorem i95_60 : dxI 95 60 = some (.invokevirtual 80, 3) := by decide +kernel
theorem i95_63 : dxI 95 63 = some (.ireturn, 1) := by decide +kernel
theorem i95_64 : dxI 95 64 = some (.aload_n 0, 1) := by decide +kernel
theorem i95_65 : dxI 95 65 = some (.getfield 19, 3) := by decide +kernel
theorem i95_68 : dxI 95 68 = some (.invokevirtual 97, 3) := by decide +kernel
theorem i95_71 : dxI 95 71 = some (.ireturn, 1) := by decide +kernel
theorem i95_72 : dxI 95 72 = some (.aload_n 0, 1) := by decide +kernel
theorem i95_73 : dxI 95 73 = some (.getfield 28, 3) := by decide +kernel
theorem i95_76 : dxI 95 76 = some (.invokevirtual 254, 3) := by decide +kernel
theorem i95_79 : dxI 95 79 = some (.ireturn, 1) := by decide +kernel
theorem i95_80 : dxI 95 80 = some (.aload_n 0, 1) := by decide +kernel
theorem i95_81 : dxI 95 81 = some (.getfield 28, 3) := by decide +kernel
theorem i95_84 : dxI 95 84 = some (.invokevirtual 144, 3) := by decide +kernel
theorem i95_87 : dxI 95 87 = some (.ifCond .eq 7, 3) := by decide +kernel
theorem i95_90 : dxI 95 90 = some (.iconst 1, 1) := by decide +kernel
theorem i95_91 : dxI 95 91 = some (.goto 4, 3) := by decide +kernel
theorem i95_94 : dxI 95 94 = some (.iconst 0, 1) := by decide +kernel
theorem i95_95 : dxI 95 95 = some (.ireturn, 1) := by decide +kernel
theorem i95_96 : dxI 95 96 = some (.aload_n 0, 1) := by decide +kernel
theorem i95_97 : dxI 95 97 = some (.getfield 28, 3) := by decide +kernel
theorem i95_100 : dxI 95 100 = some (.iconst 0, 1) := by decide +kernel
theorem i95_101 : dxI 95 101 = some (.invokevirtual 172, 3) := by decide +kernel
theorem i95_104 : dxI 95 104 = some (.ireturn, 1) := by decide +kernel
theorem i95_105 : dxI 95 105 = some (.aload_n 0, 1) := by decide +kernel
theorem i95_106 : dxI 95 106 = some (.getfield 28, 3) := by decide +kernel
theorem i95_109 : dxI 95 109 = some (.iconst 1, 1) := by decide +kernel
theorem i95_110 : dxI 95 110 = some (.invokevirtual 172, 3) := by decide +kernel
theorem i95_113 : dxI 95 113 = some (.ireturn, 1) := by decide +kernel
theorem i95_114 : dxI 95 114 = some (.aload_n 0, 1) := by decide +kernel
theorem i95_115 : dxI 95 115 = some (.getfield 28, 3) := by decide +kernel
theorem i95_118 : dxI 95 118 = some (.invokevirtual 260, 3) := by decide +kernel
theorem i95_121 : dxI 95 121 = some (.ireturn, 1) := by decide +kernel
theorem i95_122 : dxI 95 122 = some (.aload_n 0, 1) := by decide +kernel
theorem i95_123 : dxI 95 123 = some (.getfield 28, 3) := by decide +kernel
theorem i95_126 : dxI 95 126 = some (.iconst 0, 1) := by decide +kernel
theorem i95_127 : dxI 95 127 = some (.invokevirtual 212, 3) := by decide +kernel
theorem i95_130 : dxI 95 130 = some (.ireturn, 1) := by decide +kernel
theorem i95_131 : dxI 95 131 = some (.aload_n 0, 1) := by decide +kernel
theorem i95_132 : dxI 95 132 = some (.getfield 38, 3) := by decide +kernel
theorem i95_135 : dxI 95 135 = some (.invokevirtual 152, 3) := by decide +kernel
theorem i95_138 : dxI 95 138 = some (.ireturn, 1) := by decide +kernel
theorem i95_139 : dxI 95 139 = some (.aload_n 0, 1) := by decide +kernel
theorem i95_140 : dxI 95 140 = some (.getfield 58, 3) := by decide +kernel
theorem i95_143 : dxI 95 143 = some (.invokevirtual 218, 3) := by decide +kernel
theorem i95_146 : dxI 95 146 = some (.ireturn, 1) := by decide +kernel
theorem i95_147 : dxI 95 147 = some (.bipush (-2), 2) := by decide +kernel
theorem i95_149 : dxI 95 149 = some (.ireturn, 1) := by decide +kernel
theorem i96_0 : dxI 96 0 = some (.iload_n 0, 1) := by decide +kernel
theorem i96_1 : dxI 96 1 = some (.ifCond .lt 13, 3) := by decide +kernel
theorem i96_4 : dxI 96 4 = some (.iload_n 0, 1) := by decide +kernel
theorem i96_5 : dxI 96 5 = some (.bipush 10, 2) := by decide +kernel
theorem i96_7 : dxI 96 7 = some (.if_icmp .ge 7, 3) := by decide +kernel
theorem i96_10 : dxI 96 10 = some (.iconst 1, 1) := by decide +kernel
theorem i96_11 : dxI 96 11 = some (.goto 4, 3) := by decide +kernel
theorem i96_14 : dxI 96 14 = some (.iconst 0, 1) := by decide +kernel
theorem i96_15 : dxI 96 15 = some (.ireturn, 1) := by decide +kernel
theorem i97_0 : dxI 97 0 = some (.iload_n 0, 1) := by decide +kernel
theorem i97_1 : dxI 97 1 = some (.ifCond .lt 12, 3) := by decide +kernel
theorem i97_4 : dxI 97 4 = some (.iload_n 0, 1) := by decide +kernel
theorem i97_5 : dxI 97 5 = some (.iconst 2, 1) := by decide +kernel
theorem i97_6 : dxI 97 6 = some (.if_icmp .ge 7, 3) := by decide +kernel
theorem i97_9 : dxI 97 9 = some (.iconst 1, 1) := by decide +kernel
theorem i97_10 : dxI 97 10 = some (.goto 4, 3) := by decide +kernel
theorem i97_13 : dxI 97 13 = some (.iconst 0, 1) := by decide +kernel
theorem i97_14 : dxI 97 14 = some (.ireturn, 1) := by decide +kernel
theorem i98_0 : dxI 98 0 = some (.iload_n 0, 1) := by decide +kernel
theorem i98_1 : dxI 98 1 = some (.ifCond .lt 12, 3) := by decide +kernel
theorem i98_4 : dxI 98 4 = some (.iload_n 0, 1) := by decide +kernel
theorem i98_5 : dxI 98 5 = some (.iconst 2, 1) := by decide +kernel
theorem i98_6 : dxI 98 6 = some (.if_icmp .ge 7, 3) := by decide +kernel
theorem i98_9 : dxI 98 9 = some (.iconst 1, 1) := by decide +kernel
theorem i98_10 : dxI 98 10 = some (.goto 4, 3) := by decide +kernel
theorem i98_13 : dxI 98 13 = some (.iconst 0, 1) := by decide +kernel
theorem i98_14 : dxI 98 14 = some (.ireturn, 1) := by decide +kernel
theorem i99_0 : dxI 99 0 = some (.iload_n 0, 1) := by decide +kernel
theorem i99_1 : dxI 99 1 = some (.iconst 1, 1) := by decide +kernel
theorem i99_2 : dxI 99 2 = some (.if_icmp .lt 13, 3) := by decide +kernel
theorem i99_5 : dxI 99 5 = some (.iload_n 0, 1) := by decide +kernel
theorem i99_6 : dxI 99 6 = some (.bipush 8, 2) := by decide +kernel
theorem i99_8 : dxI 99 8 = some (.if_icmp .gt 7, 3) := by decide +kernel
theorem i99_11 : dxI 99 11 = some (.iconst 1, 1) := by decide +kernel
theorem i99_12 : dxI 99 12 = some (.goto 4, 3) := by decide +kernel
theorem i99_15 : dxI 99 15 = some (.iconst 0, 1) := by decide +kernel
theorem i99_16 : dxI 99 16 = some (.ireturn, 1) := by decide +kernel
theorem i100_0 : dxI 100 0 = some (.iload_n 0, 1) := by decide +kernel
theorem i100_1 : dxI 100 1 = some (.iconst 1, 1) := by decide +kernel
theorem i100_2 : dxI 100 2 = some (.isub, 1) := by decide +kernel
theorem i100_3 : dxI 100 3 = some (.bipush 10, 2) := by decide +kernel
theorem i100_5 : dxI 100 5 = some (.idiv, 1) := by decide +kernel
theorem i100_6 : dxI 100 6 = some (.ireturn, 1) := by decide +kernel
theorem i101_0 : dxI 101 0 = some (.iload_n 0, 1) := by decide +kernel
theorem i101_1 : dxI 101 1 = some (.iconst 1, 1) := by decide +kernel
theorem i101_2 : dxI 101 2 = some (.isub, 1) := by decide +kernel
theorem i101_3 : dxI 101 3 = some (.bipush 10, 2) := by decide +kernel
theorem i101_5 : dxI 101 5 = some (.irem, 1) := by decide +kernel
theorem i101_6 : dxI 101 6 = some (.ireturn, 1) := by decide +kernel
theorem i102_0 : dxI 102 0 = some (.iload_n 0, 1) := by decide +kernel
theorem i102_1 : dxI 102 1 = some (.ifCond .eq 22, 3) := by decide +kernel
theorem i102_4 : dxI 102 4 = some (.iload_n 1, 1) := by decide +kernel
theorem i102_5 : dxI 102 5 = some (.ifCond .eq 18, 3) := by decide +kernel
theorem i102_8 : dxI 102 8 = some (.iload_n 0, 1) := by decide +kernel
theorem i102_9 : dxI 102 9 = some (.invokestatic 186, 3) := by decide +kernel
theorem i102_12 : dxI 102 12 = some (.iload_n 1, 1) := by decide +kernel
theorem i102_13 : dxI 102 13 = some (.invokestatic 186, 3) := by decide +kernel
theorem i102_16 : dxI 102 16 = some (.if_icmp .ne 7, 3) := by decide +kernel
theorem i102_19 : dxI 102 19 = some (.iconst 1, 1) := by decide +kernel
theorem i102_20 : dxI 102 20 = some (.goto 4, 3) := by decide +kernel
theorem i102_23 : dxI 102 23 = some (.iconst 0, 1) := by decide +kernel
theorem i102_24 : dxI 102 24 = some (.ireturn, 1) := by decide +kernel
theorem i103_0 : dxI 103 0 = some (.iload_n 1, 1) := by decide +kernel
theorem i103_1 : dxI 103 1 = some (.iload_n 2, 1) := by decide +kernel
theorem i103_2 : dxI 103 2 = some (.invokestatic 263, 3) := by decide +kernel
theorem i103_5 : dxI 103 5 = some (.ifCond .eq 5, 3) := by decide +kernel
theorem i103_8 : dxI 103 8 = some (.iconst (-1), 1) := by decide +kernel
theorem i103_9 : dxI 103 9 = some (.ireturn, 1) := by decide +kernel
theorem i103_10 : dxI 103 10 = some (.aload_n 0, 1) := by decide +kernel
theorem i103_11 : dxI 103 11 = some (.getfield 32, 3) := by decide +kernel
theorem i103_14 : dxI 103 14 = some (.aload_n 0, 1) := by decide +kernel
theorem i103_15 : dxI 103 15 = some (.getfield 28, 3) := by decide +kernel
theorem i103_18 : dxI 103 18 = some (.invokevirtual 159, 3) := by decide +kernel
theorem i103_21 : dxI 103 21 = some (.aload_n 0, 1) := by decide +kernel
theorem i103_22 : dxI 103 22 = some (.getfield 32, 3) := by decide +kernel
theorem i103_25 : dxI 103 25 = some (.iload_n 1, 1) := by decide +kernel
theorem i103_26 : dxI 103 26 = some (.invokevirtual 266, 3) := by decide +kernel
theorem i103_29 : dxI 103 29 = some (.aload_n 0, 1) := by decide +kernel
theorem i103_30 : dxI 103 30 = some (.getfield 32, 3) := by decide +kernel
theorem i103_33 : dxI 103 33 = some (.iload_n 2, 1) := by decide +kernel
theorem i103_34 : dxI 103 34 = some (.invokevirtual 266, 3) := by decide +kernel
theorem i103_37 : dxI 103 37 = some (.aload_n 0, 1) := by decide +kernel
theorem i103_38 : dxI 103 38 = some (.getfield 32, 3) := by decide +kernel
theorem i103_41 : dxI 103 41 = some (.iconst 0, 1) := by decide +kernel
theorem i103_42 : dxI 103 42 = some (.iload_n 3, 1) := by decide +kernel
theorem i103_43 : dxI 103 43 = some (.invokevirtual 269, 3) := by decide +kernel
theorem i103_46 : dxI 103 46 = some (.ireturn, 1) := by decide +kernel
theorem i104_0 : dxI 104 0 = some (.aload_n 0, 1) := by decide +kernel
theorem i104_1 : dxI 104 1 = some (.getfield 32, 3) := by decide +kernel
theorem i104_4 : dxI 104 4 = some (.aload_n 0, 1) := by decide +kernel
theorem i104_5 : dxI 104 5 = some (.getfield 28, 3) := by decide +kernel
theorem i104_8 : dxI 104 8 = some (.invokevirtual 159, 3) := by decide +kernel
theorem i104_11 : dxI 104 11 = some (.aload_n 0, 1) := by decide +kernel
theorem i104_12 : dxI 104 12 = some (.getfield 32, 3) := by decide +kernel
theorem i104_15 : dxI 104 15 = some (.iload_n 1, 1) := by decide +kernel
theorem i104_16 : dxI 104 16 = some (.invokevirtual 272, 3) := by decide +kernel
theorem i104_19 : dxI 104 19 = some (.aload_n 0, 1) := by decide +kernel
theorem i104_20 : dxI 104 20 = some (.getfield 32, 3) := by decide +kernel
theorem i104_23 : dxI 104 23 = some (.iconst 1, 1) := by decide +kernel
theorem i104_24 : dxI 104 24 = some (.iload_n 2, 1) := by decide +kernel
theorem i104_25 : dxI 104 25 = some (.invokevirtual 269, 3) := by decide +kernel
theorem i104_28 : dxI 104 28 = some (.ireturn, 1) := by decide +kernel
theorem i105_0 : dxI 105 0 = some (.aload_n 0, 1) := by decide +kernel
theorem i105_1 : dxI 105 1 = some (.getfield 32, 3) := by decide +kernel
theorem i105_4 : dxI 105 4 = some (.aload_n 0, 1) := by decide +kernel
theorem i105_5 : dxI 105 5 = some (.getfield 28, 3) := by decide +kernel
theorem i105_8 : dxI 105 8 = some (.invokevirtual 159, 3) := by decide +kernel
theorem i105_11 : dxI 105 11 = some (.iload_n 1, 1) := by decide +kernel
theorem i105_12 : dxI 105 12 = some (.invokestatic 193, 3) := by decide +kernel
theorem i105_15 : dxI 105 15 = some (.istore 4, 2) := by decide +kernel
theorem i105_17 : dxI 105 17 = some (.iconst 0, 1) := by decide +kernel
theorem i105_18 : dxI 105 18 = some (.istore 5, 2) := by decide +kernel
theorem i105_20 : dxI 105 20 = some (.iconst 0, 1) := by decide +kernel
theorem i105_21 : dxI 105 21 = some (.istore 6, 2) := by decide +kernel
theorem i105_23 : dxI 105 23 = some (.iload 6, 2) := by decide +kernel
theorem i105_25 : dxI 105 25 = some (.iload_n 1, 1) := by decide +kernel
theorem i105_26 : dxI 105 26 = some (.if_icmp .ge 66, 3) := by decide +kernel
theorem i105_29 : dxI 105 29 = some (.iload 4, 2) := by decide +kernel
theorem i105_31 : dxI 105 31 = some (.bipush 10, 2) := by decide +kernel
theorem i105_33 : dxI 105 33 = some (.if_icmp .lt 59, 3) := by decide +kernel
theorem i105_36 : dxI 105 36 = some (.iload 4, 2) := by decide +kernel
theorem i105_38 : dxI 105 38 = some (.bipush 10, 2) := by decide +kernel
theorem i105_40 : dxI 105 40 = some (.idiv, 1) := by decide +kernel
theorem i105_41 : dxI 105 41 = some (.istore 4, 2) := by decide +kernel
theorem i105_43 : dxI 105 43 = some (.iload_n 2, 1) := by decide +kernel
theorem i105_44 : dxI 105 44 = some (.iload 4, 2) := by decide +kernel
theorem i105_46 : dxI 105 46 = some (.idiv, 1) := by decide +kernel
theorem i105_47 : dxI 105 47 = some (.bipush 10, 2) := by decide +kernel
theorem i105_49 : dxI 105 49 = some (.irem, 1) := by decide +kernel
theorem i105_50 : dxI 105 50 = some (.istore 7, 2) := by decide +kernel
theorem i105_52 : dxI 105 52 = some (.iload 7, 2) := by decide +kernel
theorem i105_54 : dxI 105 54 = some (.iload 5, 2) := by decide +kernel
theorem i105_56 : dxI 105 56 = some (.if_icmp .lt 15, 3) := by decide +kernel
theorem i105_59 : dxI 105 59 = some (.aload_n 0, 1) := by decide +kernel
theorem i105_60 : dxI 105 60 = some (.getfield 32, 3) := by decide +kernel
theorem i105_63 : dxI 105 63 = some (.iload 7, 2) := by decide +kernel
theorem i105_65 : dxI 105 65 = some (.invokevirtual 137, 3) := by decide +kernel
theorem i105_68 : dxI 105 68 = some (.ifCond .ne 5, 3) := by decide +kernel
theorem i105_71 : dxI 105 71 = some (.iconst 0, 1) := by decide +kernel
theorem i105_72 : dxI 105 72 = some (.ireturn, 1) := by decide +kernel
theorem i105_73 : dxI 105 73 = some (.aload_n 0, 1) := by decide +kernel
theorem i105_74 : dxI 105 74 = some (.getfield 32, 3) := by decide +kernel
theorem i105_77 : dxI 105 77 = some (.iload 7, 2) := by decide +kernel
theorem i105_79 : dxI 105 79 = some (.invokevirtual 140, 3) := by decide +kernel
theorem i105_82 : dxI 105 82 = some (.iload 7, 2) := by decide +kernel
theorem i105_84 : dxI 105 84 = some (.istore 5, 2) := by decide +kernel
theorem i105_86 : dxI 105 86 = some (.iinc 6 1, 3) := by decide +kernel
theorem i105_89 : dxI 105 89 = some (.goto (-66), 3) := by decide +kernel
theorem i105_92 : dxI 105 92 = some (.aload_n 0, 1) := by decide +kernel
theorem i105_93 : dxI 105 93 = some (.getfield 32, 3) := by decide +kernel
theorem i105_96 : dxI 105 96 = some (.iload_n 3, 1) := by decide +kernel
theorem i105_97 : dxI 105 97 = some (.invokevirtual 169, 3) := by decide +kernel
theorem i105_100 : dxI 105 100 = some (.iconst 1, 1) := by decide +kernel
theorem i105_101 : dxI 105 101 = some (.if_icmp .ne 7, 3) := by decide +kernel
theorem i105_104 : dxI 105 104 = some (.iconst 1, 1) := by decide +kernel
theorem i105_105 : dxI 105 105 = some (.goto 4, 3) := by decide +kernel
theorem i105_108 : dxI 105 108 = some (.iconst 0, 1) := by decide +kernel
theorem i105_109 : dxI 105 109 = some (.ireturn, 1) := by decide +kernel
theorem i106_0 : dxI 106 0 = some (.aload_n 0, 1) := by decide +kernel
theorem i106_1 : dxI 106 1 = some (.getfield 32, 3) := by decide +kernel
theorem i106_4 : dxI 106 4 = some (.aload_n 0, 1) := by decide +kernel
theorem i106_5 : dxI 106 5 = some (.getfield 28, 3) := by decide +kernel
theorem i106_8 : dxI 106 8 = some (.invokevirtual 159, 3) := by decide +kernel
theorem i106_11 : dxI 106 11 = some (.bipush (-9), 2) := by decide +kernel
theorem i106_13 : dxI 106 13 = some (.istore_n 3, 1) := by decide +kernel
theorem i106_14 : dxI 106 14 = some (.iconst 0, 1) := by decide +kernel
theorem i106_15 : dxI 106 15 = some (.istore 4, 2) := by decide +kernel
theorem i106_17 : dxI 106 17 = some (.iload 4, 2) := by decide +kernel
theorem i106_19 : dxI 106 19 = some (.iload_n 2, 1) := by decide +kernel
theorem i106_20 : dxI 106 20 = some (.if_icmp .ge 40, 3) := by decide +kernel
theorem i106_23 : dxI 106 23 = some (.aload_n 0, 1) := by decide +kernel
theorem i106_24 : dxI 106 24 = some (.getfield 32, 3) := by decide +kernel
theorem i106_27 : dxI 106 27 = some (.iload_n 1, 1) := by decide +kernel
theorem i106_28 : dxI 106 28 = some (.iload 4, 2) := by decide +kernel
theorem i106_30 : dxI 106 30 = some (.ishr, 1) := by decide +kernel
theorem i106_31 : dxI 106 31 = some (.iconst 1, 1) := by decide +kernel
theorem i106_32 : dxI 106 32 = some (.iand, 1) := by decide +kernel
theorem i106_33 : dxI 106 33 = some (.iconst 1, 1) := by decide +kernel
theorem i106_34 : dxI 106 34 = some (.if_icmp .ne 7, 3) := by decide +kernel
theorem i106_37 : dxI 106 37 = some (.iconst 1, 1) := by decide +kernel
theorem i106_38 : dxI 106 38 = some (.goto 4, 3) := by decide +kernel
theorem i106_41 : dxI 106 41 = some (.iconst 0, 1) := by decide +kernel
theorem i106_42 : dxI 106 42 = some (.invokevirtual 148, 3) := by decide +kernel
theorem i106_45 : dxI 106 45 = some (.aload_n 0, 1) := by decide +kernel
theorem i106_46 : dxI 106 46 = some (.getfield 32, 3) := by decide +kernel
theorem i106_49 : dxI 106 49 = some (.iconst 0, 1) := by decide +kernel
theorem i106_50 : dxI 106 50 = some (.invokevirtual 126, 3) := by decide +kernel
theorem i106_53 : dxI 106 53 = some (.istore_n 3, 1) := by decide +kernel
theorem i106_54 : dxI 106 54 = some (.iinc 4 1, 3) := by decide +kernel
theorem i106_57 : dxI 106 57 = some (.goto (-40), 3) := by decide +kernel
theorem i106_60 : dxI 106 60 = some (.iload_n 3, 1) := by decide +kernel
theorem i106_61 : dxI 106 61 = some (.iconst 1, 1) := by decide +kernel
theorem i106_62 : dxI 106 62 = some (.if_icmp .ne 7, 3) := by decide +kernel
theorem i106_65 : dxI 106 65 = some (.iconst 1, 1) := by decide +kernel
theorem i106_66 : dxI 106 66 = some (.goto 4, 3) := by decide +kernel
theorem i106_69 : dxI 106 69 = some (.iconst 0, 1) := by decide +kernel
theorem i106_70 : dxI 106 70 = some (.ireturn, 1) := by decide +kernel
theorem i107_0 : dxI 107 0 = some (.iconst 0, 1) := by decide +kernel
theorem i107_1 : dxI 107 1 = some (.istore_n 1, 1) := by decide +kernel
theorem i107_2 : dxI 107 2 = some (.iload_n 1, 1) := by decide +kernel
theorem i107_3 : dxI 107 3 = some (.bipush 8, 2) := by decide +kernel
theorem i107_5 : dxI 107 5 = some (.if_icmp .ge 35, 3) := by decide +kernel
theorem i107_8 : dxI 107 8 = some (.aload_n 0, 1) := by decide +kernel
theorem i107_9 : dxI 107 9 = some (.getfield 58, 3) := by decide +kernel
theorem i107_12 : dxI 107 12 = some (.aload_n 0, 1) := by decide +kernel
theorem i107_13 : dxI 107 13 = some (.getfield 32, 3) := by decide +kernel
theorem i107_16 : dxI 107 16 = some (.iload_n 1, 1) := by decide +kernel
theorem i107_17 : dxI 107 17 = some (.invokevirtual 275, 3) := by decide +kernel
theorem i107_20 : dxI 107 20 = some (.ifCond .ne 5, 3) := by decide +kernel
theorem i107_23 : dxI 107 23 = some (.iconst 0, 1) := by decide +kernel
theorem i107_24 : dxI 107 24 = some (.ireturn, 1) := by decide +kernel
theorem i107_25 : dxI 107 25 = some (.aload_n 0, 1) := by decide +kernel
theorem i107_26 : dxI 107 26 = some (.getfield 32, 3) := by decide +kernel
theorem i107_29 : dxI 107 29 = some (.iconst 0, 1) := by decide +kernel
theorem i107_30 : dxI 107 30 = some (.invokevirtual 126, 3) := by decide +kernel
theorem i107_33 : dxI 107 33 = some (.pop, 1) := by decide +kernel
theorem i107_34 : dxI 107 34 = some (.iinc 1 1, 3) := by decide +kernel
theorem i107_37 : dxI 107 37 = some (.goto (-35), 3) := by decide +kernel
theorem i107_40 : dxI 107 40 = some (.iconst 1, 1) := by decide +kernel
theorem i107_41 : dxI 107 41 = some (.ireturn, 1) := by decide +kernel
theorem i108_0 : dxI 108 0 = some (.iload_n 1, 1) := by decide +kernel
theorem i108_1 : dxI 108 1 = some (.ifCond .ne 10, 3) := by decide +kernel
theorem i108_4 : dxI 108 4 = some (.aload_n 0, 1) := by decide +kernel
theorem i108_5 : dxI 108 5 = some (.getfield 65, 3) := by decide +kernel
theorem i108_8 : dxI 108 8 = some (.goto 7, 3) := by decide +kernel
theorem i108_11 : dxI 108 11 = some (.aload_n 0, 1) := by decide +kernel
theorem i108_12 : dxI 108 12 = some (.getfield 69, 3) := by decide +kernel
theorem i108_15 : dxI 108 15 = some (.astore_n 2, 1) := by decide +kernel
theorem i108_16 : dxI 108 16 = some (.aload_n 2, 1) := by decide +kernel
theorem i108_17 : dxI 108 17 = some (.aload_n 0, 1) := by decide +kernel
theorem i108_18 : dxI 108 18 = some (.getfield 28, 3) := by decide +kernel
theorem i108_21 : dxI 108 21 = some (.iload_n 1, 1) := by decide +kernel
theorem i108_22 : dxI 108 22 = some (.invokevirtual 279, 3) := by decide +kernel
theorem i108_25 : dxI 108 25 = some (.aload_n 2, 1) := by decide +kernel
theorem i108_26 : dxI 108 26 = some (.areturn, 1) := by decide +kernel
theorem i109_0 : dxI 109 0 = some (.iload_n 1, 1) := by decide +kernel
theorem i109_1 : dxI 109 1 = some (.iload_n 3, 1) := by decide +kernel
theorem i109_2 : dxI 109 2 = some (.imul, 1) := by decide +kernel
theorem i109_3 : dxI 109 3 = some (.iload_n 2, 1) := by decide +kernel
theorem i109_4 : dxI 109 4 = some (.iadd, 1) := by decide +kernel
theorem i109_5 : dxI 109 5 = some (.istore 4, 2) := by decide +kernel
theorem i109_7 : dxI 109 7 = some (.iload 4, 2) := by decide +kernel
theorem i109_9 : dxI 109 9 = some (.ifCond .lt 21, 3) := by decide +kernel
theorem i109_12 : dxI 109 12 = some (.iload 4, 2) := by decide +kernel
theorem i109_14 : dxI 109 14 = some (.sipush 176, 3) := by decide +kernel
theorem i109_17 : dxI 109 17 = some (.if_icmp .ge 13, 3) := by decide +kernel
theorem i109_20 : dxI 109 20 = some (.aload_n 0, 1) := by decide +kernel
theorem i109_21 : dxI 109 21 = some (.getfield 72, 3) := by decide +kernel
theorem i109_24 : dxI 109 24 = some (.iload 4, 2) := by decide +kernel
theorem i109_26 : dxI 109 26 = some (.iaload, 1) := by decide +kernel
theorem i109_27 : dxI 109 27 = some (.goto 4, 3) := by decide +kernel
theorem i109_30 : dxI 109 30 = some (.iconst (-1), 1) := by decide +kernel
theorem i109_31 : dxI 109 31 = some (.ireturn, 1) := by decide +kernel
theorem i110_0 : dxI 110 0 = some (.aload_n 0, 1) := by decide +kernel
theorem i110_1 : dxI 110 1 = some (.iload_n 1, 1) := by decide +kernel
theorem i110_2 : dxI 110 2 = some (.iload_n 2, 1) := by decide +kernel
theorem i110_3 : dxI 110 3 = some (.iload 4, 2) := by decide +kernel
theorem i110_5 : dxI 110 5 = some (.invokevirtual 283, 3) := by decide +kernel
theorem i110_8 : dxI 110 8 = some (.istore 5, 2) := by decide +kernel
theorem i110_10 : dxI 110 10 = some (.iload 5, 2) := by decide +kernel
theorem i110_12 : dxI 110 12 = some (.iconst (-1), 1) := by decide +kernel
theorem i110_13 : dxI 110 13 = some (.if_icmp .ne 5, 3) := by decide +kernel
theorem i110_16 : dxI 110 16 = some (.iconst 0, 1) := by decide +kernel
theorem i110_17 : dxI 110 17 = some (.ireturn, 1) := by decide +kernel
theorem i110_18 : dxI 110 18 = some (.iconst 0, 1) := by decide +kernel
theorem i110_19 : dxI 110 19 = some (.istore 6, 2) := by decide +kernel
theorem i110_21 : dxI 110 21 = some (.iload 6, 2) := by decide +kernel
theorem i110_23 : dxI 110 23 = some (.iload_n 3, 1) := by decide +kernel
theorem i110_24 : dxI 110 24 = some (.if_icmp .ge 25, 3) := by decide +kernel
theorem i110_27 : dxI 110 27 = some (.aload_n 0, 1) := by decide +kernel
theorem i110_28 : dxI 110 28 = some (.iload 6, 2) := by decide +kernel
theorem i110_30 : dxI 110 30 = some (.iload_n 2, 1) := by decide +kernel
theorem i110_31 : dxI 110 31 = some (.iload 4, 2) := by decide +kernel
theorem i110_33 : dxI 110 33 = some (.invokevirtual 283, 3) := by decide +kernel
theorem i110_36 : dxI 110 36 = some (.iload 5, 2) := by decide +kernel
theorem i110_38 : dxI 110 38 = some (.if_icmp .le 5, 3) := by decide +kernel
theorem i110_41 : dxI 110 41 = some (.iconst 0, 1) := by decide +kernel
theorem i110_42 : dxI 110 42 = some (.ireturn, 1) := by decide +kernel
theorem i110_43 : dxI 110 43 = some (.iinc 6 1, 3) := by decide +kernel
theorem i110_46 : dxI 110 46 = some (.goto (-25), 3) := by decide +kernel
theorem i110_49 : dxI 110 49 = some (.iconst 0, 1) := by decide +kernel
theorem i110_50 : dxI 110 50 = some (.istore 6, 2) := by decide +kernel
theorem i110_52 : dxI 110 52 = some (.iload 6, 2) := by decide +kernel
theorem i110_54 : dxI 110 54 = some (.iload 4, 2) := by decide +kernel
theorem i110_56 : dxI 110 56 = some (.if_icmp .ge 35, 3) := by decide +kernel
theorem i110_59 : dxI 110 59 = some (.aload_n 0, 1) := by decide +kernel
theorem i110_60 : dxI 110 60 = some (.iload_n 1, 1) := by decide +kernel
theorem i110_61 : dxI 110 61 = some (.iload 6, 2) := by decide +kernel
theorem i110_63 : dxI 110 63 = some (.iload 4, 2) := by decide +kernel
theorem i110_65 : dxI 110 65 = some (.invokevirtual 283, 3) := by decide +kernel
theorem i110_68 : dxI 110 68 = some (.istore 7, 2) := by decide +kernel
theorem i110_70 : dxI 110 70 = some (.iload 7, 2) := by decide +kernel
theorem i110_72 : dxI 110 72 = some (.iconst (-1), 1) := by decide +kernel
theorem i110_73 : dxI 110 73 = some (.if_icmp .eq 12, 3) := by decide +kernel
theorem i110_76 : dxI 110 76 = some (.iload 7, 2) := by decide +kernel
theorem i110_78 : dxI 110 78 = some (.iload 5, 2) := by decide +kernel
theorem i110_80 : dxI 110 80 = some (.if_icmp .ge 5, 3) := by decide +kernel
theorem i110_83 : dxI 110 83 = some (.iconst 0, 1) := by decide +kernel
theorem i110_84 : dxI 110 84 = some (.ireturn, 1) := by decide +kernel
theorem i110_85 : dxI 110 85 = some (.iinc 6 1, 3) := by decide +kernel
theorem i110_88 : dxI 110 88 = some (.goto (-36), 3) := by decide +kernel
theorem i110_91 : dxI 110 91 = some (.iconst 1, 1) := by decide +kernel
theorem i110_92 : dxI 110 92 = some (.ireturn, 1) := by decide +kernel
theorem i111_0 : dxI 111 0 = some (.iload_n 0, 1) := by decide +kernel
theorem i111_1 : dxI 111 1 = some (.invokestatic 286, 3) := by decide +kernel
theorem i111_4 : dxI 111 4 = some (.iload_n 1, 1) := by decide +kernel
theorem i111_5 : dxI 111 5 = some (.invokestatic 291, 3) := by decide +kernel
theorem i111_8 : dxI 111 8 = some (.istore_n 3, 1) := by decide +kernel
theorem i111_9 : dxI 111 9 = some (.iload_n 3, 1) := by decide +kernel
theorem i111_10 : dxI 111 10 = some (.ifCond .ne 13, 3) := by decide +kernel
theorem i111_13 : dxI 111 13 = some (.iload_n 2, 1) := by decide +kernel
theorem i111_14 : dxI 111 14 = some (.ifCond .eq 7, 3) := by decide +kernel
theorem i111_17 : dxI 111 17 = some (.iload_n 0, 1) := by decide +kernel
theorem i111_18 : dxI 111 18 = some (.goto 4, 3) := by decide +kernel
theorem i111_21 : dxI 111 21 = some (.iload_n 1, 1) := by decide +kernel
theorem i111_22 : dxI 111 22 = some (.ireturn, 1) := by decide +kernel
theorem i111_23 : dxI 111 23 = some (.iload_n 2, 1) := by decide +kernel
theorem i111_24 : dxI 111 24 = some (.ifCond .eq 7, 3) := by decide +kernel
theorem i111_27 : dxI 111 27 = some (.iload_n 0, 1) := by decide +kernel
theorem i111_28 : dxI 111 28 = some (.goto 4, 3) := by decide +kernel
theorem i111_31 : dxI 111 31 = some (.iload_n 1, 1) := by decide +kernel
theorem i111_32 : dxI 111 32 = some (.iload_n 3, 1) := by decide +kernel
theorem i111_33 : dxI 111 33 = some (.idiv, 1) := by decide +kernel
theorem i111_34 : dxI 111 34 = some (.ireturn, 1) := by decide +kernel
theorem i112_0 : dxI 112 0 = some (.iload_n 0, 1) := by decide +kernel
theorem i112_1 : dxI 112 1 = some (.istore_n 2, 1) := by decide +kernel
theorem i112_2 : dxI 112 2 = some (.iload_n 1, 1) := by decide +kernel
theorem i112_3 : dxI 112 3 = some (.istore_n 3, 1) := by decide +kernel
theorem i112_4 : dxI 112 4 = some (.iconst 0, 1) := by decide +kernel
theorem i112_5 : dxI 112 5 = some (.istore 4, 2) := by decide +kernel
theorem i112_7 : dxI 112 7 = some (.iload 4, 2) := by decide +kernel
theorem i112_9 : dxI 112 9 = some (.bipush 64, 2) := by decide +kernel
theorem i112_11 : dxI 112 11 = some (.if_icmp .ge 23, 3) := by decide +kernel
theorem i112_14 : dxI 112 14 = some (.iload_n 3, 1) := by decide +kernel
theorem i112_15 : dxI 112 15 = some (.ifCond .eq 19, 3) := by decide +kernel
theorem i112_18 : dxI 112 18 = some (.iload_n 2, 1) := by decide +kernel
theorem i112_19 : dxI 112 19 = some (.iload_n 3, 1) := by decide +kernel
theorem i112_20 : dxI 112 20 = some (.irem, 1) := by decide +kernel
theorem i112_21 : dxI 112 21 = some (.istore 5, 2) := by decide +kernel
theorem i112_23 : dxI 112 23 = some (.iload_n 3, 1) := by decide +kernel
theorem i112_24 : dxI 112 24 = some (.istore_n 2, 1) := by decide +kernel
theorem i112_25 : dxI 112 25 = some (.iload 5, 2) := by decide +kernel
theorem i112_27 : dxI 112 27 = some (.istore_n 3, 1) := by decide +kernel
theorem i112_28 : dxI 112 28 = some (.iinc 4 1, 3) := by decide +kernel
theorem i112_31 : dxI 112 31 = some (.goto (-24), 3) := by decide +kernel
theorem i112_34 : dxI 112 34 = some (.iload_n 2, 1) := by decide +kernel
theorem i112_35 : dxI 112 35 = some (.ireturn, 1) := by decide +kernel
theorem i113_0 : dxI 113 0 = some (.bipush 10, 2) := by decide +kernel
theorem i113_2 : dxI 113 2 = some (.iload_n 0, 1) := by decide +kernel
theorem i113_3 : dxI 113 3 = some (.invokestatic 234, 3) := by decide +kernel
theorem i113_6 : dxI 113 6 = some (.ireturn, 1) := by decide +kernel
theorem i114_0 : dxI 114 0 = some (.iconst 1, 1) := by decide +kernel
theorem i114_1 : dxI 114 1 = some (.istore_n 2, 1) := by decide +kernel
theorem i114_2 : dxI 114 2 = some (.iconst 0, 1) := by decide +kernel
theorem i114_3 : dxI 114 3 = some (.istore_n 3, 1) := by decide +kernel
theorem i114_4 : dxI 114 4 = some (.iload_n 3, 1) := by decide +kernel
theorem i114_5 : dxI 114 5 = some (.iload_n 1, 1) := by decide +kernel
theorem i114_6 : dxI 114 6 = some (.if_icmp .ge 13, 3) := by decide +kernel
theorem i114_9 : dxI 114 9 = some (.iload_n 2, 1) := by decide +kernel
theorem i114_10 : dxI 114 10 = some (.iload_n 0, 1) := by decide +kernel
theorem i114_11 : dxI 114 11 = some (.imul, 1) := by decide +kernel
theorem i114_12 : dxI 114 12 = some (.istore_n 2, 1) := by decide +kernel
theorem i114_13 : dxI 114 13 = some (.iinc 3 1, 3) := by decide +kernel
theorem i114_16 : dxI 114 16 = some (.goto (-12), 3) := by decide +kernel
theorem i114_19 : dxI 114 19 = some (.iload_n 2, 1) := by decide +kernel
theorem i114_20 : dxI 114 20 = some (.ireturn, 1) := by decide +kernel
theorem i115_0 : dxI 115 0 = some (.iconst 1, 1) := by decide +kernel
theorem i115_1 : dxI 115 1 = some (.istore_n 1, 1) := by decide +kernel
theorem i115_2 : dxI 115 2 = some (.iconst 2, 1) := by decide +kernel
theorem i115_3 : dxI 115 3 = some (.istore_n 2, 1) := by decide +kernel
theorem i115_4 : dxI 115 4 = some (.iload_n 2, 1) := by decide +kernel
theorem i115_5 : dxI 115 5 = some (.iload_n 0, 1) := by decide +kernel
theorem i115_6 : dxI 115 6 = some (.if_icmp .gt 13, 3) := by decide +kernel
theorem i115_9 : dxI 115 9 = some (.iload_n 1, 1) := by decide +kernel
theorem i115_10 : dxI 115 10 = some (.iload_n 2, 1) := by decide +kernel
theorem i115_11 : dxI 115 11 = some (.imul, 1) := by decide +kernel
theorem i115_12 : dxI 115 12 = some (.istore_n 1, 1) := by decide +kernel
theorem i115_13 : dxI 115 13 = some (.iinc 2 1, 3) := by decide +kernel
theorem i115_16 : dxI 115 16 = some (.goto (-12), 3) := by decide +kernel
theorem i115_19 : dxI 115 19 = some (.iload_n 1, 1) := by decide +kernel
theorem i115_20 : dxI 115 20 = some (.ireturn, 1) := by decide +kernel
theorem i116_0 : dxI 116 0 = some (.aload_n 0, 1) := by decide +kernel
theorem i116_1 : dxI 116 1 = some (.invokespecial 1, 3) := by decide +kernel
theorem i116_4 : dxI 116 4 = some (.aload_n 0, 1) := by decide +kernel
theorem i116_5 : dxI 116 5 = some (.bipush 6, 2) := by decide +kernel
theorem i116_7 : dxI 116 7 = some (.newarray .int, 2) := by decide +kernel
theorem i116_9 : dxI 116 9 = some (.putfield 7, 3) := by decide +kernel
theorem i116_12 : dxI 116 12 = some (.aload_n 0, 1) := by decide +kernel
theorem i116_13 : dxI 116 13 = some (.bipush 6, 2) := by decide +kernel
theorem i116_15 : dxI 116 15 = some (.newarray .int, 2) := by decide +kernel
theorem i116_17 : dxI 116 17 = some (.putfield 13, 3) := by decide +kernel
theorem i116_20 : dxI 116 20 = some (.aload_n 0, 1) := by decide +kernel
theorem i116_21 : dxI 116 21 = some (.bipush 54, 2) := by decide +kernel
theorem i116_23 : dxI 116 23 = some (.newarray .int, 2) := by decide +kernel
theorem i116_25 : dxI 116 25 = some (.putfield 16, 3) := by decide +kernel
theorem i116_28 : dxI 116 28 = some (.aload_n 0, 1) := by decide +kernel
theorem i116_29 : dxI 116 29 = some (.bipush 27, 2) := by decide +kernel
theorem i116_31 : dxI 116 31 = some (.newarray .int, 2) := by decide +kernel
theorem i116_33 : dxI 116 33 = some (.putfield 19, 3) := by decide +kernel
theorem i116_36 : dxI 116 36 = some (.aload_n 0, 1) := by decide +kernel
theorem i116_37 : dxI 116 37 = some (.bipush 6, 2) := by decide +kernel
theorem i116_39 : dxI 116 39 = some (.newarray .int, 2) := by decide +kernel
theorem i116_41 : dxI 116 41 = some (.putfield 22, 3) := by decide +kernel
theorem i116_44 : dxI 116 44 = some (.aload_n 0, 1) := by decide +kernel
theorem i116_45 : dxI 116 45 = some (.bipush 6, 2) := by decide +kernel
theorem i116_47 : dxI 116 47 = some (.newarray .int, 2) := by decide +kernel
theorem i116_49 : dxI 116 49 = some (.putfield 25, 3) := by decide +kernel
theorem i116_52 : dxI 116 52 = some (.aload_n 0, 1) := by decide +kernel
theorem i116_53 : dxI 116 53 = some (.bipush 64, 2) := by decide +kernel
theorem i116_55 : dxI 116 55 = some (.newarray .int, 2) := by decide +kernel
theorem i116_57 : dxI 116 57 = some (.putfield 28, 3) := by decide +kernel
theorem i116_60 : dxI 116 60 = some (.aload_n 0, 1) := by decide +kernel
theorem i116_61 : dxI 116 61 = some (.sipush 378, 3) := by decide +kernel
theorem i116_64 : dxI 116 64 = some (.newarray .int, 2) := by decide +kernel
theorem i116_66 : dxI 116 66 = some (.putfield 31, 3) := by decide +kernel
theorem i116_69 : dxI 116 69 = some (.aload_n 0, 1) := by decide +kernel
theorem i116_70 : dxI 116 70 = some (.bipush 64, 2) := by decide +kernel
theorem i116_72 : dxI 116 72 = some (.newarray .int, 2) := by decide +kernel
theorem i116_74 : dxI 116 74 = some (.putfield 34, 3) := by decide +kernel
theorem i116_77 : dxI 116 77 = some (.aload_n 0, 1) := by decide +kernel
theorem i116_78 : dxI 116 78 = some (.bipush 6, 2) := by decide +kernel
theorem i116_80 : dxI 116 80 = some (.newarray .int, 2) := by decide +kernel
theorem i116_82 : dxI 116 82 = some (.putfield 37, 3) := by decide +kernel
theorem i116_85 : dxI 116 85 = some (.aload_n 0, 1) := by decide +kernel
theorem i116_86 : dxI 116 86 = some (.bipush 6, 2) := by decide +kernel
theorem i116_88 : dxI 116 88 = some (.newarray .int, 2) := by decide +kernel
theorem i116_90 : dxI 116 90 = some (.putfield 40, 3) := by decide +kernel
theorem i116_93 : dxI 116 93 = some (.aload_n 0, 1) := by decide +kernel
theorem i116_94 : dxI 116 94 = some (.bipush 6, 2) := by decide +kernel
theorem i116_96 : dxI 116 96 = some (.newarray .boolean, 2) := by decide +kernel
theorem i116_98 : dxI 116 98 = some (.putfield 43, 3) := by decide +kernel
theorem i116_101 : dxI 116 101 = some (.aload_n 0, 1) := by decide +kernel
theorem i116_102 : dxI 116 102 = some (.sipush 3721, 3) := by decide +kernel
theorem i116_105 : dxI 116 105 = some (.newarray .int, 2) := by decide +kernel
theorem i116_107 : dxI 116 107 = some (.putfield 47, 3) := by decide +kernel
theorem i116_110 : dxI 116 110 = some (.aload_n 0, 1) := by decide +kernel
theorem i116_111 : dxI 116 111 = some (.iconst 2, 1) := by decide +kernel
theorem i116_112 : dxI 116 112 = some (.newarray .boolean, 2) := by decide +kernel
theorem i116_114 : dxI 116 114 = some (.putfield 50, 3) := by decide +kernel
theorem i116_117 : dxI 116 117 = some (.aload_n 0, 1) := by decide +kernel
theorem i116_118 : dxI 116 118 = some (.bipush 54, 2) := by decide +kernel
theorem i116_120 : dxI 116 120 = some (.newarray .int, 2) := by decide +kernel
theorem i116_122 : dxI 116 122 = some (.putfield 53, 3) := by decide +kernel
theorem i116_125 : dxI 116 125 = some (.aload_n 0, 1) := by decide +kernel
theorem i116_126 : dxI 116 126 = some (.iconst 0, 1) := by decide +kernel
theorem i116_127 : dxI 116 127 = some (.putfield 56, 3) := by decide +kernel
theorem i116_130 : dxI 116 130 = some (.return_, 1) := by decide +kernel
theorem i117_0 : dxI 117 0 = some (.lload_n 0, 1) := by decide +kernel
theorem i117_1 : dxI 117 1 = some (.lload_n 2, 1) := by decide +kernel
theorem i117_2 : dxI 117 2 = some (.lcmp, 1) := by decide +kernel
theorem i117_3 : dxI 117 3 = some (.ifCond .lt 14, 3) := by decide +kernel
theorem i117_6 : dxI 117 6 = some (.lload_n 0, 1) := by decide +kernel
theorem i117_7 : dxI 117 7 = some (.lload 4, 2) := by decide +kernel
theorem i117_9 : dxI 117 9 = some (.lcmp, 1) := by decide +kernel
theorem i117_10 : dxI 117 10 = some (.ifCond .gt 7, 3) := by decide +kernel
theorem i117_13 : dxI 117 13 = some (.iconst 1, 1) := by decide +kernel
theorem i117_14 : dxI 117 14 = some (.goto 4, 3) := by decide +kernel
theorem i117_17 : dxI 117 17 = some (.iconst 0, 1) := by decide +kernel
theorem i117_18 : dxI 117 18 = some (.ireturn, 1) := by decide +kernel
theorem i118_0 : dxI 118 0 = some (.iload_n 0, 1) := by decide +kernel
theorem i118_1 : dxI 118 1 = some (.iload_n 1, 1) := by decide +kernel
theorem i118_2 : dxI 118 2 = some (.ishr, 1) := by decide +kernel
theorem i118_3 : dxI 118 3 = some (.iconst 1, 1) := by decide +kernel
theorem i118_4 : dxI 118 4 = some (.iand, 1) := by decide +kernel
theorem i118_5 : dxI 118 5 = some (.iconst 1, 1) := by decide +kernel
theorem i118_6 : dxI 118 6 = some (.if_icmp .ne 7, 3) := by decide +kernel
theorem i118_9 : dxI 118 9 = some (.iconst 1, 1) := by decide +kernel
theorem i118_10 : dxI 118 10 = some (.goto 4, 3) := by decide +kernel
theorem i118_13 : dxI 118 13 = some (.iconst 0, 1) := by decide +kernel
theorem i118_14 : dxI 118 14 = some (.ireturn, 1) := by decide +kernel
theorem i119_0 : dxI 119 0 = some (.iconst 0, 1) := by decide +kernel
theorem i119_1 : dxI 119 1 = some (.istore_n 1, 1) := by decide +kernel
theorem i119_2 : dxI 119 2 = some (.iconst 0, 1) := by decide +kernel
theorem i119_3 : dxI 119 3 = some (.istore_n 2, 1) := by decide +kernel
theorem i119_4 : dxI 119 4 = some (.iload_n 2, 1) := by decide +kernel
theorem i119_5 : dxI 119 5 = some (.bipush 8, 2) := by decide +kernel
theorem i119_7 : dxI 119 7 = some (.if_icmp .ge 17, 3) := by decide +kernel
theorem i119_10 : dxI 119 10 = some (.iload_n 1, 1) := by decide +kernel
theorem i119_11 : dxI 119 11 = some (.iload_n 0, 1) := by decide +kernel
theorem i119_12 : dxI 119 12 = some (.iload_n 2, 1) := by decide +kernel
theorem i119_13 : dxI 119 13 = some (.ishr, 1) := by decide +kernel
theorem i119_14 : dxI 119 14 = some (.iconst 1, 1) := by decide +kernel
theorem i119_15 : dxI 119 15 = some (.iand, 1) := by decide +kernel
theorem i119_16 : dxI 119 16 = some (.iadd, 1) := by decide +kernel
theorem i119_17 : dxI 119 17 = some (.istore_n 1, 1) := by decide +kernel
theorem i119_18 : dxI 119 18 = some (.iinc 2 1, 3) := by decide +kernel
theorem i119_21 : dxI 119 21 = some (.goto (-17), 3) := by decide +kernel
theorem i119_24 : dxI 119 24 = some (.iload_n 1, 1) := by decide +kernel
theorem i119_25 : dxI 119 25 = some (.ireturn, 1) := by decide +kernel
theorem i120_0 : dxI 120 0 = some (.iload_n 1, 1) := by decide +kernel
theorem i120_1 : dxI 120 1 = some (.i2l, 1) := by decide +kernel
theorem i120_2 : dxI 120 2 = some (.lconst 0, 1) := by decide +kernel
theorem i120_3 : dxI 120 3 = some (.ldc2_w 60, 3) := by decide +kernel
theorem i120_6 : dxI 120 6 = some (.invokestatic 62, 3) := by decide +kernel
theorem i120_9 : dxI 120 9 = some (.ifCond .ne 6, 3) := by decide +kernel
theorem i120_12 : dxI 120 12 = some (.bipush (-2), 2) := by decide +kernel
theorem i120_14 : dxI 120 14 = some (.ireturn, 1) := by decide +kernel
theorem i120_15 : dxI 120 15 = some (.aload_n 0, 1) := by decide +kernel
theorem i120_16 : dxI 120 16 = some (.getfield 66, 3) := by decide +kernel
theorem i120_19 : dxI 120 19 = some (.bipush 64, 2) := by decide +kernel
theorem i120_21 : dxI 120 21 = some (.if_icmp .ne 6, 3) := by decide +kernel
theorem i120_24 : dxI 120 24 = some (.bipush (-4), 2) := by decide +kernel
theorem i120_26 : dxI 120 26 = some (.ireturn, 1) := by decide +kernel
theorem i120_27 : dxI 120 27 = some (.aload_n 0, 1) := by decide +kernel
theorem i120_28 : dxI 120 28 = some (.getfield 28, 3) := by decide +kernel
theorem i120_31 : dxI 120 31 = some (.aload_n 0, 1) := by decide +kernel
theorem i120_32 : dxI 120 32 = some (.getfield 66, 3) := by decide +kernel
theorem i120_35 : dxI 120 35 = some (.iload_n 1, 1) := by decide +kernel
theorem i120_36 : dxI 120 36 = some (.iastore, 1) := by decide +kernel
theorem i120_37 : dxI 120 37 = some (.aload_n 0, 1) := by decide +kernel
theorem i120_38 : dxI 120 38 = some (.dup, 1) := by decide +kernel
theorem i120_39 : dxI 120 39 = some (.getfield 66, 3) := by decide +kernel
theorem i120_42 : dxI 120 42 = some (.iconst 1, 1) := by decide +kernel
theorem i120_43 : dxI 120 43 = some (.iadd, 1) := by decide +kernel
theorem i120_44 : dxI 120 44 = some (.putfield 66, 3) := by decide +kernel
theorem i120_47 : dxI 120 47 = some (.aload_n 0, 1) := by decide +kernel
theorem i120_48 : dxI 120 48 = some (.getfield 66, 3) := by decide +kernel
theorem i120_51 : dxI 120 51 = some (.ireturn, 1) := by decide +kernel
theorem i121_0 : dxI 121 0 = some (.aload_n 0, 1) := by decide +kernel
theorem i121_1 : dxI 121 1 = some (.getfield 66, 3) := by decide +kernel
theorem i121_4 : dxI 121 4 = some (.istore_n 1, 1) := by decide +kernel
theorem i121_5 : dxI 121 5 = some (.aload_n 0, 1) := by decide +kernel
theorem i121_6 : dxI 121 6 = some (.iconst 0, 1) := by decide +kernel
theorem i121_7 : dxI 121 7 = some (.putfield 66, 3) := by decide +kernel
theorem i121_10 : dxI 121 10 = some (.iload_n 1, 1) := by decide +kernel
theorem i121_11 : dxI 121 11 = some (.ireturn, 1) := by decide +kernel
theorem i122_0 : dxI 122 0 = some (.aload_n 0, 1) := by decide +kernel
theorem i122_1 : dxI 122 1 = some (.getfield 69, 3) := by decide +kernel
theorem i122_4 : dxI 122 4 = some (.bipush (-9), 2) := by decide +kernel
theorem i122_6 : dxI 122 6 = some (.if_icmp .ne 29, 3) := by decide +kernel
theorem i122_9 : dxI 122 9 = some (.aload_n 0, 1) := by decide +kernel
theorem i122_10 : dxI 122 10 = some (.getfield 72, 3) := by decide +kernel
theorem i122_13 : dxI 122 13 = some (.aload_n 0, 1) := by decide +kernel
theorem i122_14 : dxI 122 14 = some (.getfield 66, 3) := by decide +kernel
theorem i122_17 : dxI 122 17 = some (.if_icmp .ge 18, 3) := by decide +kernel
theorem i122_20 : dxI 122 20 = some (.aload_n 0, 1) := by decide +kernel
theorem i122_21 : dxI 122 21 = some (.getfield 28, 3) := by decide +kernel
theorem i122_24 : dxI 122 24 = some (.aload_n 0, 1) := by decide +kernel
theorem i122_25 : dxI 122 25 = some (.getfield 72, 3) := by decide +kernel
theorem i122_28 : dxI 122 28 = some (.iaload, 1) := by decide +kernel
theorem i122_29 : dxI 122 29 = some (.bipush 48, 2) := by decide +kernel
theorem i122_31 : dxI 122 31 = some (.isub, 1) := by decide +kernel
theorem i122_32 : dxI 122 32 = some (.goto 5, 3) := by decide +kernel
theorem i122_35 : dxI 122 35 = some (.bipush (-9), 2) := by decide +kernel
theorem i122_37 : dxI 122 37 = some (.istore_n 3, 1) := by decide +kernel
theorem i122_38 : dxI 122 38 = some (.iload_n 3, 1) := by decide +kernel
theorem i122_39 : dxI 122 39 = some (.i2l, 1) := by decide +kernel
theorem i122_40 : dxI 122 40 = some (.iload_n 1, 1) := by decide +kernel
theorem i122_41 : dxI 122 41 = some (.i2l, 1) := by decide +kernel
theorem i122_42 : dxI 122 42 = some (.iload_n 2, 1) := by decide +kernel
theorem i122_43 : dxI 122 43 = some (.i2l, 1) := by decide +kernel
theorem i122_44 : dxI 122 44 = some (.invokestatic 62, 3) := by decide +kernel
theorem i122_47 : dxI 122 47 = some (.ifCond .ne 29, 3) := by decide +kernel
theorem i122_50 : dxI 122 50 = some (.aload_n 0, 1) := by decide +kernel
theorem i122_51 : dxI 122 51 = some (.aload_n 0, 1) := by decide +kernel
theorem i122_52 : dxI 122 52 = some (.getfield 69, 3) := by decide +kernel
theorem i122_55 : dxI 122 55 = some (.bipush (-9), 2) := by decide +kernel
theorem i122_57 : dxI 122 57 = some (.if_icmp .ne 10, 3) := by decide +kernel
theorem i122_60 : dxI 122 60 = some (.aload_n 0, 1) := by decide +kernel
theorem i122_61 : dxI 122 61 = some (.getfield 72, 3) := by decide +kernel
theorem i122_64 : dxI 122 64 = some (.goto 7, 3) := by decide +kernel
theorem i122_67 : dxI 122 67 = some (.aload_n 0, 1) := by decide +kernel
theorem i122_68 : dxI 122 68 = some (.getfield 69, 3) := by decide +kernel
theorem i122_71 : dxI 122 71 = some (.putfield 69, 3) := by decide +kernel
theorem i122_74 : dxI 122 74 = some (.iload_n 1, 1) := by decide +kernel
theorem i122_75 : dxI 122 75 = some (.ireturn, 1) := by decide +kernel
theorem i122_76 : dxI 122 76 = some (.aload_n 0, 1) := by decide +kernel
theorem i122_77 : dxI 122 77 = some (.dup, 1) := by decide +kernel
theorem i122_78 : dxI 122 78 = some (.getfield 72, 3) := by decide +kernel
theorem i122_81 : dxI 122 81 = some (.iconst 1, 1) := by decide +kernel
theorem i122_82 : dxI 122 82 = some (.iadd, 1) := by decide +kernel
theorem i122_83 : dxI 122 83 = some (.putfield 72, 3) := by decide +kernel
theorem i122_86 : dxI 122 86 = some (.iload_n 3, 1) := by decide +kernel
theorem i122_87 : dxI 122 87 = some (.ireturn, 1) := by decide +kernel
theorem i123_0 : dxI 123 0 = some (.aload_n 0, 1) := by decide +kernel
theorem i123_1 : dxI 123 1 = some (.getfield 69, 3) := by decide +kernel
theorem i123_4 : dxI 123 4 = some (.bipush (-9), 2) := by decide +kernel
theorem i123_6 : dxI 123 6 = some (.if_icmp .ne 29, 3) := by decide +kernel
theorem i123_9 : dxI 123 9 = some (.aload_n 0, 1) := by decide +kernel
theorem i123_10 : dxI 123 10 = some (.getfield 72, 3) := by decide +kernel
theorem i123_13 : dxI 123 13 = some (.aload_n 0, 1) := by decide +kernel
theorem i123_14 : dxI 123 14 = some (.getfield 66, 3) := by decide +kernel
theorem i123_17 : dxI 123 17 = some (.if_icmp .ge 18, 3) := by decide +kernel
theorem i123_20 : dxI 123 20 = some (.aload_n 0, 1) := by decide +kernel
theorem i123_21 : dxI 123 21 = some (.getfield 28, 3) := by decide +kernel
theorem i123_24 : dxI 123 24 = some (.aload_n 0, 1) := by decide +kernel
theorem i123_25 : dxI 123 25 = some (.getfield 72, 3) := by decide +kernel
theorem i123_28 : dxI 123 28 = some (.iaload, 1) := by decide +kernel
theorem i123_29 : dxI 123 29 = some (.bipush 48, 2) := by decide +kernel
theorem i123_31 : dxI 123 31 = some (.isub, 1) := by decide +kernel
theorem i123_32 : dxI 123 32 = some (.goto 5, 3) := by decide +kernel
theorem i123_35 : dxI 123 35 = some (.bipush (-9), 2) := by decide +kernel
theorem i123_37 : dxI 123 37 = some (.istore_n 2, 1) := by decide +kernel
theorem i123_38 : dxI 123 38 = some (.iload_n 2, 1) := by decide +kernel
theorem i123_39 : dxI 123 39 = some (.i2l, 1) := by decide +kernel
theorem i123_40 : dxI 123 40 = some (.lconst 0, 1) := by decide +kernel
theorem i123_41 : dxI 123 41 = some (.ldc2_w 75, 3) := by decide +kernel
theorem i123_44 : dxI 123 44 = some (.invokestatic 62, 3) := by decide +kernel
theorem i123_47 : dxI 123 47 = some (.ifCond .eq 11, 3) := by decide +kernel
theorem i123_50 : dxI 123 50 = some (.iload_n 1, 1) := by decide +kernel
theorem i123_51 : dxI 123 51 = some (.iload_n 2, 1) := by decide +kernel
theorem i123_52 : dxI 123 52 = some (.invokestatic 77, 3) := by decide +kernel
theorem i123_55 : dxI 123 55 = some (.ifCond .ne 29, 3) := by decide +kernel
theorem i123_58 : dxI 123 58 = some (.aload_n 0, 1) := by decide +kernel
theorem i123_59 : dxI 123 59 = some (.aload_n 0, 1) := by decide +kernel
theorem i123_60 : dxI 123 60 = some (.getfield 69, 3) := by decide +kernel
theorem i123_63 : dxI 123 63 = some (.bipush (-9), 2) := by decide +kernel
theorem i123_65 : dxI 123 65 = some (.if_icmp .ne 10, 3) := by decide +kernel
theorem i123_68 : dxI 123 68 = some (.aload_n 0, 1) := by decide +kernel
theorem i123_69 : dxI 123 69 = some (.getfield 72, 3) := by decide +kernel
theorem i123_72 : dxI 123 72 = some (.goto 7, 3) := by decide +kernel
theorem i123_75 : dxI 123 75 = some (.aload_n 0, 1) := by decide +kernel
theorem i123_76 : dxI 123 76 = some (.getfield 69, 3) := by decide +kernel
theorem i123_79 : dxI 123 79 = some (.putfield 69, 3) := by decide +kernel
theorem i123_82 : dxI 123 82 = some (.iconst 0, 1) := by decide +kernel
theorem i123_83 : dxI 123 83 = some (.ireturn, 1) := by decide +kernel
theorem i123_84 : dxI 123 84 = some (.aload_n 0, 1) := by decide +kernel
theorem i123_85 : dxI 123 85 = some (.dup, 1) := by decide +kernel
theorem i123_86 : dxI 123 86 = some (.getfield 72, 3) := by decide +kernel
theorem i123_89 : dxI 123 89 = some (.iconst 1, 1) := by decide +kernel
theorem i123_90 : dxI 123 90 = some (.iadd, 1) := by decide +kernel
theorem i123_91 : dxI 123 91 = some (.putfield 72, 3) := by decide +kernel
theorem i123_94 : dxI 123 94 = some (.iload_n 2, 1) := by decide +kernel
theorem i123_95 : dxI 123 95 = some (.ireturn, 1) := by decide +kernel
theorem i124_0 : dxI 124 0 = some (.aload_n 0, 1) := by decide +kernel
theorem i124_1 : dxI 124 1 = some (.iconst 0, 1) := by decide +kernel
theorem i124_2 : dxI 124 2 = some (.putfield 72, 3) := by decide +kernel
theorem i124_5 : dxI 124 5 = some (.aload_n 0, 1) := by decide +kernel
theorem i124_6 : dxI 124 6 = some (.bipush (-9), 2) := by decide +kernel
theorem i124_8 : dxI 124 8 = some (.putfield 69, 3) := by decide +kernel
theorem i124_11 : dxI 124 11 = some (.aload_n 0, 1) := by decide +kernel
theorem i124_12 : dxI 124 12 = some (.iconst 0, 1) := by decide +kernel
theorem i124_13 : dxI 124 13 = some (.putfield 81, 3) := by decide +kernel
theorem i124_16 : dxI 124 16 = some (.aload_n 0, 1) := by decide +kernel
theorem i124_17 : dxI 124 17 = some (.iconst 0, 1) := by decide +kernel
theorem i124_18 : dxI 124 18 = some (.putfield 84, 3) := by decide +kernel
theorem i124_21 : dxI 124 21 = some (.aload_n 0, 1) := by decide +kernel
theorem i124_22 : dxI 124 22 = some (.iconst 0, 1) := by decide +kernel
theorem i124_23 : dxI 124 23 = some (.putfield 87, 3) := by decide +kernel
theorem i124_26 : dxI 124 26 = some (.iconst 0, 1) := by decide +kernel
theorem i124_27 : dxI 124 27 = some (.istore_n 1, 1) := by decide +kernel
theorem i124_28 : dxI 124 28 = some (.iload_n 1, 1) := by decide +kernel
theorem i124_29 : dxI 124 29 = some (.bipush 27, 2) := by decide +kernel
theorem i124_31 : dxI 124 31 = some (.if_icmp .ge 16, 3) := by decide +kernel
theorem i124_34 : dxI 124 34 = some (.aload_n 0, 1) := by decide +kernel
theorem i124_35 : dxI 124 35 = some (.getfield 19, 3) := by decide +kernel
theorem i124_38 : dxI 124 38 = some (.iload_n 1, 1) := by decide +kernel
theorem i124_39 : dxI 124 39 = some (.iconst 0, 1) := by decide +kernel
theorem i124_40 : dxI 124 40 = some (.iastore, 1) := by decide +kernel
theorem i124_41 : dxI 124 41 = some (.iinc 1 1, 3) := by decide +kernel
theorem i124_44 : dxI 124 44 = some (.goto (-16), 3) := by decide +kernel
theorem i124_47 : dxI 124 47 = some (.aload_n 0, 1) := by decide +kernel
theorem i124_48 : dxI 124 48 = some (.getfield 66, 3) := by decide +kernel
theorem i124_51 : dxI 124 51 = some (.ifCond .eq 14, 3) := by decide +kernel
theorem i124_54 : dxI 124 54 = some (.aload_n 0, 1) := by decide +kernel
theorem i124_55 : dxI 124 55 = some (.getfield 28, 3) := by decide +kernel
theorem i124_58 : dxI 124 58 = some (.iconst 0, 1) := by decide +kernel
theorem i124_59 : dxI 124 59 = some (.iaload, 1) := by decide +kernel
theorem i124_60 : dxI 124 60 = some (.bipush 77, 2) := by decide +kernel
theorem i124_62 : dxI 124 62 = some (.if_icmp .eq 5, 3) := by decide +kernel
theorem i124_65 : dxI 124 65 = some (.iconst 0, 1) := by decide +kernel
theorem i124_66 : dxI 124 66 = some (.ireturn, 1) := by decide +kernel
theorem i124_67 : dxI 124 67 = some (.aload_n 0, 1) := by decide +kernel
theorem i124_68 : dxI 124 68 = some (.iconst 1, 1) := by decide +kernel
theorem i124_69 : dxI 124 69 = some (.putfield 72, 3) := by decide +kernel
theorem i124_72 : dxI 124 72 = some (.aload_n 0, 1) := by decide +kernel
theorem i124_73 : dxI 124 73 = some (.getfield 69, 3) := by decide +kernel
theorem i124_76 : dxI 124 76 = some (.bipush (-9), 2) := by decide +kernel
theorem i124_78 : dxI 124 78 = some (.if_icmp .ne 142, 3) := by decide +kernel
theorem i124_81 : dxI 124 81 = some (.aload_n 0, 1) := by decide +kernel
theorem i124_82 : dxI 124 82 = some (.getfield 72, 3) := by decide +kernel
theorem i124_85 : dxI 124 85 = some (.aload_n 0, 1) := by decide +kernel
theorem i124_86 : dxI 124 86 = some (.getfield 66, 3) := by decide +kernel
theorem i124_89 : dxI 124 89 = some (.if_icmp .ge 131, 3) := by decide +kernel
theorem i124_92 : dxI 124 92 = some (.aload_n 0, 1) := by decide +kernel
theorem i124_93 : dxI 124 93 = some (.getfield 28, 3) := by decide +kernel
theorem i124_96 : dxI 124 96 = some (.aload_n 0, 1) := by decide +kernel
theorem i124_97 : dxI 124 97 = some (.getfield 72, 3) := by decide +kernel
theorem i124_100 : dxI 124 100 = some (.iaload, 1) := by decide +kernel
theorem i124_101 : dxI 124 101 = some (.bipush 71, 2) := by decide +kernel
theorem i124_103 : dxI 124 103 = some (.if_icmp .ne 66, 3) := by decide +kernel
theorem i124_106 : dxI 124 106 = some (.aload_n 0, 1) := by decide +kernel
theorem i124_107 : dxI 124 107 = some (.getfield 84, 3) := by decide +kernel
theorem i124_110 : dxI 124 110 = some (.sipush 1023, 3) := by decide +kernel
theorem i124_113 : dxI 124 113 = some (.if_icmp .eq 56, 3) := by decide +kernel
theorem i124_116 : dxI 124 116 = some (.aload_n 0, 1) := by decide +kernel
theorem i124_117 : dxI 124 117 = some (.dup, 1) := by decide +kernel
theorem i124_118 : dxI 124 118 = some (.getfield 72, 3) := by decide +kernel
theorem i124_121 : dxI 124 121 = some (.iconst 1, 1) := by decide +kernel
theorem i124_122 : dxI 124 122 = some (.iadd, 1) := by decide +kernel
theorem i124_123 : dxI 124 123 = some (.putfield 72, 3) := by decide +kernel
theorem i124_126 : dxI 124 126 = some (.aload_n 0, 1) := by decide +kernel
theorem i124_127 : dxI 124 127 = some (.sipush 1023, 3) := by decide +kernel
theorem i124_130 : dxI 124 130 = some (.aload_n 0, 1) := by decide +kernel
theorem i124_131 : dxI 124 131 = some (.getfield 84, 3) := by decide +kernel
theorem i124_134 : dxI 124 134 = some (.iconst (-1), 1) := by decide +kernel
theorem i124_135 : dxI 124 135 = some (.ixor, 1) := by decide +kernel
theorem i124_136 : dxI 124 136 = some (.iand, 1) := by decide +kernel
theorem i124_137 : dxI 124 137 = some (.invokevirtual 90, 3) := by decide +kernel
theorem i124_140 : dxI 124 140 = some (.istore_n 1, 1) := by decide +kernel
theorem i124_141 : dxI 124 141 = some (.aload_n 0, 1) := by decide +kernel
theorem i124_142 : dxI 124 142 = some (.getfield 19, 3) := by decide +kernel
theorem i124_145 : dxI 124 145 = some (.iload_n 1, 1) := by decide +kernel
theorem i124_146 : dxI 124 146 = some (.aload_n 0, 1) := by decide +kernel
theorem i124_147 : dxI 124 147 = some (.iconst 1, 1) := by decide +kernel
theorem i124_148 : dxI 124 148 = some (.bipush 9, 2) := by decide +kernel
theorem i124_150 : dxI 124 150 = some (.invokevirtual 94, 3) := by decide +kernel
theorem i124_153 : dxI 124 153 = some (.iastore, 1) := by decide +kernel
theorem i124_154 : dxI 124 154 = some (.aload_n 0, 1) := by decide +kernel
theorem i124_155 : dxI 124 155 = some (.dup, 1) := by decide +kernel
theorem i124_156 : dxI 124 156 = some (.getfield 84, 3) := by decide +kernel
theorem i124_159 : dxI 124 159 = some (.iconst 1, 1) := by decide +kernel
theorem i124_160 : dxI 124 160 = some (.iload_n 1, 1) := by decide +kernel
theorem i124_161 : dxI 124 161 = some (.ishl, 1) := by decide +kernel
theorem i124_162 : dxI 124 162 = some (.ior, 1) := by decide +kernel
theorem i124_163 : dxI 124 163 = some (.putfield 84, 3) := by decide +kernel
theorem i124_166 : dxI 124 166 = some (.goto (-94), 3) := by decide +kernel
theorem i124_169 : dxI 124 169 = some (.aload_n 0, 1) := by decide +kernel
theorem i124_170 : dxI 124 170 = some (.getfield 28, 3) := by decide +kernel
theorem i124_173 : dxI 124 173 = some (.aload_n 0, 1) := by decide +kernel
theorem i124_174 : dxI 124 174 = some (.getfield 72, 3) := by decide +kernel
theorem i124_177 : dxI 124 177 = some (.iaload, 1) := by decide +kernel
theorem i124_178 : dxI 124 178 = some (.bipush 75, 2) := by decide +kernel
theorem i124_180 : dxI 124 180 = some (.if_icmp .ne 29, 3) := by decide +kernel
theorem i124_183 : dxI 124 183 = some (.aload_n 0, 1) := by decide +kernel
theorem i124_184 : dxI 124 184 = some (.getfield 81, 3) := by decide +kernel
theorem i124_187 : dxI 124 187 = some (.bipush 6, 2) := by decide +kernel
theorem i124_189 : dxI 124 189 = some (.if_icmp .ge 20, 3) := by decide +kernel
theorem i124_192 : dxI 124 192 = some (.aload_n 0, 1) := by decide +kernel
theorem i124_193 : dxI 124 193 = some (.dup, 1) := by decide +kernel
theorem i124_194 : dxI 124 194 = some (.getfield 72, 3) := by decide +kernel
theorem i124_197 : dxI 124 197 = some (.iconst 1, 1) := by decide +kernel
theorem i124_198 : dxI 124 198 = some (.iadd, 1) := by decide +kernel
theorem i124_199 : dxI 124 199 = some (.putfield 72, 3) := by decide +kernel
theorem i124_202 : dxI 124 202 = some (.aload_n 0, 1) := by decide +kernel
theorem i124_203 : dxI 124 203 = some (.invokevirtual 98, 3) := by decide +kernel
theorem i124_206 : dxI 124 206 = some (.goto (-134), 3) := by decide +kernel
theorem i124_209 : dxI 124 209 = some (.aload_n 0, 1) := by decide +kernel
theorem i124_210 : dxI 124 210 = some (.aload_n 0, 1) := by decide +kernel
theorem i124_211 : dxI 124 211 = some (.getfield 72, 3) := by decide +kernel
theorem i124_214 : dxI 124 214 = some (.putfield 69, 3) := by decide +kernel
theorem i124_217 : dxI 124 217 = some (.goto (-145), 3) := by decide +kernel
theorem i124_220 : dxI 124 220 = some (.aload_n 0, 1) := by decide +kernel
theorem i124_221 : dxI 124 221 = some (.getfield 69, 3) := by decide +kernel
theorem i124_224 : dxI 124 224 = some (.ireturn, 1) := by decide +kernel
theorem i125_0 : dxI 125 0 = some (.aload_n 0, 1) := by decide +kernel
theorem i125_1 : dxI 125 1 = some (.getfield 19, 3) := by decide +kernel
theorem i125_4 : dxI 125 4 = some (.bipush 10, 2) := by decide +kernel
theorem i125_6 : dxI 125 6 = some (.aload_n 0, 1) := by decide +kernel
theorem i125_7 : dxI 125 7 = some (.getfield 81, 3) := by decide +kernel
theorem i125_10 : dxI 125 10 = some (.iadd, 1) := by decide +kernel
theorem i125_11 : dxI 125 11 = some (.aload_n 0, 1) := by decide +kernel
theorem i125_12 : dxI 125 12 = some (.sipush 1023, 3) := by decide +kernel
theorem i125_15 : dxI 125 15 = some (.aload_n 0, 1) := by decide +kernel
theorem i125_16 : dxI 125 16 = some (.getfield 87, 3) := by decide +kernel
theorem i125_19 : dxI 125 19 = some (.iconst (-1), 1) := by decide +kernel
theorem i125_20 : dxI 125 20 = some (.ixor, 1) := by decide +kernel
theorem i125_21 : dxI 125 21 = some (.iand, 1) := by decide +kernel
theorem i125_22 : dxI 125 22 = some (.invokevirtual 90, 3) := by decide +kernel
theorem i125_25 : dxI 125 25 = some (.iastore, 1) := by decide +kernel
theorem i125_26 : dxI 125 26 = some (.aload_n 0, 1) := by decide +kernel
theorem i125_27 : dxI 125 27 = some (.getfield 22, 3) := by decide +kernel
theorem i125_30 : dxI 125 30 = some (.aload_n 0, 1) := by decide +kernel
theorem i125_31 : dxI 125 31 = some (.getfield 81, 3) := by decide +kernel
theorem i125_34 : dxI 125 34 = some (.aload_n 0, 1) := by decide +kernel
theorem i125_35 : dxI 125 35 = some (.iconst 0, 1) := by decide +kernel
theorem i125_36 : dxI 125 36 = some (.iconst 1, 1) := by decide +kernel
theorem i125_37 : dxI 125 37 = some (.invokevirtual 94, 3) := by decide +kernel
theorem i125_40 : dxI 125 40 = some (.iastore, 1) := by decide +kernel
theorem i125_41 : dxI 125 41 = some (.aload_n 0, 1) := by decide +kernel
theorem i125_42 : dxI 125 42 = some (.getfield 19, 3) := by decide +kernel
theorem i125_45 : dxI 125 45 = some (.bipush 16, 2) := by decide +kernel
theorem i125_47 : dxI 125 47 = some (.aload_n 0, 1) := by decide +kernel
theorem i125_48 : dxI 125 48 = some (.getfield 81, 3) := by decide +kernel
theorem i125_51 : dxI 125 51 = some (.iadd, 1) := by decide +kernel
theorem i125_52 : dxI 125 52 = some (.aload_n 0, 1) := by decide +kernel
theorem i125_53 : dxI 125 53 = some (.iconst 0, 1) := by decide +kernel
theorem i125_54 : dxI 125 54 = some (.bipush 9, 2) := by decide +kernel
theorem i125_56 : dxI 125 56 = some (.invokevirtual 94, 3) := by decide +kernel
theorem i125_59 : dxI 125 59 = some (.iastore, 1) := by decide +kernel
theorem i125_60 : dxI 125 60 = some (.aload_n 0, 1) := by decide +kernel
theorem i125_61 : dxI 125 61 = some (.getfield 25, 3) := by decide +kernel
theorem i125_64 : dxI 125 64 = some (.aload_n 0, 1) := by decide +kernel
theorem i125_65 : dxI 125 65 = some (.getfield 81, 3) := by decide +kernel
theorem i125_68 : dxI 125 68 = some (.aload_n 0, 1) := by decide +kernel
theorem i125_69 : dxI 125 69 = some (.iconst 0, 1) := by decide +kernel
theorem i125_70 : dxI 125 70 = some (.iconst 3, 1) := by decide +kernel
theorem i125_71 : dxI 125 71 = some (.invokevirtual 94, 3) := by decide +kernel
theorem i125_74 : dxI 125 74 = some (.iastore, 1) := by decide +kernel
theorem i125_75 : dxI 125 75 = some (.aload_n 0, 1) := by decide +kernel
theorem i125_76 : dxI 125 76 = some (.dup, 1) := by decide +kernel
theorem i125_77 : dxI 125 77 = some (.getfield 87, 3) := by decide +kernel
theorem i125_80 : dxI 125 80 = some (.iconst 1, 1) := by decide +kernel
theorem i125_81 : dxI 125 81 = some (.aload_n 0, 1) := by decide +kernel
theorem i125_82 : dxI 125 82 = some (.getfield 19, 3) := by decide +kernel
theorem i125_85 : dxI 125 85 = some (.bipush 10, 2) := by decide +kernel
theorem i125_87 : dxI 125 87 = some (.aload_n 0, 1) := by decide +kernel
theorem i125_88 : dxI 125 88 = some (.getfield 81, 3) := by decide +kernel
theorem i125_91 : dxI 125 91 = some (.iadd, 1) := by decide +kernel
theorem i125_92 : dxI 125 92 = some (.iaload, 1) := by decide +kernel
theorem i125_93 : dxI 125 93 = some (.ishl, 1) := by decide +kernel
theorem i125_94 : dxI 125 94 = some (.ior, 1) := by decide +kernel
theorem i125_95 : dxI 125 95 = some (.putfield 87, 3) := by decide +kernel
theorem i125_98 : dxI 125 98 = some (.aload_n 0, 1) := by decide +kernel
theorem i125_99 : dxI 125 99 = some (.dup, 1) := by decide +kernel
theorem i125_100 : dxI 125 100 = some (.getfield 81, 3) := by decide +kernel
theorem i125_103 : dxI 125 103 = some (.iconst 1, 1) := by decide +kernel
theorem i125_104 : dxI 125 104 = some (.iadd, 1) := by decide +kernel
theorem i125_105 : dxI 125 105 = some (.putfield 81, 3) := by decide +kernel
theorem i125_108 : dxI 125 108 = some (.return_, 1) := by decide +kernel
theorem i126_0 : dxI 126 0 = some (.aload_n 0, 1) := by decide +kernel
theorem i126_1 : dxI 126 1 = some (.invokevirtual 101, 3) := by decide +kernel
theorem i126_4 : dxI 126 4 = some (.ireturn, 1) := by decide +kernel
theorem i127_0 : dxI 127 0 = some (.aload_n 0, 1) := by decide +kernel
theorem i127_1 : dxI 127 1 = some (.invokevirtual 101, 3) := by decide +kernel
theorem i127_4 : dxI 127 4 = some (.bipush (-9), 2) := by decide +kernel
theorem i127_6 : dxI 127 6 = some (.if_icmp .eq 6, 3) := by decide +kernel
theorem i127_9 : dxI 127 9 = some (.bipush (-3), 2) := by decide +kernel
theorem i127_11 : dxI 127 11 = some (.ireturn, 1) := by decide +kernel
theorem i127_12 : dxI 127 12 = some (.aload_n 0, 1) := by decide +kernel
theorem i127_13 : dxI 127 13 = some (.aload_n 0, 1) := by decide +kernel
theorem i127_14 : dxI 127 14 = some (.getfield 81, 3) := by decide +kernel
theorem i127_17 : dxI 127 17 = some (.putfield 56, 3) := by decide +kernel
theorem i127_20 : dxI 127 20 = some (.iconst 0, 1) := by decide +kernel
theorem i127_21 : dxI 127 21 = some (.istore_n 1, 1) := by decide +kernel
theorem i127_22 : dxI 127 22 = some (.iload_n 1, 1) := by decide +kernel
theorem i127_23 : dxI 127 23 = some (.bipush 6, 2) := by decide +kernel
theorem i127_25 : dxI 127 25 = some (.if_icmp .ge 33, 3) := by decide +kernel
theorem i127_28 : dxI 127 28 = some (.aload_n 0, 1) := by decide +kernel
theorem i127_29 : dxI 127 29 = some (.getfield 7, 3) := by decide +kernel
theorem i127_32 : dxI 127 32 = some (.iload_n 1, 1) := by decide +kernel
theorem i127_33 : dxI 127 33 = some (.aload_n 0, 1) := by decide +kernel
theorem i127_34 : dxI 127 34 = some (.getfield 22, 3) := by decide +kernel
theorem i127_37 : dxI 127 37 = some (.iload_n 1, 1) := by decide +kernel
theorem i127_38 : dxI 127 38 = some (.iaload, 1) := by decide +kernel
theorem i127_39 : dxI 127 39 = some (.iastore, 1) := by decide +kernel
theorem i127_40 : dxI 127 40 = some (.aload_n 0, 1) := by decide +kernel
theorem i127_41 : dxI 127 41 = some (.getfield 13, 3) := by decide +kernel
theorem i127_44 : dxI 127 44 = some (.iload_n 1, 1) := by decide +kernel
theorem i127_45 : dxI 127 45 = some (.aload_n 0, 1) := by decide +kernel
theorem i127_46 : dxI 127 46 = some (.getfield 25, 3) := by decide +kernel
theorem i127_49 : dxI 127 49 = some (.iload_n 1, 1) := by decide +kernel
theorem i127_50 : dxI 127 50 = some (.iaload, 1) := by decide +kernel
theorem i127_51 : dxI 127 51 = some (.iastore, 1) := by decide +kernel
theorem i127_52 : dxI 127 52 = some (.iinc 1 1, 3) := by decide +kernel
theorem i127_55 : dxI 127 55 = some (.goto (-33), 3) := by decide +kernel
theorem i127_58 : dxI 127 58 = some (.iconst 0, 1) := by decide +kernel
theorem i127_59 : dxI 127 59 = some (.istore_n 1, 1) := by decide +kernel
theorem i127_60 : dxI 127 60 = some (.iload_n 1, 1) := by decide +kernel
theorem i127_61 : dxI 127 61 = some (.bipush 27, 2) := by decide +kernel
theorem i127_63 : dxI 127 63 = some (.if_icmp .ge 21, 3) := by decide +kernel
theorem i127_66 : dxI 127 66 = some (.aload_n 0, 1) := by decide +kernel
theorem i127_67 : dxI 127 67 = some (.getfield 16, 3) := by decide +kernel
theorem i127_70 : dxI 127 70 = some (.iload_n 1, 1) := by decide +kernel
theorem i127_71 : dxI 127 71 = some (.aload_n 0, 1) := by decide +kernel
theorem i127_72 : dxI 127 72 = some (.getfield 19, 3) := by decide +kernel
theorem i127_75 : dxI 127 75 = some (.iload_n 1, 1) := by decide +kernel
theorem i127_76 : dxI 127 76 = some (.iaload, 1) := by decide +kernel
theorem i127_77 : dxI 127 77 = some (.iastore, 1) := by decide +kernel
theorem i127_78 : dxI 127 78 = some (.iinc 1 1, 3) := by decide +kernel
theorem i127_81 : dxI 127 81 = some (.goto (-21), 3) := by decide +kernel
theorem i127_84 : dxI 127 84 = some (.aload_n 0, 1) := by decide +kernel
theorem i127_85 : dxI 127 85 = some (.iconst 0, 1) := by decide +kernel
theorem i127_86 : dxI 127 86 = some (.putfield 105, 3) := by decide +kernel
theorem i127_89 : dxI 127 89 = some (.aload_n 0, 1) := by decide +kernel
theorem i127_90 : dxI 127 90 = some (.getfield 50, 3) := by decide +kernel
theorem i127_93 : dxI 127 93 = some (.iconst 0, 1) := by decide +kernel
theorem i127_94 : dxI 127 94 = some (.iconst 0, 1) := by decide +kernel
theorem i127_95 : dxI 127 95 = some (.bastore, 1) := by decide +kernel
theorem i127_96 : dxI 127 96 = some (.aload_n 0, 1) := by decide +kernel
theorem i127_97 : dxI 127 97 = some (.getfield 50, 3) := by decide +kernel
theorem i127_100 : dxI 127 100 = some (.iconst 1, 1) := by decide +kernel
theorem i127_101 : dxI 127 101 = some (.iconst 0, 1) := by decide +kernel
theorem i127_102 : dxI 127 102 = some (.bastore, 1) := by decide +kernel
theorem i127_103 : dxI 127 103 = some (.aload_n 0, 1) := by decide +kernel
theorem i127_104 : dxI 127 104 = some (.getfield 56, 3) := by decide +kernel
theorem i127_107 : dxI 127 107 = some (.ireturn, 1) := by decide +kernel
theorem i128_0 : dxI 128 0 = some (.iload_n 1, 1) := by decide +kernel
theorem i128_1 : dxI 128 1 = some (.i2l, 1) := by decide +kernel
theorem i128_2 : dxI 128 2 = some (.lconst 0, 1) := by decide +kernel
theorem i128_3 : dxI 128 3 = some (.aload_n 0, 1) := by decide +kernel
theorem i128_4 : dxI 128 4 = some (.getfield 56, 3) := by decide +kernel
theorem i128_7 : dxI 128 7 = some (.iconst 1, 1) := by decide +kernel
theorem i128_8 : dxI 128 8 = some (.isub, 1) := by decide +kernel
theorem i128_9 : dxI 128 9 = some (.i2l, 1) := by decide +kernel
theorem i128_10 : dxI 128 10 = some (.invokestatic 62, 3) := by decide +kernel
theorem i128_13 : dxI 128 13 = some (.ireturn, 1) := by decide +kernel
theorem i129_0 : dxI 129 0 = some (.iload_n 1, 1) := by decide +kernel
theorem i129_1 : dxI 129 1 = some (.i2l, 1) := by decide +kernel
theorem i129_2 : dxI 129 2 = some (.lconst 0, 1) := by decide +kernel
theorem i129_3 : dxI 129 3 = some (.ldc2_w 75, 3) := by decide +kernel
theorem i129_6 : dxI 129 6 = some (.invokestatic 62, 3) := by decide +kernel
theorem i129_9 : dxI 129 9 = some (.ifCond .eq 12, 3) := by decide +kernel
theorem i129_12 : dxI 129 12 = some (.aload_n 0, 1) := by decide +kernel
theorem i129_13 : dxI 129 13 = some (.getfield 16, 3) := by decide +kernel
theorem i129_16 : dxI 129 16 = some (.iload_n 1, 1) := by decide +kernel
theorem i129_17 : dxI 129 17 = some (.iaload, 1) := by decide +kernel
theorem i129_18 : dxI 129 18 = some (.goto 5, 3) := by decide +kernel
theorem i129_21 : dxI 129 21 = some (.bipush (-2), 2) := by decide +kernel
theorem i129_23 : dxI 129 23 = some (.ireturn, 1) := by decide +kernel
theorem i130_0 : dxI 130 0 = some (.aload_n 0, 1) := by decide +kernel
theorem i130_1 : dxI 130 1 = some (.getfield 13, 3) := by decide +kernel
theorem i130_4 : dxI 130 4 = some (.iload_n 2, 1) := by decide +kernel
theorem i130_5 : dxI 130 5 = some (.iaload, 1) := by decide +kernel
theorem i130_6 : dxI 130 6 = some (.iconst 1, 1) := by decide +kernel
theorem i130_7 : dxI 130 7 = some (.if_icmp .ne 8, 3) := by decide +kernel
theorem i130_10 : dxI 130 10 = some (.bipush 9, 2) := by decide +kernel
theorem i130_12 : dxI 130 12 = some (.goto 20, 3) := by decide +kernel
theorem i130_15 : dxI 130 15 = some (.aload_n 0, 1) := by decide +kernel
theorem i130_16 : dxI 130 16 = some (.getfield 13, 3) := by decide +kernel
theorem i130_19 : dxI 130 19 = some (.iload_n 2, 1) := by decide +kernel
theorem i130_20 : dxI 130 20 = some (.iaload, 1) := by decide +kernel
theorem i130_21 : dxI 130 21 = some (.iconst 2, 1) := by decide +kernel
theorem i130_22 : dxI 130 22 = some (.if_icmp .ne 8, 3) := by decide +kernel
theorem i130_25 : dxI 130 25 = some (.bipush 99, 2) := by decide +kernel
theorem i130_27 : dxI 130 27 = some (.goto 5, 3) := by decide +kernel
theorem i130_30 : dxI 130 30 = some (.bipush 6, 2) := by decide +kernel
theorem i130_32 : dxI 130 32 = some (.istore_n 3, 1) := by decide +kernel
theorem i130_33 : dxI 130 33 = some (.aload_n 0, 1) := by decide +kernel
theorem i130_34 : dxI 130 34 = some (.getfield 16, 3) := by decide +kernel
theorem i130_37 : dxI 130 37 = some (.bipush 27, 2) := by decide +kernel
theorem i130_39 : dxI 130 39 = some (.iload_n 1, 1) := by decide +kernel
theorem i130_40 : dxI 130 40 = some (.imul, 1) := by decide +kernel
theorem i130_41 : dxI 130 41 = some (.bipush 16, 2) := by decide +kernel
theorem i130_43 : dxI 130 43 = some (.iadd, 1) := by decide +kernel
theorem i130_44 : dxI 130 44 = some (.iload_n 2, 1) := by decide +kernel
theorem i130_45 : dxI 130 45 = some (.iadd, 1) := by decide +kernel
theorem i130_46 : dxI 130 46 = some (.iaload, 1) := by decide +kernel
theorem i130_47 : dxI 130 47 = some (.iload_n 3, 1) := by decide +kernel
theorem i130_48 : dxI 130 48 = some (.if_icmp .lt 7, 3) := by decide +kernel
theorem i130_51 : dxI 130 51 = some (.iconst 1, 1) := by decide +kernel
theorem i130_52 : dxI 130 52 = some (.goto 4, 3) := by decide +kernel
theorem i130_55 : dxI 130 55 = some (.iconst 0, 1) := by decide +kernel
theorem i130_56 : dxI 130 56 = some (.ireturn, 1) := by decide +kernel
theorem i131_0 : dxI 131 0 = some (.aload_n 0, 1) := by decide +kernel
theorem i131_1 : dxI 131 1 = some (.iload_n 1, 1) := by decide +kernel
theorem i131_2 : dxI 131 2 = some (.invokevirtual 108, 3) := by decide +kernel
theorem i131_5 : dxI 131 5 = some (.ifCond .ne 5, 3) := by decide +kernel
theorem i131_8 : dxI 131 8 = some (.iconst (-1), 1) := by decide +kernel
theorem i131_9 : dxI 131 9 = some (.ireturn, 1) := by decide +kernel
theorem i131_10 : dxI 131 10 = some (.iload_n 2, 1) := by decide +kernel
theorem i131_11 : dxI 131 11 = some (.tableswitch 82 0 4 #[33, 43, 50, 60, 67], 33) := by decide +kernel
theorem i131_44 : dxI 131 44 = some (.aload_n 0, 1) := by decide +kernel
theorem i131_45 : dxI 131 45 = some (.getfield 16, 3) := by decide +kernel
theorem i131_48 : dxI 131 48 = some (.bipush 10, 2) := by decide +kernel
theorem i131_50 : dxI 131 50 = some (.iload_n 1, 1) := by decide +kernel
theorem i131_51 : dxI 131 51 = some (.iadd, 1) := by decide +kernel
theorem i131_52 : dxI 131 52 = some (.iaload, 1) := by decide +kernel
theorem i131_53 : dxI 131 53 = some (.ireturn, 1) := by decide +kernel
theorem i131_54 : dxI 131 54 = some (.aload_n 0, 1) := by decide +kernel
theorem i131_55 : dxI 131 55 = some (.getfield 7, 3) := by decide +kernel
theorem i131_58 : dxI 131 58 = some (.iload_n 1, 1) := by decide +kernel
theorem i131_59 : dxI 131 59 = some (.iaload, 1) := by decide +kernel
theorem i131_60 : dxI 131 60 = some (.ireturn, 1) := by decide +kernel
theorem i131_61 : dxI 131 61 = some (.aload_n 0, 1) := by decide +kernel
theorem i131_62 : dxI 131 62 = some (.getfield 16, 3) := by decide +kernel
theorem i131_65 : dxI 131 65 = some (.bipush 16, 2) := by decide +kernel
theorem i131_67 : dxI 131 67 = some (.iload_n 1, 1) := by decide +kernel
theorem i131_68 : dxI 131 68 = some (.iadd, 1) := by decide +kernel
theorem i131_69 : dxI 131 69 = some (.iaload, 1) := by decide +kernel
theorem i131_70 : dxI 131 70 = some (.ireturn, 1) := by decide +kernel
theorem i131_71 : dxI 131 71 = some (.aload_n 0, 1) := by decide +kernel
theorem i131_72 : dxI 131 72 = some (.getfield 13, 3) := by decide +kernel
theorem i131_75 : dxI 131 75 = some (.iload_n 1, 1) := by decide +kernel
theorem i131_76 : dxI 131 76 = some (.iaload, 1) := by decide +kernel
theorem i131_77 : dxI 131 77 = some (.ireturn, 1) := by decide +kernel
theorem i131_78 : dxI 131 78 = some (.aload_n 0, 1) := by decide +kernel
theorem i131_79 : dxI 131 79 = some (.iconst 0, 1) := by decide +kernel
theorem i131_80 : dxI 131 80 = some (.iload_n 1, 1) := by decide +kernel
theorem i131_81 : dxI 131 81 = some (.invokevirtual 112, 3) := by decide +kernel
theorem i131_84 : dxI 131 84 = some (.ifCond .eq 7, 3) := by decide +kernel
theorem i131_87 : dxI 131 87 = some (.iconst 1, 1) := by decide +kernel
theorem i131_88 : dxI 131 88 = some (.goto 4, 3) := by decide +kernel
theorem i131_91 : dxI 131 91 = some (.iconst 0, 1) := by decide +kernel
theorem i131_92 : dxI 131 92 = some (.ireturn, 1) := by decide +kernel
theorem i131_93 : dxI 131 93 = some (.bipush (-2), 2) := by decide +kernel
theorem i131_95 : dxI 131 95 = some (.ireturn, 1) := by decide +kernel
theorem i132_0 : dxI 132 0 = some (.iconst 0, 1) := by decide +kernel
theorem i132_1 : dxI 132 1 = some (.istore_n 3, 1) := by decide +kernel
theorem i132_2 : dxI 132 2 = some (.iconst 0, 1) := by decide +kernel
theorem i132_3 : dxI 132 3 = some (.istore 4, 2) := by decide +kernel
theorem i132_5 : dxI 132 5 = some (.iload 4, 2) := by decide +kernel
theorem i132_7 : dxI 132 7 = some (.aload_n 0, 1) := by decide +kernel
theorem i132_8 : dxI 132 8 = some (.getfield 56, 3) := by decide +kernel
theorem i132_11 : dxI 132 11 = some (.if_icmp .ge 38, 3) := by decide +kernel
theorem i132_14 : dxI 132 14 = some (.iload_n 3, 1) := by decide +kernel
theorem i132_15 : dxI 132 15 = some (.ifCond .ne 22, 3) := by decide +kernel
theorem i132_18 : dxI 132 18 = some (.iload_n 2, 1) := by decide +kernel
theorem i132_19 : dxI 132 19 = some (.iload 4, 2) := by decide +kernel
theorem i132_21 : dxI 132 21 = some (.invokestatic 77, 3) := by decide +kernel
theorem i132_24 : dxI 132 24 = some (.ifCond .eq 17, 3) := by decide +kernel
theorem i132_27 : dxI 132 27 = some (.aload_n 0, 1) := by decide +kernel
theorem i132_28 : dxI 132 28 = some (.iload_n 1, 1) := by decide +kernel
theorem i132_29 : dxI 132 29 = some (.iload 4, 2) := by decide +kernel
theorem i132_31 : dxI 132 31 = some (.invokevirtual 112, 3) := by decide +kernel
theorem i132_34 : dxI 132 34 = some (.ifCond .eq 7, 3) := by decide +kernel
theorem i132_37 : dxI 132 37 = some (.iconst 1, 1) := by decide +kernel
theorem i132_38 : dxI 132 38 = some (.goto 4, 3) := by decide +kernel
theorem i132_41 : dxI 132 41 = some (.iconst 0, 1) := by decide +kernel
theorem i132_42 : dxI 132 42 = some (.istore_n 3, 1) := by decide +kernel
theorem i132_43 : dxI 132 43 = some (.iinc 4 1, 3) := by decide +kernel
theorem i132_46 : dxI 132 46 = some (.goto (-41), 3) := by decide +kernel
theorem i132_49 : dxI 132 49 = some (.iload_n 3, 1) := by decide +kernel
theorem i132_50 : dxI 132 50 = some (.ireturn, 1) := by decide +kernel
theorem i133_0 : dxI 133 0 = some (.aload_n 0, 1) := by decide +kernel
theorem i133_1 : dxI 133 1 = some (.getfield 16, 3) := by decide +kernel
theorem i133_4 : dxI 133 4 = some (.bipush 27, 2) := by decide +kernel
theorem i133_6 : dxI 133 6 = some (.iload_n 1, 1) := by decide +kernel
theorem i133_7 : dxI 133 7 = some (.imul, 1) := by decide +kernel
theorem i133_8 : dxI 133 8 = some (.bipush 22, 2) := by decide +kernel
theorem i133_10 : dxI 133 10 = some (.iadd, 1) := by decide +kernel
theorem i133_11 : dxI 133 11 = some (.iaload, 1) := by decide +kernel
theorem i133_12 : dxI 133 12 = some (.iconst 1, 1) := by decide +kernel
theorem i133_13 : dxI 133 13 = some (.if_icmp .ne 5, 3) := by decide +kernel
theorem i133_16 : dxI 133 16 = some (.iconst 3, 1) := by decide +kernel
theorem i133_17 : dxI 133 17 = some (.ireturn, 1) := by decide +kernel
theorem i133_18 : dxI 133 18 = some (.iload_n 3, 1) := by decide +kernel
theorem i133_19 : dxI 133 19 = some (.ifCond .ne 12, 3) := by decide +kernel
theorem i133_22 : dxI 133 22 = some (.aload_n 0, 1) := by decide +kernel
theorem i133_23 : dxI 133 23 = some (.iload_n 1, 1) := by decide +kernel
theorem i133_24 : dxI 133 24 = some (.iload_n 2, 1) := by decide +kernel
theorem i133_25 : dxI 133 25 = some (.invokevirtual 115, 3) := by decide +kernel
theorem i133_28 : dxI 133 28 = some (.ifCond .eq 5, 3) := by decide +kernel
theorem i133_31 : dxI 133 31 = some (.iconst 1, 1) := by decide +kernel
theorem i133_32 : dxI 133 32 = some (.ireturn, 1) := by decide +kernel
theorem i133_33 : dxI 133 33 = some (.iconst 0, 1) := by decide +kernel
theorem i133_34 : dxI 133 34 = some (.istore 4, 2) := by decide +kernel
theorem i133_36 : dxI 133 36 = some (.iconst 0, 1) := by decide +kernel
theorem i133_37 : dxI 133 37 = some (.istore 5, 2) := by decide +kernel
theorem i133_39 : dxI 133 39 = some (.iload 5, 2) := by decide +kernel
theorem i133_41 : dxI 133 41 = some (.aload_n 0, 1) := by decide +kernel
theorem i133_42 : dxI 133 42 = some (.getfield 56, 3) := by decide +kernel
theorem i133_45 : dxI 133 45 = some (.if_icmp .ge 60, 3) := by decide +kernel
theorem i133_48 : dxI 133 48 = some (.iload 4, 2) := by decide +kernel
theorem i133_50 : dxI 133 50 = some (.ifCond .ne 42, 3) := by decide +kernel
theorem i133_53 : dxI 133 53 = some (.iload_n 2, 1) := by decide +kernel
theorem i133_54 : dxI 133 54 = some (.iload 5, 2) := by decide +kernel
theorem i133_56 : dxI 133 56 = some (.invokestatic 77, 3) := by decide +kernel
theorem i133_59 : dxI 133 59 = some (.ifCond .eq 37, 3) := by decide +kernel
theorem i133_62 : dxI 133 62 = some (.aload_n 0, 1) := by decide +kernel
theorem i133_63 : dxI 133 63 = some (.getfield 13, 3) := by decide +kernel
theorem i133_66 : dxI 133 66 = some (.iload 5, 2) := by decide +kernel
theorem i133_68 : dxI 133 68 = some (.iaload, 1) := by decide +kernel
theorem i133_69 : dxI 133 69 = some (.iconst 3, 1) := by decide +kernel
theorem i133_70 : dxI 133 70 = some (.if_icmp .ne 26, 3) := by decide +kernel
theorem i133_73 : dxI 133 73 = some (.aload_n 0, 1) := by decide +kernel
theorem i133_74 : dxI 133 74 = some (.getfield 16, 3) := by decide +kernel
theorem i133_77 : dxI 133 77 = some (.bipush 27, 2) := by decide +kernel
theorem i133_79 : dxI 133 79 = some (.iload_n 1, 1) := by decide +kernel
theorem i133_80 : dxI 133 80 = some (.imul, 1) := by decide +kernel
theorem i133_81 : dxI 133 81 = some (.bipush 16, 2) := by decide +kernel
theorem i133_83 : dxI 133 83 = some (.iadd, 1) := by decide +kernel
theorem i133_84 : dxI 133 84 = some (.iload 5, 2) := by decide +kernel
theorem i133_86 : dxI 133 86 = some (.iadd, 1) := by decide +kernel
theorem i133_87 : dxI 133 87 = some (.iaload, 1) := by decide +kernel
theorem i133_88 : dxI 133 88 = some (.iconst 5, 1) := by decide +kernel
theorem i133_89 : dxI 133 89 = some (.if_icmp .ne 7, 3) := by decide +kernel
theorem i133_92 : dxI 133 92 = some (.iconst 1, 1) := by decide +kernel
theorem i133_93 : dxI 133 93 = some (.goto 4, 3) := by decide +kernel
theorem i133_96 : dxI 133 96 = some (.iconst 0, 1) := by decide +kernel
theorem i133_97 : dxI 133 97 = some (.istore 4, 2) := by decide +kernel
theorem i133_99 : dxI 133 99 = some (.iinc 5 1, 3) := by decide +kernel
theorem i133_102 : dxI 133 102 = some (.goto (-63), 3) := by decide +kernel
theorem i133_105 : dxI 133 105 = some (.iload 4, 2) := by decide +kernel
theorem i133_107 : dxI 133 107 = some (.ifCond .eq 7, 3) := by decide +kernel
theorem i133_110 : dxI 133 110 = some (.iconst 2, 1) := by decide +kernel
theorem i133_111 : dxI 133 111 = some (.goto 4, 3) := by decide +kernel
theorem i133_114 : dxI 133 114 = some (.iconst 0, 1) := by decide +kernel
theorem i133_115 : dxI 133 115 = some (.ireturn, 1) := by decide +kernel
theorem i134_0 : dxI 134 0 = some (.bipush 27, 2) := by decide +kernel
theorem i134_2 : dxI 134 2 = some (.iload_n 1, 1) := by decide +kernel
theorem i134_3 : dxI 134 3 = some (.imul, 1) := by decide +kernel
theorem i134_4 : dxI 134 4 = some (.istore_n 3, 1) := by decide +kernel
theorem i134_5 : dxI 134 5 = some (.iload_n 3, 1) := by decide +kernel
theorem i134_6 : dxI 134 6 = some (.aload_n 0, 1) := by decide +kernel
theorem i134_7 : dxI 134 7 = some (.getfield 16, 3) := by decide +kernel
theorem i134_10 : dxI 134 10 = some (.iload_n 3, 1) := by decide +kernel
theorem i134_11 : dxI 134 11 = some (.bipush 10, 2) := by decide +kernel
theorem i134_13 : dxI 134 13 = some (.iadd, 1) := by decide +kernel
theorem i134_14 : dxI 134 14 = some (.iload_n 2, 1) := by decide +kernel
theorem i134_15 : dxI 134 15 = some (.iadd, 1) := by decide +kernel
theorem i134_16 : dxI 134 16 = some (.iaload, 1) := by decide +kernel
theorem i134_17 : dxI 134 17 = some (.iadd, 1) := by decide +kernel
theorem i134_18 : dxI 134 18 = some (.istore 4, 2) := by decide +kernel
theorem i134_20 : dxI 134 20 = some (.aload_n 0, 1) := by decide +kernel
theorem i134_21 : dxI 134 21 = some (.getfield 16, 3) := by decide +kernel
theorem i134_24 : dxI 134 24 = some (.iload 4, 2) := by decide +kernel
theorem i134_26 : dxI 134 26 = some (.iaload, 1) := by decide +kernel
theorem i134_27 : dxI 134 27 = some (.ifCond .le 69, 3) := by decide +kernel
theorem i134_30 : dxI 134 30 = some (.aload_n 0, 1) := by decide +kernel
theorem i134_31 : dxI 134 31 = some (.getfield 16, 3) := by decide +kernel
theorem i134_34 : dxI 134 34 = some (.iload_n 3, 1) := by decide +kernel
theorem i134_35 : dxI 134 35 = some (.bipush 16, 2) := by decide +kernel
theorem i134_37 : dxI 134 37 = some (.iadd, 1) := by decide +kernel
theorem i134_38 : dxI 134 38 = some (.iload_n 2, 1) := by decide +kernel
theorem i134_39 : dxI 134 39 = some (.iadd, 1) := by decide +kernel
theorem i134_40 : dxI 134 40 = some (.iaload, 1) := by decide +kernel
theorem i134_41 : dxI 134 41 = some (.aload_n 0, 1) := by decide +kernel
theorem i134_42 : dxI 134 42 = some (.getfield 16, 3) := by decide +kernel
theorem i134_45 : dxI 134 45 = some (.iload 4, 2) := by decide +kernel
theorem i134_47 : dxI 134 47 = some (.iaload, 1) := by decide +kernel
theorem i134_48 : dxI 134 48 = some (.iconst 5, 1) := by decide +kernel
theorem i134_49 : dxI 134 49 = some (.if_icmp .lt 7, 3) := by decide +kernel
theorem i134_52 : dxI 134 52 = some (.iconst 2, 1) := by decide +kernel
theorem i134_53 : dxI 134 53 = some (.goto 4, 3) := by decide +kernel
theorem i134_56 : dxI 134 56 = some (.iconst 1, 1) := by decide +kernel
theorem i134_57 : dxI 134 57 = some (.iadd, 1) := by decide +kernel
theorem i134_58 : dxI 134 58 = some (.istore 5, 2) := by decide +kernel
theorem i134_60 : dxI 134 60 = some (.aload_n 0, 1) := by decide +kernel
theorem i134_61 : dxI 134 61 = some (.getfield 16, 3) := by decide +kernel
theorem i134_64 : dxI 134 64 = some (.iload_n 3, 1) := by decide +kernel
theorem i134_65 : dxI 134 65 = some (.bipush 16, 2) := by decide +kernel
theorem i134_67 : dxI 134 67 = some (.iadd, 1) := by decide +kernel
theorem i134_68 : dxI 134 68 = some (.iload_n 2, 1) := by decide +kernel
theorem i134_69 : dxI 134 69 = some (.iadd, 1) := by decide +kernel
theorem i134_70 : dxI 134 70 = some (.iload 5, 2) := by decide +kernel
theorem i134_72 : dxI 134 72 = some (.bipush 9, 2) := by decide +kernel
theorem i134_74 : dxI 134 74 = some (.if_icmp .le 8, 3) := by decide +kernel
theorem i134_77 : dxI 134 77 = some (.bipush 9, 2) := by decide +kernel
theorem i134_79 : dxI 134 79 = some (.goto 5, 3) := by decide +kernel
theorem i134_82 : dxI 134 82 = some (.iload 5, 2) := by decide +kernel
theorem i134_84 : dxI 134 84 = some (.iastore, 1) := by decide +kernel
theorem i134_85 : dxI 134 85 = some (.aload_n 0, 1) := by decide +kernel
theorem i134_86 : dxI 134 86 = some (.getfield 16, 3) := by decide +kernel
theorem i134_89 : dxI 134 89 = some (.iload 4, 2) := by decide +kernel
theorem i134_91 : dxI 134 91 = some (.dup2, 1) := by decide +kernel
theorem i134_92 : dxI 134 92 = some (.iaload, 1) := by decide +kernel
theorem i134_93 : dxI 134 93 = some (.iconst 1, 1) := by decide +kernel
theorem i134_94 : dxI 134 94 = some (.isub, 1) := by decide +kernel
theorem i134_95 : dxI 134 95 = some (.iastore, 1) := by decide +kernel
theorem i134_96 : dxI 134 96 = some (.return_, 1) := by decide +kernel
theorem i135_0 : dxI 135 0 = some (.bipush 27, 2) := by decide +kernel
theorem i135_2 : dxI 135 2 = some (.iload_n 1, 1) := by decide +kernel
theorem i135_3 : dxI 135 3 = some (.imul, 1) := by decide +kernel
theorem i135_4 : dxI 135 4 = some (.istore 4, 2) := by decide +kernel
theorem i135_6 : dxI 135 6 = some (.aload_n 0, 1) := by decide +kernel
theorem i135_7 : dxI 135 7 = some (.iload_n 1, 1) := by decide +kernel
theorem i135_8 : dxI 135 8 = some (.iload_n 2, 1) := by decide +kernel
theorem i135_9 : dxI 135 9 = some (.iload_n 3, 1) := by decide +kernel
theorem i135_10 : dxI 135 10 = some (.invokevirtual 118, 3) := by decide +kernel
theorem i135_13 : dxI 135 13 = some (.istore 5, 2) := by decide +kernel
theorem i135_15 : dxI 135 15 = some (.iconst 0, 1) := by decide +kernel
theorem i135_16 : dxI 135 16 = some (.istore 6, 2) := by decide +kernel
theorem i135_18 : dxI 135 18 = some (.iload 6, 2) := by decide +kernel
theorem i135_20 : dxI 135 20 = some (.aload_n 0, 1) := by decide +kernel
theorem i135_21 : dxI 135 21 = some (.getfield 56, 3) := by decide +kernel
theorem i135_24 : dxI 135 24 = some (.if_icmp .ge 82, 3) := by decide +kernel
theorem i135_27 : dxI 135 27 = some (.iload 5, 2) := by decide +kernel
theorem i135_29 : dxI 135 29 = some (.iconst 1, 1) := by decide +kernel
theorem i135_30 : dxI 135 30 = some (.if_icmp .ne 70, 3) := by decide +kernel
theorem i135_33 : dxI 135 33 = some (.iload_n 2, 1) := by decide +kernel
theorem i135_34 : dxI 135 34 = some (.iload 6, 2) := by decide +kernel
theorem i135_36 : dxI 135 36 = some (.invokestatic 77, 3) := by decide +kernel
theorem i135_39 : dxI 135 39 = some (.ifCond .eq 61, 3) := by decide +kernel
theorem i135_42 : dxI 135 42 = some (.aload_n 0, 1) := by decide +kernel
theorem i135_43 : dxI 135 43 = some (.iload_n 1, 1) := by decide +kernel
theorem i135_44 : dxI 135 44 = some (.iload 6, 2) := by decide +kernel
theorem i135_46 : dxI 135 46 = some (.invokevirtual 112, 3) := by decide +kernel
theorem i135_49 : dxI 135 49 = some (.ifCond .eq 51, 3) := by decide +kernel
theorem i135_52 : dxI 135 52 = some (.aload_n 0, 1) := by decide +kernel
theorem i135_53 : dxI 135 53 = some (.getfield 16, 3) := by decide +kernel
theorem i135_56 : dxI 135 56 = some (.iload 4, 2) := by decide +kernel
theorem i135_58 : dxI 135 58 = some (.bipush 23, 2) := by decide +kernel
theorem i135_60 : dxI 135 60 = some (.iadd, 1) := by decide +kernel
theorem i135_61 : dxI 135 61 = some (.aload_n 0, 1) := by decide +kernel
theorem i135_62 : dxI 135 62 = some (.getfield 7, 3) := by decide +kernel
theorem i135_65 : dxI 135 65 = some (.iload 6, 2) := by decide +kernel
theorem i135_67 : dxI 135 67 = some (.iaload, 1) := by decide +kernel
theorem i135_68 : dxI 135 68 = some (.iadd, 1) := by decide +kernel
theorem i135_69 : dxI 135 69 = some (.dup2, 1) := by decide +kernel
theorem i135_70 : dxI 135 70 = some (.iaload, 1) := by decide +kernel
theorem i135_71 : dxI 135 71 = some (.aload_n 0, 1) := by decide +kernel
theorem i135_72 : dxI 135 72 = some (.getfield 16, 3) := by decide +kernel
theorem i135_75 : dxI 135 75 = some (.iload 4, 2) := by decide +kernel
theorem i135_77 : dxI 135 77 = some (.bipush 16, 2) := by decide +kernel
theorem i135_79 : dxI 135 79 = some (.iadd, 1) := by decide +kernel
theorem i135_80 : dxI 135 80 = some (.iload 6, 2) := by decide +kernel
theorem i135_82 : dxI 135 82 = some (.iadd, 1) := by decide +kernel
theorem i135_83 : dxI 135 83 = some (.iaload, 1) := by decide +kernel
theorem i135_84 : dxI 135 84 = some (.iadd, 1) := by decide +kernel
theorem i135_85 : dxI 135 85 = some (.iastore, 1) := by decide +kernel
theorem i135_86 : dxI 135 86 = some (.aload_n 0, 1) := by decide +kernel
theorem i135_87 : dxI 135 87 = some (.getfield 16, 3) := by decide +kernel
theorem i135_90 : dxI 135 90 = some (.iload 4, 2) := by decide +kernel
theorem i135_92 : dxI 135 92 = some (.bipush 16, 2) := by decide +kernel
theorem i135_94 : dxI 135 94 = some (.iadd, 1) := by decide +kernel
theorem i135_95 : dxI 135 95 = some (.iload 6, 2) := by decide +kernel
theorem i135_97 : dxI 135 97 = some (.iadd, 1) := by decide +kernel
theorem i135_98 : dxI 135 98 = some (.iconst 0, 1) := by decide +kernel
theorem i135_99 : dxI 135 99 = some (.iastore, 1) := by decide +kernel
theorem i135_100 : dxI 135 100 = some (.iinc 6 1, 3) := by decide +kernel
theorem i135_103 : dxI 135 103 = some (.goto (-85), 3) := by decide +kernel
theorem i135_106 : dxI 135 106 = some (.iconst 0, 1) := by decide +kernel
theorem i135_107 : dxI 135 107 = some (.istore 6, 2) := by decide +kernel
theorem i135_109 : dxI 135 109 = some (.iload 6, 2) := by decide +kernel
theorem i135_111 : dxI 135 111 = some (.aload_n 0, 1) := by decide +kernel
theorem i135_112 : dxI 135 112 = some (.getfield 56, 3) := by decide +kernel
theorem i135_115 : dxI 135 115 = some (.if_icmp .ge 31, 3) := by decide +kernel
theorem i135_118 : dxI 135 118 = some (.iload 5, 2) := by decide +kernel
theorem i135_120 : dxI 135 120 = some (.iconst 3, 1) := by decide +kernel
theorem i135_121 : dxI 135 121 = some (.if_icmp .eq 19, 3) := by decide +kernel
theorem i135_124 : dxI 135 124 = some (.iload_n 2, 1) := by decide +kernel
theorem i135_125 : dxI 135 125 = some (.iload 6, 2) := by decide +kernel
theorem i135_127 : dxI 135 127 = some (.invokestatic 77, 3) := by decide +kernel
theorem i135_130 : dxI 135 130 = some (.ifCond .eq 10, 3) := by decide +kernel
theorem i135_133 : dxI 135 133 = some (.aload_n 0, 1) := by decide +kernel
theorem i135_134 : dxI 135 134 = some (.iload_n 1, 1) := by decide +kernel
theorem i135_135 : dxI 135 135 = some (.iload 6, 2) := by decide +kernel
theorem i135_137 : dxI 135 137 = some (.invokevirtual 122, 3) := by decide +kernel
theorem i135_140 : dxI 135 140 = some (.iinc 6 1, 3) := by decide +kernel
theorem i135_143 : dxI 135 143 = some (.goto (-34), 3) := by decide +kernel
theorem i135_146 : dxI 135 146 = some (.aload_n 0, 1) := by decide +kernel
theorem i135_147 : dxI 135 147 = some (.getfield 16, 3) := by decide +kernel
theorem i135_150 : dxI 135 150 = some (.iload 4, 2) := by decide +kernel
theorem i135_152 : dxI 135 152 = some (.bipush 25, 2) := by decide +kernel
theorem i135_154 : dxI 135 154 = some (.iadd, 1) := by decide +kernel
theorem i135_155 : dxI 135 155 = some (.dup2, 1) := by decide +kernel
theorem i135_156 : dxI 135 156 = some (.iaload, 1) := by decide +kernel
theorem i135_157 : dxI 135 157 = some (.iload 5, 2) := by decide +kernel
theorem i135_159 : dxI 135 159 = some (.ifCond .ne 7, 3) := by decide +kernel
theorem i135_162 : dxI 135 162 = some (.iconst 1, 1) := by decide +kernel
theorem i135_163 : dxI 135 163 = some (.goto 4, 3) := by decide +kernel
theorem i135_166 : dxI 135 166 = some (.iconst 0, 1) := by decide +kernel
theorem i135_167 : dxI 135 167 = some (.iadd, 1) := by decide +kernel
theorem i135_168 : dxI 135 168 = some (.iastore, 1) := by decide +kernel
theorem i135_169 : dxI 135 169 = some (.aload_n 0, 1) := by decide +kernel
theorem i135_170 : dxI 135 170 = some (.getfield 16, 3) := by decide +kernel
theorem i135_173 : dxI 135 173 = some (.iload 4, 2) := by decide +kernel
theorem i135_175 : dxI 135 175 = some (.bipush 26, 2) := by decide +kernel
theorem i135_177 : dxI 135 177 = some (.iadd, 1) := by decide +kernel
theorem i135_178 : dxI 135 178 = some (.dup2, 1) := by decide +kernel
theorem i135_179 : dxI 135 179 = some (.iaload, 1) := by decide +kernel
theorem i135_180 : dxI 135 180 = some (.iconst 1, 1) := by decide +kernel
theorem i135_181 : dxI 135 181 = some (.iadd, 1) := by decide +kernel
theorem i135_182 : dxI 135 182 = some (.iastore, 1) := by decide +kernel
theorem i135_183 : dxI 135 183 = some (.iload 5, 2) := by decide +kernel
theorem i135_185 : dxI 135 185 = some (.ireturn, 1) := by decide +kernel
theorem i136_0 : dxI 136 0 = some (.iconst 0, 1) := by decide +kernel
theorem i136_1 : dxI 136 1 = some (.istore_n 1, 1) := by decide +kernel
theorem i136_2 : dxI 136 2 = some (.iload_n 1, 1) := by decide +kernel
theorem i136_3 : dxI 136 3 = some (.bipush 27, 2) := by decide +kernel
theorem i136_5 : dxI 136 5 = some (.if_icmp .ge 29, 3) := by decide +kernel
theorem i136_8 : dxI 136 8 = some (.aload_n 0, 1) := by decide +kernel
theorem i136_9 : dxI 136 9 = some (.getfield 31, 3) := by decide +kernel
theorem i136_12 : dxI 136 12 = some (.bipush 27, 2) := by decide +kernel
theorem i136_14 : dxI 136 14 = some (.aload_n 0, 1) := by decide +kernel
theorem i136_15 : dxI 136 15 = some (.getfield 126, 3) := by decide +kernel
theorem i136_18 : dxI 136 18 = some (.imul, 1) := by decide +kernel
theorem i136_19 : dxI 136 19 = some (.iload_n 1, 1) := by decide +kernel
theorem i136_20 : dxI 136 20 = some (.iadd, 1) := by decide +kernel
theorem i136_21 : dxI 136 21 = some (.aload_n 0, 1) := by decide +kernel
theorem i136_22 : dxI 136 22 = some (.getfield 16, 3) := by decide +kernel
theorem i136_25 : dxI 136 25 = some (.iload_n 1, 1) := by decide +kernel
theorem i136_26 : dxI 136 26 = some (.iaload, 1) := by decide +kernel
theorem i136_27 : dxI 136 27 = some (.iastore, 1) := by decide +kernel
theorem i136_28 : dxI 136 28 = some (.iinc 1 1, 3) := by decide +kernel
theorem i136_31 : dxI 136 31 = some (.goto (-29), 3) := by decide +kernel
theorem i136_34 : dxI 136 34 = some (.aload_n 0, 1) := by decide +kernel
theorem i136_35 : dxI 136 35 = some (.aload_n 0, 1) := by decide +kernel
theorem i136_36 : dxI 136 36 = some (.getfield 126, 3) := by decide +kernel
theorem i136_39 : dxI 136 39 = some (.iconst 1, 1) := by decide +kernel
theorem i136_40 : dxI 136 40 = some (.iadd, 1) := by decide +kernel
theorem i136_41 : dxI 136 41 = some (.bipush 14, 2) := by decide +kernel
theorem i136_43 : dxI 136 43 = some (.irem, 1) := by decide +kernel
theorem i136_44 : dxI 136 44 = some (.putfield 126, 3) := by decide +kernel
theorem i136_47 : dxI 136 47 = some (.aload_n 0, 1) := by decide +kernel
theorem i136_48 : dxI 136 48 = some (.aload_n 0, 1) := by decide +kernel
theorem i136_49 : dxI 136 49 = some (.getfield 105, 3) := by decide +kernel
theorem i136_52 : dxI 136 52 = some (.bipush 14, 2) := by decide +kernel
theorem i136_54 : dxI 136 54 = some (.if_icmp .ge 12, 3) := by decide +kernel
theorem i136_57 : dxI 136 57 = some (.aload_n 0, 1) := by decide +kernel
theorem i136_58 : dxI 136 58 = some (.getfield 105, 3) := by decide +kernel
theorem i136_61 : dxI 136 61 = some (.iconst 1, 1) := by decide +kernel
theorem i136_62 : dxI 136 62 = some (.iadd, 1) := by decide +kernel
theorem i136_63 : dxI 136 63 = some (.goto 5, 3) := by decide +kernel
theorem i136_66 : dxI 136 66 = some (.bipush 14, 2) := by decide +kernel
theorem i136_68 : dxI 136 68 = some (.putfield 105, 3) := by decide +kernel
theorem i136_71 : dxI 136 71 = some (.return_, 1) := by decide +kernel
theorem i137_0 : dxI 137 0 = some (.aload_n 0, 1) := by decide +kernel
theorem i137_1 : dxI 137 1 = some (.invokevirtual 129, 3) := by decide +kernel
theorem i137_4 : dxI 137 4 = some (.aload_n 0, 1) := by decide +kernel
theorem i137_5 : dxI 137 5 = some (.iconst 0, 1) := by decide +kernel
theorem i137_6 : dxI 137 6 = some (.bipush 63, 2) := by decide +kernel
theorem i137_8 : dxI 137 8 = some (.iload_n 1, 1) := by decide +kernel
theorem i137_9 : dxI 137 9 = some (.invokevirtual 132, 3) := by decide +kernel
theorem i137_12 : dxI 137 12 = some (.ireturn, 1) := by decide +kernel
theorem i138_0 : dxI 138 0 = some (.iconst 0, 1) := by decide +kernel
theorem i138_1 : dxI 138 1 = some (.istore_n 2, 1) := by decide +kernel
theorem i138_2 : dxI 138 2 = some (.iconst 0, 1) := by decide +kernel
theorem i138_3 : dxI 138 3 = some (.istore_n 3, 1) := by decide +kernel
theorem i138_4 : dxI 138 4 = some (.iload_n 3, 1) := by decide +kernel
theorem i138_5 : dxI 138 5 = some (.aload_n 0, 1) := by decide +kernel
theorem i138_6 : dxI 138 6 = some (.getfield 56, 3) := by decide +kernel
theorem i138_9 : dxI 138 9 = some (.if_icmp .ge 32, 3) := by decide +kernel
theorem i138_12 : dxI 138 12 = some (.iload_n 2, 1) := by decide +kernel
theorem i138_13 : dxI 138 13 = some (.ifCond .ne 16, 3) := by decide +kernel
theorem i138_16 : dxI 138 16 = some (.aload_n 0, 1) := by decide +kernel
theorem i138_17 : dxI 138 17 = some (.getfield 16, 3) := by decide +kernel
theorem i138_20 : dxI 138 20 = some (.bipush 10, 2) := by decide +kernel
theorem i138_22 : dxI 138 22 = some (.iload_n 3, 1) := by decide +kernel
theorem i138_23 : dxI 138 23 = some (.iadd, 1) := by decide +kernel
theorem i138_24 : dxI 138 24 = some (.iaload, 1) := by decide +kernel
theorem i138_25 : dxI 138 25 = some (.iload_n 1, 1) := by decide +kernel
theorem i138_26 : dxI 138 26 = some (.if_icmp .ne 7, 3) := by decide +kernel
theorem i138_29 : dxI 138 29 = some (.iconst 1, 1) := by decide +kernel
theorem i138_30 : dxI 138 30 = some (.goto 4, 3) := by decide +kernel
theorem i138_33 : dxI 138 33 = some (.iconst 0, 1) := by decide +kernel
theorem i138_34 : dxI 138 34 = some (.istore_n 2, 1) := by decide +kernel
theorem i138_35 : dxI 138 35 = some (.iinc 3 1, 3) := by decide +kernel
theorem i138_38 : dxI 138 38 = some (.goto (-34), 3) := by decide +kernel
theorem i138_41 : dxI 138 41 = some (.iload_n 2, 1) := by decide +kernel
theorem i138_42 : dxI 138 42 = some (.ireturn, 1) := by decide +kernel
theorem i139_0 : dxI 139 0 = some (.aload_n 0, 1) := by decide +kernel
theorem i139_1 : dxI 139 1 = some (.iload_n 1, 1) := by decide +kernel
theorem i139_2 : dxI 139 2 = some (.invokevirtual 108, 3) := by decide +kernel
theorem i139_5 : dxI 139 5 = some (.ifCond .ne 5, 3) := by decide +kernel
theorem i139_8 : dxI 139 8 = some (.iconst (-1), 1) := by decide +kernel
theorem i139_9 : dxI 139 9 = some (.ireturn, 1) := by decide +kernel
theorem i139_10 : dxI 139 10 = some (.iload_n 2, 1) := by decide +kernel
theorem i139_11 : dxI 139 11 = some (.i2l, 1) := by decide +kernel
theorem i139_12 : dxI 139 12 = some (.lconst 0, 1) := by decide +kernel
theorem i139_13 : dxI 139 13 = some (.ldc2_w 75, 3) := by decide +kernel
theorem i139_16 : dxI 139 16 = some (.invokestatic 62, 3) := by decide +kernel
theorem i139_19 : dxI 139 19 = some (.ifCond .ne 6, 3) := by decide +kernel
theorem i139_22 : dxI 139 22 = some (.bipush (-2), 2) := by decide +kernel
theorem i139_24 : dxI 139 24 = some (.ireturn, 1) := by decide +kernel
theorem i139_25 : dxI 139 25 = some (.aload_n 0, 1) := by decide +kernel
theorem i139_26 : dxI 139 26 = some (.iload_n 2, 1) := by decide +kernel
theorem i139_27 : dxI 139 27 = some (.invokevirtual 135, 3) := by decide +kernel
theorem i139_30 : dxI 139 30 = some (.ifCond .eq 6, 3) := by decide +kernel
theorem i139_33 : dxI 139 33 = some (.bipush (-3), 2) := by decide +kernel
theorem i139_35 : dxI 139 35 = some (.ireturn, 1) := by decide +kernel
theorem i139_36 : dxI 139 36 = some (.aload_n 0, 1) := by decide +kernel
theorem i139_37 : dxI 139 37 = some (.invokevirtual 129, 3) := by decide +kernel
theorem i139_40 : dxI 139 40 = some (.aload_n 0, 1) := by decide +kernel
theorem i139_41 : dxI 139 41 = some (.getfield 16, 3) := by decide +kernel
theorem i139_44 : dxI 139 44 = some (.bipush 10, 2) := by decide +kernel
theorem i139_46 : dxI 139 46 = some (.iload_n 1, 1) := by decide +kernel
theorem i139_47 : dxI 139 47 = some (.iadd, 1) := by decide +kernel
theorem i139_48 : dxI 139 48 = some (.iaload, 1) := by decide +kernel
theorem i139_49 : dxI 139 49 = some (.istore_n 3, 1) := by decide +kernel
theorem i139_50 : dxI 139 50 = some (.aload_n 0, 1) := by decide +kernel
theorem i139_51 : dxI 139 51 = some (.getfield 16, 3) := by decide +kernel
theorem i139_54 : dxI 139 54 = some (.bipush 10, 2) := by decide +kernel
theorem i139_56 : dxI 139 56 = some (.iload_n 1, 1) := by decide +kernel
theorem i139_57 : dxI 139 57 = some (.iadd, 1) := by decide +kernel
theorem i139_58 : dxI 139 58 = some (.iload_n 2, 1) := by decide +kernel
theorem i139_59 : dxI 139 59 = some (.iastore, 1) := by decide +kernel
theorem i139_60 : dxI 139 60 = some (.iload_n 3, 1) := by decide +kernel
theorem i139_61 : dxI 139 61 = some (.ireturn, 1) := by decide +kernel
theorem i140_0 : dxI 140 0 = some (.iload_n 1, 1) := by decide +kernel
theorem i140_1 : dxI 140 1 = some (.i2l, 1) := by decide +kernel
theorem i140_2 : dxI 140 2 = some (.lconst 0, 1) := by decide +kernel
theorem i140_3 : dxI 140 3 = some (.ldc2_w 75, 3) := by decide +kernel
theorem i140_6 : dxI 140 6 = some (.invokestatic 62, 3) := by decide +kernel
theorem i140_9 : dxI 140 9 = some (.ifCond .ne 6, 3) := by decide +kernel
theorem i140_12 : dxI 140 12 = some (.bipush (-2), 2) := by decide +kernel
theorem i140_14 : dxI 140 14 = some (.ireturn, 1) := by decide +kernel
theorem i140_15 : dxI 140 15 = some (.aload_n 0, 1) := by decide +kernel
theorem i140_16 : dxI 140 16 = some (.getfield 16, 3) := by decide +kernel
theorem i140_19 : dxI 140 19 = some (.iload_n 1, 1) := by decide +kernel
theorem i140_20 : dxI 140 20 = some (.iaload, 1) := by decide +kernel
theorem i140_21 : dxI 140 21 = some (.bipush 9, 2) := by decide +kernel
theorem i140_23 : dxI 140 23 = some (.if_icmp .ne 6, 3) := by decide +kernel
theorem i140_26 : dxI 140 26 = some (.bipush (-4), 2) := by decide +kernel
theorem i140_28 : dxI 140 28 = some (.ireturn, 1) := by decide +kernel
theorem i140_29 : dxI 140 29 = some (.aload_n 0, 1) := by decide +kernel
theorem i140_30 : dxI 140 30 = some (.invokevirtual 129, 3) := by decide +kernel
theorem i140_33 : dxI 140 33 = some (.aload_n 0, 1) := by decide +kernel
theorem i140_34 : dxI 140 34 = some (.getfield 16, 3) := by decide +kernel
theorem i140_37 : dxI 140 37 = some (.iload_n 1, 1) := by decide +kernel
theorem i140_38 : dxI 140 38 = some (.dup2, 1) := by decide +kernel
theorem i140_39 : dxI 140 39 = some (.iaload, 1) := by decide +kernel
theorem i140_40 : dxI 140 40 = some (.iconst 1, 1) := by decide +kernel
theorem i140_41 : dxI 140 41 = some (.iadd, 1) := by decide +kernel
theorem i140_42 : dxI 140 42 = some (.iastore, 1) := by decide +kernel
theorem i140_43 : dxI 140 43 = some (.aload_n 0, 1) := by decide +kernel
theorem i140_44 : dxI 140 44 = some (.getfield 16, 3) := by decide +kernel
theorem i140_47 : dxI 140 47 = some (.iload_n 1, 1) := by decide +kernel
theorem i140_48 : dxI 140 48 = some (.iaload, 1) := by decide +kernel
theorem i140_49 : dxI 140 49 = some (.ireturn, 1) := by decide +kernel
theorem i141_0 : dxI 141 0 = some (.aload_n 0, 1) := by decide +kernel
theorem i141_1 : dxI 141 1 = some (.invokevirtual 129, 3) := by decide +kernel
theorem i141_4 : dxI 141 4 = some (.aload_n 0, 1) := by decide +kernel
theorem i141_5 : dxI 141 5 = some (.getfield 16, 3) := by decide +kernel
theorem i141_8 : dxI 141 8 = some (.bipush 22, 2) := by decide +kernel
theorem i141_10 : dxI 141 10 = some (.iconst 1, 1) := by decide +kernel
theorem i141_11 : dxI 141 11 = some (.aload_n 0, 1) := by decide +kernel
theorem i141_12 : dxI 141 12 = some (.getfield 16, 3) := by decide +kernel
theorem i141_15 : dxI 141 15 = some (.bipush 22, 2) := by decide +kernel
theorem i141_17 : dxI 141 17 = some (.iaload, 1) := by decide +kernel
theorem i141_18 : dxI 141 18 = some (.isub, 1) := by decide +kernel
theorem i141_19 : dxI 141 19 = some (.iastore, 1) := by decide +kernel
theorem i141_20 : dxI 141 20 = some (.aload_n 0, 1) := by decide +kernel
theorem i141_21 : dxI 141 21 = some (.getfield 16, 3) := by decide +kernel
theorem i141_24 : dxI 141 24 = some (.bipush 22, 2) := by decide +kernel
theorem i141_26 : dxI 141 26 = some (.iaload, 1) := by decide +kernel
theorem i141_27 : dxI 141 27 = some (.ireturn, 1) := by decide +kernel
theorem i142_0 : dxI 142 0 = some (.aload_n 0, 1) := by decide +kernel
theorem i142_1 : dxI 142 1 = some (.getfield 105, 3) := by decide +kernel
theorem i142_4 : dxI 142 4 = some (.ifCond .ne 6, 3) := by decide +kernel
theorem i142_7 : dxI 142 7 = some (.bipush (-3), 2) := by decide +kernel
theorem i142_9 : dxI 142 9 = some (.ireturn, 1) := by decide +kernel
theorem i142_10 : dxI 142 10 = some (.aload_n 0, 1) := by decide +kernel
theorem i142_11 : dxI 142 11 = some (.dup, 1) := by decide +kernel
theorem i142_12 : dxI 142 12 = some (.getfield 105, 3) := by decide +kernel
theorem i142_15 : dxI 142 15 = some (.iconst 1, 1) := by decide +kernel
theorem i142_16 : dxI 142 16 = some (.isub, 1) := by decide +kernel
theorem i142_17 : dxI 142 17 = some (.putfield 105, 3) := by decide +kernel
theorem i142_20 : dxI 142 20 = some (.aload_n 0, 1) := by decide +kernel
theorem i142_21 : dxI 142 21 = some (.aload_n 0, 1) := by decide +kernel
theorem i142_22 : dxI 142 22 = some (.getfield 126, 3) := by decide +kernel
theorem i142_25 : dxI 142 25 = some (.bipush 13, 2) := by decide +kernel
theorem i142_27 : dxI 142 27 = some (.iadd, 1) := by decide +kernel
theorem i142_28 : dxI 142 28 = some (.bipush 14, 2) := by decide +kernel
theorem i142_30 : dxI 142 30 = some (.irem, 1) := by decide +kernel
theorem i142_31 : dxI 142 31 = some (.putfield 126, 3) := by decide +kernel
theorem i142_34 : dxI 142 34 = some (.iconst 0, 1) := by decide +kernel
theorem i142_35 : dxI 142 35 = some (.istore_n 1, 1) := by decide +kernel
theorem i142_36 : dxI 142 36 = some (.iload_n 1, 1) := by decide +kernel
theorem i142_37 : dxI 142 37 = some (.bipush 27, 2) := by decide +kernel
theorem i142_39 : dxI 142 39 = some (.if_icmp .ge 29, 3) := by decide +kernel
theorem i142_42 : dxI 142 42 = some (.aload_n 0, 1) := by decide +kernel
theorem i142_43 : dxI 142 43 = some (.getfield 16, 3) := by decide +kernel
theorem i142_46 : dxI 142 46 = some (.iload_n 1, 1) := by decide +kernel
theorem i142_47 : dxI 142 47 = some (.aload_n 0, 1) := by decide +kernel
theorem i142_48 : dxI 142 48 = some (.getfield 31, 3) := by decide +kernel
theorem i142_51 : dxI 142 51 = some (.bipush 27, 2) := by decide +kernel
theorem i142_53 : dxI 142 53 = some (.aload_n 0, 1) := by decide +kernel
theorem i142_54 : dxI 142 54 = some (.getfield 126, 3) := by decide +kernel
theorem i142_57 : dxI 142 57 = some (.imul, 1) := by decide +kernel
theorem i142_58 : dxI 142 58 = some (.iload_n 1, 1) := by decide +kernel
theorem i142_59 : dxI 142 59 = some (.iadd, 1) := by decide +kernel
theorem i142_60 : dxI 142 60 = some (.iaload, 1) := by decide +kernel
theorem i142_61 : dxI 142 61 = some (.iastore, 1) := by decide +kernel
theorem i142_62 : dxI 142 62 = some (.iinc 1 1, 3) := by decide +kernel
theorem i142_65 : dxI 142 65 = some (.goto (-29), 3) := by decide +kernel
theorem i142_68 : dxI 142 68 = some (.aload_n 0, 1) := by decide +kernel
theorem i142_69 : dxI 142 69 = some (.getfield 105, 3) := by decide +kernel
theorem i142_72 : dxI 142 72 = some (.ireturn, 1) := by decide +kernel
theorem i143_0 : dxI 143 0 = some (.iconst 0, 1) := by decide +kernel
theorem i143_1 : dxI 143 1 = some (.istore_n 1, 1) := by decide +kernel
theorem i143_2 : dxI 143 2 = some (.iload_n 1, 1) := by decide +kernel
theorem i143_3 : dxI 143 3 = some (.bipush 27, 2) := by decide +kernel
theorem i143_5 : dxI 143 5 = some (.if_icmp .ge 24, 3) := by decide +kernel
theorem i143_8 : dxI 143 8 = some (.aload_n 0, 1) := by decide +kernel
theorem i143_9 : dxI 143 9 = some (.getfield 16, 3) := by decide +kernel
theorem i143_12 : dxI 143 12 = some (.bipush 27, 2) := by decide +kernel
theorem i143_14 : dxI 143 14 = some (.iload_n 1, 1) := by decide +kernel
theorem i143_15 : dxI 143 15 = some (.iadd, 1) := by decide +kernel
theorem i143_16 : dxI 143 16 = some (.aload_n 0, 1) := by decide +kernel
theorem i143_17 : dxI 143 17 = some (.getfield 16, 3) := by decide +kernel
theorem i143_20 : dxI 143 20 = some (.iload_n 1, 1) := by decide +kernel
theorem i143_21 : dxI 143 21 = some (.iaload, 1) := by decide +kernel
theorem i143_22 : dxI 143 22 = some (.iastore, 1) := by decide +kernel
theorem i143_23 : dxI 143 23 = some (.iinc 1 1, 3) := by decide +kernel
theorem i143_26 : dxI 143 26 = some (.goto (-24), 3) := by decide +kernel
theorem i143_29 : dxI 143 29 = some (.return_, 1) := by decide +kernel
theorem i144_0 : dxI 144 0 = some (.iload_n 1, 1) := by decide +kernel
theorem i144_1 : dxI 144 1 = some (.i2l, 1) := by decide +kernel
theorem i144_2 : dxI 144 2 = some (.lconst 1, 1) := by decide +kernel
theorem i144_3 : dxI 144 3 = some (.ldc2_w 138, 3) := by decide +kernel
theorem i144_6 : dxI 144 6 = some (.invokestatic 62, 3) := by decide +kernel
theorem i144_9 : dxI 144 9 = some (.ifCond .ne 6, 3) := by decide +kernel
theorem i144_12 : dxI 144 12 = some (.bipush (-2), 2) := by decide +kernel
theorem i144_14 : dxI 144 14 = some (.ireturn, 1) := by decide +kernel
theorem i144_15 : dxI 144 15 = some (.aload_n 0, 1) := by decide +kernel
theorem i144_16 : dxI 144 16 = some (.invokevirtual 140, 3) := by decide +kernel
theorem i144_19 : dxI 144 19 = some (.iconst 0, 1) := by decide +kernel
theorem i144_20 : dxI 144 20 = some (.istore_n 2, 1) := by decide +kernel
theorem i144_21 : dxI 144 21 = some (.iconst 0, 1) := by decide +kernel
theorem i144_22 : dxI 144 22 = some (.istore_n 3, 1) := by decide +kernel
theorem i144_23 : dxI 144 23 = some (.iload_n 3, 1) := by decide +kernel
theorem i144_24 : dxI 144 24 = some (.iload_n 1, 1) := by decide +kernel
theorem i144_25 : dxI 144 25 = some (.if_icmp .ge 23, 3) := by decide +kernel
theorem i144_28 : dxI 144 28 = some (.bipush 10, 2) := by decide +kernel
theorem i144_30 : dxI 144 30 = some (.iload_n 2, 1) := by decide +kernel
theorem i144_31 : dxI 144 31 = some (.imul, 1) := by decide +kernel
theorem i144_32 : dxI 144 32 = some (.aload_n 0, 1) := by decide +kernel
theorem i144_33 : dxI 144 33 = some (.iconst 1, 1) := by decide +kernel
theorem i144_34 : dxI 144 34 = some (.bipush 63, 2) := by decide +kernel
theorem i144_36 : dxI 144 36 = some (.iconst 0, 1) := by decide +kernel
theorem i144_37 : dxI 144 37 = some (.invokevirtual 132, 3) := by decide +kernel
theorem i144_40 : dxI 144 40 = some (.iadd, 1) := by decide +kernel
theorem i144_41 : dxI 144 41 = some (.istore_n 2, 1) := by decide +kernel
theorem i144_42 : dxI 144 42 = some (.iinc 3 1, 3) := by decide +kernel
theorem i144_45 : dxI 144 45 = some (.goto (-22), 3) := by decide +kernel
theorem i144_48 : dxI 144 48 = some (.iload_n 2, 1) := by decide +kernel
theorem i144_49 : dxI 144 49 = some (.ireturn, 1) := by decide +kernel
theorem i145_0 : dxI 145 0 = some (.iconst 0, 1) := by decide +kernel
theorem i145_1 : dxI 145 1 = some (.istore 4, 2) := by decide +kernel
theorem i145_3 : dxI 145 3 = some (.iconst 0, 1) := by decide +kernel
theorem i145_4 : dxI 145 4 = some (.istore 5, 2) := by decide +kernel
theorem i145_6 : dxI 145 6 = some (.iload 5, 2) := by decide +kernel
theorem i145_8 : dxI 145 8 = some (.iload_n 1, 1) := by decide +kernel
theorem i145_9 : dxI 145 9 = some (.if_icmp .ge 30, 3) := by decide +kernel
theorem i145_12 : dxI 145 12 = some (.iload 4, 2) := by decide +kernel
theorem i145_14 : dxI 145 14 = some (.aload_n 0, 1) := by decide +kernel
theorem i145_15 : dxI 145 15 = some (.iconst 1, 1) := by decide +kernel
theorem i145_16 : dxI 145 16 = some (.iload_n 2, 1) := by decide +kernel
theorem i145_17 : dxI 145 17 = some (.iconst 0, 1) := by decide +kernel
theorem i145_18 : dxI 145 18 = some (.invokevirtual 132, 3) := by decide +kernel
theorem i145_21 : dxI 145 21 = some (.iload_n 3, 1) := by decide +kernel
theorem i145_22 : dxI 145 22 = some (.if_icmp .ne 7, 3) := by decide +kernel
theorem i145_25 : dxI 145 25 = some (.iconst 1, 1) := by decide +kernel
theorem i145_26 : dxI 145 26 = some (.goto 4, 3) := by decide +kernel
theorem i145_29 : dxI 145 29 = some (.iconst 0, 1) := by decide +kernel
theorem i145_30 : dxI 145 30 = some (.iadd, 1) := by decide +kernel
theorem i145_31 : dxI 145 31 = some (.istore 4, 2) := by decide +kernel
theorem i145_33 : dxI 145 33 = some (.iinc 5 1, 3) := by decide +kernel
theorem i145_36 : dxI 145 36 = some (.goto (-30), 3) := by decide +kernel
theorem i145_39 : dxI 145 39 = some (.iload 4, 2) := by decide +kernel
theorem i145_41 : dxI 145 41 = some (.ireturn, 1) := by decide +kernel
theorem i146_0 : dxI 146 0 = some (.iload_n 1, 1) := by decide +kernel
theorem i146_1 : dxI 146 1 = some (.i2l, 1) := by decide +kernel
theorem i146_2 : dxI 146 2 = some (.lconst 1, 1) := by decide +kernel
theorem i146_3 : dxI 146 3 = some (.ldc2_w 138, 3) := by decide +kernel
theorem i146_6 : dxI 146 6 = some (.invokestatic 62, 3) := by decide +kernel
theorem i146_9 : dxI 146 9 = some (.ifCond .ne 6, 3) := by decide +kernel
theorem i146_12 : dxI 146 12 = some (.bipush (-2), 2) := by decide +kernel
theorem i146_14 : dxI 146 14 = some (.ireturn, 1) := by decide +kernel
theorem i146_15 : dxI 146 15 = some (.aload_n 0, 1) := by decide +kernel
theorem i146_16 : dxI 146 16 = some (.invokevirtual 140, 3) := by decide +kernel
theorem i146_19 : dxI 146 19 = some (.aload_n 0, 1) := by decide +kernel
theorem i146_20 : dxI 146 20 = some (.iload_n 1, 1) := by decide +kernel
theorem i146_21 : dxI 146 21 = some (.bipush 63, 2) := by decide +kernel
theorem i146_23 : dxI 146 23 = some (.iconst 0, 1) := by decide +kernel
theorem i146_24 : dxI 146 24 = some (.invokevirtual 143, 3) := by decide +kernel
theorem i146_27 : dxI 146 27 = some (.ireturn, 1) := by decide +kernel
theorem i147_0 : dxI 147 0 = some (.iload_n 1, 1) := by decide +kernel
theorem i147_1 : dxI 147 1 = some (.i2l, 1) := by decide +kernel
theorem i147_2 : dxI 147 2 = some (.lconst 0, 1) := by decide +kernel
theorem i147_3 : dxI 147 3 = some (.lconst 1, 1) := by decide +kernel
theorem i147_4 : dxI 147 4 = some (.invokestatic 62, 3) := by decide +kernel
theorem i147_7 : dxI 147 7 = some (.ifCond .eq 15, 3) := by decide +kernel
theorem i147_10 : dxI 147 10 = some (.iload_n 2, 1) := by decide +kernel
theorem i147_11 : dxI 147 11 = some (.i2l, 1) := by decide +kernel
theorem i147_12 : dxI 147 12 = some (.lconst 1, 1) := by decide +kernel
theorem i147_13 : dxI 147 13 = some (.ldc2_w 138, 3) := by decide +kernel
theorem i147_16 : dxI 147 16 = some (.invokestatic 62, 3) := by decide +kernel
theorem i147_19 : dxI 147 19 = some (.ifCond .ne 6, 3) := by decide +kernel
theorem i147_22 : dxI 147 22 = some (.bipush (-2), 2) := by decide +kernel
theorem i147_24 : dxI 147 24 = some (.ireturn, 1) := by decide +kernel
theorem i147_25 : dxI 147 25 = some (.aload_n 0, 1) := by decide +kernel
theorem i147_26 : dxI 147 26 = some (.invokevirtual 140, 3) := by decide +kernel
theorem i147_29 : dxI 147 29 = some (.aload_n 0, 1) := by decide +kernel
theorem i147_30 : dxI 147 30 = some (.iload_n 2, 1) := by decide +kernel
theorem i147_31 : dxI 147 31 = some (.bipush 63, 2) := by decide +kernel
theorem i147_33 : dxI 147 33 = some (.iconst 0, 1) := by decide +kernel
theorem i147_34 : dxI 147 34 = some (.invokevirtual 143, 3) := by decide +kernel
theorem i147_37 : dxI 147 37 = some (.pop, 1) := by decide +kernel
theorem i147_38 : dxI 147 38 = some (.aload_n 0, 1) := by decide +kernel
theorem i147_39 : dxI 147 39 = some (.getfield 16, 3) := by decide +kernel
theorem i147_42 : dxI 147 42 = some (.bipush 50, 2) := by decide +kernel
theorem i147_44 : dxI 147 44 = some (.iload_n 1, 1) := by decide +kernel
theorem i147_45 : dxI 147 45 = some (.iadd, 1) := by decide +kernel
theorem i147_46 : dxI 147 46 = some (.iaload, 1) := by decide +kernel
theorem i147_47 : dxI 147 47 = some (.aload_n 0, 1) := by decide +kernel
theorem i147_48 : dxI 147 48 = some (.getfield 16, 3) := by decide +kernel
theorem i147_51 : dxI 147 51 = some (.bipush 23, 2) := by decide +kernel
theorem i147_53 : dxI 147 53 = some (.iload_n 1, 1) := by decide +kernel
theorem i147_54 : dxI 147 54 = some (.iadd, 1) := by decide +kernel
theorem i147_55 : dxI 147 55 = some (.iaload, 1) := by decide +kernel
theorem i147_56 : dxI 147 56 = some (.isub, 1) := by decide +kernel
theorem i147_57 : dxI 147 57 = some (.ireturn, 1) := by decide +kernel
theorem i148_0 : dxI 148 0 = some (.iload_n 2, 1) := by decide +kernel
theorem i148_1 : dxI 148 1 = some (.iconst 1, 1) := by decide +kernel
theorem i148_2 : dxI 148 2 = some (.isub, 1) := by decide +kernel
theorem i148_3 : dxI 148 3 = some (.bipush 10, 2) := by decide +kernel
theorem i148_5 : dxI 148 5 = some (.idiv, 1) := by decide +kernel
theorem i148_6 : dxI 148 6 = some (.istore_n 3, 1) := by decide +kernel
theorem i148_7 : dxI 148 7 = some (.iload_n 2, 1) := by decide +kernel
theorem i148_8 : dxI 148 8 = some (.ifCond .eq 34, 3) := by decide +kernel
theorem i148_11 : dxI 148 11 = some (.aload_n 0, 1) := by decide +kernel
theorem i148_12 : dxI 148 12 = some (.iload_n 3, 1) := by decide +kernel
theorem i148_13 : dxI 148 13 = some (.invokevirtual 108, 3) := by decide +kernel
theorem i148_16 : dxI 148 16 = some (.ifCond .eq 30, 3) := by decide +kernel
theorem i148_19 : dxI 148 19 = some (.aload_n 0, 1) := by decide +kernel
theorem i148_20 : dxI 148 20 = some (.getfield 7, 3) := by decide +kernel
theorem i148_23 : dxI 148 23 = some (.iload_n 3, 1) := by decide +kernel
theorem i148_24 : dxI 148 24 = some (.iaload, 1) := by decide +kernel
theorem i148_25 : dxI 148 25 = some (.iload_n 1, 1) := by decide +kernel
theorem i148_26 : dxI 148 26 = some (.if_icmp .ne 20, 3) := by decide +kernel
theorem i148_29 : dxI 148 29 = some (.aload_n 0, 1) := by decide +kernel
theorem i148_30 : dxI 148 30 = some (.iload_n 2, 1) := by decide +kernel
theorem i148_31 : dxI 148 31 = some (.iconst 1, 1) := by decide +kernel
theorem i148_32 : dxI 148 32 = some (.isub, 1) := by decide +kernel
theorem i148_33 : dxI 148 33 = some (.bipush 10, 2) := by decide +kernel
theorem i148_35 : dxI 148 35 = some (.irem, 1) := by decide +kernel
theorem i148_36 : dxI 148 36 = some (.invokevirtual 135, 3) := by decide +kernel
theorem i148_39 : dxI 148 39 = some (.ifCond .ne 7, 3) := by decide +kernel
theorem i148_42 : dxI 148 42 = some (.iconst 1, 1) := by decide +kernel
theorem i148_43 : dxI 148 43 = some (.goto 4, 3) := by decide +kernel
theorem i148_46 : dxI 148 46 = some (.iconst 0, 1) := by decide +kernel
theorem i148_47 : dxI 148 47 = some (.ireturn, 1) := by decide +kernel
theorem i149_0 : dxI 149 0 = some (.iload_n 1, 1) := by decide +kernel
theorem i149_1 : dxI 149 1 = some (.ifCond .le 23, 3) := by decide +kernel
theorem i149_4 : dxI 149 4 = some (.aload_n 0, 1) := by decide +kernel
theorem i149_5 : dxI 149 5 = some (.getfield 16, 3) := by decide +kernel
theorem i149_8 : dxI 149 8 = some (.bipush 37, 2) := by decide +kernel
theorem i149_10 : dxI 149 10 = some (.iload_n 1, 1) := by decide +kernel
theorem i149_11 : dxI 149 11 = some (.iconst 1, 1) := by decide +kernel
theorem i149_12 : dxI 149 12 = some (.isub, 1) := by decide +kernel
theorem i149_13 : dxI 149 13 = some (.bipush 10, 2) := by decide +kernel
theorem i149_15 : dxI 149 15 = some (.idiv, 1) := by decide +kernel
theorem i149_16 : dxI 149 16 = some (.iadd, 1) := by decide +kernel
theorem i149_17 : dxI 149 17 = some (.iload_n 1, 1) := by decide +kernel
theorem i149_18 : dxI 149 18 = some (.iconst 1, 1) := by decide +kernel
theorem i149_19 : dxI 149 19 = some (.isub, 1) := by decide +kernel
theorem i149_20 : dxI 149 20 = some (.bipush 10, 2) := by decide +kernel
theorem i149_22 : dxI 149 22 = some (.irem, 1) := by decide +kernel
theorem i149_23 : dxI 149 23 = some (.iastore, 1) := by decide +kernel
theorem i149_24 : dxI 149 24 = some (.return_, 1) := by decide +kernel
theorem i150_0 : dxI 150 0 = some (.iload_n 1, 1) := by decide +kernel
theorem i150_1 : dxI 150 1 = some (.i2l, 1) := by decide +kernel
theorem i150_2 : dxI 150 2 = some (.lconst 0, 1) := by decide +kernel
theorem i150_3 : dxI 150 3 = some (.lconst 1, 1) := by decide +kernel
theorem i150_4 : dxI 150 4 = some (.invokestatic 62, 3) := by decide +kernel
theorem i150_7 : dxI 150 7 = some (.ifCond .eq 28, 3) := by decide +kernel
theorem i150_10 : dxI 150 10 = some (.iload_n 2, 1) := by decide +kernel
theorem i150_11 : dxI 150 11 = some (.i2l, 1) := by decide +kernel
theorem i150_12 : dxI 150 12 = some (.lconst 1, 1) := by decide +kernel
theorem i150_13 : dxI 150 13 = some (.ldc2_w 138, 3) := by decide +kernel
theorem i150_16 : dxI 150 16 = some (.invokestatic 62, 3) := by decide +kernel
theorem i150_19 : dxI 150 19 = some (.ifCond .eq 16, 3) := by decide +kernel
theorem i150_22 : dxI 150 22 = some (.iload 4, 2) := by decide +kernel
theorem i150_24 : dxI 150 24 = some (.i2l, 1) := by decide +kernel
theorem i150_25 : dxI 150 25 = some (.lconst 0, 1) := by decide +kernel
theorem i150_26 : dxI 150 26 = some (.ldc2_w 147, 3) := by decide +kernel
theorem i150_29 : dxI 150 29 = some (.invokestatic 62, 3) := by decide +kernel
theorem i150_32 : dxI 150 32 = some (.ifCond .ne 6, 3) := by decide +kernel
theorem i150_35 : dxI 150 35 = some (.bipush (-2), 2) := by decide +kernel
theorem i150_37 : dxI 150 37 = some (.ireturn, 1) := by decide +kernel
theorem i150_38 : dxI 150 38 = some (.iconst 0, 1) := by decide +kernel
theorem i150_39 : dxI 150 39 = some (.istore 5, 2) := by decide +kernel
theorem i150_41 : dxI 150 41 = some (.iconst 0, 1) := by decide +kernel
theorem i150_42 : dxI 150 42 = some (.istore 6, 2) := by decide +kernel
theorem i150_44 : dxI 150 44 = some (.iconst 0, 1) := by decide +kernel
theorem i150_45 : dxI 150 45 = some (.istore 7, 2) := by decide +kernel
theorem i150_47 : dxI 150 47 = some (.iload 7, 2) := by decide +kernel
theorem i150_49 : dxI 150 49 = some (.bipush 61, 2) := by decide +kernel
theorem i150_51 : dxI 150 51 = some (.if_icmp .ge 100, 3) := by decide +kernel
theorem i150_54 : dxI 150 54 = some (.aload_n 0, 1) := by decide +kernel
theorem i150_55 : dxI 150 55 = some (.iload_n 1, 1) := by decide +kernel
theorem i150_56 : dxI 150 56 = some (.iload 7, 2) := by decide +kernel
theorem i150_58 : dxI 150 58 = some (.invokevirtual 149, 3) := by decide +kernel
theorem i150_61 : dxI 150 61 = some (.ifCond .eq 84, 3) := by decide +kernel
theorem i150_64 : dxI 150 64 = some (.aload_n 0, 1) := by decide +kernel
theorem i150_65 : dxI 150 65 = some (.invokevirtual 140, 3) := by decide +kernel
theorem i150_68 : dxI 150 68 = some (.aload_n 0, 1) := by decide +kernel
theorem i150_69 : dxI 150 69 = some (.iload 7, 2) := by decide +kernel
theorem i150_71 : dxI 150 71 = some (.invokevirtual 152, 3) := by decide +kernel
theorem i150_74 : dxI 150 74 = some (.aload_n 0, 1) := by decide +kernel
theorem i150_75 : dxI 150 75 = some (.iload_n 2, 1) := by decide +kernel
theorem i150_76 : dxI 150 76 = some (.bipush 63, 2) := by decide +kernel
theorem i150_78 : dxI 150 78 = some (.iconst 0, 1) := by decide +kernel
theorem i150_79 : dxI 150 79 = some (.invokevirtual 143, 3) := by decide +kernel
theorem i150_82 : dxI 150 82 = some (.istore 8, 2) := by decide +kernel
theorem i150_84 : dxI 150 84 = some (.iload 7, 2) := by decide +kernel
theorem i150_86 : dxI 150 86 = some (.ifCond .eq 24, 3) := by decide +kernel
theorem i150_89 : dxI 150 89 = some (.iload_n 3, 1) := by decide +kernel
theorem i150_90 : dxI 150 90 = some (.ifCond .eq 13, 3) := by decide +kernel
theorem i150_93 : dxI 150 93 = some (.iload 8, 2) := by decide +kernel
theorem i150_95 : dxI 150 95 = some (.iload 6, 2) := by decide +kernel
theorem i150_97 : dxI 150 97 = some (.if_icmp .le 17, 3) := by decide +kernel
theorem i150_100 : dxI 150 100 = some (.goto 10, 3) := by decide +kernel
theorem i150_103 : dxI 150 103 = some (.iload 8, 2) := by decide +kernel
theorem i150_105 : dxI 150 105 = some (.iload 6, 2) := by decide +kernel
theorem i150_107 : dxI 150 107 = some (.if_icmp .ge 7, 3) := by decide +kernel
theorem i150_110 : dxI 150 110 = some (.iconst 1, 1) := by decide +kernel
theorem i150_111 : dxI 150 111 = some (.goto 4, 3) := by decide +kernel
theorem i150_114 : dxI 150 114 = some (.iconst 0, 1) := by decide +kernel
theorem i150_115 : dxI 150 115 = some (.istore 9, 2) := by decide +kernel
theorem i150_117 : dxI 150 117 = some (.iload 9, 2) := by decide +kernel
theorem i150_119 : dxI 150 119 = some (.ifCond .eq 8, 3) := by decide +kernel
theorem i150_122 : dxI 150 122 = some (.iload 7, 2) := by decide +kernel
theorem i150_124 : dxI 150 124 = some (.goto 5, 3) := by decide +kernel
theorem i150_127 : dxI 150 127 = some (.iload 5, 2) := by decide +kernel
theorem i150_129 : dxI 150 129 = some (.istore 5, 2) := by decide +kernel
theorem i150_131 : dxI 150 131 = some (.iload 9, 2) := by decide +kernel
theorem i150_133 : dxI 150 133 = some (.ifCond .eq 8, 3) := by decide +kernel
theorem i150_136 : dxI 150 136 = some (.iload 8, 2) := by decide +kernel
theorem i150_138 : dxI 150 138 = some (.goto 5, 3) := by decide +kernel
theorem i150_141 : dxI 150 141 = some (.iload 6, 2) := by decide +kernel
theorem i150_143 : dxI 150 143 = some (.istore 6, 2) := by decide +kernel
theorem i150_145 : dxI 150 145 = some (.iinc 7 1, 3) := by decide +kernel
theorem i150_148 : dxI 150 148 = some (.goto (-101), 3) := by decide +kernel
theorem i150_151 : dxI 150 151 = some (.iload 4, 2) := by decide +kernel
theorem i150_153 : dxI 150 153 = some (.iconst 2, 1) := by decide +kernel
theorem i150_154 : dxI 150 154 = some (.if_icmp .ne 8, 3) := by decide +kernel
theorem i150_157 : dxI 150 157 = some (.iload 6, 2) := by decide +kernel
theorem i150_159 : dxI 150 159 = some (.goto 35, 3) := by decide +kernel
theorem i150_162 : dxI 150 162 = some (.iload 5, 2) := by decide +kernel
theorem i150_164 : dxI 150 164 = some (.ifCond .ne 8, 3) := by decide +kernel
theorem i150_167 : dxI 150 167 = some (.bipush (-9), 2) := by decide +kernel
theorem i150_169 : dxI 150 169 = some (.goto 25, 3) := by decide +kernel
theorem i150_172 : dxI 150 172 = some (.iload 4, 2) := by decide +kernel
theorem i150_174 : dxI 150 174 = some (.ifCond .ne 13, 3) := by decide +kernel
theorem i150_177 : dxI 150 177 = some (.iload 5, 2) := by decide +kernel
theorem i150_179 : dxI 150 179 = some (.iconst 1, 1) := by decide +kernel
theorem i150_180 : dxI 150 180 = some (.isub, 1) := by decide +kernel
theorem i150_181 : dxI 150 181 = some (.bipush 10, 2) := by decide +kernel
theorem i150_183 : dxI 150 183 = some (.idiv, 1) := by decide +kernel
theorem i150_184 : dxI 150 184 = some (.goto 10, 3) := by decide +kernel
theorem i150_187 : dxI 150 187 = some (.iload 5, 2) := by decide +kernel
theorem i150_189 : dxI 150 189 = some (.iconst 1, 1) := by decide +kernel
theorem i150_190 : dxI 150 190 = some (.isub, 1) := by decide +kernel
theorem i150_191 : dxI 150 191 = some (.bipush 10, 2) := by decide +kernel
theorem i150_193 : dxI 150 193 = some (.irem, 1) := by decide +kernel
theorem i150_194 : dxI 150 194 = some (.ireturn, 1) := by decide +kernel
theorem i151_0 : dxI 151 0 = some (.aload_n 0, 1) := by decide +kernel
theorem i151_1 : dxI 151 1 = some (.invokevirtual 140, 3) := by decide +kernel
theorem i151_4 : dxI 151 4 = some (.iconst 0, 1) := by decide +kernel
theorem i151_5 : dxI 151 5 = some (.istore 4, 2) := by decide +kernel
theorem i151_7 : dxI 151 7 = some (.iload_n 2, 1) := by decide +kernel
theorem i151_8 : dxI 151 8 = some (.istore 5, 2) := by decide +kernel
theorem i151_10 : dxI 151 10 = some (.iload_n 3, 1) := by decide +kernel
theorem i151_11 : dxI 151 11 = some (.iconst 3, 1) := by decide +kernel
theorem i151_12 : dxI 151 12 = some (.if_icmp .ne 8, 3) := by decide +kernel
theorem i151_15 : dxI 151 15 = some (.bipush 100, 2) := by decide +kernel
theorem i151_17 : dxI 151 17 = some (.goto 14, 3) := by decide +kernel
theorem i151_20 : dxI 151 20 = some (.iload_n 3, 1) := by decide +kernel
theorem i151_21 : dxI 151 21 = some (.iconst 2, 1) := by decide +kernel
theorem i151_22 : dxI 151 22 = some (.if_icmp .ne 8, 3) := by decide +kernel
theorem i151_25 : dxI 151 25 = some (.bipush 10, 2) := by decide +kernel
theorem i151_27 : dxI 151 27 = some (.goto 4, 3) := by decide +kernel
theorem i151_30 : dxI 151 30 = some (.iconst 1, 1) := by decide +kernel
theorem i151_31 : dxI 151 31 = some (.istore 6, 2) := by decide +kernel
theorem i151_33 : dxI 151 33 = some (.iconst 0, 1) := by decide +kernel
theorem i151_34 : dxI 151 34 = some (.istore 7, 2) := by decide +kernel
theorem i151_36 : dxI 151 36 = some (.iload 7, 2) := by decide +kernel
theorem i151_38 : dxI 151 38 = some (.iload_n 3, 1) := by decide +kernel
theorem i151_39 : dxI 151 39 = some (.if_icmp .ge 78, 3) := by decide +kernel
theorem i151_42 : dxI 151 42 = some (.iload 5, 2) := by decide +kernel
theorem i151_44 : dxI 151 44 = some (.iload 6, 2) := by decide +kernel
theorem i151_46 : dxI 151 46 = some (.idiv, 1) := by decide +kernel
theorem i151_47 : dxI 151 47 = some (.bipush 10, 2) := by decide +kernel
theorem i151_49 : dxI 151 49 = some (.irem, 1) := by decide +kernel
theorem i151_50 : dxI 151 50 = some (.istore 8, 2) := by decide +kernel
theorem i151_52 : dxI 151 52 = some (.iload 6, 2) := by decide +kernel
theorem i151_54 : dxI 151 54 = some (.iconst 1, 1) := by decide +kernel
theorem i151_55 : dxI 151 55 = some (.if_icmp .le 11, 3) := by decide +kernel
theorem i151_58 : dxI 151 58 = some (.iload 6, 2) := by decide +kernel
theorem i151_60 : dxI 151 60 = some (.bipush 10, 2) := by decide +kernel
theorem i151_62 : dxI 151 62 = some (.idiv, 1) := by decide +kernel
theorem i151_63 : dxI 151 63 = some (.goto 4, 3) := by decide +kernel
theorem i151_66 : dxI 151 66 = some (.iconst 1, 1) := by decide +kernel
theorem i151_67 : dxI 151 67 = some (.istore 6, 2) := by decide +kernel
theorem i151_69 : dxI 151 69 = some (.iload 8, 2) := by decide +kernel
theorem i151_71 : dxI 151 71 = some (.iload 4, 2) := by decide +kernel
theorem i151_73 : dxI 151 73 = some (.if_icmp .lt 18, 3) := by decide +kernel
theorem i151_76 : dxI 151 76 = some (.aload_n 0, 1) := by decide +kernel
theorem i151_77 : dxI 151 77 = some (.getfield 16, 3) := by decide +kernel
theorem i151_80 : dxI 151 80 = some (.bipush 27, 2) := by decide +kernel
theorem i151_82 : dxI 151 82 = some (.iload 8, 2) := by decide +kernel
theorem i151_84 : dxI 151 84 = some (.iadd, 1) := by decide +kernel
theorem i151_85 : dxI 151 85 = some (.iaload, 1) := by decide +kernel
theorem i151_86 : dxI 151 86 = some (.bipush 9, 2) := by decide +kernel
theorem i151_88 : dxI 151 88 = some (.if_icmp .ne 5, 3) := by decide +kernel
theorem i151_91 : dxI 151 91 = some (.iconst 0, 1) := by decide +kernel
theorem i151_92 : dxI 151 92 = some (.ireturn, 1) := by decide +kernel
theorem i151_93 : dxI 151 93 = some (.aload_n 0, 1) := by decide +kernel
theorem i151_94 : dxI 151 94 = some (.getfield 16, 3) := by decide +kernel
theorem i151_97 : dxI 151 97 = some (.bipush 27, 2) := by decide +kernel
theorem i151_99 : dxI 151 99 = some (.iload 8, 2) := by decide +kernel
theorem i151_101 : dxI 151 101 = some (.iadd, 1) := by decide +kernel
theorem i151_102 : dxI 151 102 = some (.dup2, 1) := by decide +kernel
theorem i151_103 : dxI 151 103 = some (.iaload, 1) := by decide +kernel
theorem i151_104 : dxI 151 104 = some (.iconst 1, 1) := by decide +kernel
theorem i151_105 : dxI 151 105 = some (.iadd, 1) := by decide +kernel
theorem i151_106 : dxI 151 106 = some (.iastore, 1) := by decide +kernel
theorem i151_107 : dxI 151 107 = some (.iload 8, 2) := by decide +kernel
theorem i151_109 : dxI 151 109 = some (.istore 4, 2) := by decide +kernel
theorem i151_111 : dxI 151 111 = some (.iinc 7 1, 3) := by decide +kernel
theorem i151_114 : dxI 151 114 = some (.goto (-78), 3) := by decide +kernel
theorem i151_117 : dxI 151 117 = some (.bipush (-9), 2) := by decide +kernel
theorem i151_119 : dxI 151 119 = some (.istore 7, 2) := by decide +kernel
theorem i151_121 : dxI 151 121 = some (.iconst 0, 1) := by decide +kernel
theorem i151_122 : dxI 151 122 = some (.istore 8, 2) := by decide +kernel
theorem i151_124 : dxI 151 124 = some (.iload 8, 2) := by decide +kernel
theorem i151_126 : dxI 151 126 = some (.iload_n 1, 1) := by decide +kernel
theorem i151_127 : dxI 151 127 = some (.if_icmp .ge 19, 3) := by decide +kernel
theorem i151_130 : dxI 151 130 = some (.aload_n 0, 1) := by decide +kernel
theorem i151_131 : dxI 151 131 = some (.iconst 1, 1) := by decide +kernel
theorem i151_132 : dxI 151 132 = some (.bipush 63, 2) := by decide +kernel
theorem i151_134 : dxI 151 134 = some (.iconst 0, 1) := by decide +kernel
theorem i151_135 : dxI 151 135 = some (.invokevirtual 132, 3) := by decide +kernel
theorem i151_138 : dxI 151 138 = some (.istore 7, 2) := by decide +kernel
theorem i151_140 : dxI 151 140 = some (.iinc 8 1, 3) := by decide +kernel
theorem i151_143 : dxI 151 143 = some (.goto (-19), 3) := by decide +kernel
theorem i151_146 : dxI 151 146 = some (.iload 7, 2) := by decide +kernel
theorem i151_148 : dxI 151 148 = some (.iconst 1, 1) := by decide +kernel
theorem i151_149 : dxI 151 149 = some (.if_icmp .ne 7, 3) := by decide +kernel
theorem i151_152 : dxI 151 152 = some (.iconst 1, 1) := by decide +kernel
theorem i151_153 : dxI 151 153 = some (.goto 4, 3) := by decide +kernel
theorem i151_156 : dxI 151 156 = some (.iconst 0, 1) := by decide +kernel
theorem i151_157 : dxI 151 157 = some (.ireturn, 1) := by decide +kernel
theorem i152_0 : dxI 152 0 = some (.iload_n 1, 1) := by decide +kernel
theorem i152_1 : dxI 152 1 = some (.i2l, 1) := by decide +kernel
theorem i152_2 : dxI 152 2 = some (.lconst 1, 1) := by decide +kernel
theorem i152_3 : dxI 152 3 = some (.ldc2_w 138, 3) := by decide +kernel
theorem i152_6 : dxI 152 6 = some (.invokestatic 62, 3) := by decide +kernel
theorem i152_9 : dxI 152 9 = some (.ifCond .ne 6, 3) := by decide +kernel
theorem i152_12 : dxI 152 12 = some (.bipush (-2), 2) := by decide +kernel
theorem i152_14 : dxI 152 14 = some (.ireturn, 1) := by decide +kernel
theorem i152_15 : dxI 152 15 = some (.iconst 1, 1) := by decide +kernel
theorem i152_16 : dxI 152 16 = some (.istore_n 3, 1) := by decide +kernel
theorem i152_17 : dxI 152 17 = some (.iconst 0, 1) := by decide +kernel
theorem i152_18 : dxI 152 18 = some (.istore 4, 2) := by decide +kernel
theorem i152_20 : dxI 152 20 = some (.iload 4, 2) := by decide +kernel
theorem i152_22 : dxI 152 22 = some (.iconst 4, 1) := by decide +kernel
theorem i152_23 : dxI 152 23 = some (.if_icmp .ge 55, 3) := by decide +kernel
theorem i152_26 : dxI 152 26 = some (.iconst 0, 1) := by decide +kernel
theorem i152_27 : dxI 152 27 = some (.istore 5, 2) := by decide +kernel
theorem i152_29 : dxI 152 29 = some (.iload 5, 2) := by decide +kernel
theorem i152_31 : dxI 152 31 = some (.iload_n 3, 1) := by decide +kernel
theorem i152_32 : dxI 152 32 = some (.if_icmp .ge 35, 3) := by decide +kernel
theorem i152_35 : dxI 152 35 = some (.aload_n 0, 1) := by decide +kernel
theorem i152_36 : dxI 152 36 = some (.iload_n 1, 1) := by decide +kernel
theorem i152_37 : dxI 152 37 = some (.iload 5, 2) := by decide +kernel
theorem i152_39 : dxI 152 39 = some (.iload 4, 2) := by decide +kernel
theorem i152_41 : dxI 152 41 = some (.invokevirtual 156, 3) := by decide +kernel
theorem i152_44 : dxI 152 44 = some (.ifCond .eq 17, 3) := by decide +kernel
theorem i152_47 : dxI 152 47 = some (.iload_n 2, 1) := by decide +kernel
theorem i152_48 : dxI 152 48 = some (.ifCond .eq 10, 3) := by decide +kernel
theorem i152_51 : dxI 152 51 = some (.iload_n 3, 1) := by decide +kernel
theorem i152_52 : dxI 152 52 = some (.iload 5, 2) := by decide +kernel
theorem i152_54 : dxI 152 54 = some (.iadd, 1) := by decide +kernel
theorem i152_55 : dxI 152 55 = some (.goto 5, 3) := by decide +kernel
theorem i152_58 : dxI 152 58 = some (.iload 4, 2) := by decide +kernel
theorem i152_60 : dxI 152 60 = some (.ireturn, 1) := by decide +kernel
theorem i152_61 : dxI 152 61 = some (.iinc 5 1, 3) := by decide +kernel
theorem i152_64 : dxI 152 64 = some (.goto (-35), 3) := by decide +kernel
theorem i152_67 : dxI 152 67 = some (.iload_n 3, 1) := by decide +kernel
theorem i152_68 : dxI 152 68 = some (.bipush 10, 2) := by decide +kernel
theorem i152_70 : dxI 152 70 = some (.imul, 1) := by decide +kernel
theorem i152_71 : dxI 152 71 = some (.istore_n 3, 1) := by decide +kernel
theorem i152_72 : dxI 152 72 = some (.iinc 4 1, 3) := by decide +kernel
theorem i152_75 : dxI 152 75 = some (.goto (-55), 3) := by decide +kernel
theorem i152_78 : dxI 152 78 = some (.bipush (-9), 2) := by decide +kernel
theorem i152_80 : dxI 152 80 = some (.ireturn, 1) := by decide +kernel
theorem i153_0 : dxI 153 0 = some (.iconst 1, 1) := by decide +kernel
theorem i153_1 : dxI 153 1 = some (.istore_n 1, 1) := by decide +kernel
theorem i153_2 : dxI 153 2 = some (.iconst 0, 1) := by decide +kernel
theorem i153_3 : dxI 153 3 = some (.istore_n 2, 1) := by decide +kernel
theorem i153_4 : dxI 153 4 = some (.iload_n 2, 1) := by decide +kernel
theorem i153_5 : dxI 153 5 = some (.iload_n 0, 1) := by decide +kernel
theorem i153_6 : dxI 153 6 = some (.if_icmp .ge 14, 3) := by decide +kernel
theorem i153_9 : dxI 153 9 = some (.iload_n 1, 1) := by decide +kernel
theorem i153_10 : dxI 153 10 = some (.bipush 10, 2) := by decide +kernel
theorem i153_12 : dxI 153 12 = some (.imul, 1) := by decide +kernel
theorem i153_13 : dxI 153 13 = some (.istore_n 1, 1) := by decide +kernel
theorem i153_14 : dxI 153 14 = some (.iinc 2 1, 3) := by decide +kernel
theorem i153_17 : dxI 153 17 = some (.goto (-13), 3) := by decide +kernel
theorem i153_20 : dxI 153 20 = some (.iload_n 1, 1) := by decide +kernel
theorem i153_21 : dxI 153 21 = some (.ireturn, 1) := by decide +kernel
theorem i154_0 : dxI 154 0 = some (.iload_n 1, 1) := by decide +kernel
theorem i154_1 : dxI 154 1 = some (.i2l, 1) := by decide +kernel
theorem i154_2 : dxI 154 2 = some (.lconst 1, 1) := by decide +kernel
theorem i154_3 : dxI 154 3 = some (.ldc2_w 138, 3) := by decide +kernel
theorem i154_6 : dxI 154 6 = some (.invokestatic 62, 3) := by decide +kernel
theorem i154_9 : dxI 154 9 = some (.ifCond .eq 19, 3) := by decide +kernel
theorem i154_12 : dxI 154 12 = some (.iload_n 2, 1) := by decide +kernel
theorem i154_13 : dxI 154 13 = some (.i2l, 1) := by decide +kernel
theorem i154_14 : dxI 154 14 = some (.lconst 0, 1) := by decide +kernel
theorem i154_15 : dxI 154 15 = some (.iload_n 1, 1) := by decide +kernel
theorem i154_16 : dxI 154 16 = some (.invokestatic 160, 3) := by decide +kernel
theorem i154_19 : dxI 154 19 = some (.iconst 1, 1) := by decide +kernel
theorem i154_20 : dxI 154 20 = some (.isub, 1) := by decide +kernel
theorem i154_21 : dxI 154 21 = some (.i2l, 1) := by decide +kernel
theorem i154_22 : dxI 154 22 = some (.invokestatic 62, 3) := by decide +kernel
theorem i154_25 : dxI 154 25 = some (.ifCond .ne 6, 3) := by decide +kernel
theorem i154_28 : dxI 154 28 = some (.bipush (-2), 2) := by decide +kernel
theorem i154_30 : dxI 154 30 = some (.ireturn, 1) := by decide +kernel
theorem i154_31 : dxI 154 31 = some (.aload_n 0, 1) := by decide +kernel
theorem i154_32 : dxI 154 32 = some (.invokevirtual 140, 3) := by decide +kernel
theorem i154_35 : dxI 154 35 = some (.iconst 0, 1) := by decide +kernel
theorem i154_36 : dxI 154 36 = some (.istore_n 3, 1) := by decide +kernel
theorem i154_37 : dxI 154 37 = some (.iload_n 3, 1) := by decide +kernel
theorem i154_38 : dxI 154 38 = some (.iload_n 1, 1) := by decide +kernel
theorem i154_39 : dxI 154 39 = some (.if_icmp .ge 35, 3) := by decide +kernel
theorem i154_42 : dxI 154 42 = some (.aload_n 0, 1) := by decide +kernel
theorem i154_43 : dxI 154 43 = some (.iconst 1, 1) := by decide +kernel
theorem i154_44 : dxI 154 44 = some (.bipush 63, 2) := by decide +kernel
theorem i154_46 : dxI 154 46 = some (.iconst 0, 1) := by decide +kernel
theorem i154_47 : dxI 154 47 = some (.invokevirtual 132, 3) := by decide +kernel
theorem i154_50 : dxI 154 50 = some (.iload_n 2, 1) := by decide +kernel
theorem i154_51 : dxI 154 51 = some (.iload_n 1, 1) := by decide +kernel
theorem i154_52 : dxI 154 52 = some (.iconst 1, 1) := by decide +kernel
theorem i154_53 : dxI 154 53 = some (.isub, 1) := by decide +kernel
theorem i154_54 : dxI 154 54 = some (.iload_n 3, 1) := by decide +kernel
theorem i154_55 : dxI 154 55 = some (.isub, 1) := by decide +kernel
theorem i154_56 : dxI 154 56 = some (.invokestatic 160, 3) := by decide +kernel
theorem i154_59 : dxI 154 59 = some (.idiv, 1) := by decide +kernel
theorem i154_60 : dxI 154 60 = some (.bipush 10, 2) := by decide +kernel
theorem i154_62 : dxI 154 62 = some (.irem, 1) := by decide +kernel
theorem i154_63 : dxI 154 63 = some (.if_icmp .eq 5, 3) := by decide +kernel
theorem i154_66 : dxI 154 66 = some (.iload_n 3, 1) := by decide +kernel
theorem i154_67 : dxI 154 67 = some (.ireturn, 1) := by decide +kernel
theorem i154_68 : dxI 154 68 = some (.iinc 3 1, 3) := by decide +kernel
theorem i154_71 : dxI 154 71 = some (.goto (-34), 3) := by decide +kernel
theorem i154_74 : dxI 154 74 = some (.bipush (-9), 2) := by decide +kernel
theorem i154_76 : dxI 154 76 = some (.ireturn, 1) := by decide +kernel
theorem i155_0 : dxI 155 0 = some (.iconst 1, 1) := by decide +kernel
theorem i155_1 : dxI 155 1 = some (.istore_n 1, 1) := by decide +kernel
theorem i155_2 : dxI 155 2 = some (.iconst 2, 1) := by decide +kernel
theorem i155_3 : dxI 155 3 = some (.istore_n 2, 1) := by decide +kernel
theorem i155_4 : dxI 155 4 = some (.iload_n 2, 1) := by decide +kernel
theorem i155_5 : dxI 155 5 = some (.iload_n 0, 1) := by decide +kernel
theorem i155_6 : dxI 155 6 = some (.if_icmp .gt 13, 3) := by decide +kernel
theorem i155_9 : dxI 155 9 = some (.iload_n 1, 1) := by decide +kernel
theorem i155_10 : dxI 155 10 = some (.iload_n 2, 1) := by decide +kernel
theorem i155_11 : dxI 155 11 = some (.imul, 1) := by decide +kernel
theorem i155_12 : dxI 155 12 = some (.istore_n 1, 1) := by decide +kernel
theorem i155_13 : dxI 155 13 = some (.iinc 2 1, 3) := by decide +kernel
theorem i155_16 : dxI 155 16 = some (.goto (-12), 3) := by decide +kernel
theorem i155_19 : dxI 155 19 = some (.iload_n 1, 1) := by decide +kernel
theorem i155_20 : dxI 155 20 = some (.ireturn, 1) := by decide +kernel
theorem i156_0 : dxI 156 0 = some (.iload_n 0, 1) := by decide +kernel
theorem i156_1 : dxI 156 1 = some (.ifCond .ge 8, 3) := by decide +kernel
theorem i156_4 : dxI 156 4 = some (.iload_n 0, 1) := by decide +kernel
theorem i156_5 : dxI 156 5 = some (.ineg, 1) := by decide +kernel
theorem i156_6 : dxI 156 6 = some (.goto 4, 3) := by decide +kernel
theorem i156_9 : dxI 156 9 = some (.iload_n 0, 1) := by decide +kernel
theorem i156_10 : dxI 156 10 = some (.istore_n 2, 1) := by decide +kernel
theorem i156_11 : dxI 156 11 = some (.iload_n 1, 1) := by decide +kernel
theorem i156_12 : dxI 156 12 = some (.istore_n 3, 1) := by decide +kernel
theorem i156_13 : dxI 156 13 = some (.iload_n 3, 1) := by decide +kernel
theorem i156_14 : dxI 156 14 = some (.ifCond .eq 16, 3) := by decide +kernel
theorem i156_17 : dxI 156 17 = some (.iload_n 2, 1) := by decide +kernel
theorem i156_18 : dxI 156 18 = some (.iload_n 3, 1) := by decide +kernel
theorem i156_19 : dxI 156 19 = some (.irem, 1) := by decide +kernel
theorem i156_20 : dxI 156 20 = some (.istore 4, 2) := by decide +kernel
theorem i156_22 : dxI 156 22 = some (.iload_n 3, 1) := by decide +kernel
theorem i156_23 : dxI 156 23 = some (.istore_n 2, 1) := by decide +kernel
theorem i156_24 : dxI 156 24 = some (.iload 4, 2) := by decide +kernel
theorem i156_26 : dxI 156 26 = some (.istore_n 3, 1) := by decide +kernel
theorem i156_27 : dxI 156 27 = some (.goto (-14), 3) := by decide +kernel
theorem i156_30 : dxI 156 30 = some (.iload_n 2, 1) := by decide +kernel
theorem i156_31 : dxI 156 31 = some (.ireturn, 1) := by decide +kernel
theorem i157_0 : dxI 157 0 = some (.aload_n 0, 1) := by decide +kernel
theorem i157_1 : dxI 157 1 = some (.iload_n 1, 1) := by decide +kernel
theorem i157_2 : dxI 157 2 = some (.invokevirtual 108, 3) := by decide +kernel
theorem i157_5 : dxI 157 5 = some (.ifCond .ne 5, 3) := by decide +kernel
theorem i157_8 : dxI 157 8 = some (.iconst (-1), 1) := by decide +kernel
theorem i157_9 : dxI 157 9 = some (.ireturn, 1) := by decide +kernel
theorem i157_10 : dxI 157 10 = some (.iload_n 2, 1) := by decide +kernel
theorem i157_11 : dxI 157 11 = some (.i2l, 1) := by decide +kernel
theorem i157_12 : dxI 157 12 = some (.lconst 1, 1) := by decide +kernel
theorem i157_13 : dxI 157 13 = some (.ldc2_w 138, 3) := by decide +kernel
theorem i157_16 : dxI 157 16 = some (.invokestatic 62, 3) := by decide +kernel
theorem i157_19 : dxI 157 19 = some (.ifCond .ne 6, 3) := by decide +kernel
theorem i157_22 : dxI 157 22 = some (.bipush (-2), 2) := by decide +kernel
theorem i157_24 : dxI 157 24 = some (.ireturn, 1) := by decide +kernel
theorem i157_25 : dxI 157 25 = some (.iconst 0, 1) := by decide +kernel
theorem i157_26 : dxI 157 26 = some (.istore 4, 2) := by decide +kernel
theorem i157_28 : dxI 157 28 = some (.iload 4, 2) := by decide +kernel
theorem i157_30 : dxI 157 30 = some (.iconst 1, 1) := by decide +kernel
theorem i157_31 : dxI 157 31 = some (.aload_n 0, 1) := by decide +kernel
theorem i157_32 : dxI 157 32 = some (.getfield 56, 3) := by decide +kernel
theorem i157_35 : dxI 157 35 = some (.ishl, 1) := by decide +kernel
theorem i157_36 : dxI 157 36 = some (.if_icmp .ge 28, 3) := by decide +kernel
theorem i157_39 : dxI 157 39 = some (.aload_n 0, 1) := by decide +kernel
theorem i157_40 : dxI 157 40 = some (.invokevirtual 140, 3) := by decide +kernel
theorem i157_43 : dxI 157 43 = some (.aload_n 0, 1) := by decide +kernel
theorem i157_44 : dxI 157 44 = some (.getfield 34, 3) := by decide +kernel
theorem i157_47 : dxI 157 47 = some (.iload 4, 2) := by decide +kernel
theorem i157_49 : dxI 157 49 = some (.aload_n 0, 1) := by decide +kernel
theorem i157_50 : dxI 157 50 = some (.iload_n 2, 1) := by decide +kernel
theorem i157_51 : dxI 157 51 = some (.iload 4, 2) := by decide +kernel
theorem i157_53 : dxI 157 53 = some (.iconst 1, 1) := by decide +kernel
theorem i157_54 : dxI 157 54 = some (.invokevirtual 143, 3) := by decide +kernel
theorem i157_57 : dxI 157 57 = some (.iastore, 1) := by decide +kernel
theorem i157_58 : dxI 157 58 = some (.iinc 4 1, 3) := by decide +kernel
theorem i157_61 : dxI 157 61 = some (.goto (-33), 3) := by decide +kernel
theorem i157_64 : dxI 157 64 = some (.iconst 0, 1) := by decide +kernel
theorem i157_65 : dxI 157 65 = some (.istore 4, 2) := by decide +kernel
theorem i157_67 : dxI 157 67 = some (.iconst 0, 1) := by decide +kernel
theorem i157_68 : dxI 157 68 = some (.istore 5, 2) := by decide +kernel
theorem i157_70 : dxI 157 70 = some (.iload 5, 2) := by decide +kernel
theorem i157_72 : dxI 157 72 = some (.iconst 1, 1) := by decide +kernel
theorem i157_73 : dxI 157 73 = some (.aload_n 0, 1) := by decide +kernel
theorem i157_74 : dxI 157 74 = some (.getfield 56, 3) := by decide +kernel
theorem i157_77 : dxI 157 77 = some (.ishl, 1) := by decide +kernel
theorem i157_78 : dxI 157 78 = some (.if_icmp .ge 71, 3) := by decide +kernel
theorem i157_81 : dxI 157 81 = some (.iload 5, 2) := by decide +kernel
theorem i157_83 : dxI 157 83 = some (.iload_n 1, 1) := by decide +kernel
theorem i157_84 : dxI 157 84 = some (.invokestatic 77, 3) := by decide +kernel
theorem i157_87 : dxI 157 87 = some (.ifCond .ne 56, 3) := by decide +kernel
theorem i157_90 : dxI 157 90 = some (.iload 5, 2) := by decide +kernel
theorem i157_92 : dxI 157 92 = some (.invokestatic 163, 3) := by decide +kernel
theorem i157_95 : dxI 157 95 = some (.invokestatic 166, 3) := by decide +kernel
theorem i157_98 : dxI 157 98 = some (.aload_n 0, 1) := by decide +kernel
theorem i157_99 : dxI 157 99 = some (.getfield 56, 3) := by decide +kernel
theorem i157_102 : dxI 157 102 = some (.iconst 1, 1) := by decide +kernel
theorem i157_103 : dxI 157 103 = some (.isub, 1) := by decide +kernel
theorem i157_104 : dxI 157 104 = some (.iload 5, 2) := by decide +kernel
theorem i157_106 : dxI 157 106 = some (.invokestatic 163, 3) := by decide +kernel
theorem i157_109 : dxI 157 109 = some (.isub, 1) := by decide +kernel
theorem i157_110 : dxI 157 110 = some (.invokestatic 166, 3) := by decide +kernel
theorem i157_113 : dxI 157 113 = some (.imul, 1) := by decide +kernel
theorem i157_114 : dxI 157 114 = some (.istore 6, 2) := by decide +kernel
theorem i157_116 : dxI 157 116 = some (.iload 4, 2) := by decide +kernel
theorem i157_118 : dxI 157 118 = some (.iload 6, 2) := by decide +kernel
theorem i157_120 : dxI 157 120 = some (.aload_n 0, 1) := by decide +kernel
theorem i157_121 : dxI 157 121 = some (.getfield 34, 3) := by decide +kernel
theorem i157_124 : dxI 157 124 = some (.iload 5, 2) := by decide +kernel
theorem i157_126 : dxI 157 126 = some (.iconst 1, 1) := by decide +kernel
theorem i157_127 : dxI 157 127 = some (.iload_n 1, 1) := by decide +kernel
theorem i157_128 : dxI 157 128 = some (.ishl, 1) := by decide +kernel
theorem i157_129 : dxI 157 129 = some (.ior, 1) := by decide +kernel
theorem i157_130 : dxI 157 130 = some (.iaload, 1) := by decide +kernel
theorem i157_131 : dxI 157 131 = some (.aload_n 0, 1) := by decide +kernel
theorem i157_132 : dxI 157 132 = some (.getfield 34, 3) := by decide +kernel
theorem i157_135 : dxI 157 135 = some (.iload 5, 2) := by decide +kernel
theorem i157_137 : dxI 157 137 = some (.iaload, 1) := by decide +kernel
theorem i157_138 : dxI 157 138 = some (.isub, 1) := by decide +kernel
theorem i157_139 : dxI 157 139 = some (.imul, 1) := by decide +kernel
theorem i157_140 : dxI 157 140 = some (.iadd, 1) := by decide +kernel
theorem i157_141 : dxI 157 141 = some (.istore 4, 2) := by decide +kernel
theorem i157_143 : dxI 157 143 = some (.iinc 5 1, 3) := by decide +kernel
theorem i157_146 : dxI 157 146 = some (.goto (-76), 3) := by decide +kernel
theorem i157_149 : dxI 157 149 = some (.iload 4, 2) := by decide +kernel
theorem i157_151 : dxI 157 151 = some (.aload_n 0, 1) := by decide +kernel
theorem i157_152 : dxI 157 152 = some (.getfield 56, 3) := by decide +kernel
theorem i157_155 : dxI 157 155 = some (.invokestatic 166, 3) := by decide +kernel
theorem i157_158 : dxI 157 158 = some (.invokestatic 169, 3) := by decide +kernel
theorem i157_161 : dxI 157 161 = some (.istore 5, 2) := by decide +kernel
theorem i157_163 : dxI 157 163 = some (.iload_n 3, 1) := by decide +kernel
theorem i157_164 : dxI 157 164 = some (.ifCond .eq 11, 3) := by decide +kernel
theorem i157_167 : dxI 157 167 = some (.iload 4, 2) := by decide +kernel
theorem i157_169 : dxI 157 169 = some (.iload 5, 2) := by decide +kernel
theorem i157_171 : dxI 157 171 = some (.idiv, 1) := by decide +kernel
theorem i157_172 : dxI 157 172 = some (.goto 13, 3) := by decide +kernel
theorem i157_175 : dxI 157 175 = some (.aload_n 0, 1) := by decide +kernel
theorem i157_176 : dxI 157 176 = some (.getfield 56, 3) := by decide +kernel
theorem i157_179 : dxI 157 179 = some (.invokestatic 166, 3) := by decide +kernel
theorem i157_182 : dxI 157 182 = some (.iload 5, 2) := by decide +kernel
theorem i157_184 : dxI 157 184 = some (.idiv, 1) := by decide +kernel
theorem i157_185 : dxI 157 185 = some (.ireturn, 1) := by decide +kernel
theorem i158_0 : dxI 158 0 = some (.iload_n 1, 1) := by decide +kernel
theorem i158_1 : dxI 158 1 = some (.i2l, 1) := by decide +kernel
theorem i158_2 : dxI 158 2 = some (.lconst 1, 1) := by decide +kernel
theorem i158_3 : dxI 158 3 = some (.ldc2_w 138, 3) := by decide +kernel
theorem i158_6 : dxI 158 6 = some (.invokestatic 62, 3) := by decide +kernel
theorem i158_9 : dxI 158 9 = some (.ifCond .eq 18, 3) := by decide +kernel
theorem i158_12 : dxI 158 12 = some (.iload_n 2, 1) := by decide +kernel
theorem i158_13 : dxI 158 13 = some (.i2l, 1) := by decide +kernel
theorem i158_14 : dxI 158 14 = some (.lconst 0, 1) := by decide +kernel
theorem i158_15 : dxI 158 15 = some (.iconst 1, 1) := by decide +kernel
theorem i158_16 : dxI 158 16 = some (.iload_n 1, 1) := by decide +kernel
theorem i158_17 : dxI 158 17 = some (.ishl, 1) := by decide +kernel
theorem i158_18 : dxI 158 18 = some (.iconst 1, 1) := by decide +kernel
theorem i158_19 : dxI 158 19 = some (.isub, 1) := by decide +kernel
theorem i158_20 : dxI 158 20 = some (.i2l, 1) := by decide +kernel
theorem i158_21 : dxI 158 21 = some (.invokestatic 62, 3) := by decide +kernel
theorem i158_24 : dxI 158 24 = some (.ifCond .ne 6, 3) := by decide +kernel
theorem i158_27 : dxI 158 27 = some (.bipush (-2), 2) := by decide +kernel
theorem i158_29 : dxI 158 29 = some (.ireturn, 1) := by decide +kernel
theorem i158_30 : dxI 158 30 = some (.aload_n 0, 1) := by decide +kernel
theorem i158_31 : dxI 158 31 = some (.invokevirtual 140, 3) := by decide +kernel
theorem i158_34 : dxI 158 34 = some (.iconst 0, 1) := by decide +kernel
theorem i158_35 : dxI 158 35 = some (.istore_n 3, 1) := by decide +kernel
theorem i158_36 : dxI 158 36 = some (.iconst 0, 1) := by decide +kernel
theorem i158_37 : dxI 158 37 = some (.istore 4, 2) := by decide +kernel
theorem i158_39 : dxI 158 39 = some (.iload 4, 2) := by decide +kernel
theorem i158_41 : dxI 158 41 = some (.iload_n 1, 1) := by decide +kernel
theorem i158_42 : dxI 158 42 = some (.if_icmp .ge 93, 3) := by decide +kernel
theorem i158_45 : dxI 158 45 = some (.aload_n 0, 1) := by decide +kernel
theorem i158_46 : dxI 158 46 = some (.iconst 1, 1) := by decide +kernel
theorem i158_47 : dxI 158 47 = some (.bipush 63, 2) := by decide +kernel
theorem i158_49 : dxI 158 49 = some (.invokevirtual 115, 3) := by decide +kernel
theorem i158_52 : dxI 158 52 = some (.istore 5, 2) := by decide +kernel
theorem i158_54 : dxI 158 54 = some (.aload_n 0, 1) := by decide +kernel
theorem i158_55 : dxI 158 55 = some (.getfield 16, 3) := by decide +kernel
theorem i158_58 : dxI 158 58 = some (.bipush 22, 2) := by decide +kernel
theorem i158_60 : dxI 158 60 = some (.iaload, 1) := by decide +kernel
theorem i158_61 : dxI 158 61 = some (.iconst 1, 1) := by decide +kernel
theorem i158_62 : dxI 158 62 = some (.if_icmp .eq 17, 3) := by decide +kernel
theorem i158_65 : dxI 158 65 = some (.iload 5, 2) := by decide +kernel
theorem i158_67 : dxI 158 67 = some (.ifCond .eq 15, 3) := by decide +kernel
theorem i158_70 : dxI 158 70 = some (.iload_n 2, 1) := by decide +kernel
theorem i158_71 : dxI 158 71 = some (.iload 4, 2) := by decide +kernel
theorem i158_73 : dxI 158 73 = some (.invokestatic 77, 3) := by decide +kernel
theorem i158_76 : dxI 158 76 = some (.ifCond .ne 6, 3) := by decide +kernel
theorem i158_79 : dxI 158 79 = some (.bipush (-9), 2) := by decide +kernel
theorem i158_81 : dxI 158 81 = some (.ireturn, 1) := by decide +kernel
theorem i158_82 : dxI 158 82 = some (.iload_n 2, 1) := by decide +kernel
theorem i158_83 : dxI 158 83 = some (.iload 4, 2) := by decide +kernel
theorem i158_85 : dxI 158 85 = some (.invokestatic 77, 3) := by decide +kernel
theorem i158_88 : dxI 158 88 = some (.ifCond .eq 12, 3) := by decide +kernel
theorem i158_91 : dxI 158 91 = some (.iload 5, 2) := by decide +kernel
theorem i158_93 : dxI 158 93 = some (.ifCond .ne 7, 3) := by decide +kernel
theorem i158_96 : dxI 158 96 = some (.iconst 1, 1) := by decide +kernel
theorem i158_97 : dxI 158 97 = some (.goto 4, 3) := by decide +kernel
theorem i158_100 : dxI 158 100 = some (.iconst 0, 1) := by decide +kernel
theorem i158_101 : dxI 158 101 = some (.istore 6, 2) := by decide +kernel
theorem i158_103 : dxI 158 103 = some (.iload_n 3, 1) := by decide +kernel
theorem i158_104 : dxI 158 104 = some (.iload 6, 2) := by decide +kernel
theorem i158_106 : dxI 158 106 = some (.ifCond .eq 10, 3) := by decide +kernel
theorem i158_109 : dxI 158 109 = some (.iconst 1, 1) := by decide +kernel
theorem i158_110 : dxI 158 110 = some (.iload 4, 2) := by decide +kernel
theorem i158_112 : dxI 158 112 = some (.ishl, 1) := by decide +kernel
theorem i158_113 : dxI 158 113 = some (.goto 4, 3) := by decide +kernel
theorem i158_116 : dxI 158 116 = some (.iconst 0, 1) := by decide +kernel
theorem i158_117 : dxI 158 117 = some (.ior, 1) := by decide +kernel
theorem i158_118 : dxI 158 118 = some (.istore_n 3, 1) := by decide +kernel
theorem i158_119 : dxI 158 119 = some (.aload_n 0, 1) := by decide +kernel
theorem i158_120 : dxI 158 120 = some (.iconst 1, 1) := by decide +kernel
theorem i158_121 : dxI 158 121 = some (.bipush 63, 2) := by decide +kernel
theorem i158_123 : dxI 158 123 = some (.iload 6, 2) := by decide +kernel
theorem i158_125 : dxI 158 125 = some (.invokevirtual 132, 3) := by decide +kernel
theorem i158_128 : dxI 158 128 = some (.pop, 1) := by decide +kernel
theorem i158_129 : dxI 158 129 = some (.iinc 4 1, 3) := by decide +kernel
theorem i158_132 : dxI 158 132 = some (.goto (-93), 3) := by decide +kernel
theorem i158_135 : dxI 158 135 = some (.iload_n 3, 1) := by decide +kernel
theorem i158_136 : dxI 158 136 = some (.ireturn, 1) := by decide +kernel
theorem i159_0 : dxI 159 0 = some (.aload_n 0, 1) := by decide +kernel
theorem i159_1 : dxI 159 1 = some (.iload_n 1, 1) := by decide +kernel
theorem i159_2 : dxI 159 2 = some (.invokevirtual 108, 3) := by decide +kernel
theorem i159_5 : dxI 159 5 = some (.ifCond .ne 5, 3) := by decide +kernel
theorem i159_8 : dxI 159 8 = some (.iconst (-1), 1) := by decide +kernel
theorem i159_9 : dxI 159 9 = some (.ireturn, 1) := by decide +kernel
theorem i159_10 : dxI 159 10 = some (.iload_n 2, 1) := by decide +kernel
theorem i159_11 : dxI 159 11 = some (.i2l, 1) := by decide +kernel
theorem i159_12 : dxI 159 12 = some (.lconst 0, 1) := by decide +kernel
theorem i159_13 : dxI 159 13 = some (.ldc2_w 172, 3) := by decide +kernel
theorem i159_16 : dxI 159 16 = some (.invokestatic 62, 3) := by decide +kernel
theorem i159_19 : dxI 159 19 = some (.ifCond .ne 6, 3) := by decide +kernel
theorem i159_22 : dxI 159 22 = some (.bipush (-2), 2) := by decide +kernel
theorem i159_24 : dxI 159 24 = some (.ireturn, 1) := by decide +kernel
theorem i159_25 : dxI 159 25 = some (.aload_n 0, 1) := by decide +kernel
theorem i159_26 : dxI 159 26 = some (.getfield 174, 3) := by decide +kernel
theorem i159_29 : dxI 159 29 = some (.bipush 6, 2) := by decide +kernel
theorem i159_31 : dxI 159 31 = some (.if_icmp .ne 6, 3) := by decide +kernel
theorem i159_34 : dxI 159 34 = some (.bipush (-4), 2) := by decide +kernel
theorem i159_36 : dxI 159 36 = some (.ireturn, 1) := by decide +kernel
theorem i159_37 : dxI 159 37 = some (.aload_n 0, 1) := by decide +kernel
theorem i159_38 : dxI 159 38 = some (.getfield 37, 3) := by decide +kernel
theorem i159_41 : dxI 159 41 = some (.aload_n 0, 1) := by decide +kernel
theorem i159_42 : dxI 159 42 = some (.getfield 174, 3) := by decide +kernel
theorem i159_45 : dxI 159 45 = some (.iload_n 1, 1) := by decide +kernel
theorem i159_46 : dxI 159 46 = some (.iastore, 1) := by decide +kernel
theorem i159_47 : dxI 159 47 = some (.aload_n 0, 1) := by decide +kernel
theorem i159_48 : dxI 159 48 = some (.getfield 40, 3) := by decide +kernel
theorem i159_51 : dxI 159 51 = some (.aload_n 0, 1) := by decide +kernel
theorem i159_52 : dxI 159 52 = some (.getfield 174, 3) := by decide +kernel
theorem i159_55 : dxI 159 55 = some (.iload_n 2, 1) := by decide +kernel
theorem i159_56 : dxI 159 56 = some (.iastore, 1) := by decide +kernel
theorem i159_57 : dxI 159 57 = some (.aload_n 0, 1) := by decide +kernel
theorem i159_58 : dxI 159 58 = some (.getfield 43, 3) := by decide +kernel
theorem i159_61 : dxI 159 61 = some (.aload_n 0, 1) := by decide +kernel
theorem i159_62 : dxI 159 62 = some (.getfield 174, 3) := by decide +kernel
theorem i159_65 : dxI 159 65 = some (.iload_n 3, 1) := by decide +kernel
theorem i159_66 : dxI 159 66 = some (.bastore, 1) := by decide +kernel
theorem i159_67 : dxI 159 67 = some (.aload_n 0, 1) := by decide +kernel
theorem i159_68 : dxI 159 68 = some (.dup, 1) := by decide +kernel
theorem i159_69 : dxI 159 69 = some (.getfield 174, 3) := by decide +kernel
theorem i159_72 : dxI 159 72 = some (.iconst 1, 1) := by decide +kernel
theorem i159_73 : dxI 159 73 = some (.iadd, 1) := by decide +kernel
theorem i159_74 : dxI 159 74 = some (.putfield 174, 3) := by decide +kernel
theorem i159_77 : dxI 159 77 = some (.aload_n 0, 1) := by decide +kernel
theorem i159_78 : dxI 159 78 = some (.getfield 174, 3) := by decide +kernel
theorem i159_81 : dxI 159 81 = some (.ireturn, 1) := by decide +kernel
theorem i160_0 : dxI 160 0 = some (.aload_n 0, 1) := by decide +kernel
theorem i160_1 : dxI 160 1 = some (.getfield 174, 3) := by decide +kernel
theorem i160_4 : dxI 160 4 = some (.istore_n 1, 1) := by decide +kernel
theorem i160_5 : dxI 160 5 = some (.aload_n 0, 1) := by decide +kernel
theorem i160_6 : dxI 160 6 = some (.iconst 0, 1) := by decide +kernel
theorem i160_7 : dxI 160 7 = some (.putfield 174, 3) := by decide +kernel
theorem i160_10 : dxI 160 10 = some (.iload_n 1, 1) := by decide +kernel
theorem i160_11 : dxI 160 11 = some (.ireturn, 1) := by decide +kernel
theorem i161_0 : dxI 161 0 = some (.aload_n 0, 1) := by decide +kernel
theorem i161_1 : dxI 161 1 = some (.invokevirtual 140, 3) := by decide +kernel
theorem i161_4 : dxI 161 4 = some (.aload_n 0, 1) := by decide +kernel
theorem i161_5 : dxI 161 5 = some (.getfield 16, 3) := by decide +kernel
theorem i161_8 : dxI 161 8 = some (.bipush 43, 2) := by decide +kernel
theorem i161_10 : dxI 161 10 = some (.iload_n 1, 1) := by decide +kernel
theorem i161_11 : dxI 161 11 = some (.iadd, 1) := by decide +kernel
theorem i161_12 : dxI 161 12 = some (.iload_n 2, 1) := by decide +kernel
theorem i161_13 : dxI 161 13 = some (.iastore, 1) := by decide +kernel
theorem i161_14 : dxI 161 14 = some (.iconst 1, 1) := by decide +kernel
theorem i161_15 : dxI 161 15 = some (.istore_n 3, 1) := by decide +kernel
theorem i161_16 : dxI 161 16 = some (.iconst 0, 1) := by decide +kernel
theorem i161_17 : dxI 161 17 = some (.istore 4, 2) := by decide +kernel
theorem i161_19 : dxI 161 19 = some (.iload 4, 2) := by decide +kernel
theorem i161_21 : dxI 161 21 = some (.bipush 8, 2) := by decide +kernel
theorem i161_23 : dxI 161 23 = some (.if_icmp .ge 106, 3) := by decide +kernel
theorem i161_26 : dxI 161 26 = some (.iconst 0, 1) := by decide +kernel
theorem i161_27 : dxI 161 27 = some (.istore 5, 2) := by decide +kernel
theorem i161_29 : dxI 161 29 = some (.iload 5, 2) := by decide +kernel
theorem i161_31 : dxI 161 31 = some (.aload_n 0, 1) := by decide +kernel
theorem i161_32 : dxI 161 32 = some (.getfield 174, 3) := by decide +kernel
theorem i161_35 : dxI 161 35 = some (.if_icmp .ge 79, 3) := by decide +kernel
theorem i161_38 : dxI 161 38 = some (.aload_n 0, 1) := by decide +kernel
theorem i161_39 : dxI 161 39 = some (.getfield 40, 3) := by decide +kernel
theorem i161_42 : dxI 161 42 = some (.iload 5, 2) := by decide +kernel
theorem i161_44 : dxI 161 44 = some (.iaload, 1) := by decide +kernel
theorem i161_45 : dxI 161 45 = some (.iload 4, 2) := by decide +kernel
theorem i161_47 : dxI 161 47 = some (.if_icmp .ne 21, 3) := by decide +kernel
theorem i161_50 : dxI 161 50 = some (.aload_n 0, 1) := by decide +kernel
theorem i161_51 : dxI 161 51 = some (.aload_n 0, 1) := by decide +kernel
theorem i161_52 : dxI 161 52 = some (.getfield 37, 3) := by decide +kernel
theorem i161_55 : dxI 161 55 = some (.iload 5, 2) := by decide +kernel
theorem i161_57 : dxI 161 57 = some (.iaload, 1) := by decide +kernel
theorem i161_58 : dxI 161 58 = some (.invokevirtual 108, 3) := by decide +kernel
theorem i161_61 : dxI 161 61 = some (.ifCond .eq 7, 3) := by decide +kernel
theorem i161_64 : dxI 161 64 = some (.iconst 1, 1) := by decide +kernel
theorem i161_65 : dxI 161 65 = some (.goto 4, 3) := by decide +kernel
theorem i161_68 : dxI 161 68 = some (.iconst 0, 1) := by decide +kernel
theorem i161_69 : dxI 161 69 = some (.istore 6, 2) := by decide +kernel
theorem i161_71 : dxI 161 71 = some (.iload_n 3, 1) := by decide +kernel
theorem i161_72 : dxI 161 72 = some (.ifCond .eq 34, 3) := by decide +kernel
theorem i161_75 : dxI 161 75 = some (.iload 6, 2) := by decide +kernel
theorem i161_77 : dxI 161 77 = some (.ifCond .eq 25, 3) := by decide +kernel
theorem i161_80 : dxI 161 80 = some (.aload_n 0, 1) := by decide +kernel
theorem i161_81 : dxI 161 81 = some (.iconst 1, 1) := by decide +kernel
theorem i161_82 : dxI 161 82 = some (.aload_n 0, 1) := by decide +kernel
theorem i161_83 : dxI 161 83 = some (.getfield 37, 3) := by decide +kernel
theorem i161_86 : dxI 161 86 = some (.iload 5, 2) := by decide +kernel
theorem i161_88 : dxI 161 88 = some (.iaload, 1) := by decide +kernel
theorem i161_89 : dxI 161 89 = some (.invokevirtual 112, 3) := by decide +kernel
theorem i161_92 : dxI 161 92 = some (.aload_n 0, 1) := by decide +kernel
theorem i161_93 : dxI 161 93 = some (.getfield 43, 3) := by decide +kernel
theorem i161_96 : dxI 161 96 = some (.iload 5, 2) := by decide +kernel
theorem i161_98 : dxI 161 98 = some (.baload, 1) := by decide +kernel
theorem i161_99 : dxI 161 99 = some (.if_icmp .ne 7, 3) := by decide +kernel
theorem i161_102 : dxI 161 102 = some (.iconst 1, 1) := by decide +kernel
theorem i161_103 : dxI 161 103 = some (.goto 4, 3) := by decide +kernel
theorem i161_106 : dxI 161 106 = some (.iconst 0, 1) := by decide +kernel
theorem i161_107 : dxI 161 107 = some (.istore_n 3, 1) := by decide +kernel
theorem i161_108 : dxI 161 108 = some (.iinc 5 1, 3) := by decide +kernel
theorem i161_111 : dxI 161 111 = some (.goto (-82), 3) := by decide +kernel
theorem i161_114 : dxI 161 114 = some (.aload_n 0, 1) := by decide +kernel
theorem i161_115 : dxI 161 115 = some (.iconst 1, 1) := by decide +kernel
theorem i161_116 : dxI 161 116 = some (.bipush 63, 2) := by decide +kernel
theorem i161_118 : dxI 161 118 = some (.iconst 0, 1) := by decide +kernel
theorem i161_119 : dxI 161 119 = some (.invokevirtual 132, 3) := by decide +kernel
theorem i161_122 : dxI 161 122 = some (.pop, 1) := by decide +kernel
theorem i161_123 : dxI 161 123 = some (.iinc 4 1, 3) := by decide +kernel
theorem i161_126 : dxI 161 126 = some (.goto (-107), 3) := by decide +kernel
theorem i161_129 : dxI 161 129 = some (.iload_n 3, 1) := by decide +kernel
theorem i161_130 : dxI 161 130 = some (.ireturn, 1) := by decide +kernel
theorem i162_0 : dxI 162 0 = some (.aload_n 0, 1) := by decide +kernel
theorem i162_1 : dxI 162 1 = some (.iload_n 1, 1) := by decide +kernel
theorem i162_2 : dxI 162 2 = some (.invokevirtual 108, 3) := by decide +kernel
theorem i162_5 : dxI 162 5 = some (.ifCond .ne 5, 3) := by decide +kernel
theorem i162_8 : dxI 162 8 = some (.iconst (-1), 1) := by decide +kernel
theorem i162_9 : dxI 162 9 = some (.ireturn, 1) := by decide +kernel
theorem i162_10 : dxI 162 10 = some (.iconst 0, 1) := by decide +kernel
theorem i162_11 : dxI 162 11 = some (.istore_n 2, 1) := by decide +kernel
theorem i162_12 : dxI 162 12 = some (.iconst 0, 1) := by decide +kernel
theorem i162_13 : dxI 162 13 = some (.istore_n 3, 1) := by decide +kernel
theorem i162_14 : dxI 162 14 = some (.iload_n 3, 1) := by decide +kernel
theorem i162_15 : dxI 162 15 = some (.bipush 10, 2) := by decide +kernel
theorem i162_17 : dxI 162 17 = some (.if_icmp .ge 28, 3) := by decide +kernel
theorem i162_20 : dxI 162 20 = some (.iload_n 2, 1) := by decide +kernel
theorem i162_21 : dxI 162 21 = some (.aload_n 0, 1) := by decide +kernel
theorem i162_22 : dxI 162 22 = some (.iload_n 1, 1) := by decide +kernel
theorem i162_23 : dxI 162 23 = some (.iload_n 3, 1) := by decide +kernel
theorem i162_24 : dxI 162 24 = some (.invokevirtual 177, 3) := by decide +kernel
theorem i162_27 : dxI 162 27 = some (.ifCond .eq 9, 3) := by decide +kernel
theorem i162_30 : dxI 162 30 = some (.iconst 1, 1) := by decide +kernel
theorem i162_31 : dxI 162 31 = some (.iload_n 3, 1) := by decide +kernel
theorem i162_32 : dxI 162 32 = some (.ishl, 1) := by decide +kernel
theorem i162_33 : dxI 162 33 = some (.goto 4, 3) := by decide +kernel
theorem i162_36 : dxI 162 36 = some (.iconst 0, 1) := by decide +kernel
theorem i162_37 : dxI 162 37 = some (.ior, 1) := by decide +kernel
theorem i162_38 : dxI 162 38 = some (.istore_n 2, 1) := by decide +kernel
theorem i162_39 : dxI 162 39 = some (.iinc 3 1, 3) := by decide +kernel
theorem i162_42 : dxI 162 42 = some (.goto (-28), 3) := by decide +kernel
theorem i162_45 : dxI 162 45 = some (.iload_n 2, 1) := by decide +kernel
theorem i162_46 : dxI 162 46 = some (.ireturn, 1) := by decide +kernel
theorem i163_0 : dxI 163 0 = some (.iconst 0, 1) := by decide +kernel
theorem i163_1 : dxI 163 1 = some (.istore_n 2, 1) := by decide +kernel
theorem i163_2 : dxI 163 2 = some (.iload_n 2, 1) := by decide +kernel
theorem i163_3 : dxI 163 3 = some (.bipush 61, 2) := by decide +kernel
theorem i163_5 : dxI 163 5 = some (.if_icmp .ge 131, 3) := by decide +kernel
theorem i163_8 : dxI 163 8 = some (.iconst 0, 1) := by decide +kernel
theorem i163_9 : dxI 163 9 = some (.istore_n 3, 1) := by decide +kernel
theorem i163_10 : dxI 163 10 = some (.iload_n 3, 1) := by decide +kernel
theorem i163_11 : dxI 163 11 = some (.bipush 61, 2) := by decide +kernel
theorem i163_13 : dxI 163 13 = some (.if_icmp .ge 117, 3) := by decide +kernel
theorem i163_16 : dxI 163 16 = some (.aload_n 0, 1) := by decide +kernel
theorem i163_17 : dxI 163 17 = some (.iconst 0, 1) := by decide +kernel
theorem i163_18 : dxI 163 18 = some (.iload_n 2, 1) := by decide +kernel
theorem i163_19 : dxI 163 19 = some (.invokevirtual 149, 3) := by decide +kernel
theorem i163_22 : dxI 163 22 = some (.ifCond .eq 16, 3) := by decide +kernel
theorem i163_25 : dxI 163 25 = some (.aload_n 0, 1) := by decide +kernel
theorem i163_26 : dxI 163 26 = some (.iconst 1, 1) := by decide +kernel
theorem i163_27 : dxI 163 27 = some (.iload_n 3, 1) := by decide +kernel
theorem i163_28 : dxI 163 28 = some (.invokevirtual 149, 3) := by decide +kernel
theorem i163_31 : dxI 163 31 = some (.ifCond .eq 7, 3) := by decide +kernel
theorem i163_34 : dxI 163 34 = some (.iconst 1, 1) := by decide +kernel
theorem i163_35 : dxI 163 35 = some (.goto 4, 3) := by decide +kernel
theorem i163_38 : dxI 163 38 = some (.iconst 0, 1) := by decide +kernel
theorem i163_39 : dxI 163 39 = some (.istore 4, 2) := by decide +kernel
theorem i163_41 : dxI 163 41 = some (.iload 4, 2) := by decide +kernel
theorem i163_43 : dxI 163 43 = some (.ifCond .eq 30, 3) := by decide +kernel
theorem i163_46 : dxI 163 46 = some (.iload_n 2, 1) := by decide +kernel
theorem i163_47 : dxI 163 47 = some (.ifCond .eq 22, 3) := by decide +kernel
theorem i163_50 : dxI 163 50 = some (.iload_n 3, 1) := by decide +kernel
theorem i163_51 : dxI 163 51 = some (.ifCond .eq 18, 3) := by decide +kernel
theorem i163_54 : dxI 163 54 = some (.iload_n 2, 1) := by decide +kernel
theorem i163_55 : dxI 163 55 = some (.iconst 1, 1) := by decide +kernel
theorem i163_56 : dxI 163 56 = some (.isub, 1) := by decide +kernel
theorem i163_57 : dxI 163 57 = some (.bipush 10, 2) := by decide +kernel
theorem i163_59 : dxI 163 59 = some (.irem, 1) := by decide +kernel
theorem i163_60 : dxI 163 60 = some (.iload_n 3, 1) := by decide +kernel
theorem i163_61 : dxI 163 61 = some (.iconst 1, 1) := by decide +kernel
theorem i163_62 : dxI 163 62 = some (.isub, 1) := by decide +kernel
theorem i163_63 : dxI 163 63 = some (.bipush 10, 2) := by decide +kernel
theorem i163_65 : dxI 163 65 = some (.irem, 1) := by decide +kernel
theorem i163_66 : dxI 163 66 = some (.if_icmp .eq 7, 3) := by decide +kernel
theorem i163_69 : dxI 163 69 = some (.iconst 1, 1) := by decide +kernel
theorem i163_70 : dxI 163 70 = some (.goto 4, 3) := by decide +kernel
theorem i163_73 : dxI 163 73 = some (.iconst 0, 1) := by decide +kernel
theorem i163_74 : dxI 163 74 = some (.istore 4, 2) := by decide +kernel
theorem i163_76 : dxI 163 76 = some (.iload 4, 2) := by decide +kernel
theorem i163_78 : dxI 163 78 = some (.ifCond .eq 17, 3) := by decide +kernel
theorem i163_81 : dxI 163 81 = some (.aload_n 0, 1) := by decide +kernel
theorem i163_82 : dxI 163 82 = some (.invokevirtual 140, 3) := by decide +kernel
theorem i163_85 : dxI 163 85 = some (.aload_n 0, 1) := by decide +kernel
theorem i163_86 : dxI 163 86 = some (.iload_n 2, 1) := by decide +kernel
theorem i163_87 : dxI 163 87 = some (.invokevirtual 152, 3) := by decide +kernel
theorem i163_90 : dxI 163 90 = some (.aload_n 0, 1) := by decide +kernel
theorem i163_91 : dxI 163 91 = some (.iload_n 3, 1) := by decide +kernel
theorem i163_92 : dxI 163 92 = some (.invokevirtual 152, 3) := by decide +kernel
theorem i163_95 : dxI 163 95 = some (.aload_n 0, 1) := by decide +kernel
theorem i163_96 : dxI 163 96 = some (.getfield 47, 3) := by decide +kernel
theorem i163_99 : dxI 163 99 = some (.bipush 61, 2) := by decide +kernel
theorem i163_101 : dxI 163 101 = some (.iload_n 2, 1) := by decide +kernel
theorem i163_102 : dxI 163 102 = some (.imul, 1) := by decide +kernel
theorem i163_103 : dxI 163 103 = some (.iload_n 3, 1) := by decide +kernel
theorem i163_104 : dxI 163 104 = some (.iadd, 1) := by decide +kernel
theorem i163_105 : dxI 163 105 = some (.iload 4, 2) := by decide +kernel
theorem i163_107 : dxI 163 107 = some (.ifCond .eq 14, 3) := by decide +kernel
theorem i163_110 : dxI 163 110 = some (.aload_n 0, 1) := by decide +kernel
theorem i163_111 : dxI 163 111 = some (.iload_n 1, 1) := by decide +kernel
theorem i163_112 : dxI 163 112 = some (.bipush 63, 2) := by decide +kernel
theorem i163_114 : dxI 163 114 = some (.iconst 0, 1) := by decide +kernel
theorem i163_115 : dxI 163 115 = some (.invokevirtual 143, 3) := by decide +kernel
theorem i163_118 : dxI 163 118 = some (.goto 5, 3) := by decide +kernel
theorem i163_121 : dxI 163 121 = some (.bipush (-9), 2) := by decide +kernel
theorem i163_123 : dxI 163 123 = some (.iastore, 1) := by decide +kernel
theorem i163_124 : dxI 163 124 = some (.iinc 3 1, 3) := by decide +kernel
theorem i163_127 : dxI 163 127 = some (.goto (-117), 3) := by decide +kernel
theorem i163_130 : dxI 163 130 = some (.iinc 2 1, 3) := by decide +kernel
theorem i163_133 : dxI 163 133 = some (.goto (-131), 3) := by decide +kernel
theorem i163_136 : dxI 163 136 = some (.return_, 1) := by decide +kernel
theorem i164_0 : dxI 164 0 = some (.aload_n 0, 1) := by decide +kernel
theorem i164_1 : dxI 164 1 = some (.getfield 47, 3) := by decide +kernel
theorem i164_4 : dxI 164 4 = some (.bipush 61, 2) := by decide +kernel
theorem i164_6 : dxI 164 6 = some (.iload_n 1, 1) := by decide +kernel
theorem i164_7 : dxI 164 7 = some (.imul, 1) := by decide +kernel
theorem i164_8 : dxI 164 8 = some (.iload_n 2, 1) := by decide +kernel
theorem i164_9 : dxI 164 9 = some (.iadd, 1) := by decide +kernel
theorem i164_10 : dxI 164 10 = some (.iaload, 1) := by decide +kernel
theorem i164_11 : dxI 164 11 = some (.istore_n 3, 1) := by decide +kernel
theorem i164_12 : dxI 164 12 = some (.iload_n 3, 1) := by decide +kernel
theorem i164_13 : dxI 164 13 = some (.bipush (-9), 2) := by decide +kernel
theorem i164_15 : dxI 164 15 = some (.if_icmp .eq 7, 3) := by decide +kernel
theorem i164_18 : dxI 164 18 = some (.iconst 1, 1) := by decide +kernel
theorem i164_19 : dxI 164 19 = some (.goto 4, 3) := by decide +kernel
theorem i164_22 : dxI 164 22 = some (.iconst 0, 1) := by decide +kernel
theorem i164_23 : dxI 164 23 = some (.istore 4, 2) := by decide +kernel
theorem i164_25 : dxI 164 25 = some (.iconst 0, 1) := by decide +kernel
theorem i164_26 : dxI 164 26 = some (.istore 5, 2) := by decide +kernel
theorem i164_28 : dxI 164 28 = some (.iload 5, 2) := by decide +kernel
theorem i164_30 : dxI 164 30 = some (.bipush 61, 2) := by decide +kernel
theorem i164_32 : dxI 164 32 = some (.if_icmp .ge 70, 3) := by decide +kernel
theorem i164_35 : dxI 164 35 = some (.iload 4, 2) := by decide +kernel
theorem i164_37 : dxI 164 37 = some (.ifCond .eq 65, 3) := by decide +kernel
theorem i164_40 : dxI 164 40 = some (.aload_n 0, 1) := by decide +kernel
theorem i164_41 : dxI 164 41 = some (.getfield 47, 3) := by decide +kernel
theorem i164_44 : dxI 164 44 = some (.bipush 61, 2) := by decide +kernel
theorem i164_46 : dxI 164 46 = some (.iload 5, 2) := by decide +kernel
theorem i164_48 : dxI 164 48 = some (.imul, 1) := by decide +kernel
theorem i164_49 : dxI 164 49 = some (.iload_n 2, 1) := by decide +kernel
theorem i164_50 : dxI 164 50 = some (.iadd, 1) := by decide +kernel
theorem i164_51 : dxI 164 51 = some (.iaload, 1) := by decide +kernel
theorem i164_52 : dxI 164 52 = some (.iload_n 3, 1) := by decide +kernel
theorem i164_53 : dxI 164 53 = some (.if_icmp .gt 40, 3) := by decide +kernel
theorem i164_56 : dxI 164 56 = some (.aload_n 0, 1) := by decide +kernel
theorem i164_57 : dxI 164 57 = some (.getfield 47, 3) := by decide +kernel
theorem i164_60 : dxI 164 60 = some (.bipush 61, 2) := by decide +kernel
theorem i164_62 : dxI 164 62 = some (.iload_n 1, 1) := by decide +kernel
theorem i164_63 : dxI 164 63 = some (.imul, 1) := by decide +kernel
theorem i164_64 : dxI 164 64 = some (.iload 5, 2) := by decide +kernel
theorem i164_66 : dxI 164 66 = some (.iadd, 1) := by decide +kernel
theorem i164_67 : dxI 164 67 = some (.iaload, 1) := by decide +kernel
theorem i164_68 : dxI 164 68 = some (.bipush (-9), 2) := by decide +kernel
theorem i164_70 : dxI 164 70 = some (.if_icmp .eq 19, 3) := by decide +kernel
theorem i164_73 : dxI 164 73 = some (.aload_n 0, 1) := by decide +kernel
theorem i164_74 : dxI 164 74 = some (.getfield 47, 3) := by decide +kernel
theorem i164_77 : dxI 164 77 = some (.bipush 61, 2) := by decide +kernel
theorem i164_79 : dxI 164 79 = some (.iload_n 1, 1) := by decide +kernel
theorem i164_80 : dxI 164 80 = some (.imul, 1) := by decide +kernel
theorem i164_81 : dxI 164 81 = some (.iload 5, 2) := by decide +kernel
theorem i164_83 : dxI 164 83 = some (.iadd, 1) := by decide +kernel
theorem i164_84 : dxI 164 84 = some (.iaload, 1) := by decide +kernel
theorem i164_85 : dxI 164 85 = some (.iload_n 3, 1) := by decide +kernel
theorem i164_86 : dxI 164 86 = some (.if_icmp .lt 7, 3) := by decide +kernel
theorem i164_89 : dxI 164 89 = some (.iconst 1, 1) := by decide +kernel
theorem i164_90 : dxI 164 90 = some (.goto 4, 3) := by decide +kernel
theorem i164_93 : dxI 164 93 = some (.iconst 0, 1) := by decide +kernel
theorem i164_94 : dxI 164 94 = some (.istore 4, 2) := by decide +kernel
theorem i164_96 : dxI 164 96 = some (.iinc 5 1, 3) := by decide +kernel
theorem i164_99 : dxI 164 99 = some (.goto (-71), 3) := by decide +kernel
theorem i164_102 : dxI 164 102 = some (.iload 4, 2) := by decide +kernel
theorem i164_104 : dxI 164 104 = some (.ireturn, 1) := by decide +kernel
theorem i165_0 : dxI 165 0 = some (.iload_n 1, 1) := by decide +kernel
theorem i165_1 : dxI 165 1 = some (.i2l, 1) := by decide +kernel
theorem i165_2 : dxI 165 2 = some (.lconst 1, 1) := by decide +kernel
theorem i165_3 : dxI 165 3 = some (.ldc2_w 138, 3) := by decide +kernel
theorem i165_6 : dxI 165 6 = some (.invokestatic 62, 3) := by decide +kernel
theorem i165_9 : dxI 165 9 = some (.ifCond .eq 13, 3) := by decide +kernel
theorem i165_12 : dxI 165 12 = some (.iload_n 2, 1) := by decide +kernel
theorem i165_13 : dxI 165 13 = some (.i2l, 1) := by decide +kernel
theorem i165_14 : dxI 165 14 = some (.lconst 0, 1) := by decide +kernel
theorem i165_15 : dxI 165 15 = some (.lconst 1, 1) := by decide +kernel
theorem i165_16 : dxI 165 16 = some (.invokestatic 62, 3) := by decide +kernel
theorem i165_19 : dxI 165 19 = some (.ifCond .ne 6, 3) := by decide +kernel
theorem i165_22 : dxI 165 22 = some (.bipush (-2), 2) := by decide +kernel
theorem i165_24 : dxI 165 24 = some (.ireturn, 1) := by decide +kernel
theorem i165_25 : dxI 165 25 = some (.aload_n 0, 1) := by decide +kernel
theorem i165_26 : dxI 165 26 = some (.iload_n 1, 1) := by decide +kernel
theorem i165_27 : dxI 165 27 = some (.invokevirtual 180, 3) := by decide +kernel
theorem i165_30 : dxI 165 30 = some (.iconst 0, 1) := by decide +kernel
theorem i165_31 : dxI 165 31 = some (.istore_n 3, 1) := by decide +kernel
theorem i165_32 : dxI 165 32 = some (.bipush (-9), 2) := by decide +kernel
theorem i165_34 : dxI 165 34 = some (.istore 4, 2) := by decide +kernel
theorem i165_36 : dxI 165 36 = some (.iconst 0, 1) := by decide +kernel
theorem i165_37 : dxI 165 37 = some (.istore 5, 2) := by decide +kernel
theorem i165_39 : dxI 165 39 = some (.iload 5, 2) := by decide +kernel
theorem i165_41 : dxI 165 41 = some (.bipush 61, 2) := by decide +kernel
theorem i165_43 : dxI 165 43 = some (.if_icmp .ge 59, 3) := by decide +kernel
theorem i165_46 : dxI 165 46 = some (.iconst 0, 1) := by decide +kernel
theorem i165_47 : dxI 165 47 = some (.istore 6, 2) := by decide +kernel
theorem i165_49 : dxI 165 49 = some (.iload 6, 2) := by decide +kernel
theorem i165_51 : dxI 165 51 = some (.bipush 61, 2) := by decide +kernel
theorem i165_53 : dxI 165 53 = some (.if_icmp .ge 43, 3) := by decide +kernel
theorem i165_56 : dxI 165 56 = some (.aload_n 0, 1) := by decide +kernel
theorem i165_57 : dxI 165 57 = some (.iload 5, 2) := by decide +kernel
theorem i165_59 : dxI 165 59 = some (.iload 6, 2) := by decide +kernel
theorem i165_61 : dxI 165 61 = some (.invokevirtual 183, 3) := by decide +kernel
theorem i165_64 : dxI 165 64 = some (.ifCond .eq 26, 3) := by decide +kernel
theorem i165_67 : dxI 165 67 = some (.iload_n 3, 1) := by decide +kernel
theorem i165_68 : dxI 165 68 = some (.ifCond .ne 15, 3) := by decide +kernel
theorem i165_71 : dxI 165 71 = some (.sipush 1000, 3) := by decide +kernel
theorem i165_74 : dxI 165 74 = some (.iload 5, 2) := by decide +kernel
theorem i165_76 : dxI 165 76 = some (.imul, 1) := by decide +kernel
theorem i165_77 : dxI 165 77 = some (.iload 6, 2) := by decide +kernel
theorem i165_79 : dxI 165 79 = some (.iadd, 1) := by decide +kernel
theorem i165_80 : dxI 165 80 = some (.goto 5, 3) := by decide +kernel
theorem i165_83 : dxI 165 83 = some (.iload 4, 2) := by decide +kernel
theorem i165_85 : dxI 165 85 = some (.istore 4, 2) := by decide +kernel
theorem i165_87 : dxI 165 87 = some (.iinc 3 1, 3) := by decide +kernel
theorem i165_90 : dxI 165 90 = some (.iinc 6 1, 3) := by decide +kernel
theorem i165_93 : dxI 165 93 = some (.goto (-44), 3) := by decide +kernel
theorem i165_96 : dxI 165 96 = some (.iinc 5 1, 3) := by decide +kernel
theorem i165_99 : dxI 165 99 = some (.goto (-60), 3) := by decide +kernel
theorem i165_102 : dxI 165 102 = some (.iload_n 2, 1) := by decide +kernel
theorem i165_103 : dxI 165 103 = some (.ifCond .ne 7, 3) := by decide +kernel
theorem i165_106 : dxI 165 106 = some (.iload_n 3, 1) := by decide +kernel
theorem i165_107 : dxI 165 107 = some (.goto 5, 3) := by decide +kernel
theorem i165_110 : dxI 165 110 = some (.iload 4, 2) := by decide +kernel
theorem i165_112 : dxI 165 112 = some (.ireturn, 1) := by decide +kernel
theorem i166_0 : dxI 166 0 = some (.iload_n 1, 1) := by decide +kernel
theorem i166_1 : dxI 166 1 = some (.i2l, 1) := by decide +kernel
theorem i166_2 : dxI 166 2 = some (.lconst 1, 1) := by decide +kernel
theorem i166_3 : dxI 166 3 = some (.ldc2_w 186, 3) := by decide +kernel
theorem i166_6 : dxI 166 6 = some (.invokestatic 62, 3) := by decide +kernel
theorem i166_9 : dxI 166 9 = some (.ifCond .eq 15, 3) := by decide +kernel
theorem i166_12 : dxI 166 12 = some (.iload_n 2, 1) := by decide +kernel
theorem i166_13 : dxI 166 13 = some (.i2l, 1) := by decide +kernel
theorem i166_14 : dxI 166 14 = some (.lconst 0, 1) := by decide +kernel
theorem i166_15 : dxI 166 15 = some (.ldc2_w 188, 3) := by decide +kernel
theorem i166_18 : dxI 166 18 = some (.invokestatic 62, 3) := by decide +kernel
theorem i166_21 : dxI 166 21 = some (.ifCond .ne 6, 3) := by decide +kernel
theorem i166_24 : dxI 166 24 = some (.bipush (-2), 2) := by decide +kernel
theorem i166_26 : dxI 166 26 = some (.ireturn, 1) := by decide +kernel
theorem i166_27 : dxI 166 27 = some (.iconst 0, 1) := by decide +kernel
theorem i166_28 : dxI 166 28 = some (.istore 4, 2) := by decide +kernel
theorem i166_30 : dxI 166 30 = some (.iconst 0, 1) := by decide +kernel
theorem i166_31 : dxI 166 31 = some (.istore 5, 2) := by decide +kernel
theorem i166_33 : dxI 166 33 = some (.iconst 0, 1) := by decide +kernel
theorem i166_34 : dxI 166 34 = some (.istore 6, 2) := by decide +kernel
theorem i166_36 : dxI 166 36 = some (.iload 6, 2) := by decide +kernel
theorem i166_38 : dxI 166 38 = some (.iconst 1, 1) := by decide +kernel
theorem i166_39 : dxI 166 39 = some (.iload_n 1, 1) := by decide +kernel
theorem i166_40 : dxI 166 40 = some (.ishl, 1) := by decide +kernel
theorem i166_41 : dxI 166 41 = some (.if_icmp .ge 114, 3) := by decide +kernel
theorem i166_44 : dxI 166 44 = some (.iconst 1, 1) := by decide +kernel
theorem i166_45 : dxI 166 45 = some (.istore 7, 2) := by decide +kernel
theorem i166_47 : dxI 166 47 = some (.bipush (-9), 2) := by decide +kernel
theorem i166_49 : dxI 166 49 = some (.istore 8, 2) := by decide +kernel
theorem i166_51 : dxI 166 51 = some (.aload_n 0, 1) := by decide +kernel
theorem i166_52 : dxI 166 52 = some (.invokevirtual 140, 3) := by decide +kernel
theorem i166_55 : dxI 166 55 = some (.iconst 0, 1) := by decide +kernel
theorem i166_56 : dxI 166 56 = some (.istore 9, 2) := by decide +kernel
theorem i166_58 : dxI 166 58 = some (.iload 9, 2) := by decide +kernel
theorem i166_60 : dxI 166 60 = some (.iload_n 1, 1) := by decide +kernel
theorem i166_61 : dxI 166 61 = some (.if_icmp .ge 64, 3) := by decide +kernel
theorem i166_64 : dxI 166 64 = some (.iload 7, 2) := by decide +kernel
theorem i166_66 : dxI 166 66 = some (.iload 6, 2) := by decide +kernel
theorem i166_68 : dxI 166 68 = some (.iload 9, 2) := by decide +kernel
theorem i166_70 : dxI 166 70 = some (.invokestatic 77, 3) := by decide +kernel
theorem i166_73 : dxI 166 73 = some (.ifCond .eq 7, 3) := by decide +kernel
theorem i166_76 : dxI 166 76 = some (.iload_n 2, 1) := by decide +kernel
theorem i166_77 : dxI 166 77 = some (.goto 7, 3) := by decide +kernel
theorem i166_80 : dxI 166 80 = some (.bipush 10, 2) := by decide +kernel
theorem i166_82 : dxI 166 82 = some (.iload_n 2, 1) := by decide +kernel
theorem i166_83 : dxI 166 83 = some (.isub, 1) := by decide +kernel
theorem i166_84 : dxI 166 84 = some (.imul, 1) := by decide +kernel
theorem i166_85 : dxI 166 85 = some (.istore 7, 2) := by decide +kernel
theorem i166_87 : dxI 166 87 = some (.aload_n 0, 1) := by decide +kernel
theorem i166_88 : dxI 166 88 = some (.getfield 16, 3) := by decide +kernel
theorem i166_91 : dxI 166 91 = some (.bipush 49, 2) := by decide +kernel
theorem i166_93 : dxI 166 93 = some (.iload 6, 2) := by decide +kernel
theorem i166_95 : dxI 166 95 = some (.iload 9, 2) := by decide +kernel
theorem i166_97 : dxI 166 97 = some (.invokestatic 77, 3) := by decide +kernel
theorem i166_100 : dxI 166 100 = some (.ifCond .eq 7, 3) := by decide +kernel
theorem i166_103 : dxI 166 103 = some (.iconst 1, 1) := by decide +kernel
theorem i166_104 : dxI 166 104 = some (.goto 4, 3) := by decide +kernel
theorem i166_107 : dxI 166 107 = some (.iconst 0, 1) := by decide +kernel
theorem i166_108 : dxI 166 108 = some (.iastore, 1) := by decide +kernel
theorem i166_109 : dxI 166 109 = some (.aload_n 0, 1) := by decide +kernel
theorem i166_110 : dxI 166 110 = some (.iconst 1, 1) := by decide +kernel
theorem i166_111 : dxI 166 111 = some (.bipush 63, 2) := by decide +kernel
theorem i166_113 : dxI 166 113 = some (.iconst 0, 1) := by decide +kernel
theorem i166_114 : dxI 166 114 = some (.invokevirtual 132, 3) := by decide +kernel
theorem i166_117 : dxI 166 117 = some (.istore 8, 2) := by decide +kernel
theorem i166_119 : dxI 166 119 = some (.iinc 9 1, 3) := by decide +kernel
theorem i166_122 : dxI 166 122 = some (.goto (-64), 3) := by decide +kernel
theorem i166_125 : dxI 166 125 = some (.iload 5, 2) := by decide +kernel
theorem i166_127 : dxI 166 127 = some (.iload 7, 2) := by decide +kernel
theorem i166_129 : dxI 166 129 = some (.iadd, 1) := by decide +kernel
theorem i166_130 : dxI 166 130 = some (.istore 5, 2) := by decide +kernel
theorem i166_132 : dxI 166 132 = some (.iload 4, 2) := by decide +kernel
theorem i166_134 : dxI 166 134 = some (.iload 8, 2) := by decide +kernel
theorem i166_136 : dxI 166 136 = some (.iconst 1, 1) := by decide +kernel
theorem i166_137 : dxI 166 137 = some (.if_icmp .ne 8, 3) := by decide +kernel
theorem i166_140 : dxI 166 140 = some (.iload 7, 2) := by decide +kernel
theorem i166_142 : dxI 166 142 = some (.goto 4, 3) := by decide +kernel
theorem i166_145 : dxI 166 145 = some (.iconst 0, 1) := by decide +kernel
theorem i166_146 : dxI 166 146 = some (.iadd, 1) := by decide +kernel
theorem i166_147 : dxI 166 147 = some (.istore 4, 2) := by decide +kernel
theorem i166_149 : dxI 166 149 = some (.iinc 6 1, 3) := by decide +kernel
theorem i166_152 : dxI 166 152 = some (.goto (-116), 3) := by decide +kernel
theorem i166_155 : dxI 166 155 = some (.iload 4, 2) := by decide +kernel
theorem i166_157 : dxI 166 157 = some (.iload 5, 2) := by decide +kernel
theorem i166_159 : dxI 166 159 = some (.invokestatic 169, 3) := by decide +kernel
theorem i166_162 : dxI 166 162 = some (.istore 6, 2) := by decide +kernel
theorem i166_164 : dxI 166 164 = some (.iload_n 3, 1) := by decide +kernel
theorem i166_165 : dxI 166 165 = some (.ifCond .eq 11, 3) := by decide +kernel
theorem i166_168 : dxI 166 168 = some (.iload 4, 2) := by decide +kernel
theorem i166_170 : dxI 166 170 = some (.iload 6, 2) := by decide +kernel
theorem i166_172 : dxI 166 172 = some (.idiv, 1) := by decide +kernel
theorem i166_173 : dxI 166 173 = some (.goto 8, 3) := by decide +kernel
theorem i166_176 : dxI 166 176 = some (.iload 5, 2) := by decide +kernel
theorem i166_178 : dxI 166 178 = some (.iload 6, 2) := by decide +kernel
theorem i166_180 : dxI 166 180 = some (.idiv, 1) := by decide +kernel
theorem i166_181 : dxI 166 181 = some (.ireturn, 1) := by decide +kernel
theorem i167_0 : dxI 167 0 = some (.aload_n 0, 1) := by decide +kernel
theorem i167_1 : dxI 167 1 = some (.getfield 190, 3) := by decide +kernel
theorem i167_4 : dxI 167 4 = some (.lstore_n 3, 1) := by decide +kernel
theorem i167_5 : dxI 167 5 = some (.aload_n 0, 1) := by decide +kernel
theorem i167_6 : dxI 167 6 = some (.lload_n 1, 1) := by decide +kernel
theorem i167_7 : dxI 167 7 = some (.putfield 190, 3) := by decide +kernel
theorem i167_10 : dxI 167 10 = some (.lload_n 3, 1) := by decide +kernel
theorem i167_11 : dxI 167 11 = some (.lreturn, 1) := by decide +kernel
theorem i168_0 : dxI 168 0 = some (.iload_n 1, 1) := by decide +kernel
theorem i168_1 : dxI 168 1 = some (.i2l, 1) := by decide +kernel
theorem i168_2 : dxI 168 2 = some (.lconst 1, 1) := by decide +kernel
theorem i168_3 : dxI 168 3 = some (.ldc2_w 194, 3) := by decide +kernel
theorem i168_6 : dxI 168 6 = some (.invokestatic 62, 3) := by decide +kernel
theorem i168_9 : dxI 168 9 = some (.ifCond .ne 6, 3) := by decide +kernel
theorem i168_12 : dxI 168 12 = some (.bipush (-2), 2) := by decide +kernel
theorem i168_14 : dxI 168 14 = some (.ireturn, 1) := by decide +kernel
theorem i168_15 : dxI 168 15 = some (.aload_n 0, 1) := by decide +kernel
theorem i168_16 : dxI 168 16 = some (.invokevirtual 140, 3) := by decide +kernel
theorem i168_19 : dxI 168 19 = some (.iconst 0, 1) := by decide +kernel
theorem i168_20 : dxI 168 20 = some (.istore_n 2, 1) := by decide +kernel
theorem i168_21 : dxI 168 21 = some (.iload_n 2, 1) := by decide +kernel
theorem i168_22 : dxI 168 22 = some (.iload_n 1, 1) := by decide +kernel
theorem i168_23 : dxI 168 23 = some (.if_icmp .ge 104, 3) := by decide +kernel
theorem i168_26 : dxI 168 26 = some (.aload_n 0, 1) := by decide +kernel
theorem i168_27 : dxI 168 27 = some (.aload_n 0, 1) := by decide +kernel
theorem i168_28 : dxI 168 28 = some (.getfield 190, 3) := by decide +kernel
theorem i168_31 : dxI 168 31 = some (.ldc2_w 196, 3) := by decide +kernel
theorem i168_34 : dxI 168 34 = some (.lmul, 1) := by decide +kernel
theorem i168_35 : dxI 168 35 = some (.ldc2_w 198, 3) := by decide +kernel
theorem i168_38 : dxI 168 38 = some (.ladd, 1) := by decide +kernel
theorem i168_39 : dxI 168 39 = some (.putfield 190, 3) := by decide +kernel
theorem i168_42 : dxI 168 42 = some (.aload_n 0, 1) := by decide +kernel
theorem i168_43 : dxI 168 43 = some (.getfield 190, 3) := by decide +kernel
theorem i168_46 : dxI 168 46 = some (.bipush 33, 2) := by decide +kernel
theorem i168_48 : dxI 168 48 = some (.lushr, 1) := by decide +kernel
theorem i168_49 : dxI 168 49 = some (.ldc2_w 200, 3) := by decide +kernel
theorem i168_52 : dxI 168 52 = some (.lrem, 1) := by decide +kernel
theorem i168_53 : dxI 168 53 = some (.l2i, 1) := by decide +kernel
theorem i168_54 : dxI 168 54 = some (.istore_n 3, 1) := by decide +kernel
theorem i168_55 : dxI 168 55 = some (.iload_n 3, 1) := by decide +kernel
theorem i168_56 : dxI 168 56 = some (.bipush 10, 2) := by decide +kernel
theorem i168_58 : dxI 168 58 = some (.if_icmp .ge 30, 3) := by decide +kernel
theorem i168_61 : dxI 168 61 = some (.aload_n 0, 1) := by decide +kernel
theorem i168_62 : dxI 168 62 = some (.getfield 16, 3) := by decide +kernel
theorem i168_65 : dxI 168 65 = some (.bipush 27, 2) := by decide +kernel
theorem i168_67 : dxI 168 67 = some (.iload_n 3, 1) := by decide +kernel
theorem i168_68 : dxI 168 68 = some (.iadd, 1) := by decide +kernel
theorem i168_69 : dxI 168 69 = some (.iaload, 1) := by decide +kernel
theorem i168_70 : dxI 168 70 = some (.bipush 9, 2) := by decide +kernel
theorem i168_72 : dxI 168 72 = some (.if_icmp .ge 16, 3) := by decide +kernel
theorem i168_75 : dxI 168 75 = some (.aload_n 0, 1) := by decide +kernel
theorem i168_76 : dxI 168 76 = some (.getfield 16, 3) := by decide +kernel
theorem i168_79 : dxI 168 79 = some (.bipush 27, 2) := by decide +kernel
theorem i168_81 : dxI 168 81 = some (.iload_n 3, 1) := by decide +kernel
theorem i168_82 : dxI 168 82 = some (.iadd, 1) := by decide +kernel
theorem i168_83 : dxI 168 83 = some (.dup2, 1) := by decide +kernel
theorem i168_84 : dxI 168 84 = some (.iaload, 1) := by decide +kernel
theorem i168_85 : dxI 168 85 = some (.iconst 1, 1) := by decide +kernel
theorem i168_86 : dxI 168 86 = some (.iadd, 1) := by decide +kernel
theorem i168_87 : dxI 168 87 = some (.iastore, 1) := by decide +kernel
theorem i168_88 : dxI 168 88 = some (.aload_n 0, 1) := by decide +kernel
theorem i168_89 : dxI 168 89 = some (.getfield 16, 3) := by decide +kernel
theorem i168_92 : dxI 168 92 = some (.bipush 49, 2) := by decide +kernel
theorem i168_94 : dxI 168 94 = some (.iload_n 3, 1) := by decide +kernel
theorem i168_95 : dxI 168 95 = some (.bipush 10, 2) := by decide +kernel
theorem i168_97 : dxI 168 97 = some (.if_icmp .eq 9, 3) := by decide +kernel
theorem i168_100 : dxI 168 100 = some (.iload_n 3, 1) := by decide +kernel
theorem i168_101 : dxI 168 101 = some (.bipush 11, 2) := by decide +kernel
theorem i168_103 : dxI 168 103 = some (.if_icmp .ne 7, 3) := by decide +kernel
theorem i168_106 : dxI 168 106 = some (.iconst 1, 1) := by decide +kernel
theorem i168_107 : dxI 168 107 = some (.goto 4, 3) := by decide +kernel
theorem i168_110 : dxI 168 110 = some (.iconst 0, 1) := by decide +kernel
theorem i168_111 : dxI 168 111 = some (.iastore, 1) := by decide +kernel
theorem i168_112 : dxI 168 112 = some (.aload_n 0, 1) := by decide +kernel
theorem i168_113 : dxI 168 113 = some (.iconst 1, 1) := by decide +kernel
theorem i168_114 : dxI 168 114 = some (.bipush 63, 2) := by decide +kernel
theorem i168_116 : dxI 168 116 = some (.iconst 0, 1) := by decide +kernel
theorem i168_117 : dxI 168 117 = some (.invokevirtual 132, 3) := by decide +kernel
theorem i168_120 : dxI 168 120 = some (.pop, 1) := by decide +kernel
theorem i168_121 : dxI 168 121 = some (.iinc 2 1, 3) := by decide +kernel
theorem i168_124 : dxI 168 124 = some (.goto (-103), 3) := by decide +kernel
theorem i168_127 : dxI 168 127 = some (.sipush 1000, 3) := by decide +kernel
theorem i168_130 : dxI 168 130 = some (.aload_n 0, 1) := by decide +kernel
theorem i168_131 : dxI 168 131 = some (.getfield 16, 3) := by decide +kernel
theorem i168_134 : dxI 168 134 = some (.bipush 50, 2) := by decide +kernel
theorem i168_136 : dxI 168 136 = some (.iaload, 1) := by decide +kernel
theorem i168_137 : dxI 168 137 = some (.iadd, 1) := by decide +kernel
theorem i168_138 : dxI 168 138 = some (.aload_n 0, 1) := by decide +kernel
theorem i168_139 : dxI 168 139 = some (.getfield 16, 3) := by decide +kernel
theorem i168_142 : dxI 168 142 = some (.bipush 23, 2) := by decide +kernel
theorem i168_144 : dxI 168 144 = some (.iaload, 1) := by decide +kernel
theorem i168_145 : dxI 168 145 = some (.isub, 1) := by decide +kernel
theorem i168_146 : dxI 168 146 = some (.aload_n 0, 1) := by decide +kernel
theorem i168_147 : dxI 168 147 = some (.getfield 16, 3) := by decide +kernel
theorem i168_150 : dxI 168 150 = some (.bipush 51, 2) := by decide +kernel
theorem i168_152 : dxI 168 152 = some (.iaload, 1) := by decide +kernel
theorem i168_153 : dxI 168 153 = some (.aload_n 0, 1) := by decide +kernel
theorem i168_154 : dxI 168 154 = some (.getfield 16, 3) := by decide +kernel
theorem i168_157 : dxI 168 157 = some (.bipush 24, 2) := by decide +kernel
theorem i168_159 : dxI 168 159 = some (.iaload, 1) := by decide +kernel
theorem i168_160 : dxI 168 160 = some (.isub, 1) := by decide +kernel
theorem i168_161 : dxI 168 161 = some (.isub, 1) := by decide +kernel
theorem i168_162 : dxI 168 162 = some (.ireturn, 1) := by decide +kernel
theorem i169_0 : dxI 169 0 = some (.iload_n 1, 1) := by decide +kernel
theorem i169_1 : dxI 169 1 = some (.i2l, 1) := by decide +kernel
theorem i169_2 : dxI 169 2 = some (.lconst 0, 1) := by decide +kernel
theorem i169_3 : dxI 169 3 = some (.lconst 1, 1) := by decide +kernel
theorem i169_4 : dxI 169 4 = some (.invokestatic 62, 3) := by decide +kernel
theorem i169_7 : dxI 169 7 = some (.ifCond .ne 5, 3) := by decide +kernel
theorem i169_10 : dxI 169 10 = some (.iconst (-1), 1) := by decide +kernel
theorem i169_11 : dxI 169 11 = some (.ireturn, 1) := by decide +kernel
theorem i169_12 : dxI 169 12 = some (.aload_n 0, 1) := by decide +kernel
theorem i169_13 : dxI 169 13 = some (.getfield 50, 3) := by decide +kernel
theorem i169_16 : dxI 169 16 = some (.iload_n 1, 1) := by decide +kernel
theorem i169_17 : dxI 169 17 = some (.iconst 1, 1) := by decide +kernel
theorem i169_18 : dxI 169 18 = some (.bastore, 1) := by decide +kernel
theorem i169_19 : dxI 169 19 = some (.iconst 0, 1) := by decide +kernel
theorem i169_20 : dxI 169 20 = some (.istore_n 2, 1) := by decide +kernel
theorem i169_21 : dxI 169 21 = some (.iload_n 2, 1) := by decide +kernel
theorem i169_22 : dxI 169 22 = some (.bipush 27, 2) := by decide +kernel
theorem i169_24 : dxI 169 24 = some (.if_icmp .ge 26, 3) := by decide +kernel
theorem i169_27 : dxI 169 27 = some (.aload_n 0, 1) := by decide +kernel
theorem i169_28 : dxI 169 28 = some (.getfield 53, 3) := by decide +kernel
theorem i169_31 : dxI 169 31 = some (.bipush 27, 2) := by decide +kernel
theorem i169_33 : dxI 169 33 = some (.iload_n 1, 1) := by decide +kernel
theorem i169_34 : dxI 169 34 = some (.imul, 1) := by decide +kernel
theorem i169_35 : dxI 169 35 = some (.iload_n 2, 1) := by decide +kernel
theorem i169_36 : dxI 169 36 = some (.iadd, 1) := by decide +kernel
theorem i169_37 : dxI 169 37 = some (.aload_n 0, 1) := by decide +kernel
theorem i169_38 : dxI 169 38 = some (.getfield 16, 3) := by decide +kernel
theorem i169_41 : dxI 169 41 = some (.iload_n 2, 1) := by decide +kernel
theorem i169_42 : dxI 169 42 = some (.iaload, 1) := by decide +kernel
theorem i169_43 : dxI 169 43 = some (.iastore, 1) := by decide +kernel
theorem i169_44 : dxI 169 44 = some (.iinc 2 1, 3) := by decide +kernel
theorem i169_47 : dxI 169 47 = some (.goto (-26), 3) := by decide +kernel
theorem i169_50 : dxI 169 50 = some (.aload_n 0, 1) := by decide +kernel
theorem i169_51 : dxI 169 51 = some (.getfield 16, 3) := by decide +kernel
theorem i169_54 : dxI 169 54 = some (.bipush 26, 2) := by decide +kernel
theorem i169_56 : dxI 169 56 = some (.iaload, 1) := by decide +kernel
theorem i169_57 : dxI 169 57 = some (.ireturn, 1) := by decide +kernel
theorem i170_0 : dxI 170 0 = some (.iload_n 1, 1) := by decide +kernel
theorem i170_1 : dxI 170 1 = some (.i2l, 1) := by decide +kernel
theorem i170_2 : dxI 170 2 = some (.lconst 0, 1) := by decide +kernel
theorem i170_3 : dxI 170 3 = some (.lconst 1, 1) := by decide +kernel
theorem i170_4 : dxI 170 4 = some (.invokestatic 62, 3) := by decide +kernel
theorem i170_7 : dxI 170 7 = some (.ifCond .ne 5, 3) := by decide +kernel
theorem i170_10 : dxI 170 10 = some (.iconst (-1), 1) := by decide +kernel
theorem i170_11 : dxI 170 11 = some (.ireturn, 1) := by decide +kernel
theorem i170_12 : dxI 170 12 = some (.aload_n 0, 1) := by decide +kernel
theorem i170_13 : dxI 170 13 = some (.getfield 50, 3) := by decide +kernel
theorem i170_16 : dxI 170 16 = some (.iload_n 1, 1) := by decide +kernel
theorem i170_17 : dxI 170 17 = some (.baload, 1) := by decide +kernel
theorem i170_18 : dxI 170 18 = some (.ifCond .ne 6, 3) := by decide +kernel
theorem i170_21 : dxI 170 21 = some (.bipush (-3), 2) := by decide +kernel
theorem i170_23 : dxI 170 23 = some (.ireturn, 1) := by decide +kernel
theorem i170_24 : dxI 170 24 = some (.iconst 0, 1) := by decide +kernel
theorem i170_25 : dxI 170 25 = some (.istore_n 2, 1) := by decide +kernel
theorem i170_26 : dxI 170 26 = some (.iload_n 2, 1) := by decide +kernel
theorem i170_27 : dxI 170 27 = some (.bipush 27, 2) := by decide +kernel
theorem i170_29 : dxI 170 29 = some (.if_icmp .ge 26, 3) := by decide +kernel
theorem i170_32 : dxI 170 32 = some (.aload_n 0, 1) := by decide +kernel
theorem i170_33 : dxI 170 33 = some (.getfield 16, 3) := by decide +kernel
theorem i170_36 : dxI 170 36 = some (.iload_n 2, 1) := by decide +kernel
theorem i170_37 : dxI 170 37 = some (.aload_n 0, 1) := by decide +kernel
theorem i170_38 : dxI 170 38 = some (.getfield 53, 3) := by decide +kernel
theorem i170_41 : dxI 170 41 = some (.bipush 27, 2) := by decide +kernel
theorem i170_43 : dxI 170 43 = some (.iload_n 1, 1) := by decide +kernel
theorem i170_44 : dxI 170 44 = some (.imul, 1) := by decide +kernel
theorem i170_45 : dxI 170 45 = some (.iload_n 2, 1) := by decide +kernel
theorem i170_46 : dxI 170 46 = some (.iadd, 1) := by decide +kernel
theorem i170_47 : dxI 170 47 = some (.iaload, 1) := by decide +kernel
theorem i170_48 : dxI 170 48 = some (.iastore, 1) := by decide +kernel
theorem i170_49 : dxI 170 49 = some (.iinc 2 1, 3) := by decide +kernel
theorem i170_52 : dxI 170 52 = some (.goto (-26), 3) := by decide +kernel
theorem i170_55 : dxI 170 55 = some (.aload_n 0, 1) := by decide +kernel
theorem i170_56 : dxI 170 56 = some (.iconst 0, 1) := by decide +kernel
theorem i170_57 : dxI 170 57 = some (.putfield 105, 3) := by decide +kernel
theorem i170_60 : dxI 170 60 = some (.aload_n 0, 1) := by decide +kernel
theorem i170_61 : dxI 170 61 = some (.getfield 16, 3) := by decide +kernel
theorem i170_64 : dxI 170 64 = some (.bipush 26, 2) := by decide +kernel
theorem i170_66 : dxI 170 66 = some (.iaload, 1) := by decide +kernel
theorem i170_67 : dxI 170 67 = some (.ireturn, 1) := by decide +kernel
theorem i171_0 : dxI 171 0 = some (.iload_n 1, 1) := by decide +kernel
theorem i171_1 : dxI 171 1 = some (.tableswitch 124 0 9 #[55, 60, 65, 73, 81, 89, 97, 105, 114, 119], 55) := by decide +kernel
theorem i171_56 : dxI 171 56 = some (.aload_n 0, 1) := by decide +kernel
theorem i171_57 : dxI 171 57 = some (.getfield 66, 3) := by decide +kernel
theorem i171_60 : dxI 171 60 = some (.ireturn, 1) := by decide +kernel
theorem i171_61 : dxI 171 61 = some (.aload_n 0, 1) := by decide +kernel
theorem i171_62 : dxI 171 62 = some (.getfield 56, 3) := by decide +kernel
theorem i171_65 : dxI 171 65 = some (.ireturn, 1) := by decide +kernel
theorem i171_66 : dxI 171 66 = some (.aload_n 0, 1) := by decide +kernel
theorem i171_67 : dxI 171 67 = some (.getfield 16, 3) := by decide +kernel
theorem i171_70 : dxI 171 70 = some (.bipush 26, 2) := by decide +kernel
theorem i171_72 : dxI 171 72 = some (.iaload, 1) := by decide +kernel
theorem i171_73 : dxI 171 73 = some (.ireturn, 1) := by decide +kernel
theorem i171_74 : dxI 171 74 = some (.aload_n 0, 1) := by decide +kernel
theorem i171_75 : dxI 171 75 = some (.getfield 16, 3) := by decide +kernel
theorem i171_78 : dxI 171 78 = some (.bipush 22, 2) := by decide +kernel
theorem i171_80 : dxI 171 80 = some (.iaload, 1) := by decide +kernel
theorem i171_81 : dxI 171 81 = some (.ireturn, 1) := by decide +kernel
theorem i171_82 : dxI 171 82 = some (.aload_n 0, 1) := by decide +kernel
theorem i171_83 : dxI 171 83 = some (.getfield 16, 3) := by decide +kernel
theorem i171_86 : dxI 171 86 = some (.bipush 23, 2) := by decide +kernel
theorem i171_88 : dxI 171 88 = some (.iaload, 1) := by decide +kernel
theorem i171_89 : dxI 171 89 = some (.ireturn, 1) := by decide +kernel
theorem i171_90 : dxI 171 90 = some (.aload_n 0, 1) := by decide +kernel
theorem i171_91 : dxI 171 91 = some (.getfield 16, 3) := by decide +kernel
theorem i171_94 : dxI 171 94 = some (.bipush 24, 2) := by decide +kernel
theorem i171_96 : dxI 171 96 = some (.iaload, 1) := by decide +kernel
theorem i171_97 : dxI 171 97 = some (.ireturn, 1) := by decide +kernel
theorem i171_98 : dxI 171 98 = some (.aload_n 0, 1) := by decide +kernel
theorem i171_99 : dxI 171 99 = some (.getfield 16, 3) := by decide +kernel
theorem i171_102 : dxI 171 102 = some (.bipush 25, 2) := by decide +kernel
theorem i171_104 : dxI 171 104 = some (.iaload, 1) := by decide +kernel
theorem i171_105 : dxI 171 105 = some (.ireturn, 1) := by decide +kernel
theorem i171_106 : dxI 171 106 = some (.aload_n 0, 1) := by decide +kernel
theorem i171_107 : dxI 171 107 = some (.iconst 0, 1) := by decide +kernel
theorem i171_108 : dxI 171 108 = some (.bipush 63, 2) := by decide +kernel
theorem i171_110 : dxI 171 110 = some (.iconst 0, 1) := by decide +kernel
theorem i171_111 : dxI 171 111 = some (.invokevirtual 118, 3) := by decide +kernel
theorem i171_114 : dxI 171 114 = some (.ireturn, 1) := by decide +kernel
theorem i171_115 : dxI 171 115 = some (.aload_n 0, 1) := by decide +kernel
theorem i171_116 : dxI 171 116 = some (.getfield 105, 3) := by decide +kernel
theorem i171_119 : dxI 171 119 = some (.ireturn, 1) := by decide +kernel
theorem i171_120 : dxI 171 120 = some (.aload_n 0, 1) := by decide +kernel
theorem i171_121 : dxI 171 121 = some (.getfield 174, 3) := by decide +kernel
theorem i171_124 : dxI 171 124 = some (.ireturn, 1) := by decide +kernel
theorem i171_125 : dxI 171 125 = some (.bipush (-2), 2) := by decide +kernel
theorem i171_127 : dxI 171 127 = some (.ireturn, 1) := by decide +kernel
theorem i172_0 : dxI 172 0 = some (.iload_n 0, 1) := by decide +kernel
theorem i172_1 : dxI 172 1 = some (.iload_n 0, 1) := by decide +kernel
theorem i172_2 : dxI 172 2 = some (.iconst 1, 1) := by decide +kernel
theorem i172_3 : dxI 172 3 = some (.iushr, 1) := by decide +kernel
theorem i172_4 : dxI 172 4 = some (.ldc_w 265, 3) := by decide +kernel
theorem i172_7 : dxI 172 7 = some (.iand, 1) := by decide +kernel
theorem i172_8 : dxI 172 8 = some (.isub, 1) := by decide +kernel
theorem i172_9 : dxI 172 9 = some (.istore_n 0, 1) := by decide +kernel
theorem i172_10 : dxI 172 10 = some (.iload_n 0, 1) := by decide +kernel
theorem i172_11 : dxI 172 11 = some (.ldc_w 266, 3) := by decide +kernel
theorem i172_14 : dxI 172 14 = some (.iand, 1) := by decide +kernel
theorem i172_15 : dxI 172 15 = some (.iload_n 0, 1) := by decide +kernel
theorem i172_16 : dxI 172 16 = some (.iconst 2, 1) := by decide +kernel
theorem i172_17 : dxI 172 17 = some (.iushr, 1) := by decide +kernel
theorem i172_18 : dxI 172 18 = some (.ldc_w 266, 3) := by decide +kernel
theorem i172_21 : dxI 172 21 = some (.iand, 1) := by decide +kernel
theorem i172_22 : dxI 172 22 = some (.iadd, 1) := by decide +kernel
theorem i172_23 : dxI 172 23 = some (.istore_n 0, 1) := by decide +kernel
theorem i172_24 : dxI 172 24 = some (.iload_n 0, 1) := by decide +kernel
theorem i172_25 : dxI 172 25 = some (.iload_n 0, 1) := by decide +kernel
theorem i172_26 : dxI 172 26 = some (.iconst 4, 1) := by decide +kernel
theorem i172_27 : dxI 172 27 = some (.iushr, 1) := by decide +kernel
theorem i172_28 : dxI 172 28 = some (.iadd, 1) := by decide +kernel
theorem i172_29 : dxI 172 29 = some (.ldc_w 267, 3) := by decide +kernel
theorem i172_32 : dxI 172 32 = some (.iand, 1) := by decide +kernel
theorem i172_33 : dxI 172 33 = some (.istore_n 0, 1) := by decide +kernel
theorem i172_34 : dxI 172 34 = some (.iload_n 0, 1) := by decide +kernel
theorem i172_35 : dxI 172 35 = some (.iload_n 0, 1) := by decide +kernel
theorem i172_36 : dxI 172 36 = some (.bipush 8, 2) := by decide +kernel
theorem i172_38 : dxI 172 38 = some (.iushr, 1) := by decide +kernel
theorem i172_39 : dxI 172 39 = some (.iadd, 1) := by decide +kernel
theorem i172_40 : dxI 172 40 = some (.istore_n 0, 1) := by decide +kernel
theorem i172_41 : dxI 172 41 = some (.iload_n 0, 1) := by decide +kernel
theorem i172_42 : dxI 172 42 = some (.iload_n 0, 1) := by decide +kernel
theorem i172_43 : dxI 172 43 = some (.bipush 16, 2) := by decide +kernel
theorem i172_45 : dxI 172 45 = some (.iushr, 1) := by decide +kernel
theorem i172_46 : dxI 172 46 = some (.iadd, 1) := by decide +kernel
theorem i172_47 : dxI 172 47 = some (.istore_n 0, 1) := by decide +kernel
theorem i172_48 : dxI 172 48 = some (.iload_n 0, 1) := by decide +kernel
theorem i172_49 : dxI 172 49 = some (.bipush 63, 2) := by decide +kernel
theorem i172_51 : dxI 172 51 = some (.iand, 1) := by decide +kernel
theorem i172_52 : dxI 172 52 = some (.ireturn, 1) := by decide +kernel
theorem i173_0 : dxI 173 0 = some (.new 7, 3) := by decide +kernel
theorem i173_3 : dxI 173 3 = some (.dup, 1) := by decide +kernel
theorem i173_4 : dxI 173 4 = some (.invokespecial 9, 3) := by decide +kernel
theorem i173_7 : dxI 173 7 = some (.astore_n 1, 1) := by decide +kernel
theorem i173_8 : dxI 173 8 = some (.new 10, 3) := by decide +kernel
theorem i173_11 : dxI 173 11 = some (.dup, 1) := by decide +kernel
theorem i173_12 : dxI 173 12 = some (.invokespecial 12, 3) := by decide +kernel
theorem i173_15 : dxI 173 15 = some (.astore_n 2, 1) := by decide +kernel
theorem i173_16 : dxI 173 16 = some (.iconst 0, 1) := by decide +kernel
theorem i173_17 : dxI 173 17 = some (.istore_n 3, 1) := by decide +kernel
theorem i173_18 : dxI 173 18 = some (.iload_n 3, 1) := by decide +kernel
theorem i173_19 : dxI 173 19 = some (.aload_n 0, 1) := by decide +kernel
theorem i173_20 : dxI 173 20 = some (.arraylength, 1) := by decide +kernel
theorem i173_21 : dxI 173 21 = some (.iconst 5, 1) := by decide +kernel
theorem i173_22 : dxI 173 22 = some (.isub, 1) := by decide +kernel
theorem i173_23 : dxI 173 23 = some (.if_icmp .gt 1041, 3) := by decide +kernel
theorem i173_26 : dxI 173 26 = some (.aload_n 0, 1) := by decide +kernel
theorem i173_27 : dxI 173 27 = some (.iload_n 3, 1) := by decide +kernel
theorem i173_28 : dxI 173 28 = some (.iaload, 1) := by decide +kernel
theorem i173_29 : dxI 173 29 = some (.bipush 31, 2) := by decide +kernel
theorem i173_31 : dxI 173 31 = some (.iand, 1) := by decide +kernel
theorem i173_32 : dxI 173 32 = some (.tableswitch 1026 0 28 #[132, 155, 168, 181, 194, 217, 250, 289, 322, 345, 358, 371, 394, 417, 450, 519, 568, 601, 660, 693, 752, 765, 788, 821, 880, 934, 957, 980, 1003], 132) := by decide +kernel
theorem i173_164 : dxI 173 164 = some (.aload_n 1, 1) := by decide +kernel
theorem i173_165 : dxI 173 165 = some (.aload_n 0, 1) := by decide +kernel
theorem i173_166 : dxI 173 166 = some (.iload_n 3, 1) := by decide +kernel
theorem i173_167 : dxI 173 167 = some (.iconst 1, 1) := by decide +kernel
theorem i173_168 : dxI 173 168 = some (.iadd, 1) := by decide +kernel
theorem i173_169 : dxI 173 169 = some (.iaload, 1) := by decide +kernel
theorem i173_170 : dxI 173 170 = some (.invokevirtual 13, 3) := by decide +kernel
theorem i173_173 : dxI 173 173 = some (.aload_n 2, 1) := by decide +kernel
theorem i173_174 : dxI 173 174 = some (.aload_n 0, 1) := by decide +kernel
theorem i173_175 : dxI 173 175 = some (.iload_n 3, 1) := by decide +kernel
theorem i173_176 : dxI 173 176 = some (.iconst 1, 1) := by decide +kernel
theorem i173_177 : dxI 173 177 = some (.iadd, 1) := by decide +kernel
theorem i173_178 : dxI 173 178 = some (.iaload, 1) := by decide +kernel
theorem i173_179 : dxI 173 179 = some (.invokevirtual 17, 3) := by decide +kernel
theorem i173_182 : dxI 173 182 = some (.if_icmp .eq 876, 3) := by decide +kernel
theorem i173_185 : dxI 173 185 = some (.iconst 0, 1) := by decide +kernel
theorem i173_186 : dxI 173 186 = some (.ireturn, 1) := by decide +kernel
theorem i173_187 : dxI 173 187 = some (.aload_n 1, 1) := by decide +kernel
theorem i173_188 : dxI 173 188 = some (.invokevirtual 18, 3) := by decide +kernel
theorem i173_191 : dxI 173 191 = some (.aload_n 2, 1) := by decide +kernel
theorem i173_192 : dxI 173 192 = some (.invokevirtual 22, 3) := by decide +kernel
theorem i173_195 : dxI 173 195 = some (.if_icmp .eq 863, 3) := by decide +kernel
theorem i173_198 : dxI 173 198 = some (.iconst 0, 1) := by decide +kernel
theorem i173_199 : dxI 173 199 = some (.ireturn, 1) := by decide +kernel
theorem i173_200 : dxI 173 200 = some (.aload_n 1, 1) := by decide +kernel
theorem i173_201 : dxI 173 201 = some (.invokevirtual 23, 3) := by decide +kernel
theorem i173_204 : dxI 173 204 = some (.aload_n 2, 1) := by decide +kernel
theorem i173_205 : dxI 173 205 = some (.invokevirtual 26, 3) := by decide +kernel
theorem i173_208 : dxI 173 208 = some (.if_icmp .eq 850, 3) := by decide +kernel
theorem i173_211 : dxI 173 211 = some (.iconst 0, 1) := by decide +kernel
theorem i173_212 : dxI 173 212 = some (.ireturn, 1) := by decide +kernel
theorem i173_213 : dxI 173 213 = some (.aload_n 1, 1) := by decide +kernel
theorem i173_214 : dxI 173 214 = some (.invokevirtual 27, 3) := by decide +kernel
theorem i173_217 : dxI 173 217 = some (.aload_n 2, 1) := by decide +kernel
theorem i173_218 : dxI 173 218 = some (.invokevirtual 30, 3) := by decide +kernel
theorem i173_221 : dxI 173 221 = some (.if_icmp .eq 837, 3) := by decide +kernel
theorem i173_224 : dxI 173 224 = some (.iconst 0, 1) := by decide +kernel
theorem i173_225 : dxI 173 225 = some (.ireturn, 1) := by decide +kernel
theorem i173_226 : dxI 173 226 = some (.aload_n 1, 1) := by decide +kernel
theorem i173_227 : dxI 173 227 = some (.aload_n 0, 1) := by decide +kernel
theorem i173_228 : dxI 173 228 = some (.iload_n 3, 1) := by decide +kernel
theorem i173_229 : dxI 173 229 = some (.iconst 1, 1) := by decide +kernel
theorem i173_230 : dxI 173 230 = some (.iadd, 1) := by decide +kernel
theorem i173_231 : dxI 173 231 = some (.iaload, 1) := by decide +kernel
theorem i173_232 : dxI 173 232 = some (.invokevirtual 31, 3) := by decide +kernel
theorem i173_235 : dxI 173 235 = some (.aload_n 2, 1) := by decide +kernel
theorem i173_236 : dxI 173 236 = some (.aload_n 0, 1) := by decide +kernel
theorem i173_237 : dxI 173 237 = some (.iload_n 3, 1) := by decide +kernel
theorem i173_238 : dxI 173 238 = some (.iconst 1, 1) := by decide +kernel
theorem i173_239 : dxI 173 239 = some (.iadd, 1) := by decide +kernel
theorem i173_240 : dxI 173 240 = some (.iaload, 1) := by decide +kernel
theorem i173_241 : dxI 173 241 = some (.invokevirtual 34, 3) := by decide +kernel
theorem i173_244 : dxI 173 244 = some (.if_icmp .eq 814, 3) := by decide +kernel
theorem i173_247 : dxI 173 247 = some (.iconst 0, 1) := by decide +kernel
theorem i173_248 : dxI 173 248 = some (.ireturn, 1) := by decide +kernel
theorem i173_249 : dxI 173 249 = some (.aload_n 1, 1) := by decide +kernel
theorem i173_250 : dxI 173 250 = some (.aload_n 0, 1) := by decide +kernel
theorem i173_251 : dxI 173 251 = some (.iload_n 3, 1) := by decide +kernel
theorem i173_252 : dxI 173 252 = some (.iconst 1, 1) := by decide +kernel
theorem i173_253 : dxI 173 253 = some (.iadd, 1) := by decide +kernel
theorem i173_254 : dxI 173 254 = some (.iaload, 1) := by decide +kernel
theorem i173_255 : dxI 173 255 = some (.aload_n 0, 1) := by decide +kernel
theorem i173_256 : dxI 173 256 = some (.iload_n 3, 1) := by decide +kernel
theorem i173_257 : dxI 173 257 = some (.iconst 2, 1) := by decide +kernel
theorem i173_258 : dxI 173 258 = some (.iadd, 1) := by decide +kernel
theorem i173_259 : dxI 173 259 = some (.iaload, 1) := by decide +kernel
theorem i173_260 : dxI 173 260 = some (.invokevirtual 35, 3) := by decide +kernel
theorem i173_263 : dxI 173 263 = some (.aload_n 2, 1) := by decide +kernel
theorem i173_264 : dxI 173 264 = some (.aload_n 0, 1) := by decide +kernel
theorem i173_265 : dxI 173 265 = some (.iload_n 3, 1) := by decide +kernel
theorem i173_266 : dxI 173 266 = some (.iconst 1, 1) := by decide +kernel
theorem i173_267 : dxI 173 267 = some (.iadd, 1) := by decide +kernel
theorem i173_268 : dxI 173 268 = some (.iaload, 1) := by decide +kernel
theorem i173_269 : dxI 173 269 = some (.aload_n 0, 1) := by decide +kernel
theorem i173_270 : dxI 173 270 = some (.iload_n 3, 1) := by decide +kernel
theorem i173_271 : dxI 173 271 = some (.iconst 2, 1) := by decide +kernel
theorem i173_272 : dxI 173 272 = some (.iadd, 1) := by decide +kernel
theorem i173_273 : dxI 173 273 = some (.iaload, 1) := by decide +kernel
theorem i173_274 : dxI 173 274 = some (.invokevirtual 39, 3) := by decide +kernel
theorem i173_277 : dxI 173 277 = some (.if_icmp .eq 781, 3) := by decide +kernel
theorem i173_280 : dxI 173 280 = some (.iconst 0, 1) := by decide +kernel
theorem i173_281 : dxI 173 281 = some (.ireturn, 1) := by decide +kernel
theorem i173_282 : dxI 173 282 = some (.aload_n 1, 1) := by decide +kernel
theorem i173_283 : dxI 173 283 = some (.aload_n 0, 1) := by decide +kernel
theorem i173_284 : dxI 173 284 = some (.iload_n 3, 1) := by decide +kernel
theorem i173_285 : dxI 173 285 = some (.iconst 1, 1) := by decide +kernel
theorem i173_286 : dxI 173 286 = some (.iadd, 1) := by decide +kernel
theorem i173_287 : dxI 173 287 = some (.iaload, 1) := by decide +kernel
theorem i173_288 : dxI 173 288 = some (.ifCond .eq 7, 3) := by decide +kernel
theorem i173_291 : dxI 173 291 = some (.iconst 1, 1) := by decide +kernel
theorem i173_292 : dxI 173 292 = some (.goto 4, 3) := by decide +kernel
theorem i173_295 : dxI 173 295 = some (.iconst 0, 1) := by decide +kernel
theorem i173_296 : dxI 173 296 = some (.invokevirtual 40, 3) := by decide +kernel
theorem i173_299 : dxI 173 299 = some (.aload_n 2, 1) := by decide +kernel
theorem i173_300 : dxI 173 300 = some (.aload_n 0, 1) := by decide +kernel
theorem i173_301 : dxI 173 301 = some (.iload_n 3, 1) := by decide +kernel
theorem i173_302 : dxI 173 302 = some (.iconst 1, 1) := by decide +kernel
theorem i173_303 : dxI 173 303 = some (.iadd, 1) := by decide +kernel
theorem i173_304 : dxI 173 304 = some (.iaload, 1) := by decide +kernel
theorem i173_305 : dxI 173 305 = some (.ifCond .eq 7, 3) := by decide +kernel
theorem i173_308 : dxI 173 308 = some (.iconst 1, 1) := by decide +kernel
theorem i173_309 : dxI 173 309 = some (.goto 4, 3) := by decide +kernel
theorem i173_312 : dxI 173 312 = some (.iconst 0, 1) := by decide +kernel
theorem i173_313 : dxI 173 313 = some (.invokevirtual 44, 3) := by decide +kernel
theorem i173_316 : dxI 173 316 = some (.if_icmp .eq 742, 3) := by decide +kernel
theorem i173_319 : dxI 173 319 = some (.iconst 0, 1) := by decide +kernel
theorem i173_320 : dxI 173 320 = some (.ireturn, 1) := by decide +kernel
theorem i173_321 : dxI 173 321 = some (.aload_n 1, 1) := by decide +kernel
theorem i173_322 : dxI 173 322 = some (.aload_n 0, 1) := by decide +kernel
theorem i173_323 : dxI 173 323 = some (.iload_n 3, 1) := by decide +kernel
theorem i173_324 : dxI 173 324 = some (.iconst 1, 1) := by decide +kernel
theorem i173_325 : dxI 173 325 = some (.iadd, 1) := by decide +kernel
theorem i173_326 : dxI 173 326 = some (.iaload, 1) := by decide +kernel
theorem i173_327 : dxI 173 327 = some (.aload_n 0, 1) := by decide +kernel
theorem i173_328 : dxI 173 328 = some (.iload_n 3, 1) := by decide +kernel
theorem i173_329 : dxI 173 329 = some (.iconst 2, 1) := by decide +kernel
theorem i173_330 : dxI 173 330 = some (.iadd, 1) := by decide +kernel
theorem i173_331 : dxI 173 331 = some (.iaload, 1) := by decide +kernel
theorem i173_332 : dxI 173 332 = some (.invokevirtual 45, 3) := by decide +kernel
theorem i173_335 : dxI 173 335 = some (.aload_n 2, 1) := by decide +kernel
theorem i173_336 : dxI 173 336 = some (.aload_n 0, 1) := by decide +kernel
theorem i173_337 : dxI 173 337 = some (.iload_n 3, 1) := by decide +kernel
theorem i173_338 : dxI 173 338 = some (.iconst 1, 1) := by decide +kernel
theorem i173_339 : dxI 173 339 = some (.iadd, 1) := by decide +kernel
theorem i173_340 : dxI 173 340 = some (.iaload, 1) := by decide +kernel
theorem i173_341 : dxI 173 341 = some (.aload_n 0, 1) := by decide +kernel
theorem i173_342 : dxI 173 342 = some (.iload_n 3, 1) := by decide +kernel
theorem i173_343 : dxI 173 343 = some (.iconst 2, 1) := by decide +kernel
theorem i173_344 : dxI 173 344 = some (.iadd, 1) := by decide +kernel
theorem i173_345 : dxI 173 345 = some (.iaload, 1) := by decide +kernel
theorem i173_346 : dxI 173 346 = some (.invokevirtual 48, 3) := by decide +kernel
theorem i173_349 : dxI 173 349 = some (.if_icmp .eq 709, 3) := by decide +kernel
theorem i173_352 : dxI 173 352 = some (.iconst 0, 1) := by decide +kernel
theorem i173_353 : dxI 173 353 = some (.ireturn, 1) := by decide +kernel
theorem i173_354 : dxI 173 354 = some (.aload_n 1, 1) := by decide +kernel
theorem i173_355 : dxI 173 355 = some (.aload_n 0, 1) := by decide +kernel
theorem i173_356 : dxI 173 356 = some (.iload_n 3, 1) := by decide +kernel
theorem i173_357 : dxI 173 357 = some (.iconst 1, 1) := by decide +kernel
theorem i173_358 : dxI 173 358 = some (.iadd, 1) := by decide +kernel
theorem i173_359 : dxI 173 359 = some (.iaload, 1) := by decide +kernel
theorem i173_360 : dxI 173 360 = some (.invokevirtual 49, 3) := by decide +kernel
theorem i173_363 : dxI 173 363 = some (.aload_n 2, 1) := by decide +kernel
theorem i173_364 : dxI 173 364 = some (.aload_n 0, 1) := by decide +kernel
theorem i173_365 : dxI 173 365 = some (.iload_n 3, 1) := by decide +kernel
theorem i173_366 : dxI 173 366 = some (.iconst 1, 1) := by decide +kernel
theorem i173_367 : dxI 173 367 = some (.iadd, 1) := by decide +kernel
theorem i173_368 : dxI 173 368 = some (.iaload, 1) := by decide +kernel
theorem i173_369 : dxI 173 369 = some (.invokevirtual 52, 3) := by decide +kernel
theorem i173_372 : dxI 173 372 = some (.if_icmp .eq 686, 3) := by decide +kernel
theorem i173_375 : dxI 173 375 = some (.iconst 0, 1) := by decide +kernel
theorem i173_376 : dxI 173 376 = some (.ireturn, 1) := by decide +kernel
theorem i173_377 : dxI 173 377 = some (.aload_n 1, 1) := by decide +kernel
theorem i173_378 : dxI 173 378 = some (.invokevirtual 53, 3) := by decide +kernel
theorem i173_381 : dxI 173 381 = some (.aload_n 2, 1) := by decide +kernel
theorem i173_382 : dxI 173 382 = some (.invokevirtual 56, 3) := by decide +kernel
theorem i173_385 : dxI 173 385 = some (.if_icmp .eq 673, 3) := by decide +kernel
theorem i173_388 : dxI 173 388 = some (.iconst 0, 1) := by decide +kernel
theorem i173_389 : dxI 173 389 = some (.ireturn, 1) := by decide +kernel
theorem i173_390 : dxI 173 390 = some (.aload_n 1, 1) := by decide +kernel
theorem i173_391 : dxI 173 391 = some (.invokevirtual 57, 3) := by decide +kernel
theorem i173_394 : dxI 173 394 = some (.aload_n 2, 1) := by decide +kernel
theorem i173_395 : dxI 173 395 = some (.invokevirtual 60, 3) := by decide +kernel
theorem i173_398 : dxI 173 398 = some (.if_icmp .eq 660, 3) := by decide +kernel
theorem i173_401 : dxI 173 401 = some (.iconst 0, 1) := by decide +kernel
theorem i173_402 : dxI 173 402 = some (.ireturn, 1) := by decide +kernel
theorem i173_403 : dxI 173 403 = some (.aload_n 1, 1) := by decide +kernel
theorem i173_404 : dxI 173 404 = some (.aload_n 0, 1) := by decide +kernel
theorem i173_405 : dxI 173 405 = some (.iload_n 3, 1) := by decide +kernel
theorem i173_406 : dxI 173 406 = some (.iconst 1, 1) := by decide +kernel
theorem i173_407 : dxI 173 407 = some (.iadd, 1) := by decide +kernel
theorem i173_408 : dxI 173 408 = some (.iaload, 1) := by decide +kernel
theorem i173_409 : dxI 173 409 = some (.invokevirtual 61, 3) := by decide +kernel
theorem i173_412 : dxI 173 412 = some (.aload_n 2, 1) := by decide +kernel
theorem i173_413 : dxI 173 413 = some (.aload_n 0, 1) := by decide +kernel
theorem i173_414 : dxI 173 414 = some (.iload_n 3, 1) := by decide +kernel
theorem i173_415 : dxI 173 415 = some (.iconst 1, 1) := by decide +kernel
theorem i173_416 : dxI 173 416 = some (.iadd, 1) := by decide +kernel
theorem i173_417 : dxI 173 417 = some (.iaload, 1) := by decide +kernel
theorem i173_418 : dxI 173 418 = some (.invokevirtual 64, 3) := by decide +kernel
theorem i173_421 : dxI 173 421 = some (.if_icmp .eq 637, 3) := by decide +kernel
theorem i173_424 : dxI 173 424 = some (.iconst 0, 1) := by decide +kernel
theorem i173_425 : dxI 173 425 = some (.ireturn, 1) := by decide +kernel
theorem i173_426 : dxI 173 426 = some (.aload_n 1, 1) := by decide +kernel
theorem i173_427 : dxI 173 427 = some (.aload_n 0, 1) := by decide +kernel
theorem i173_428 : dxI 173 428 = some (.iload_n 3, 1) := by decide +kernel
theorem i173_429 : dxI 173 429 = some (.iconst 1, 1) := by decide +kernel
theorem i173_430 : dxI 173 430 = some (.iadd, 1) := by decide +kernel
theorem i173_431 : dxI 173 431 = some (.iaload, 1) := by decide +kernel
theorem i173_432 : dxI 173 432 = some (.invokevirtual 65, 3) := by decide +kernel
theorem i173_435 : dxI 173 435 = some (.aload_n 2, 1) := by decide +kernel
theorem i173_436 : dxI 173 436 = some (.aload_n 0, 1) := by decide +kernel
theorem i173_437 : dxI 173 437 = some (.iload_n 3, 1) := by decide +kernel
theorem i173_438 : dxI 173 438 = some (.iconst 1, 1) := by decide +kernel
theorem i173_439 : dxI 173 439 = some (.iadd, 1) := by decide +kernel
theorem i173_440 : dxI 173 440 = some (.iaload, 1) := by decide +kernel
theorem i173_441 : dxI 173 441 = some (.invokevirtual 68, 3) := by decide +kernel
theorem i173_444 : dxI 173 444 = some (.if_icmp .eq 614, 3) := by decide +kernel
theorem i173_447 : dxI 173 447 = some (.iconst 0, 1) := by decide +kernel
theorem i173_448 : dxI 173 448 = some (.ireturn, 1) := by decide +kernel
theorem i173_449 : dxI 173 449 = some (.aload_n 1, 1) := by decide +kernel
theorem i173_450 : dxI 173 450 = some (.aload_n 0, 1) := by decide +kernel
theorem i173_451 : dxI 173 451 = some (.iload_n 3, 1) := by decide +kernel
theorem i173_452 : dxI 173 452 = some (.iconst 1, 1) := by decide +kernel
theorem i173_453 : dxI 173 453 = some (.iadd, 1) := by decide +kernel
theorem i173_454 : dxI 173 454 = some (.iaload, 1) := by decide +kernel
theorem i173_455 : dxI 173 455 = some (.aload_n 0, 1) := by decide +kernel
theorem i173_456 : dxI 173 456 = some (.iload_n 3, 1) := by decide +kernel
theorem i173_457 : dxI 173 457 = some (.iconst 2, 1) := by decide +kernel
theorem i173_458 : dxI 173 458 = some (.iadd, 1) := by decide +kernel
theorem i173_459 : dxI 173 459 = some (.iaload, 1) := by decide +kernel
theorem i173_460 : dxI 173 460 = some (.invokevirtual 69, 3) := by decide +kernel
theorem i173_463 : dxI 173 463 = some (.aload_n 2, 1) := by decide +kernel
theorem i173_464 : dxI 173 464 = some (.aload_n 0, 1) := by decide +kernel
theorem i173_465 : dxI 173 465 = some (.iload_n 3, 1) := by decide +kernel
theorem i173_466 : dxI 173 466 = some (.iconst 1, 1) := by decide +kernel
theorem i173_467 : dxI 173 467 = some (.iadd, 1) := by decide +kernel
theorem i173_468 : dxI 173 468 = some (.iaload, 1) := by decide +kernel
theorem i173_469 : dxI 173 469 = some (.aload_n 0, 1) := by decide +kernel
theorem i173_470 : dxI 173 470 = some (.iload_n 3, 1) := by decide +kernel
theorem i173_471 : dxI 173 471 = some (.iconst 2, 1) := by decide +kernel
theorem i173_472 : dxI 173 472 = some (.iadd, 1) := by decide +kernel
theorem i173_473 : dxI 173 473 = some (.iaload, 1) := by decide +kernel
theorem i173_474 : dxI 173 474 = some (.invokevirtual 72, 3) := by decide +kernel
theorem i173_477 : dxI 173 477 = some (.if_icmp .eq 581, 3) := by decide +kernel
theorem i173_480 : dxI 173 480 = some (.iconst 0, 1) := by decide +kernel
theorem i173_481 : dxI 173 481 = some (.ireturn, 1) := by decide +kernel
theorem i173_482 : dxI 173 482 = some (.aload_n 1, 1) := by decide +kernel
theorem i173_483 : dxI 173 483 = some (.aload_n 0, 1) := by decide +kernel
theorem i173_484 : dxI 173 484 = some (.iload_n 3, 1) := by decide +kernel
theorem i173_485 : dxI 173 485 = some (.iconst 1, 1) := by decide +kernel
theorem i173_486 : dxI 173 486 = some (.iadd, 1) := by decide +kernel
theorem i173_487 : dxI 173 487 = some (.iaload, 1) := by decide +kernel
theorem i173_488 : dxI 173 488 = some (.aload_n 0, 1) := by decide +kernel
theorem i173_489 : dxI 173 489 = some (.iload_n 3, 1) := by decide +kernel
theorem i173_490 : dxI 173 490 = some (.iconst 2, 1) := by decide +kernel
theorem i173_491 : dxI 173 491 = some (.iadd, 1) := by decide +kernel
theorem i173_492 : dxI 173 492 = some (.iaload, 1) := by decide +kernel
theorem i173_493 : dxI 173 493 = some (.aload_n 0, 1) := by decide +kernel
theorem i173_494 : dxI 173 494 = some (.iload_n 3, 1) := by decide +kernel
theorem i173_495 : dxI 173 495 = some (.iconst 3, 1) := by decide +kernel
theorem i173_496 : dxI 173 496 = some (.iadd, 1) := by decide +kernel
theorem i173_497 : dxI 173 497 = some (.iaload, 1) := by decide +kernel
theorem i173_498 : dxI 173 498 = some (.ifCond .eq 7, 3) := by decide +kernel
theorem i173_501 : dxI 173 501 = some (.iconst 1, 1) := by decide +kernel
theorem i173_502 : dxI 173 502 = some (.goto 4, 3) := by decide +kernel
theorem i173_505 : dxI 173 505 = some (.iconst 0, 1) := by decide +kernel
theorem i173_506 : dxI 173 506 = some (.aload_n 0, 1) := by decide +kernel
theorem i173_507 : dxI 173 507 = some (.iload_n 3, 1) := by decide +kernel
theorem i173_508 : dxI 173 508 = some (.iconst 4, 1) := by decide +kernel
theorem i173_509 : dxI 173 509 = some (.iadd, 1) := by decide +kernel
theorem i173_510 : dxI 173 510 = some (.iaload, 1) := by decide +kernel
theorem i173_511 : dxI 173 511 = some (.invokevirtual 73, 3) := by decide +kernel
theorem i173_514 : dxI 173 514 = some (.aload_n 2, 1) := by decide +kernel
theorem i173_515 : dxI 173 515 = some (.aload_n 0, 1) := by decide +kernel
theorem i173_516 : dxI 173 516 = some (.iload_n 3, 1) := by decide +kernel
theorem i173_517 : dxI 173 517 = some (.iconst 1, 1) := by decide +kernel
theorem i173_518 : dxI 173 518 = some (.iadd, 1) := by decide +kernel
theorem i173_519 : dxI 173 519 = some (.iaload, 1) := by decide +kernel
theorem i173_520 : dxI 173 520 = some (.aload_n 0, 1) := by decide +kernel
theorem i173_521 : dxI 173 521 = some (.iload_n 3, 1) := by decide +kernel
theorem i173_522 : dxI 173 522 = some (.iconst 2, 1) := by decide +kernel
theorem i173_523 : dxI 173 523 = some (.iadd, 1) := by decide +kernel
theorem i173_524 : dxI 173 524 = some (.iaload, 1) := by decide +kernel
theorem i173_525 : dxI 173 525 = some (.aload_n 0, 1) := by decide +kernel
theorem i173_526 : dxI 173 526 = some (.iload_n 3, 1) := by decide +kernel
theorem i173_527 : dxI 173 527 = some (.iconst 3, 1) := by decide +kernel
theorem i173_528 : dxI 173 528 = some (.iadd, 1) := by decide +kernel
theorem i173_529 : dxI 173 529 = some (.iaload, 1) := by decide +kernel
theorem i173_530 : dxI 173 530 = some (.ifCond .eq 7, 3) := by decide +kernel
theorem i173_533 : dxI 173 533 = some (.iconst 1, 1) := by decide +kernel
theorem i173_534 : dxI 173 534 = some (.goto 4, 3) := by decide +kernel
theorem i173_537 : dxI 173 537 = some (.iconst 0, 1) := by decide +kernel
theorem i173_538 : dxI 173 538 = some (.aload_n 0, 1) := by decide +kernel
theorem i173_539 : dxI 173 539 = some (.iload_n 3, 1) := by decide +kernel
theorem i173_540 : dxI 173 540 = some (.iconst 4, 1) := by decide +kernel
theorem i173_541 : dxI 173 541 = some (.iadd, 1) := by decide +kernel
theorem i173_542 : dxI 173 542 = some (.iaload, 1) := by decide +kernel
theorem i173_543 : dxI 173 543 = some (.invokevirtual 77, 3) := by decide +kernel
theorem i173_546 : dxI 173 546 = some (.if_icmp .eq 512, 3) := by decide +kernel
theorem i173_549 : dxI 173 549 = some (.iconst 0, 1) := by decide +kernel
theorem i173_550 : dxI 173 550 = some (.ireturn, 1) := by decide +kernel
theorem i173_551 : dxI 173 551 = some (.aload_n 1, 1) := by decide +kernel
theorem i173_552 : dxI 173 552 = some (.aload_n 0, 1) := by decide +kernel
theorem i173_553 : dxI 173 553 = some (.iload_n 3, 1) := by decide +kernel
theorem i173_554 : dxI 173 554 = some (.iconst 1, 1) := by decide +kernel
theorem i173_555 : dxI 173 555 = some (.iadd, 1) := by decide +kernel
theorem i173_556 : dxI 173 556 = some (.iaload, 1) := by decide +kernel
theorem i173_557 : dxI 173 557 = some (.aload_n 0, 1) := by decide +kernel
theorem i173_558 : dxI 173 558 = some (.iload_n 3, 1) := by decide +kernel
theorem i173_559 : dxI 173 559 = some (.iconst 2, 1) := by decide +kernel
theorem i173_560 : dxI 173 560 = some (.iadd, 1) := by decide +kernel
theorem i173_561 : dxI 173 561 = some (.iaload, 1) := by decide +kernel
theorem i173_562 : dxI 173 562 = some (.ifCond .eq 7, 3) := by decide +kernel
theorem i173_565 : dxI 173 565 = some (.iconst 1, 1) := by decide +kernel
theorem i173_566 : dxI 173 566 = some (.goto 4, 3) := by decide +kernel
theorem i173_569 : dxI 173 569 = some (.iconst 0, 1) := by decide +kernel
theorem i173_570 : dxI 173 570 = some (.invokevirtual 78, 3) := by decide +kernel
theorem i173_573 : dxI 173 573 = some (.aload_n 2, 1) := by decide +kernel
theorem i173_574 : dxI 173 574 = some (.aload_n 0, 1) := by decide +kernel
theorem i173_575 : dxI 173 575 = some (.iload_n 3, 1) := by decide +kernel
theorem i173_576 : dxI 173 576 = some (.iconst 1, 1) := by decide +kernel
theorem i173_577 : dxI 173 577 = some (.iadd, 1) := by decide +kernel
theorem i173_578 : dxI 173 578 = some (.iaload, 1) := by decide +kernel
theorem i173_579 : dxI 173 579 = some (.aload_n 0, 1) := by decide +kernel
theorem i173_580 : dxI 173 580 = some (.iload_n 3, 1) := by decide +kernel
theorem i173_581 : dxI 173 581 = some (.iconst 2, 1) := by decide +kernel
theorem i173_582 : dxI 173 582 = some (.iadd, 1) := by decide +kernel
theorem i173_583 : dxI 173 583 = some (.iaload, 1) := by decide +kernel
theorem i173_584 : dxI 173 584 = some (.ifCond .eq 7, 3) := by decide +kernel
theorem i173_587 : dxI 173 587 = some (.iconst 1, 1) := by decide +kernel
theorem i173_588 : dxI 173 588 = some (.goto 4, 3) := by decide +kernel
theorem i173_591 : dxI 173 591 = some (.iconst 0, 1) := by decide +kernel
theorem i173_592 : dxI 173 592 = some (.invokevirtual 82, 3) := by decide +kernel
theorem i173_595 : dxI 173 595 = some (.if_icmp .eq 463, 3) := by decide +kernel
theorem i173_598 : dxI 173 598 = some (.iconst 0, 1) := by decide +kernel
theorem i173_599 : dxI 173 599 = some (.ireturn, 1) := by decide +kernel
theorem i173_600 : dxI 173 600 = some (.aload_n 1, 1) := by decide +kernel
theorem i173_601 : dxI 173 601 = some (.aload_n 0, 1) := by decide +kernel
theorem i173_602 : dxI 173 602 = some (.iload_n 3, 1) := by decide +kernel
theorem i173_603 : dxI 173 603 = some (.iconst 1, 1) := by decide +kernel
theorem i173_604 : dxI 173 604 = some (.iadd, 1) := by decide +kernel
theorem i173_605 : dxI 173 605 = some (.iaload, 1) := by decide +kernel
theorem i173_606 : dxI 173 606 = some (.aload_n 0, 1) := by decide +kernel
theorem i173_607 : dxI 173 607 = some (.iload_n 3, 1) := by decide +kernel
theorem i173_608 : dxI 173 608 = some (.iconst 2, 1) := by decide +kernel
theorem i173_609 : dxI 173 609 = some (.iadd, 1) := by decide +kernel
theorem i173_610 : dxI 173 610 = some (.iaload, 1) := by decide +kernel
theorem i173_611 : dxI 173 611 = some (.invokevirtual 83, 3) := by decide +kernel
theorem i173_614 : dxI 173 614 = some (.aload_n 2, 1) := by decide +kernel
theorem i173_615 : dxI 173 615 = some (.aload_n 0, 1) := by decide +kernel
theorem i173_616 : dxI 173 616 = some (.iload_n 3, 1) := by decide +kernel
theorem i173_617 : dxI 173 617 = some (.iconst 1, 1) := by decide +kernel
theorem i173_618 : dxI 173 618 = some (.iadd, 1) := by decide +kernel
theorem i173_619 : dxI 173 619 = some (.iaload, 1) := by decide +kernel
theorem i173_620 : dxI 173 620 = some (.aload_n 0, 1) := by decide +kernel
theorem i173_621 : dxI 173 621 = some (.iload_n 3, 1) := by decide +kernel
theorem i173_622 : dxI 173 622 = some (.iconst 2, 1) := by decide +kernel
theorem i173_623 : dxI 173 623 = some (.iadd, 1) := by decide +kernel
theorem i173_624 : dxI 173 624 = some (.iaload, 1) := by decide +kernel
theorem i173_625 : dxI 173 625 = some (.invokevirtual 86, 3) := by decide +kernel
theorem i173_628 : dxI 173 628 = some (.if_icmp .eq 430, 3) := by decide +kernel
theorem i173_631 : dxI 173 631 = some (.iconst 0, 1) := by decide +kernel
theorem i173_632 : dxI 173 632 = some (.ireturn, 1) := by decide +kernel
theorem i173_633 : dxI 173 633 = some (.aload_n 1, 1) := by decide +kernel
theorem i173_634 : dxI 173 634 = some (.aload_n 0, 1) := by decide +kernel
theorem i173_635 : dxI 173 635 = some (.iload_n 3, 1) := by decide +kernel
theorem i173_636 : dxI 173 636 = some (.iconst 1, 1) := by decide +kernel
theorem i173_637 : dxI 173 637 = some (.iadd, 1) := by decide +kernel
theorem i173_638 : dxI 173 638 = some (.iaload, 1) := by decide +kernel
theorem i173_639 : dxI 173 639 = some (.aload_n 0, 1) := by decide +kernel
theorem i173_640 : dxI 173 640 = some (.iload_n 3, 1) := by decide +kernel
theorem i173_641 : dxI 173 641 = some (.iconst 2, 1) := by decide +kernel
theorem i173_642 : dxI 173 642 = some (.iadd, 1) := by decide +kernel
theorem i173_643 : dxI 173 643 = some (.iaload, 1) := by decide +kernel
theorem i173_644 : dxI 173 644 = some (.aload_n 0, 1) := by decide +kernel
theorem i173_645 : dxI 173 645 = some (.iload_n 3, 1) := by decide +kernel
theorem i173_646 : dxI 173 646 = some (.iconst 3, 1) := by decide +kernel
theorem i173_647 : dxI 173 647 = some (.iadd, 1) := by decide +kernel
theorem i173_648 : dxI 173 648 = some (.iaload, 1) := by decide +kernel
theorem i173_649 : dxI 173 649 = some (.ifCond .eq 7, 3) := by decide +kernel
theorem i173_652 : dxI 173 652 = some (.iconst 1, 1) := by decide +kernel
theorem i173_653 : dxI 173 653 = some (.goto 4, 3) := by decide +kernel
theorem i173_656 : dxI 173 656 = some (.iconst 0, 1) := by decide +kernel
theorem i173_657 : dxI 173 657 = some (.invokevirtual 87, 3) := by decide +kernel
theorem i173_660 : dxI 173 660 = some (.aload_n 2, 1) := by decide +kernel
theorem i173_661 : dxI 173 661 = some (.aload_n 0, 1) := by decide +kernel
theorem i173_662 : dxI 173 662 = some (.iload_n 3, 1) := by decide +kernel
theorem i173_663 : dxI 173 663 = some (.iconst 1, 1) := by decide +kernel
theorem i173_664 : dxI 173 664 = some (.iadd, 1) := by decide +kernel
theorem i173_665 : dxI 173 665 = some (.iaload, 1) := by decide +kernel
theorem i173_666 : dxI 173 666 = some (.aload_n 0, 1) := by decide +kernel
theorem i173_667 : dxI 173 667 = some (.iload_n 3, 1) := by decide +kernel
theorem i173_668 : dxI 173 668 = some (.iconst 2, 1) := by decide +kernel
theorem i173_669 : dxI 173 669 = some (.iadd, 1) := by decide +kernel
theorem i173_670 : dxI 173 670 = some (.iaload, 1) := by decide +kernel
theorem i173_671 : dxI 173 671 = some (.aload_n 0, 1) := by decide +kernel
theorem i173_672 : dxI 173 672 = some (.iload_n 3, 1) := by decide +kernel
theorem i173_673 : dxI 173 673 = some (.iconst 3, 1) := by decide +kernel
theorem i173_674 : dxI 173 674 = some (.iadd, 1) := by decide +kernel
theorem i173_675 : dxI 173 675 = some (.iaload, 1) := by decide +kernel
theorem i173_676 : dxI 173 676 = some (.ifCond .eq 7, 3) := by decide +kernel
theorem i173_679 : dxI 173 679 = some (.iconst 1, 1) := by decide +kernel
theorem i173_680 : dxI 173 680 = some (.goto 4, 3) := by decide +kernel
theorem i173_683 : dxI 173 683 = some (.iconst 0, 1) := by decide +kernel
theorem i173_684 : dxI 173 684 = some (.invokevirtual 91, 3) := by decide +kernel
theorem i173_687 : dxI 173 687 = some (.if_icmp .eq 371, 3) := by decide +kernel
theorem i173_690 : dxI 173 690 = some (.iconst 0, 1) := by decide +kernel
theorem i173_691 : dxI 173 691 = some (.ireturn, 1) := by decide +kernel
theorem i173_692 : dxI 173 692 = some (.aload_n 1, 1) := by decide +kernel
theorem i173_693 : dxI 173 693 = some (.aload_n 0, 1) := by decide +kernel
theorem i173_694 : dxI 173 694 = some (.iload_n 3, 1) := by decide +kernel
theorem i173_695 : dxI 173 695 = some (.iconst 1, 1) := by decide +kernel
theorem i173_696 : dxI 173 696 = some (.iadd, 1) := by decide +kernel
theorem i173_697 : dxI 173 697 = some (.iaload, 1) := by decide +kernel
theorem i173_698 : dxI 173 698 = some (.aload_n 0, 1) := by decide +kernel
theorem i173_699 : dxI 173 699 = some (.iload_n 3, 1) := by decide +kernel
theorem i173_700 : dxI 173 700 = some (.iconst 2, 1) := by decide +kernel
theorem i173_701 : dxI 173 701 = some (.iadd, 1) := by decide +kernel
theorem i173_702 : dxI 173 702 = some (.iaload, 1) := by decide +kernel
theorem i173_703 : dxI 173 703 = some (.invokevirtual 92, 3) := by decide +kernel
theorem i173_706 : dxI 173 706 = some (.aload_n 2, 1) := by decide +kernel
theorem i173_707 : dxI 173 707 = some (.aload_n 0, 1) := by decide +kernel
theorem i173_708 : dxI 173 708 = some (.iload_n 3, 1) := by decide +kernel
theorem i173_709 : dxI 173 709 = some (.iconst 1, 1) := by decide +kernel
theorem i173_710 : dxI 173 710 = some (.iadd, 1) := by decide +kernel
theorem i173_711 : dxI 173 711 = some (.iaload, 1) := by decide +kernel
theorem i173_712 : dxI 173 712 = some (.aload_n 0, 1) := by decide +kernel
theorem i173_713 : dxI 173 713 = some (.iload_n 3, 1) := by decide +kernel
theorem i173_714 : dxI 173 714 = some (.iconst 2, 1) := by decide +kernel
theorem i173_715 : dxI 173 715 = some (.iadd, 1) := by decide +kernel
theorem i173_716 : dxI 173 716 = some (.iaload, 1) := by decide +kernel
theorem i173_717 : dxI 173 717 = some (.invokevirtual 95, 3) := by decide +kernel
theorem i173_720 : dxI 173 720 = some (.if_icmp .eq 338, 3) := by decide +kernel
theorem i173_723 : dxI 173 723 = some (.iconst 0, 1) := by decide +kernel
theorem i173_724 : dxI 173 724 = some (.ireturn, 1) := by decide +kernel
theorem i173_725 : dxI 173 725 = some (.aload_n 1, 1) := by decide +kernel
theorem i173_726 : dxI 173 726 = some (.aload_n 0, 1) := by decide +kernel
theorem i173_727 : dxI 173 727 = some (.iload_n 3, 1) := by decide +kernel
theorem i173_728 : dxI 173 728 = some (.iconst 1, 1) := by decide +kernel
theorem i173_729 : dxI 173 729 = some (.iadd, 1) := by decide +kernel
theorem i173_730 : dxI 173 730 = some (.iaload, 1) := by decide +kernel
theorem i173_731 : dxI 173 731 = some (.aload_n 0, 1) := by decide +kernel
theorem i173_732 : dxI 173 732 = some (.iload_n 3, 1) := by decide +kernel
theorem i173_733 : dxI 173 733 = some (.iconst 2, 1) := by decide +kernel
theorem i173_734 : dxI 173 734 = some (.iadd, 1) := by decide +kernel
theorem i173_735 : dxI 173 735 = some (.iaload, 1) := by decide +kernel
theorem i173_736 : dxI 173 736 = some (.aload_n 0, 1) := by decide +kernel
theorem i173_737 : dxI 173 737 = some (.iload_n 3, 1) := by decide +kernel
theorem i173_738 : dxI 173 738 = some (.iconst 3, 1) := by decide +kernel
theorem i173_739 : dxI 173 739 = some (.iadd, 1) := by decide +kernel
theorem i173_740 : dxI 173 740 = some (.iaload, 1) := by decide +kernel
theorem i173_741 : dxI 173 741 = some (.ifCond .eq 7, 3) := by decide +kernel
theorem i173_744 : dxI 173 744 = some (.iconst 1, 1) := by decide +kernel
theorem i173_745 : dxI 173 745 = some (.goto 4, 3) := by decide +kernel
theorem i173_748 : dxI 173 748 = some (.iconst 0, 1) := by decide +kernel
theorem i173_749 : dxI 173 749 = some (.invokevirtual 96, 3) := by decide +kernel
theorem i173_752 : dxI 173 752 = some (.aload_n 2, 1) := by decide +kernel
theorem i173_753 : dxI 173 753 = some (.aload_n 0, 1) := by decide +kernel
theorem i173_754 : dxI 173 754 = some (.iload_n 3, 1) := by decide +kernel
theorem i173_755 : dxI 173 755 = some (.iconst 1, 1) := by decide +kernel
theorem i173_756 : dxI 173 756 = some (.iadd, 1) := by decide +kernel
theorem i173_757 : dxI 173 757 = some (.iaload, 1) := by decide +kernel
theorem i173_758 : dxI 173 758 = some (.aload_n 0, 1) := by decide +kernel
theorem i173_759 : dxI 173 759 = some (.iload_n 3, 1) := by decide +kernel
theorem i173_760 : dxI 173 760 = some (.iconst 2, 1) := by decide +kernel
theorem i173_761 : dxI 173 761 = some (.iadd, 1) := by decide +kernel
theorem i173_762 : dxI 173 762 = some (.iaload, 1) := by decide +kernel
theorem i173_763 : dxI 173 763 = some (.aload_n 0, 1) := by decide +kernel
theorem i173_764 : dxI 173 764 = some (.iload_n 3, 1) := by decide +kernel
theorem i173_765 : dxI 173 765 = some (.iconst 3, 1) := by decide +kernel
theorem i173_766 : dxI 173 766 = some (.iadd, 1) := by decide +kernel
theorem i173_767 : dxI 173 767 = some (.iaload, 1) := by decide +kernel
theorem i173_768 : dxI 173 768 = some (.ifCond .eq 7, 3) := by decide +kernel
theorem i173_771 : dxI 173 771 = some (.iconst 1, 1) := by decide +kernel
theorem i173_772 : dxI 173 772 = some (.goto 4, 3) := by decide +kernel
theorem i173_775 : dxI 173 775 = some (.iconst 0, 1) := by decide +kernel
theorem i173_776 : dxI 173 776 = some (.invokevirtual 99, 3) := by decide +kernel
theorem i173_779 : dxI 173 779 = some (.if_icmp .eq 279, 3) := by decide +kernel
theorem i173_782 : dxI 173 782 = some (.iconst 0, 1) := by decide +kernel
theorem i173_783 : dxI 173 783 = some (.ireturn, 1) := by decide +kernel
theorem i173_784 : dxI 173 784 = some (.aload_n 1, 1) := by decide +kernel
theorem i173_785 : dxI 173 785 = some (.invokevirtual 100, 3) := by decide +kernel
theorem i173_788 : dxI 173 788 = some (.aload_n 2, 1) := by decide +kernel
theorem i173_789 : dxI 173 789 = some (.invokevirtual 103, 3) := by decide +kernel
theorem i173_792 : dxI 173 792 = some (.if_icmp .eq 266, 3) := by decide +kernel
theorem i173_795 : dxI 173 795 = some (.iconst 0, 1) := by decide +kernel
theorem i173_796 : dxI 173 796 = some (.ireturn, 1) := by decide +kernel
theorem i173_797 : dxI 173 797 = some (.aload_n 1, 1) := by decide +kernel
theorem i173_798 : dxI 173 798 = some (.aload_n 0, 1) := by decide +kernel
theorem i173_799 : dxI 173 799 = some (.iload_n 3, 1) := by decide +kernel
theorem i173_800 : dxI 173 800 = some (.iconst 1, 1) := by decide +kernel
theorem i173_801 : dxI 173 801 = some (.iadd, 1) := by decide +kernel
theorem i173_802 : dxI 173 802 = some (.iaload, 1) := by decide +kernel
theorem i173_803 : dxI 173 803 = some (.invokevirtual 104, 3) := by decide +kernel
theorem i173_806 : dxI 173 806 = some (.aload_n 2, 1) := by decide +kernel
theorem i173_807 : dxI 173 807 = some (.aload_n 0, 1) := by decide +kernel
theorem i173_808 : dxI 173 808 = some (.iload_n 3, 1) := by decide +kernel
theorem i173_809 : dxI 173 809 = some (.iconst 1, 1) := by decide +kernel
theorem i173_810 : dxI 173 810 = some (.iadd, 1) := by decide +kernel
theorem i173_811 : dxI 173 811 = some (.iaload, 1) := by decide +kernel
theorem i173_812 : dxI 173 812 = some (.invokevirtual 107, 3) := by decide +kernel
theorem i173_815 : dxI 173 815 = some (.if_icmp .eq 243, 3) := by decide +kernel
theorem i173_818 : dxI 173 818 = some (.iconst 0, 1) := by decide +kernel
theorem i173_819 : dxI 173 819 = some (.ireturn, 1) := by decide +kernel
theorem i173_820 : dxI 173 820 = some (.aload_n 1, 1) := by decide +kernel
theorem i173_821 : dxI 173 821 = some (.aload_n 0, 1) := by decide +kernel
theorem i173_822 : dxI 173 822 = some (.iload_n 3, 1) := by decide +kernel
theorem i173_823 : dxI 173 823 = some (.iconst 1, 1) := by decide +kernel
theorem i173_824 : dxI 173 824 = some (.iadd, 1) := by decide +kernel
theorem i173_825 : dxI 173 825 = some (.iaload, 1) := by decide +kernel
theorem i173_826 : dxI 173 826 = some (.aload_n 0, 1) := by decide +kernel
theorem i173_827 : dxI 173 827 = some (.iload_n 3, 1) := by decide +kernel
theorem i173_828 : dxI 173 828 = some (.iconst 2, 1) := by decide +kernel
theorem i173_829 : dxI 173 829 = some (.iadd, 1) := by decide +kernel
theorem i173_830 : dxI 173 830 = some (.iaload, 1) := by decide +kernel
theorem i173_831 : dxI 173 831 = some (.invokevirtual 108, 3) := by decide +kernel
theorem i173_834 : dxI 173 834 = some (.aload_n 2, 1) := by decide +kernel
theorem i173_835 : dxI 173 835 = some (.aload_n 0, 1) := by decide +kernel
theorem i173_836 : dxI 173 836 = some (.iload_n 3, 1) := by decide +kernel
theorem i173_837 : dxI 173 837 = some (.iconst 1, 1) := by decide +kernel
theorem i173_838 : dxI 173 838 = some (.iadd, 1) := by decide +kernel
theorem i173_839 : dxI 173 839 = some (.iaload, 1) := by decide +kernel
theorem i173_840 : dxI 173 840 = some (.aload_n 0, 1) := by decide +kernel
theorem i173_841 : dxI 173 841 = some (.iload_n 3, 1) := by decide +kernel
theorem i173_842 : dxI 173 842 = some (.iconst 2, 1) := by decide +kernel
theorem i173_843 : dxI 173 843 = some (.iadd, 1) := by decide +kernel
theorem i173_844 : dxI 173 844 = some (.iaload, 1) := by decide +kernel
theorem i173_845 : dxI 173 845 = some (.invokevirtual 111, 3) := by decide +kernel
theorem i173_848 : dxI 173 848 = some (.if_icmp .eq 210, 3) := by decide +kernel
theorem i173_851 : dxI 173 851 = some (.iconst 0, 1) := by decide +kernel
theorem i173_852 : dxI 173 852 = some (.ireturn, 1) := by decide +kernel
theorem i173_853 : dxI 173 853 = some (.aload_n 1, 1) := by decide +kernel
theorem i173_854 : dxI 173 854 = some (.aload_n 0, 1) := by decide +kernel
theorem i173_855 : dxI 173 855 = some (.iload_n 3, 1) := by decide +kernel
theorem i173_856 : dxI 173 856 = some (.iconst 1, 1) := by decide +kernel
theorem i173_857 : dxI 173 857 = some (.iadd, 1) := by decide +kernel
theorem i173_858 : dxI 173 858 = some (.iaload, 1) := by decide +kernel
theorem i173_859 : dxI 173 859 = some (.aload_n 0, 1) := by decide +kernel
theorem i173_860 : dxI 173 860 = some (.iload_n 3, 1) := by decide +kernel
theorem i173_861 : dxI 173 861 = some (.iconst 2, 1) := by decide +kernel
theorem i173_862 : dxI 173 862 = some (.iadd, 1) := by decide +kernel
theorem i173_863 : dxI 173 863 = some (.iaload, 1) := by decide +kernel
theorem i173_864 : dxI 173 864 = some (.aload_n 0, 1) := by decide +kernel
theorem i173_865 : dxI 173 865 = some (.iload_n 3, 1) := by decide +kernel
theorem i173_866 : dxI 173 866 = some (.iconst 3, 1) := by decide +kernel
theorem i173_867 : dxI 173 867 = some (.iadd, 1) := by decide +kernel
theorem i173_868 : dxI 173 868 = some (.iaload, 1) := by decide +kernel
theorem i173_869 : dxI 173 869 = some (.ifCond .eq 7, 3) := by decide +kernel
theorem i173_872 : dxI 173 872 = some (.iconst 1, 1) := by decide +kernel
theorem i173_873 : dxI 173 873 = some (.goto 4, 3) := by decide +kernel
theorem i173_876 : dxI 173 876 = some (.iconst 0, 1) := by decide +kernel
theorem i173_877 : dxI 173 877 = some (.invokevirtual 112, 3) := by decide +kernel
theorem i173_880 : dxI 173 880 = some (.aload_n 2, 1) := by decide +kernel
theorem i173_881 : dxI 173 881 = some (.aload_n 0, 1) := by decide +kernel
theorem i173_882 : dxI 173 882 = some (.iload_n 3, 1) := by decide +kernel
theorem i173_883 : dxI 173 883 = some (.iconst 1, 1) := by decide +kernel
theorem i173_884 : dxI 173 884 = some (.iadd, 1) := by decide +kernel
theorem i173_885 : dxI 173 885 = some (.iaload, 1) := by decide +kernel
theorem i173_886 : dxI 173 886 = some (.aload_n 0, 1) := by decide +kernel
theorem i173_887 : dxI 173 887 = some (.iload_n 3, 1) := by decide +kernel
theorem i173_888 : dxI 173 888 = some (.iconst 2, 1) := by decide +kernel
theorem i173_889 : dxI 173 889 = some (.iadd, 1) := by decide +kernel
theorem i173_890 : dxI 173 890 = some (.iaload, 1) := by decide +kernel
theorem i173_891 : dxI 173 891 = some (.aload_n 0, 1) := by decide +kernel
theorem i173_892 : dxI 173 892 = some (.iload_n 3, 1) := by decide +kernel
theorem i173_893 : dxI 173 893 = some (.iconst 3, 1) := by decide +kernel
theorem i173_894 : dxI 173 894 = some (.iadd, 1) := by decide +kernel
theorem i173_895 : dxI 173 895 = some (.iaload, 1) := by decide +kernel
theorem i173_896 : dxI 173 896 = some (.ifCond .eq 7, 3) := by decide +kernel
theorem i173_899 : dxI 173 899 = some (.iconst 1, 1) := by decide +kernel
theorem i173_900 : dxI 173 900 = some (.goto 4, 3) := by decide +kernel
theorem i173_903 : dxI 173 903 = some (.iconst 0, 1) := by decide +kernel
theorem i173_904 : dxI 173 904 = some (.invokevirtual 115, 3) := by decide +kernel
theorem i173_907 : dxI 173 907 = some (.if_icmp .eq 151, 3) := by decide +kernel
theorem i173_910 : dxI 173 910 = some (.iconst 0, 1) := by decide +kernel
theorem i173_911 : dxI 173 911 = some (.ireturn, 1) := by decide +kernel
theorem i173_912 : dxI 173 912 = some (.aload_n 1, 1) := by decide +kernel
theorem i173_913 : dxI 173 913 = some (.aload_n 0, 1) := by decide +kernel
theorem i173_914 : dxI 173 914 = some (.iload_n 3, 1) := by decide +kernel
theorem i173_915 : dxI 173 915 = some (.iconst 1, 1) := by decide +kernel
theorem i173_916 : dxI 173 916 = some (.iadd, 1) := by decide +kernel
theorem i173_917 : dxI 173 917 = some (.iaload, 1) := by decide +kernel
theorem i173_918 : dxI 173 918 = some (.i2l, 1) := by decide +kernel
theorem i173_919 : dxI 173 919 = some (.bipush 32, 2) := by decide +kernel
theorem i173_921 : dxI 173 921 = some (.lshl, 1) := by decide +kernel
theorem i173_922 : dxI 173 922 = some (.aload_n 0, 1) := by decide +kernel
theorem i173_923 : dxI 173 923 = some (.iload_n 3, 1) := by decide +kernel
theorem i173_924 : dxI 173 924 = some (.iconst 2, 1) := by decide +kernel
theorem i173_925 : dxI 173 925 = some (.iadd, 1) := by decide +kernel
theorem i173_926 : dxI 173 926 = some (.iaload, 1) := by decide +kernel
theorem i173_927 : dxI 173 927 = some (.i2l, 1) := by decide +kernel
theorem i173_928 : dxI 173 928 = some (.ldc2_w 116, 3) := by decide +kernel
theorem i173_931 : dxI 173 931 = some (.land, 1) := by decide +kernel
theorem i173_932 : dxI 173 932 = some (.lor, 1) := by decide +kernel
theorem i173_933 : dxI 173 933 = some (.invokevirtual 118, 3) := by decide +kernel
theorem i173_936 : dxI 173 936 = some (.aload_n 2, 1) := by decide +kernel
theorem i173_937 : dxI 173 937 = some (.aload_n 0, 1) := by decide +kernel
theorem i173_938 : dxI 173 938 = some (.iload_n 3, 1) := by decide +kernel
theorem i173_939 : dxI 173 939 = some (.iconst 1, 1) := by decide +kernel
theorem i173_940 : dxI 173 940 = some (.iadd, 1) := by decide +kernel
theorem i173_941 : dxI 173 941 = some (.iaload, 1) := by decide +kernel
theorem i173_942 : dxI 173 942 = some (.i2l, 1) := by decide +kernel
theorem i173_943 : dxI 173 943 = some (.bipush 32, 2) := by decide +kernel
theorem i173_945 : dxI 173 945 = some (.lshl, 1) := by decide +kernel
theorem i173_946 : dxI 173 946 = some (.aload_n 0, 1) := by decide +kernel
theorem i173_947 : dxI 173 947 = some (.iload_n 3, 1) := by decide +kernel
theorem i173_948 : dxI 173 948 = some (.iconst 2, 1) := by decide +kernel
theorem i173_949 : dxI 173 949 = some (.iadd, 1) := by decide +kernel
theorem i173_950 : dxI 173 950 = some (.iaload, 1) := by decide +kernel
theorem i173_951 : dxI 173 951 = some (.i2l, 1) := by decide +kernel
theorem i173_952 : dxI 173 952 = some (.ldc2_w 116, 3) := by decide +kernel
theorem i173_955 : dxI 173 955 = some (.land, 1) := by decide +kernel
theorem i173_956 : dxI 173 956 = some (.lor, 1) := by decide +kernel
theorem i173_957 : dxI 173 957 = some (.invokevirtual 122, 3) := by decide +kernel
theorem i173_960 : dxI 173 960 = some (.lcmp, 1) := by decide +kernel
theorem i173_961 : dxI 173 961 = some (.ifCond .eq 97, 3) := by decide +kernel
theorem i173_964 : dxI 173 964 = some (.iconst 0, 1) := by decide +kernel
theorem i173_965 : dxI 173 965 = some (.ireturn, 1) := by decide +kernel
theorem i173_966 : dxI 173 966 = some (.aload_n 1, 1) := by decide +kernel
theorem i173_967 : dxI 173 967 = some (.aload_n 0, 1) := by decide +kernel
theorem i173_968 : dxI 173 968 = some (.iload_n 3, 1) := by decide +kernel
theorem i173_969 : dxI 173 969 = some (.iconst 1, 1) := by decide +kernel
theorem i173_970 : dxI 173 970 = some (.iadd, 1) := by decide +kernel
theorem i173_971 : dxI 173 971 = some (.iaload, 1) := by decide +kernel
theorem i173_972 : dxI 173 972 = some (.invokevirtual 123, 3) := by decide +kernel
theorem i173_975 : dxI 173 975 = some (.aload_n 2, 1) := by decide +kernel
theorem i173_976 : dxI 173 976 = some (.aload_n 0, 1) := by decide +kernel
theorem i173_977 : dxI 173 977 = some (.iload_n 3, 1) := by decide +kernel
theorem i173_978 : dxI 173 978 = some (.iconst 1, 1) := by decide +kernel
theorem i173_979 : dxI 173 979 = some (.iadd, 1) := by decide +kernel
theorem i173_980 : dxI 173 980 = some (.iaload, 1) := by decide +kernel
theorem i173_981 : dxI 173 981 = some (.invokevirtual 126, 3) := by decide +kernel
theorem i173_984 : dxI 173 984 = some (.if_icmp .eq 74, 3) := by decide +kernel
theorem i173_987 : dxI 173 987 = some (.iconst 0, 1) := by decide +kernel
theorem i173_988 : dxI 173 988 = some (.ireturn, 1) := by decide +kernel
theorem i173_989 : dxI 173 989 = some (.aload_n 1, 1) := by decide +kernel
theorem i173_990 : dxI 173 990 = some (.aload_n 0, 1) := by decide +kernel
theorem i173_991 : dxI 173 991 = some (.iload_n 3, 1) := by decide +kernel
theorem i173_992 : dxI 173 992 = some (.iconst 1, 1) := by decide +kernel
theorem i173_993 : dxI 173 993 = some (.iadd, 1) := by decide +kernel
theorem i173_994 : dxI 173 994 = some (.iaload, 1) := by decide +kernel
theorem i173_995 : dxI 173 995 = some (.invokevirtual 127, 3) := by decide +kernel
theorem i173_998 : dxI 173 998 = some (.aload_n 2, 1) := by decide +kernel
theorem i173_999 : dxI 173 999 = some (.aload_n 0, 1) := by decide +kernel
theorem i173_1000 : dxI 173 1000 = some (.iload_n 3, 1) := by decide +kernel
theorem i173_1001 : dxI 173 1001 = some (.iconst 1, 1) := by decide +kernel
theorem i173_1002 : dxI 173 1002 = some (.iadd, 1) := by decide +kernel
theorem i173_1003 : dxI 173 1003 = some (.iaload, 1) := by decide +kernel
theorem i173_1004 : dxI 173 1004 = some (.invokevirtual 130, 3) := by decide +kernel
theorem i173_1007 : dxI 173 1007 = some (.if_icmp .eq 51, 3) := by decide +kernel
theorem i173_1010 : dxI 173 1010 = some (.iconst 0, 1) := by decide +kernel
theorem i173_1011 : dxI 173 1011 = some (.ireturn, 1) := by decide +kernel
theorem i173_1012 : dxI 173 1012 = some (.aload_n 1, 1) := by decide +kernel
theorem i173_1013 : dxI 173 1013 = some (.aload_n 0, 1) := by decide +kernel
theorem i173_1014 : dxI 173 1014 = some (.iload_n 3, 1) := by decide +kernel
theorem i173_1015 : dxI 173 1015 = some (.iconst 1, 1) := by decide +kernel
theorem i173_1016 : dxI 173 1016 = some (.iadd, 1) := by decide +kernel
theorem i173_1017 : dxI 173 1017 = some (.iaload, 1) := by decide +kernel
theorem i173_1018 : dxI 173 1018 = some (.invokevirtual 131, 3) := by decide +kernel
theorem i173_1021 : dxI 173 1021 = some (.aload_n 2, 1) := by decide +kernel
theorem i173_1022 : dxI 173 1022 = some (.aload_n 0, 1) := by decide +kernel
theorem i173_1023 : dxI 173 1023 = some (.iload_n 3, 1) := by decide +kernel
theorem i173_1024 : dxI 173 1024 = some (.iconst 1, 1) := by decide +kernel
theorem i173_1025 : dxI 173 1025 = some (.iadd, 1) := by decide +kernel
theorem i173_1026 : dxI 173 1026 = some (.iaload, 1) := by decide +kernel
theorem i173_1027 : dxI 173 1027 = some (.invokevirtual 134, 3) := by decide +kernel
theorem i173_1030 : dxI 173 1030 = some (.if_icmp .eq 28, 3) := by decide +kernel
theorem i173_1033 : dxI 173 1033 = some (.iconst 0, 1) := by decide +kernel
theorem i173_1034 : dxI 173 1034 = some (.ireturn, 1) := by decide +kernel
theorem i173_1035 : dxI 173 1035 = some (.aload_n 1, 1) := by decide +kernel
theorem i173_1036 : dxI 173 1036 = some (.aload_n 0, 1) := by decide +kernel
theorem i173_1037 : dxI 173 1037 = some (.iload_n 3, 1) := by decide +kernel
theorem i173_1038 : dxI 173 1038 = some (.iconst 1, 1) := by decide +kernel
theorem i173_1039 : dxI 173 1039 = some (.iadd, 1) := by decide +kernel
theorem i173_1040 : dxI 173 1040 = some (.iaload, 1) := by decide +kernel
theorem i173_1041 : dxI 173 1041 = some (.invokevirtual 135, 3) := by decide +kernel
theorem i173_1044 : dxI 173 1044 = some (.aload_n 2, 1) := by decide +kernel
theorem i173_1045 : dxI 173 1045 = some (.aload_n 0, 1) := by decide +kernel
theorem i173_1046 : dxI 173 1046 = some (.iload_n 3, 1) := by decide +kernel
theorem i173_1047 : dxI 173 1047 = some (.iconst 1, 1) := by decide +kernel
theorem i173_1048 : dxI 173 1048 = some (.iadd, 1) := by decide +kernel
theorem i173_1049 : dxI 173 1049 = some (.iaload, 1) := by decide +kernel
theorem i173_1050 : dxI 173 1050 = some (.invokevirtual 138, 3) := by decide +kernel
theorem i173_1053 : dxI 173 1053 = some (.if_icmp .eq 5, 3) := by decide +kernel
theorem i173_1056 : dxI 173 1056 = some (.iconst 0, 1) := by decide +kernel
theorem i173_1057 : dxI 173 1057 = some (.ireturn, 1) := by decide +kernel
theorem i173_1058 : dxI 173 1058 = some (.iinc 3 5, 3) := by decide +kernel
theorem i173_1061 : dxI 173 1061 = some (.goto (-1043), 3) := by decide +kernel
theorem i173_1064 : dxI 173 1064 = some (.iconst 1, 1) := by decide +kernel
theorem i173_1065 : dxI 173 1065 = some (.ireturn, 1) := by decide +kernel
end
section
theorem np0 : dxNp 0 = 1 := by decide +kernel
theorem np1 : dxNp 1 = 0 := by decide +kernel
theorem np2 : dxNp 2 = 0 := by decide +kernel
theorem np3 : dxNp 3 = 1 := by decide +kernel
theorem np4 : dxNp 4 = 1 := by decide +kernel
theorem np5 : dxNp 5 = 0 := by decide +kernel
theorem np6 : dxNp 6 = 2 := by decide +kernel
theorem np7 : dxNp 7 = 2 := by decide +kernel
theorem np8 : dxNp 8 = 1 := by decide +kernel
theorem np9 : dxNp 9 = 0 := by decide +kernel
theorem np10 : dxNp 10 = 1 := by decide +kernel
theorem np11 : dxNp 11 = 0 := by decide +kernel
theorem np12 : dxNp 12 = 0 := by decide +kernel
theorem np13 : dxNp 13 = 2 := by decide +kernel
theorem np14 : dxNp 14 = 0 := by decide +kernel
theorem np15 : dxNp 15 = 1 := by decide +kernel
theorem np16 : dxNp 16 = 1 := by decide +kernel
theorem np17 : dxNp 17 = 1 := by decide +kernel
theorem np18 : dxNp 18 = 1 := by decide +kernel
theorem np19 : dxNp 19 = 0 := by decide +kernel
theorem np20 : dxNp 20 = 1 := by decide +kernel
theorem np21 : dxNp 21 = 4 := by decide +kernel
theorem np22 : dxNp 22 = 1 := by decide +kernel
theorem np23 : dxNp 23 = 1 := by decide +kernel
theorem np24 : dxNp 24 = 2 := by decide +kernel
theorem np25 : dxNp 25 = 1 := by decide +kernel
theorem np26 : dxNp 26 = 1 := by decide +kernel
theorem np27 : dxNp 27 = 2 := by decide +kernel
theorem np28 : dxNp 28 = 2 := by decide +kernel
theorem np29 : dxNp 29 = 1 := by decide +kernel
theorem np30 : dxNp 30 = 1 := by decide +kernel
theorem np31 : dxNp 31 = 1 := by decide +kernel
theorem np32 : dxNp 32 = 2 := by decide +kernel
theorem np33 : dxNp 33 = 1 := by decide +kernel
theorem np34 : dxNp 34 = 1 := by decide +kernel
theorem np35 : dxNp 35 = 0 := by decide +kernel
theorem np36 : dxNp 36 = 1 := by decide +kernel
theorem np37 : dxNp 37 = 1 := by decide +kernel
theorem np38 : dxNp 38 = 0 := by decide +kernel
theorem np39 : dxNp 39 = 0 := by decide +kernel
theorem np40 : dxNp 40 = 1 := by decide +kernel
theorem np41 : dxNp 41 = 1 := by decide +kernel
theorem np42 : dxNp 42 = 1 := by decide +kernel
theorem np43 : dxNp 43 = 1 := by decide +kernel
theorem np44 : dxNp 44 = 2 := by decide +kernel
theorem np45 : dxNp 45 = 1 := by decide +kernel
theorem np46 : dxNp 46 = 0 := by decide +kernel
theorem np47 : dxNp 47 = 0 := by decide +kernel
theorem np48 : dxNp 48 = 0 := by decide +kernel
theorem np49 : dxNp 49 = 0 := by decide +kernel
theorem np50 : dxNp 50 = 0 := by decide +kernel
theorem np51 : dxNp 51 = 1 := by decide +kernel
theorem np52 : dxNp 52 = 1 := by decide +kernel
theorem np53 : dxNp 53 = 1 := by decide +kernel
theorem np54 : dxNp 54 = 0 := by decide +kernel
theorem np55 : dxNp 55 = 4 := by decide +kernel
theorem np56 : dxNp 56 = 1 := by decide +kernel
theorem np57 : dxNp 57 = 2 := by decide +kernel
theorem np58 : dxNp 58 = 1 := by decide +kernel
theorem np59 : dxNp 59 = 2 := by decide +kernel
theorem np60 : dxNp 60 = 2 := by decide +kernel
theorem np61 : dxNp 61 = 0 := by decide +kernel
theorem np62 : dxNp 62 = 0 := by decide +kernel
theorem np63 : dxNp 63 = 0 := by decide +kernel
theorem np64 : dxNp 64 = 3 := by decide +kernel
theorem np65 : dxNp 65 = 2 := by decide +kernel
theorem np66 : dxNp 66 = 0 := by decide +kernel
theorem np67 : dxNp 67 = 1 := by decide +kernel
theorem np68 : dxNp 68 = 0 := by decide +kernel
theorem np69 : dxNp 69 = 0 := by decide +kernel
theorem np70 : dxNp 70 = 0 := by decide +kernel
theorem np71 : dxNp 71 = 1 := by decide +kernel
theorem np72 : dxNp 72 = 2 := by decide +kernel
theorem np73 : dxNp 73 = 1 := by decide +kernel
theorem np74 : dxNp 74 = 2 := by decide +kernel
theorem np75 : dxNp 75 = 1 := by decide +kernel
theorem np76 : dxNp 76 = 0 := by decide +kernel
theorem np77 : dxNp 77 = 0 := by decide +kernel
theorem np78 : dxNp 78 = 1 := by decide +kernel
theorem np79 : dxNp 79 = 1 := by decide +kernel
theorem np80 : dxNp 80 = 2 := by decide +kernel
theorem np81 : dxNp 81 = 4 := by decide +kernel
theorem np82 : dxNp 82 = 2 := by decide +kernel
theorem np83 : dxNp 83 = 2 := by decide +kernel
theorem np84 : dxNp 84 = 3 := by decide +kernel
theorem np85 : dxNp 85 = 2 := by decide +kernel
theorem np86 : dxNp 86 = 3 := by decide +kernel
theorem np87 : dxNp 87 = 0 := by decide +kernel
theorem np88 : dxNp 88 = 1 := by decide +kernel
theorem np89 : dxNp 89 = 2 := by decide +kernel
theorem np90 : dxNp 90 = 3 := by decide +kernel
theorem np91 : dxNp 91 = 1 := by decide +kernel
theorem np92 : dxNp 92 = 1 := by decide +kernel
theorem np93 : dxNp 93 = 1 := by decide +kernel
theorem np94 : dxNp 94 = 1 := by decide +kernel
theorem np95 : dxNp 95 = 1 := by decide +kernel
theorem np96 : dxNp 96 = 1 := by decide +kernel
theorem np97 : dxNp 97 = 1 := by decide +kernel
theorem np98 : dxNp 98 = 1 := by decide +kernel
theorem np99 : dxNp 99 = 1 := by decide +kernel
theorem np100 : dxNp 100 = 1 := by decide +kernel
theorem np101 : dxNp 101 = 1 := by decide +kernel
theorem np102 : dxNp 102 = 2 := by decide +kernel
theorem np103 : dxNp 103 = 3 := by decide +kernel
theorem np104 : dxNp 104 = 2 := by decide +kernel
theorem np105 : dxNp 105 = 3 := by decide +kernel
theorem np106 : dxNp 106 = 2 := by decide +kernel
theorem np107 : dxNp 107 = 0 := by decide +kernel
theorem np108 : dxNp 108 = 1 := by decide +kernel
theorem np109 : dxNp 109 = 3 := by decide +kernel
theorem np110 : dxNp 110 = 4 := by decide +kernel
theorem np111 : dxNp 111 = 3 := by decide +kernel
theorem np112 : dxNp 112 = 2 := by decide +kernel
theorem np113 : dxNp 113 = 1 := by decide +kernel
theorem np114 : dxNp 114 = 2 := by decide +kernel
theorem np115 : dxNp 115 = 1 := by decide +kernel
theorem np116 : dxNp 116 = 0 := by decide +kernel
theorem np117 : dxNp 117 = 3 := by decide +kernel
theorem np118 : dxNp 118 = 2 := by decide +kernel
theorem np119 : dxNp 119 = 1 := by decide +kernel
theorem np120 : dxNp 120 = 1 := by decide +kernel
theorem np121 : dxNp 121 = 0 := by decide +kernel
theorem np122 : dxNp 122 = 2 := by decide +kernel
theorem np123 : dxNp 123 = 1 := by decide +kernel
theorem np124 : dxNp 124 = 0 := by decide +kernel
theorem np125 : dxNp 125 = 0 := by decide +kernel
theorem np126 : dxNp 126 = 0 := by decide +kernel
theorem np127 : dxNp 127 = 0 := by decide +kernel
theorem np128 : dxNp 128 = 1 := by decide +kernel
theorem np129 : dxNp 129 = 1 := by decide +kernel
theorem np130 : dxNp 130 = 2 := by decide +kernel
theorem np131 : dxNp 131 = 2 := by decide +kernel
theorem np132 : dxNp 132 = 2 := by decide +kernel
theorem np133 : dxNp 133 = 3 := by decide +kernel
theorem np134 : dxNp 134 = 2 := by decide +kernel
theorem np135 : dxNp 135 = 3 := by decide +kernel
theorem np136 : dxNp 136 = 0 := by decide +kernel
theorem np137 : dxNp 137 = 1 := by decide +kernel
theorem np138 : dxNp 138 = 1 := by decide +kernel
theorem np139 : dxNp 139 = 2 := by decide +kernel
theorem np140 : dxNp 140 = 1 := by decide +kernel
theorem np141 : dxNp 141 = 0 := by decide +kernel
theorem np142 : dxNp 142 = 0 := by decide +kernel
theorem np143 : dxNp 143 = 0 := by decide +kernel
theorem np144 : dxNp 144 = 1 := by decide +kernel
theorem np145 : dxNp 145 = 3 := by decide +kernel
theorem np146 : dxNp 146 = 1 := by decide +kernel
theorem np147 : dxNp 147 = 2 := by decide +kernel
theorem np148 : dxNp 148 = 2 := by decide +kernel
theorem np149 : dxNp 149 = 1 := by decide +kernel
theorem np150 : dxNp 150 = 4 := by decide +kernel
theorem np151 : dxNp 151 = 3 := by decide +kernel
theorem np152 : dxNp 152 = 2 := by decide +kernel
theorem np153 : dxNp 153 = 1 := by decide +kernel
theorem np154 : dxNp 154 = 2 := by decide +kernel
theorem np155 : dxNp 155 = 1 := by decide +kernel
theorem np156 : dxNp 156 = 2 := by decide +kernel
theorem np157 : dxNp 157 = 3 := by decide +kernel
theorem np158 : dxNp 158 = 2 := by decide +kernel
theorem np159 : dxNp 159 = 3 := by decide +kernel
theorem np160 : dxNp 160 = 0 := by decide +kernel
theorem np161 : dxNp 161 = 2 := by decide +kernel
theorem np162 : dxNp 162 = 1 := by decide +kernel
theorem np163 : dxNp 163 = 1 := by decide +kernel
theorem np164 : dxNp 164 = 2 := by decide +kernel
theorem np165 : dxNp 165 = 2 := by decide +kernel
theorem np166 : dxNp 166 = 3 := by decide +kernel
theorem np167 : dxNp 167 = 1 := by decide +kernel
theorem np168 : dxNp 168 = 1 := by decide +kernel
theorem np169 : dxNp 169 = 1 := by decide +kernel
theorem np170 : dxNp 170 = 1 := by decide +kernel
theorem np171 : dxNp 171 = 1 := by decide +kernel
theorem np172 : dxNp 172 = 1 := by decide +kernel
theorem np173 : dxNp 173 = 1 := by decide +kernel
end
section
/-! rules over numbers and truth values; the frame -/
def bI (b : Bool) : Int32 := match b with
  | true => 1
  | false => 0
theorem bI_and (b : Bool) : bI b &&& 1 = bI b := by cases b <;> decide
theorem bI_t : bI true = nI 1 := by decide
theorem bI_f : bI false = nI 0 := by decide
theorem bI_nI (b : Bool) : bI b = nI (if b = true then 1 else 0) := by cases b <;> decide
theorem nI_mul (a b : Nat) : nI a * nI b = nI (a * b) := (Int32.ofNat_mul a b).symm
theorem nI_sub {a b : Nat} (h : b ≤ a) : nI a - nI b = nI (a - b) := by
  have h1 := nI_add (a - b) b
  rw [Nat.sub_add_cancel h] at h1
  rw [← h1, Int32.add_sub_cancel]
theorem nI_div {a b : Nat} (ha : a < 2 ^ 31) (hb : b < 2 ^ 31) (h0 : 0 < b) : nI a / nI b = nI (a / b) := by
  apply Int32.toInt_inj.mp
  have h1 : a / b < 2 ^ 31 := Nat.lt_of_le_of_lt (Nat.div_le_self a b) ha
  rw [lg_idiv_nonneg (by rw [nI_toInt ha]; omega) (by rw [nI_toInt hb]; omega), nI_toInt ha, nI_toInt hb, nI_toInt h1]
  rfl
theorem nI_rem {a b : Nat} (ha : a < 2 ^ 31) (hb : b < 2 ^ 31) (h0 : 0 < b) : nI a - nI a / nI b * nI b = nI (a % b) := by
  rw [nI_div ha hb h0, nI_mul, nI_sub (Nat.div_mul_le_self a b), Nat.mod_eq_sub_div_mul]
theorem dxIn_n {j m : Nat} (h : j < m ∧ m < 2147483648) : dxIn (nI j) m = true := by
  unfold dxIn
  exact decide_eq_true (vp_in_nI h.1 h.2)
theorem set_self {H : dxH} {a : Nat} {e0 e : dxE} (h : H[a]? = some e0) : (H.set a e)[a]? = some e := List.getElem?_set_self (List.getElem?_eq_some_iff.mp h).1
theorem set_ne {H : dxH} {a b : Nat} {e0 e : dxE} (h : H[b]? = some e0) (hab : a ≠ b) : (H.set a e)[b]? = some e0 := by rw [List.getElem?_set_ne hab]; exact h
/-- all cells but those of A are as they were -/
def Off (A : Nat → Prop) (H H' : dxH) : Prop := H'.length = H.length ∧ ∀ j, ¬ A j → H'[j]? = H[j]?
theorem Off.rf {A : Nat → Prop} {H : dxH} : Off A H H := ⟨rfl, fun _ _ => rfl⟩
theorem Off.set {A : Nat → Prop} {H H' : dxH} {a : Nat} {e : dxE} (h : Off A H H') (ha : A a) : Off A H (H'.set a e) := ⟨by rw [List.length_set]; exact h.1, fun j hj => by
  rw [List.getElem?_set_ne (show a ≠ j from fun q => hj (by rw [← q]; exact ha))]
  exact h.2 j hj⟩
theorem Off.trans {A B C : Nat → Prop} {H H1 H2 : dxH} (h1 : Off A H H1) (h2 : Off B H1 H2) (ha : ∀ j, A j → C j) (hb : ∀ j, B j → C j) : Off C H H2 := ⟨h2.1.trans h1.1, fun j hj => (h2.2 j (fun q => hj (hb j q))).trans (h1.2 j (fun q => hj (ha j q)))⟩
theorem Off.weaken {A C : Nat → Prop} {H H1 : dxH} (h1 : Off A H H1) (ha : ∀ j, A j → C j) : Off C H H1 := ⟨h1.1, fun j hj => h1.2 j (fun q => hj (ha j q))⟩
theorem Off.at {A : Nat → Prop} {H H1 : dxH} {j : Nat} {e : dxE} (h : Off A H H1) (hj : H[j]? = some e) (hA : ¬ A j) : H1[j]? = some e := (h.2 j hA).trans hj
section EVN
variable {tb : dxT} {k pc : Nat} {L L' : dxL} {S S' : List Value} {H H' : dxH} {Q : Option Value → dxH → Prop} {i : Instr} {n pc' : Nat}
theorem evn_iadd {a b : Nat} (hI : dxI k pc = some (.iadd, 1)) (kk : Ev tb k (pc + 1) L (.int (nI (a + b)) :: S) H Q) : Ev tb k pc L (.int (nI b) :: .int (nI a) :: S) H Q := ev_iadd hI (by rw [nI_add]; exact kk)
theorem evn_isub {a b : Nat} (hI : dxI k pc = some (.isub, 1)) (h : b ≤ a) (kk : Ev tb k (pc + 1) L (.int (nI (a - b)) :: S) H Q) : Ev tb k pc L (.int (nI b) :: .int (nI a) :: S) H Q := ev_isub hI (by rw [nI_sub h]; exact kk)
theorem evn_imul {a b : Nat} (hI : dxI k pc = some (.imul, 1)) (kk : Ev tb k (pc + 1) L (.int (nI (a * b)) :: S) H Q) : Ev tb k pc L (.int (nI b) :: .int (nI a) :: S) H Q := ev_imul hI (by rw [nI_mul]; exact kk)
theorem evn_idiv {a b : Nat} (hI : dxI k pc = some (.idiv, 1)) (h : a < 2147483648 ∧ b < 2147483648 ∧ 0 < b) (kk : Ev tb k (pc + 1) L (.int (nI (a / b)) :: S) H Q) : Ev tb k pc L (.int (nI b) :: .int (nI a) :: S) H Q := ev_idiv hI (nI_ne0 h.2.2 h.2.1) (by rw [nI_div h.1 h.2.1 h.2.2]; exact kk)
theorem evn_irem {a b : Nat} (hI : dxI k pc = some (.irem, 1)) (h : a < 2147483648 ∧ b < 2147483648 ∧ 0 < b) (kk : Ev tb k (pc + 1) L (.int (nI (a % b)) :: S) H Q) : Ev tb k pc L (.int (nI b) :: .int (nI a) :: S) H Q := ev_irem hI (nI_ne0 h.2.2 h.2.1) (by rw [nI_rem h.1 h.2.1 h.2.2]; exact kk)
theorem evn_iinc {j : Nat} {d a : Nat} (hI : dxI k pc = some (.iinc j d, 3)) (hl : L[j]? = some (some (.int (nI a)))) (hn : dxNo2 L j = true) (hd : Int32.ofInt d = nI d) (hL : L.set j (some (.int (nI (a + d)))) = L') (kk : Ev tb k (pc + 3) L' S H Q) : Ev tb k pc L S H Q := ev_iinc (v := nI (a + d)) hI hl hn (by rw [hd, nI_add]) hL kk
theorem evn_icmp_eq {o : Int} {t a b : Nat} (hI : dxI k pc = some (.if_icmp .eq o, 3)) (ht : (pc : Int) + o = (t : Int)) (h : a < 2147483648 ∧ b < 2147483648) (kt : a = b → Ev tb k t L S H Q) (kf : ¬ a = b → Ev tb k (pc + 3) L S H Q) : Ev tb k pc L (.int (nI b) :: .int (nI a) :: S) H Q := ev_icmp_eq hI ht (fun q => kt ((nI_eq h.1 h.2).mp q)) (fun q => kf (fun z => q ((nI_eq h.1 h.2).mpr z)))
theorem evn_icmp_ne {o : Int} {t a b : Nat} (hI : dxI k pc = some (.if_icmp .ne o, 3)) (ht : (pc : Int) + o = (t : Int)) (h : a < 2147483648 ∧ b < 2147483648) (kt : ¬ a = b → Ev tb k t L S H Q) (kf : a = b → Ev tb k (pc + 3) L S H Q) : Ev tb k pc L (.int (nI b) :: .int (nI a) :: S) H Q := ev_icmp_ne hI ht (fun q => kt ((not_congr (nI_eq h.1 h.2)).mp q)) (fun q => kf ((nI_eq h.1 h.2).mp q))
theorem evn_icmp_lt {o : Int} {t a b : Nat} (hI : dxI k pc = some (.if_icmp .lt o, 3)) (ht : (pc : Int) + o = (t : Int)) (h : a < 2147483648 ∧ b < 2147483648) (kt : a < b → Ev tb k t L S H Q) (kf : ¬ a < b → Ev tb k (pc + 3) L S H Q) : Ev tb k pc L (.int (nI b) :: .int (nI a) :: S) H Q := ev_icmp_lt hI ht (fun q => kt ((nI_ltI h.1 h.2).mp q)) (fun q => kf (fun z => q ((nI_ltI h.1 h.2).mpr z)))
theorem evn_icmp_ge {o : Int} {t a b : Nat} (hI : dxI k pc = some (.if_icmp .ge o, 3)) (ht : (pc : Int) + o = (t : Int)) (h : a < 2147483648 ∧ b < 2147483648) (kt : b ≤ a → Ev tb k t L S H Q) (kf : ¬ b ≤ a → Ev tb k (pc + 3) L S H Q) : Ev tb k pc L (.int (nI b) :: .int (nI a) :: S) H Q := ev_icmp_ge hI ht (fun q => kt ((nI_leI h.2 h.1).mp q)) (fun q => kf (fun z => q ((nI_leI h.2 h.1).mpr z)))
theorem evn_icmp_gt {o : Int} {t a b : Nat} (hI : dxI k pc = some (.if_icmp .gt o, 3)) (ht : (pc : Int) + o = (t : Int)) (h : a < 2147483648 ∧ b < 2147483648) (kt : b < a → Ev tb k t L S H Q) (kf : ¬ b < a → Ev tb k (pc + 3) L S H Q) : Ev tb k pc L (.int (nI b) :: .int (nI a) :: S) H Q := ev_icmp_gt hI ht (fun q => kt ((nI_ltI h.2 h.1).mp q)) (fun q => kf (fun z => q ((nI_ltI h.2 h.1).mpr z)))
theorem evn_icmp_le {o : Int} {t a b : Nat} (hI : dxI k pc = some (.if_icmp .le o, 3)) (ht : (pc : Int) + o = (t : Int)) (h : a < 2147483648 ∧ b < 2147483648) (kt : a ≤ b → Ev tb k t L S H Q) (kf : ¬ a ≤ b → Ev tb k (pc + 3) L S H Q) : Ev tb k pc L (.int (nI b) :: .int (nI a) :: S) H Q := ev_icmp_le hI ht (fun q => kt ((nI_leI h.1 h.2).mp q)) (fun q => kf (fun z => q ((nI_leI h.1 h.2).mpr z)))
theorem nI_eq0 {a : Nat} (h : a < 2147483648) : nI a = 0 ↔ a = 0 := by rw [← nI_0]; exact nI_eq h (by decide)
theorem nI_lt0 {a : Nat} (h : a < 2147483648) : nI a < 0 ↔ False := ⟨fun q => absurd q (nI_pos h), fun q => q.elim⟩
theorem nI_le0 {a : Nat} (h : a < 2147483648) : nI a ≤ 0 ↔ a = 0 := by rw [← nI_0, nI_leI h (by decide)]; omega
theorem nI_0lt {a : Nat} (h : a < 2147483648) : 0 < nI a ↔ 0 < a := by rw [← nI_0]; exact nI_ltI (by decide) h
theorem evn_if_eq {o : Int} {t a : Nat} (hI : dxI k pc = some (.ifCond .eq o, 3)) (ht : (pc : Int) + o = (t : Int)) (h : a < 2147483648) (kt : a = 0 → Ev tb k t L S H Q) (kf : ¬ a = 0 → Ev tb k (pc + 3) L S H Q) : Ev tb k pc L (.int (nI a) :: S) H Q := ev_if_eq hI ht (fun q => kt ((nI_eq0 h).mp q)) (fun q => kf (fun z => q ((nI_eq0 h).mpr z)))
theorem evn_if_ne {o : Int} {t a : Nat} (hI : dxI k pc = some (.ifCond .ne o, 3)) (ht : (pc : Int) + o = (t : Int)) (h : a < 2147483648) (kt : ¬ a = 0 → Ev tb k t L S H Q) (kf : a = 0 → Ev tb k (pc + 3) L S H Q) : Ev tb k pc L (.int (nI a) :: S) H Q := ev_if_ne hI ht (fun q => kt (fun z => q ((nI_eq0 h).mpr z))) (fun q => kf ((nI_eq0 h).mp q))
theorem evn_if_le {o : Int} {t a : Nat} (hI : dxI k pc = some (.ifCond .le o, 3)) (ht : (pc : Int) + o = (t : Int)) (h : a < 2147483648) (kt : a = 0 → Ev tb k t L S H Q) (kf : 0 < a → Ev tb k (pc + 3) L S H Q) : Ev tb k pc L (.int (nI a) :: S) H Q := ev_if_le hI ht (fun q => kt ((nI_le0 h).mp q)) (fun q => kf (Nat.pos_of_ne_zero fun z => q ((nI_le0 h).mpr z)))
theorem evn_if_gt {o : Int} {t a : Nat} (hI : dxI k pc = some (.ifCond .gt o, 3)) (ht : (pc : Int) + o = (t : Int)) (h : a < 2147483648) (kt : 0 < a → Ev tb k t L S H Q) (kf : a = 0 → Ev tb k (pc + 3) L S H Q) : Ev tb k pc L (.int (nI a) :: S) H Q := ev_if_gt hI ht (fun q => kt ((nI_0lt h).mp q)) (fun q => kf (by rcases Nat.eq_zero_or_pos a with z | z; exact z; exact absurd ((nI_0lt h).mpr z) q))
theorem evn_if_lt {o : Int} {t a : Nat} (hI : dxI k pc = some (.ifCond .lt o, 3)) (ht : (pc : Int) + o = (t : Int)) (h : a < 2147483648) (kf : Ev tb k (pc + 3) L S H Q) : Ev tb k pc L (.int (nI a) :: S) H Q := ev_if_lt hI ht (fun q => absurd q (nI_pos h)) (fun _ => kf)
theorem evn_if_ge {o : Int} {t a : Nat} (hI : dxI k pc = some (.ifCond .ge o, 3)) (ht : (pc : Int) + o = (t : Int)) (h : a < 2147483648) (kt : Ev tb k t L S H Q) : Ev tb k pc L (.int (nI a) :: S) H Q := ev_if_ge hI ht (fun _ => kt) (fun q => absurd (nI_pos' h) q)
theorem evb_if_eq {o : Int} {t : Nat} {b : Bool} (hI : dxI k pc = some (.ifCond .eq o, 3)) (ht : (pc : Int) + o = (t : Int)) (kt : b = false → Ev tb k t L S H Q) (kf : b = true → Ev tb k (pc + 3) L S H Q) : Ev tb k pc L (.int (bI b) :: S) H Q := by
  cases b with
  | true => exact ev_if_eq hI ht (fun q => absurd q (by decide)) (fun _ => kf rfl)
  | false => exact ev_if_eq hI ht (fun _ => kt rfl) (fun q => absurd rfl q)
theorem evb_if_ne {o : Int} {t : Nat} {b : Bool} (hI : dxI k pc = some (.ifCond .ne o, 3)) (ht : (pc : Int) + o = (t : Int)) (kt : b = true → Ev tb k t L S H Q) (kf : b = false → Ev tb k (pc + 3) L S H Q) : Ev tb k pc L (.int (bI b) :: S) H Q := by
  cases b with
  | true => exact ev_if_ne hI ht (fun _ => kt rfl) (fun q => absurd q (by decide))
  | false => exact ev_if_ne hI ht (fun q => absurd rfl q) (fun _ => kf rfl)
theorem evd_if_eq {o : Int} {t : Nat} {p : Prop} {hp : Decidable p} (hI : dxI k pc = some (.ifCond .eq o, 3)) (ht : (pc : Int) + o = (t : Int)) (kt : ¬ p → Ev tb k t L S H Q) (kf : p → Ev tb k (pc + 3) L S H Q) : Ev tb k pc L (.int (bI (decide p)) :: S) H Q := evb_if_eq hI ht (fun q => kt (of_decide_eq_false q)) (fun q => kf (of_decide_eq_true q))
theorem evd_if_ne {o : Int} {t : Nat} {p : Prop} {hp : Decidable p} (hI : dxI k pc = some (.ifCond .ne o, 3)) (ht : (pc : Int) + o = (t : Int)) (kt : p → Ev tb k t L S H Q) (kf : ¬ p → Ev tb k (pc + 3) L S H Q) : Ev tb k pc L (.int (bI (decide p)) :: S) H Q := evb_if_ne hI ht (fun q => kt (of_decide_eq_true q)) (fun q => kf (of_decide_eq_false q))
theorem evn_min {ci idx : Nat} {w : Nat × Nat × Nat × Nat × Nat} {x y : Nat} (hI : dxI k pc = some (.invokestatic idx, 3)) (hc : dxCi k = ci) (hl : dxLk ci idx = some (7, w)) (hr : 1 ≤ dxFr k ∧ 21 ≤ dxLo k) (hw : dxW8 S = true) (h : x < 2147483648 ∧ y < 2147483648) (kk : Ev tb k (pc + 3) L (.int (nI (if y < x then y else x)) :: S) H Q) : Ev tb k pc L (.int (nI y) :: .int (nI x) :: S) H Q := by
  refine ev_min hI hc hl hr hw ?_
  have e1 : (if nI y < nI x then nI y else nI x) = nI (if y < x then y else x) := by
    by_cases q : y < x
    · rw [if_pos q, if_pos ((nI_ltI h.2 h.1).mpr q)]
    · rw [if_neg q, if_neg (fun z => q ((nI_ltI h.2 h.1).mp z))]
  rw [e1]
  exact kk
theorem bI_inj {b c : Bool} : bI b = bI c ↔ b = c := by cases b <;> cases c <;> decide
theorem evb_icmp_eq {o : Int} {t : Nat} {b c : Bool} (hI : dxI k pc = some (.if_icmp .eq o, 3)) (ht : (pc : Int) + o = (t : Int)) (kt : c = b → Ev tb k t L S H Q) (kf : ¬ c = b → Ev tb k (pc + 3) L S H Q) : Ev tb k pc L (.int (bI b) :: .int (bI c) :: S) H Q := ev_icmp_eq hI ht (fun q => kt (bI_inj.mp q)) (fun q => kf (fun z => q (bI_inj.mpr z)))
theorem evb_icmp_ne {o : Int} {t : Nat} {b c : Bool} (hI : dxI k pc = some (.if_icmp .ne o, 3)) (ht : (pc : Int) + o = (t : Int)) (kt : ¬ c = b → Ev tb k t L S H Q) (kf : c = b → Ev tb k (pc + 3) L S H Q) : Ev tb k pc L (.int (bI b) :: .int (bI c) :: S) H Q := ev_icmp_ne hI ht (fun q => kt (fun z => q (bI_inj.mpr z))) (fun q => kf (bI_inj.mp q))
/-- an array of truth values -/
def updB (f : Nat → Bool) (k : Nat) (x : Bool) : Nat → Bool := fun j => if j = k then x else f j
abbrev ZA (n : Nat) (f : Nat → Bool) : dxE := .inl (1, n, .inl (fun q => bI (f q)))
theorem bI_upd (f : Nat → Bool) (k : Nat) (x : Bool) : upd (fun q => bI (f q)) k (bI x) = fun q => bI (updB f k x q) := by
  funext j
  unfold upd updB
  by_cases h : j = k
  · rw [if_pos h, if_pos h]
  · rw [if_neg h, if_neg h]
theorem bI_nar0 (b : Bool) : vp_nar .boolean (bI b) = bI b := by cases b <;> decide
theorem evz_bald {a m j : Nat} {f : Nat → Bool} (hI : dxI k pc = some (.baload, 1)) (ho : H[a]? = some (ZA m f)) (hj : j < m ∧ m < 2147483648) (kk : Ev tb k (pc + 1) L (.int (bI (f j)) :: S) H Q) : Ev tb k pc L (.int (nI j) :: .ref a :: S) H Q := by
  refine ev_bald hI ho (dxIn_n hj) ?_
  rw [nI_clamp (Nat.lt_trans hj.1 hj.2)]
  exact kk
theorem evz_bast {a m j : Nat} {y : Bool} {f : Nat → Bool} (hI : dxI k pc = some (.bastore, 1)) (ho : H[a]? = some (ZA m f)) (hj : j < m ∧ m < 2147483648) (kk : ∀ H1, H1 = H.set a (ZA m (updB f j y)) → Ev tb k (pc + 1) L S H1 Q) : Ev tb k pc L (.int (bI y) :: .int (nI j) :: .ref a :: S) H Q := by
  refine ev_bast hI ho (dxIn_n hj) (bI_nar0 y) ?_
  rw [nI_clamp (Nat.lt_trans hj.1 hj.2), bI_upd]
  exact kk _ rfl
theorem evz_bastt {a m j : Nat} {f : Nat → Bool} (hI : dxI k pc = some (.bastore, 1)) (ho : H[a]? = some (ZA m f)) (hj : j < m ∧ m < 2147483648) (kk : ∀ H1, H1 = H.set a (ZA m (updB f j true)) → Ev tb k (pc + 1) L S H1 Q) : Ev tb k pc L (.int (nI 1) :: .int (nI j) :: .ref a :: S) H Q := by
  rw [← bI_t]
  exact evz_bast hI ho hj kk
theorem evz_bastf {a m j : Nat} {f : Nat → Bool} (hI : dxI k pc = some (.bastore, 1)) (ho : H[a]? = some (ZA m f)) (hj : j < m ∧ m < 2147483648) (kk : ∀ H1, H1 = H.set a (ZA m (updB f j false)) → Ev tb k (pc + 1) L S H1 Q) : Ev tb k pc L (.int (nI 0) :: .int (nI j) :: .ref a :: S) H Q := by
  rw [← bI_f]
  exact evz_bast hI ho hj kk
theorem evs_iast {a m : Nat} {x y : Int32} {f : Nat → Int32} (hI : dxI k pc = some (.iastore, 1)) (ho : H[a]? = some (.inl (0, m, .inl f))) (hin : dxIn x m = true) (kk : ∀ H1, H1 = H.set a (.inl (0, m, .inl (upd f x.toNatClampNeg y))) → Ev tb k (pc + 1) L S H1 Q) : Ev tb k pc L (.int y :: .int x :: .ref a :: S) H Q := ev_iast hI ho hin (kk _ rfl)
theorem evs_bast {a m : Nat} {x y : Int32} {f : Nat → Int32} (hI : dxI k pc = some (.bastore, 1)) (ho : H[a]? = some (.inl (1, m, .inl f))) (hin : dxIn x m = true) (hy : vp_nar .boolean y = y) (kk : ∀ H1, H1 = H.set a (.inl (1, m, .inl (upd f x.toNatClampNeg y))) → Ev tb k (pc + 1) L S H1 Q) : Ev tb k pc L (.int y :: .int x :: .ref a :: S) H Q := ev_bast hI ho hin hy (kk _ rfl)
theorem evs_put {ci idx c j w a : Nat} {fs fs' : List Value} {v : Value} (hI : dxI k pc = some (.putfield idx, 3)) (hc : dxCi k = ci) (hf : dxF ci idx = some (c, j, w)) (ho : H[a]? = some (.inr (c, fs))) (hg : j < fs.length ∧ dxFit (dxTyp c j) v = true ∧ (((dxCl c).2.1 j).2.2.2 = false ∨ ((dxY k).name = "<init>" ∧ c = dxCi k))) (hs : fs.set j v = fs') (kk : ∀ H1, H1 = H.set a (.inr (c, fs')) → Ev tb k (pc + 3) L S H1 Q) : Ev tb k pc L (v :: .ref a :: S) H Q := ev_put hI hc hf ho hg hs (kk _ rfl)
/-- an array of numbers -/
def updN (f : Nat → Nat) (k x : Nat) : Nat → Nat := fun j => if j = k then x else f j
theorem nI_upd (f : Nat → Nat) (k x : Nat) : upd (fun q => nI (f q)) k (nI x) = fun q => nI (updN f k x q) := by
  funext j
  unfold upd updN
  by_cases h : j = k
  · rw [if_pos h, if_pos h]
  · rw [if_neg h, if_neg h]
abbrev IA (n : Nat) (f : Nat → Nat) : dxE := .inl (0, n, .inl (fun q => nI (f q)))
theorem evs_iastn {a m j y : Nat} {f : Nat → Nat} (hI : dxI k pc = some (.iastore, 1)) (ho : H[a]? = some (IA m f)) (hj : j < m ∧ m < 2147483648) (kk : ∀ H1, H1 = H.set a (IA m (updN f j y)) → Ev tb k (pc + 1) L S H1 Q) : Ev tb k pc L (.int (nI y) :: .int (nI j) :: .ref a :: S) H Q := by
  refine evs_iast hI ho (dxIn_n hj) fun H1 h => kk H1 ?_
  rw [h, nI_clamp (Nat.lt_trans hj.1 hj.2), nI_upd]
theorem evs_iastw {a m j : Nat} {y : Int32} {f : Nat → Int32} (hI : dxI k pc = some (.iastore, 1)) (ho : H[a]? = some (.inl (0, m, .inl f))) (hj : j < m ∧ m < 2147483648) (kk : ∀ H1, H1 = H.set a (.inl (0, m, .inl (upd f j y))) → Ev tb k (pc + 1) L S H1 Q) : Ev tb k pc L (.int y :: .int (nI j) :: .ref a :: S) H Q := by
  refine evs_iast hI ho (dxIn_n hj) fun H1 h => kk H1 ?_
  rw [h, nI_clamp (Nat.lt_trans hj.1 hj.2)]
end EVN
theorem dxFit_b (b : Bool) : dxFit .boolean (.int (bI b)) = true := by cases b <;> rfl
theorem bI_nar (b : Bool) : vp_nar .boolean (bI b) = bI b := by cases b <;> decide
theorem zt {X : Bool} (h : X = true) : some (Value.int (nI 1)) = some (Value.int (bI X)) := by rw [h, bI_t]
theorem zf {X : Bool} (h : X = false) : some (Value.int (nI 0)) = some (Value.int (bI X)) := by rw [h, bI_f]
/-- an answer, nothing changed -/
def Rt (v : Value) (H : dxH) : Option Value → dxH → Prop := fun r H' => r = some v ∧ H = H'
theorem bit10 : ∀ a, a < 1024 → ∀ k, k < 10 → (nI a >>> (nI k &&& 31)) &&& nI 1 = bI (a.testBit k) := by decide +kernel
theorem bI_eq1 {b : Bool} : bI b = nI 1 ↔ b = true := by cases b <;> decide
theorem bit_out {a m k : Nat} (h : a < 2 ^ m) (hk : m ≤ k) : a.testBit k = false := Nat.testBit_lt_two_pow (Nat.lt_of_lt_of_le h (Nat.pow_le_pow_right (by decide) hk))
theorem nI_inj {a b : Nat} (ha : a < 2147483648) (hb : b < 2147483648) (h : nI a = nI b) : a = b := (nI_eq ha hb).mp h
/-- d rounds from j on -/
def upto {α : Type} (f : Nat → α → α) : Nat → Nat → α → α
  | 0, _, x => x
  | d + 1, j, x => upto f d (j + 1) (f j x)
end
section
/-! the herd, the meadow: what their calls answer -/
def HrdAt (H : dxH) (n : Nat) (sd kd : Nat → Nat) : Prop := H[3]? = some (.inr (2, [.ref 4, .ref 5, .int (nI n)])) ∧ H[4]? = some (IA 6 sd) ∧ H[5]? = some (IA 6 kd)
def MdwAt (H : dxH) (a : Nat) (cl ce fu : Nat → Nat) (pa : Nat → Int32) (he : Nat) (sn : Bool) (ho wa : Int32) : Prop := H[a]? = some (.inr (3, [.ref 3, .ref (a + 1), .ref (a + 2), .ref (a + 3), .ref (a + 4), .int (nI he), .int (bI sn), .int ho, .int wa])) ∧ H[a + 1]? = some (IA 10 cl) ∧ H[a + 2]? = some (IA 6 ce) ∧ H[a + 3]? = some (IA 6 fu) ∧ H[a + 4]? = some (.inl (0, 2, .inl pa))
/-- the meadow's own cells -/
def mdC (a : Nat) : Nat → Prop := fun j => a ≤ j ∧ j ≤ a + 4
theorem HrdAt.off {H H' : dxH} {n : Nat} {sd kd : Nat → Nat} {A : Nat → Prop} (h : HrdAt H n sd kd) (hO : Off A H H') (h3 : ¬ A 3) (h4 : ¬ A 4) (h5 : ¬ A 5) : HrdAt H' n sd kd := ⟨hO.at h.1 h3, hO.at h.2.1 h4, hO.at h.2.2 h5⟩
theorem MdwAt.off {H H' : dxH} {a : Nat} {cl ce fu : Nat → Nat} {pa : Nat → Int32} {he : Nat} {sn : Bool} {ho wa : Int32} {A : Nat → Prop} (h : MdwAt H a cl ce fu pa he sn ho wa) (hO : Off A H H') (hA : ∀ j, a ≤ j → j ≤ a + 4 → ¬ A j) : MdwAt H' a cl ce fu pa he sn ho wa := ⟨hO.at h.1 (hA _ (by omega) (by omega)), hO.at h.2.1 (hA _ (by omega) (by omega)), hO.at h.2.2.1 (hA _ (by omega) (by omega)), hO.at h.2.2.2.1 (hA _ (by omega) (by omega)), hO.at h.2.2.2.2 (hA _ (by omega) (by omega))⟩
/-- 0 to m - 1, as a number of 32 bits -/
def inR (x : Int32) (m : Nat) : Bool := decide (¬ x < 0 ∧ x < nI m)
theorem inR_n {c m : Nat} (hc : c < 2147483648) (hm : m < 2147483648) : inR (nI c) m = decide (c < m) := by
  unfold inR
  by_cases h : c < m
  · rw [decide_eq_true h, decide_eq_true ⟨nI_pos hc, (nI_ltI hc hm).mpr h⟩]
  · rw [decide_eq_false h, decide_eq_false (fun q => h ((nI_ltI hc hm).mp q.2))]
theorem inR_of {x : Int32} {m : Nat} (hm : m < 2147483648) (h : inR x m = true) : ∃ c : Nat, c < m ∧ x = nI c := by
  have h1 := of_decide_eq_true h
  obtain ⟨j, hj, rfl⟩ := nI_of h1.1
  exact ⟨j, (nI_ltI hj hm).mp h1.2, rfl⟩
def dueB (kind f : Nat) : Bool := decide (¬ kind = 2) && decide ((if kind = 1 then 9 else 6) ≤ f)
def wrnB (kind f : Nat) : Bool := decide (kind = 3) && decide (f = 5)

theorem c96 {tb : dxT} {H : dxH} {x : Int32} : Cl tb 96 [.int x] H (Rt (.int (bI (inR x 10))) H) := by
  show Ev tb 96 0 [some (.int x)] [] H _
  refine ev_iload_n i96_0 rfl ?_
  refine ev_if_lt (t := 14) i96_1 (by decide) (fun z1 => ?_) (fun z1 => ?_)
  · refine ev_iconst (v := nI 0) i96_14 (by decide) ?_
    refine ev_zret i96_15 (by decide +kernel) (by decide) ?_
    exact ⟨zf (decide_eq_false (fun q => by first | exact q.1 (by assumption) | exact k2_nlt (by assumption) q.2)), rfl⟩
  · refine ev_iload_n i96_4 rfl ?_
    refine ev_bipush (v := nI 10) i96_5 (by decide) ?_
    refine ev_icmp_ge (t := 14) i96_7 (by decide) (fun z7 => ?_) (fun z7 => ?_)
    · refine ev_iconst (v := nI 0) i96_14 (by decide) ?_
      refine ev_zret i96_15 (by decide +kernel) (by decide) ?_
      exact ⟨zf (decide_eq_false (fun q => by first | exact q.1 (by assumption) | exact k2_nlt (by assumption) q.2)), rfl⟩
    · refine ev_iconst (v := nI 1) i96_10 (by decide) ?_
      refine ev_goto (t := 15) i96_11 (by decide) ?_
      refine ev_zret i96_15 (by decide +kernel) (by decide) ?_
      exact ⟨zt (decide_eq_true ⟨z1, k2_lt (by assumption)⟩), rfl⟩
theorem c96n {tb : dxT} {H : dxH} {c : Nat} (hc : c < 2147483648) : Cl tb 96 [.int (nI c)] H (Rt (.int (bI (decide (c < 10)))) H) := by
  rw [← inR_n hc (by decide)]
  exact c96
theorem c97 {tb : dxT} {H : dxH} {x : Int32} : Cl tb 97 [.int x] H (Rt (.int (bI (inR x 2))) H) := by
  show Ev tb 97 0 [some (.int x)] [] H _
  refine ev_iload_n i97_0 rfl ?_
  refine ev_if_lt (t := 13) i97_1 (by decide) (fun z1 => ?_) (fun z1 => ?_)
  · refine ev_iconst (v := nI 0) i97_13 (by decide) ?_
    refine ev_zret i97_14 (by decide +kernel) (by decide) ?_
    exact ⟨zf (decide_eq_false (fun q => by first | exact q.1 (by assumption) | exact k2_nlt (by assumption) q.2)), rfl⟩
  · refine ev_iload_n i97_4 rfl ?_
    refine ev_iconst (v := nI 2) i97_5 (by decide) ?_
    refine ev_icmp_ge (t := 13) i97_6 (by decide) (fun z6 => ?_) (fun z6 => ?_)
    · refine ev_iconst (v := nI 0) i97_13 (by decide) ?_
      refine ev_zret i97_14 (by decide +kernel) (by decide) ?_
      exact ⟨zf (decide_eq_false (fun q => by first | exact q.1 (by assumption) | exact k2_nlt (by assumption) q.2)), rfl⟩
    · refine ev_iconst (v := nI 1) i97_9 (by decide) ?_
      refine ev_goto (t := 14) i97_10 (by decide) ?_
      refine ev_zret i97_14 (by decide +kernel) (by decide) ?_
      exact ⟨zt (decide_eq_true ⟨z1, k2_lt (by assumption)⟩), rfl⟩
theorem c97n {tb : dxT} {H : dxH} {c : Nat} (hc : c < 2147483648) : Cl tb 97 [.int (nI c)] H (Rt (.int (bI (decide (c < 2)))) H) := by
  rw [← inR_n hc (by decide)]
  exact c97
theorem c98 {tb : dxT} {H : dxH} {x : Int32} : Cl tb 98 [.int x] H (Rt (.int (bI (inR x 2))) H) := by
  show Ev tb 98 0 [some (.int x)] [] H _
  refine ev_iload_n i98_0 rfl ?_
  refine ev_if_lt (t := 13) i98_1 (by decide) (fun z1 => ?_) (fun z1 => ?_)
  · refine ev_iconst (v := nI 0) i98_13 (by decide) ?_
    refine ev_zret i98_14 (by decide +kernel) (by decide) ?_
    exact ⟨zf (decide_eq_false (fun q => by first | exact q.1 (by assumption) | exact k2_nlt (by assumption) q.2)), rfl⟩
  · refine ev_iload_n i98_4 rfl ?_
    refine ev_iconst (v := nI 2) i98_5 (by decide) ?_
    refine ev_icmp_ge (t := 13) i98_6 (by decide) (fun z6 => ?_) (fun z6 => ?_)
    · refine ev_iconst (v := nI 0) i98_13 (by decide) ?_
      refine ev_zret i98_14 (by decide +kernel) (by decide) ?_
      exact ⟨zf (decide_eq_false (fun q => by first | exact q.1 (by assumption) | exact k2_nlt (by assumption) q.2)), rfl⟩
    · refine ev_iconst (v := nI 1) i98_9 (by decide) ?_
      refine ev_goto (t := 14) i98_10 (by decide) ?_
      refine ev_zret i98_14 (by decide +kernel) (by decide) ?_
      exact ⟨zt (decide_eq_true ⟨z1, k2_lt (by assumption)⟩), rfl⟩
theorem c98n {tb : dxT} {H : dxH} {c : Nat} (hc : c < 2147483648) : Cl tb 98 [.int (nI c)] H (Rt (.int (bI (decide (c < 2)))) H) := by
  rw [← inR_n hc (by decide)]
  exact c98
theorem c14 {tb : dxT} {H : dxH} {n : Nat} {sd kd : Nat → Nat} (hH : HrdAt H n sd kd) : Cl tb 14 [.ref 3] H (Rt (.int (nI n)) H) := by
  obtain ⟨g0, g1, g2⟩ := id hH
  show Ev tb 14 0 [some (.ref 3)] [] H _
  refine ev_aload_n i14_0 rfl ?_
  refine ev_get i14_1 ci14 fl2_18 (by assumption) rfl ?_
  refine ev_iret i14_4 (by decide +kernel) ?_
  exact ⟨rfl, rfl⟩
theorem c16 {tb : dxT} {H : dxH} {k n : Nat} {sd kd : Nat → Nat} (hH : HrdAt H n sd kd) (hk : k < 6) : Cl tb 16 [.ref 3, .int (nI k)] H (Rt (.int (nI (sd k))) H) := by
  obtain ⟨g0, g1, g2⟩ := id hH
  show Ev tb 16 0 [some (.ref 3), some (.int (nI k))] [] H _
  refine ev_iload_n i16_0 rfl ?_
  refine evn_if_lt (t := 19) i16_1 (by decide) (by omega) ?_
  refine ev_iload_n i16_4 rfl ?_
  refine ev_bipush (v := nI 6) i16_5 (by decide) ?_
  refine evn_icmp_ge (t := 19) i16_7 (by decide) (by omega) (fun z7 => ?_) (fun z7 => ?_)
  · refine ev_bipush (v := (-9)) i16_19 (by decide) ?_
    refine ev_iret i16_21 (by decide +kernel) ?_
    exfalso; omega
  · refine ev_aload_n i16_10 rfl ?_
    refine ev_get i16_11 ci16 fl2_9 (by assumption) rfl ?_
    refine ev_iload_n i16_14 rfl ?_
    refine ev_iald_n i16_15 (by assumption) (by omega) ?_
    refine ev_goto (t := 21) i16_16 (by decide) ?_
    refine ev_iret i16_21 (by decide +kernel) ?_
    exact ⟨rfl, rfl⟩
theorem c17 {tb : dxT} {H : dxH} {k n : Nat} {sd kd : Nat → Nat} (hH : HrdAt H n sd kd) (hk : k < 6) : Cl tb 17 [.ref 3, .int (nI k)] H (Rt (.int (nI (kd k))) H) := by
  obtain ⟨g0, g1, g2⟩ := id hH
  show Ev tb 17 0 [some (.ref 3), some (.int (nI k))] [] H _
  refine ev_iload_n i17_0 rfl ?_
  refine evn_if_lt (t := 19) i17_1 (by decide) (by omega) ?_
  refine ev_iload_n i17_4 rfl ?_
  refine ev_bipush (v := nI 6) i17_5 (by decide) ?_
  refine evn_icmp_ge (t := 19) i17_7 (by decide) (by omega) (fun z7 => ?_) (fun z7 => ?_)
  · refine ev_bipush (v := (-9)) i17_19 (by decide) ?_
    refine ev_iret i17_21 (by decide +kernel) ?_
    exfalso; omega
  · refine ev_aload_n i17_10 rfl ?_
    refine ev_get i17_11 ci17 fl2_15 (by assumption) rfl ?_
    refine ev_iload_n i17_14 rfl ?_
    refine ev_iald_n i17_15 (by assumption) (by omega) ?_
    refine ev_goto (t := 21) i17_16 (by decide) ?_
    refine ev_iret i17_21 (by decide +kernel) ?_
    exact ⟨rfl, rfl⟩
theorem c15 {tb : dxT} {H : dxH} {n : Nat} {sd kd : Nat → Nat} {x : Int32} (hH : HrdAt H n sd kd) (hn : n ≤ 6) : Cl tb 15 [.ref 3, .int x] H (Rt (.int (bI (inR x n))) H) := by
  obtain ⟨g0, g1, g2⟩ := id hH
  show Ev tb 15 0 [some (.ref 3), some (.int x)] [] H _
  refine ev_iload_n i15_0 rfl ?_
  refine ev_if_lt (t := 22) i15_1 (by decide) (fun z1 => ?_) (fun z1 => ?_)
  · refine ev_iconst (v := nI 0) i15_22 (by decide) ?_
    refine ev_zret i15_23 (by decide +kernel) (by decide) ?_
    have hn2 : n < 2147483648 := by omega
    exact ⟨zf (decide_eq_false (fun q => by first | exact q.1 (by assumption) | exact k2_nlt (by assumption) q.2 | exact k2_nlt (by assumption) (Int32.lt_of_lt_of_le q.2 (nI_le hn (by decide))))), rfl⟩
  · refine ev_iload_n i15_4 rfl ?_
    refine ev_aload_n i15_5 rfl ?_
    refine ev_get i15_6 ci15 fl2_18 (by assumption) rfl ?_
    refine ev_icmp_ge (t := 22) i15_9 (by decide) (fun z9 => ?_) (fun z9 => ?_)
    · refine ev_iconst (v := nI 0) i15_22 (by decide) ?_
      refine ev_zret i15_23 (by decide +kernel) (by decide) ?_
      have hn2 : n < 2147483648 := by omega
      exact ⟨zf (decide_eq_false (fun q => by first | exact q.1 (by assumption) | exact k2_nlt (by assumption) q.2 | exact k2_nlt (by assumption) (Int32.lt_of_lt_of_le q.2 (nI_le hn (by decide))))), rfl⟩
    · refine ev_iload_n i15_12 rfl ?_
      refine ev_bipush (v := nI 6) i15_13 (by decide) ?_
      refine ev_icmp_ge (t := 22) i15_15 (by decide) (fun z15 => ?_) (fun z15 => ?_)
      · refine ev_iconst (v := nI 0) i15_22 (by decide) ?_
        refine ev_zret i15_23 (by decide +kernel) (by decide) ?_
        have hn2 : n < 2147483648 := by omega
        exact ⟨zf (decide_eq_false (fun q => by first | exact q.1 (by assumption) | exact k2_nlt (by assumption) q.2 | exact k2_nlt (by assumption) (Int32.lt_of_lt_of_le q.2 (nI_le hn (by decide))))), rfl⟩
      · refine ev_iconst (v := nI 1) i15_18 (by decide) ?_
        refine ev_goto (t := 23) i15_19 (by decide) ?_
        refine ev_zret i15_23 (by decide +kernel) (by decide) ?_
        have hn2 : n < 2147483648 := by omega
        exact ⟨zt (decide_eq_true ⟨by assumption, k2_lt (by assumption)⟩), rfl⟩
theorem c23 {tb : dxT} {H : dxH} {a k : Nat} {cl ce fu : Nat → Nat} {pa : Nat → Int32} {he : Nat} {sn : Bool} {ho wa : Int32} (hM : MdwAt H a cl ce fu pa he sn ho wa) (hk : k < 2147483648) (hb : he < 64) : Cl tb 23 [.ref a, .int (nI k)] H (Rt (.int (bI (he.testBit k))) H) := by
  obtain ⟨m0, m1, m2, m3, m4⟩ := id hM
  show Ev tb 23 0 [some (.ref a), some (.int (nI k))] [] H _
  refine ev_iload_n i23_0 rfl ?_
  refine evn_if_lt (t := 26) i23_1 (by decide) (by omega) ?_
  refine ev_iload_n i23_4 rfl ?_
  refine ev_bipush (v := nI 6) i23_5 (by decide) ?_
  refine evn_icmp_ge (t := 26) i23_7 (by decide) (by omega) (fun z7 => ?_) (fun z7 => ?_)
  · refine ev_iconst (v := nI 0) i23_26 (by decide) ?_
    refine ev_zret i23_27 (by decide +kernel) (by decide) ?_
    first | exact ⟨zf (bit_out (m := 6) hb (by omega)), rfl⟩ | (rw [bit10 he (by omega) k (by omega)] at *; exact ⟨zf (Bool.eq_false_iff.mpr (fun q => (by assumption : ¬ _) (bI_eq1.mpr q))), rfl⟩)
  · refine ev_aload_n i23_10 rfl ?_
    refine ev_get i23_11 ci23 fl3_28 (by assumption) rfl ?_
    refine ev_iload_n i23_14 rfl ?_
    refine ev_ishr i23_15 ?_
    refine ev_iconst (v := nI 1) i23_16 (by decide) ?_
    refine ev_iand i23_17 ?_
    refine ev_iconst (v := nI 1) i23_18 (by decide) ?_
    refine ev_icmp_ne (t := 26) i23_19 (by decide) (fun z19 => ?_) (fun z19 => ?_)
    · refine ev_iconst (v := nI 0) i23_26 (by decide) ?_
      refine ev_zret i23_27 (by decide +kernel) (by decide) ?_
      first | exact ⟨zf (bit_out (m := 6) hb (by omega)), rfl⟩ | (rw [bit10 he (by omega) k (by omega)] at *; exact ⟨zf (Bool.eq_false_iff.mpr (fun q => (by assumption : ¬ _) (bI_eq1.mpr q))), rfl⟩)
    · refine ev_iconst (v := nI 1) i23_22 (by decide) ?_
      refine ev_goto (t := 27) i23_23 (by decide) ?_
      refine ev_zret i23_27 (by decide +kernel) (by decide) ?_
      exact ⟨zt (by rw [bit10 he (by omega) k (by omega)] at *; first | exact bI_eq1.mp (by assumption) | exact bI_eq1.mp (Classical.not_not.mp (by assumption))), rfl⟩
theorem c24 {tb : dxT} {H : dxH} {a k n s : Nat} {sd kd cl ce fu : Nat → Nat} {pa : Nat → Int32} {he : Nat} {sn : Bool} {ho wa : Int32} (hM : MdwAt H a cl ce fu pa he sn ho wa) (hH : HrdAt H n sd kd) (hb : he < 64) (ha : 6 ≤ a) (hsd : ∀ j, sd j < 2) (hk : k < 6) (hs : s < 2) : Cl tb 24 [.ref a, .int (nI k), .int (nI s)] H (Rt (.int (bI (he.testBit k && decide (sd k = s)))) H) := by
  obtain ⟨m0, m1, m2, m3, m4⟩ := id hM
  obtain ⟨g0, g1, g2⟩ := id hH
  have hsk := hsd k
  show Ev tb 24 0 [some (.ref a), some (.int (nI k)), some (.int (nI s))] [] H _
  refine ev_aload_n i24_0 rfl ?_
  refine ev_iload_n i24_1 rfl ?_
  refine ev_callV (vs := [.int (nI k)]) (rest := []) i24_2 ci24 lk3_62 (congrArg (fun q => q + 1) np23) ci23 (by decide) (by decide +kernel) (Nat.le_of_ble_eq_true rfl) ⟨rfl, rfl, Nat.le_of_ble_eq_true rfl⟩ rfl (by assumption) (c23 (by assumption) (by omega) (by omega)) (fun r HH hq => ?_)
  obtain ⟨rfl, rfl⟩ := hq
  show Ev tb 24 5 [some (.ref a), some (.int (nI k)), some (.int (nI s))] [.int (bI (he.testBit k))] H _
  refine evb_if_eq (t := 24) i24_5 (by decide) (fun z5 => ?_) (fun z5 => ?_)
  · refine ev_iconst (v := nI 0) i24_24 (by decide) ?_
    refine ev_zret i24_25 (by decide +kernel) (by decide) ?_
    exact ⟨zf (by simp [*]), rfl⟩
  · refine ev_aload_n i24_8 rfl ?_
    refine ev_get i24_9 ci24 fl3_24 (by assumption) rfl ?_
    refine ev_iload_n i24_12 rfl ?_
    refine ev_callV (vs := [.int (nI k)]) (rest := []) i24_13 ci24 lk3_65 (congrArg (fun q => q + 1) np16) ci16 (by decide) (by decide +kernel) (Nat.le_of_ble_eq_true rfl) ⟨rfl, rfl, Nat.le_of_ble_eq_true rfl⟩ rfl (by assumption) (c16 (by assumption) (by omega)) (fun r HH hq => ?_)
    obtain ⟨rfl, rfl⟩ := hq
    show Ev tb 24 16 [some (.ref a), some (.int (nI k)), some (.int (nI s))] [.int (nI (sd k))] H _
    refine ev_iload_n i24_16 rfl ?_
    refine evn_icmp_ne (t := 24) i24_17 (by decide) (by omega) (fun z17 => ?_) (fun z17 => ?_)
    · refine ev_iconst (v := nI 0) i24_24 (by decide) ?_
      refine ev_zret i24_25 (by decide +kernel) (by decide) ?_
      exact ⟨zf (by simp [*]), rfl⟩
    · refine ev_iconst (v := nI 1) i24_20 (by decide) ?_
      refine ev_goto (t := 25) i24_21 (by decide) ?_
      refine ev_zret i24_25 (by decide +kernel) (by decide) ?_
      exact ⟨zt (by simp [*]), rfl⟩
theorem c25t {tb : dxT} {H : dxH} {a k : Nat} {cl ce fu : Nat → Nat} {pa : Nat → Int32} {he : Nat} {sn : Bool} {ho wa : Int32} (hM : MdwAt H a cl ce fu pa he sn ho wa) (hb : he < 64) (ha : 6 ≤ a) (hk : k < 6) (ht : he.testBit k = true) : Cl tb 25 [.ref a, .int (nI k)] H (Rt (.int (nI (ce k))) H) := by
  obtain ⟨m0, m1, m2, m3, m4⟩ := id hM
  show Ev tb 25 0 [some (.ref a), some (.int (nI k))] [] H _
  refine ev_aload_n i25_0 rfl ?_
  refine ev_iload_n i25_1 rfl ?_
  refine ev_callV (vs := [.int (nI k)]) (rest := []) i25_2 ci25 lk3_62 (congrArg (fun q => q + 1) np23) ci23 (by decide) (by decide +kernel) (Nat.le_of_ble_eq_true rfl) ⟨rfl, rfl, Nat.le_of_ble_eq_true rfl⟩ rfl (by assumption) (c23 (by assumption) (by omega) (by omega)) (fun r HH hq => ?_)
  obtain ⟨rfl, rfl⟩ := hq
  show Ev tb 25 5 [some (.ref a), some (.int (nI k))] [.int (bI (he.testBit k))] H _
  refine evb_if_eq (t := 17) i25_5 (by decide) (fun z5 => ?_) (fun z5 => ?_)
  · refine ev_bipush (v := (-9)) i25_17 (by decide) ?_
    refine ev_iret i25_19 (by decide +kernel) ?_
    first | exact ⟨rfl, rfl⟩ | (exfalso; simp_all)
  · refine ev_aload_n i25_8 rfl ?_
    refine ev_get i25_9 ci25 fl3_15 (by assumption) rfl ?_
    refine ev_iload_n i25_12 rfl ?_
    refine ev_iald_n i25_13 (by assumption) (by omega) ?_
    refine ev_goto (t := 19) i25_14 (by decide) ?_
    refine ev_iret i25_19 (by decide +kernel) ?_
    first | exact ⟨rfl, rfl⟩ | (exfalso; simp_all)
theorem c25f {tb : dxT} {H : dxH} {a k : Nat} {cl ce fu : Nat → Nat} {pa : Nat → Int32} {he : Nat} {sn : Bool} {ho wa : Int32} (hM : MdwAt H a cl ce fu pa he sn ho wa) (hb : he < 64) (ha : 6 ≤ a) (hk : k < 6) (ht : he.testBit k = false) : Cl tb 25 [.ref a, .int (nI k)] H (Rt (.int (-9)) H) := by
  obtain ⟨m0, m1, m2, m3, m4⟩ := id hM
  show Ev tb 25 0 [some (.ref a), some (.int (nI k))] [] H _
  refine ev_aload_n i25_0 rfl ?_
  refine ev_iload_n i25_1 rfl ?_
  refine ev_callV (vs := [.int (nI k)]) (rest := []) i25_2 ci25 lk3_62 (congrArg (fun q => q + 1) np23) ci23 (by decide) (by decide +kernel) (Nat.le_of_ble_eq_true rfl) ⟨rfl, rfl, Nat.le_of_ble_eq_true rfl⟩ rfl (by assumption) (c23 (by assumption) (by omega) (by omega)) (fun r HH hq => ?_)
  obtain ⟨rfl, rfl⟩ := hq
  show Ev tb 25 5 [some (.ref a), some (.int (nI k))] [.int (bI (he.testBit k))] H _
  refine evb_if_eq (t := 17) i25_5 (by decide) (fun z5 => ?_) (fun z5 => ?_)
  · refine ev_bipush (v := (-9)) i25_17 (by decide) ?_
    refine ev_iret i25_19 (by decide +kernel) ?_
    first | exact ⟨rfl, rfl⟩ | (exfalso; simp_all)
  · refine ev_aload_n i25_8 rfl ?_
    refine ev_get i25_9 ci25 fl3_15 (by assumption) rfl ?_
    refine ev_iload_n i25_12 rfl ?_
    refine ev_iald_n i25_13 (by assumption) (by omega) ?_
    refine ev_goto (t := 19) i25_14 (by decide) ?_
    refine ev_iret i25_19 (by decide +kernel) ?_
    first | exact ⟨rfl, rfl⟩ | (exfalso; simp_all)
theorem c26t {tb : dxT} {H : dxH} {a k : Nat} {cl ce fu : Nat → Nat} {pa : Nat → Int32} {he : Nat} {sn : Bool} {ho wa : Int32} (hM : MdwAt H a cl ce fu pa he sn ho wa) (hb : he < 64) (ha : 6 ≤ a) (hk : k < 6) (ht : he.testBit k = true) : Cl tb 26 [.ref a, .int (nI k)] H (Rt (.int (nI (fu k))) H) := by
  obtain ⟨m0, m1, m2, m3, m4⟩ := id hM
  show Ev tb 26 0 [some (.ref a), some (.int (nI k))] [] H _
  refine ev_aload_n i26_0 rfl ?_
  refine ev_iload_n i26_1 rfl ?_
  refine ev_callV (vs := [.int (nI k)]) (rest := []) i26_2 ci26 lk3_62 (congrArg (fun q => q + 1) np23) ci23 (by decide) (by decide +kernel) (Nat.le_of_ble_eq_true rfl) ⟨rfl, rfl, Nat.le_of_ble_eq_true rfl⟩ rfl (by assumption) (c23 (by assumption) (by omega) (by omega)) (fun r HH hq => ?_)
  obtain ⟨rfl, rfl⟩ := hq
  show Ev tb 26 5 [some (.ref a), some (.int (nI k))] [.int (bI (he.testBit k))] H _
  refine evb_if_eq (t := 17) i26_5 (by decide) (fun z5 => ?_) (fun z5 => ?_)
  · refine ev_bipush (v := (-9)) i26_17 (by decide) ?_
    refine ev_iret i26_19 (by decide +kernel) ?_
    first | exact ⟨rfl, rfl⟩ | (exfalso; simp_all)
  · refine ev_aload_n i26_8 rfl ?_
    refine ev_get i26_9 ci26 fl3_18 (by assumption) rfl ?_
    refine ev_iload_n i26_12 rfl ?_
    refine ev_iald_n i26_13 (by assumption) (by omega) ?_
    refine ev_goto (t := 19) i26_14 (by decide) ?_
    refine ev_iret i26_19 (by decide +kernel) ?_
    first | exact ⟨rfl, rfl⟩ | (exfalso; simp_all)
theorem c26f {tb : dxT} {H : dxH} {a k : Nat} {cl ce fu : Nat → Nat} {pa : Nat → Int32} {he : Nat} {sn : Bool} {ho wa : Int32} (hM : MdwAt H a cl ce fu pa he sn ho wa) (hb : he < 64) (ha : 6 ≤ a) (hk : k < 6) (ht : he.testBit k = false) : Cl tb 26 [.ref a, .int (nI k)] H (Rt (.int (-9)) H) := by
  obtain ⟨m0, m1, m2, m3, m4⟩ := id hM
  show Ev tb 26 0 [some (.ref a), some (.int (nI k))] [] H _
  refine ev_aload_n i26_0 rfl ?_
  refine ev_iload_n i26_1 rfl ?_
  refine ev_callV (vs := [.int (nI k)]) (rest := []) i26_2 ci26 lk3_62 (congrArg (fun q => q + 1) np23) ci23 (by decide) (by decide +kernel) (Nat.le_of_ble_eq_true rfl) ⟨rfl, rfl, Nat.le_of_ble_eq_true rfl⟩ rfl (by assumption) (c23 (by assumption) (by omega) (by omega)) (fun r HH hq => ?_)
  obtain ⟨rfl, rfl⟩ := hq
  show Ev tb 26 5 [some (.ref a), some (.int (nI k))] [.int (bI (he.testBit k))] H _
  refine evb_if_eq (t := 17) i26_5 (by decide) (fun z5 => ?_) (fun z5 => ?_)
  · refine ev_bipush (v := (-9)) i26_17 (by decide) ?_
    refine ev_iret i26_19 (by decide +kernel) ?_
    first | exact ⟨rfl, rfl⟩ | (exfalso; simp_all)
  · refine ev_aload_n i26_8 rfl ?_
    refine ev_get i26_9 ci26 fl3_18 (by assumption) rfl ?_
    refine ev_iload_n i26_12 rfl ?_
    refine ev_iald_n i26_13 (by assumption) (by omega) ?_
    refine ev_goto (t := 19) i26_14 (by decide) ?_
    refine ev_iret i26_19 (by decide +kernel) ?_
    first | exact ⟨rfl, rfl⟩ | (exfalso; simp_all)
/-- one of d from j on -/
def anyB (p : Nat → Bool) : Nat → Nat → Bool
  | 0, _ => false
  | d + 1, j => p j || anyB p d (j + 1)
theorem anyB_iff {p : Nat → Bool} : ∀ {d j : Nat}, anyB p d j = true ↔ ∃ i, j ≤ i ∧ i < j + d ∧ p i = true
  | 0, j => ⟨fun h => (by cases h), fun ⟨i, h1, h2, _⟩ => (by omega)⟩
  | d + 1, j => by
    unfold anyB
    rw [Bool.or_eq_true, anyB_iff]
    constructor
    · rintro (h | ⟨i, h1, h2, h3⟩)
      · exact ⟨j, by omega, by omega, h⟩
      · exact ⟨i, by omega, by omega, h3⟩
    · rintro ⟨i, h1, h2, h3⟩
      by_cases hi : i = j
      · subst hi; exact Or.inl h3
      · exact Or.inr ⟨i, by omega, by omega, h3⟩
theorem lq30 {tb : dxT} {H : dxH} {a c : Nat} {cl ce fu : Nat → Nat} {pa : Nat → Int32} {he : Nat} {sn : Bool} {ho wa : Int32} (hM : MdwAt H a cl ce fu pa he sn ho wa) (hb : he < 64) (ha : 6 ≤ a) (hce : ∀ j, ce j < 10) (hc : c < 2147483648) : ∀ (d k : Nat), k + d = 6 → Ev tb 30 2 [some (.ref a), some (.int (nI c)), some (.int (nI k))] [] H (Rt (.int (bI (anyB (fun i => he.testBit i && decide (ce i = c)) d k))) H)
  | 0, k, hk => by
    obtain ⟨m0, m1, m2, m3, m4⟩ := id hM
    obtain rfl : k = 6 := by omega
    show Ev tb 30 2 [some (.ref a), some (.int (nI c)), some (.int (nI 6))] [] H _
    refine ev_iload_n i30_2 rfl ?_
    refine ev_bipush (v := nI 6) i30_3 (by decide) ?_
    refine evn_icmp_ge (t := 34) i30_5 (by decide) (by omega) (fun z5 => ?_) (fun z5 => by exfalso; omega)
    refine ev_iconst (v := nI 0) i30_34 (by decide) ?_
    refine ev_zret i30_35 (by decide +kernel) (by decide) ?_
    exact ⟨rfl, rfl⟩
  | d + 1, k, hk => by
    obtain ⟨m0, m1, m2, m3, m4⟩ := id hM
    have hck := hce k
    unfold anyB
    show Ev tb 30 2 [some (.ref a), some (.int (nI c)), some (.int (nI k))] [] H _
    refine ev_iload_n i30_2 rfl ?_
    refine ev_bipush (v := nI 6) i30_3 (by decide) ?_
    refine evn_icmp_ge (t := 34) i30_5 (by decide) (by omega) (fun z5 => by exfalso; omega) (fun z5 => ?_)
    refine ev_aload_n i30_8 rfl ?_
    refine ev_iload_n i30_9 rfl ?_
    refine ev_callV (vs := [.int (nI k)]) (rest := []) i30_10 ci30 lk3_62 (congrArg (fun q => q + 1) np23) ci23 (by decide) (by decide +kernel) (Nat.le_of_ble_eq_true rfl) ⟨rfl, rfl, Nat.le_of_ble_eq_true rfl⟩ rfl (by assumption) (c23 (by assumption) (by omega) (by omega)) (fun r HH hq => ?_)
    obtain ⟨rfl, rfl⟩ := hq
    show Ev tb 30 13 [some (.ref a), some (.int (nI c)), some (.int (nI k))] [.int (bI (he.testBit k))] H _
    refine evb_if_eq (t := 28) i30_13 (by decide) (fun z13 => ?_) (fun z13 => ?_)
    · refine evn_iinc (d := 1) (L' := [some (.ref a), some (.int (nI c)), some (.int (nI (k + 1)))]) i30_28 rfl rfl (by decide) rfl ?_
      refine ev_goto (t := 2) i30_31 (by decide) ?_
      refine (lq30 hM hb ha hce hc d (k + 1) (by omega)).post (fun r H' hq => ⟨hq.1.trans ?_, hq.2⟩)
      simp [*]
    · refine ev_aload_n i30_16 rfl ?_
      refine ev_get i30_17 ci30 fl3_15 (by assumption) rfl ?_
      refine ev_iload_n i30_20 rfl ?_
      refine ev_iald_n i30_21 (by assumption) (by omega) ?_
      refine ev_iload_n i30_22 rfl ?_
      refine evn_icmp_ne (t := 28) i30_23 (by decide) (by omega) (fun z23 => ?_) (fun z23 => ?_)
      · refine evn_iinc (d := 1) (L' := [some (.ref a), some (.int (nI c)), some (.int (nI (k + 1)))]) i30_28 rfl rfl (by decide) rfl ?_
        refine ev_goto (t := 2) i30_31 (by decide) ?_
        refine (lq30 hM hb ha hce hc d (k + 1) (by omega)).post (fun r H' hq => ⟨hq.1.trans ?_, hq.2⟩)
        simp [*]
      · refine ev_iconst (v := nI 1) i30_26 (by decide) ?_
        refine ev_zret i30_27 (by decide +kernel) (by decide) ?_
        exact ⟨zt (by simp [*]), rfl⟩
theorem c30 {tb : dxT} {H : dxH} {a c : Nat} {cl ce fu : Nat → Nat} {pa : Nat → Int32} {he : Nat} {sn : Bool} {ho wa : Int32} (hM : MdwAt H a cl ce fu pa he sn ho wa) (hb : he < 64) (ha : 6 ≤ a) (hce : ∀ j, ce j < 10) (hc : c < 2147483648) : Cl tb 30 [.ref a, .int (nI c)] H (Rt (.int (bI (anyB (fun i => he.testBit i && decide (ce i = c)) 6 0))) H) := by
  show Ev tb 30 0 [some (.ref a), some (.int (nI c)), none] [] H _
  refine ev_iconst (v := nI 0) i30_0 (by decide) ?_
  refine ev_istore_n (L' := [some (.ref a), some (.int (nI c)), some (.int (nI 0))]) i30_1 ⟨Nat.le_of_ble_eq_true rfl, rfl⟩ rfl ?_
  exact lq30 hM hb ha hce hc 6 0 rfl
theorem c31 {tb : dxT} {H : dxH} {a c : Nat} {cl ce fu : Nat → Nat} {pa : Nat → Int32} {he : Nat} {sn : Bool} {ho wa : Int32} (hM : MdwAt H a cl ce fu pa he sn ho wa) (hb : he < 64) (ha : 6 ≤ a) (hc : c < 10) : Cl tb 31 [.ref a, .int (nI c)] H (Rt (.int (nI (cl c))) H) := by
  obtain ⟨m0, m1, m2, m3, m4⟩ := id hM
  show Ev tb 31 0 [some (.ref a), some (.int (nI c))] [] H _
  refine ev_iload_n i31_0 rfl ?_
  refine ev_callS (vs := [.int (nI c)]) (rest := []) i31_1 ci31 lk3_69 (Or.inr rfl) np96 (by decide +kernel) (Nat.le_of_ble_eq_true rfl) ⟨rfl, rfl, Nat.le_of_ble_eq_true rfl⟩ rfl (c96n (by omega)) (fun r HH hq => ?_)
  obtain ⟨rfl, rfl⟩ := hq
  show Ev tb 31 4 [some (.ref a), some (.int (nI c))] [.int (bI (decide (c < 10)))] H _
  refine evd_if_eq (t := 16) i31_4 (by decide) (fun z4 => ?_) (fun z4 => ?_)
  · refine ev_iconst (v := nI 0) i31_16 (by decide) ?_
    refine ev_iret i31_17 (by decide +kernel) ?_
    exfalso; omega
  · refine ev_aload_n i31_7 rfl ?_
    refine ev_get i31_8 ci31 fl3_9 (by assumption) rfl ?_
    refine ev_iload_n i31_11 rfl ?_
    refine ev_iald_n i31_12 (by assumption) (by omega) ?_
    refine ev_goto (t := 17) i31_13 (by decide) ?_
    refine ev_iret i31_17 (by decide +kernel) ?_
    exact ⟨rfl, rfl⟩
theorem c31f {tb : dxT} {H : dxH} {a : Nat} {cl ce fu : Nat → Nat} {pa : Nat → Int32} {he : Nat} {sn : Bool} {ho wa : Int32} (hM : MdwAt H a cl ce fu pa he sn ho wa) (hb : he < 64) (ha : 6 ≤ a) : Cl tb 31 [.ref a, .int (-9)] H (Rt (.int (nI 0)) H) := by
  obtain ⟨m0, m1, m2, m3, m4⟩ := id hM
  show Ev tb 31 0 [some (.ref a), some (.int (-9))] [] H _
  refine ev_iload_n i31_0 rfl ?_
  refine ev_callS (vs := [.int (-9)]) (rest := []) i31_1 ci31 lk3_69 (Or.inr rfl) np96 (by decide +kernel) (Nat.le_of_ble_eq_true rfl) ⟨rfl, rfl, Nat.le_of_ble_eq_true rfl⟩ rfl (c96) (fun r HH hq => ?_)
  obtain ⟨rfl, rfl⟩ := hq
  show Ev tb 31 4 [some (.ref a), some (.int (-9))] [.int (bI (inR (-9) 10))] H _
  refine evb_if_eq (t := 16) i31_4 (by decide) (fun z4 => ?_) (fun z4 => ?_)
  · refine ev_iconst (v := nI 0) i31_16 (by decide) ?_
    refine ev_iret i31_17 (by decide +kernel) ?_
    exact ⟨rfl, rfl⟩
  · exact absurd z4 (by decide)
theorem c32 {tb : dxT} {H : dxH} {a c x : Nat} {cl ce fu : Nat → Nat} {pa : Nat → Int32} {he : Nat} {sn : Bool} {ho wa : Int32} (hM : MdwAt H a cl ce fu pa he sn ho wa) (hb : he < 64) (ha : 6 ≤ a) (hc : c < 10) : Cl tb 32 [.ref a, .int (nI c), .int (nI x)] H (fun r H' => r = none ∧ MdwAt H' a (updN cl c x) ce fu pa he sn ho wa ∧ Off (mdC a) H H') := by
  obtain ⟨m0, m1, m2, m3, m4⟩ := id hM
  have hO : Off (mdC a) H H := Off.rf
  show Ev tb 32 0 [some (.ref a), some (.int (nI c)), some (.int (nI x))] [] H _
  refine ev_iload_n i32_0 rfl ?_
  refine ev_callS (vs := [.int (nI c)]) (rest := []) i32_1 ci32 lk3_69 (Or.inr rfl) np96 (by decide +kernel) (Nat.le_of_ble_eq_true rfl) ⟨rfl, rfl, Nat.le_of_ble_eq_true rfl⟩ rfl (c96n (by omega)) (fun r HH hq => ?_)
  obtain ⟨rfl, rfl⟩ := hq
  show Ev tb 32 4 [some (.ref a), some (.int (nI c)), some (.int (nI x))] [.int (bI (decide (c < 10)))] H _
  refine evd_if_eq (t := 14) i32_4 (by decide) (fun z4 => ?_) (fun z4 => ?_)
  · refine ev_vret i32_14 (by decide +kernel) ?_
    exfalso; omega
  · refine ev_aload_n i32_7 rfl ?_
    refine ev_get i32_8 ci32 fl3_9 (by assumption) rfl ?_
    refine ev_iload_n i32_11 rfl ?_
    refine ev_iload_n i32_12 rfl ?_
    refine evs_iastn i32_13 (by assumption) (by omega) (fun H1 hH1 => ?_)
    have m0 : H1[a]? = some (.inr (3, [.ref 3, .ref (a + 1), .ref (a + 2), .ref (a + 3), .ref (a + 4), .int (nI he), .int (bI sn), .int ho, .int wa])) := by rw [hH1]; exact set_ne m0 (by omega)
    have m1 : H1[a + 1]? = some (IA 10 (updN cl c x)) := by rw [hH1]; exact set_self m1
    have m2 : H1[a + 2]? = some (IA 6 ce) := by rw [hH1]; exact set_ne m2 (by omega)
    have m3 : H1[a + 3]? = some (IA 6 fu) := by rw [hH1]; exact set_ne m3 (by omega)
    have m4 : H1[a + 4]? = some (.inl (0, 2, .inl pa)) := by rw [hH1]; exact set_ne m4 (by omega)
    have hO : Off (mdC a) H H1 := by rw [hH1]; exact hO.set (by exact ⟨by omega, by omega⟩)
    refine ev_vret i32_14 (by decide +kernel) ?_
    exact ⟨rfl, ⟨m0, m1, m2, m3, m4⟩, hO⟩
theorem c33 {tb : dxT} {H : dxH} {a c : Nat} {cl ce fu : Nat → Nat} {pa : Nat → Int32} {he : Nat} {sn : Bool} {ho wa : Int32} (hM : MdwAt H a cl ce fu pa he sn ho wa) (hb : he < 64) (ha : 6 ≤ a) (hcl : ∀ j, cl j < 10) (hc : c < 10) : Cl tb 33 [.ref a, .int (nI c)] H (Rt (.int (bI (decide (cl c < 9)))) H) := by
  obtain ⟨m0, m1, m2, m3, m4⟩ := id hM
  have hcc := hcl c
  show Ev tb 33 0 [some (.ref a), some (.int (nI c))] [] H _
  refine ev_iload_n i33_0 rfl ?_
  refine ev_callS (vs := [.int (nI c)]) (rest := []) i33_1 ci33 lk3_69 (Or.inr rfl) np96 (by decide +kernel) (Nat.le_of_ble_eq_true rfl) ⟨rfl, rfl, Nat.le_of_ble_eq_true rfl⟩ rfl (c96n (by omega)) (fun r HH hq => ?_)
  obtain ⟨rfl, rfl⟩ := hq
  show Ev tb 33 4 [some (.ref a), some (.int (nI c))] [.int (bI (decide (c < 10)))] H _
  refine evd_if_eq (t := 22) i33_4 (by decide) (fun z4 => ?_) (fun z4 => ?_)
  · refine ev_iconst (v := nI 0) i33_22 (by decide) ?_
    refine ev_zret i33_23 (by decide +kernel) (by decide) ?_
    exact ⟨zf (decide_eq_false (by omega)), rfl⟩
  · refine ev_aload_n i33_7 rfl ?_
    refine ev_get i33_8 ci33 fl3_9 (by assumption) rfl ?_
    refine ev_iload_n i33_11 rfl ?_
    refine ev_iald_n i33_12 (by assumption) (by omega) ?_
    refine ev_bipush (v := nI 9) i33_13 (by decide) ?_
    refine evn_icmp_ge (t := 22) i33_15 (by decide) (by omega) (fun z15 => ?_) (fun z15 => ?_)
    · refine ev_iconst (v := nI 0) i33_22 (by decide) ?_
      refine ev_zret i33_23 (by decide +kernel) (by decide) ?_
      exact ⟨zf (decide_eq_false (by omega)), rfl⟩
    · refine ev_iconst (v := nI 1) i33_18 (by decide) ?_
      refine ev_goto (t := 23) i33_19 (by decide) ?_
      refine ev_zret i33_23 (by decide +kernel) (by decide) ?_
      exact ⟨zt (decide_eq_true (by omega)), rfl⟩
theorem c34 {tb : dxT} {H : dxH} {a c : Nat} {cl ce fu : Nat → Nat} {pa : Nat → Int32} {he : Nat} {sn : Bool} {ho wa : Int32} (hM : MdwAt H a cl ce fu pa he sn ho wa) (hb : he < 64) (ha : 6 ≤ a) (hcl : ∀ j, cl j < 10) (hc : c < 10) : Cl tb 34 [.ref a, .int (nI c)] H (fun r H' => r = none ∧ MdwAt H' a (if cl c < 9 then updN cl c (cl c + 1) else cl) ce fu pa he sn ho wa ∧ Off (mdC a) H H') := by
  obtain ⟨m0, m1, m2, m3, m4⟩ := id hM
  have hO : Off (mdC a) H H := Off.rf
  have hcc := hcl c
  show Ev tb 34 0 [some (.ref a), some (.int (nI c))] [] H _
  refine ev_aload_n i34_0 rfl ?_
  refine ev_iload_n i34_1 rfl ?_
  refine ev_callV (vs := [.int (nI c)]) (rest := []) i34_2 ci34 lk3_81 (congrArg (fun q => q + 1) np33) ci33 (by decide) (by decide +kernel) (Nat.le_of_ble_eq_true rfl) ⟨rfl, rfl, Nat.le_of_ble_eq_true rfl⟩ rfl (by assumption) (c33 (by assumption) hb ha hcl (by omega)) (fun r HH hq => ?_)
  obtain ⟨rfl, rfl⟩ := hq
  show Ev tb 34 5 [some (.ref a), some (.int (nI c))] [.int (bI (decide (cl c < 9)))] H _
  refine evd_if_eq (t := 18) i34_5 (by decide) (fun z5 => ?_) (fun z5 => ?_)
  · refine ev_vret i34_18 (by decide +kernel) ?_
    rw [if_neg (by assumption)]
    exact ⟨rfl, ⟨m0, m1, m2, m3, m4⟩, hO⟩
  · refine ev_aload_n i34_8 rfl ?_
    refine ev_get i34_9 ci34 fl3_9 (by assumption) rfl ?_
    refine ev_iload_n i34_12 rfl ?_
    refine ev_dup2 i34_13 rfl rfl ?_
    refine ev_iald_n i34_14 (by assumption) (by omega) ?_
    refine ev_iconst (v := nI 1) i34_15 (by decide) ?_
    refine evn_iadd i34_16 ?_
    refine evs_iastn i34_17 (by assumption) (by omega) (fun H1 hH1 => ?_)
    have m0 : H1[a]? = some (.inr (3, [.ref 3, .ref (a + 1), .ref (a + 2), .ref (a + 3), .ref (a + 4), .int (nI he), .int (bI sn), .int ho, .int wa])) := by rw [hH1]; exact set_ne m0 (by omega)
    have m1 : H1[a + 1]? = some (IA 10 (updN cl c ((cl c) + 1))) := by rw [hH1]; exact set_self m1
    have m2 : H1[a + 2]? = some (IA 6 ce) := by rw [hH1]; exact set_ne m2 (by omega)
    have m3 : H1[a + 3]? = some (IA 6 fu) := by rw [hH1]; exact set_ne m3 (by omega)
    have m4 : H1[a + 4]? = some (.inl (0, 2, .inl pa)) := by rw [hH1]; exact set_ne m4 (by omega)
    have hO : Off (mdC a) H H1 := by rw [hH1]; exact hO.set (by exact ⟨by omega, by omega⟩)
    refine ev_vret i34_18 (by decide +kernel) ?_
    rw [if_pos (by assumption)]
    exact ⟨rfl, ⟨m0, m1, m2, m3, m4⟩, hO⟩
theorem c35 {tb : dxT} {H : dxH} {a : Nat} {cl ce fu : Nat → Nat} {pa : Nat → Int32} {he : Nat} {sn : Bool} {ho wa : Int32} (hM : MdwAt H a cl ce fu pa he sn ho wa) : Cl tb 35 [.ref a] H (Rt (.int (bI sn)) H) := by
  obtain ⟨m0, m1, m2, m3, m4⟩ := id hM
  show Ev tb 35 0 [some (.ref a)] [] H _
  refine ev_aload_n i35_0 rfl ?_
  refine ev_get i35_1 ci35 fl3_32 (by assumption) rfl ?_
  refine ev_zret i35_4 (by decide +kernel) (bI_and _) ?_
  exact ⟨rfl, rfl⟩
theorem c38 {tb : dxT} {H : dxH} {a : Nat} {cl ce fu : Nat → Nat} {pa : Nat → Int32} {he : Nat} {sn : Bool} {ho wa : Int32} (hM : MdwAt H a cl ce fu pa he sn ho wa) : Cl tb 38 [.ref a] H (Rt (.int ho) H) := by
  obtain ⟨m0, m1, m2, m3, m4⟩ := id hM
  show Ev tb 38 0 [some (.ref a)] [] H _
  refine ev_aload_n i38_0 rfl ?_
  refine ev_get i38_1 ci38 fl3_36 (by assumption) rfl ?_
  refine ev_iret i38_4 (by decide +kernel) ?_
  exact ⟨rfl, rfl⟩
theorem c39 {tb : dxT} {H : dxH} {a : Nat} {cl ce fu : Nat → Nat} {pa : Nat → Int32} {he : Nat} {sn : Bool} {ho wa : Int32} (hM : MdwAt H a cl ce fu pa he sn ho wa) : Cl tb 39 [.ref a] H (Rt (.int wa) H) := by
  obtain ⟨m0, m1, m2, m3, m4⟩ := id hM
  show Ev tb 39 0 [some (.ref a)] [] H _
  refine ev_aload_n i39_0 rfl ?_
  refine ev_get i39_1 ci39 fl3_39 (by assumption) rfl ?_
  refine ev_iret i39_4 (by decide +kernel) ?_
  exact ⟨rfl, rfl⟩
theorem c37 {tb : dxT} {H : dxH} {a s : Nat} {cl ce fu : Nat → Nat} {pa : Nat → Int32} {he : Nat} {sn : Bool} {ho wa : Int32} (hM : MdwAt H a cl ce fu pa he sn ho wa) (hs : s < 2) : Cl tb 37 [.ref a, .int (nI s)] H (Rt (.int (pa s)) H) := by
  obtain ⟨m0, m1, m2, m3, m4⟩ := id hM
  show Ev tb 37 0 [some (.ref a), some (.int (nI s))] [] H _
  refine ev_iload_n i37_0 rfl ?_
  refine ev_callS (vs := [.int (nI s)]) (rest := []) i37_1 ci37 lk3_84 (Or.inr rfl) np97 (by decide +kernel) (Nat.le_of_ble_eq_true rfl) ⟨rfl, rfl, Nat.le_of_ble_eq_true rfl⟩ rfl (c97n (by omega)) (fun r HH hq => ?_)
  obtain ⟨rfl, rfl⟩ := hq
  show Ev tb 37 4 [some (.ref a), some (.int (nI s))] [.int (bI (decide (s < 2)))] H _
  refine evd_if_eq (t := 16) i37_4 (by decide) (fun z4 => ?_) (fun z4 => ?_)
  · refine ev_iconst (v := nI 0) i37_16 (by decide) ?_
    refine ev_iret i37_17 (by decide +kernel) ?_
    exfalso; omega
  · refine ev_aload_n i37_7 rfl ?_
    refine ev_get i37_8 ci37 fl3_21 (by assumption) rfl ?_
    refine ev_iload_n i37_11 rfl ?_
    refine ev_iald_n i37_12 (by assumption) (by omega) ?_
    refine ev_goto (t := 17) i37_13 (by decide) ?_
    refine ev_iret i37_17 (by decide +kernel) ?_
    exact ⟨rfl, rfl⟩
theorem c36 {tb : dxT} {H : dxH} {a : Nat} {b : Bool} {cl ce fu : Nat → Nat} {pa : Nat → Int32} {he : Nat} {sn : Bool} {ho wa : Int32} (hM : MdwAt H a cl ce fu pa he sn ho wa) (ha : 6 ≤ a) : Cl tb 36 [.ref a, .int (bI b)] H (fun r H' => r = none ∧ MdwAt H' a cl ce fu pa he b ho wa ∧ Off (mdC a) H H') := by
  obtain ⟨m0, m1, m2, m3, m4⟩ := id hM
  have hO : Off (mdC a) H H := Off.rf
  show Ev tb 36 0 [some (.ref a), some (.int (bI b))] [] H _
  refine ev_aload_n i36_0 rfl ?_
  refine ev_iload_n i36_1 rfl ?_
  refine evs_put (fs' := [.ref 3, .ref (a + 1), .ref (a + 2), .ref (a + 3), .ref (a + 4), .int (nI he), .int (bI b), .int ho, .int wa]) i36_2 ci36 fl3_32 (by assumption) ⟨Nat.le_of_ble_eq_true rfl, dxFit_b _, Or.inl rfl⟩ rfl (fun H1 hH1 => ?_)
  have m0 : H1[a]? = some (.inr (3, [.ref 3, .ref (a + 1), .ref (a + 2), .ref (a + 3), .ref (a + 4), .int (nI he), .int (bI b), .int ho, .int wa])) := by rw [hH1]; exact set_self m0
  have m1 : H1[a + 1]? = some (IA 10 cl) := by rw [hH1]; exact set_ne m1 (by omega)
  have m2 : H1[a + 2]? = some (IA 6 ce) := by rw [hH1]; exact set_ne m2 (by omega)
  have m3 : H1[a + 3]? = some (IA 6 fu) := by rw [hH1]; exact set_ne m3 (by omega)
  have m4 : H1[a + 4]? = some (.inl (0, 2, .inl pa)) := by rw [hH1]; exact set_ne m4 (by omega)
  have hO : Off (mdC a) H H1 := by rw [hH1]; exact hO.set (by exact ⟨by omega, by omega⟩)
  refine ev_vret i36_5 (by decide +kernel) ?_
  exact ⟨rfl, ⟨m0, m1, m2, m3, m4⟩, hO⟩
theorem c40 {tb : dxT} {H : dxH} {a k n : Nat} {sd kd cl ce fu : Nat → Nat} {pa : Nat → Int32} {he : Nat} {sn : Bool} {ho wa : Int32} (hM : MdwAt H a cl ce fu pa he sn ho wa) (hH : HrdAt H n sd kd) (hb : he < 64) (ha : 6 ≤ a) (hfu : ∀ j, fu j < 10) (hkd : ∀ j, kd j < 4) (hk : k < 6) : Cl tb 40 [.ref a, .int (nI k)] H (Rt (.int (bI (he.testBit k && dueB (kd k) (fu k)))) H) := by
  obtain ⟨m0, m1, m2, m3, m4⟩ := id hM
  obtain ⟨g0, g1, g2⟩ := id hH
  have hfk := hfu k
  have hkk := hkd k
  show Ev tb 40 0 [some (.ref a), some (.int (nI k)), none] [] H _
  refine ev_aload_n i40_0 rfl ?_
  refine ev_get i40_1 ci40 fl3_24 (by assumption) rfl ?_
  refine ev_iload_n i40_4 rfl ?_
  refine ev_callV (vs := [.int (nI k)]) (rest := []) i40_5 ci40 lk3_87 (congrArg (fun q => q + 1) np17) ci17 (by decide) (by decide +kernel) (Nat.le_of_ble_eq_true rfl) ⟨rfl, rfl, Nat.le_of_ble_eq_true rfl⟩ rfl (by assumption) (c17 (by assumption) (by omega)) (fun r HH hq => ?_)
  obtain ⟨rfl, rfl⟩ := hq
  show Ev tb 40 8 [some (.ref a), some (.int (nI k)), none] [.int (nI (kd k))] H _
  refine ev_istore_n (L' := [some (.ref a), some (.int (nI k)), some (.int (nI (kd k)))]) i40_8 ⟨Nat.le_of_ble_eq_true rfl, rfl⟩ rfl ?_
  refine ev_aload_n i40_9 rfl ?_
  refine ev_iload_n i40_10 rfl ?_
  refine ev_callV (vs := [.int (nI k)]) (rest := []) i40_11 ci40 lk3_62 (congrArg (fun q => q + 1) np23) ci23 (by decide) (by decide +kernel) (Nat.le_of_ble_eq_true rfl) ⟨rfl, rfl, Nat.le_of_ble_eq_true rfl⟩ rfl (by assumption) (c23 (by assumption) (by omega) (by omega)) (fun r HH hq => ?_)
  obtain ⟨rfl, rfl⟩ := hq
  show Ev tb 40 14 [some (.ref a), some (.int (nI k)), some (.int (nI (kd k)))] [.int (bI (he.testBit k))] H _
  refine evb_if_eq (t := 47) i40_14 (by decide) (fun z14 => ?_) (fun z14 => ?_)
  · refine ev_iconst (v := nI 0) i40_47 (by decide) ?_
    refine ev_zret i40_48 (by decide +kernel) (by decide) ?_
    exact ⟨zf (by simp [dueB, *] <;> omega), rfl⟩
  · refine ev_iload_n i40_17 rfl ?_
    refine ev_iconst (v := nI 2) i40_18 (by decide) ?_
    refine evn_icmp_eq (t := 47) i40_19 (by decide) (by omega) (fun z19 => ?_) (fun z19 => ?_)
    · refine ev_iconst (v := nI 0) i40_47 (by decide) ?_
      refine ev_zret i40_48 (by decide +kernel) (by decide) ?_
      exact ⟨zf (by simp [dueB, *] <;> omega), rfl⟩
    · refine ev_aload_n i40_22 rfl ?_
      refine ev_get i40_23 ci40 fl3_18 (by assumption) rfl ?_
      refine ev_iload_n i40_26 rfl ?_
      refine ev_iald_n i40_27 (by assumption) (by omega) ?_
      refine ev_iload_n i40_28 rfl ?_
      refine ev_iconst (v := nI 1) i40_29 (by decide) ?_
      refine evn_icmp_ne (t := 38) i40_30 (by decide) (by omega) (fun z30 => ?_) (fun z30 => ?_)
      · refine ev_bipush (v := nI 6) i40_38 (by decide) ?_
        refine evn_icmp_lt (t := 47) i40_40 (by decide) (by omega) (fun z40 => ?_) (fun z40 => ?_)
        · refine ev_iconst (v := nI 0) i40_47 (by decide) ?_
          refine ev_zret i40_48 (by decide +kernel) (by decide) ?_
          exact ⟨zf (by simp [dueB, *] <;> omega), rfl⟩
        · refine ev_iconst (v := nI 1) i40_43 (by decide) ?_
          refine ev_goto (t := 48) i40_44 (by decide) ?_
          refine ev_zret i40_48 (by decide +kernel) (by decide) ?_
          exact ⟨zt (by simp [dueB, *] <;> omega), rfl⟩
      · refine ev_bipush (v := nI 9) i40_33 (by decide) ?_
        refine ev_goto (t := 40) i40_35 (by decide) ?_
        refine evn_icmp_lt (t := 47) i40_40 (by decide) (by omega) (fun z40 => ?_) (fun z40 => ?_)
        · refine ev_iconst (v := nI 0) i40_47 (by decide) ?_
          refine ev_zret i40_48 (by decide +kernel) (by decide) ?_
          exact ⟨zf (by simp [dueB, *] <;> omega), rfl⟩
        · refine ev_iconst (v := nI 1) i40_43 (by decide) ?_
          refine ev_goto (t := 48) i40_44 (by decide) ?_
          refine ev_zret i40_48 (by decide +kernel) (by decide) ?_
          exact ⟨zt (by simp [dueB, *] <;> omega), rfl⟩
theorem c41 {tb : dxT} {H : dxH} {a k n : Nat} {sd kd cl ce fu : Nat → Nat} {pa : Nat → Int32} {he : Nat} {sn : Bool} {ho wa : Int32} (hM : MdwAt H a cl ce fu pa he sn ho wa) (hH : HrdAt H n sd kd) (hb : he < 64) (ha : 6 ≤ a) (hfu : ∀ j, fu j < 10) (hkd : ∀ j, kd j < 4) (hk : k < 6) : Cl tb 41 [.ref a, .int (nI k)] H (Rt (.int (bI (he.testBit k && wrnB (kd k) (fu k)))) H) := by
  obtain ⟨m0, m1, m2, m3, m4⟩ := id hM
  obtain ⟨g0, g1, g2⟩ := id hH
  have hfk := hfu k
  have hkk := hkd k
  show Ev tb 41 0 [some (.ref a), some (.int (nI k))] [] H _
  refine ev_aload_n i41_0 rfl ?_
  refine ev_iload_n i41_1 rfl ?_
  refine ev_callV (vs := [.int (nI k)]) (rest := []) i41_2 ci41 lk3_62 (congrArg (fun q => q + 1) np23) ci23 (by decide) (by decide +kernel) (Nat.le_of_ble_eq_true rfl) ⟨rfl, rfl, Nat.le_of_ble_eq_true rfl⟩ rfl (by assumption) (c23 (by assumption) (by omega) (by omega)) (fun r HH hq => ?_)
  obtain ⟨rfl, rfl⟩ := hq
  show Ev tb 41 5 [some (.ref a), some (.int (nI k))] [.int (bI (he.testBit k))] H _
  refine evb_if_eq (t := 34) i41_5 (by decide) (fun z5 => ?_) (fun z5 => ?_)
  · refine ev_iconst (v := nI 0) i41_34 (by decide) ?_
    refine ev_zret i41_35 (by decide +kernel) (by decide) ?_
    exact ⟨zf (by simp [wrnB, *] <;> omega), rfl⟩
  · refine ev_aload_n i41_8 rfl ?_
    refine ev_get i41_9 ci41 fl3_24 (by assumption) rfl ?_
    refine ev_iload_n i41_12 rfl ?_
    refine ev_callV (vs := [.int (nI k)]) (rest := []) i41_13 ci41 lk3_87 (congrArg (fun q => q + 1) np17) ci17 (by decide) (by decide +kernel) (Nat.le_of_ble_eq_true rfl) ⟨rfl, rfl, Nat.le_of_ble_eq_true rfl⟩ rfl (by assumption) (c17 (by assumption) (by omega)) (fun r HH hq => ?_)
    obtain ⟨rfl, rfl⟩ := hq
    show Ev tb 41 16 [some (.ref a), some (.int (nI k))] [.int (nI (kd k))] H _
    refine ev_iconst (v := nI 3) i41_16 (by decide) ?_
    refine evn_icmp_ne (t := 34) i41_17 (by decide) (by omega) (fun z17 => ?_) (fun z17 => ?_)
    · refine ev_iconst (v := nI 0) i41_34 (by decide) ?_
      refine ev_zret i41_35 (by decide +kernel) (by decide) ?_
      exact ⟨zf (by simp [wrnB, *] <;> omega), rfl⟩
    · refine ev_aload_n i41_20 rfl ?_
      refine ev_get i41_21 ci41 fl3_18 (by assumption) rfl ?_
      refine ev_iload_n i41_24 rfl ?_
      refine ev_iald_n i41_25 (by assumption) (by omega) ?_
      refine ev_iconst (v := nI 5) i41_26 (by decide) ?_
      refine evn_icmp_ne (t := 34) i41_27 (by decide) (by omega) (fun z27 => ?_) (fun z27 => ?_)
      · refine ev_iconst (v := nI 0) i41_34 (by decide) ?_
        refine ev_zret i41_35 (by decide +kernel) (by decide) ?_
        exact ⟨zf (by simp [wrnB, *] <;> omega), rfl⟩
      · refine ev_iconst (v := nI 1) i41_30 (by decide) ?_
        refine ev_goto (t := 35) i41_31 (by decide) ?_
        refine ev_zret i41_35 (by decide +kernel) (by decide) ?_
        exact ⟨zt (by simp [wrnB, *] <;> omega), rfl⟩
theorem c27 {tb : dxT} {H : dxH} {a k c : Nat} {cl ce fu : Nat → Nat} {pa : Nat → Int32} {he : Nat} {sn : Bool} {ho wa : Int32} (hM : MdwAt H a cl ce fu pa he sn ho wa) (hb : he < 64) (ha : 6 ≤ a) (hk : k < 6) (ht : he.testBit k = true) (hc : c < 10) : Cl tb 27 [.ref a, .int (nI k), .int (nI c)] H (fun r H' => r = none ∧ MdwAt H' a cl (updN ce k c) fu pa he sn ho wa ∧ Off (mdC a) H H') := by
  obtain ⟨m0, m1, m2, m3, m4⟩ := id hM
  have hO : Off (mdC a) H H := Off.rf
  show Ev tb 27 0 [some (.ref a), some (.int (nI k)), some (.int (nI c))] [] H _
  refine ev_aload_n i27_0 rfl ?_
  refine ev_iload_n i27_1 rfl ?_
  refine ev_callV (vs := [.int (nI k)]) (rest := []) i27_2 ci27 lk3_62 (congrArg (fun q => q + 1) np23) ci23 (by decide) (by decide +kernel) (Nat.le_of_ble_eq_true rfl) ⟨rfl, rfl, Nat.le_of_ble_eq_true rfl⟩ rfl (by assumption) (c23 (by assumption) (by omega) (by omega)) (fun r HH hq => ?_)
  obtain ⟨rfl, rfl⟩ := hq
  show Ev tb 27 5 [some (.ref a), some (.int (nI k)), some (.int (nI c))] [.int (bI (he.testBit k))] H _
  refine evb_if_eq (t := 22) i27_5 (by decide) (fun z5 => ?_) (fun z5 => ?_)
  · refine ev_vret i27_22 (by decide +kernel) ?_
    exfalso; simp_all
  · refine ev_iload_n i27_8 rfl ?_
    refine ev_callS (vs := [.int (nI c)]) (rest := []) i27_9 ci27 lk3_69 (Or.inr rfl) np96 (by decide +kernel) (Nat.le_of_ble_eq_true rfl) ⟨rfl, rfl, Nat.le_of_ble_eq_true rfl⟩ rfl (c96n (by omega)) (fun r HH hq => ?_)
    obtain ⟨rfl, rfl⟩ := hq
    show Ev tb 27 12 [some (.ref a), some (.int (nI k)), some (.int (nI c))] [.int (bI (decide (c < 10)))] H _
    refine evd_if_eq (t := 22) i27_12 (by decide) (fun z12 => ?_) (fun z12 => ?_)
    · refine ev_vret i27_22 (by decide +kernel) ?_
      exfalso; simp_all
    · refine ev_aload_n i27_15 rfl ?_
      refine ev_get i27_16 ci27 fl3_15 (by assumption) rfl ?_
      refine ev_iload_n i27_19 rfl ?_
      refine ev_iload_n i27_20 rfl ?_
      refine evs_iastn i27_21 (by assumption) (by omega) (fun H1 hH1 => ?_)
      have m0 : H1[a]? = some (.inr (3, [.ref 3, .ref (a + 1), .ref (a + 2), .ref (a + 3), .ref (a + 4), .int (nI he), .int (bI sn), .int ho, .int wa])) := by rw [hH1]; exact set_ne m0 (by omega)
      have m1 : H1[a + 1]? = some (IA 10 cl) := by rw [hH1]; exact set_ne m1 (by omega)
      have m2 : H1[a + 2]? = some (IA 6 (updN ce k c)) := by rw [hH1]; exact set_self m2
      have m3 : H1[a + 3]? = some (IA 6 fu) := by rw [hH1]; exact set_ne m3 (by omega)
      have m4 : H1[a + 4]? = some (.inl (0, 2, .inl pa)) := by rw [hH1]; exact set_ne m4 (by omega)
      have hO : Off (mdC a) H H1 := by rw [hH1]; exact hO.set (by exact ⟨by omega, by omega⟩)
      refine ev_vret i27_22 (by decide +kernel) ?_
      exact ⟨rfl, ⟨m0, m1, m2, m3, m4⟩, hO⟩
theorem c28 {tb : dxT} {H : dxH} {a k x : Nat} {cl ce fu : Nat → Nat} {pa : Nat → Int32} {he : Nat} {sn : Bool} {ho wa : Int32} (hM : MdwAt H a cl ce fu pa he sn ho wa) (hb : he < 64) (ha : 6 ≤ a) (hk : k < 6) (ht : he.testBit k = true) : Cl tb 28 [.ref a, .int (nI k), .int (nI x)] H (fun r H' => r = none ∧ MdwAt H' a cl ce (updN fu k x) pa he sn ho wa ∧ Off (mdC a) H H') := by
  obtain ⟨m0, m1, m2, m3, m4⟩ := id hM
  have hO : Off (mdC a) H H := Off.rf
  show Ev tb 28 0 [some (.ref a), some (.int (nI k)), some (.int (nI x))] [] H _
  refine ev_aload_n i28_0 rfl ?_
  refine ev_iload_n i28_1 rfl ?_
  refine ev_callV (vs := [.int (nI k)]) (rest := []) i28_2 ci28 lk3_62 (congrArg (fun q => q + 1) np23) ci23 (by decide) (by decide +kernel) (Nat.le_of_ble_eq_true rfl) ⟨rfl, rfl, Nat.le_of_ble_eq_true rfl⟩ rfl (by assumption) (c23 (by assumption) (by omega) (by omega)) (fun r HH hq => ?_)
  obtain ⟨rfl, rfl⟩ := hq
  show Ev tb 28 5 [some (.ref a), some (.int (nI k)), some (.int (nI x))] [.int (bI (he.testBit k))] H _
  refine evb_if_eq (t := 15) i28_5 (by decide) (fun z5 => ?_) (fun z5 => ?_)
  · refine ev_vret i28_15 (by decide +kernel) ?_
    exfalso; simp_all
  · refine ev_aload_n i28_8 rfl ?_
    refine ev_get i28_9 ci28 fl3_18 (by assumption) rfl ?_
    refine ev_iload_n i28_12 rfl ?_
    refine ev_iload_n i28_13 rfl ?_
    refine evs_iastn i28_14 (by assumption) (by omega) (fun H1 hH1 => ?_)
    have m0 : H1[a]? = some (.inr (3, [.ref 3, .ref (a + 1), .ref (a + 2), .ref (a + 3), .ref (a + 4), .int (nI he), .int (bI sn), .int ho, .int wa])) := by rw [hH1]; exact set_ne m0 (by omega)
    have m1 : H1[a + 1]? = some (IA 10 cl) := by rw [hH1]; exact set_ne m1 (by omega)
    have m2 : H1[a + 2]? = some (IA 6 ce) := by rw [hH1]; exact set_ne m2 (by omega)
    have m3 : H1[a + 3]? = some (IA 6 (updN fu k x)) := by rw [hH1]; exact set_self m3
    have m4 : H1[a + 4]? = some (.inl (0, 2, .inl pa)) := by rw [hH1]; exact set_ne m4 (by omega)
    have hO : Off (mdC a) H H1 := by rw [hH1]; exact hO.set (by exact ⟨by omega, by omega⟩)
    refine ev_vret i28_15 (by decide +kernel) ?_
    exact ⟨rfl, ⟨m0, m1, m2, m3, m4⟩, hO⟩
theorem c29z {tb : dxT} {H : dxH} {a : Nat} {cl ce fu : Nat → Nat} {pa : Nat → Int32} {he : Nat} {sn : Bool} {ho wa : Int32} (hM : MdwAt H a cl ce fu pa he sn ho wa) : Cl tb 29 [.ref a, .int (nI 0)] H (fun r H' => r = none ∧ MdwAt H' a cl ce fu pa he sn ho wa ∧ Off (mdC a) H H') := by
  obtain ⟨m0, m1, m2, m3, m4⟩ := id hM
  have hO : Off (mdC a) H H := Off.rf
  show Ev tb 29 0 [some (.ref a), some (.int (nI 0))] [] H _
  refine ev_iload_n i29_0 rfl ?_
  refine evn_if_eq (t := 16) i29_1 (by decide) (by omega) (fun z1 => ?_) (fun z1 => by exfalso; omega)
  refine ev_vret i29_16 (by decide +kernel) ?_
  exact ⟨rfl, ⟨m0, m1, m2, m3, m4⟩, hO⟩
theorem c100 {tb : dxT} {H : dxH} {c : Nat} (hc : 1 ≤ c) (hc2 : c < 1000) : Cl tb 100 [.int (nI c)] H (Rt (.int (nI ((c - 1) / 10))) H) := by
  show Ev tb 100 0 [some (.int (nI c))] [] H _
  refine ev_iload_n i100_0 rfl ?_
  refine ev_iconst (v := nI 1) i100_1 (by decide) ?_
  refine evn_isub i100_2 (by omega) ?_
  refine ev_bipush (v := nI 10) i100_3 (by decide) ?_
  refine evn_idiv i100_5 (by omega) ?_
  refine ev_iret i100_6 (by decide +kernel) ?_
  exact ⟨rfl, rfl⟩
theorem c101 {tb : dxT} {H : dxH} {c : Nat} (hc : 1 ≤ c) (hc2 : c < 1000) : Cl tb 101 [.int (nI c)] H (Rt (.int (nI ((c - 1) % 10))) H) := by
  show Ev tb 101 0 [some (.int (nI c))] [] H _
  refine ev_iload_n i101_0 rfl ?_
  refine ev_iconst (v := nI 1) i101_1 (by decide) ?_
  refine evn_isub i101_2 (by omega) ?_
  refine ev_bipush (v := nI 10) i101_3 (by decide) ?_
  refine evn_irem i101_5 (by omega) ?_
  refine ev_iret i101_6 (by decide +kernel) ?_
  exact ⟨rfl, rfl⟩
theorem c29 {tb : dxT} {H : dxH} {a n x : Nat} {sd kd cl ce fu : Nat → Nat} {pa : Nat → Int32} {he : Nat} {sn : Bool} {ho wa : Int32} (hM : MdwAt H a cl ce fu pa he sn ho wa) (hH : HrdAt H n sd kd) (hb : he < 64) (ha : 6 ≤ a) (hc1 : 1 ≤ x) (hx : (x - 1) / 10 < 6) (ht : he.testBit ((x - 1) / 10) = true) : Cl tb 29 [.ref a, .int (nI x)] H (fun r H' => r = none ∧ MdwAt H' a cl (updN ce ((x - 1) / 10) ((x - 1) % 10)) fu pa he sn ho wa ∧ Off (mdC a) H H') := by
  obtain ⟨m0, m1, m2, m3, m4⟩ := id hM
  obtain ⟨g0, g1, g2⟩ := id hH
  have hO : Off (mdC a) H H := Off.rf
  show Ev tb 29 0 [some (.ref a), some (.int (nI x))] [] H _
  refine ev_iload_n i29_0 rfl ?_
  refine evn_if_eq (t := 16) i29_1 (by decide) (by omega) (fun z1 => ?_) (fun z1 => ?_)
  · refine ev_vret i29_16 (by decide +kernel) ?_
    exfalso; omega
  · refine ev_aload_n i29_4 rfl ?_
    refine ev_iload_n i29_5 rfl ?_
    refine ev_callS (vs := [.int (nI x)]) (rest := [.ref a]) i29_6 ci29 lk3_72 (Or.inr rfl) np100 (by decide +kernel) (Nat.le_of_ble_eq_true rfl) ⟨rfl, rfl, Nat.le_of_ble_eq_true rfl⟩ rfl (c100 (by omega) (by omega)) (fun r HH hq => ?_)
    obtain ⟨rfl, rfl⟩ := hq
    show Ev tb 29 9 [some (.ref a), some (.int (nI x))] [.int (nI ((x - 1) / 10)), .ref a] H _
    refine ev_iload_n i29_9 rfl ?_
    refine ev_callS (vs := [.int (nI x)]) (rest := [.int (nI ((x - 1) / 10)), .ref a]) i29_10 ci29 lk3_75 (Or.inr rfl) np101 (by decide +kernel) (Nat.le_of_ble_eq_true rfl) ⟨rfl, rfl, Nat.le_of_ble_eq_true rfl⟩ rfl (c101 (by omega) (by omega)) (fun r HH hq => ?_)
    obtain ⟨rfl, rfl⟩ := hq
    show Ev tb 29 13 [some (.ref a), some (.int (nI x))] [.int (nI ((x - 1) % 10)), .int (nI ((x - 1) / 10)), .ref a] H _
    refine ev_callV (vs := [.int (nI ((x - 1) / 10)), .int (nI ((x - 1) % 10))]) (rest := []) i29_13 ci29 lk3_78 (congrArg (fun q => q + 1) np27) ci27 (by decide) (by decide +kernel) (Nat.le_of_ble_eq_true rfl) ⟨rfl, rfl, Nat.le_of_ble_eq_true rfl⟩ rfl (by assumption) (c27 (by assumption) hb ha (by omega) (by assumption) (by omega)) (fun r H1 hq => ?_)
    obtain ⟨rfl, hM, hO1⟩ := hq
    obtain ⟨m0, m1, m2, m3, m4⟩ := id hM
    have hO : Off (mdC a) H H1 := hO.trans hO1 (fun _ h => h) (fun _ h => h)
    have hH := hH.off hO1 (fun q => by have := q.1; omega) (fun q => by have := q.1; omega) (fun q => by have := q.1; omega)
    obtain ⟨g0, g1, g2⟩ := id hH
    show Ev tb 29 16 [some (.ref a), some (.int (nI x))] [] H1 _
    refine ev_vret i29_16 (by decide +kernel) ?_
    exact ⟨rfl, ⟨m0, m1, m2, m3, m4⟩, hO⟩
/-- the sort of an hour without snow and bells, cows from k on -/
def srtL (he : Nat) (kd fu : Nat → Nat) : Nat → Nat → Nat → Nat
  | 0, _, s => s
  | d + 1, k, s => if (he.testBit k && dueB (kd k) (fu k)) = true then 1 else srtL he kd fu d (k + 1) (if (he.testBit k && wrnB (kd k) (fu k)) = true then 2 else s)
theorem srtL_lt {he : Nat} {kd fu : Nat → Nat} : ∀ {d k s : Nat}, s < 4 → srtL he kd fu d k s < 4
  | 0, _, _, h => h
  | d + 1, k, s, h => by
    unfold srtL
    split
    · decide
    · refine srtL_lt ?_
      split
      · decide
      · exact h
def srtF (he : Nat) (kd fu : Nat → Nat) (sn rg : Bool) : Nat := if sn = true then 3 else if rg = true then 1 else srtL he kd fu 6 0 0
theorem srtF_lt {he : Nat} {kd fu : Nat → Nat} {sn rg : Bool} : srtF he kd fu sn rg < 4 := by
  unfold srtF
  split
  · decide
  · split
    · decide
    · exact srtL_lt (by decide)
def mlkF (he : Nat) (sd kd : Nat → Nat) (k : Nat) (x : (Nat → Nat) × (Nat → Int32)) : (Nat → Nat) × (Nat → Int32) := if (he.testBit k && dueB (kd k) (x.1 k)) = true then (updN x.1 k 0, upd x.2 (sd k) (x.2 (sd k) + nI (x.1 k))) else x
def eatF (he : Nat) (ce : Nat → Nat) (k : Nat) (x : (Nat → Nat) × (Nat → Nat)) : (Nat → Nat) × (Nat → Nat) := if he.testBit k = true ∧ 0 < x.1 (ce k) then (updN x.1 (ce k) (x.1 (ce k) - 1), updN x.2 k (if 9 < x.2 k + (if 5 ≤ x.1 (ce k) then 2 else 1) then 9 else x.2 k + (if 5 ≤ x.1 (ce k) then 2 else 1))) else x
theorem lq42 {tb : dxT} {H : dxH} {a n : Nat} {sd kd cl ce fu : Nat → Nat} {pa : Nat → Int32} {he : Nat} {sn rg : Bool} {ho wa : Int32} (hM : MdwAt H a cl ce fu pa he sn ho wa) (hH : HrdAt H n sd kd) (hb : he < 64) (ha : 6 ≤ a) (hfu : ∀ j, fu j < 10) (hkd : ∀ j, kd j < 4) : ∀ (d k s : Nat), k + d = 6 → s < 4 → Ev tb 42 19 [some (.ref a), some (.int (bI rg)), some (.int (nI s)), some (.int (nI k))] [] H (Rt (.int (nI (srtL he kd fu d k s))) H)
  | 0, k, s, hk, hs => by
    obtain rfl : k = 6 := by omega
    show Ev tb 42 19 [some (.ref a), some (.int (bI rg)), some (.int (nI s)), some (.int (nI 6))] [] H _
    refine ev_iload_n i42_19 rfl ?_
    refine ev_bipush (v := nI 6) i42_20 (by decide) ?_
    refine evn_icmp_ge (t := 51) i42_22 (by decide) (by omega) (fun z22 => ?_) (fun z22 => by exfalso; omega)
    refine ev_iload_n i42_51 rfl ?_
    refine ev_iret i42_52 (by decide +kernel) ?_
    exact ⟨rfl, rfl⟩
  | d + 1, k, s, hk, hs => by
    obtain ⟨m0, m1, m2, m3, m4⟩ := id hM
    unfold srtL
    show Ev tb 42 19 [some (.ref a), some (.int (bI rg)), some (.int (nI s)), some (.int (nI k))] [] H _
    refine ev_iload_n i42_19 rfl ?_
    refine ev_bipush (v := nI 6) i42_20 (by decide) ?_
    refine evn_icmp_ge (t := 51) i42_22 (by decide) (by omega) (fun z22 => by exfalso; omega) (fun z22 => ?_)
    refine ev_aload_n i42_25 rfl ?_
    refine ev_iload_n i42_26 rfl ?_
    refine ev_callV (vs := [.int (nI k)]) (rest := []) i42_27 ci42 lk3_90 (congrArg (fun q => q + 1) np40) ci40 (by decide) (by decide +kernel) (Nat.le_of_ble_eq_true rfl) ⟨rfl, rfl, Nat.le_of_ble_eq_true rfl⟩ rfl (by assumption) (c40 (by assumption) (by assumption) hb ha hfu hkd (by omega)) (fun r HH hq => ?_)
    obtain ⟨rfl, rfl⟩ := hq
    show Ev tb 42 30 [some (.ref a), some (.int (bI rg)), some (.int (nI s)), some (.int (nI k))] [.int (bI (he.testBit k && dueB (kd k) (fu k)))] H _
    refine evb_if_eq (t := 35) i42_30 (by decide) (fun z30 => ?_) (fun z30 => ?_)
    · refine ev_aload_n i42_35 rfl ?_
      refine ev_iload_n i42_36 rfl ?_
      refine ev_callV (vs := [.int (nI k)]) (rest := []) i42_37 ci42 lk3_93 (congrArg (fun q => q + 1) np41) ci41 (by decide) (by decide +kernel) (Nat.le_of_ble_eq_true rfl) ⟨rfl, rfl, Nat.le_of_ble_eq_true rfl⟩ rfl (by assumption) (c41 (by assumption) (by assumption) hb ha hfu hkd (by omega)) (fun r HH hq => ?_)
      obtain ⟨rfl, rfl⟩ := hq
      show Ev tb 42 40 [some (.ref a), some (.int (bI rg)), some (.int (nI s)), some (.int (nI k))] [.int (bI (he.testBit k && wrnB (kd k) (fu k)))] H _
      refine evb_if_eq (t := 45) i42_40 (by decide) (fun z40 => ?_) (fun z40 => ?_)
      · refine evn_iinc (d := 1) (L' := [some (.ref a), some (.int (bI rg)), some (.int (nI s)), some (.int (nI (k + 1)))]) i42_45 rfl rfl (by decide) rfl ?_
        refine ev_goto (t := 19) i42_48 (by decide) ?_
        rw [if_neg (by simp [*]), if_neg (by simp [*])]
        exact lq42 hM hH hb ha hfu hkd d (k + 1) _ (by omega) (by omega)
      · refine ev_iconst (v := nI 2) i42_43 (by decide) ?_
        refine ev_istore_n (L' := [some (.ref a), some (.int (bI rg)), some (.int (nI 2)), some (.int (nI k))]) i42_44 ⟨Nat.le_of_ble_eq_true rfl, rfl⟩ rfl ?_
        refine evn_iinc (d := 1) (L' := [some (.ref a), some (.int (bI rg)), some (.int (nI 2)), some (.int (nI (k + 1)))]) i42_45 rfl rfl (by decide) rfl ?_
        refine ev_goto (t := 19) i42_48 (by decide) ?_
        rw [if_neg (by simp [*]), if_pos (by simp [*])]
        exact lq42 hM hH hb ha hfu hkd d (k + 1) _ (by omega) (by omega)
    · refine ev_iconst (v := nI 1) i42_33 (by decide) ?_
      refine ev_iret i42_34 (by decide +kernel) ?_
      rw [if_pos (by assumption)]
      exact ⟨rfl, rfl⟩
theorem c42 {tb : dxT} {H : dxH} {a n : Nat} {sd kd cl ce fu : Nat → Nat} {pa : Nat → Int32} {he : Nat} {sn rg : Bool} {ho wa : Int32} (hM : MdwAt H a cl ce fu pa he sn ho wa) (hH : HrdAt H n sd kd) (hb : he < 64) (ha : 6 ≤ a) (hfu : ∀ j, fu j < 10) (hkd : ∀ j, kd j < 4) : Cl tb 42 [.ref a, .int (bI rg)] H (Rt (.int (nI (srtF he kd fu sn rg))) H) := by
  obtain ⟨m0, m1, m2, m3, m4⟩ := id hM
  obtain ⟨g0, g1, g2⟩ := id hH
  unfold srtF
  show Ev tb 42 0 [some (.ref a), some (.int (bI rg)), none, none] [] H _
  refine ev_aload_n i42_0 rfl ?_
  refine ev_get i42_1 ci42 fl3_32 (by assumption) rfl ?_
  refine evb_if_eq (t := 9) i42_4 (by decide) (fun z4 => ?_) (fun z4 => ?_)
  · refine ev_iload_n i42_9 rfl ?_
    refine evb_if_eq (t := 15) i42_10 (by decide) (fun z10 => ?_) (fun z10 => ?_)
    · refine ev_iconst (v := nI 0) i42_15 (by decide) ?_
      refine ev_istore_n (L' := [some (.ref a), some (.int (bI rg)), some (.int (nI 0)), none]) i42_16 ⟨Nat.le_of_ble_eq_true rfl, rfl⟩ rfl ?_
      refine ev_iconst (v := nI 0) i42_17 (by decide) ?_
      refine ev_istore_n (L' := [some (.ref a), some (.int (bI rg)), some (.int (nI 0)), some (.int (nI 0))]) i42_18 ⟨Nat.le_of_ble_eq_true rfl, rfl⟩ rfl ?_
      simp only [*, if_false, Bool.false_eq_true]
      exact lq42 hM hH hb ha hfu hkd 6 0 0 rfl (by decide)
    · refine ev_iconst (v := nI 1) i42_13 (by decide) ?_
      refine ev_iret i42_14 (by decide +kernel) ?_
      simp only [*, if_true, if_false, Bool.false_eq_true]
      exact ⟨rfl, rfl⟩
  · refine ev_iconst (v := nI 3) i42_7 (by decide) ?_
    refine ev_iret i42_8 (by decide +kernel) ?_
    simp only [*, if_true, if_false, Bool.false_eq_true]
    exact ⟨rfl, rfl⟩
theorem updN_lt {f : Nat → Nat} {m k x : Nat} (h : ∀ j, f j < m) (hx : x < m) : ∀ j, updN f k x j < m := fun j => by
  unfold updN
  split
  · exact hx
  · exact h j
theorem lq46 {tb : dxT} {a n : Nat} {sd kd cl ce : Nat → Nat} {he : Nat} {sn : Bool} {ho wa : Int32} (hb : he < 64) (ha : 6 ≤ a) (hkd : ∀ j, kd j < 4) (hsd : ∀ j, sd j < 2) : ∀ (d k : Nat) (H : dxH) (fu : Nat → Nat) (pa : Nat → Int32), k + d = 6 → (∀ j, fu j < 10) → MdwAt H a cl ce fu pa he sn ho wa → HrdAt H n sd kd → ∀ v, Ev tb 46 2 [some (.ref a), some (.int (nI k)), v] [] H (fun r H' => r = none ∧ MdwAt H' a cl ce (upto (mlkF he sd kd) d k (fu, pa)).1 (upto (mlkF he sd kd) d k (fu, pa)).2 he sn ho wa ∧ Off (mdC a) H H')
  | 0, k, H, fu, pa, hk, hfu, hM, hH, v => by
    obtain rfl : k = 6 := by omega
    refine ev_iload_n i46_2 rfl ?_
    refine ev_bipush (v := nI 6) i46_3 (by decide) ?_
    refine evn_icmp_ge (t := 60) i46_5 (by decide) (by omega) (fun c5 => ?_) (fun c5 => by exfalso; omega)
    refine ev_vret i46_60 (by decide +kernel) ?_
    exact ⟨rfl, hM, Off.rf⟩
  | d + 1, k, H, fu, pa, hk, hfu, hM, hH, v => by
    obtain ⟨m0, m1, m2, m3, m4⟩ := id hM
    obtain ⟨g0, g1, g2⟩ := id hH
    have hO : Off (mdC a) H H := Off.rf
    have hsk := hsd k
    have hfk := hfu k
    refine ev_iload_n i46_2 rfl ?_
    refine ev_bipush (v := nI 6) i46_3 (by decide) ?_
    refine evn_icmp_ge (t := 60) i46_5 (by decide) (by omega) (fun z5 => by exfalso; omega) (fun z5 => ?_)
    refine ev_aload_n i46_8 rfl ?_
    refine ev_get i46_9 ci46 fl3_24 (by assumption) rfl ?_
    refine ev_iload_n i46_12 rfl ?_
    refine ev_callV (vs := [.int (nI k)]) (rest := []) i46_13 ci46 lk3_65 (congrArg (fun q => q + 1) np16) ci16 (by decide) (by decide +kernel) (Nat.le_of_ble_eq_true rfl) ⟨rfl, rfl, Nat.le_of_ble_eq_true rfl⟩ rfl (by assumption) (c16 (by assumption) (by omega)) (fun r HH hq => ?_)
    obtain ⟨rfl, rfl⟩ := hq
    show Ev tb 46 16 [some (.ref a), some (.int (nI k)), v] [.int (nI (sd k))] H _
    refine ev_istore_n (L' := [some (.ref a), some (.int (nI k)), some (.int (nI (sd k)))]) i46_16 ⟨Nat.le_of_ble_eq_true rfl, rfl⟩ rfl ?_
    refine ev_aload_n i46_17 rfl ?_
    refine ev_iload_n i46_18 rfl ?_
    refine ev_callV (vs := [.int (nI k)]) (rest := []) i46_19 ci46 lk3_90 (congrArg (fun q => q + 1) np40) ci40 (by decide) (by decide +kernel) (Nat.le_of_ble_eq_true rfl) ⟨rfl, rfl, Nat.le_of_ble_eq_true rfl⟩ rfl (by assumption) (c40 (by assumption) (by assumption) hb ha hfu hkd (by omega)) (fun r HH hq => ?_)
    obtain ⟨rfl, rfl⟩ := hq
    show Ev tb 46 22 [some (.ref a), some (.int (nI k)), some (.int (nI (sd k)))] [.int (bI (he.testBit k && dueB (kd k) (fu k)))] H _
    refine evb_if_eq (t := 54) i46_22 (by decide) (fun z22 => ?_) (fun z22 => ?_)
    · refine evn_iinc (d := 1) (L' := [some (.ref a), some (.int (nI (k + 1))), some (.int (nI (sd k)))]) i46_54 rfl rfl (by decide) rfl ?_
      refine ev_goto (t := 2) i46_57 (by decide) ?_
      refine (lq46 hb ha hkd hsd d (k + 1) H fu pa (by omega) hfu ⟨m0, m1, m2, m3, m4⟩ (⟨g0, g1, g2⟩) _).post (fun r H' hq => ?_)
      obtain ⟨h1, h2, h3⟩ := hq
      have e1 : mlkF he sd kd k (fu, pa) = (fu, pa) := by
        unfold mlkF
        first | (exfalso; omega) | exact if_neg (by simp [*])
      refine ⟨h1, ?_, hO.trans h3 (fun _ h => h) (fun _ h => h)⟩
      show MdwAt H' a cl ce (upto (mlkF he sd kd) d (k + 1) (mlkF he sd kd k (fu, pa))).1 (upto (mlkF he sd kd) d (k + 1) (mlkF he sd kd k (fu, pa))).2 he sn ho wa
      rw [e1]
      exact h2
    · refine ev_iload_n i46_25 rfl ?_
      refine ev_callS (vs := [.int (nI (sd k))]) (rest := []) i46_26 ci46 lk3_84 (Or.inr rfl) np97 (by decide +kernel) (Nat.le_of_ble_eq_true rfl) ⟨rfl, rfl, Nat.le_of_ble_eq_true rfl⟩ rfl (c97n (by omega)) (fun r HH hq => ?_)
      obtain ⟨rfl, rfl⟩ := hq
      show Ev tb 46 29 [some (.ref a), some (.int (nI k)), some (.int (nI (sd k)))] [.int (bI (decide (sd k < 2)))] H _
      refine evd_if_eq (t := 54) i46_29 (by decide) (fun z29 => ?_) (fun z29 => ?_)
      · refine evn_iinc (d := 1) (L' := [some (.ref a), some (.int (nI (k + 1))), some (.int (nI (sd k)))]) i46_54 rfl rfl (by decide) rfl ?_
        refine ev_goto (t := 2) i46_57 (by decide) ?_
        refine (lq46 hb ha hkd hsd d (k + 1) H fu pa (by omega) hfu ⟨m0, m1, m2, m3, m4⟩ (⟨g0, g1, g2⟩) _).post (fun r H' hq => ?_)
        obtain ⟨h1, h2, h3⟩ := hq
        have e1 : mlkF he sd kd k (fu, pa) = (fu, pa) := by
          unfold mlkF
          first | (exfalso; omega) | exact if_neg (by simp [*])
        refine ⟨h1, ?_, hO.trans h3 (fun _ h => h) (fun _ h => h)⟩
        show MdwAt H' a cl ce (upto (mlkF he sd kd) d (k + 1) (mlkF he sd kd k (fu, pa))).1 (upto (mlkF he sd kd) d (k + 1) (mlkF he sd kd k (fu, pa))).2 he sn ho wa
        rw [e1]
        exact h2
      · refine ev_aload_n i46_32 rfl ?_
        refine ev_get i46_33 ci46 fl3_21 (by assumption) rfl ?_
        refine ev_iload_n i46_36 rfl ?_
        refine ev_dup2 i46_37 rfl rfl ?_
        refine ev_iald_n i46_38 (by assumption) (by omega) ?_
        refine ev_aload_n i46_39 rfl ?_
        refine ev_get i46_40 ci46 fl3_18 (by assumption) rfl ?_
        refine ev_iload_n i46_43 rfl ?_
        refine ev_iald_n i46_44 (by assumption) (by omega) ?_
        refine ev_iadd i46_45 ?_
        refine evs_iastw i46_46 (by assumption) (by omega) (fun H1 hH1 => ?_)
        have m0 : H1[a]? = some (.inr (3, [.ref 3, .ref (a + 1), .ref (a + 2), .ref (a + 3), .ref (a + 4), .int (nI he), .int (bI sn), .int ho, .int wa])) := by rw [hH1]; exact set_ne m0 (by omega)
        have m1 : H1[a + 1]? = some (IA 10 cl) := by rw [hH1]; exact set_ne m1 (by omega)
        have m2 : H1[a + 2]? = some (IA 6 ce) := by rw [hH1]; exact set_ne m2 (by omega)
        have m3 : H1[a + 3]? = some (IA 6 fu) := by rw [hH1]; exact set_ne m3 (by omega)
        have m4 : H1[a + 4]? = some (.inl (0, 2, .inl (upd pa (sd k) ((pa (sd k)) + (nI (fu k)))))) := by rw [hH1]; exact set_self m4
        have g0 : H1[3]? = some (.inr (2, [.ref 4, .ref 5, .int (nI n)])) := by rw [hH1]; exact set_ne g0 (by omega)
        have g1 : H1[4]? = some (IA 6 sd) := by rw [hH1]; exact set_ne g1 (by omega)
        have g2 : H1[5]? = some (IA 6 kd) := by rw [hH1]; exact set_ne g2 (by omega)
        have hO : Off (mdC a) H H1 := by rw [hH1]; exact hO.set (by exact ⟨by omega, by omega⟩)
        refine ev_aload_n i46_47 rfl ?_
        refine ev_get i46_48 ci46 fl3_18 (by assumption) rfl ?_
        refine ev_iload_n i46_51 rfl ?_
        refine ev_iconst (v := nI 0) i46_52 (by decide) ?_
        refine evs_iastn i46_53 (by assumption) (by omega) (fun H2 hH2 => ?_)
        have m0 : H2[a]? = some (.inr (3, [.ref 3, .ref (a + 1), .ref (a + 2), .ref (a + 3), .ref (a + 4), .int (nI he), .int (bI sn), .int ho, .int wa])) := by rw [hH2]; exact set_ne m0 (by omega)
        have m1 : H2[a + 1]? = some (IA 10 cl) := by rw [hH2]; exact set_ne m1 (by omega)
        have m2 : H2[a + 2]? = some (IA 6 ce) := by rw [hH2]; exact set_ne m2 (by omega)
        have m3 : H2[a + 3]? = some (IA 6 (updN fu k 0)) := by rw [hH2]; exact set_self m3
        have m4 : H2[a + 4]? = some (.inl (0, 2, .inl (upd pa (sd k) ((pa (sd k)) + (nI (fu k)))))) := by rw [hH2]; exact set_ne m4 (by omega)
        have g0 : H2[3]? = some (.inr (2, [.ref 4, .ref 5, .int (nI n)])) := by rw [hH2]; exact set_ne g0 (by omega)
        have g1 : H2[4]? = some (IA 6 sd) := by rw [hH2]; exact set_ne g1 (by omega)
        have g2 : H2[5]? = some (IA 6 kd) := by rw [hH2]; exact set_ne g2 (by omega)
        have hO : Off (mdC a) H H2 := by rw [hH2]; exact hO.set (by exact ⟨by omega, by omega⟩)
        refine evn_iinc (d := 1) (L' := [some (.ref a), some (.int (nI (k + 1))), some (.int (nI (sd k)))]) i46_54 rfl rfl (by decide) rfl ?_
        refine ev_goto (t := 2) i46_57 (by decide) ?_
        refine (lq46 hb ha hkd hsd d (k + 1) H2 (updN fu k 0) (upd pa (sd k) (pa (sd k) + nI (fu k))) (by omega) (updN_lt hfu (by decide)) ⟨m0, m1, m2, m3, m4⟩ (⟨g0, g1, g2⟩) _).post (fun r H' hq => ?_)
        obtain ⟨h1, h2, h3⟩ := hq
        have e1 : mlkF he sd kd k (fu, pa) = ((updN fu k 0), (upd pa (sd k) (pa (sd k) + nI (fu k)))) := by
          unfold mlkF
          exact if_pos (by assumption)
        refine ⟨h1, ?_, hO.trans h3 (fun _ h => h) (fun _ h => h)⟩
        show MdwAt H' a cl ce (upto (mlkF he sd kd) d (k + 1) (mlkF he sd kd k (fu, pa))).1 (upto (mlkF he sd kd) d (k + 1) (mlkF he sd kd k (fu, pa))).2 he sn ho wa
        rw [e1]
        exact h2
theorem c46 {tb : dxT} {H : dxH} {a n : Nat} {sd kd cl ce fu : Nat → Nat} {pa : Nat → Int32} {he : Nat} {sn : Bool} {ho wa : Int32} (hM : MdwAt H a cl ce fu pa he sn ho wa) (hH : HrdAt H n sd kd) (hb : he < 64) (ha : 6 ≤ a) (hfu : ∀ j, fu j < 10) (hkd : ∀ j, kd j < 4) (hsd : ∀ j, sd j < 2) : Cl tb 46 [.ref a] H (fun r H' => r = none ∧ MdwAt H' a cl ce (upto (mlkF he sd kd) 6 0 (fu, pa)).1 (upto (mlkF he sd kd) 6 0 (fu, pa)).2 he sn ho wa ∧ Off (mdC a) H H') := by
  show Ev tb 46 0 [some (.ref a), none, none] [] H _
  refine ev_iconst (v := nI 0) i46_0 (by decide) ?_
  refine ev_istore_n (L' := [some (.ref a), some (.int (nI 0)), none]) i46_1 ⟨Nat.le_of_ble_eq_true rfl, rfl⟩ rfl ?_
  exact lq46 hb ha hkd hsd 6 0 H fu pa rfl hfu hM hH _
theorem lq47 {tb : dxT} {a n : Nat} {sd kd ce : Nat → Nat} {pa : Nat → Int32} {he : Nat} {sn : Bool} {ho wa : Int32} (hb : he < 64) (ha : 6 ≤ a) (hce : ∀ j, ce j < 10) : ∀ (d k : Nat) (H : dxH) (cl fu : Nat → Nat), k + d = 6 → (∀ j, cl j < 10) → (∀ j, fu j < 10) → MdwAt H a cl ce fu pa he sn ho wa → HrdAt H n sd kd → ∀ v2 v3 v4, Ev tb 47 2 [some (.ref a), some (.int (nI k)), v2, v3, v4] [] H (fun r H' => r = none ∧ MdwAt H' a (upto (eatF he ce) d k (cl, fu)).1 ce (upto (eatF he ce) d k (cl, fu)).2 pa he sn ho wa ∧ Off (mdC a) H H')
  | 0, k, H, cl, fu, hk, hcl, hfu, hM, hH, v2, v3, v4 => by
    obtain rfl : k = 6 := by omega
    refine ev_iload_n i47_2 rfl ?_
    refine ev_bipush (v := nI 6) i47_3 (by decide) ?_
    refine evn_icmp_ge (t := 70) i47_5 (by decide) (by omega) (fun c5 => ?_) (fun c5 => by exfalso; omega)
    refine ev_vret i47_70 (by decide +kernel) ?_
    exact ⟨rfl, hM, Off.rf⟩
  | d + 1, k, H, cl, fu, hk, hcl, hfu, hM, hH, v2, v3, v4 => by
    obtain ⟨m0, m1, m2, m3, m4⟩ := id hM
    obtain ⟨g0, g1, g2⟩ := id hH
    have hO : Off (mdC a) H H := Off.rf
    have hek := hce k
    have hfk := hfu k
    have hck := hcl (ce k)
    by_cases hbt : he.testBit k = true
    · refine ev_iload_n i47_2 rfl ?_
      refine ev_bipush (v := nI 6) i47_3 (by decide) ?_
      refine evn_icmp_ge (t := 70) i47_5 (by decide) (by omega) (fun z5 => by exfalso; omega) (fun z5 => ?_)
      refine ev_aload_n i47_8 rfl ?_
      refine ev_iload_n i47_9 rfl ?_
      refine ev_callV (vs := [.int (nI k)]) (rest := []) i47_10 ci47 lk3_109 (congrArg (fun q => q + 1) np25) ci25 (by decide) (by decide +kernel) (Nat.le_of_ble_eq_true rfl) ⟨rfl, rfl, Nat.le_of_ble_eq_true rfl⟩ rfl (by assumption) (c25t (by assumption) hb ha (by omega) (by assumption)) (fun r HH hq => ?_)
      obtain ⟨rfl, rfl⟩ := hq
      show Ev tb 47 13 [some (.ref a), some (.int (nI k)), v2, v3, v4] [.int (nI (ce k))] H _
      refine ev_istore_n (L' := [some (.ref a), some (.int (nI k)), some (.int (nI (ce k))), v3, v4]) i47_13 ⟨Nat.le_of_ble_eq_true rfl, rfl⟩ rfl ?_
      refine ev_aload_n i47_14 rfl ?_
      refine ev_iload_n i47_15 rfl ?_
      refine ev_callV (vs := [.int (nI (ce k))]) (rest := []) i47_16 ci47 lk3_112 (congrArg (fun q => q + 1) np31) ci31 (by decide) (by decide +kernel) (Nat.le_of_ble_eq_true rfl) ⟨rfl, rfl, Nat.le_of_ble_eq_true rfl⟩ rfl (by assumption) (c31 (by assumption) hb ha (by omega)) (fun r HH hq => ?_)
      obtain ⟨rfl, rfl⟩ := hq
      show Ev tb 47 19 [some (.ref a), some (.int (nI k)), some (.int (nI (ce k))), v3, v4] [.int (nI (cl (ce k)))] H _
      refine ev_istore_n (L' := [some (.ref a), some (.int (nI k)), some (.int (nI (ce k))), some (.int (nI (cl (ce k)))), v4]) i47_19 ⟨Nat.le_of_ble_eq_true rfl, rfl⟩ rfl ?_
      refine ev_iload_n i47_20 rfl ?_
      refine evn_if_le (t := 64) i47_21 (by decide) (by omega) (fun z21 => ?_) (fun z21 => ?_)
      · refine evn_iinc (d := 1) (L' := [some (.ref a), some (.int (nI (k + 1))), some (.int (nI (ce k))), some (.int (nI (cl (ce k)))), v4]) i47_64 rfl rfl (by decide) rfl ?_
        refine ev_goto (t := 2) i47_67 (by decide) ?_
        refine (lq47 hb ha hce d (k + 1) H cl fu (by omega) hcl hfu ⟨m0, m1, m2, m3, m4⟩ ⟨g0, g1, g2⟩ _ _ _).post (fun r H' hq => ?_)
        obtain ⟨h1, h2, h3⟩ := hq
        have e1 : eatF he ce k (cl, fu) = (cl, fu) := by
          unfold eatF
          exact if_neg (by first | (intro q; have := q.2; omega) | simp [*])
        refine ⟨h1, ?_, hO.trans h3 (fun _ h => h) (fun _ h => h)⟩
        show MdwAt H' a (upto (eatF he ce) d (k + 1) (eatF he ce k (cl, fu))).1 ce (upto (eatF he ce) d (k + 1) (eatF he ce k (cl, fu))).2 pa he sn ho wa
        rw [e1]
        exact h2
      · refine ev_aload_n i47_24 rfl ?_
        refine ev_iload_n i47_25 rfl ?_
        refine ev_iload_n i47_26 rfl ?_
        refine ev_iconst (v := nI 1) i47_27 (by decide) ?_
        refine evn_isub i47_28 (by omega) ?_
        refine ev_callV (vs := [.int (nI (ce k)), .int (nI ((cl (ce k)) - 1))]) (rest := []) i47_29 ci47 lk3_115 (congrArg (fun q => q + 1) np32) ci32 (by decide) (by decide +kernel) (Nat.le_of_ble_eq_true rfl) ⟨rfl, rfl, Nat.le_of_ble_eq_true rfl⟩ rfl (by assumption) (c32 (by assumption) hb ha (by omega)) (fun r H1 hq => ?_)
        obtain ⟨rfl, hM, hO1⟩ := hq
        obtain ⟨m0, m1, m2, m3, m4⟩ := id hM
        have hO : Off (mdC a) H H1 := hO.trans hO1 (fun _ h => h) (fun _ h => h)
        have hH := hH.off hO1 (fun q => by have := q.1; omega) (fun q => by have := q.1; omega) (fun q => by have := q.1; omega)
        obtain ⟨g0, g1, g2⟩ := id hH
        show Ev tb 47 32 [some (.ref a), some (.int (nI k)), some (.int (nI (ce k))), some (.int (nI (cl (ce k)))), v4] [] H1 _
        refine ev_aload_n i47_32 rfl ?_
        refine ev_get i47_33 ci47 fl3_18 (by assumption) rfl ?_
        refine ev_iload_n i47_36 rfl ?_
        refine ev_iald_n i47_37 (by assumption) (by omega) ?_
        refine ev_iload_n i47_38 rfl ?_
        refine ev_iconst (v := nI 5) i47_39 (by decide) ?_
        refine evn_icmp_lt (t := 47) i47_40 (by decide) (by omega) (fun z40 => ?_) (fun z40 => ?_)
        · refine ev_iconst (v := nI 1) i47_47 (by decide) ?_
          refine evn_iadd i47_48 ?_
          refine ev_istore (L' := [some (.ref a), some (.int (nI k)), some (.int (nI (ce k))), some (.int (nI (cl (ce k)))), some (.int (nI ((fu k) + 1)))]) i47_49 ⟨Nat.le_of_ble_eq_true rfl, rfl⟩ rfl ?_
          refine ev_aload_n i47_51 rfl ?_
          refine ev_get i47_52 ci47 fl3_18 (by assumption) rfl ?_
          refine ev_iload_n i47_55 rfl ?_
          refine ev_iload i47_56 rfl ?_
          refine ev_bipush (v := nI 9) i47_58 (by decide) ?_
          refine evn_min i47_60 ci47 lk3_118 (by decide +kernel) rfl (by omega) ?_
          refine evs_iastn i47_63 (by assumption) (by omega) (fun H2 hH2 => ?_)
          have m0 : H2[a]? = some (.inr (3, [.ref 3, .ref (a + 1), .ref (a + 2), .ref (a + 3), .ref (a + 4), .int (nI he), .int (bI sn), .int ho, .int wa])) := by rw [hH2]; exact set_ne m0 (by omega)
          have m1 : H2[a + 1]? = some (IA 10 (updN cl (ce k) ((cl (ce k)) - 1))) := by rw [hH2]; exact set_ne m1 (by omega)
          have m2 : H2[a + 2]? = some (IA 6 ce) := by rw [hH2]; exact set_ne m2 (by omega)
          have m3 : H2[a + 3]? = some (IA 6 (updN fu k (if 9 < ((fu k) + 1) then 9 else ((fu k) + 1)))) := by rw [hH2]; exact set_self m3
          have m4 : H2[a + 4]? = some (.inl (0, 2, .inl pa)) := by rw [hH2]; exact set_ne m4 (by omega)
          have g0 : H2[3]? = some (.inr (2, [.ref 4, .ref 5, .int (nI n)])) := by rw [hH2]; exact set_ne g0 (by omega)
          have g1 : H2[4]? = some (IA 6 sd) := by rw [hH2]; exact set_ne g1 (by omega)
          have g2 : H2[5]? = some (IA 6 kd) := by rw [hH2]; exact set_ne g2 (by omega)
          have hO : Off (mdC a) H H2 := by rw [hH2]; exact hO.set (by exact ⟨by omega, by omega⟩)
          refine evn_iinc (d := 1) (L' := [some (.ref a), some (.int (nI (k + 1))), some (.int (nI (ce k))), some (.int (nI (cl (ce k)))), some (.int (nI ((fu k) + 1)))]) i47_64 rfl rfl (by decide) rfl ?_
          refine ev_goto (t := 2) i47_67 (by decide) ?_
          refine (lq47 hb ha hce d (k + 1) H2 (updN cl (ce k) (cl (ce k) - 1)) (updN fu k (if 9 < fu k + 1 then 9 else fu k + 1)) (by omega) (updN_lt hcl (by omega)) (updN_lt hfu (by split <;> omega)) ⟨m0, m1, m2, m3, m4⟩ ⟨g0, g1, g2⟩ _ _ _).post (fun r H' hq => ?_)
          obtain ⟨h1, h2, h3⟩ := hq
          have e1 : eatF he ce k (cl, fu) = ((updN cl (ce k) (cl (ce k) - 1)), (updN fu k (if 9 < fu k + 1 then 9 else fu k + 1))) := by
            unfold eatF
            have z5 : (if 5 ≤ cl (ce k) then 2 else 1) = 1 := by split <;> omega
            rw [if_pos ⟨hbt, by omega⟩]
            simp only [z5]
          refine ⟨h1, ?_, hO.trans h3 (fun _ h => h) (fun _ h => h)⟩
          show MdwAt H' a (upto (eatF he ce) d (k + 1) (eatF he ce k (cl, fu))).1 ce (upto (eatF he ce) d (k + 1) (eatF he ce k (cl, fu))).2 pa he sn ho wa
          rw [e1]
          exact h2
        · refine ev_iconst (v := nI 2) i47_43 (by decide) ?_
          refine ev_goto (t := 48) i47_44 (by decide) ?_
          refine evn_iadd i47_48 ?_
          refine ev_istore (L' := [some (.ref a), some (.int (nI k)), some (.int (nI (ce k))), some (.int (nI (cl (ce k)))), some (.int (nI ((fu k) + 2)))]) i47_49 ⟨Nat.le_of_ble_eq_true rfl, rfl⟩ rfl ?_
          refine ev_aload_n i47_51 rfl ?_
          refine ev_get i47_52 ci47 fl3_18 (by assumption) rfl ?_
          refine ev_iload_n i47_55 rfl ?_
          refine ev_iload i47_56 rfl ?_
          refine ev_bipush (v := nI 9) i47_58 (by decide) ?_
          refine evn_min i47_60 ci47 lk3_118 (by decide +kernel) rfl (by omega) ?_
          refine evs_iastn i47_63 (by assumption) (by omega) (fun H2 hH2 => ?_)
          have m0 : H2[a]? = some (.inr (3, [.ref 3, .ref (a + 1), .ref (a + 2), .ref (a + 3), .ref (a + 4), .int (nI he), .int (bI sn), .int ho, .int wa])) := by rw [hH2]; exact set_ne m0 (by omega)
          have m1 : H2[a + 1]? = some (IA 10 (updN cl (ce k) ((cl (ce k)) - 1))) := by rw [hH2]; exact set_ne m1 (by omega)
          have m2 : H2[a + 2]? = some (IA 6 ce) := by rw [hH2]; exact set_ne m2 (by omega)
          have m3 : H2[a + 3]? = some (IA 6 (updN fu k (if 9 < ((fu k) + 2) then 9 else ((fu k) + 2)))) := by rw [hH2]; exact set_self m3
          have m4 : H2[a + 4]? = some (.inl (0, 2, .inl pa)) := by rw [hH2]; exact set_ne m4 (by omega)
          have g0 : H2[3]? = some (.inr (2, [.ref 4, .ref 5, .int (nI n)])) := by rw [hH2]; exact set_ne g0 (by omega)
          have g1 : H2[4]? = some (IA 6 sd) := by rw [hH2]; exact set_ne g1 (by omega)
          have g2 : H2[5]? = some (IA 6 kd) := by rw [hH2]; exact set_ne g2 (by omega)
          have hO : Off (mdC a) H H2 := by rw [hH2]; exact hO.set (by exact ⟨by omega, by omega⟩)
          refine evn_iinc (d := 1) (L' := [some (.ref a), some (.int (nI (k + 1))), some (.int (nI (ce k))), some (.int (nI (cl (ce k)))), some (.int (nI ((fu k) + 2)))]) i47_64 rfl rfl (by decide) rfl ?_
          refine ev_goto (t := 2) i47_67 (by decide) ?_
          refine (lq47 hb ha hce d (k + 1) H2 (updN cl (ce k) (cl (ce k) - 1)) (updN fu k (if 9 < fu k + 2 then 9 else fu k + 2)) (by omega) (updN_lt hcl (by omega)) (updN_lt hfu (by split <;> omega)) ⟨m0, m1, m2, m3, m4⟩ ⟨g0, g1, g2⟩ _ _ _).post (fun r H' hq => ?_)
          obtain ⟨h1, h2, h3⟩ := hq
          have e1 : eatF he ce k (cl, fu) = ((updN cl (ce k) (cl (ce k) - 1)), (updN fu k (if 9 < fu k + 2 then 9 else fu k + 2))) := by
            unfold eatF
            have z5 : (if 5 ≤ cl (ce k) then 2 else 1) = 2 := by split <;> omega
            rw [if_pos ⟨hbt, by omega⟩]
            simp only [z5]
          refine ⟨h1, ?_, hO.trans h3 (fun _ h => h) (fun _ h => h)⟩
          show MdwAt H' a (upto (eatF he ce) d (k + 1) (eatF he ce k (cl, fu))).1 ce (upto (eatF he ce) d (k + 1) (eatF he ce k (cl, fu))).2 pa he sn ho wa
          rw [e1]
          exact h2
    · have hbf : he.testBit k = false := by simpa using hbt
      refine ev_iload_n i47_2 rfl ?_
      refine ev_bipush (v := nI 6) i47_3 (by decide) ?_
      refine evn_icmp_ge (t := 70) i47_5 (by decide) (by omega) (fun z5 => by exfalso; omega) (fun z5 => ?_)
      refine ev_aload_n i47_8 rfl ?_
      refine ev_iload_n i47_9 rfl ?_
      refine ev_callV (vs := [.int (nI k)]) (rest := []) i47_10 ci47 lk3_109 (congrArg (fun q => q + 1) np25) ci25 (by decide) (by decide +kernel) (Nat.le_of_ble_eq_true rfl) ⟨rfl, rfl, Nat.le_of_ble_eq_true rfl⟩ rfl (by assumption) (c25f (by assumption) hb ha (by omega) (by assumption)) (fun r HH hq => ?_)
      obtain ⟨rfl, rfl⟩ := hq
      show Ev tb 47 13 [some (.ref a), some (.int (nI k)), v2, v3, v4] [.int (-9)] H _
      refine ev_istore_n (L' := [some (.ref a), some (.int (nI k)), some (.int (-9)), v3, v4]) i47_13 ⟨Nat.le_of_ble_eq_true rfl, rfl⟩ rfl ?_
      refine ev_aload_n i47_14 rfl ?_
      refine ev_iload_n i47_15 rfl ?_
      refine ev_callV (vs := [.int (-9)]) (rest := []) i47_16 ci47 lk3_112 (congrArg (fun q => q + 1) np31) ci31 (by decide) (by decide +kernel) (Nat.le_of_ble_eq_true rfl) ⟨rfl, rfl, Nat.le_of_ble_eq_true rfl⟩ rfl (by assumption) (c31f (by assumption) hb ha) (fun r HH hq => ?_)
      obtain ⟨rfl, rfl⟩ := hq
      show Ev tb 47 19 [some (.ref a), some (.int (nI k)), some (.int (-9)), v3, v4] [.int (nI 0)] H _
      refine ev_istore_n (L' := [some (.ref a), some (.int (nI k)), some (.int (-9)), some (.int (nI 0)), v4]) i47_19 ⟨Nat.le_of_ble_eq_true rfl, rfl⟩ rfl ?_
      refine ev_iload_n i47_20 rfl ?_
      refine evn_if_le (t := 64) i47_21 (by decide) (by omega) (fun z21 => ?_) (fun z21 => by exfalso; omega)
      refine evn_iinc (d := 1) (L' := [some (.ref a), some (.int (nI (k + 1))), some (.int (-9)), some (.int (nI 0)), v4]) i47_64 rfl rfl (by decide) rfl ?_
      refine ev_goto (t := 2) i47_67 (by decide) ?_
      refine (lq47 hb ha hce d (k + 1) H cl fu (by omega) hcl hfu ⟨m0, m1, m2, m3, m4⟩ ⟨g0, g1, g2⟩ _ _ _).post (fun r H' hq => ?_)
      obtain ⟨h1, h2, h3⟩ := hq
      have e1 : eatF he ce k (cl, fu) = (cl, fu) := by
        unfold eatF
        exact if_neg (by first | (intro q; have := q.2; omega) | simp [*])
      refine ⟨h1, ?_, hO.trans h3 (fun _ h => h) (fun _ h => h)⟩
      show MdwAt H' a (upto (eatF he ce) d (k + 1) (eatF he ce k (cl, fu))).1 ce (upto (eatF he ce) d (k + 1) (eatF he ce k (cl, fu))).2 pa he sn ho wa
      rw [e1]
      exact h2
theorem c47 {tb : dxT} {H : dxH} {a n : Nat} {sd kd cl ce fu : Nat → Nat} {pa : Nat → Int32} {he : Nat} {sn : Bool} {ho wa : Int32} (hM : MdwAt H a cl ce fu pa he sn ho wa) (hH : HrdAt H n sd kd) (hb : he < 64) (ha : 6 ≤ a) (hfu : ∀ j, fu j < 10) (hcl : ∀ j, cl j < 10) (hce : ∀ j, ce j < 10) : Cl tb 47 [.ref a] H (fun r H' => r = none ∧ MdwAt H' a (upto (eatF he ce) 6 0 (cl, fu)).1 ce (upto (eatF he ce) 6 0 (cl, fu)).2 pa he sn ho wa ∧ Off (mdC a) H H') := by
  show Ev tb 47 0 [some (.ref a), none, none, none, none] [] H _
  refine ev_iconst (v := nI 0) i47_0 (by decide) ?_
  refine ev_istore_n (L' := [some (.ref a), some (.int (nI 0)), none, none, none]) i47_1 ⟨Nat.le_of_ble_eq_true rfl, rfl⟩ rfl ?_
  exact lq47 hb ha hce 6 0 H cl fu rfl hcl hfu hM hH _ _ _
abbrev Hs : Type := (Nat → Nat) × (Nat → Nat) × (Nat → Int32) × Int32 × Int32
/-- an hour: clover, how full, pails, hours, hours of war -/
def hrF (he : Nat) (sd kd ce : Nat → Nat) (sn rg : Bool) (x : Hs) : Hs :=
  ((if srtF he kd x.2.1 sn rg = 3 then (x.1, (if srtF he kd x.2.1 sn rg = 1 then upto (mlkF he sd kd) 6 0 (x.2.1, x.2.2.1) else (x.2.1, x.2.2.1)).1) else upto (eatF he ce) 6 0 (x.1, (if srtF he kd x.2.1 sn rg = 1 then upto (mlkF he sd kd) 6 0 (x.2.1, x.2.2.1) else (x.2.1, x.2.2.1)).1)).1,
   (if srtF he kd x.2.1 sn rg = 3 then (x.1, (if srtF he kd x.2.1 sn rg = 1 then upto (mlkF he sd kd) 6 0 (x.2.1, x.2.2.1) else (x.2.1, x.2.2.1)).1) else upto (eatF he ce) 6 0 (x.1, (if srtF he kd x.2.1 sn rg = 1 then upto (mlkF he sd kd) 6 0 (x.2.1, x.2.2.1) else (x.2.1, x.2.2.1)).1)).2,
   (if srtF he kd x.2.1 sn rg = 1 then upto (mlkF he sd kd) 6 0 (x.2.1, x.2.2.1) else (x.2.1, x.2.2.1)).2,
   x.2.2.2.1 + nI 1, if srtF he kd x.2.1 sn rg = 0 then x.2.2.2.2 + nI 1 else x.2.2.2.2)
def Vn (m : Nat) (f : Nat → Nat) : Prop := ∀ j, m ≤ j → f j = 0
def Vi (m : Nat) (f : Nat → Int32) : Prop := ∀ j, m ≤ j → f j = 0
def SOK (x : Hs) : Prop := (∀ j, x.1 j < 10) ∧ (∀ j, x.2.1 j < 10) ∧ Vn 10 x.1 ∧ Vn 6 x.2.1 ∧ Vi 2 x.2.2.1
theorem Vn.up {m k v : Nat} {f : Nat → Nat} (h : Vn m f) (hk : k < m) : Vn m (updN f k v) := fun j hj => by
  unfold updN
  rw [if_neg (by omega)]
  exact h j hj
theorem Vi.up {m k : Nat} {v : Int32} {f : Nat → Int32} (h : Vi m f) (hk : k < m) : Vi m (upd f k v) := fun j hj => by
  unfold upd
  rw [if_neg (by omega)]
  exact h j hj
theorem upto_inv {α : Type} {f : Nat → α → α} {P : α → Prop} {N : Nat} (hf : ∀ k x, k < N → P x → P (f k x)) : ∀ (d k : Nat) (x : α), k + d ≤ N → P x → P (upto f d k x)
  | 0, _, _, _, h => h
  | d + 1, k, x, hk, h => upto_inv hf d (k + 1) (f k x) (by omega) (hf k x (by omega) h)
theorem mlk_lt {he : Nat} {sd kd : Nat → Nat} : ∀ (d k : Nat) (x : (Nat → Nat) × (Nat → Int32)), (∀ j, x.1 j < 10) → ∀ j, (upto (mlkF he sd kd) d k x).1 j < 10
  | 0, _, _, h => h
  | d + 1, k, x, h => by
    unfold upto
    refine mlk_lt d (k + 1) _ ?_
    unfold mlkF
    split
    · exact updN_lt h (by decide)
    · exact h
theorem eat_lt {he : Nat} {ce : Nat → Nat} : ∀ (d k : Nat) (x : (Nat → Nat) × (Nat → Nat)), (∀ j, x.1 j < 10) → (∀ j, x.2 j < 10) → (∀ j, (upto (eatF he ce) d k x).1 j < 10) ∧ ∀ j, (upto (eatF he ce) d k x).2 j < 10
  | 0, _, _, h, h2 => ⟨h, h2⟩
  | d + 1, k, x, h, h2 => by
    unfold upto
    have := h (ce k)
    unfold eatF
    split
    · refine eat_lt d (k + 1) _ (updN_lt h (by omega)) (updN_lt h2 ?_)
      repeat' split
      all_goals omega
    · exact eat_lt d (k + 1) _ h h2
theorem mlk_vn {he : Nat} {sd kd : Nat → Nat} (hsd : ∀ j, sd j < 2) (x : (Nat → Nat) × (Nat → Int32)) (h : Vn 6 x.1 ∧ Vi 2 x.2) : Vn 6 (upto (mlkF he sd kd) 6 0 x).1 ∧ Vi 2 (upto (mlkF he sd kd) 6 0 x).2 := by
  refine upto_inv (N := 6) (P := fun x => Vn 6 x.1 ∧ Vi 2 x.2) (fun k x hk h => ?_) 6 0 x (by decide) h
  unfold mlkF
  split
  · exact ⟨h.1.up hk, h.2.up (hsd k)⟩
  · exact h
theorem eat_vn {he : Nat} {ce : Nat → Nat} (hce : ∀ j, ce j < 10) (x : (Nat → Nat) × (Nat → Nat)) (h : Vn 10 x.1 ∧ Vn 6 x.2) : Vn 10 (upto (eatF he ce) 6 0 x).1 ∧ Vn 6 (upto (eatF he ce) 6 0 x).2 := by
  refine upto_inv (N := 6) (P := fun x => Vn 10 x.1 ∧ Vn 6 x.2) (fun k x hk h => ?_) 6 0 x (by decide) h
  unfold eatF
  split
  · exact ⟨h.1.up (hce k), h.2.up hk⟩
  · exact h
theorem hrF_ok {he : Nat} {sd kd ce : Nat → Nat} {sn rg : Bool} (hce : ∀ j, ce j < 10) (hsd : ∀ j, sd j < 2) {x : Hs} (h : SOK x) : SOK (hrF he sd kd ce sn rg x) := by
  obtain ⟨h1, h2, h3, h4, h5⟩ := h
  have hm : ∀ j, (if srtF he kd x.2.1 sn rg = 1 then upto (mlkF he sd kd) 6 0 (x.2.1, x.2.2.1) else (x.2.1, x.2.2.1)).1 j < 10 := by
    split
    · exact mlk_lt 6 0 _ h2
    · exact h2
  have hv : Vn 6 (if srtF he kd x.2.1 sn rg = 1 then upto (mlkF he sd kd) 6 0 (x.2.1, x.2.2.1) else (x.2.1, x.2.2.1)).1 ∧ Vi 2 (if srtF he kd x.2.1 sn rg = 1 then upto (mlkF he sd kd) 6 0 (x.2.1, x.2.2.1) else (x.2.1, x.2.2.1)).2 := by
    split
    · exact mlk_vn hsd _ ⟨h4, h5⟩
    · exact ⟨h4, h5⟩
  unfold SOK hrF
  dsimp only
  generalize (if srtF he kd x.2.1 sn rg = 1 then upto (mlkF he sd kd) 6 0 (x.2.1, x.2.2.1) else (x.2.1, x.2.2.1)) = y at hm hv ⊢
  split
  · exact ⟨h1, hm, h3, hv.1, hv.2⟩
  · have e1 := eat_lt (he := he) (ce := ce) 6 0 (x.1, y.1) h1 hm
    have e2 := eat_vn (he := he) hce (x.1, y.1) ⟨h3, hv.1⟩
    exact ⟨e1.1, e1.2, e2.1, e2.2, hv.2⟩
theorem c43 {tb : dxT} {H : dxH} {a n : Nat} {sd kd cl ce fu : Nat → Nat} {pa : Nat → Int32} {he : Nat} {sn rg : Bool} {ho wa : Int32} (hM : MdwAt H a cl ce fu pa he sn ho wa) (hH : HrdAt H n sd kd) (hb : he < 64) (ha : 6 ≤ a) (hfu : ∀ j, fu j < 10) (hcl : ∀ j, cl j < 10) (hce : ∀ j, ce j < 10) (hkd : ∀ j, kd j < 4) (hsd : ∀ j, sd j < 2) : Cl tb 43 [.ref a, .int (bI rg)] H (fun r H' => r = some (.int (nI (srtF he kd fu sn rg))) ∧ MdwAt H' a (hrF he sd kd ce sn rg (cl, fu, pa, ho, wa)).1 ce (hrF he sd kd ce sn rg (cl, fu, pa, ho, wa)).2.1 (hrF he sd kd ce sn rg (cl, fu, pa, ho, wa)).2.2.1 he sn (hrF he sd kd ce sn rg (cl, fu, pa, ho, wa)).2.2.2.1 (hrF he sd kd ce sn rg (cl, fu, pa, ho, wa)).2.2.2.2 ∧ Off (mdC a) H H') := by
  obtain ⟨m0, m1, m2, m3, m4⟩ := id hM
  obtain ⟨g0, g1, g2⟩ := id hH
  have hO : Off (mdC a) H H := Off.rf
  have hs4 := srtF_lt (he := he) (kd := kd) (fu := fu) (sn := sn) (rg := rg)
  show Ev tb 43 0 [some (.ref a), some (.int (bI rg)), none] [] H _
  refine ev_aload_n i43_0 rfl ?_
  refine ev_iload_n i43_1 rfl ?_
  refine ev_callV (vs := [.int (bI rg)]) (rest := []) i43_2 ci43 lk3_96 (congrArg (fun q => q + 1) np42) ci42 (by decide) (by decide +kernel) (Nat.le_of_ble_eq_true rfl) ⟨rfl, rfl, Nat.le_of_ble_eq_true rfl⟩ rfl (by assumption) (c42 (by assumption) (by assumption) hb ha hfu hkd) (fun r HH hq => ?_)
  obtain ⟨rfl, rfl⟩ := hq
  show Ev tb 43 5 [some (.ref a), some (.int (bI rg)), none] [.int (nI (srtF he kd fu sn rg))] H _
  refine ev_istore_n (L' := [some (.ref a), some (.int (bI rg)), some (.int (nI (srtF he kd fu sn rg)))]) i43_5 ⟨Nat.le_of_ble_eq_true rfl, rfl⟩ rfl ?_
  refine ev_iload_n i43_6 rfl ?_
  refine ev_iconst (v := nI 1) i43_7 (by decide) ?_
  refine evn_icmp_ne (t := 15) i43_8 (by decide) (by omega) (fun z8 => ?_) (fun z8 => ?_)
  · refine ev_iload_n i43_15 rfl ?_
    refine ev_iconst (v := nI 3) i43_16 (by decide) ?_
    refine evn_icmp_eq (t := 24) i43_17 (by decide) (by omega) (fun z17 => ?_) (fun z17 => ?_)
    · refine ev_iload_n i43_24 rfl ?_
      refine evn_if_ne (t := 38) i43_25 (by decide) (by omega) (fun z25 => ?_) (fun z25 => ?_)
      · refine ev_aload_n i43_38 rfl ?_
        refine ev_dup i43_39 rfl ?_
        refine ev_get i43_40 ci43 fl3_36 (by assumption) rfl ?_
        refine ev_iconst (v := nI 1) i43_43 (by decide) ?_
        refine ev_iadd i43_44 ?_
        refine evs_put (fs' := [.ref 3, .ref (a + 1), .ref (a + 2), .ref (a + 3), .ref (a + 4), .int (nI he), .int (bI sn), .int (ho + (nI 1)), .int wa]) i43_45 ci43 fl3_36 (by assumption) ⟨Nat.le_of_ble_eq_true rfl, rfl, Or.inl rfl⟩ rfl (fun H1 hH1 => ?_)
        have m0 : H1[a]? = some (.inr (3, [.ref 3, .ref (a + 1), .ref (a + 2), .ref (a + 3), .ref (a + 4), .int (nI he), .int (bI sn), .int (ho + (nI 1)), .int wa])) := by rw [hH1]; exact set_self m0
        have m1 : H1[a + 1]? = some (IA 10 cl) := by rw [hH1]; exact set_ne m1 (by omega)
        have m2 : H1[a + 2]? = some (IA 6 ce) := by rw [hH1]; exact set_ne m2 (by omega)
        have m3 : H1[a + 3]? = some (IA 6 fu) := by rw [hH1]; exact set_ne m3 (by omega)
        have m4 : H1[a + 4]? = some (.inl (0, 2, .inl pa)) := by rw [hH1]; exact set_ne m4 (by omega)
        have g0 : H1[3]? = some (.inr (2, [.ref 4, .ref 5, .int (nI n)])) := by rw [hH1]; exact set_ne g0 (by omega)
        have g1 : H1[4]? = some (IA 6 sd) := by rw [hH1]; exact set_ne g1 (by omega)
        have g2 : H1[5]? = some (IA 6 kd) := by rw [hH1]; exact set_ne g2 (by omega)
        have hO : Off (mdC a) H H1 := by rw [hH1]; exact hO.set (by exact ⟨by omega, by omega⟩)
        refine ev_iload_n i43_48 rfl ?_
        refine ev_iret i43_49 (by decide +kernel) ?_
        first
          | (exfalso; omega)
          | (refine ⟨rfl, ?_, hO⟩
             have e1 : hrF he sd kd ce sn rg (cl, fu, pa, ho, wa) = (cl, fu, pa, ho + (nI 1), wa) := by
               unfold hrF
               simp [z8, z17, z25]
             rw [e1]
             exact ⟨m0, m1, m2, m3, m4⟩)
      · refine ev_aload_n i43_28 rfl ?_
        refine ev_dup i43_29 rfl ?_
        refine ev_get i43_30 ci43 fl3_39 (by assumption) rfl ?_
        refine ev_iconst (v := nI 1) i43_33 (by decide) ?_
        refine ev_iadd i43_34 ?_
        refine evs_put (fs' := [.ref 3, .ref (a + 1), .ref (a + 2), .ref (a + 3), .ref (a + 4), .int (nI he), .int (bI sn), .int ho, .int (wa + (nI 1))]) i43_35 ci43 fl3_39 (by assumption) ⟨Nat.le_of_ble_eq_true rfl, rfl, Or.inl rfl⟩ rfl (fun H1 hH1 => ?_)
        have m0 : H1[a]? = some (.inr (3, [.ref 3, .ref (a + 1), .ref (a + 2), .ref (a + 3), .ref (a + 4), .int (nI he), .int (bI sn), .int ho, .int (wa + (nI 1))])) := by rw [hH1]; exact set_self m0
        have m1 : H1[a + 1]? = some (IA 10 cl) := by rw [hH1]; exact set_ne m1 (by omega)
        have m2 : H1[a + 2]? = some (IA 6 ce) := by rw [hH1]; exact set_ne m2 (by omega)
        have m3 : H1[a + 3]? = some (IA 6 fu) := by rw [hH1]; exact set_ne m3 (by omega)
        have m4 : H1[a + 4]? = some (.inl (0, 2, .inl pa)) := by rw [hH1]; exact set_ne m4 (by omega)
        have g0 : H1[3]? = some (.inr (2, [.ref 4, .ref 5, .int (nI n)])) := by rw [hH1]; exact set_ne g0 (by omega)
        have g1 : H1[4]? = some (IA 6 sd) := by rw [hH1]; exact set_ne g1 (by omega)
        have g2 : H1[5]? = some (IA 6 kd) := by rw [hH1]; exact set_ne g2 (by omega)
        have hO : Off (mdC a) H H1 := by rw [hH1]; exact hO.set (by exact ⟨by omega, by omega⟩)
        refine ev_aload_n i43_38 rfl ?_
        refine ev_dup i43_39 rfl ?_
        refine ev_get i43_40 ci43 fl3_36 (by assumption) rfl ?_
        refine ev_iconst (v := nI 1) i43_43 (by decide) ?_
        refine ev_iadd i43_44 ?_
        refine evs_put (fs' := [.ref 3, .ref (a + 1), .ref (a + 2), .ref (a + 3), .ref (a + 4), .int (nI he), .int (bI sn), .int (ho + (nI 1)), .int (wa + (nI 1))]) i43_45 ci43 fl3_36 (by assumption) ⟨Nat.le_of_ble_eq_true rfl, rfl, Or.inl rfl⟩ rfl (fun H2 hH2 => ?_)
        have m0 : H2[a]? = some (.inr (3, [.ref 3, .ref (a + 1), .ref (a + 2), .ref (a + 3), .ref (a + 4), .int (nI he), .int (bI sn), .int (ho + (nI 1)), .int (wa + (nI 1))])) := by rw [hH2]; exact set_self m0
        have m1 : H2[a + 1]? = some (IA 10 cl) := by rw [hH2]; exact set_ne m1 (by omega)
        have m2 : H2[a + 2]? = some (IA 6 ce) := by rw [hH2]; exact set_ne m2 (by omega)
        have m3 : H2[a + 3]? = some (IA 6 fu) := by rw [hH2]; exact set_ne m3 (by omega)
        have m4 : H2[a + 4]? = some (.inl (0, 2, .inl pa)) := by rw [hH2]; exact set_ne m4 (by omega)
        have g0 : H2[3]? = some (.inr (2, [.ref 4, .ref 5, .int (nI n)])) := by rw [hH2]; exact set_ne g0 (by omega)
        have g1 : H2[4]? = some (IA 6 sd) := by rw [hH2]; exact set_ne g1 (by omega)
        have g2 : H2[5]? = some (IA 6 kd) := by rw [hH2]; exact set_ne g2 (by omega)
        have hO : Off (mdC a) H H2 := by rw [hH2]; exact hO.set (by exact ⟨by omega, by omega⟩)
        refine ev_iload_n i43_48 rfl ?_
        refine ev_iret i43_49 (by decide +kernel) ?_
        first
          | (exfalso; omega)
          | (refine ⟨rfl, ?_, hO⟩
             have e1 : hrF he sd kd ce sn rg (cl, fu, pa, ho, wa) = (cl, fu, pa, ho + (nI 1), wa + (nI 1)) := by
               unfold hrF
               simp [z8, z17, z25]
             rw [e1]
             exact ⟨m0, m1, m2, m3, m4⟩)
    · refine ev_aload_n i43_20 rfl ?_
      refine ev_callV (vs := []) (rest := []) i43_21 ci43 lk3_103 (congrArg (fun q => q + 1) np47) ci47 (by decide) (by decide +kernel) (Nat.le_of_ble_eq_true rfl) ⟨rfl, rfl, Nat.le_of_ble_eq_true rfl⟩ rfl (by assumption) (c47 (by assumption) (by assumption) hb ha hfu hcl hce) (fun r H1 hq => ?_)
      obtain ⟨rfl, hM, hO1⟩ := hq
      obtain ⟨m0, m1, m2, m3, m4⟩ := id hM
      have hO : Off (mdC a) H H1 := hO.trans hO1 (fun _ h => h) (fun _ h => h)
      have hH := hH.off hO1 (fun q => by have := q.1; omega) (fun q => by have := q.1; omega) (fun q => by have := q.1; omega)
      obtain ⟨g0, g1, g2⟩ := id hH
      show Ev tb 43 24 [some (.ref a), some (.int (bI rg)), some (.int (nI (srtF he kd fu sn rg)))] [] H1 _
      refine ev_iload_n i43_24 rfl ?_
      refine evn_if_ne (t := 38) i43_25 (by decide) (by omega) (fun z25 => ?_) (fun z25 => ?_)
      · refine ev_aload_n i43_38 rfl ?_
        refine ev_dup i43_39 rfl ?_
        refine ev_get i43_40 ci43 fl3_36 (by assumption) rfl ?_
        refine ev_iconst (v := nI 1) i43_43 (by decide) ?_
        refine ev_iadd i43_44 ?_
        refine evs_put (fs' := [.ref 3, .ref (a + 1), .ref (a + 2), .ref (a + 3), .ref (a + 4), .int (nI he), .int (bI sn), .int (ho + (nI 1)), .int wa]) i43_45 ci43 fl3_36 (by assumption) ⟨Nat.le_of_ble_eq_true rfl, rfl, Or.inl rfl⟩ rfl (fun H2 hH2 => ?_)
        have m0 : H2[a]? = some (.inr (3, [.ref 3, .ref (a + 1), .ref (a + 2), .ref (a + 3), .ref (a + 4), .int (nI he), .int (bI sn), .int (ho + (nI 1)), .int wa])) := by rw [hH2]; exact set_self m0
        have m1 : H2[a + 1]? = some (IA 10 ((upto (eatF he ce) 6 0 (cl, fu)).1)) := by rw [hH2]; exact set_ne m1 (by omega)
        have m2 : H2[a + 2]? = some (IA 6 ce) := by rw [hH2]; exact set_ne m2 (by omega)
        have m3 : H2[a + 3]? = some (IA 6 ((upto (eatF he ce) 6 0 (cl, fu)).2)) := by rw [hH2]; exact set_ne m3 (by omega)
        have m4 : H2[a + 4]? = some (.inl (0, 2, .inl pa)) := by rw [hH2]; exact set_ne m4 (by omega)
        have g0 : H2[3]? = some (.inr (2, [.ref 4, .ref 5, .int (nI n)])) := by rw [hH2]; exact set_ne g0 (by omega)
        have g1 : H2[4]? = some (IA 6 sd) := by rw [hH2]; exact set_ne g1 (by omega)
        have g2 : H2[5]? = some (IA 6 kd) := by rw [hH2]; exact set_ne g2 (by omega)
        have hO : Off (mdC a) H H2 := by rw [hH2]; exact hO.set (by exact ⟨by omega, by omega⟩)
        refine ev_iload_n i43_48 rfl ?_
        refine ev_iret i43_49 (by decide +kernel) ?_
        first
          | (exfalso; omega)
          | (refine ⟨rfl, ?_, hO⟩
             have e1 : hrF he sd kd ce sn rg (cl, fu, pa, ho, wa) = ((upto (eatF he ce) 6 0 (cl, fu)).1, (upto (eatF he ce) 6 0 (cl, fu)).2, pa, ho + (nI 1), wa) := by
               unfold hrF
               simp [z8, z17, z25]
             rw [e1]
             exact ⟨m0, m1, m2, m3, m4⟩)
      · refine ev_aload_n i43_28 rfl ?_
        refine ev_dup i43_29 rfl ?_
        refine ev_get i43_30 ci43 fl3_39 (by assumption) rfl ?_
        refine ev_iconst (v := nI 1) i43_33 (by decide) ?_
        refine ev_iadd i43_34 ?_
        refine evs_put (fs' := [.ref 3, .ref (a + 1), .ref (a + 2), .ref (a + 3), .ref (a + 4), .int (nI he), .int (bI sn), .int ho, .int (wa + (nI 1))]) i43_35 ci43 fl3_39 (by assumption) ⟨Nat.le_of_ble_eq_true rfl, rfl, Or.inl rfl⟩ rfl (fun H2 hH2 => ?_)
        have m0 : H2[a]? = some (.inr (3, [.ref 3, .ref (a + 1), .ref (a + 2), .ref (a + 3), .ref (a + 4), .int (nI he), .int (bI sn), .int ho, .int (wa + (nI 1))])) := by rw [hH2]; exact set_self m0
        have m1 : H2[a + 1]? = some (IA 10 ((upto (eatF he ce) 6 0 (cl, fu)).1)) := by rw [hH2]; exact set_ne m1 (by omega)
        have m2 : H2[a + 2]? = some (IA 6 ce) := by rw [hH2]; exact set_ne m2 (by omega)
        have m3 : H2[a + 3]? = some (IA 6 ((upto (eatF he ce) 6 0 (cl, fu)).2)) := by rw [hH2]; exact set_ne m3 (by omega)
        have m4 : H2[a + 4]? = some (.inl (0, 2, .inl pa)) := by rw [hH2]; exact set_ne m4 (by omega)
        have g0 : H2[3]? = some (.inr (2, [.ref 4, .ref 5, .int (nI n)])) := by rw [hH2]; exact set_ne g0 (by omega)
        have g1 : H2[4]? = some (IA 6 sd) := by rw [hH2]; exact set_ne g1 (by omega)
        have g2 : H2[5]? = some (IA 6 kd) := by rw [hH2]; exact set_ne g2 (by omega)
        have hO : Off (mdC a) H H2 := by rw [hH2]; exact hO.set (by exact ⟨by omega, by omega⟩)
        refine ev_aload_n i43_38 rfl ?_
        refine ev_dup i43_39 rfl ?_
        refine ev_get i43_40 ci43 fl3_36 (by assumption) rfl ?_
        refine ev_iconst (v := nI 1) i43_43 (by decide) ?_
        refine ev_iadd i43_44 ?_
        refine evs_put (fs' := [.ref 3, .ref (a + 1), .ref (a + 2), .ref (a + 3), .ref (a + 4), .int (nI he), .int (bI sn), .int (ho + (nI 1)), .int (wa + (nI 1))]) i43_45 ci43 fl3_36 (by assumption) ⟨Nat.le_of_ble_eq_true rfl, rfl, Or.inl rfl⟩ rfl (fun H3 hH3 => ?_)
        have m0 : H3[a]? = some (.inr (3, [.ref 3, .ref (a + 1), .ref (a + 2), .ref (a + 3), .ref (a + 4), .int (nI he), .int (bI sn), .int (ho + (nI 1)), .int (wa + (nI 1))])) := by rw [hH3]; exact set_self m0
        have m1 : H3[a + 1]? = some (IA 10 ((upto (eatF he ce) 6 0 (cl, fu)).1)) := by rw [hH3]; exact set_ne m1 (by omega)
        have m2 : H3[a + 2]? = some (IA 6 ce) := by rw [hH3]; exact set_ne m2 (by omega)
        have m3 : H3[a + 3]? = some (IA 6 ((upto (eatF he ce) 6 0 (cl, fu)).2)) := by rw [hH3]; exact set_ne m3 (by omega)
        have m4 : H3[a + 4]? = some (.inl (0, 2, .inl pa)) := by rw [hH3]; exact set_ne m4 (by omega)
        have g0 : H3[3]? = some (.inr (2, [.ref 4, .ref 5, .int (nI n)])) := by rw [hH3]; exact set_ne g0 (by omega)
        have g1 : H3[4]? = some (IA 6 sd) := by rw [hH3]; exact set_ne g1 (by omega)
        have g2 : H3[5]? = some (IA 6 kd) := by rw [hH3]; exact set_ne g2 (by omega)
        have hO : Off (mdC a) H H3 := by rw [hH3]; exact hO.set (by exact ⟨by omega, by omega⟩)
        refine ev_iload_n i43_48 rfl ?_
        refine ev_iret i43_49 (by decide +kernel) ?_
        first
          | (exfalso; omega)
          | (refine ⟨rfl, ?_, hO⟩
             have e1 : hrF he sd kd ce sn rg (cl, fu, pa, ho, wa) = ((upto (eatF he ce) 6 0 (cl, fu)).1, (upto (eatF he ce) 6 0 (cl, fu)).2, pa, ho + (nI 1), wa + (nI 1)) := by
               unfold hrF
               simp [z8, z17, z25]
             rw [e1]
             exact ⟨m0, m1, m2, m3, m4⟩)
  · refine ev_aload_n i43_11 rfl ?_
    refine ev_callV (vs := []) (rest := []) i43_12 ci43 lk3_100 (congrArg (fun q => q + 1) np46) ci46 (by decide) (by decide +kernel) (Nat.le_of_ble_eq_true rfl) ⟨rfl, rfl, Nat.le_of_ble_eq_true rfl⟩ rfl (by assumption) (c46 (by assumption) (by assumption) hb ha hfu hkd hsd) (fun r H1 hq => ?_)
    obtain ⟨rfl, hM, hO1⟩ := hq
    obtain ⟨m0, m1, m2, m3, m4⟩ := id hM
    have hO : Off (mdC a) H H1 := hO.trans hO1 (fun _ h => h) (fun _ h => h)
    have hH := hH.off hO1 (fun q => by have := q.1; omega) (fun q => by have := q.1; omega) (fun q => by have := q.1; omega)
    obtain ⟨g0, g1, g2⟩ := id hH
    have hfu := mlk_lt (he := he) (sd := sd) (kd := kd) 6 0 (fu, pa) hfu
    show Ev tb 43 15 [some (.ref a), some (.int (bI rg)), some (.int (nI (srtF he kd fu sn rg)))] [] H1 _
    refine ev_iload_n i43_15 rfl ?_
    refine ev_iconst (v := nI 3) i43_16 (by decide) ?_
    refine evn_icmp_eq (t := 24) i43_17 (by decide) (by omega) (fun z17 => ?_) (fun z17 => ?_)
    · refine ev_iload_n i43_24 rfl ?_
      refine evn_if_ne (t := 38) i43_25 (by decide) (by omega) (fun z25 => ?_) (fun z25 => ?_)
      · refine ev_aload_n i43_38 rfl ?_
        refine ev_dup i43_39 rfl ?_
        refine ev_get i43_40 ci43 fl3_36 (by assumption) rfl ?_
        refine ev_iconst (v := nI 1) i43_43 (by decide) ?_
        refine ev_iadd i43_44 ?_
        refine evs_put (fs' := [.ref 3, .ref (a + 1), .ref (a + 2), .ref (a + 3), .ref (a + 4), .int (nI he), .int (bI sn), .int (ho + (nI 1)), .int wa]) i43_45 ci43 fl3_36 (by assumption) ⟨Nat.le_of_ble_eq_true rfl, rfl, Or.inl rfl⟩ rfl (fun H2 hH2 => ?_)
        have m0 : H2[a]? = some (.inr (3, [.ref 3, .ref (a + 1), .ref (a + 2), .ref (a + 3), .ref (a + 4), .int (nI he), .int (bI sn), .int (ho + (nI 1)), .int wa])) := by rw [hH2]; exact set_self m0
        have m1 : H2[a + 1]? = some (IA 10 cl) := by rw [hH2]; exact set_ne m1 (by omega)
        have m2 : H2[a + 2]? = some (IA 6 ce) := by rw [hH2]; exact set_ne m2 (by omega)
        have m3 : H2[a + 3]? = some (IA 6 ((upto (mlkF he sd kd) 6 0 (fu, pa)).1)) := by rw [hH2]; exact set_ne m3 (by omega)
        have m4 : H2[a + 4]? = some (.inl (0, 2, .inl ((upto (mlkF he sd kd) 6 0 (fu, pa)).2))) := by rw [hH2]; exact set_ne m4 (by omega)
        have g0 : H2[3]? = some (.inr (2, [.ref 4, .ref 5, .int (nI n)])) := by rw [hH2]; exact set_ne g0 (by omega)
        have g1 : H2[4]? = some (IA 6 sd) := by rw [hH2]; exact set_ne g1 (by omega)
        have g2 : H2[5]? = some (IA 6 kd) := by rw [hH2]; exact set_ne g2 (by omega)
        have hO : Off (mdC a) H H2 := by rw [hH2]; exact hO.set (by exact ⟨by omega, by omega⟩)
        refine ev_iload_n i43_48 rfl ?_
        refine ev_iret i43_49 (by decide +kernel) ?_
        first
          | (exfalso; omega)
          | (refine ⟨rfl, ?_, hO⟩
             have e1 : hrF he sd kd ce sn rg (cl, fu, pa, ho, wa) = (cl, (upto (mlkF he sd kd) 6 0 (fu, pa)).1, (upto (mlkF he sd kd) 6 0 (fu, pa)).2, ho + (nI 1), wa) := by
               unfold hrF
               simp [z8, z17, z25]
             rw [e1]
             exact ⟨m0, m1, m2, m3, m4⟩)
      · refine ev_aload_n i43_28 rfl ?_
        refine ev_dup i43_29 rfl ?_
        refine ev_get i43_30 ci43 fl3_39 (by assumption) rfl ?_
        refine ev_iconst (v := nI 1) i43_33 (by decide) ?_
        refine ev_iadd i43_34 ?_
        refine evs_put (fs' := [.ref 3, .ref (a + 1), .ref (a + 2), .ref (a + 3), .ref (a + 4), .int (nI he), .int (bI sn), .int ho, .int (wa + (nI 1))]) i43_35 ci43 fl3_39 (by assumption) ⟨Nat.le_of_ble_eq_true rfl, rfl, Or.inl rfl⟩ rfl (fun H2 hH2 => ?_)
        have m0 : H2[a]? = some (.inr (3, [.ref 3, .ref (a + 1), .ref (a + 2), .ref (a + 3), .ref (a + 4), .int (nI he), .int (bI sn), .int ho, .int (wa + (nI 1))])) := by rw [hH2]; exact set_self m0
        have m1 : H2[a + 1]? = some (IA 10 cl) := by rw [hH2]; exact set_ne m1 (by omega)
        have m2 : H2[a + 2]? = some (IA 6 ce) := by rw [hH2]; exact set_ne m2 (by omega)
        have m3 : H2[a + 3]? = some (IA 6 ((upto (mlkF he sd kd) 6 0 (fu, pa)).1)) := by rw [hH2]; exact set_ne m3 (by omega)
        have m4 : H2[a + 4]? = some (.inl (0, 2, .inl ((upto (mlkF he sd kd) 6 0 (fu, pa)).2))) := by rw [hH2]; exact set_ne m4 (by omega)
        have g0 : H2[3]? = some (.inr (2, [.ref 4, .ref 5, .int (nI n)])) := by rw [hH2]; exact set_ne g0 (by omega)
        have g1 : H2[4]? = some (IA 6 sd) := by rw [hH2]; exact set_ne g1 (by omega)
        have g2 : H2[5]? = some (IA 6 kd) := by rw [hH2]; exact set_ne g2 (by omega)
        have hO : Off (mdC a) H H2 := by rw [hH2]; exact hO.set (by exact ⟨by omega, by omega⟩)
        refine ev_aload_n i43_38 rfl ?_
        refine ev_dup i43_39 rfl ?_
        refine ev_get i43_40 ci43 fl3_36 (by assumption) rfl ?_
        refine ev_iconst (v := nI 1) i43_43 (by decide) ?_
        refine ev_iadd i43_44 ?_
        refine evs_put (fs' := [.ref 3, .ref (a + 1), .ref (a + 2), .ref (a + 3), .ref (a + 4), .int (nI he), .int (bI sn), .int (ho + (nI 1)), .int (wa + (nI 1))]) i43_45 ci43 fl3_36 (by assumption) ⟨Nat.le_of_ble_eq_true rfl, rfl, Or.inl rfl⟩ rfl (fun H3 hH3 => ?_)
        have m0 : H3[a]? = some (.inr (3, [.ref 3, .ref (a + 1), .ref (a + 2), .ref (a + 3), .ref (a + 4), .int (nI he), .int (bI sn), .int (ho + (nI 1)), .int (wa + (nI 1))])) := by rw [hH3]; exact set_self m0
        have m1 : H3[a + 1]? = some (IA 10 cl) := by rw [hH3]; exact set_ne m1 (by omega)
        have m2 : H3[a + 2]? = some (IA 6 ce) := by rw [hH3]; exact set_ne m2 (by omega)
        have m3 : H3[a + 3]? = some (IA 6 ((upto (mlkF he sd kd) 6 0 (fu, pa)).1)) := by rw [hH3]; exact set_ne m3 (by omega)
        have m4 : H3[a + 4]? = some (.inl (0, 2, .inl ((upto (mlkF he sd kd) 6 0 (fu, pa)).2))) := by rw [hH3]; exact set_ne m4 (by omega)
        have g0 : H3[3]? = some (.inr (2, [.ref 4, .ref 5, .int (nI n)])) := by rw [hH3]; exact set_ne g0 (by omega)
        have g1 : H3[4]? = some (IA 6 sd) := by rw [hH3]; exact set_ne g1 (by omega)
        have g2 : H3[5]? = some (IA 6 kd) := by rw [hH3]; exact set_ne g2 (by omega)
        have hO : Off (mdC a) H H3 := by rw [hH3]; exact hO.set (by exact ⟨by omega, by omega⟩)
        refine ev_iload_n i43_48 rfl ?_
        refine ev_iret i43_49 (by decide +kernel) ?_
        first
          | (exfalso; omega)
          | (refine ⟨rfl, ?_, hO⟩
             have e1 : hrF he sd kd ce sn rg (cl, fu, pa, ho, wa) = (cl, (upto (mlkF he sd kd) 6 0 (fu, pa)).1, (upto (mlkF he sd kd) 6 0 (fu, pa)).2, ho + (nI 1), wa + (nI 1)) := by
               unfold hrF
               simp [z8, z17, z25]
             rw [e1]
             exact ⟨m0, m1, m2, m3, m4⟩)
    · refine ev_aload_n i43_20 rfl ?_
      refine ev_callV (vs := []) (rest := []) i43_21 ci43 lk3_103 (congrArg (fun q => q + 1) np47) ci47 (by decide) (by decide +kernel) (Nat.le_of_ble_eq_true rfl) ⟨rfl, rfl, Nat.le_of_ble_eq_true rfl⟩ rfl (by assumption) (c47 (by assumption) (by assumption) hb ha hfu hcl hce) (fun r H2 hq => ?_)
      obtain ⟨rfl, hM, hO1⟩ := hq
      obtain ⟨m0, m1, m2, m3, m4⟩ := id hM
      have hO : Off (mdC a) H H2 := hO.trans hO1 (fun _ h => h) (fun _ h => h)
      have hH := hH.off hO1 (fun q => by have := q.1; omega) (fun q => by have := q.1; omega) (fun q => by have := q.1; omega)
      obtain ⟨g0, g1, g2⟩ := id hH
      show Ev tb 43 24 [some (.ref a), some (.int (bI rg)), some (.int (nI (srtF he kd fu sn rg)))] [] H2 _
      refine ev_iload_n i43_24 rfl ?_
      refine evn_if_ne (t := 38) i43_25 (by decide) (by omega) (fun z25 => ?_) (fun z25 => ?_)
      · refine ev_aload_n i43_38 rfl ?_
        refine ev_dup i43_39 rfl ?_
        refine ev_get i43_40 ci43 fl3_36 (by assumption) rfl ?_
        refine ev_iconst (v := nI 1) i43_43 (by decide) ?_
        refine ev_iadd i43_44 ?_
        refine evs_put (fs' := [.ref 3, .ref (a + 1), .ref (a + 2), .ref (a + 3), .ref (a + 4), .int (nI he), .int (bI sn), .int (ho + (nI 1)), .int wa]) i43_45 ci43 fl3_36 (by assumption) ⟨Nat.le_of_ble_eq_true rfl, rfl, Or.inl rfl⟩ rfl (fun H3 hH3 => ?_)
        have m0 : H3[a]? = some (.inr (3, [.ref 3, .ref (a + 1), .ref (a + 2), .ref (a + 3), .ref (a + 4), .int (nI he), .int (bI sn), .int (ho + (nI 1)), .int wa])) := by rw [hH3]; exact set_self m0
        have m1 : H3[a + 1]? = some (IA 10 ((upto (eatF he ce) 6 0 (cl, (upto (mlkF he sd kd) 6 0 (fu, pa)).1)).1)) := by rw [hH3]; exact set_ne m1 (by omega)
        have m2 : H3[a + 2]? = some (IA 6 ce) := by rw [hH3]; exact set_ne m2 (by omega)
        have m3 : H3[a + 3]? = some (IA 6 ((upto (eatF he ce) 6 0 (cl, (upto (mlkF he sd kd) 6 0 (fu, pa)).1)).2)) := by rw [hH3]; exact set_ne m3 (by omega)
        have m4 : H3[a + 4]? = some (.inl (0, 2, .inl ((upto (mlkF he sd kd) 6 0 (fu, pa)).2))) := by rw [hH3]; exact set_ne m4 (by omega)
        have g0 : H3[3]? = some (.inr (2, [.ref 4, .ref 5, .int (nI n)])) := by rw [hH3]; exact set_ne g0 (by omega)
        have g1 : H3[4]? = some (IA 6 sd) := by rw [hH3]; exact set_ne g1 (by omega)
        have g2 : H3[5]? = some (IA 6 kd) := by rw [hH3]; exact set_ne g2 (by omega)
        have hO : Off (mdC a) H H3 := by rw [hH3]; exact hO.set (by exact ⟨by omega, by omega⟩)
        refine ev_iload_n i43_48 rfl ?_
        refine ev_iret i43_49 (by decide +kernel) ?_
        first
          | (exfalso; omega)
          | (refine ⟨rfl, ?_, hO⟩
             have e1 : hrF he sd kd ce sn rg (cl, fu, pa, ho, wa) = ((upto (eatF he ce) 6 0 (cl, (upto (mlkF he sd kd) 6 0 (fu, pa)).1)).1, (upto (eatF he ce) 6 0 (cl, (upto (mlkF he sd kd) 6 0 (fu, pa)).1)).2, (upto (mlkF he sd kd) 6 0 (fu, pa)).2, ho + (nI 1), wa) := by
               unfold hrF
               simp [z8, z17, z25]
             rw [e1]
             exact ⟨m0, m1, m2, m3, m4⟩)
      · refine ev_aload_n i43_28 rfl ?_
        refine ev_dup i43_29 rfl ?_
        refine ev_get i43_30 ci43 fl3_39 (by assumption) rfl ?_
        refine ev_iconst (v := nI 1) i43_33 (by decide) ?_
        refine ev_iadd i43_34 ?_
        refine evs_put (fs' := [.ref 3, .ref (a + 1), .ref (a + 2), .ref (a + 3), .ref (a + 4), .int (nI he), .int (bI sn), .int ho, .int (wa + (nI 1))]) i43_35 ci43 fl3_39 (by assumption) ⟨Nat.le_of_ble_eq_true rfl, rfl, Or.inl rfl⟩ rfl (fun H3 hH3 => ?_)
        have m0 : H3[a]? = some (.inr (3, [.ref 3, .ref (a + 1), .ref (a + 2), .ref (a + 3), .ref (a + 4), .int (nI he), .int (bI sn), .int ho, .int (wa + (nI 1))])) := by rw [hH3]; exact set_self m0
        have m1 : H3[a + 1]? = some (IA 10 ((upto (eatF he ce) 6 0 (cl, (upto (mlkF he sd kd) 6 0 (fu, pa)).1)).1)) := by rw [hH3]; exact set_ne m1 (by omega)
        have m2 : H3[a + 2]? = some (IA 6 ce) := by rw [hH3]; exact set_ne m2 (by omega)
        have m3 : H3[a + 3]? = some (IA 6 ((upto (eatF he ce) 6 0 (cl, (upto (mlkF he sd kd) 6 0 (fu, pa)).1)).2)) := by rw [hH3]; exact set_ne m3 (by omega)
        have m4 : H3[a + 4]? = some (.inl (0, 2, .inl ((upto (mlkF he sd kd) 6 0 (fu, pa)).2))) := by rw [hH3]; exact set_ne m4 (by omega)
        have g0 : H3[3]? = some (.inr (2, [.ref 4, .ref 5, .int (nI n)])) := by rw [hH3]; exact set_ne g0 (by omega)
        have g1 : H3[4]? = some (IA 6 sd) := by rw [hH3]; exact set_ne g1 (by omega)
        have g2 : H3[5]? = some (IA 6 kd) := by rw [hH3]; exact set_ne g2 (by omega)
        have hO : Off (mdC a) H H3 := by rw [hH3]; exact hO.set (by exact ⟨by omega, by omega⟩)
        refine ev_aload_n i43_38 rfl ?_
        refine ev_dup i43_39 rfl ?_
        refine ev_get i43_40 ci43 fl3_36 (by assumption) rfl ?_
        refine ev_iconst (v := nI 1) i43_43 (by decide) ?_
        refine ev_iadd i43_44 ?_
        refine evs_put (fs' := [.ref 3, .ref (a + 1), .ref (a + 2), .ref (a + 3), .ref (a + 4), .int (nI he), .int (bI sn), .int (ho + (nI 1)), .int (wa + (nI 1))]) i43_45 ci43 fl3_36 (by assumption) ⟨Nat.le_of_ble_eq_true rfl, rfl, Or.inl rfl⟩ rfl (fun H4 hH4 => ?_)
        have m0 : H4[a]? = some (.inr (3, [.ref 3, .ref (a + 1), .ref (a + 2), .ref (a + 3), .ref (a + 4), .int (nI he), .int (bI sn), .int (ho + (nI 1)), .int (wa + (nI 1))])) := by rw [hH4]; exact set_self m0
        have m1 : H4[a + 1]? = some (IA 10 ((upto (eatF he ce) 6 0 (cl, (upto (mlkF he sd kd) 6 0 (fu, pa)).1)).1)) := by rw [hH4]; exact set_ne m1 (by omega)
        have m2 : H4[a + 2]? = some (IA 6 ce) := by rw [hH4]; exact set_ne m2 (by omega)
        have m3 : H4[a + 3]? = some (IA 6 ((upto (eatF he ce) 6 0 (cl, (upto (mlkF he sd kd) 6 0 (fu, pa)).1)).2)) := by rw [hH4]; exact set_ne m3 (by omega)
        have m4 : H4[a + 4]? = some (.inl (0, 2, .inl ((upto (mlkF he sd kd) 6 0 (fu, pa)).2))) := by rw [hH4]; exact set_ne m4 (by omega)
        have g0 : H4[3]? = some (.inr (2, [.ref 4, .ref 5, .int (nI n)])) := by rw [hH4]; exact set_ne g0 (by omega)
        have g1 : H4[4]? = some (IA 6 sd) := by rw [hH4]; exact set_ne g1 (by omega)
        have g2 : H4[5]? = some (IA 6 kd) := by rw [hH4]; exact set_ne g2 (by omega)
        have hO : Off (mdC a) H H4 := by rw [hH4]; exact hO.set (by exact ⟨by omega, by omega⟩)
        refine ev_iload_n i43_48 rfl ?_
        refine ev_iret i43_49 (by decide +kernel) ?_
        first
          | (exfalso; omega)
          | (refine ⟨rfl, ?_, hO⟩
             have e1 : hrF he sd kd ce sn rg (cl, fu, pa, ho, wa) = ((upto (eatF he ce) 6 0 (cl, (upto (mlkF he sd kd) 6 0 (fu, pa)).1)).1, (upto (eatF he ce) 6 0 (cl, (upto (mlkF he sd kd) 6 0 (fu, pa)).1)).2, (upto (mlkF he sd kd) 6 0 (fu, pa)).2, ho + (nI 1), wa + (nI 1)) := by
               unfold hrF
               simp [z8, z17, z25]
             rw [e1]
             exact ⟨m0, m1, m2, m3, m4⟩)
abbrev MdS (H : dxH) (a : Nat) (ce : Nat → Nat) (he : Nat) (sn : Bool) (x : Hs) : Prop := MdwAt H a x.1 ce x.2.1 x.2.2.1 he sn x.2.2.2.1 x.2.2.2.2
/-- d hours without bells -/
def hrs (he : Nat) (sd kd ce : Nat → Nat) (sn : Bool) : Nat → Hs → Hs
  | 0, x => x
  | d + 1, x => hrs he sd kd ce sn d (hrF he sd kd ce sn false x)
def cntL (he : Nat) (sd kd ce : Nat → Nat) (sn : Bool) (s : Nat) : Nat → Hs → Nat
  | 0, _ => 0
  | d + 1, x => (if srtF he kd x.2.1 sn false = s then 1 else 0) + cntL he sd kd ce sn s d (hrF he sd kd ce sn false x)
theorem cntL_le {he : Nat} {sd kd ce : Nat → Nat} {sn : Bool} {s : Nat} : ∀ {d : Nat} {x : Hs}, cntL he sd kd ce sn s d x ≤ d
  | 0, _ => Nat.le_refl _
  | d + 1, x => by
    have := cntL_le (he := he) (sd := sd) (kd := kd) (ce := ce) (sn := sn) (s := s) (d := d) (x := hrF he sd kd ce sn false x)
    unfold cntL
    split <;> omega
def lstL (he : Nat) (sd kd ce : Nat → Nat) (sn : Bool) : Nat → Hs → Int32 → Int32
  | 0, _, v => v
  | d + 1, x, _ => lstL he sd kd ce sn d (hrF he sd kd ce sn false x) (nI (srtF he kd x.2.1 sn false))
theorem hrs_ok {he : Nat} {sd kd ce : Nat → Nat} {sn : Bool} (hce : ∀ j, ce j < 10) (hsd : ∀ j, sd j < 2) : ∀ {d : Nat} {x : Hs}, SOK x → SOK (hrs he sd kd ce sn d x)
  | 0, _, h => h
  | d + 1, x, h => hrs_ok hce hsd (d := d) (hrF_ok hce hsd h)
theorem hrF_eta (he : Nat) (sd kd ce : Nat → Nat) (sn rg : Bool) (x : Hs) : hrF he sd kd ce sn rg (x.1, x.2.1, x.2.2.1, x.2.2.2.1, x.2.2.2.2) = hrF he sd kd ce sn rg x := rfl
theorem c43x {tb : dxT} {H : dxH} {a n : Nat} {sd kd ce : Nat → Nat} {he : Nat} {sn rg : Bool} {x : Hs} (hb : he < 64) (ha : 6 ≤ a) (hce : ∀ j, ce j < 10) (hkd : ∀ j, kd j < 4) (hsd : ∀ j, sd j < 2) (hM : MdS H a ce he sn x) (hH : HrdAt H n sd kd) (hx : SOK x) : Cl tb 43 [.ref a, .int (bI rg)] H (fun r H' => r = some (.int (nI (srtF he kd x.2.1 sn rg))) ∧ MdS H' a ce he sn (hrF he sd kd ce sn rg x) ∧ Off (mdC a) H H') := c43 hM hH hb ha hx.2.1 hx.1 hce hkd hsd
theorem lq44 {tb : dxT} {a n : Nat} {sd kd ce : Nat → Nat} {he : Nat} {sn : Bool} {s m : Nat} (hb : he < 64) (ha : 6 ≤ a) (hce : ∀ j, ce j < 10) (hkd : ∀ j, kd j < 4) (hsd : ∀ j, sd j < 2) (hs : s < 4) (hm : m < 1000) : ∀ (d k c : Nat) (H : dxH) (x : Hs), k + d = m → c ≤ k → MdS H a ce he sn x → HrdAt H n sd kd → SOK x → Ev tb 44 5 [some (.ref a), some (.int (nI s)), some (.int (nI m)), some (.int (nI c)), some (.int (nI k))] [] H (fun r H' => r = some (.int (nI (c + cntL he sd kd ce sn s d x))) ∧ MdS H' a ce he sn (hrs he sd kd ce sn d x) ∧ Off (mdC a) H H')
  | 0, k, c, H, x, hk, hc, hM, hH, hx => by
    obtain rfl : k = m := by omega
    refine ev_iload i44_5 rfl ?_
    refine ev_iload_n i44_7 rfl ?_
    refine evn_icmp_ge (t := 29) i44_8 (by decide) (by omega) (fun z8 => ?_) (fun z8 => by exfalso; omega)
    refine ev_iload_n i44_29 rfl ?_
    refine ev_iret i44_30 (by decide +kernel) ?_
    exact ⟨rfl, hM, Off.rf⟩
  | d + 1, k, c, H, x, hk, hc, hM, hH, hx => by
    have m0 := hM.1
    have hs4 := srtF_lt (he := he) (kd := kd) (fu := x.2.1) (sn := sn) (rg := false)
    refine ev_iload i44_5 rfl ?_
    refine ev_iload_n i44_7 rfl ?_
    refine evn_icmp_ge (t := 29) i44_8 (by decide) (by omega) (fun z8 => by exfalso; omega) (fun z8 => ?_)
    refine ev_aload_n i44_11 rfl ?_
    refine ev_iconst (v := nI 0) i44_12 (by decide) ?_
    refine ev_callV (vs := [.int (nI 0)]) (rest := []) i44_13 ci44 lk3_106 (congrArg (fun q => q + 1) np43) ci43 (by decide) (by decide +kernel) (Nat.le_of_ble_eq_true rfl) ⟨rfl, rfl, Nat.le_of_ble_eq_true rfl⟩ rfl (by assumption) (c43x (rg := false) hb ha hce hkd hsd (by assumption) (by assumption) hx) (fun r H1 hq => ?_)
    obtain ⟨rfl, hM, hO1⟩ := hq
    have hH := hH.off hO1 (fun q => by have := q.1; omega) (fun q => by have := q.1; omega) (fun q => by have := q.1; omega)
    have m0 := hM.1
    show Ev tb 44 16 [some (.ref a), some (.int (nI s)), some (.int (nI m)), some (.int (nI c)), some (.int (nI k))] [.int (nI (srtF he kd x.2.1 sn false))] H1 _
    refine ev_iload_n i44_16 rfl ?_
    refine evn_icmp_ne (t := 23) i44_17 (by decide) (by omega) (fun z17 => ?_) (fun z17 => ?_)
    · refine evn_iinc (d := 1) (L' := [some (.ref a), some (.int (nI s)), some (.int (nI m)), some (.int (nI c)), some (.int (nI (k + 1)))]) i44_23 rfl rfl (by decide) rfl ?_
      refine ev_goto (t := 5) i44_26 (by decide) ?_
      refine (lq44 hb ha hce hkd hsd hs hm d (k + 1) c H1 (hrF he sd kd ce sn false x) (by omega) (by omega) hM hH (hrF_ok hce hsd hx)).post (fun r H' hq => ?_)
      obtain ⟨rfl, h2, h3⟩ := hq
      refine ⟨?_, h2, hO1.trans h3 (fun _ h => h) (fun _ h => h)⟩
      conv => rhs; unfold cntL
      rw [if_neg z17, Nat.zero_add]
    · refine evn_iinc (d := 1) (L' := [some (.ref a), some (.int (nI s)), some (.int (nI m)), some (.int (nI (c + 1))), some (.int (nI k))]) i44_20 rfl rfl (by decide) rfl ?_
      refine evn_iinc (d := 1) (L' := [some (.ref a), some (.int (nI s)), some (.int (nI m)), some (.int (nI (c + 1))), some (.int (nI (k + 1)))]) i44_23 rfl rfl (by decide) rfl ?_
      refine ev_goto (t := 5) i44_26 (by decide) ?_
      refine (lq44 hb ha hce hkd hsd hs hm d (k + 1) (c + 1) H1 (hrF he sd kd ce sn false x) (by omega) (by omega) hM hH (hrF_ok hce hsd hx)).post (fun r H' hq => ?_)
      obtain ⟨rfl, h2, h3⟩ := hq
      refine ⟨?_, h2, hO1.trans h3 (fun _ h => h) (fun _ h => h)⟩
      conv => rhs; unfold cntL
      rw [if_pos z17, Nat.add_assoc]
theorem c44 {tb : dxT} {a n : Nat} {sd kd ce : Nat → Nat} {he : Nat} {sn : Bool} {s m : Nat} {H : dxH} {x : Hs} (hb : he < 64) (ha : 6 ≤ a) (hce : ∀ j, ce j < 10) (hkd : ∀ j, kd j < 4) (hsd : ∀ j, sd j < 2) (hs : s < 4) (hm : m < 1000) (hM : MdS H a ce he sn x) (hH : HrdAt H n sd kd) (hx : SOK x) : Cl tb 44 [.ref a, .int (nI s), .int (nI m)] H (fun r H' => r = some (.int (nI (cntL he sd kd ce sn s m x))) ∧ MdS H' a ce he sn (hrs he sd kd ce sn m x) ∧ Off (mdC a) H H') := by
  show Ev tb 44 0 [some (.ref a), some (.int (nI s)), some (.int (nI m)), none, none] [] H _
  refine ev_iconst (v := nI 0) i44_0 (by decide) ?_
  refine ev_istore_n (L' := [some (.ref a), some (.int (nI s)), some (.int (nI m)), some (.int (nI 0)), none]) i44_1 ⟨Nat.le_of_ble_eq_true rfl, rfl⟩ rfl ?_
  refine ev_iconst (v := nI 0) i44_2 (by decide) ?_
  refine ev_istore (L' := [some (.ref a), some (.int (nI s)), some (.int (nI m)), some (.int (nI 0)), some (.int (nI 0))]) i44_3 ⟨Nat.le_of_ble_eq_true rfl, rfl⟩ rfl ?_
  have k1 := lq44 hb ha hce hkd hsd hs hm m 0 0 H x (Nat.zero_add m) (Nat.le_refl 0) hM hH hx (tb := tb)
  rw [Nat.zero_add] at k1
  exact k1
theorem lq45 {tb : dxT} {a n : Nat} {sd kd ce : Nat → Nat} {he : Nat} {sn : Bool} {m : Nat} (hb : he < 64) (ha : 6 ≤ a) (hce : ∀ j, ce j < 10) (hkd : ∀ j, kd j < 4) (hsd : ∀ j, sd j < 2) (hm : m < 1000) : ∀ (d k : Nat) (v : Int32) (H : dxH) (x : Hs), k + d = m → MdS H a ce he sn x → HrdAt H n sd kd → SOK x → Ev tb 45 5 [some (.ref a), some (.int (nI m)), some (.int v), some (.int (nI k))] [] H (fun r H' => r = some (.int (lstL he sd kd ce sn d x v)) ∧ MdS H' a ce he sn (hrs he sd kd ce sn d x) ∧ Off (mdC a) H H')
  | 0, k, v, H, x, hk, hM, hH, hx => by
    obtain rfl : k = m := by omega
    refine ev_iload_n i45_5 rfl ?_
    refine ev_iload_n i45_6 rfl ?_
    refine evn_icmp_ge (t := 22) i45_7 (by decide) (by omega) (fun z7 => ?_) (fun z7 => by exfalso; omega)
    refine ev_iload_n i45_22 rfl ?_
    refine ev_iret i45_23 (by decide +kernel) ?_
    exact ⟨rfl, hM, Off.rf⟩
  | d + 1, k, v, H, x, hk, hM, hH, hx => by
    have m0 := hM.1
    refine ev_iload_n i45_5 rfl ?_
    refine ev_iload_n i45_6 rfl ?_
    refine evn_icmp_ge (t := 22) i45_7 (by decide) (by omega) (fun z7 => by exfalso; omega) (fun z7 => ?_)
    refine ev_aload_n i45_10 rfl ?_
    refine ev_iconst (v := nI 0) i45_11 (by decide) ?_
    refine ev_callV (vs := [.int (nI 0)]) (rest := []) i45_12 ci45 lk3_106 (congrArg (fun q => q + 1) np43) ci43 (by decide) (by decide +kernel) (Nat.le_of_ble_eq_true rfl) ⟨rfl, rfl, Nat.le_of_ble_eq_true rfl⟩ rfl (by assumption) (c43x (rg := false) hb ha hce hkd hsd (by assumption) (by assumption) hx) (fun r H1 hq => ?_)
    obtain ⟨rfl, hM, hO1⟩ := hq
    have hH := hH.off hO1 (fun q => by have := q.1; omega) (fun q => by have := q.1; omega) (fun q => by have := q.1; omega)
    have m0 := hM.1
    show Ev tb 45 15 [some (.ref a), some (.int (nI m)), some (.int v), some (.int (nI k))] [.int (nI (srtF he kd x.2.1 sn false))] H1 _
    refine ev_istore_n (L' := [some (.ref a), some (.int (nI m)), some (.int (nI (srtF he kd x.2.1 sn false))), some (.int (nI k))]) i45_15 ⟨Nat.le_of_ble_eq_true rfl, rfl⟩ rfl ?_
    refine evn_iinc (d := 1) (L' := [some (.ref a), some (.int (nI m)), some (.int (nI (srtF he kd x.2.1 sn false))), some (.int (nI (k + 1)))]) i45_16 rfl rfl (by decide) rfl ?_
    refine ev_goto (t := 5) i45_19 (by decide) ?_
    refine (lq45 hb ha hce hkd hsd hm d (k + 1) _ H1 (hrF he sd kd ce sn false x) (by omega) hM hH (hrF_ok hce hsd hx)).post (fun r H' hq => ?_)
    exact ⟨hq.1, hq.2.1, hO1.trans hq.2.2 (fun _ h => h) (fun _ h => h)⟩
theorem c45 {tb : dxT} {a n : Nat} {sd kd ce : Nat → Nat} {he : Nat} {sn : Bool} {m : Nat} {H : dxH} {x : Hs} (hb : he < 64) (ha : 6 ≤ a) (hce : ∀ j, ce j < 10) (hkd : ∀ j, kd j < 4) (hsd : ∀ j, sd j < 2) (hm : m < 1000) (hM : MdS H a ce he sn x) (hH : HrdAt H n sd kd) (hx : SOK x) : Cl tb 45 [.ref a, .int (nI m)] H (fun r H' => r = some (.int (lstL he sd kd ce sn m x (-9))) ∧ MdS H' a ce he sn (hrs he sd kd ce sn m x) ∧ Off (mdC a) H H') := by
  show Ev tb 45 0 [some (.ref a), some (.int (nI m)), none, none] [] H _
  refine ev_bipush (v := (-9)) i45_0 (by decide) ?_
  refine ev_istore_n (L' := [some (.ref a), some (.int (nI m)), some (.int (-9)), none]) i45_2 ⟨Nat.le_of_ble_eq_true rfl, rfl⟩ rfl ?_
  refine ev_iconst (v := nI 0) i45_3 (by decide) ?_
  refine ev_istore_n (L' := [some (.ref a), some (.int (nI m)), some (.int (-9)), some (.int (nI 0))]) i45_4 ⟨Nat.le_of_ble_eq_true rfl, rfl⟩ rfl ?_
  exact lq45 hb ha hce hkd hsd hm m 0 _ H x (Nat.zero_add m) hM hH hx
theorem and6 : ∀ a, a < 64 → ∀ b, b < 64 → (nI a &&& nI b) = nI (a &&& b) := by decide +kernel
theorem c22 {tb : dxT} {H : dxH} {a x : Nat} {cl ce fu : Nat → Nat} {pa : Nat → Int32} {he : Nat} {sn : Bool} {ho wa : Int32} (hM : MdwAt H a cl ce fu pa he sn ho wa) (ha : 6 ≤ a) (hb : he < 64) (hx : x < 64) : Cl tb 22 [.ref a, .int (nI x)] H (fun r H' => r = none ∧ MdwAt H' a cl ce fu pa (he &&& x) sn ho wa ∧ Off (mdC a) H H') := by
  obtain ⟨m0, m1, m2, m3, m4⟩ := id hM
  have hO : Off (mdC a) H H := Off.rf
  show Ev tb 22 0 [some (.ref a), some (.int (nI x))] [] H _
  refine ev_aload_n i22_0 rfl ?_
  refine ev_dup i22_1 rfl ?_
  refine ev_get i22_2 ci22 fl3_28 (by assumption) rfl ?_
  refine ev_iload_n i22_5 rfl ?_
  refine ev_iand i22_6 ?_
  refine evs_put (fs' := [.ref 3, .ref (a + 1), .ref (a + 2), .ref (a + 3), .ref (a + 4), .int ((nI he) &&& (nI x)), .int (bI sn), .int ho, .int wa]) i22_7 ci22 fl3_28 (by assumption) ⟨Nat.le_of_ble_eq_true rfl, rfl, Or.inl rfl⟩ rfl (fun H1 hH1 => ?_)
  have m0 : H1[a]? = some (.inr (3, [.ref 3, .ref (a + 1), .ref (a + 2), .ref (a + 3), .ref (a + 4), .int ((nI he) &&& (nI x)), .int (bI sn), .int ho, .int wa])) := by rw [hH1]; exact set_self m0
  have m1 : H1[a + 1]? = some (IA 10 cl) := by rw [hH1]; exact set_ne m1 (by omega)
  have m2 : H1[a + 2]? = some (IA 6 ce) := by rw [hH1]; exact set_ne m2 (by omega)
  have m3 : H1[a + 3]? = some (IA 6 fu) := by rw [hH1]; exact set_ne m3 (by omega)
  have m4 : H1[a + 4]? = some (.inl (0, 2, .inl pa)) := by rw [hH1]; exact set_ne m4 (by omega)
  have hO : Off (mdC a) H H1 := by rw [hH1]; exact hO.set (by exact ⟨by omega, by omega⟩)
  refine ev_vret i22_10 (by decide +kernel) ?_
  rw [and6 he hb x hx] at m0
  exact ⟨rfl, ⟨m0, m1, m2, m3, m4⟩, hO⟩
end
section
/-! meadows copied, shelves, the row of acts -/
theorem cpyN_eq {m : Nat} {f g : Nat → Nat} (hf : Vn m f) (hg : Vn m g) : va_cpy (fun q => nI (f q)) (fun q => nI (g q)) 0 0 m = fun q => nI (f q) := by
  funext q
  unfold va_cpy
  by_cases h : q < m
  · rw [if_pos ⟨Nat.zero_le _, by omega⟩]
    simp
  · rw [if_neg (by omega)]
    show nI (g q) = nI (f q)
    rw [hf q (by omega), hg q (by omega)]
theorem cpyI_eq {m : Nat} {f g : Nat → Int32} (hf : Vi m f) (hg : Vi m g) : va_cpy f g 0 0 m = f := by
  funext q
  unfold va_cpy
  by_cases h : q < m
  · rw [if_pos ⟨Nat.zero_le _, by omega⟩]
    simp
  · rw [if_neg (by omega), hf q (by omega), hg q (by omega)]
section EV13
variable {tb : dxT} {k pc : Nat} {L L' : dxL} {S S' : List Value} {H H' : dxH} {Q : Option Value → dxH → Prop}
theorem evs_copyI {ci idx m : Nat} {w : Nat × Nat × Nat × Nat × Nat} {a b : Nat} {f g : Nat → Int32} (hI : dxI k pc = some (.invokestatic idx, 3)) (hc : dxCi k = ci) (hl : dxLk ci idx = some (9, w)) (hr : (1 ≤ dxFr k ∧ 21 ≤ dxLo k) ∧ 26 ≤ dxLo k) (h0 : H[b]? = some (.inl (0, m, .inl f))) (h1 : H[a]? = some (.inl (0, m, .inl g))) (hw : dxW8 S = true) (hf : Vi m f) (hg : Vi m g) (hm : m < 2147483648) (kk : ∀ H1, H1 = H.set a (.inl (0, m, .inl f)) → Ev tb k (pc + 3) L S H1 Q) : Ev tb k pc L (.int (nI m) :: .int (nI 0) :: .ref a :: .int (nI 0) :: .ref b :: S) H Q := by
  have e0 : (nI 0).toNatClampNeg = 0 := nI_clamp (by decide)
  refine ev_copy hI hc hl hr h0 h1 ⟨hw, nI_pos (by decide), nI_pos (by decide), nI_pos hm, by rw [e0, nI_clamp hm]; omega, by rw [e0, nI_clamp hm]; omega⟩ ?_
  rw [e0, nI_clamp hm, cpyI_eq hf hg]
  exact kk _ rfl
theorem evs_copyN {ci idx m : Nat} {w : Nat × Nat × Nat × Nat × Nat} {a b : Nat} {f g : Nat → Nat} (hI : dxI k pc = some (.invokestatic idx, 3)) (hc : dxCi k = ci) (hl : dxLk ci idx = some (9, w)) (hr : (1 ≤ dxFr k ∧ 21 ≤ dxLo k) ∧ 26 ≤ dxLo k) (h0 : H[b]? = some (IA m f)) (h1 : H[a]? = some (IA m g)) (hw : dxW8 S = true) (hf : Vn m f) (hg : Vn m g) (hm : m < 2147483648) (kk : ∀ H1, H1 = H.set a (IA m f) → Ev tb k (pc + 3) L S H1 Q) : Ev tb k pc L (.int (nI m) :: .int (nI 0) :: .ref a :: .int (nI 0) :: .ref b :: S) H Q := by
  have e0 : (nI 0).toNatClampNeg = 0 := nI_clamp (by decide)
  refine ev_copy hI hc hl hr h0 h1 ⟨hw, nI_pos (by decide), nI_pos (by decide), nI_pos hm, by rw [e0, nI_clamp hm]; omega, by rw [e0, nI_clamp hm]; omega⟩ ?_
  rw [e0, nI_clamp hm, cpyN_eq hf hg]
  exact kk _ rfl
theorem evn_aald {a m v j : Nat} {f : Nat → Option Nat} (hI : dxI k pc = some (.aaload, 1)) (ho : H[a]? = some (.inl (2, m, .inr (.inr (.inr (.inr f)))))) (hj : j < m ∧ m < 2147483648) (hv : f j = some v) (kk : Ev tb k (pc + 1) L (.ref v :: S) H Q) : Ev tb k pc L (.int (nI j) :: .ref a :: S) H Q := ev_aald hI ho (dxIn_n hj) (by rw [nI_clamp (Nat.lt_trans hj.1 hj.2)]; exact hv) kk
end EV13
def ShpM (H : dxH) (a : Nat) : Prop := ∃ (cl ce fu : Nat → Nat) (pa : Nat → Int32) (he : Nat) (sn : Bool) (ho wa : Int32), MdwAt H a cl ce fu pa he sn ho wa ∧ Vn 10 cl ∧ Vn 6 ce ∧ Vn 6 fu ∧ Vi 2 pa
theorem ShpM.off {H H' : dxH} {a : Nat} {A : Nat → Prop} (h : ShpM H a) (hO : Off A H H') (hA : ∀ j, a ≤ j → j ≤ a + 4 → ¬ A j) : ShpM H' a := by
  obtain ⟨cl, ce, fu, pa, he, sn, ho, wa, h1, h2⟩ := h
  exact ⟨cl, ce, fu, pa, he, sn, ho, wa, h1.off hO hA, h2⟩
theorem c20 {tb : dxT} {H : dxH} {a b : Nat} {cl ce fu : Nat → Nat} {pa : Nat → Int32} {he : Nat} {sn : Bool} {ho wa : Int32} (hT : ShpM H a) (hM : MdwAt H b cl ce fu pa he sn ho wa) (h1 : Vn 10 cl) (h2 : Vn 6 ce) (h3 : Vn 6 fu) (h4 : Vi 2 pa) (hab : a + 4 < b ∨ b + 4 < a) : Cl tb 20 [.ref a, .ref b] H (fun r H' => r = none ∧ MdwAt H' a cl ce fu pa he sn ho wa ∧ Off (mdC a) H H') := by
  obtain ⟨cl0, ce0, fu0, pa0, he0, sn0, ho0, wa0, ⟨m0, m1, m2, m3, m4⟩, v1, v2, v3, v4⟩ := hT
  obtain ⟨s0, s1, s2, s3, s4⟩ := hM
  have hO : Off (mdC a) H H := Off.rf
  show Ev tb 20 0 [some (.ref a), some (.ref b)] [] H _
  refine ev_aload_n i20_0 rfl ?_
  refine ev_get i20_1 ci20 fl3_9 (by assumption) rfl ?_
  refine ev_iconst (v := nI 0) i20_4 (by decide) ?_
  refine ev_aload_n i20_5 rfl ?_
  refine ev_get i20_6 ci20 fl3_9 (by assumption) rfl ?_
  refine ev_iconst (v := nI 0) i20_9 (by decide) ?_
  refine ev_bipush (v := nI 10) i20_10 (by decide) ?_
  refine evs_copyN i20_12 ci20 lk3_42 (by decide +kernel) (by assumption) (by assumption) rfl (by assumption) (by assumption) (by decide) (fun H1 hH1 => ?_)
  have m0 : H1[a]? = some (.inr (3, [.ref 3, .ref (a + 1), .ref (a + 2), .ref (a + 3), .ref (a + 4), .int (nI he0), .int (bI sn0), .int ho0, .int wa0])) := by rw [hH1]; exact set_ne m0 (by omega)
  have m1 : H1[a + 1]? = some (IA 10 cl) := by rw [hH1]; exact set_self m1
  have m2 : H1[a + 2]? = some (IA 6 ce0) := by rw [hH1]; exact set_ne m2 (by omega)
  have m3 : H1[a + 3]? = some (IA 6 fu0) := by rw [hH1]; exact set_ne m3 (by omega)
  have m4 : H1[a + 4]? = some (.inl (0, 2, .inl pa0)) := by rw [hH1]; exact set_ne m4 (by omega)
  have s0 : H1[b]? = some (.inr (3, [.ref 3, .ref (b + 1), .ref (b + 2), .ref (b + 3), .ref (b + 4), .int (nI he), .int (bI sn), .int ho, .int wa])) := by rw [hH1]; exact set_ne s0 (by omega)
  have s1 : H1[b + 1]? = some (IA 10 cl) := by rw [hH1]; exact set_ne s1 (by omega)
  have s2 : H1[b + 2]? = some (IA 6 ce) := by rw [hH1]; exact set_ne s2 (by omega)
  have s3 : H1[b + 3]? = some (IA 6 fu) := by rw [hH1]; exact set_ne s3 (by omega)
  have s4 : H1[b + 4]? = some (.inl (0, 2, .inl pa)) := by rw [hH1]; exact set_ne s4 (by omega)
  have hO : Off (mdC a) H H1 := by rw [hH1]; exact hO.set (by exact ⟨by omega, by omega⟩)
  refine ev_aload_n i20_15 rfl ?_
  refine ev_get i20_16 ci20 fl3_15 (by assumption) rfl ?_
  refine ev_iconst (v := nI 0) i20_19 (by decide) ?_
  refine ev_aload_n i20_20 rfl ?_
  refine ev_get i20_21 ci20 fl3_15 (by assumption) rfl ?_
  refine ev_iconst (v := nI 0) i20_24 (by decide) ?_
  refine ev_bipush (v := nI 6) i20_25 (by decide) ?_
  refine evs_copyN i20_27 ci20 lk3_42 (by decide +kernel) (by assumption) (by assumption) rfl (by assumption) (by assumption) (by decide) (fun H2 hH2 => ?_)
  have m0 : H2[a]? = some (.inr (3, [.ref 3, .ref (a + 1), .ref (a + 2), .ref (a + 3), .ref (a + 4), .int (nI he0), .int (bI sn0), .int ho0, .int wa0])) := by rw [hH2]; exact set_ne m0 (by omega)
  have m1 : H2[a + 1]? = some (IA 10 cl) := by rw [hH2]; exact set_ne m1 (by omega)
  have m2 : H2[a + 2]? = some (IA 6 ce) := by rw [hH2]; exact set_self m2
  have m3 : H2[a + 3]? = some (IA 6 fu0) := by rw [hH2]; exact set_ne m3 (by omega)
  have m4 : H2[a + 4]? = some (.inl (0, 2, .inl pa0)) := by rw [hH2]; exact set_ne m4 (by omega)
  have s0 : H2[b]? = some (.inr (3, [.ref 3, .ref (b + 1), .ref (b + 2), .ref (b + 3), .ref (b + 4), .int (nI he), .int (bI sn), .int ho, .int wa])) := by rw [hH2]; exact set_ne s0 (by omega)
  have s1 : H2[b + 1]? = some (IA 10 cl) := by rw [hH2]; exact set_ne s1 (by omega)
  have s2 : H2[b + 2]? = some (IA 6 ce) := by rw [hH2]; exact set_ne s2 (by omega)
  have s3 : H2[b + 3]? = some (IA 6 fu) := by rw [hH2]; exact set_ne s3 (by omega)
  have s4 : H2[b + 4]? = some (.inl (0, 2, .inl pa)) := by rw [hH2]; exact set_ne s4 (by omega)
  have hO : Off (mdC a) H H2 := by rw [hH2]; exact hO.set (by exact ⟨by omega, by omega⟩)
  refine ev_aload_n i20_30 rfl ?_
  refine ev_get i20_31 ci20 fl3_18 (by assumption) rfl ?_
  refine ev_iconst (v := nI 0) i20_34 (by decide) ?_
  refine ev_aload_n i20_35 rfl ?_
  refine ev_get i20_36 ci20 fl3_18 (by assumption) rfl ?_
  refine ev_iconst (v := nI 0) i20_39 (by decide) ?_
  refine ev_bipush (v := nI 6) i20_40 (by decide) ?_
  refine evs_copyN i20_42 ci20 lk3_42 (by decide +kernel) (by assumption) (by assumption) rfl (by assumption) (by assumption) (by decide) (fun H3 hH3 => ?_)
  have m0 : H3[a]? = some (.inr (3, [.ref 3, .ref (a + 1), .ref (a + 2), .ref (a + 3), .ref (a + 4), .int (nI he0), .int (bI sn0), .int ho0, .int wa0])) := by rw [hH3]; exact set_ne m0 (by omega)
  have m1 : H3[a + 1]? = some (IA 10 cl) := by rw [hH3]; exact set_ne m1 (by omega)
  have m2 : H3[a + 2]? = some (IA 6 ce) := by rw [hH3]; exact set_ne m2 (by omega)
  have m3 : H3[a + 3]? = some (IA 6 fu) := by rw [hH3]; exact set_self m3
  have m4 : H3[a + 4]? = some (.inl (0, 2, .inl pa0)) := by rw [hH3]; exact set_ne m4 (by omega)
  have s0 : H3[b]? = some (.inr (3, [.ref 3, .ref (b + 1), .ref (b + 2), .ref (b + 3), .ref (b + 4), .int (nI he), .int (bI sn), .int ho, .int wa])) := by rw [hH3]; exact set_ne s0 (by omega)
  have s1 : H3[b + 1]? = some (IA 10 cl) := by rw [hH3]; exact set_ne s1 (by omega)
  have s2 : H3[b + 2]? = some (IA 6 ce) := by rw [hH3]; exact set_ne s2 (by omega)
  have s3 : H3[b + 3]? = some (IA 6 fu) := by rw [hH3]; exact set_ne s3 (by omega)
  have s4 : H3[b + 4]? = some (.inl (0, 2, .inl pa)) := by rw [hH3]; exact set_ne s4 (by omega)
  have hO : Off (mdC a) H H3 := by rw [hH3]; exact hO.set (by exact ⟨by omega, by omega⟩)
  refine ev_aload_n i20_45 rfl ?_
  refine ev_get i20_46 ci20 fl3_21 (by assumption) rfl ?_
  refine ev_iconst (v := nI 0) i20_49 (by decide) ?_
  refine ev_aload_n i20_50 rfl ?_
  refine ev_get i20_51 ci20 fl3_21 (by assumption) rfl ?_
  refine ev_iconst (v := nI 0) i20_54 (by decide) ?_
  refine ev_iconst (v := nI 2) i20_55 (by decide) ?_
  refine evs_copyI i20_56 ci20 lk3_42 (by decide +kernel) (by assumption) (by assumption) rfl (by assumption) (by assumption) (by decide) (fun H4 hH4 => ?_)
  have m0 : H4[a]? = some (.inr (3, [.ref 3, .ref (a + 1), .ref (a + 2), .ref (a + 3), .ref (a + 4), .int (nI he0), .int (bI sn0), .int ho0, .int wa0])) := by rw [hH4]; exact set_ne m0 (by omega)
  have m1 : H4[a + 1]? = some (IA 10 cl) := by rw [hH4]; exact set_ne m1 (by omega)
  have m2 : H4[a + 2]? = some (IA 6 ce) := by rw [hH4]; exact set_ne m2 (by omega)
  have m3 : H4[a + 3]? = some (IA 6 fu) := by rw [hH4]; exact set_ne m3 (by omega)
  have m4 : H4[a + 4]? = some (.inl (0, 2, .inl pa)) := by rw [hH4]; exact set_self m4
  have s0 : H4[b]? = some (.inr (3, [.ref 3, .ref (b + 1), .ref (b + 2), .ref (b + 3), .ref (b + 4), .int (nI he), .int (bI sn), .int ho, .int wa])) := by rw [hH4]; exact set_ne s0 (by omega)
  have s1 : H4[b + 1]? = some (IA 10 cl) := by rw [hH4]; exact set_ne s1 (by omega)
  have s2 : H4[b + 2]? = some (IA 6 ce) := by rw [hH4]; exact set_ne s2 (by omega)
  have s3 : H4[b + 3]? = some (IA 6 fu) := by rw [hH4]; exact set_ne s3 (by omega)
  have s4 : H4[b + 4]? = some (.inl (0, 2, .inl pa)) := by rw [hH4]; exact set_ne s4 (by omega)
  have hO : Off (mdC a) H H4 := by rw [hH4]; exact hO.set (by exact ⟨by omega, by omega⟩)
  refine ev_aload_n i20_59 rfl ?_
  refine ev_aload_n i20_60 rfl ?_
  refine ev_get i20_61 ci20 fl3_28 (by assumption) rfl ?_
  refine evs_put (fs' := [.ref 3, .ref (a + 1), .ref (a + 2), .ref (a + 3), .ref (a + 4), .int (nI he), .int (bI sn0), .int ho0, .int wa0]) i20_64 ci20 fl3_28 (by assumption) ⟨Nat.le_of_ble_eq_true rfl, rfl, Or.inl rfl⟩ rfl (fun H5 hH5 => ?_)
  have m0 : H5[a]? = some (.inr (3, [.ref 3, .ref (a + 1), .ref (a + 2), .ref (a + 3), .ref (a + 4), .int (nI he), .int (bI sn0), .int ho0, .int wa0])) := by rw [hH5]; exact set_self m0
  have m1 : H5[a + 1]? = some (IA 10 cl) := by rw [hH5]; exact set_ne m1 (by omega)
  have m2 : H5[a + 2]? = some (IA 6 ce) := by rw [hH5]; exact set_ne m2 (by omega)
  have m3 : H5[a + 3]? = some (IA 6 fu) := by rw [hH5]; exact set_ne m3 (by omega)
  have m4 : H5[a + 4]? = some (.inl (0, 2, .inl pa)) := by rw [hH5]; exact set_ne m4 (by omega)
  have s0 : H5[b]? = some (.inr (3, [.ref 3, .ref (b + 1), .ref (b + 2), .ref (b + 3), .ref (b + 4), .int (nI he), .int (bI sn), .int ho, .int wa])) := by rw [hH5]; exact set_ne s0 (by omega)
  have s1 : H5[b + 1]? = some (IA 10 cl) := by rw [hH5]; exact set_ne s1 (by omega)
  have s2 : H5[b + 2]? = some (IA 6 ce) := by rw [hH5]; exact set_ne s2 (by omega)
  have s3 : H5[b + 3]? = some (IA 6 fu) := by rw [hH5]; exact set_ne s3 (by omega)
  have s4 : H5[b + 4]? = some (.inl (0, 2, .inl pa)) := by rw [hH5]; exact set_ne s4 (by omega)
  have hO : Off (mdC a) H H5 := by rw [hH5]; exact hO.set (by exact ⟨by omega, by omega⟩)
  refine ev_aload_n i20_67 rfl ?_
  refine ev_aload_n i20_68 rfl ?_
  refine ev_get i20_69 ci20 fl3_32 (by assumption) rfl ?_
  refine evs_put (fs' := [.ref 3, .ref (a + 1), .ref (a + 2), .ref (a + 3), .ref (a + 4), .int (nI he), .int (bI sn), .int ho0, .int wa0]) i20_72 ci20 fl3_32 (by assumption) ⟨Nat.le_of_ble_eq_true rfl, dxFit_b _, Or.inl rfl⟩ rfl (fun H6 hH6 => ?_)
  have m0 : H6[a]? = some (.inr (3, [.ref 3, .ref (a + 1), .ref (a + 2), .ref (a + 3), .ref (a + 4), .int (nI he), .int (bI sn), .int ho0, .int wa0])) := by rw [hH6]; exact set_self m0
  have m1 : H6[a + 1]? = some (IA 10 cl) := by rw [hH6]; exact set_ne m1 (by omega)
  have m2 : H6[a + 2]? = some (IA 6 ce) := by rw [hH6]; exact set_ne m2 (by omega)
  have m3 : H6[a + 3]? = some (IA 6 fu) := by rw [hH6]; exact set_ne m3 (by omega)
  have m4 : H6[a + 4]? = some (.inl (0, 2, .inl pa)) := by rw [hH6]; exact set_ne m4 (by omega)
  have s0 : H6[b]? = some (.inr (3, [.ref 3, .ref (b + 1), .ref (b + 2), .ref (b + 3), .ref (b + 4), .int (nI he), .int (bI sn), .int ho, .int wa])) := by rw [hH6]; exact set_ne s0 (by omega)
  have s1 : H6[b + 1]? = some (IA 10 cl) := by rw [hH6]; exact set_ne s1 (by omega)
  have s2 : H6[b + 2]? = some (IA 6 ce) := by rw [hH6]; exact set_ne s2 (by omega)
  have s3 : H6[b + 3]? = some (IA 6 fu) := by rw [hH6]; exact set_ne s3 (by omega)
  have s4 : H6[b + 4]? = some (.inl (0, 2, .inl pa)) := by rw [hH6]; exact set_ne s4 (by omega)
  have hO : Off (mdC a) H H6 := by rw [hH6]; exact hO.set (by exact ⟨by omega, by omega⟩)
  refine ev_aload_n i20_75 rfl ?_
  refine ev_aload_n i20_76 rfl ?_
  refine ev_get i20_77 ci20 fl3_36 (by assumption) rfl ?_
  refine evs_put (fs' := [.ref 3, .ref (a + 1), .ref (a + 2), .ref (a + 3), .ref (a + 4), .int (nI he), .int (bI sn), .int ho, .int wa0]) i20_80 ci20 fl3_36 (by assumption) ⟨Nat.le_of_ble_eq_true rfl, rfl, Or.inl rfl⟩ rfl (fun H7 hH7 => ?_)
  have m0 : H7[a]? = some (.inr (3, [.ref 3, .ref (a + 1), .ref (a + 2), .ref (a + 3), .ref (a + 4), .int (nI he), .int (bI sn), .int ho, .int wa0])) := by rw [hH7]; exact set_self m0
  have m1 : H7[a + 1]? = some (IA 10 cl) := by rw [hH7]; exact set_ne m1 (by omega)
  have m2 : H7[a + 2]? = some (IA 6 ce) := by rw [hH7]; exact set_ne m2 (by omega)
  have m3 : H7[a + 3]? = some (IA 6 fu) := by rw [hH7]; exact set_ne m3 (by omega)
  have m4 : H7[a + 4]? = some (.inl (0, 2, .inl pa)) := by rw [hH7]; exact set_ne m4 (by omega)
  have s0 : H7[b]? = some (.inr (3, [.ref 3, .ref (b + 1), .ref (b + 2), .ref (b + 3), .ref (b + 4), .int (nI he), .int (bI sn), .int ho, .int wa])) := by rw [hH7]; exact set_ne s0 (by omega)
  have s1 : H7[b + 1]? = some (IA 10 cl) := by rw [hH7]; exact set_ne s1 (by omega)
  have s2 : H7[b + 2]? = some (IA 6 ce) := by rw [hH7]; exact set_ne s2 (by omega)
  have s3 : H7[b + 3]? = some (IA 6 fu) := by rw [hH7]; exact set_ne s3 (by omega)
  have s4 : H7[b + 4]? = some (.inl (0, 2, .inl pa)) := by rw [hH7]; exact set_ne s4 (by omega)
  have hO : Off (mdC a) H H7 := by rw [hH7]; exact hO.set (by exact ⟨by omega, by omega⟩)
  refine ev_aload_n i20_83 rfl ?_
  refine ev_aload_n i20_84 rfl ?_
  refine ev_get i20_85 ci20 fl3_39 (by assumption) rfl ?_
  refine evs_put (fs' := [.ref 3, .ref (a + 1), .ref (a + 2), .ref (a + 3), .ref (a + 4), .int (nI he), .int (bI sn), .int ho, .int wa]) i20_88 ci20 fl3_39 (by assumption) ⟨Nat.le_of_ble_eq_true rfl, rfl, Or.inl rfl⟩ rfl (fun H8 hH8 => ?_)
  have m0 : H8[a]? = some (.inr (3, [.ref 3, .ref (a + 1), .ref (a + 2), .ref (a + 3), .ref (a + 4), .int (nI he), .int (bI sn), .int ho, .int wa])) := by rw [hH8]; exact set_self m0
  have m1 : H8[a + 1]? = some (IA 10 cl) := by rw [hH8]; exact set_ne m1 (by omega)
  have m2 : H8[a + 2]? = some (IA 6 ce) := by rw [hH8]; exact set_ne m2 (by omega)
  have m3 : H8[a + 3]? = some (IA 6 fu) := by rw [hH8]; exact set_ne m3 (by omega)
  have m4 : H8[a + 4]? = some (.inl (0, 2, .inl pa)) := by rw [hH8]; exact set_ne m4 (by omega)
  have s0 : H8[b]? = some (.inr (3, [.ref 3, .ref (b + 1), .ref (b + 2), .ref (b + 3), .ref (b + 4), .int (nI he), .int (bI sn), .int ho, .int wa])) := by rw [hH8]; exact set_ne s0 (by omega)
  have s1 : H8[b + 1]? = some (IA 10 cl) := by rw [hH8]; exact set_ne s1 (by omega)
  have s2 : H8[b + 2]? = some (IA 6 ce) := by rw [hH8]; exact set_ne s2 (by omega)
  have s3 : H8[b + 3]? = some (IA 6 fu) := by rw [hH8]; exact set_ne s3 (by omega)
  have s4 : H8[b + 4]? = some (.inl (0, 2, .inl pa)) := by rw [hH8]; exact set_ne s4 (by omega)
  have hO : Off (mdC a) H H8 := by rw [hH8]; exact hO.set (by exact ⟨by omega, by omega⟩)
  refine ev_vret i20_91 (by decide +kernel) ?_
  exact ⟨rfl, ⟨m0, m1, m2, m3, m4⟩, hO⟩
def ShfAt (H : dxH) (p m base : Nat) : Prop := H[p]? = some (.inr (5, [.ref (p + 1)])) ∧ ∃ f : Nat → Option Nat, H[p + 1]? = some (.inl (2, m, .inr (.inr (.inr (.inr f))))) ∧ ∀ i, i < m → f i = some (base + 5 * i)
theorem ShfAt.off {H H' : dxH} {p m base : Nat} {A : Nat → Prop} (h : ShfAt H p m base) (hO : Off A H H') (h1 : ¬ A p) (h2 : ¬ A (p + 1)) : ShfAt H' p m base := by
  obtain ⟨a1, f, a2, a3⟩ := h
  exact ⟨hO.at a1 h1, f, hO.at a2 h2, a3⟩
theorem c58 {tb : dxT} {H : dxH} {p m base i : Nat} (hm : m < 100) (hP : ShfAt H p m base) (hi : i < m) : Cl tb 58 [.ref p, .int (nI i)] H (Rt (.ref (base + 5 * i)) H) := by
  obtain ⟨q1, f, q2, q3⟩ := id hP
  show Ev tb 58 0 [some (.ref p), some (.int (nI i))] [] H _
  refine ev_iload_n i58_0 rfl ?_
  refine evn_if_lt (t := 22) i58_1 (by decide) (by omega) ?_
  refine ev_iload_n i58_4 rfl ?_
  refine ev_aload_n i58_5 rfl ?_
  refine ev_get i58_6 ci58 fl5_15 (by assumption) rfl ?_
  refine ev_alen i58_9 (by assumption) (by decide) ?_
  refine evn_icmp_ge (t := 22) i58_10 (by decide) (by omega) (fun z10 => by exfalso; omega) (fun z10 => ?_)
  refine ev_aload_n i58_13 rfl ?_
  refine ev_get i58_14 ci58 fl5_15 (by assumption) rfl ?_
  refine ev_iload_n i58_17 rfl ?_
  refine evn_aald (v := base + 5 * i) i58_18 (by assumption) (by omega) (q3 i (by omega)) ?_
  refine ev_goto (t := 23) i58_19 (by decide) ?_
  refine ev_aret (n := "MilkTruce$Meadow") i58_23 (by decide +kernel) ?_
  exact ⟨rfl, rfl⟩
theorem c59 {tb : dxT} {H : dxH} {p m base i b : Nat} {cl ce fu : Nat → Nat} {pa : Nat → Int32} {he : Nat} {sn : Bool} {ho wa : Int32} (hm : m < 100) (hP : ShfAt H p m base) (hi : i < m) (hT : ShpM H (base + 5 * i)) (hM : MdwAt H b cl ce fu pa he sn ho wa) (h1 : Vn 10 cl) (h2 : Vn 6 ce) (h3 : Vn 6 fu) (h4 : Vi 2 pa) (hab : base + 5 * i + 4 < b ∨ b + 4 < base + 5 * i) : Cl tb 59 [.ref p, .int (nI i), .ref b] H (fun r H' => r = none ∧ MdwAt H' (base + 5 * i) cl ce fu pa he sn ho wa ∧ Off (mdC (base + 5 * i)) H H') := by
  obtain ⟨q1, f, q2, q3⟩ := id hP
  obtain ⟨_, _, _, _, _, _, _, _, ⟨t0, _⟩, _⟩ := id hT
  show Ev tb 59 0 [some (.ref p), some (.int (nI i)), some (.ref b), none] [] H _
  refine ev_aload_n i59_0 rfl ?_
  refine ev_iload_n i59_1 rfl ?_
  refine ev_callV (vs := [.int (nI i)]) (rest := []) i59_2 ci59 lk5_24 (congrArg (fun q => q + 1) np58) ci58 (by decide) (by decide +kernel) (Nat.le_of_ble_eq_true rfl) ⟨rfl, rfl, Nat.le_of_ble_eq_true rfl⟩ rfl (by assumption) (c58 hm hP hi) (fun r HH hq => ?_)
  obtain ⟨rfl, rfl⟩ := hq
  show Ev tb 59 5 [some (.ref p), some (.int (nI i)), some (.ref b), none] [.ref (base + 5 * i)] H _
  refine ev_astore_n (L' := [some (.ref p), some (.int (nI i)), some (.ref b), some (.ref (base + 5 * i))]) i59_5 ⟨Nat.le_of_ble_eq_true rfl, rfl⟩ rfl ?_
  refine ev_aload_n i59_6 rfl ?_
  refine ev_ifnullR i59_7 (by decide) ?_
  refine ev_aload_n i59_10 rfl ?_
  refine ev_aload_n i59_11 rfl ?_
  refine ev_callV (vs := [.ref b]) (rest := []) i59_12 ci59 lk5_28 (congrArg (fun q => q + 1) np20) ci20 (by decide) (by decide +kernel) (Nat.le_of_ble_eq_true rfl) ⟨rfl, rfl, Nat.le_of_ble_eq_true rfl⟩ rfl (by assumption) (c20 hT hM h1 h2 h3 h4 hab) (fun r H1 hq => ?_)
  obtain ⟨rfl, hq2⟩ := hq
  show Ev tb 59 15 [some (.ref p), some (.int (nI i)), some (.ref b), some (.ref (base + 5 * i))] [] H1 _
  refine ev_vret i59_15 (by decide +kernel) ?_
  exact ⟨rfl, hq2⟩
theorem c60 {tb : dxT} {H : dxH} {p m base i b : Nat} {cl ce fu : Nat → Nat} {pa : Nat → Int32} {he : Nat} {sn : Bool} {ho wa : Int32} (hm : m < 100) (hP : ShfAt H p m base) (hi : i < m) (hT : ShpM H b) (hM : MdwAt H (base + 5 * i) cl ce fu pa he sn ho wa) (h1 : Vn 10 cl) (h2 : Vn 6 ce) (h3 : Vn 6 fu) (h4 : Vi 2 pa) (hab : b + 4 < base + 5 * i ∨ base + 5 * i + 4 < b) : Cl tb 60 [.ref p, .int (nI i), .ref b] H (fun r H' => r = none ∧ MdwAt H' b cl ce fu pa he sn ho wa ∧ Off (mdC b) H H') := by
  obtain ⟨q1, f, q2, q3⟩ := id hP
  obtain ⟨_, _, _, _, _, _, _, _, ⟨t0, _⟩, _⟩ := id hT
  show Ev tb 60 0 [some (.ref p), some (.int (nI i)), some (.ref b), none] [] H _
  refine ev_aload_n i60_0 rfl ?_
  refine ev_iload_n i60_1 rfl ?_
  refine ev_callV (vs := [.int (nI i)]) (rest := []) i60_2 ci60 lk5_24 (congrArg (fun q => q + 1) np58) ci58 (by decide) (by decide +kernel) (Nat.le_of_ble_eq_true rfl) ⟨rfl, rfl, Nat.le_of_ble_eq_true rfl⟩ rfl (by assumption) (c58 hm hP hi) (fun r HH hq => ?_)
  obtain ⟨rfl, rfl⟩ := hq
  show Ev tb 60 5 [some (.ref p), some (.int (nI i)), some (.ref b), none] [.ref (base + 5 * i)] H _
  refine ev_astore_n (L' := [some (.ref p), some (.int (nI i)), some (.ref b), some (.ref (base + 5 * i))]) i60_5 ⟨Nat.le_of_ble_eq_true rfl, rfl⟩ rfl ?_
  refine ev_aload_n i60_6 rfl ?_
  refine ev_ifnullR i60_7 (by decide) ?_
  refine ev_aload_n i60_10 rfl ?_
  refine ev_aload_n i60_11 rfl ?_
  refine ev_callV (vs := [.ref (base + 5 * i)]) (rest := []) i60_12 ci60 lk5_28 (congrArg (fun q => q + 1) np20) ci20 (by decide) (by decide +kernel) (Nat.le_of_ble_eq_true rfl) ⟨rfl, rfl, Nat.le_of_ble_eq_true rfl⟩ rfl (by assumption) (c20 hT hM h1 h2 h3 h4 hab) (fun r H1 hq => ?_)
  obtain ⟨rfl, hq2⟩ := hq
  show Ev tb 60 15 [some (.ref p), some (.int (nI i)), some (.ref b), some (.ref (base + 5 * i))] [] H1 _
  refine ev_vret i60_15 (by decide +kernel) ?_
  exact ⟨rfl, hq2⟩
def ActAt (H : dxH) (fi ma : Nat) : Prop := H[16]? = some (.inr (0, [.ref 17, .int (nI fi), .int (nI ma)])) ∧ ShfAt H 17 14 19
def actC : Nat → Prop := fun j => j = 16
theorem ActAt.off {H H' : dxH} {fi ma : Nat} {A : Nat → Prop} (h : ActAt H fi ma) (hO : Off A H H') (h1 : ¬ A 16) (h2 : ¬ A 17) (h3 : ¬ A 18) : ActAt H' fi ma := ⟨hO.at h.1 h1, h.2.off hO h2 h3⟩
theorem c1 {tb : dxT} {H : dxH} {fi ma : Nat} (hA : ActAt H fi ma) : Cl tb 1 [.ref 16] H (fun r H' => r = none ∧ ActAt H' fi 0 ∧ Off actC H H') := by
  obtain ⟨k0, kS⟩ := id hA
  have hO : Off actC H H := Off.rf
  show Ev tb 1 0 [some (.ref 16)] [] H _
  refine ev_aload_n i1_0 rfl ?_
  refine ev_iconst (v := nI 0) i1_1 (by decide) ?_
  refine evs_put (fs' := [.ref 17, .int (nI fi), .int (nI 0)]) i1_2 ci1 fl0_20 (by assumption) ⟨Nat.le_of_ble_eq_true rfl, rfl, Or.inl rfl⟩ rfl (fun H1 hH1 => ?_)
  have k0 : H1[16]? = some (.inr (0, [.ref 17, .int (nI fi), .int (nI 0)])) := by rw [hH1]; exact set_self k0
  have hO : Off actC H H1 := by rw [hH1]; exact hO.set (by exact rfl)
  refine ev_vret i1_5 (by decide +kernel) ?_
  exact ⟨rfl, ⟨k0, kS.off hO (by unfold actC; decide) (by unfold actC; decide)⟩, hO⟩
theorem c2 {tb : dxT} {H : dxH} {fi ma : Nat} (hA : ActAt H fi ma) : Cl tb 2 [.ref 16] H (Rt (.int (nI ma)) H) := by
  obtain ⟨k0, kS⟩ := id hA
  show Ev tb 2 0 [some (.ref 16)] [] H _
  refine ev_aload_n i2_0 rfl ?_
  refine ev_get i2_1 ci2 fl0_20 (by assumption) rfl ?_
  refine ev_iret i2_4 (by decide +kernel) ?_
  exact ⟨rfl, rfl⟩
theorem c3 {tb : dxT} {H : dxH} {fi ma b : Nat} {cl ce fu : Nat → Nat} {pa : Nat → Int32} {he : Nat} {sn : Bool} {ho wa : Int32} (hfi : fi < 14) (hma : ma ≤ 14) (hA : ActAt H fi ma) (hT : ShpM H (19 + 5 * ((fi + ma) % 14))) (hM : MdwAt H b cl ce fu pa he sn ho wa) (h1 : Vn 10 cl) (h2 : Vn 6 ce) (h3 : Vn 6 fu) (h4 : Vi 2 pa) (hab : b + 4 < 19) : Cl tb 3 [.ref 16, .ref b] H (fun r H' => r = none ∧ ActAt H' (if ma < 14 then fi else (fi + 1) % 14) (if ma < 14 then ma + 1 else 14) ∧ MdwAt H' (19 + 5 * ((fi + ma) % 14)) cl ce fu pa he sn ho wa ∧ Off (fun j => j = 16 ∨ mdC (19 + 5 * ((fi + ma) % 14)) j) H H') := by
  obtain ⟨k0, kS⟩ := id hA
  obtain ⟨sh0, _⟩ := id kS
  have hi : (fi + ma) % 14 < 14 := Nat.mod_lt _ (by decide)
  have hO : Off (fun j => j = 16 ∨ mdC (19 + 5 * ((fi + ma) % 14)) j) H H := Off.rf
  show Ev tb 3 0 [some (.ref 16), some (.ref b)] [] H _
  refine ev_aload_n i3_0 rfl ?_
  refine ev_get i3_1 ci3 fl0_14 (by assumption) rfl ?_
  refine ev_aload_n i3_4 rfl ?_
  refine ev_get i3_5 ci3 fl0_24 (by assumption) rfl ?_
  refine ev_aload_n i3_8 rfl ?_
  refine ev_get i3_9 ci3 fl0_20 (by assumption) rfl ?_
  refine evn_iadd i3_12 ?_
  refine ev_bipush (v := nI 14) i3_13 (by decide) ?_
  refine evn_irem i3_15 (by omega) ?_
  refine ev_aload_n i3_16 rfl ?_
  refine ev_callV (vs := [.int (nI ((fi + ma) % 14)), .ref b]) (rest := []) i3_17 ci3 lk0_27 (congrArg (fun q => q + 1) np59) ci59 (by decide) (by decide +kernel) (Nat.le_of_ble_eq_true rfl) ⟨rfl, rfl, Nat.le_of_ble_eq_true rfl⟩ rfl (by assumption) (c59 (by decide) kS hi hT hM h1 h2 h3 h4 (by omega)) (fun r H1 hq => ?_)
  obtain ⟨rfl, hN, hO1⟩ := hq
  have k0 := hO1.at k0 (fun q => by have u1 := q.1; have u2 := q.2; omega)
  have kS := kS.off hO1 (fun q => by have u1 := q.1; have u2 := q.2; omega) (fun q => by have u1 := q.1; have u2 := q.2; omega)
  have hO : Off (fun j => j = 16 ∨ mdC (19 + 5 * ((fi + ma) % 14)) j) H H1 := hO.trans hO1 (fun _ h => h) (fun _ h => Or.inr h)
  show Ev tb 3 20 [some (.ref 16), some (.ref b)] [] H1 _
  refine ev_aload_n i3_20 rfl ?_
  refine ev_get i3_21 ci3 fl0_20 (by assumption) rfl ?_
  refine ev_bipush (v := nI 14) i3_24 (by decide) ?_
  refine evn_icmp_ge (t := 42) i3_26 (by decide) (by omega) (fun z26 => ?_) (fun z26 => ?_)
  · refine ev_aload_n i3_42 rfl ?_
    refine ev_aload_n i3_43 rfl ?_
    refine ev_get i3_44 ci3 fl0_24 (by assumption) rfl ?_
    refine ev_iconst (v := nI 1) i3_47 (by decide) ?_
    refine evn_iadd i3_48 ?_
    refine ev_bipush (v := nI 14) i3_49 (by decide) ?_
    refine evn_irem i3_51 (by omega) ?_
    refine evs_put (fs' := [.ref 17, .int (nI ((fi + 1) % 14)), .int (nI ma)]) i3_52 ci3 fl0_24 (by assumption) ⟨Nat.le_of_ble_eq_true rfl, rfl, Or.inl rfl⟩ rfl (fun H2 hH2 => ?_)
    have k0 : H2[16]? = some (.inr (0, [.ref 17, .int (nI ((fi + 1) % 14)), .int (nI ma)])) := by rw [hH2]; exact set_self k0
    have hO : Off (fun j => j = 16 ∨ mdC (19 + 5 * ((fi + ma) % 14)) j) H H2 := by rw [hH2]; exact hO.set (by exact Or.inl rfl)
    refine ev_vret i3_55 (by decide +kernel) ?_
    first
      | (rw [if_neg (by omega), if_neg (by omega)]
         obtain rfl : ma = 14 := by omega
         exact ⟨rfl, ⟨k0, kS.off (A := fun j => j = 16) (by rw [hH2]; exact Off.rf.set rfl) (by decide) (by decide)⟩, hN.off (A := fun j => j = 16) (by rw [hH2]; exact Off.rf.set rfl) (by omega), hO⟩)
      | (rw [if_pos (by omega), if_pos (by omega)]
         exact ⟨rfl, ⟨k0, kS.off (A := fun j => j = 16) (by rw [hH2]; exact Off.rf.set rfl) (by decide) (by decide)⟩, hN.off (A := fun j => j = 16) (by rw [hH2]; exact Off.rf.set rfl) (by omega), hO⟩)
  · refine ev_aload_n i3_29 rfl ?_
    refine ev_dup i3_30 rfl ?_
    refine ev_get i3_31 ci3 fl0_20 (by assumption) rfl ?_
    refine ev_iconst (v := nI 1) i3_34 (by decide) ?_
    refine evn_iadd i3_35 ?_
    refine evs_put (fs' := [.ref 17, .int (nI fi), .int (nI (ma + 1))]) i3_36 ci3 fl0_20 (by assumption) ⟨Nat.le_of_ble_eq_true rfl, rfl, Or.inl rfl⟩ rfl (fun H2 hH2 => ?_)
    have k0 : H2[16]? = some (.inr (0, [.ref 17, .int (nI fi), .int (nI (ma + 1))])) := by rw [hH2]; exact set_self k0
    have hO : Off (fun j => j = 16 ∨ mdC (19 + 5 * ((fi + ma) % 14)) j) H H2 := by rw [hH2]; exact hO.set (by exact Or.inl rfl)
    refine ev_goto (t := 55) i3_39 (by decide) ?_
    refine ev_vret i3_55 (by decide +kernel) ?_
    first
      | (rw [if_neg (by omega), if_neg (by omega)]
         obtain rfl : ma = 14 := by omega
         exact ⟨rfl, ⟨k0, kS.off (A := fun j => j = 16) (by rw [hH2]; exact Off.rf.set rfl) (by decide) (by decide)⟩, hN.off (A := fun j => j = 16) (by rw [hH2]; exact Off.rf.set rfl) (by omega), hO⟩)
      | (rw [if_pos (by omega), if_pos (by omega)]
         exact ⟨rfl, ⟨k0, kS.off (A := fun j => j = 16) (by rw [hH2]; exact Off.rf.set rfl) (by decide) (by decide)⟩, hN.off (A := fun j => j = 16) (by rw [hH2]; exact Off.rf.set rfl) (by omega), hO⟩)
theorem c4 {tb : dxT} {H : dxH} {fi ma b : Nat} {cl ce fu : Nat → Nat} {pa : Nat → Int32} {he : Nat} {sn : Bool} {ho wa : Int32} (hfi : fi < 14) (hma : ma ≤ 14) (hma0 : 0 < ma) (hA : ActAt H fi ma) (hT : ShpM H b) (hM : MdwAt H (19 + 5 * ((fi + (ma - 1)) % 14)) cl ce fu pa he sn ho wa) (h1 : Vn 10 cl) (h2 : Vn 6 ce) (h3 : Vn 6 fu) (h4 : Vi 2 pa) (hab : b + 4 < 16) : Cl tb 4 [.ref 16, .ref b] H (fun r H' => r = none ∧ ActAt H' fi (ma - 1) ∧ MdwAt H' b cl ce fu pa he sn ho wa ∧ Off (fun j => j = 16 ∨ mdC b j) H H') := by
  obtain ⟨k0, kS⟩ := id hA
  have hi : (fi + (ma - 1)) % 14 < 14 := Nat.mod_lt _ (by decide)
  have hO : Off (fun j => j = 16 ∨ mdC b j) H H := Off.rf
  show Ev tb 4 0 [some (.ref 16), some (.ref b)] [] H _
  refine ev_aload_n i4_0 rfl ?_
  refine ev_get i4_1 ci4 fl0_20 (by assumption) rfl ?_
  refine evn_if_le (t := 37) i4_4 (by decide) (by omega) (fun z4 => by exfalso; omega) (fun z4 => ?_)
  refine ev_aload_n i4_7 rfl ?_
  refine ev_dup i4_8 rfl ?_
  refine ev_get i4_9 ci4 fl0_20 (by assumption) rfl ?_
  refine ev_iconst (v := nI 1) i4_12 (by decide) ?_
  refine evn_isub i4_13 (by omega) ?_
  refine evs_put (fs' := [.ref 17, .int (nI fi), .int (nI (ma - 1))]) i4_14 ci4 fl0_20 (by assumption) ⟨Nat.le_of_ble_eq_true rfl, rfl, Or.inl rfl⟩ rfl (fun H1 hH1 => ?_)
  have k0 : H1[16]? = some (.inr (0, [.ref 17, .int (nI fi), .int (nI (ma - 1))])) := by rw [hH1]; exact set_self k0
  have hO : Off (fun j => j = 16 ∨ mdC b j) H H1 := by rw [hH1]; exact hO.set (by exact Or.inl rfl)
  have hO9 : Off (fun j => j = 16) H H1 := by rw [hH1]; exact Off.rf.set rfl
  have kS := kS.off hO9 (by decide) (by decide)
  have hT := hT.off hO9 (by omega)
  have hM := hM.off hO9 (by omega)
  obtain ⟨sh0, _⟩ := id kS
  refine ev_aload_n i4_17 rfl ?_
  refine ev_get i4_18 ci4 fl0_14 (by assumption) rfl ?_
  refine ev_aload_n i4_21 rfl ?_
  refine ev_get i4_22 ci4 fl0_24 (by assumption) rfl ?_
  refine ev_aload_n i4_25 rfl ?_
  refine ev_get i4_26 ci4 fl0_20 (by assumption) rfl ?_
  refine evn_iadd i4_29 ?_
  refine ev_bipush (v := nI 14) i4_30 (by decide) ?_
  refine evn_irem i4_32 (by omega) ?_
  refine ev_aload_n i4_33 rfl ?_
  refine ev_callV (vs := [.int (nI ((fi + (ma - 1)) % 14)), .ref b]) (rest := []) i4_34 ci4 lk0_31 (congrArg (fun q => q + 1) np60) ci60 (by decide) (by decide +kernel) (Nat.le_of_ble_eq_true rfl) ⟨rfl, rfl, Nat.le_of_ble_eq_true rfl⟩ rfl (by assumption) (c60 (by decide) kS hi hT hM h1 h2 h3 h4 (by omega)) (fun r H2 hq => ?_)
  obtain ⟨rfl, hN, hO1⟩ := hq
  have k0 := hO1.at k0 (fun q => by have u1 := q.1; have u2 := q.2; omega)
  have kS := kS.off hO1 (fun q => by have u1 := q.1; have u2 := q.2; omega) (fun q => by have u1 := q.1; have u2 := q.2; omega)
  have hO : Off (fun j => j = 16 ∨ mdC b j) H H2 := hO.trans hO1 (fun _ h => h) (fun _ h => Or.inr h)
  show Ev tb 4 37 [some (.ref 16), some (.ref b)] [] H2 _
  refine ev_vret i4_37 (by decide +kernel) ?_
  exact ⟨rfl, ⟨k0, kS⟩, hN, hO⟩
end
section
/-! texts, tellings, choices; herds and meadows made anew -/
def TxtAt (H : dxH) (tx : Nat → Nat) (ln : Nat) : Prop := H[1]? = some (.inr (4, [.ref 2, .int (nI ln)])) ∧ H[2]? = some (IA 64 tx)
def txC : Nat → Prop := fun j => j = 1 ∨ j = 2
def TelAt (H : dxH) (tc th : Nat → Nat) (td : Nat → Bool) (tm : Nat) : Prop := H[102]? = some (.inr (6, [.ref 103, .ref 104, .ref 105, .int (nI tm)])) ∧ H[103]? = some (IA 6 tc) ∧ H[104]? = some (IA 6 th) ∧ H[105]? = some (ZA 6 td)
def tlC : Nat → Prop := fun j => 102 ≤ j ∧ j ≤ 105
theorem TxtAt.off {H H' : dxH} {tx : Nat → Nat} {ln : Nat} {A : Nat → Prop} (h : TxtAt H tx ln) (hO : Off A H H') (h1 : ¬ A 1) (h2 : ¬ A 2) : TxtAt H' tx ln := ⟨hO.at h.1 h1, hO.at h.2 h2⟩
theorem TelAt.off {H H' : dxH} {tc th : Nat → Nat} {td : Nat → Bool} {tm : Nat} {A : Nat → Prop} (h : TelAt H tc th td tm) (hO : Off A H H') (hA : ∀ j, 102 ≤ j → j ≤ 105 → ¬ A j) : TelAt H' tc th td tm := ⟨hO.at h.1 (hA _ (by decide) (by decide)), hO.at h.2.1 (hA _ (by decide) (by decide)), hO.at h.2.2.1 (hA _ (by decide) (by decide)), hO.at h.2.2.2 (hA _ (by decide) (by decide))⟩
theorem c49 {tb : dxT} {H : dxH} {tx : Nat → Nat} {ln : Nat} (hX : TxtAt H tx ln) (hln : ln ≤ 64) : Cl tb 49 [.ref 1] H (Rt (.int (nI ln)) H) := by
  obtain ⟨x0, x1⟩ := id hX
  show Ev tb 49 0 [some (.ref 1)] [] H _
  refine ev_aload_n i49_0 rfl ?_
  refine ev_get i49_1 ci49 fl4_15 (by assumption) rfl ?_
  refine ev_iret i49_4 (by decide +kernel) ?_
  exact ⟨rfl, rfl⟩
theorem c50 {tb : dxT} {H : dxH} {tx : Nat → Nat} {ln : Nat} (hX : TxtAt H tx ln) (hln : ln ≤ 64) : Cl tb 50 [.ref 1] H (fun r H' => r = none ∧ TxtAt H' tx 0 ∧ Off txC H H') := by
  obtain ⟨x0, x1⟩ := id hX
  have hO : Off txC H H := Off.rf
  show Ev tb 50 0 [some (.ref 1)] [] H _
  refine ev_aload_n i50_0 rfl ?_
  refine ev_iconst (v := nI 0) i50_1 (by decide) ?_
  refine evs_put (fs' := [.ref 2, .int (nI 0)]) i50_2 ci50 fl4_15 (by assumption) ⟨Nat.le_of_ble_eq_true rfl, rfl, Or.inl rfl⟩ rfl (fun H1 hH1 => ?_)
  have x0 : H1[1]? = some (.inr (4, [.ref 2, .int (nI 0)])) := by rw [hH1]; exact set_self x0
  have x1 : H1[2]? = some (IA 64 tx) := by rw [hH1]; exact set_ne x1 (by omega)
  have hO : Off txC H H1 := by rw [hH1]; exact hO.set (by first | exact Or.inl rfl | exact Or.inr rfl)
  refine ev_vret i50_5 (by decide +kernel) ?_
  exact ⟨rfl, ⟨x0, x1⟩, hO⟩
theorem c51t {tb : dxT} {H : dxH} {tx : Nat → Nat} {ln : Nat} {c : Nat} (hX : TxtAt H tx ln) (hln : ln ≤ 64) (hc : c < 256) (h : ln < 64) : Cl tb 51 [.ref 1, .int (nI c)] H (fun r H' => r = some (.int (bI true)) ∧ TxtAt H' (updN tx ln c) (ln + 1) ∧ Off txC H H') := by
  obtain ⟨x0, x1⟩ := id hX
  have hO : Off txC H H := Off.rf
  show Ev tb 51 0 [some (.ref 1), some (.int (nI c))] [] H _
  refine ev_aload_n i51_0 rfl ?_
  refine ev_get i51_1 ci51 fl4_15 (by assumption) rfl ?_
  refine ev_bipush (v := nI 64) i51_4 (by decide) ?_
  refine evn_icmp_lt (t := 11) i51_6 (by decide) (by omega) (fun z6 => ?_) (fun z6 => by exfalso; omega)
  refine ev_aload_n i51_11 rfl ?_
  refine ev_get i51_12 ci51 fl4_9 (by assumption) rfl ?_
  refine ev_aload_n i51_15 rfl ?_
  refine ev_get i51_16 ci51 fl4_15 (by assumption) rfl ?_
  refine ev_iload_n i51_19 rfl ?_
  refine evs_iastn i51_20 (by assumption) (by omega) (fun H1 hH1 => ?_)
  have x0 : H1[1]? = some (.inr (4, [.ref 2, .int (nI ln)])) := by rw [hH1]; exact set_ne x0 (by omega)
  have x1 : H1[2]? = some (IA 64 (updN tx ln c)) := by rw [hH1]; exact set_self x1
  have hO : Off txC H H1 := by rw [hH1]; exact hO.set (by first | exact Or.inl rfl | exact Or.inr rfl)
  refine ev_aload_n i51_21 rfl ?_
  refine ev_dup i51_22 rfl ?_
  refine ev_get i51_23 ci51 fl4_15 (by assumption) rfl ?_
  refine ev_iconst (v := nI 1) i51_26 (by decide) ?_
  refine evn_iadd i51_27 ?_
  refine evs_put (fs' := [.ref 2, .int (nI (ln + 1))]) i51_28 ci51 fl4_15 (by assumption) ⟨Nat.le_of_ble_eq_true rfl, rfl, Or.inl rfl⟩ rfl (fun H2 hH2 => ?_)
  have x0 : H2[1]? = some (.inr (4, [.ref 2, .int (nI (ln + 1))])) := by rw [hH2]; exact set_self x0
  have x1 : H2[2]? = some (IA 64 (updN tx ln c)) := by rw [hH2]; exact set_ne x1 (by omega)
  have hO : Off txC H H2 := by rw [hH2]; exact hO.set (by first | exact Or.inl rfl | exact Or.inr rfl)
  refine ev_iconst (v := nI 1) i51_31 (by decide) ?_
  refine ev_zret i51_32 (by decide +kernel) (by decide) ?_
  exact ⟨zt rfl, ⟨x0, x1⟩, hO⟩
theorem c51f {tb : dxT} {H : dxH} {tx : Nat → Nat} {ln : Nat} {c : Nat} (hX : TxtAt H tx ln) (hln : ln ≤ 64) (h : ¬ ln < 64) : Cl tb 51 [.ref 1, .int (nI c)] H (Rt (.int (bI false)) H) := by
  obtain ⟨x0, x1⟩ := id hX
  show Ev tb 51 0 [some (.ref 1), some (.int (nI c))] [] H _
  refine ev_aload_n i51_0 rfl ?_
  refine ev_get i51_1 ci51 fl4_15 (by assumption) rfl ?_
  refine ev_bipush (v := nI 64) i51_4 (by decide) ?_
  refine evn_icmp_lt (t := 11) i51_6 (by decide) (by omega) (fun z6 => by exfalso; omega) (fun z6 => ?_)
  refine ev_iconst (v := nI 0) i51_9 (by decide) ?_
  refine ev_zret i51_10 (by decide +kernel) (by decide) ?_
  exact ⟨zf rfl, rfl⟩
theorem c52t {tb : dxT} {H : dxH} {tx : Nat → Nat} {ln : Nat} {p : Nat} (hX : TxtAt H tx ln) (hln : ln ≤ 64) (h : p < ln) : Cl tb 52 [.ref 1, .int (nI p)] H (Rt (.int (nI (tx p))) H) := by
  obtain ⟨x0, x1⟩ := id hX
  show Ev tb 52 0 [some (.ref 1), some (.int (nI p))] [] H _
  refine ev_iload_n i52_0 rfl ?_
  refine evn_if_lt (t := 27) i52_1 (by decide) (by omega) ?_
  refine ev_iload_n i52_4 rfl ?_
  refine ev_aload_n i52_5 rfl ?_
  refine ev_get i52_6 ci52 fl4_15 (by assumption) rfl ?_
  refine evn_icmp_ge (t := 27) i52_9 (by decide) (by omega) (fun z9 => by exfalso; omega) (fun z9 => ?_)
  refine ev_iload_n i52_12 rfl ?_
  refine ev_bipush (v := nI 64) i52_13 (by decide) ?_
  refine evn_icmp_ge (t := 27) i52_15 (by decide) (by omega) (fun z15 => by exfalso; omega) (fun z15 => ?_)
  refine ev_aload_n i52_18 rfl ?_
  refine ev_get i52_19 ci52 fl4_9 (by assumption) rfl ?_
  refine ev_iload_n i52_22 rfl ?_
  refine ev_iald_n i52_23 (by assumption) (by omega) ?_
  refine ev_goto (t := 29) i52_24 (by decide) ?_
  refine ev_iret i52_29 (by decide +kernel) ?_
  exact ⟨rfl, rfl⟩
theorem c52f {tb : dxT} {H : dxH} {tx : Nat → Nat} {ln : Nat} {p : Nat} (hX : TxtAt H tx ln) (hln : ln ≤ 64) (hp : p < 2147483648) (h : ¬ p < ln) : Cl tb 52 [.ref 1, .int (nI p)] H (Rt (.int (-9)) H) := by
  obtain ⟨x0, x1⟩ := id hX
  show Ev tb 52 0 [some (.ref 1), some (.int (nI p))] [] H _
  refine ev_iload_n i52_0 rfl ?_
  refine evn_if_lt (t := 27) i52_1 (by decide) (by omega) ?_
  refine ev_iload_n i52_4 rfl ?_
  refine ev_aload_n i52_5 rfl ?_
  refine ev_get i52_6 ci52 fl4_15 (by assumption) rfl ?_
  refine evn_icmp_ge (t := 27) i52_9 (by decide) (by omega) (fun z9 => ?_) (fun z9 => by exfalso; omega)
  refine ev_bipush (v := (-9)) i52_27 (by decide) ?_
  refine ev_iret i52_29 (by decide +kernel) ?_
  exact ⟨rfl, rfl⟩
theorem c53t {tb : dxT} {H : dxH} {tx : Nat → Nat} {ln : Nat} {p : Nat} (hX : TxtAt H tx ln) (hln : ln ≤ 64) (htx : ∀ j, tx j < 256) (h : p < ln) (h1 : 48 ≤ tx p) (h2 : tx p ≤ 57) : Cl tb 53 [.ref 1, .int (nI p)] H (Rt (.int (nI (tx p - 48))) H) := by
  obtain ⟨x0, x1⟩ := id hX
  show Ev tb 53 0 [some (.ref 1), some (.int (nI p)), none] [] H _
  refine ev_aload_n i53_0 rfl ?_
  refine ev_iload_n i53_1 rfl ?_
  refine ev_callV (vs := [.int (nI p)]) (rest := []) i53_2 ci53 lk4_19 (congrArg (fun q => q + 1) np52) ci52 (by decide) (by decide +kernel) (Nat.le_of_ble_eq_true rfl) ⟨rfl, rfl, Nat.le_of_ble_eq_true rfl⟩ rfl (by assumption) (c52t (by assumption) (by omega) (by omega)) (fun r HH hq => ?_)
  obtain ⟨rfl, rfl⟩ := hq
  show Ev tb 53 5 [some (.ref 1), some (.int (nI p)), none] [.int (nI (tx p))] H _
  refine ev_istore_n (L' := [some (.ref 1), some (.int (nI p)), some (.int (nI (tx p)))]) i53_5 ⟨Nat.le_of_ble_eq_true rfl, rfl⟩ rfl ?_
  refine ev_iload_n i53_6 rfl ?_
  refine ev_bipush (v := nI 48) i53_7 (by decide) ?_
  refine evn_icmp_lt (t := 25) i53_9 (by decide) (by omega) (fun z9 => by exfalso; omega) (fun z9 => ?_)
  refine ev_iload_n i53_12 rfl ?_
  refine ev_bipush (v := nI 57) i53_13 (by decide) ?_
  refine evn_icmp_gt (t := 25) i53_15 (by decide) (by omega) (fun z15 => by exfalso; omega) (fun z15 => ?_)
  refine ev_iload_n i53_18 rfl ?_
  refine ev_bipush (v := nI 48) i53_19 (by decide) ?_
  refine evn_isub i53_21 (by omega) ?_
  refine ev_goto (t := 27) i53_22 (by decide) ?_
  refine ev_iret i53_27 (by decide +kernel) ?_
  exact ⟨rfl, rfl⟩
theorem c53f {tb : dxT} {H : dxH} {tx : Nat → Nat} {ln : Nat} {p : Nat} (hX : TxtAt H tx ln) (hln : ln ≤ 64) (htx : ∀ j, tx j < 256) (hp : p < 2147483648) (h : p < ln → ¬ (48 ≤ tx p ∧ tx p ≤ 57)) : Cl tb 53 [.ref 1, .int (nI p)] H (Rt (.int (-9)) H) := by
  obtain ⟨x0, x1⟩ := id hX
  by_cases hpl : p < ln
  · have hh := h hpl
    have hb := htx p
    show Ev tb 53 0 [some (.ref 1), some (.int (nI p)), none] [] H _
    refine ev_aload_n i53_0 rfl ?_
    refine ev_iload_n i53_1 rfl ?_
    refine ev_callV (vs := [.int (nI p)]) (rest := []) i53_2 ci53 lk4_19 (congrArg (fun q => q + 1) np52) ci52 (by decide) (by decide +kernel) (Nat.le_of_ble_eq_true rfl) ⟨rfl, rfl, Nat.le_of_ble_eq_true rfl⟩ rfl (by assumption) (c52t (by assumption) (by omega) (by omega)) (fun r HH hq => ?_)
    obtain ⟨rfl, rfl⟩ := hq
    show Ev tb 53 5 [some (.ref 1), some (.int (nI p)), none] [.int (nI (tx p))] H _
    refine ev_istore_n (L' := [some (.ref 1), some (.int (nI p)), some (.int (nI (tx p)))]) i53_5 ⟨Nat.le_of_ble_eq_true rfl, rfl⟩ rfl ?_
    refine ev_iload_n i53_6 rfl ?_
    refine ev_bipush (v := nI 48) i53_7 (by decide) ?_
    refine evn_icmp_lt (t := 25) i53_9 (by decide) (by omega) (fun z9 => ?_) (fun z9 => ?_)
    · refine ev_bipush (v := (-9)) i53_25 (by decide) ?_
      refine ev_iret i53_27 (by decide +kernel) ?_
      exact ⟨rfl, rfl⟩
    · refine ev_iload_n i53_12 rfl ?_
      refine ev_bipush (v := nI 57) i53_13 (by decide) ?_
      refine evn_icmp_gt (t := 25) i53_15 (by decide) (by omega) (fun z15 => ?_) (fun z15 => ?_)
      · refine ev_bipush (v := (-9)) i53_25 (by decide) ?_
        refine ev_iret i53_27 (by decide +kernel) ?_
        exact ⟨rfl, rfl⟩
      · refine ev_iload_n i53_18 rfl ?_
        refine ev_bipush (v := nI 48) i53_19 (by decide) ?_
        refine evn_isub i53_21 (by omega) ?_
        refine ev_goto (t := 27) i53_22 (by decide) ?_
        refine ev_iret i53_27 (by decide +kernel) ?_
        exfalso; omega
  · show Ev tb 53 0 [some (.ref 1), some (.int (nI p)), none] [] H _
    refine ev_aload_n i53_0 rfl ?_
    refine ev_iload_n i53_1 rfl ?_
    refine ev_callV (vs := [.int (nI p)]) (rest := []) i53_2 ci53 lk4_19 (congrArg (fun q => q + 1) np52) ci52 (by decide) (by decide +kernel) (Nat.le_of_ble_eq_true rfl) ⟨rfl, rfl, Nat.le_of_ble_eq_true rfl⟩ rfl (by assumption) (c52f (by assumption) (by omega) (by omega) (by omega)) (fun r HH hq => ?_)
    obtain ⟨rfl, rfl⟩ := hq
    show Ev tb 53 5 [some (.ref 1), some (.int (nI p)), none] [.int (-9)] H _
    refine ev_istore_n (L' := [some (.ref 1), some (.int (nI p)), some (.int (-9))]) i53_5 ⟨Nat.le_of_ble_eq_true rfl, rfl⟩ rfl ?_
    refine ev_iload_n i53_6 rfl ?_
    refine ev_bipush (v := nI 48) i53_7 (by decide) ?_
    refine ev_icmp_lt (t := 25) i53_9 (by decide) (fun z9 => ?_) (fun z9 => by exfalso; exact z9 (by decide))
    refine ev_bipush (v := (-9)) i53_25 (by decide) ?_
    refine ev_iret i53_27 (by decide +kernel) ?_
    exact ⟨rfl, rfl⟩
theorem c63 {tb : dxT} {H : dxH} {tc th : Nat → Nat} {td : Nat → Bool} {tm : Nat} (hT : TelAt H tc th td tm) (htm : tm ≤ 6) : Cl tb 63 [.ref 102] H (Rt (.int (nI tm)) H) := by
  obtain ⟨l0, l1, l2, l3⟩ := id hT
  show Ev tb 63 0 [some (.ref 102)] [] H _
  refine ev_aload_n i63_0 rfl ?_
  refine ev_get i63_1 ci63 fl6_22 (by assumption) rfl ?_
  refine ev_iret i63_4 (by decide +kernel) ?_
  exact ⟨rfl, rfl⟩
theorem c62 {tb : dxT} {H : dxH} {tc th : Nat → Nat} {td : Nat → Bool} {tm : Nat} (hT : TelAt H tc th td tm) (htm : tm ≤ 6) : Cl tb 62 [.ref 102] H (fun r H' => r = none ∧ TelAt H' tc th td 0 ∧ Off tlC H H') := by
  obtain ⟨l0, l1, l2, l3⟩ := id hT
  have hO : Off tlC H H := Off.rf
  show Ev tb 62 0 [some (.ref 102)] [] H _
  refine ev_aload_n i62_0 rfl ?_
  refine ev_iconst (v := nI 0) i62_1 (by decide) ?_
  refine evs_put (fs' := [.ref 103, .ref 104, .ref 105, .int (nI 0)]) i62_2 ci62 fl6_22 (by assumption) ⟨Nat.le_of_ble_eq_true rfl, rfl, Or.inl rfl⟩ rfl (fun H1 hH1 => ?_)
  have l0 : H1[102]? = some (.inr (6, [.ref 103, .ref 104, .ref 105, .int (nI 0)])) := by rw [hH1]; exact set_self l0
  have l1 : H1[103]? = some (IA 6 tc) := by rw [hH1]; exact set_ne l1 (by omega)
  have l2 : H1[104]? = some (IA 6 th) := by rw [hH1]; exact set_ne l2 (by omega)
  have l3 : H1[105]? = some (ZA 6 td) := by rw [hH1]; exact set_ne l3 (by omega)
  have hO : Off tlC H H1 := by rw [hH1]; exact hO.set (by unfold tlC; decide)
  refine ev_vret i62_5 (by decide +kernel) ?_
  exact ⟨rfl, ⟨l0, l1, l2, l3⟩, hO⟩
theorem c64t {tb : dxT} {H : dxH} {tc th : Nat → Nat} {td : Nat → Bool} {tm : Nat} {c h : Nat} {b : Bool} (hT : TelAt H tc th td tm) (htm : tm ≤ 6) (hm : tm < 6) : Cl tb 64 [.ref 102, .int (nI c), .int (nI h), .int (bI b)] H (fun r H' => r = some (.int (bI true)) ∧ TelAt H' (updN tc tm c) (updN th tm h) (updB td tm b) (tm + 1) ∧ Off tlC H H') := by
  obtain ⟨l0, l1, l2, l3⟩ := id hT
  have hO : Off tlC H H := Off.rf
  show Ev tb 64 0 [some (.ref 102), some (.int (nI c)), some (.int (nI h)), some (.int (bI b))] [] H _
  refine ev_aload_n i64_0 rfl ?_
  refine ev_get i64_1 ci64 fl6_22 (by assumption) rfl ?_
  refine ev_bipush (v := nI 6) i64_4 (by decide) ?_
  refine evn_icmp_lt (t := 11) i64_6 (by decide) (by omega) (fun z6 => ?_) (fun z6 => by exfalso; omega)
  refine ev_aload_n i64_11 rfl ?_
  refine ev_get i64_12 ci64 fl6_9 (by assumption) rfl ?_
  refine ev_aload_n i64_15 rfl ?_
  refine ev_get i64_16 ci64 fl6_22 (by assumption) rfl ?_
  refine ev_iload_n i64_19 rfl ?_
  refine evs_iastn i64_20 (by assumption) (by omega) (fun H1 hH1 => ?_)
  have l0 : H1[102]? = some (.inr (6, [.ref 103, .ref 104, .ref 105, .int (nI tm)])) := by rw [hH1]; exact set_ne l0 (by omega)
  have l1 : H1[103]? = some (IA 6 (updN tc tm c)) := by rw [hH1]; exact set_self l1
  have l2 : H1[104]? = some (IA 6 th) := by rw [hH1]; exact set_ne l2 (by omega)
  have l3 : H1[105]? = some (ZA 6 td) := by rw [hH1]; exact set_ne l3 (by omega)
  have hO : Off tlC H H1 := by rw [hH1]; exact hO.set (by unfold tlC; decide)
  refine ev_aload_n i64_21 rfl ?_
  refine ev_get i64_22 ci64 fl6_15 (by assumption) rfl ?_
  refine ev_aload_n i64_25 rfl ?_
  refine ev_get i64_26 ci64 fl6_22 (by assumption) rfl ?_
  refine ev_iload_n i64_29 rfl ?_
  refine evs_iastn i64_30 (by assumption) (by omega) (fun H2 hH2 => ?_)
  have l0 : H2[102]? = some (.inr (6, [.ref 103, .ref 104, .ref 105, .int (nI tm)])) := by rw [hH2]; exact set_ne l0 (by omega)
  have l1 : H2[103]? = some (IA 6 (updN tc tm c)) := by rw [hH2]; exact set_ne l1 (by omega)
  have l2 : H2[104]? = some (IA 6 (updN th tm h)) := by rw [hH2]; exact set_self l2
  have l3 : H2[105]? = some (ZA 6 td) := by rw [hH2]; exact set_ne l3 (by omega)
  have hO : Off tlC H H2 := by rw [hH2]; exact hO.set (by unfold tlC; decide)
  refine ev_aload_n i64_31 rfl ?_
  refine ev_get i64_32 ci64 fl6_18 (by assumption) rfl ?_
  refine ev_aload_n i64_35 rfl ?_
  refine ev_get i64_36 ci64 fl6_22 (by assumption) rfl ?_
  refine ev_iload_n i64_39 rfl ?_
  refine evz_bast i64_40 (by assumption) (by omega) (fun H3 hH3 => ?_)
  have l0 : H3[102]? = some (.inr (6, [.ref 103, .ref 104, .ref 105, .int (nI tm)])) := by rw [hH3]; exact set_ne l0 (by omega)
  have l1 : H3[103]? = some (IA 6 (updN tc tm c)) := by rw [hH3]; exact set_ne l1 (by omega)
  have l2 : H3[104]? = some (IA 6 (updN th tm h)) := by rw [hH3]; exact set_ne l2 (by omega)
  have l3 : H3[105]? = some (ZA 6 (updB td tm b)) := by rw [hH3]; exact set_self l3
  have hO : Off tlC H H3 := by rw [hH3]; exact hO.set (by unfold tlC; decide)
  refine ev_aload_n i64_41 rfl ?_
  refine ev_dup i64_42 rfl ?_
  refine ev_get i64_43 ci64 fl6_22 (by assumption) rfl ?_
  refine ev_iconst (v := nI 1) i64_46 (by decide) ?_
  refine evn_iadd i64_47 ?_
  refine evs_put (fs' := [.ref 103, .ref 104, .ref 105, .int (nI (tm + 1))]) i64_48 ci64 fl6_22 (by assumption) ⟨Nat.le_of_ble_eq_true rfl, rfl, Or.inl rfl⟩ rfl (fun H4 hH4 => ?_)
  have l0 : H4[102]? = some (.inr (6, [.ref 103, .ref 104, .ref 105, .int (nI (tm + 1))])) := by rw [hH4]; exact set_self l0
  have l1 : H4[103]? = some (IA 6 (updN tc tm c)) := by rw [hH4]; exact set_ne l1 (by omega)
  have l2 : H4[104]? = some (IA 6 (updN th tm h)) := by rw [hH4]; exact set_ne l2 (by omega)
  have l3 : H4[105]? = some (ZA 6 (updB td tm b)) := by rw [hH4]; exact set_ne l3 (by omega)
  have hO : Off tlC H H4 := by rw [hH4]; exact hO.set (by unfold tlC; decide)
  refine ev_iconst (v := nI 1) i64_51 (by decide) ?_
  refine ev_zret i64_52 (by decide +kernel) (by decide) ?_
  exact ⟨zt rfl, ⟨l0, l1, l2, l3⟩, hO⟩
theorem c64f {tb : dxT} {H : dxH} {tc th : Nat → Nat} {td : Nat → Bool} {tm : Nat} {c h : Nat} {b : Bool} (hT : TelAt H tc th td tm) (htm : tm ≤ 6) (hm : ¬ tm < 6) : Cl tb 64 [.ref 102, .int (nI c), .int (nI h), .int (bI b)] H (Rt (.int (bI false)) H) := by
  obtain ⟨l0, l1, l2, l3⟩ := id hT
  show Ev tb 64 0 [some (.ref 102), some (.int (nI c)), some (.int (nI h)), some (.int (bI b))] [] H _
  refine ev_aload_n i64_0 rfl ?_
  refine ev_get i64_1 ci64 fl6_22 (by assumption) rfl ?_
  refine ev_bipush (v := nI 6) i64_4 (by decide) ?_
  refine evn_icmp_lt (t := 11) i64_6 (by decide) (by omega) (fun z6 => by exfalso; omega) (fun z6 => ?_)
  refine ev_iconst (v := nI 0) i64_9 (by decide) ?_
  refine ev_zret i64_10 (by decide +kernel) (by decide) ?_
  exact ⟨zf rfl, rfl⟩
/-- what was told of hour h is not so of the i-th telling -/
def offB (he : Nat) (kd fu tc th : Nat → Nat) (td : Nat → Bool) (h i : Nat) : Bool := decide (th i = h) && he.testBit (tc i) && !((he.testBit (tc i) && dueB (kd (tc i)) (fu (tc i))) == td i)
theorem lq65 {tb : dxT} {H : dxH} {a n h : Nat} {sd kd cl ce fu : Nat → Nat} {pa : Nat → Int32} {he : Nat} {sn : Bool} {ho wa : Int32} {tc th : Nat → Nat} {td : Nat → Bool} {tm : Nat} (hM : MdwAt H a cl ce fu pa he sn ho wa) (hH : HrdAt H n sd kd) (hb : he < 64) (ha : 6 ≤ a) (hfu : ∀ j, fu j < 10) (hkd : ∀ j, kd j < 4) (hT : TelAt H tc th td tm) (htm : tm ≤ 6) (htc : ∀ j, tc j < 6) (hth : ∀ j, th j < 8) (hh : h < 2147483648) : ∀ (d i : Nat), i + d = tm → ∀ v, Ev tb 65 2 [some (.ref 102), some (.ref a), some (.int (nI h)), some (.int (nI i)), v] [] H (Rt (.int (bI (!(anyB (offB he kd fu tc th td h) d i)))) H)
  | 0, i, hi, v => by
    obtain ⟨l0, l1, l2, l3⟩ := id hT
    obtain rfl : i = tm := by omega
    show Ev tb 65 2 [some (.ref 102), some (.ref a), some (.int (nI h)), some (.int (nI i)), v] [] H _
    refine ev_iload_n i65_2 rfl ?_
    refine ev_aload_n i65_3 rfl ?_
    refine ev_get i65_4 ci65 fl6_22 (by assumption) rfl ?_
    refine evn_icmp_ge (t := 78) i65_7 (by decide) (by omega) (fun z7 => ?_) (fun z7 => by exfalso; omega)
    refine ev_iconst (v := nI 1) i65_78 (by decide) ?_
    refine ev_zret i65_79 (by decide +kernel) (by decide) ?_
    exact ⟨zt rfl, rfl⟩
  | d + 1, i, hi, v => by
    obtain ⟨m0, m1, m2, m3, m4⟩ := id hM
    obtain ⟨l0, l1, l2, l3⟩ := id hT
    have htci := htc i
    have hthi := hth i
    unfold anyB
    show Ev tb 65 2 [some (.ref 102), some (.ref a), some (.int (nI h)), some (.int (nI i)), v] [] H _
    refine ev_iload_n i65_2 rfl ?_
    refine ev_aload_n i65_3 rfl ?_
    refine ev_get i65_4 ci65 fl6_22 (by assumption) rfl ?_
    refine evn_icmp_ge (t := 78) i65_7 (by decide) (by omega) (fun z7 => by exfalso; omega) (fun z7 => ?_)
    refine ev_iload_n i65_10 rfl ?_
    refine ev_bipush (v := nI 6) i65_11 (by decide) ?_
    refine evn_icmp_ge (t := 78) i65_13 (by decide) (by omega) (fun z13 => by exfalso; omega) (fun z13 => ?_)
    refine ev_aload_n i65_16 rfl ?_
    refine ev_get i65_17 ci65 fl6_15 (by assumption) rfl ?_
    refine ev_iload_n i65_20 rfl ?_
    refine ev_iald_n i65_21 (by assumption) (by omega) ?_
    refine ev_iload_n i65_22 rfl ?_
    refine evn_icmp_ne (t := 43) i65_23 (by decide) (by omega) (fun z23 => ?_) (fun z23 => ?_)
    · refine ev_iconst (v := nI 0) i65_43 (by decide) ?_
      refine ev_istore (L' := [some (.ref 102), some (.ref a), some (.int (nI h)), some (.int (nI i)), some (.int (nI 0))]) i65_44 ⟨Nat.le_of_ble_eq_true rfl, rfl⟩ rfl ?_
      refine ev_iload i65_46 rfl ?_
      refine evn_if_eq (t := 72) i65_48 (by decide) (by omega) (fun z48 => ?_) (fun z48 => by exfalso; omega)
      refine evn_iinc (d := 1) (L' := [some (.ref 102), some (.ref a), some (.int (nI h)), some (.int (nI (i + 1))), some (.int (nI 0))]) i65_72 rfl rfl (by decide) rfl ?_
      refine ev_goto (t := 2) i65_75 (by decide) ?_
      refine (lq65 hM hH hb ha hfu hkd hT htm htc hth hh d (i + 1) (by omega) _).post (fun r H' hq => ⟨hq.1.trans ?_, hq.2⟩)
      have e1 : offB he kd fu tc th td h i = false := by
        unfold offB
        simp [*]
      rw [e1, Bool.false_or]
    · refine ev_aload_n i65_26 rfl ?_
      refine ev_aload_n i65_27 rfl ?_
      refine ev_get i65_28 ci65 fl6_9 (by assumption) rfl ?_
      refine ev_iload_n i65_31 rfl ?_
      refine ev_iald_n i65_32 (by assumption) (by omega) ?_
      refine ev_callV (vs := [.int (nI (tc i))]) (rest := []) i65_33 ci65 lk6_26 (congrArg (fun q => q + 1) np23) ci23 (by decide) (by decide +kernel) (Nat.le_of_ble_eq_true rfl) ⟨rfl, rfl, Nat.le_of_ble_eq_true rfl⟩ rfl (by assumption) (c23 (by assumption) (by omega) (by omega)) (fun r HH hq => ?_)
      obtain ⟨rfl, rfl⟩ := hq
      show Ev tb 65 36 [some (.ref 102), some (.ref a), some (.int (nI h)), some (.int (nI i)), v] [.int (bI (he.testBit (tc i)))] H _
      refine evb_if_eq (t := 43) i65_36 (by decide) (fun z36 => ?_) (fun z36 => ?_)
      · refine ev_iconst (v := nI 0) i65_43 (by decide) ?_
        refine ev_istore (L' := [some (.ref 102), some (.ref a), some (.int (nI h)), some (.int (nI i)), some (.int (nI 0))]) i65_44 ⟨Nat.le_of_ble_eq_true rfl, rfl⟩ rfl ?_
        refine ev_iload i65_46 rfl ?_
        refine evn_if_eq (t := 72) i65_48 (by decide) (by omega) (fun z48 => ?_) (fun z48 => by exfalso; omega)
        refine evn_iinc (d := 1) (L' := [some (.ref 102), some (.ref a), some (.int (nI h)), some (.int (nI (i + 1))), some (.int (nI 0))]) i65_72 rfl rfl (by decide) rfl ?_
        refine ev_goto (t := 2) i65_75 (by decide) ?_
        refine (lq65 hM hH hb ha hfu hkd hT htm htc hth hh d (i + 1) (by omega) _).post (fun r H' hq => ⟨hq.1.trans ?_, hq.2⟩)
        have e1 : offB he kd fu tc th td h i = false := by
          unfold offB
          simp [*]
        rw [e1, Bool.false_or]
      · refine ev_iconst (v := nI 1) i65_39 (by decide) ?_
        refine ev_goto (t := 44) i65_40 (by decide) ?_
        refine ev_istore (L' := [some (.ref 102), some (.ref a), some (.int (nI h)), some (.int (nI i)), some (.int (nI 1))]) i65_44 ⟨Nat.le_of_ble_eq_true rfl, rfl⟩ rfl ?_
        refine ev_iload i65_46 rfl ?_
        refine evn_if_eq (t := 72) i65_48 (by decide) (by omega) (fun z48 => by exfalso; omega) (fun z48 => ?_)
        refine ev_aload_n i65_51 rfl ?_
        refine ev_aload_n i65_52 rfl ?_
        refine ev_get i65_53 ci65 fl6_9 (by assumption) rfl ?_
        refine ev_iload_n i65_56 rfl ?_
        refine ev_iald_n i65_57 (by assumption) (by omega) ?_
        refine ev_callV (vs := [.int (nI (tc i))]) (rest := []) i65_58 ci65 lk6_32 (congrArg (fun q => q + 1) np40) ci40 (by decide) (by decide +kernel) (Nat.le_of_ble_eq_true rfl) ⟨rfl, rfl, Nat.le_of_ble_eq_true rfl⟩ rfl (by assumption) (c40 (by assumption) (by assumption) hb ha hfu hkd (by omega)) (fun r HH hq => ?_)
        obtain ⟨rfl, rfl⟩ := hq
        show Ev tb 65 61 [some (.ref 102), some (.ref a), some (.int (nI h)), some (.int (nI i)), some (.int (nI 1))] [.int (bI (he.testBit (tc i) && dueB (kd (tc i)) (fu (tc i))))] H _
        refine ev_aload_n i65_61 rfl ?_
        refine ev_get i65_62 ci65 fl6_18 (by assumption) rfl ?_
        refine ev_iload_n i65_65 rfl ?_
        refine evz_bald i65_66 (by assumption) (by omega) ?_
        refine evb_icmp_eq (t := 72) i65_67 (by decide) (fun z67 => ?_) (fun z67 => ?_)
        · refine evn_iinc (d := 1) (L' := [some (.ref 102), some (.ref a), some (.int (nI h)), some (.int (nI (i + 1))), some (.int (nI 1))]) i65_72 rfl rfl (by decide) rfl ?_
          refine ev_goto (t := 2) i65_75 (by decide) ?_
          refine (lq65 hM hH hb ha hfu hkd hT htm htc hth hh d (i + 1) (by omega) _).post (fun r H' hq => ⟨hq.1.trans ?_, hq.2⟩)
          have e1 : offB he kd fu tc th td h i = false := by
            unfold offB
            rw [z67]; simp
          rw [e1, Bool.false_or]
        · refine ev_iconst (v := nI 0) i65_70 (by decide) ?_
          refine ev_zret i65_71 (by decide +kernel) (by decide) ?_
          have e1 : offB he kd fu tc th td h i = true := by
            unfold offB
            rw [beq_eq_false_iff_ne.mpr z67]
            simp [*]
          exact ⟨zf (by rw [e1]; rfl), rfl⟩
theorem c65 {tb : dxT} {H : dxH} {a n h : Nat} {sd kd cl ce fu : Nat → Nat} {pa : Nat → Int32} {he : Nat} {sn : Bool} {ho wa : Int32} {tc th : Nat → Nat} {td : Nat → Bool} {tm : Nat} (hM : MdwAt H a cl ce fu pa he sn ho wa) (hH : HrdAt H n sd kd) (hb : he < 64) (ha : 6 ≤ a) (hfu : ∀ j, fu j < 10) (hkd : ∀ j, kd j < 4) (hT : TelAt H tc th td tm) (htm : tm ≤ 6) (htc : ∀ j, tc j < 6) (hth : ∀ j, th j < 8) (hh : h < 2147483648) : Cl tb 65 [.ref 102, .ref a, .int (nI h)] H (Rt (.int (bI (!(anyB (offB he kd fu tc th td h) tm 0)))) H) := by
  show Ev tb 65 0 [some (.ref 102), some (.ref a), some (.int (nI h)), none, none] [] H _
  refine ev_iconst (v := nI 0) i65_0 (by decide) ?_
  refine ev_istore_n (L' := [some (.ref 102), some (.ref a), some (.int (nI h)), some (.int (nI 0)), none]) i65_1 ⟨Nat.le_of_ble_eq_true rfl, rfl⟩ rfl ?_
  exact lq65 hM hH hb ha hfu hkd hT htm htc hth hh tm 0 (Nat.zero_add tm) _
end
section
/-! choices; herds and meadows made anew -/
def addC (l : List Nat) (c : Nat) : List Nat := if l.length < 26 then l ++ [c] else l
def ChAt (H : dxH) (p : Nat) (l : List Nat) : Prop := l.length ≤ 26 ∧ H[p]? = some (.inr (1, [.ref (p + 1), .int (nI l.length)])) ∧ ∃ rw : Nat → Nat, H[p + 1]? = some (IA 26 rw) ∧ ∀ i, i < l.length → rw i = l.getD i 0
def chC (p : Nat) : Nat → Prop := fun j => j = p ∨ j = p + 1
theorem ChAt.off {H H' : dxH} {p : Nat} {l : List Nat} {A : Nat → Prop} (h : ChAt H p l) (hO : Off A H H') (h1 : ¬ A p) (h2 : ¬ A (p + 1)) : ChAt H' p l := by
  obtain ⟨a0, a1, rw, a2, a3⟩ := h
  exact ⟨a0, hO.at a1 h1, rw, hO.at a2 h2, a3⟩
theorem c9 {tb : dxT} {H : dxH} {p : Nat} {l : List Nat} (hY : ChAt H p l) : Cl tb 9 [.ref p] H (Rt (.int (nI l.length)) H) := by
  obtain ⟨y, y0, rw, y1, y2⟩ := id hY
  show Ev tb 9 0 [some (.ref p)] [] H _
  refine ev_aload_n i9_0 rfl ?_
  refine ev_get i9_1 ci9 fl1_15 (by assumption) rfl ?_
  refine ev_iret i9_4 (by decide +kernel) ?_
  exact ⟨rfl, rfl⟩
theorem c10 {tb : dxT} {H : dxH} {p i : Nat} {l : List Nat} (hY : ChAt H p l) (hi : i < l.length) : Cl tb 10 [.ref p, .int (nI i)] H (Rt (.int (nI (l.getD i 0))) H) := by
  obtain ⟨y, y0, rw, y1, y2⟩ := id hY
  show Ev tb 10 0 [some (.ref p), some (.int (nI i))] [] H _
  refine ev_iload_n i10_0 rfl ?_
  refine evn_if_lt (t := 27) i10_1 (by decide) (by omega) ?_
  refine ev_iload_n i10_4 rfl ?_
  refine ev_aload_n i10_5 rfl ?_
  refine ev_get i10_6 ci10 fl1_15 (by assumption) rfl ?_
  refine evn_icmp_ge (t := 27) i10_9 (by decide) (by omega) (fun z9 => by exfalso; omega) (fun z9 => ?_)
  refine ev_iload_n i10_12 rfl ?_
  refine ev_bipush (v := nI 26) i10_13 (by decide) ?_
  refine evn_icmp_ge (t := 27) i10_15 (by decide) (by omega) (fun z15 => by exfalso; omega) (fun z15 => ?_)
  refine ev_aload_n i10_18 rfl ?_
  refine ev_get i10_19 ci10 fl1_9 (by assumption) rfl ?_
  refine ev_iload_n i10_22 rfl ?_
  refine ev_iald_n i10_23 (by assumption) (by omega) ?_
  refine ev_goto (t := 28) i10_24 (by decide) ?_
  refine ev_iret i10_28 (by decide +kernel) ?_
  rw [y2 i hi]
  exact ⟨rfl, rfl⟩
theorem c8 {tb : dxT} {H : dxH} {p c : Nat} {l : List Nat} (hY : ChAt H p l) : Cl tb 8 [.ref p, .int (nI c)] H (fun r H' => r = none ∧ ChAt H' p (addC l c) ∧ Off (chC p) H H') := by
  obtain ⟨y, y0, rw, y1, y2⟩ := id hY
  have hO : Off (chC p) H H := Off.rf
  show Ev tb 8 0 [some (.ref p), some (.int (nI c))] [] H _
  refine ev_aload_n i8_0 rfl ?_
  refine ev_get i8_1 ci8 fl1_15 (by assumption) rfl ?_
  refine ev_bipush (v := nI 26) i8_4 (by decide) ?_
  refine evn_icmp_ge (t := 29) i8_6 (by decide) (by omega) (fun z6 => ?_) (fun z6 => ?_)
  · refine ev_vret i8_29 (by decide +kernel) ?_
    unfold addC
    rw [if_neg (by omega)]
    exact ⟨rfl, hY, hO⟩
  · refine ev_aload_n i8_9 rfl ?_
    refine ev_get i8_10 ci8 fl1_9 (by assumption) rfl ?_
    refine ev_aload_n i8_13 rfl ?_
    refine ev_get i8_14 ci8 fl1_15 (by assumption) rfl ?_
    refine ev_iload_n i8_17 rfl ?_
    refine evs_iastn i8_18 (by assumption) (by omega) (fun H1 hH1 => ?_)
    have y0 : H1[p]? = some (.inr (1, [.ref (p + 1), .int (nI l.length)])) := by rw [hH1]; exact set_ne y0 (by omega)
    have y1 : H1[p + 1]? = some (IA 26 (updN rw l.length c)) := by rw [hH1]; exact set_self y1
    have hO : Off (chC p) H H1 := by rw [hH1]; exact hO.set (by first | exact Or.inl rfl | exact Or.inr rfl)
    refine ev_aload_n i8_19 rfl ?_
    refine ev_dup i8_20 rfl ?_
    refine ev_get i8_21 ci8 fl1_15 (by assumption) rfl ?_
    refine ev_iconst (v := nI 1) i8_24 (by decide) ?_
    refine evn_iadd i8_25 ?_
    refine evs_put (fs' := [.ref (p + 1), .int (nI (l.length + 1))]) i8_26 ci8 fl1_15 (by assumption) ⟨Nat.le_of_ble_eq_true rfl, rfl, Or.inl rfl⟩ rfl (fun H2 hH2 => ?_)
    have y0 : H2[p]? = some (.inr (1, [.ref (p + 1), .int (nI (l.length + 1))])) := by rw [hH2]; exact set_self y0
    have y1 : H2[p + 1]? = some (IA 26 (updN rw l.length c)) := by rw [hH2]; exact set_ne y1 (by omega)
    have hO : Off (chC p) H H2 := by rw [hH2]; exact hO.set (by first | exact Or.inl rfl | exact Or.inr rfl)
    refine ev_vret i8_29 (by decide +kernel) ?_
    unfold addC
    rw [if_pos (by omega)]
    refine ⟨rfl, ⟨by rw [List.length_append]; show l.length + 1 ≤ 26; omega, by rw [List.length_append]; exact y0, _, y1, fun i hi => ?_⟩, hO⟩
    rw [List.length_append] at hi
    replace hi : i < l.length + 1 := hi
    unfold updN
    by_cases hil : i = l.length
    · rw [if_pos hil, hil]
      simp [List.getD]
    · rw [if_neg hil, y2 i (by omega)]
      simp only [List.getD]
      rw [List.getElem?_append_left (by omega)]
/-- a cow's moves, a side's choices -/
def grzB (he : Nat) (ce : Nat → Nat) (c : Nat) : Bool := anyB (fun i => he.testBit i && decide (ce i = c)) 6 0
def mvF (he : Nat) (ce : Nat → Nat) (k : Nat) (c : Nat) (l : List Nat) : List Nat := if grzB he ce c = true then l else addC l (10 * k + c + 1)
def chF (he : Nat) (sd ce : Nat → Nat) (s : Nat) (k : Nat) (l : List Nat) : List Nat := if (he.testBit k && decide (sd k = s)) = true then upto (mvF he ce k) 10 0 l else l
theorem lq7 {tb : dxT} {a p : Nat} {cl ce fu : Nat → Nat} {pa : Nat → Int32} {he : Nat} {sn : Bool} {ho wa : Int32} {k : Nat} (hb : he < 64) (ha : 6 ≤ a) (hce : ∀ j, ce j < 10) (hap : a + 4 < p) (hk : k < 6) : ∀ (d c : Nat) (H : dxH) (l : List Nat), c + d = 10 → MdwAt H a cl ce fu pa he sn ho wa → ChAt H p l → Ev tb 7 2 [some (.ref p), some (.int (nI k)), some (.ref a), some (.int (nI c))] [] H (fun r H' => r = none ∧ ChAt H' p (upto (mvF he ce k) d c l) ∧ Off (chC p) H H')
  | 0, c, H, l, hc, hM, hY => by
    obtain rfl : c = 10 := by omega
    refine ev_iload_n i7_2 rfl ?_
    refine ev_bipush (v := nI 10) i7_3 (by decide) ?_
    refine evn_icmp_ge (t := 34) i7_5 (by decide) (by omega) (fun z5 => ?_) (fun z5 => by exfalso; omega)
    refine ev_vret i7_34 (by decide +kernel) ?_
    exact ⟨rfl, hY, Off.rf⟩
  | d + 1, c, H, l, hc, hM, hY => by
    obtain ⟨m0, _⟩ := id hM
    obtain ⟨_, y0, _⟩ := id hY
    refine ev_iload_n i7_2 rfl ?_
    refine ev_bipush (v := nI 10) i7_3 (by decide) ?_
    refine evn_icmp_ge (t := 34) i7_5 (by decide) (by omega) (fun z5 => by exfalso; omega) (fun z5 => ?_)
    refine ev_aload_n i7_8 rfl ?_
    refine ev_iload_n i7_9 rfl ?_
    refine ev_callV (vs := [.int (nI c)]) (rest := []) i7_10 ci7 lk1_33 (congrArg (fun q => q + 1) np30) ci30 (by decide) (by decide +kernel) (Nat.le_of_ble_eq_true rfl) ⟨rfl, rfl, Nat.le_of_ble_eq_true rfl⟩ rfl (by assumption) (c30 (by assumption) hb ha hce (by omega)) (fun r HH hq => ?_)
    obtain ⟨rfl, rfl⟩ := hq
    show Ev tb 7 13 [some (.ref p), some (.int (nI k)), some (.ref a), some (.int (nI c))] [.int (bI (anyB (fun i => he.testBit i && decide (ce i = c)) 6 0))] H _
    refine evb_if_ne (t := 28) i7_13 (by decide) (fun z13 => ?_) (fun z13 => ?_)
    · refine evn_iinc (d := 1) (L' := [some (.ref p), some (.int (nI k)), some (.ref a), some (.int (nI (c + 1)))]) i7_28 rfl rfl (by decide) rfl ?_
      refine ev_goto (t := 2) i7_31 (by decide) ?_
      refine (lq7 hb ha hce hap hk d (c + 1) H l (by omega) hM hY).post (fun r H' hq => ?_)
      obtain ⟨h1, h2, h3⟩ := hq
      have e1 : mvF he ce k c l = l := by
        unfold mvF grzB
        exact if_pos z13
      refine ⟨h1, ?_, h3⟩
      show ChAt H' p (upto (mvF he ce k) d (c + 1) (mvF he ce k c l))
      rw [e1]
      exact h2
    · refine ev_aload_n i7_16 rfl ?_
      refine ev_bipush (v := nI 10) i7_17 (by decide) ?_
      refine ev_iload_n i7_19 rfl ?_
      refine evn_imul i7_20 ?_
      refine ev_iload_n i7_21 rfl ?_
      refine evn_iadd i7_22 ?_
      refine ev_iconst (v := nI 1) i7_23 (by decide) ?_
      refine evn_iadd i7_24 ?_
      refine ev_callV (vs := [.int (nI (((10 * k) + c) + 1))]) (rest := []) i7_25 ci7 lk1_19 (congrArg (fun q => q + 1) np8) ci8 (by decide) (by decide +kernel) (Nat.le_of_ble_eq_true rfl) ⟨rfl, rfl, Nat.le_of_ble_eq_true rfl⟩ rfl (by assumption) (c8 hY) (fun r H1 hq => ?_)
      obtain ⟨rfl, hY1, hO1⟩ := hq
      show Ev tb 7 28 [some (.ref p), some (.int (nI k)), some (.ref a), some (.int (nI c))] [] H1 _
      refine evn_iinc (d := 1) (L' := [some (.ref p), some (.int (nI k)), some (.ref a), some (.int (nI (c + 1)))]) i7_28 rfl rfl (by decide) rfl ?_
      refine ev_goto (t := 2) i7_31 (by decide) ?_
      refine (lq7 hb ha hce hap hk d (c + 1) H1 (addC l (10 * k + c + 1)) (by omega) (hM.off hO1 (fun j h1 h2 q => by unfold chC at q; omega)) hY1).post (fun r H' hq => ?_)
      obtain ⟨h1, h2, h3⟩ := hq
      have e1 : mvF he ce k c l = addC l (10 * k + c + 1) := by
        unfold mvF grzB
        exact if_neg (by simp [z13])
      refine ⟨h1, ?_, hO1.trans h3 (fun _ h => h) (fun _ h => h)⟩
      show ChAt H' p (upto (mvF he ce k) d (c + 1) (mvF he ce k c l))
      rw [e1]
      exact h2
theorem c7 {tb : dxT} {a p : Nat} {cl ce fu : Nat → Nat} {pa : Nat → Int32} {he : Nat} {sn : Bool} {ho wa : Int32} {k : Nat} {H : dxH} {l : List Nat} (hb : he < 64) (ha : 6 ≤ a) (hce : ∀ j, ce j < 10) (hap : a + 4 < p) (hk : k < 6) (hM : MdwAt H a cl ce fu pa he sn ho wa) (hY : ChAt H p l) : Cl tb 7 [.ref p, .int (nI k), .ref a] H (fun r H' => r = none ∧ ChAt H' p (upto (mvF he ce k) 10 0 l) ∧ Off (chC p) H H') := by
  show Ev tb 7 0 [some (.ref p), some (.int (nI k)), some (.ref a), none] [] H _
  refine ev_iconst (v := nI 0) i7_0 (by decide) ?_
  refine ev_istore_n (L' := [some (.ref p), some (.int (nI k)), some (.ref a), some (.int (nI 0))]) i7_1 ⟨Nat.le_of_ble_eq_true rfl, rfl⟩ rfl ?_
  exact lq7 hb ha hce hap hk 10 0 H l rfl hM hY
theorem lq6 {tb : dxT} {a p n : Nat} {sd kd cl ce fu : Nat → Nat} {pa : Nat → Int32} {he : Nat} {sn : Bool} {ho wa : Int32} {s : Nat} (hb : he < 64) (ha : 6 ≤ a) (hce : ∀ j, ce j < 10) (hsd : ∀ j, sd j < 2) (hs : s < 2) (hap : a + 4 < p) : ∀ (d k : Nat) (H : dxH) (l : List Nat), k + d = 6 → MdwAt H a cl ce fu pa he sn ho wa → HrdAt H n sd kd → ChAt H p l → Ev tb 6 12 [some (.ref p), some (.ref a), some (.int (nI s)), some (.int (nI k))] [] H (fun r H' => r = none ∧ ChAt H' p (upto (chF he sd ce s) d k l) ∧ Off (chC p) H H')
  | 0, k, H, l, hk, hM, hH, hY => by
    obtain rfl : k = 6 := by omega
    refine ev_iload_n i6_12 rfl ?_
    refine ev_bipush (v := nI 6) i6_13 (by decide) ?_
    refine evn_icmp_ge (t := 39) i6_15 (by decide) (by omega) (fun z15 => ?_) (fun z15 => by exfalso; omega)
    refine ev_vret i6_39 (by decide +kernel) ?_
    exact ⟨rfl, hY, Off.rf⟩
  | d + 1, k, H, l, hk, hM, hH, hY => by
    obtain ⟨m0, _⟩ := id hM
    obtain ⟨_, y0, _⟩ := id hY
    refine ev_iload_n i6_12 rfl ?_
    refine ev_bipush (v := nI 6) i6_13 (by decide) ?_
    refine evn_icmp_ge (t := 39) i6_15 (by decide) (by omega) (fun z15 => by exfalso; omega) (fun z15 => ?_)
    refine ev_aload_n i6_18 rfl ?_
    refine ev_iload_n i6_19 rfl ?_
    refine ev_iload_n i6_20 rfl ?_
    refine ev_callV (vs := [.int (nI k), .int (nI s)]) (rest := []) i6_21 ci6 lk1_23 (congrArg (fun q => q + 1) np24) ci24 (by decide) (by decide +kernel) (Nat.le_of_ble_eq_true rfl) ⟨rfl, rfl, Nat.le_of_ble_eq_true rfl⟩ rfl (by assumption) (c24 (by assumption) (by assumption) hb ha hsd (by omega) (by omega)) (fun r HH hq => ?_)
    obtain ⟨rfl, rfl⟩ := hq
    show Ev tb 6 24 [some (.ref p), some (.ref a), some (.int (nI s)), some (.int (nI k))] [.int (bI (he.testBit k && decide (sd k = s)))] H _
    refine evb_if_eq (t := 33) i6_24 (by decide) (fun z24 => ?_) (fun z24 => ?_)
    · refine evn_iinc (d := 1) (L' := [some (.ref p), some (.ref a), some (.int (nI s)), some (.int (nI (k + 1)))]) i6_33 rfl rfl (by decide) rfl ?_
      refine ev_goto (t := 12) i6_36 (by decide) ?_
      refine (lq6 hb ha hce hsd hs hap d (k + 1) H l (by omega) hM hH hY).post (fun r H' hq => ?_)
      obtain ⟨h1, h2, h3⟩ := hq
      have e1 : chF he sd ce s k l = l := by
        unfold chF
        exact if_neg (by simp [z24])
      refine ⟨h1, ?_, h3⟩
      show ChAt H' p (upto (chF he sd ce s) d (k + 1) (chF he sd ce s k l))
      rw [e1]
      exact h2
    · refine ev_aload_n i6_27 rfl ?_
      refine ev_iload_n i6_28 rfl ?_
      refine ev_aload_n i6_29 rfl ?_
      refine ev_callV (vs := [.int (nI k), .ref a]) (rest := []) i6_30 ci6 lk1_29 (congrArg (fun q => q + 1) np7) ci7 (by decide) (by decide +kernel) (Nat.le_of_ble_eq_true rfl) ⟨rfl, rfl, Nat.le_of_ble_eq_true rfl⟩ rfl (by assumption) (c7 hb ha hce hap (by omega) hM hY) (fun r H1 hq => ?_)
      obtain ⟨rfl, hY1, hO1⟩ := hq
      show Ev tb 6 33 [some (.ref p), some (.ref a), some (.int (nI s)), some (.int (nI k))] [] H1 _
      refine evn_iinc (d := 1) (L' := [some (.ref p), some (.ref a), some (.int (nI s)), some (.int (nI (k + 1)))]) i6_33 rfl rfl (by decide) rfl ?_
      refine ev_goto (t := 12) i6_36 (by decide) ?_
      refine (lq6 hb ha hce hsd hs hap d (k + 1) H1 (upto (mvF he ce k) 10 0 l) (by omega) (hM.off hO1 (fun j h1 h2 q => by unfold chC at q; omega)) (hH.off hO1 (by unfold chC; omega) (by unfold chC; omega) (by unfold chC; omega)) hY1).post (fun r H' hq => ?_)
      obtain ⟨h1, h2, h3⟩ := hq
      have e1 : chF he sd ce s k l = upto (mvF he ce k) 10 0 l := by
        unfold chF
        exact if_pos z24
      refine ⟨h1, ?_, hO1.trans h3 (fun _ h => h) (fun _ h => h)⟩
      show ChAt H' p (upto (chF he sd ce s) d (k + 1) (chF he sd ce s k l))
      rw [e1]
      exact h2
theorem c6 {tb : dxT} {a p n : Nat} {sd kd cl ce fu : Nat → Nat} {pa : Nat → Int32} {he : Nat} {sn : Bool} {ho wa : Int32} {s : Nat} {H : dxH} {l : List Nat} (hb : he < 64) (ha : 6 ≤ a) (hce : ∀ j, ce j < 10) (hsd : ∀ j, sd j < 2) (hs : s < 2) (hap : a + 4 < p) (hM : MdwAt H a cl ce fu pa he sn ho wa) (hH : HrdAt H n sd kd) (hY : ChAt H p l) : Cl tb 6 [.ref p, .ref a, .int (nI s)] H (fun r H' => r = none ∧ ChAt H' p (upto (chF he sd ce s) 6 0 [0]) ∧ Off (chC p) H H') := by
  obtain ⟨y, y0, rw, y1, y2⟩ := id hY
  obtain ⟨m0, _⟩ := id hM
  have hO : Off (chC p) H H := Off.rf
  show Ev tb 6 0 [some (.ref p), some (.ref a), some (.int (nI s)), none] [] H _
  refine ev_aload_n i6_0 rfl ?_
  refine ev_iconst (v := nI 0) i6_1 (by decide) ?_
  refine evs_put (fs' := [.ref (p + 1), .int (nI 0)]) i6_2 ci6 fl1_15 (by assumption) ⟨Nat.le_of_ble_eq_true rfl, rfl, Or.inl rfl⟩ rfl (fun H1 hH1 => ?_)
  have y0 : H1[p]? = some (.inr (1, [.ref (p + 1), .int (nI 0)])) := by rw [hH1]; exact set_self y0
  have y1 : H1[p + 1]? = some (IA 26 rw) := by rw [hH1]; exact set_ne y1 (by omega)
  have hO : Off (chC p) H H1 := by rw [hH1]; exact hO.set (by first | exact Or.inl rfl | exact Or.inr rfl)
  have hY0 : ChAt H1 p [] := ⟨by decide, y0, rw, y1, fun i hi => absurd hi (by simp)⟩
  refine ev_aload_n i6_5 rfl ?_
  refine ev_iconst (v := nI 0) i6_6 (by decide) ?_
  refine ev_callV (vs := [.int (nI 0)]) (rest := []) i6_7 ci6 lk1_19 (congrArg (fun q => q + 1) np8) ci8 (by decide) (by decide +kernel) (Nat.le_of_ble_eq_true rfl) ⟨rfl, rfl, Nat.le_of_ble_eq_true rfl⟩ rfl (by assumption) (c8 hY0) (fun r H2 hq => ?_)
  obtain ⟨rfl, hY1, hO2⟩ := hq
  show Ev tb 6 10 [some (.ref p), some (.ref a), some (.int (nI s)), none] [] H2 _
  refine ev_iconst (v := nI 0) i6_10 (by decide) ?_
  refine ev_istore_n (L' := [some (.ref p), some (.ref a), some (.int (nI s)), some (.int (nI 0))]) i6_11 ⟨Nat.le_of_ble_eq_true rfl, rfl⟩ rfl ?_
  have hO3 := hO.trans hO2 (C := chC p) (fun _ h => h) (fun _ h => h)
  refine (lq6 hb ha hce hsd hs hap 6 0 _ _ rfl (hM.off hO3 (fun j h1 h2 q => by unfold chC at q; omega)) (hH.off hO3 (by unfold chC; omega) (by unfold chC; omega) (by unfold chC; omega)) hY1).post (fun r H' hq => ?_)
  exact ⟨hq.1, hq.2.1, hO3.trans hq.2.2 (fun _ h => h) (fun _ h => h)⟩
def hdC : Nat → Prop := fun j => 3 ≤ j ∧ j ≤ 5
theorem c12 {tb : dxT} {H : dxH} {n : Nat} {sd kd : Nat → Nat} (hH : HrdAt H n sd kd) : Cl tb 12 [.ref 3] H (fun r H' => r = none ∧ HrdAt H' 0 sd kd ∧ Off hdC H H') := by
  obtain ⟨g0, g1, g2⟩ := id hH
  have hO : Off hdC H H := Off.rf
  show Ev tb 12 0 [some (.ref 3)] [] H _
  refine ev_aload_n i12_0 rfl ?_
  refine ev_iconst (v := nI 0) i12_1 (by decide) ?_
  refine evs_put (fs' := [.ref 4, .ref 5, .int (nI 0)]) i12_2 ci12 fl2_18 (by assumption) ⟨Nat.le_of_ble_eq_true rfl, rfl, Or.inl rfl⟩ rfl (fun H1 hH1 => ?_)
  have g0 : H1[3]? = some (.inr (2, [.ref 4, .ref 5, .int (nI 0)])) := by rw [hH1]; exact set_self g0
  have g1 : H1[4]? = some (IA 6 sd) := by rw [hH1]; exact set_ne g1 (by omega)
  have g2 : H1[5]? = some (IA 6 kd) := by rw [hH1]; exact set_ne g2 (by omega)
  have hO : Off hdC H H1 := by rw [hH1]; exact hO.set (by unfold hdC; decide)
  refine ev_vret i12_5 (by decide +kernel) ?_
  exact ⟨rfl, ⟨g0, g1, g2⟩, hO⟩
theorem c13 {tb : dxT} {H : dxH} {n s k : Nat} {sd kd : Nat → Nat} (hH : HrdAt H n sd kd) (hn : n < 6) : Cl tb 13 [.ref 3, .int (nI s), .int (nI k)] H (fun r H' => r = none ∧ HrdAt H' (n + 1) (updN sd n s) (updN kd n k) ∧ Off hdC H H') := by
  obtain ⟨g0, g1, g2⟩ := id hH
  have hO : Off hdC H H := Off.rf
  show Ev tb 13 0 [some (.ref 3), some (.int (nI s)), some (.int (nI k))] [] H _
  refine ev_aload_n i13_0 rfl ?_
  refine ev_get i13_1 ci13 fl2_18 (by assumption) rfl ?_
  refine ev_bipush (v := nI 6) i13_4 (by decide) ?_
  refine evn_icmp_ge (t := 39) i13_6 (by decide) (by omega) (fun z6 => by exfalso; omega) (fun z6 => ?_)
  refine ev_aload_n i13_9 rfl ?_
  refine ev_get i13_10 ci13 fl2_9 (by assumption) rfl ?_
  refine ev_aload_n i13_13 rfl ?_
  refine ev_get i13_14 ci13 fl2_18 (by assumption) rfl ?_
  refine ev_iload_n i13_17 rfl ?_
  refine evs_iastn i13_18 (by assumption) (by omega) (fun H1 hH1 => ?_)
  have g0 : H1[3]? = some (.inr (2, [.ref 4, .ref 5, .int (nI n)])) := by rw [hH1]; exact set_ne g0 (by omega)
  have g1 : H1[4]? = some (IA 6 (updN sd n s)) := by rw [hH1]; exact set_self g1
  have g2 : H1[5]? = some (IA 6 kd) := by rw [hH1]; exact set_ne g2 (by omega)
  have hO : Off hdC H H1 := by rw [hH1]; exact hO.set (by unfold hdC; decide)
  refine ev_aload_n i13_19 rfl ?_
  refine ev_get i13_20 ci13 fl2_15 (by assumption) rfl ?_
  refine ev_aload_n i13_23 rfl ?_
  refine ev_get i13_24 ci13 fl2_18 (by assumption) rfl ?_
  refine ev_iload_n i13_27 rfl ?_
  refine evs_iastn i13_28 (by assumption) (by omega) (fun H2 hH2 => ?_)
  have g0 : H2[3]? = some (.inr (2, [.ref 4, .ref 5, .int (nI n)])) := by rw [hH2]; exact set_ne g0 (by omega)
  have g1 : H2[4]? = some (IA 6 (updN sd n s)) := by rw [hH2]; exact set_ne g1 (by omega)
  have g2 : H2[5]? = some (IA 6 (updN kd n k)) := by rw [hH2]; exact set_self g2
  have hO : Off hdC H H2 := by rw [hH2]; exact hO.set (by unfold hdC; decide)
  refine ev_aload_n i13_29 rfl ?_
  refine ev_dup i13_30 rfl ?_
  refine ev_get i13_31 ci13 fl2_18 (by assumption) rfl ?_
  refine ev_iconst (v := nI 1) i13_34 (by decide) ?_
  refine evn_iadd i13_35 ?_
  refine evs_put (fs' := [.ref 4, .ref 5, .int (nI (n + 1))]) i13_36 ci13 fl2_18 (by assumption) ⟨Nat.le_of_ble_eq_true rfl, rfl, Or.inl rfl⟩ rfl (fun H3 hH3 => ?_)
  have g0 : H3[3]? = some (.inr (2, [.ref 4, .ref 5, .int (nI (n + 1))])) := by rw [hH3]; exact set_self g0
  have g1 : H3[4]? = some (IA 6 (updN sd n s)) := by rw [hH3]; exact set_ne g1 (by omega)
  have g2 : H3[5]? = some (IA 6 (updN kd n k)) := by rw [hH3]; exact set_ne g2 (by omega)
  have hO : Off hdC H H3 := by rw [hH3]; exact hO.set (by unfold hdC; decide)
  refine ev_vret i13_39 (by decide +kernel) ?_
  exact ⟨rfl, ⟨g0, g1, g2⟩, hO⟩
theorem clr_eq : ∀ (d j : Nat) (f : Nat → Nat), Vn (j + d) f → (∀ i, i < j → f i = 0) → upto (fun q g => updN g q 0) d j f = fun _ => 0
  | 0, j, f, h1, h2 => funext fun i => by
    rcases Nat.lt_or_ge i j with h | h
    · exact h2 i h
    · exact h1 i (by omega)
  | d + 1, j, f, h1, h2 => by
    unfold upto
    refine clr_eq d (j + 1) _ (fun i hi => ?_) (fun i hi => ?_)
    · unfold updN
      rw [if_neg (by omega)]
      exact h1 i (by omega)
    · unfold updN
      by_cases hij : i = j
      · rw [if_pos hij]
      · rw [if_neg hij]
        exact h2 i (by omega)
theorem clrI_eq : ∀ (d j : Nat) (f : Nat → Int32), Vi (j + d) f → (∀ i, i < j → f i = 0) → upto (fun q g => upd g q 0) d j f = fun _ => 0
  | 0, j, f, h1, h2 => funext fun i => by
    rcases Nat.lt_or_ge i j with h | h
    · exact h2 i h
    · exact h1 i (by omega)
  | d + 1, j, f, h1, h2 => by
    unfold upto
    refine clrI_eq d (j + 1) _ (fun i hi => ?_) (fun i hi => ?_)
    · unfold upd
      rw [if_neg (by omega)]
      exact h1 i (by omega)
    · unfold upd
      by_cases hij : i = j
      · rw [if_pos hij]
      · rw [if_neg hij]
        exact h2 i (by omega)
theorem lq19b {tb : dxT} {a : Nat} {ce fu : Nat → Nat} {he : Nat} {sn : Bool} {ho wa : Int32} (ha : 6 ≤ a) : ∀ (d j : Nat) (H : dxH) (pa : Nat → Int32) (cl : Nat → Nat), j + d = 2 → MdwAt H a cl ce fu pa he sn ho wa → Ev tb 19 23 [some (.ref a), some (.int (nI j))] [] H (fun r H' => r = none ∧ MdwAt H' a cl ce fu (upto (fun q g => upd g q 0) d j pa) 0 false 0 0 ∧ Off (mdC a) H H')
  | 0, j, H, pa, cl, hj, hM => by
    obtain rfl : j = 2 := by omega
    obtain ⟨m0, m1, m2, m3, m4⟩ := id hM
    have hO : Off (mdC a) H H := Off.rf
    refine ev_iload_n i19_23 rfl ?_
    refine ev_iconst (v := nI 2) i19_24 (by decide) ?_
    refine evn_icmp_ge (t := 41) i19_25 (by decide) (by omega) (fun z25 => ?_) (fun z25 => by exfalso; omega)
    refine ev_aload_n i19_41 rfl ?_
    refine ev_iconst (v := nI 0) i19_42 (by decide) ?_
    refine evs_put (fs' := [.ref 3, .ref (a + 1), .ref (a + 2), .ref (a + 3), .ref (a + 4), .int (nI 0), .int (bI sn), .int ho, .int wa]) i19_43 ci19 fl3_28 (by assumption) ⟨Nat.le_of_ble_eq_true rfl, rfl, Or.inl rfl⟩ rfl (fun H1 hH1 => ?_)
    have m0 : H1[a]? = some (.inr (3, [.ref 3, .ref (a + 1), .ref (a + 2), .ref (a + 3), .ref (a + 4), .int (nI 0), .int (bI sn), .int ho, .int wa])) := by rw [hH1]; exact set_self m0
    have m1 : H1[a + 1]? = some (IA 10 cl) := by rw [hH1]; exact set_ne m1 (by omega)
    have m2 : H1[a + 2]? = some (IA 6 ce) := by rw [hH1]; exact set_ne m2 (by omega)
    have m3 : H1[a + 3]? = some (IA 6 fu) := by rw [hH1]; exact set_ne m3 (by omega)
    have m4 : H1[a + 4]? = some (.inl (0, 2, .inl pa)) := by rw [hH1]; exact set_ne m4 (by omega)
    have hO : Off (mdC a) H H1 := by rw [hH1]; exact hO.set (by exact ⟨by omega, by omega⟩)
    refine ev_aload_n i19_46 rfl ?_
    refine ev_iconst (v := nI 0) i19_47 (by decide) ?_
    refine evs_put (fs' := [.ref 3, .ref (a + 1), .ref (a + 2), .ref (a + 3), .ref (a + 4), .int (nI 0), .int (nI 0), .int ho, .int wa]) i19_48 ci19 fl3_32 (by assumption) ⟨Nat.le_of_ble_eq_true rfl, rfl, Or.inl rfl⟩ rfl (fun H2 hH2 => ?_)
    have m0 : H2[a]? = some (.inr (3, [.ref 3, .ref (a + 1), .ref (a + 2), .ref (a + 3), .ref (a + 4), .int (nI 0), .int (nI 0), .int ho, .int wa])) := by rw [hH2]; exact set_self m0
    have m1 : H2[a + 1]? = some (IA 10 cl) := by rw [hH2]; exact set_ne m1 (by omega)
    have m2 : H2[a + 2]? = some (IA 6 ce) := by rw [hH2]; exact set_ne m2 (by omega)
    have m3 : H2[a + 3]? = some (IA 6 fu) := by rw [hH2]; exact set_ne m3 (by omega)
    have m4 : H2[a + 4]? = some (.inl (0, 2, .inl pa)) := by rw [hH2]; exact set_ne m4 (by omega)
    have hO : Off (mdC a) H H2 := by rw [hH2]; exact hO.set (by exact ⟨by omega, by omega⟩)
    refine ev_aload_n i19_51 rfl ?_
    refine ev_iconst (v := nI 0) i19_52 (by decide) ?_
    refine evs_put (fs' := [.ref 3, .ref (a + 1), .ref (a + 2), .ref (a + 3), .ref (a + 4), .int (nI 0), .int (nI 0), .int (nI 0), .int wa]) i19_53 ci19 fl3_36 (by assumption) ⟨Nat.le_of_ble_eq_true rfl, rfl, Or.inl rfl⟩ rfl (fun H3 hH3 => ?_)
    have m0 : H3[a]? = some (.inr (3, [.ref 3, .ref (a + 1), .ref (a + 2), .ref (a + 3), .ref (a + 4), .int (nI 0), .int (nI 0), .int (nI 0), .int wa])) := by rw [hH3]; exact set_self m0
    have m1 : H3[a + 1]? = some (IA 10 cl) := by rw [hH3]; exact set_ne m1 (by omega)
    have m2 : H3[a + 2]? = some (IA 6 ce) := by rw [hH3]; exact set_ne m2 (by omega)
    have m3 : H3[a + 3]? = some (IA 6 fu) := by rw [hH3]; exact set_ne m3 (by omega)
    have m4 : H3[a + 4]? = some (.inl (0, 2, .inl pa)) := by rw [hH3]; exact set_ne m4 (by omega)
    have hO : Off (mdC a) H H3 := by rw [hH3]; exact hO.set (by exact ⟨by omega, by omega⟩)
    refine ev_aload_n i19_56 rfl ?_
    refine ev_iconst (v := nI 0) i19_57 (by decide) ?_
    refine evs_put (fs' := [.ref 3, .ref (a + 1), .ref (a + 2), .ref (a + 3), .ref (a + 4), .int (nI 0), .int (nI 0), .int (nI 0), .int (nI 0)]) i19_58 ci19 fl3_39 (by assumption) ⟨Nat.le_of_ble_eq_true rfl, rfl, Or.inl rfl⟩ rfl (fun H4 hH4 => ?_)
    have m0 : H4[a]? = some (.inr (3, [.ref 3, .ref (a + 1), .ref (a + 2), .ref (a + 3), .ref (a + 4), .int (nI 0), .int (nI 0), .int (nI 0), .int (nI 0)])) := by rw [hH4]; exact set_self m0
    have m1 : H4[a + 1]? = some (IA 10 cl) := by rw [hH4]; exact set_ne m1 (by omega)
    have m2 : H4[a + 2]? = some (IA 6 ce) := by rw [hH4]; exact set_ne m2 (by omega)
    have m3 : H4[a + 3]? = some (IA 6 fu) := by rw [hH4]; exact set_ne m3 (by omega)
    have m4 : H4[a + 4]? = some (.inl (0, 2, .inl pa)) := by rw [hH4]; exact set_ne m4 (by omega)
    have hO : Off (mdC a) H H4 := by rw [hH4]; exact hO.set (by exact ⟨by omega, by omega⟩)
    refine ev_vret i19_61 (by decide +kernel) ?_
    rw [nI_0] at m0
    exact ⟨rfl, ⟨m0, m1, m2, m3, m4⟩, hO⟩
  | d + 1, j, H, pa, cl, hj, hM => by
    obtain ⟨m0, m1, m2, m3, m4⟩ := id hM
    have hO : Off (mdC a) H H := Off.rf
    refine ev_iload_n i19_23 rfl ?_
    refine ev_iconst (v := nI 2) i19_24 (by decide) ?_
    refine evn_icmp_ge (t := 41) i19_25 (by decide) (by omega) (fun z25 => by exfalso; omega) (fun z25 => ?_)
    refine ev_aload_n i19_28 rfl ?_
    refine ev_get i19_29 ci19 fl3_21 (by assumption) rfl ?_
    refine ev_iload_n i19_32 rfl ?_
    refine ev_iconst (v := nI 0) i19_33 (by decide) ?_
    refine evs_iastw i19_34 (by assumption) (by omega) (fun H1 hH1 => ?_)
    have m0 : H1[a]? = some (.inr (3, [.ref 3, .ref (a + 1), .ref (a + 2), .ref (a + 3), .ref (a + 4), .int (nI he), .int (bI sn), .int ho, .int wa])) := by rw [hH1]; exact set_ne m0 (by omega)
    have m1 : H1[a + 1]? = some (IA 10 cl) := by rw [hH1]; exact set_ne m1 (by omega)
    have m2 : H1[a + 2]? = some (IA 6 ce) := by rw [hH1]; exact set_ne m2 (by omega)
    have m3 : H1[a + 3]? = some (IA 6 fu) := by rw [hH1]; exact set_ne m3 (by omega)
    have m4 : H1[a + 4]? = some (.inl (0, 2, .inl (upd pa j (nI 0)))) := by rw [hH1]; exact set_self m4
    have hO : Off (mdC a) H H1 := by rw [hH1]; exact hO.set (by exact ⟨by omega, by omega⟩)
    refine evn_iinc (d := 1) (L' := [some (.ref a), some (.int (nI (j + 1)))]) i19_35 rfl rfl (by decide) rfl ?_
    refine ev_goto (t := 23) i19_38 (by decide) ?_
    rw [nI_0] at m4
    refine (lq19b ha d (j + 1) H1 (upd pa j 0) cl (by omega) ⟨m0, m1, m2, m3, m4⟩).post (fun r H' hq => ?_)
    exact ⟨hq.1, hq.2.1, hO.trans hq.2.2 (fun _ h => h) (fun _ h => h)⟩
theorem lq19a {tb : dxT} {a : Nat} {ce fu : Nat → Nat} {pa : Nat → Int32} {he : Nat} {sn : Bool} {ho wa : Int32} (ha : 6 ≤ a) : ∀ (d j : Nat) (H : dxH) (cl : Nat → Nat), j + d = 10 → MdwAt H a cl ce fu pa he sn ho wa → Ev tb 19 2 [some (.ref a), some (.int (nI j))] [] H (fun r H' => r = none ∧ MdwAt H' a (upto (fun q g => updN g q 0) d j cl) ce fu (upto (fun q g => upd g q 0) 2 0 pa) 0 false 0 0 ∧ Off (mdC a) H H')
  | 0, j, H, cl, hj, hM => by
    obtain rfl : j = 10 := by omega
    refine ev_iload_n i19_2 rfl ?_
    refine ev_bipush (v := nI 10) i19_3 (by decide) ?_
    refine evn_icmp_ge (t := 21) i19_5 (by decide) (by omega) (fun z5 => ?_) (fun z5 => by exfalso; omega)
    refine ev_iconst (v := nI 0) i19_21 (by decide) ?_
    refine ev_istore_n (L' := [some (.ref a), some (.int (nI 0))]) i19_22 ⟨Nat.le_of_ble_eq_true rfl, rfl⟩ rfl ?_
    exact lq19b ha 2 0 H pa cl rfl hM
  | d + 1, j, H, cl, hj, hM => by
    obtain ⟨m0, m1, m2, m3, m4⟩ := id hM
    have hO : Off (mdC a) H H := Off.rf
    refine ev_iload_n i19_2 rfl ?_
    refine ev_bipush (v := nI 10) i19_3 (by decide) ?_
    refine evn_icmp_ge (t := 21) i19_5 (by decide) (by omega) (fun z5 => by exfalso; omega) (fun z5 => ?_)
    refine ev_aload_n i19_8 rfl ?_
    refine ev_get i19_9 ci19 fl3_9 (by assumption) rfl ?_
    refine ev_iload_n i19_12 rfl ?_
    refine ev_iconst (v := nI 0) i19_13 (by decide) ?_
    refine evs_iastn i19_14 (by assumption) (by omega) (fun H1 hH1 => ?_)
    have m0 : H1[a]? = some (.inr (3, [.ref 3, .ref (a + 1), .ref (a + 2), .ref (a + 3), .ref (a + 4), .int (nI he), .int (bI sn), .int ho, .int wa])) := by rw [hH1]; exact set_ne m0 (by omega)
    have m1 : H1[a + 1]? = some (IA 10 (updN cl j 0)) := by rw [hH1]; exact set_self m1
    have m2 : H1[a + 2]? = some (IA 6 ce) := by rw [hH1]; exact set_ne m2 (by omega)
    have m3 : H1[a + 3]? = some (IA 6 fu) := by rw [hH1]; exact set_ne m3 (by omega)
    have m4 : H1[a + 4]? = some (.inl (0, 2, .inl pa)) := by rw [hH1]; exact set_ne m4 (by omega)
    have hO : Off (mdC a) H H1 := by rw [hH1]; exact hO.set (by exact ⟨by omega, by omega⟩)
    refine evn_iinc (d := 1) (L' := [some (.ref a), some (.int (nI (j + 1)))]) i19_15 rfl rfl (by decide) rfl ?_
    refine ev_goto (t := 2) i19_18 (by decide) ?_
    refine (lq19a ha d (j + 1) H1 (updN cl j 0) (by omega) ⟨m0, m1, m2, m3, m4⟩).post (fun r H' hq => ?_)
    exact ⟨hq.1, hq.2.1, hO.trans hq.2.2 (fun _ h => h) (fun _ h => h)⟩
theorem c19 {tb : dxT} {a : Nat} {cl ce fu : Nat → Nat} {pa : Nat → Int32} {he : Nat} {sn : Bool} {ho wa : Int32} {H : dxH} (ha : 6 ≤ a) (hM : MdwAt H a cl ce fu pa he sn ho wa) (h1 : Vn 10 cl) (h4 : Vi 2 pa) : Cl tb 19 [.ref a] H (fun r H' => r = none ∧ MdwAt H' a (fun _ => 0) ce fu (fun _ => 0) 0 false 0 0 ∧ Off (mdC a) H H') := by
  show Ev tb 19 0 [some (.ref a), none] [] H _
  refine ev_iconst (v := nI 0) i19_0 (by decide) ?_
  refine ev_istore_n (L' := [some (.ref a), some (.int (nI 0))]) i19_1 ⟨Nat.le_of_ble_eq_true rfl, rfl⟩ rfl ?_
  have k1 := lq19a (tb := tb) ha 10 0 H cl rfl hM
  rw [clr_eq 10 0 cl h1 (fun i hi => by omega), clrI_eq 2 0 pa h4 (fun i hi => by omega)] at k1
  exact k1
theorem bits6 : ∀ n, n < 6 → nI (2 ^ n - 1) ||| (nI 1 <<< (nI n &&& 31)) = nI (2 ^ (n + 1) - 1) := by decide +kernel
def adC : Nat → Prop := fun j => hdC j ∨ mdC 6 j
theorem c21 {tb : dxT} {H : dxH} {n s k c f : Nat} {sd kd cl ce fu : Nat → Nat} {pa : Nat → Int32} {sn : Bool} {ho wa : Int32} (hH : HrdAt H n sd kd) (hM : MdwAt H 6 cl ce fu pa (2 ^ n - 1) sn ho wa) (hn : n < 6) : Cl tb 21 [.ref 6, .int (nI c), .int (nI s), .int (nI f), .int (nI k)] H (fun r H' => r = none ∧ HrdAt H' (n + 1) (updN sd n s) (updN kd n k) ∧ MdwAt H' 6 cl (updN ce n c) (updN fu n f) pa (2 ^ (n + 1) - 1) sn ho wa ∧ Off adC H H') := by
  have hO : Off adC H H := Off.rf
  obtain ⟨m0, m1, m2, m3, m4⟩ := id hM
  obtain ⟨g0, g1, g2⟩ := id hH
  show Ev tb 21 0 [some (.ref 6), some (.int (nI c)), some (.int (nI s)), some (.int (nI f)), some (.int (nI k)), none] [] H _
  refine ev_aload_n i21_0 rfl ?_
  refine ev_get i21_1 ci21 fl3_24 (by assumption) rfl ?_
  refine ev_callV (vs := []) (rest := []) i21_4 ci21 lk3_48 (congrArg (fun q => q + 1) np14) ci14 (by decide) (by decide +kernel) (Nat.le_of_ble_eq_true rfl) ⟨rfl, rfl, Nat.le_of_ble_eq_true rfl⟩ rfl (by assumption) (c14 (by assumption)) (fun r HH hq => ?_)
  obtain ⟨rfl, rfl⟩ := hq
  show Ev tb 21 7 [some (.ref 6), some (.int (nI c)), some (.int (nI s)), some (.int (nI f)), some (.int (nI k)), none] [.int (nI n)] H _
  refine ev_istore (L' := [some (.ref 6), some (.int (nI c)), some (.int (nI s)), some (.int (nI f)), some (.int (nI k)), some (.int (nI n))]) i21_7 ⟨Nat.le_of_ble_eq_true rfl, rfl⟩ rfl ?_
  refine ev_aload_n i21_9 rfl ?_
  refine ev_get i21_10 ci21 fl3_24 (by assumption) rfl ?_
  refine ev_iload_n i21_13 rfl ?_
  refine ev_iload i21_14 rfl ?_
  refine ev_callV (vs := [.int (nI s), .int (nI k)]) (rest := []) i21_16 ci21 lk3_54 (congrArg (fun q => q + 1) np13) ci13 (by decide) (by decide +kernel) (Nat.le_of_ble_eq_true rfl) ⟨rfl, rfl, Nat.le_of_ble_eq_true rfl⟩ rfl (by assumption) (c13 hH hn) (fun r H1 hq => ?_)
  obtain ⟨rfl, hH, hO1⟩ := hq
  obtain ⟨g0, g1, g2⟩ := id hH
  have hM := hM.off hO1 (fun j u1 u2 q => by have u3 := q.2; omega)
  obtain ⟨m0, m1, m2, m3, m4⟩ := id hM
  have hO : Off adC H H1 := hO1.weaken (fun j q => Or.inl q)
  show Ev tb 21 19 [some (.ref 6), some (.int (nI c)), some (.int (nI s)), some (.int (nI f)), some (.int (nI k)), some (.int (nI n))] [] H1 _
  refine ev_aload_n i21_19 rfl ?_
  refine ev_get i21_20 ci21 fl3_24 (by assumption) rfl ?_
  refine ev_iload i21_23 rfl ?_
  refine ev_callV (vs := [.int (nI n)]) (rest := []) i21_25 ci21 lk3_58 (congrArg (fun q => q + 1) np15) ci15 (by decide) (by decide +kernel) (Nat.le_of_ble_eq_true rfl) ⟨rfl, rfl, Nat.le_of_ble_eq_true rfl⟩ rfl (by assumption) (c15 hH (by omega)) (fun r HH hq => ?_)
  obtain ⟨rfl, rfl⟩ := hq
  have hin : inR (nI n) (n + 1) = true := by rw [inR_n (by omega) (by omega)]; exact decide_eq_true (by omega)
  show Ev tb 21 28 [some (.ref 6), some (.int (nI c)), some (.int (nI s)), some (.int (nI f)), some (.int (nI k)), some (.int (nI n))] [.int (bI (inR (nI n) (n + 1)))] H1 _
  refine evb_if_eq (t := 60) i21_28 (by decide) (fun z28 => by exfalso; rw [hin] at z28; cases z28) (fun z28 => ?_)
  refine ev_aload_n i21_31 rfl ?_
  refine ev_dup i21_32 rfl ?_
  refine ev_get i21_33 ci21 fl3_28 (by assumption) rfl ?_
  refine ev_iconst (v := nI 1) i21_36 (by decide) ?_
  refine ev_iload i21_37 rfl ?_
  refine ev_ishl i21_39 ?_
  refine ev_ior i21_40 ?_
  refine evs_put (fs' := [.ref 3, .ref (6 + 1), .ref (6 + 2), .ref (6 + 3), .ref (6 + 4), .int ((nI (2 ^ n - 1)) ||| ((nI 1) <<< ((nI n) &&& 31))), .int (bI sn), .int ho, .int wa]) i21_41 ci21 fl3_28 (by assumption) ⟨Nat.le_of_ble_eq_true rfl, rfl, Or.inl rfl⟩ rfl (fun H2 hH2 => ?_)
  have m0 : H2[6]? = some (.inr (3, [.ref 3, .ref (6 + 1), .ref (6 + 2), .ref (6 + 3), .ref (6 + 4), .int ((nI (2 ^ n - 1)) ||| ((nI 1) <<< ((nI n) &&& 31))), .int (bI sn), .int ho, .int wa])) := by rw [hH2]; exact set_self m0
  have m1 : H2[6 + 1]? = some (IA 10 cl) := by rw [hH2]; exact set_ne m1 (by omega)
  have m2 : H2[6 + 2]? = some (IA 6 ce) := by rw [hH2]; exact set_ne m2 (by omega)
  have m3 : H2[6 + 3]? = some (IA 6 fu) := by rw [hH2]; exact set_ne m3 (by omega)
  have m4 : H2[6 + 4]? = some (.inl (0, 2, .inl pa)) := by rw [hH2]; exact set_ne m4 (by omega)
  have g0 : H2[3]? = some (.inr (2, [.ref 4, .ref 5, .int (nI (n + 1))])) := by rw [hH2]; exact set_ne g0 (by omega)
  have g1 : H2[4]? = some (IA 6 (updN sd n s)) := by rw [hH2]; exact set_ne g1 (by omega)
  have g2 : H2[5]? = some (IA 6 (updN kd n k)) := by rw [hH2]; exact set_ne g2 (by omega)
  have hO : Off adC H H2 := by rw [hH2]; exact hO.set (by first | exact Or.inr ⟨by decide, by decide⟩)
  refine ev_aload_n i21_44 rfl ?_
  refine ev_get i21_45 ci21 fl3_15 (by assumption) rfl ?_
  refine ev_iload i21_48 rfl ?_
  refine ev_iload_n i21_50 rfl ?_
  refine evs_iastn i21_51 (by assumption) (by omega) (fun H3 hH3 => ?_)
  have m0 : H3[6]? = some (.inr (3, [.ref 3, .ref (6 + 1), .ref (6 + 2), .ref (6 + 3), .ref (6 + 4), .int ((nI (2 ^ n - 1)) ||| ((nI 1) <<< ((nI n) &&& 31))), .int (bI sn), .int ho, .int wa])) := by rw [hH3]; exact set_ne m0 (by omega)
  have m1 : H3[6 + 1]? = some (IA 10 cl) := by rw [hH3]; exact set_ne m1 (by omega)
  have m2 : H3[6 + 2]? = some (IA 6 (updN ce n c)) := by rw [hH3]; exact set_self m2
  have m3 : H3[6 + 3]? = some (IA 6 fu) := by rw [hH3]; exact set_ne m3 (by omega)
  have m4 : H3[6 + 4]? = some (.inl (0, 2, .inl pa)) := by rw [hH3]; exact set_ne m4 (by omega)
  have g0 : H3[3]? = some (.inr (2, [.ref 4, .ref 5, .int (nI (n + 1))])) := by rw [hH3]; exact set_ne g0 (by omega)
  have g1 : H3[4]? = some (IA 6 (updN sd n s)) := by rw [hH3]; exact set_ne g1 (by omega)
  have g2 : H3[5]? = some (IA 6 (updN kd n k)) := by rw [hH3]; exact set_ne g2 (by omega)
  have hO : Off adC H H3 := by rw [hH3]; exact hO.set (by first | exact Or.inr ⟨by decide, by decide⟩)
  refine ev_aload_n i21_52 rfl ?_
  refine ev_get i21_53 ci21 fl3_18 (by assumption) rfl ?_
  refine ev_iload i21_56 rfl ?_
  refine ev_iload_n i21_58 rfl ?_
  refine evs_iastn i21_59 (by assumption) (by omega) (fun H4 hH4 => ?_)
  have m0 : H4[6]? = some (.inr (3, [.ref 3, .ref (6 + 1), .ref (6 + 2), .ref (6 + 3), .ref (6 + 4), .int ((nI (2 ^ n - 1)) ||| ((nI 1) <<< ((nI n) &&& 31))), .int (bI sn), .int ho, .int wa])) := by rw [hH4]; exact set_ne m0 (by omega)
  have m1 : H4[6 + 1]? = some (IA 10 cl) := by rw [hH4]; exact set_ne m1 (by omega)
  have m2 : H4[6 + 2]? = some (IA 6 (updN ce n c)) := by rw [hH4]; exact set_ne m2 (by omega)
  have m3 : H4[6 + 3]? = some (IA 6 (updN fu n f)) := by rw [hH4]; exact set_self m3
  have m4 : H4[6 + 4]? = some (.inl (0, 2, .inl pa)) := by rw [hH4]; exact set_ne m4 (by omega)
  have g0 : H4[3]? = some (.inr (2, [.ref 4, .ref 5, .int (nI (n + 1))])) := by rw [hH4]; exact set_ne g0 (by omega)
  have g1 : H4[4]? = some (IA 6 (updN sd n s)) := by rw [hH4]; exact set_ne g1 (by omega)
  have g2 : H4[5]? = some (IA 6 (updN kd n k)) := by rw [hH4]; exact set_ne g2 (by omega)
  have hO : Off adC H H4 := by rw [hH4]; exact hO.set (by first | exact Or.inr ⟨by decide, by decide⟩)
  refine ev_vret i21_60 (by decide +kernel) ?_
  rw [bits6 n hn] at m0
  exact ⟨rfl, ⟨g0, g1, g2⟩, ⟨m0, m1, m2, m3, m4⟩, hO⟩
end
section
/-! the class as a whole: what holds of its cells (0 to 110) -/
abbrev Sn : Type := (Nat → Nat) × Bool × Hs
def HE (n : Nat) : Nat := 2 ^ n - 1
def CC (H : dxH) (sed : Int64) : Prop := H[0]? = some (.inr (7, [.ref 1, .ref 3, .ref 6, .ref 11, .ref 16, .ref 89, .ref 101, .ref 102, .ref 106, .ref 108, .ref 110, .long sed]))
def MdX (H : dxH) (a n : Nat) (s : Sn) : Prop := MdS H a s.1 (HE n) s.2.1 s.2.2
def SnOK (n : Nat) (s : Sn) : Prop := (∀ j, s.1 j < 10) ∧ Vn 6 s.1 ∧ SOK s.2.2 ∧ ∀ i j, i < n → j < n → s.1 i = s.1 j → i = j
def ActM (H : dxH) (n am : Nat) (stk : Nat → Sn) : Prop := ∃ fi, fi < 14 ∧ ActAt H fi am ∧ (∀ i, i < 14 → ShpM H (19 + 5 * i)) ∧ ∀ i, i < am → MdX H (19 + 5 * ((fi + (am - 1 - i)) % 14)) n (stk i)
def KepM (H : dxH) (n : Nat) (kp : Nat → Bool) (ks : Nat → Sn) : Prop := ShfAt H 89 2 91 ∧ H[101]? = some (ZA 2 kp) ∧ (∀ i, i < 2 → ShpM H (91 + 5 * i)) ∧ ∀ i, i < 2 → kp i = true → MdX H (91 + 5 * i) n (ks i)
def TmpM (H : dxH) : Prop := ShpM H 11 ∧ (∃ l, ChAt H 106 l) ∧ (∃ l, ChAt H 108 l) ∧ ∃ f : Nat → Int32, H[110]? = some (.inl (0, 176, .inl f))
/-- what must hold of the numbers -/
def SpOK (tx : Nat → Nat) (ln n : Nat) (sd kd : Nat → Nat) (s : Sn) (am : Nat) (stk : Nat → Sn) (kp : Nat → Bool) (ks : Nat → Sn) (tm : Nat) (tc th : Nat → Nat) : Prop :=
  (ln ≤ 64 ∧ ∀ j, tx j < 256) ∧ n ≤ 6 ∧ (∀ j, sd j < 2) ∧ (∀ j, kd j < 4) ∧ SnOK n s ∧ (am ≤ 14 ∧ ∀ i, i < am → SnOK n (stk i)) ∧ (∀ i, i < 2 → kp i = true → SnOK n (ks i)) ∧ tm ≤ 6 ∧ (∀ j, tc j < 6) ∧ ∀ j, th j < 8
def CInv (H : dxH) (tx : Nat → Nat) (ln n : Nat) (sd kd : Nat → Nat) (s : Sn) (am : Nat) (stk : Nat → Sn) (kp : Nat → Bool) (ks : Nat → Sn) (tm : Nat) (tc th : Nat → Nat) (td : Nat → Bool) (sed : Int64) : Prop :=
  CC H sed ∧ TxtAt H tx ln ∧ HrdAt H n sd kd ∧ MdX H 6 n s ∧ ActM H n am stk ∧ KepM H n kp ks ∧ TelAt H tc th td tm ∧ TmpM H
theorem MdX.off {H H' : dxH} {a n : Nat} {s : Sn} {A : Nat → Prop} (h : MdX H a n s) (hO : Off A H H') (hA : ∀ j, a ≤ j → j ≤ a + 4 → ¬ A j) : MdX H' a n s := MdwAt.off h hO hA
theorem MdX.shp {H : dxH} {a n : Nat} {s : Sn} (h : MdX H a n s) (hs : SnOK n s) : ShpM H a := ⟨_, _, _, _, _, _, _, _, h, hs.2.2.1.2.2.1, hs.2.1, hs.2.2.1.2.2.2.1, hs.2.2.1.2.2.2.2⟩
theorem ActM.off {H H' : dxH} {n am : Nat} {stk : Nat → Sn} {A : Nat → Prop} (h : ActM H n am stk) (hO : Off A H H') (hA : ∀ j, 16 ≤ j → j ≤ 88 → ¬ A j) : ActM H' n am stk := by
  obtain ⟨fi, h1, h2, h3, h4⟩ := h
  refine ⟨fi, h1, h2.off hO (hA _ (by decide) (by decide)) (hA _ (by decide) (by decide)) (hA _ (by decide) (by decide)), fun i hi => (h3 i hi).off hO (fun j a b => hA j (by omega) (by omega)), fun i hi => (h4 i hi).off hO (fun j a b => hA j (by omega) (by omega))⟩
theorem KepM.off {H H' : dxH} {n : Nat} {kp : Nat → Bool} {ks : Nat → Sn} {A : Nat → Prop} (h : KepM H n kp ks) (hO : Off A H H') (hA : ∀ j, 89 ≤ j → j ≤ 101 → ¬ A j) : KepM H' n kp ks := by
  obtain ⟨h1, h2, h3, h4⟩ := h
  exact ⟨h1.off hO (hA _ (by decide) (by decide)) (hA _ (by decide) (by decide)), hO.at h2 (hA _ (by decide) (by decide)), fun i hi => (h3 i hi).off hO (fun j a b => hA j (by omega) (by omega)), fun i hi hk => (h4 i hi hk).off hO (fun j a b => hA j (by omega) (by omega))⟩
theorem TmpM.off {H H' : dxH} {A : Nat → Prop} (h : TmpM H) (hO : Off A H H') (h1 : ∀ j, 11 ≤ j → j ≤ 15 → ¬ A j) (h2 : ∀ j, 106 ≤ j → j ≤ 110 → ¬ A j) : TmpM H' := by
  obtain ⟨a1, ⟨l, a2⟩, ⟨l', a3⟩, f, a4⟩ := h
  exact ⟨a1.off hO h1, ⟨l, a2.off hO (h2 _ (by decide) (by decide)) (h2 _ (by decide) (by decide))⟩, ⟨l', a3.off hO (h2 _ (by decide) (by decide)) (h2 _ (by decide) (by decide))⟩, f, hO.at a4 (h2 _ (by decide) (by decide))⟩
theorem CC.off {H H' : dxH} {sed : Int64} {A : Nat → Prop} (h : CC H sed) (hO : Off A H H') (h0 : ¬ A 0) : CC H' sed := hO.at h h0
/-- the cells of hours tried out -/
def tmC : Nat → Prop := fun j => (11 ≤ j ∧ j ≤ 15) ∨ (106 ≤ j ∧ j ≤ 110)
/-- all of the class -/
def xC : Nat → Prop := fun j => j ≤ 110
theorem CInv.tmp {H H' : dxH} {tx : Nat → Nat} {ln n : Nat} {sd kd : Nat → Nat} {s : Sn} {am : Nat} {stk : Nat → Sn} {kp : Nat → Bool} {ks : Nat → Sn} {tm : Nat} {tc th : Nat → Nat} {td : Nat → Bool} {sed : Int64} (h : CInv H tx ln n sd kd s am stk kp ks tm tc th td sed) (hO : Off tmC H H') (hT : TmpM H') : CInv H' tx ln n sd kd s am stk kp ks tm tc th td sed := by
  obtain ⟨h1, h2, h3, h4, h5, h6, h7, h8⟩ := h
  have no : ∀ j, ¬ (11 ≤ j ∧ j ≤ 15) → ¬ (106 ≤ j ∧ j ≤ 110) → ¬ tmC j := fun j a b q => q.elim a b
  exact ⟨h1.off hO (no _ (by omega) (by omega)), h2.off hO (no _ (by omega) (by omega)) (no _ (by omega) (by omega)), h3.off hO (no _ (by omega) (by omega)) (no _ (by omega) (by omega)) (no _ (by omega) (by omega)), h4.off hO (fun j a b => no _ (by omega) (by omega)), h5.off hO (fun j a b => no _ (by omega) (by omega)), h6.off hO (fun j a b => no _ (by omega) (by omega)), h7.off hO (fun j a b => no _ (by omega) (by omega)), hT⟩
def ahdB (x : Int32) : Bool := decide (1 ≤ x ∧ x ≤ 8)
theorem ahd_of {x : Int32} (h : ahdB x = true) : ∃ m : Nat, 1 ≤ m ∧ m ≤ 8 ∧ x = nI m := by
  have h1 := of_decide_eq_true h
  obtain ⟨j, hj, rfl⟩ := nI_of (x := x) (fun q => absurd (Int32.le_trans h1.1 (Int32.le_of_lt q)) (by decide))
  have e1 : (1 : Int32) = nI 1 := by decide
  have e8 : (8 : Int32) = nI 8 := by decide
  rw [e1, e8, nI_leI (by decide) hj, nI_leI hj (by decide)] at h1
  exact ⟨j, h1.1, h1.2, rfl⟩
theorem ahd_n {m : Nat} (h1 : 1 ≤ m) (h2 : m ≤ 8) : ahdB (nI m) = true := by
  have e1 : (1 : Int32) = nI 1 := by decide
  have e8 : (8 : Int32) = nI 8 := by decide
  refine decide_eq_true ?_
  rw [e1, e8, nI_leI (by decide) (by omega), nI_leI (by omega) (by decide)]
  exact ⟨h1, h2⟩
theorem bI_tr : bI true = 1 := rfl
theorem c99t {tb : dxT} {H : dxH} {m : Nat} (h1 : 1 ≤ m) (h2 : m ≤ 8) : Cl tb 99 [.int (nI m)] H (Rt (.int (bI true)) H) := by
  show Ev tb 99 0 [some (.int (nI m))] [] H _
  refine ev_iload_n i99_0 rfl ?_
  refine ev_iconst (v := nI 1) i99_1 (by decide) ?_
  refine evn_icmp_lt (t := 15) i99_2 (by decide) (by omega) (fun z2 => ?_) (fun z2 => ?_)
  · refine ev_iconst (v := nI 0) i99_15 (by decide) ?_
    refine ev_zret i99_16 (by decide +kernel) (by decide) ?_
    exfalso; omega
  · refine ev_iload_n i99_5 rfl ?_
    refine ev_bipush (v := nI 8) i99_6 (by decide) ?_
    refine evn_icmp_gt (t := 15) i99_8 (by decide) (by omega) (fun z8 => ?_) (fun z8 => ?_)
    · refine ev_iconst (v := nI 0) i99_15 (by decide) ?_
      refine ev_zret i99_16 (by decide +kernel) (by decide) ?_
      exfalso; omega
    · refine ev_iconst (v := nI 1) i99_11 (by decide) ?_
      refine ev_goto (t := 16) i99_12 (by decide) ?_
      refine ev_zret i99_16 (by decide +kernel) (by decide) ?_
      exact ⟨zt rfl, rfl⟩
theorem c99f {tb : dxT} {H : dxH} {x : Int32} (h : ahdB x = false) : Cl tb 99 [.int x] H (Rt (.int (bI false)) H) := by
  have h1 := of_decide_eq_false h
  have e1 : (1 : Int32) = nI 1 := by decide
  have e8 : (8 : Int32) = nI 8 := by decide
  rw [e1, e8] at h1
  show Ev tb 99 0 [some (.int x)] [] H _
  refine ev_iload_n i99_0 rfl ?_
  refine ev_iconst (v := nI 1) i99_1 (by decide) ?_
  refine ev_icmp_lt (t := 15) i99_2 (by decide) (fun z2 => ?_) (fun z2 => ?_)
  · refine ev_iconst (v := nI 0) i99_15 (by decide) ?_
    refine ev_zret i99_16 (by decide +kernel) (by decide) ?_
    exact ⟨zf rfl, rfl⟩
  · refine ev_iload_n i99_5 rfl ?_
    refine ev_bipush (v := nI 8) i99_6 (by decide) ?_
    refine ev_icmp_gt (t := 15) i99_8 (by decide) (fun z8 => ?_) (fun z8 => ?_)
    · refine ev_iconst (v := nI 0) i99_15 (by decide) ?_
      refine ev_zret i99_16 (by decide +kernel) (by decide) ?_
      exact ⟨zf rfl, rfl⟩
    · refine ev_iconst (v := nI 1) i99_11 (by decide) ?_
      refine ev_goto (t := 16) i99_12 (by decide) ?_
      refine ev_zret i99_16 (by decide +kernel) (by decide) ?_
      exact absurd ⟨k2_le (by assumption), k2_le (by assumption)⟩ h1
theorem x67t {tb : dxT} {H : dxH} {tx : Nat → Nat} {ln n : Nat} {sd kd : Nat → Nat} {s : Sn} {am : Nat} {stk : Nat → Sn} {kp : Nat → Bool} {ks : Nat → Sn} {tm : Nat} {tc th : Nat → Nat} {td : Nat → Bool} {sed : Int64} {c : Nat} (hI : CInv H tx ln n sd kd s am stk kp ks tm tc th td sed) (hS : SpOK tx ln n sd kd s am stk kp ks tm tc th) (hc : c < 256) (h : ln < 64) : Cl tb 67 [.ref 0, .int (nI c)] H (fun r H' => r = some (.int (nI (ln + 1))) ∧ CInv H' (updN tx ln c) (ln + 1) n sd kd s am stk kp ks tm tc th td sed ∧ Off xC H H') := by
  obtain ⟨f0, fT, fH, fM, fA, fK, fL, fP⟩ := id hI
  obtain ⟨⟨b1, b2⟩, b3, b4, b5, b6, b7, b8, b9, b10, b11⟩ := id hS
  have g0 := f0
  unfold CC at g0
  obtain ⟨x0, x1⟩ := id fT
  show Ev tb 67 0 [some (.ref 0), some (.int (nI c))] [] H _
  refine ev_iload_n i67_0 rfl ?_
  refine evn_if_lt (t := 11) i67_1 (by decide) (by omega) ?_
  refine ev_iload_n i67_4 rfl ?_
  refine ev_sipush (v := nI 255) i67_5 (by decide) ?_
  refine evn_icmp_le (t := 14) i67_8 (by decide) (by omega) (fun z8 => ?_) (fun z8 => by exfalso; omega)
  refine ev_aload_n i67_14 rfl ?_
  refine ev_get i67_15 ci67 fl7_10 (by assumption) rfl ?_
  refine ev_iload_n i67_18 rfl ?_
  refine ev_callV (vs := [.int (nI c)]) (rest := []) i67_19 ci67 lk7_76 (congrArg (fun q => q + 1) np51) ci51 (by decide) (by decide +kernel) (Nat.le_of_ble_eq_true rfl) ⟨rfl, rfl, Nat.le_of_ble_eq_true rfl⟩ rfl (by assumption) (c51t fT b1 (by omega) (by omega)) (fun r H1 hq => ?_)
  obtain ⟨rfl, fT, hO1⟩ := hq
  have f0 := f0.off hO1 (by unfold txC; decide)
  show Ev tb 67 22 [some (.ref 0), some (.int (nI c))] [.int (bI true)] H1 _
  refine evb_if_eq (t := 35) i67_22 (by decide) (fun z22 => by exfalso; cases z22) (fun z22 => ?_)
  have g0 := f0
  unfold CC at g0
  obtain ⟨x0, x1⟩ := id fT
  refine ev_aload_n i67_25 rfl ?_
  refine ev_get i67_26 ci67 fl7_10 (by assumption) rfl ?_
  refine ev_callV (vs := []) (rest := []) i67_29 ci67 lk7_80 (congrArg (fun q => q + 1) np49) ci49 (by decide) (by decide +kernel) (Nat.le_of_ble_eq_true rfl) ⟨rfl, rfl, Nat.le_of_ble_eq_true rfl⟩ rfl (by assumption) (c49 fT (by omega)) (fun r HH hq => ?_)
  obtain ⟨rfl, rfl⟩ := hq
  show Ev tb 67 32 [some (.ref 0), some (.int (nI c))] [.int (nI (ln + 1))] H1 _
  refine ev_goto (t := 37) i67_32 (by decide) ?_
  refine ev_iret i67_37 (by decide +kernel) ?_
  exact ⟨rfl, ⟨f0, fT, fH.off hO1 (by unfold txC; omega) (by unfold txC; omega) (by unfold txC; omega), fM.off hO1 (fun j u1 u2 => by unfold txC; omega), fA.off hO1 (fun j u1 u2 => by unfold txC; omega), fK.off hO1 (fun j u1 u2 => by unfold txC; omega), fL.off hO1 (fun j u1 u2 => by unfold txC; omega), fP.off hO1 (fun j u1 u2 => by unfold txC; omega) (fun j u1 u2 => by unfold txC; omega)⟩, hO1.weaken (fun j q => by unfold txC at q; unfold xC; omega)⟩
theorem x67f {tb : dxT} {H : dxH} {tx : Nat → Nat} {ln n : Nat} {sd kd : Nat → Nat} {s : Sn} {am : Nat} {stk : Nat → Sn} {kp : Nat → Bool} {ks : Nat → Sn} {tm : Nat} {tc th : Nat → Nat} {td : Nat → Bool} {sed : Int64} {c : Nat} (hI : CInv H tx ln n sd kd s am stk kp ks tm tc th td sed) (hS : SpOK tx ln n sd kd s am stk kp ks tm tc th) (hc : c < 256) (h : ¬ ln < 64) : Cl tb 67 [.ref 0, .int (nI c)] H (fun r H' => r = some (.int (-4)) ∧ CInv H' tx ln n sd kd s am stk kp ks tm tc th td sed ∧ Off xC H H') := by
  obtain ⟨f0, fT, fH, fM, fA, fK, fL, fP⟩ := id hI
  obtain ⟨⟨b1, b2⟩, b3, b4, b5, b6, b7, b8, b9, b10, b11⟩ := id hS
  have g0 := f0
  unfold CC at g0
  obtain ⟨x0, x1⟩ := id fT
  show Ev tb 67 0 [some (.ref 0), some (.int (nI c))] [] H _
  refine ev_iload_n i67_0 rfl ?_
  refine evn_if_lt (t := 11) i67_1 (by decide) (by omega) ?_
  refine ev_iload_n i67_4 rfl ?_
  refine ev_sipush (v := nI 255) i67_5 (by decide) ?_
  refine evn_icmp_le (t := 14) i67_8 (by decide) (by omega) (fun z8 => ?_) (fun z8 => by exfalso; omega)
  refine ev_aload_n i67_14 rfl ?_
  refine ev_get i67_15 ci67 fl7_10 (by assumption) rfl ?_
  refine ev_iload_n i67_18 rfl ?_
  refine ev_callV (vs := [.int (nI c)]) (rest := []) i67_19 ci67 lk7_76 (congrArg (fun q => q + 1) np51) ci51 (by decide) (by decide +kernel) (Nat.le_of_ble_eq_true rfl) ⟨rfl, rfl, Nat.le_of_ble_eq_true rfl⟩ rfl (by assumption) (c51f fT b1 (by omega)) (fun r HH hq => ?_)
  obtain ⟨rfl, rfl⟩ := hq
  show Ev tb 67 22 [some (.ref 0), some (.int (nI c))] [.int (bI false)] H _
  refine evb_if_eq (t := 35) i67_22 (by decide) (fun z22 => ?_) (fun z22 => by exfalso; cases z22)
  refine ev_bipush (v := (-4)) i67_35 (by decide) ?_
  refine ev_iret i67_37 (by decide +kernel) ?_
  exact ⟨rfl, hI, Off.rf⟩
theorem x67o {tb : dxT} {H : dxH} {tx : Nat → Nat} {ln n : Nat} {sd kd : Nat → Nat} {s : Sn} {am : Nat} {stk : Nat → Sn} {kp : Nat → Bool} {ks : Nat → Sn} {tm : Nat} {tc th : Nat → Nat} {td : Nat → Bool} {sed : Int64} {c : Int32} (hI : CInv H tx ln n sd kd s am stk kp ks tm tc th td sed) (hS : SpOK tx ln n sd kd s am stk kp ks tm tc th) (h : inR c 256 = false) : Cl tb 67 [.ref 0, .int c] H (fun r H' => r = some (.int (-2)) ∧ CInv H' tx ln n sd kd s am stk kp ks tm tc th td sed ∧ Off xC H H') := by
  obtain ⟨f0, fT, fH, fM, fA, fK, fL, fP⟩ := id hI
  obtain ⟨⟨b1, b2⟩, b3, b4, b5, b6, b7, b8, b9, b10, b11⟩ := id hS
  have h1 := of_decide_eq_false h
  show Ev tb 67 0 [some (.ref 0), some (.int c)] [] H _
  refine ev_iload_n i67_0 rfl ?_
  refine ev_if_lt (t := 11) i67_1 (by decide) (fun z1 => ?_) (fun z1 => ?_)
  · refine ev_bipush (v := (-2)) i67_11 (by decide) ?_
    refine ev_iret i67_13 (by decide +kernel) ?_
    exact ⟨rfl, hI, Off.rf⟩
  · refine ev_iload_n i67_4 rfl ?_
    refine ev_sipush (v := nI 255) i67_5 (by decide) ?_
    refine ev_icmp_le (t := 14) i67_8 (by decide) (fun z8 => ?_) (fun z8 => ?_)
    · exfalso
      exact h1 ⟨z1, by have e5 : nI 255 < nI 256 := by decide
                       exact Int32.lt_of_le_of_lt z8 e5⟩
    · refine ev_bipush (v := (-2)) i67_11 (by decide) ?_
      refine ev_iret i67_13 (by decide +kernel) ?_
      exact ⟨rfl, hI, Off.rf⟩
theorem x68 {tb : dxT} {H : dxH} {tx : Nat → Nat} {ln n : Nat} {sd kd : Nat → Nat} {s : Sn} {am : Nat} {stk : Nat → Sn} {kp : Nat → Bool} {ks : Nat → Sn} {tm : Nat} {tc th : Nat → Nat} {td : Nat → Bool} {sed : Int64} (hI : CInv H tx ln n sd kd s am stk kp ks tm tc th td sed) (hS : SpOK tx ln n sd kd s am stk kp ks tm tc th) : Cl tb 68 [.ref 0] H (fun r H' => r = some (.int (nI ln)) ∧ CInv H' tx 0 n sd kd s am stk kp ks tm tc th td sed ∧ Off xC H H') := by
  obtain ⟨f0, fT, fH, fM, fA, fK, fL, fP⟩ := id hI
  obtain ⟨⟨b1, b2⟩, b3, b4, b5, b6, b7, b8, b9, b10, b11⟩ := id hS
  have g0 := f0
  unfold CC at g0
  obtain ⟨x0, x1⟩ := id fT
  show Ev tb 68 0 [some (.ref 0), none] [] H _
  refine ev_aload_n i68_0 rfl ?_
  refine ev_get i68_1 ci68 fl7_10 (by assumption) rfl ?_
  refine ev_callV (vs := []) (rest := []) i68_4 ci68 lk7_80 (congrArg (fun q => q + 1) np49) ci49 (by decide) (by decide +kernel) (Nat.le_of_ble_eq_true rfl) ⟨rfl, rfl, Nat.le_of_ble_eq_true rfl⟩ rfl (by assumption) (c49 (by assumption) (by omega)) (fun r HH hq => ?_)
  obtain ⟨rfl, rfl⟩ := hq
  show Ev tb 68 7 [some (.ref 0), none] [.int (nI ln)] H _
  refine ev_istore_n (L' := [some (.ref 0), some (.int (nI ln))]) i68_7 ⟨Nat.le_of_ble_eq_true rfl, rfl⟩ rfl ?_
  refine ev_aload_n i68_8 rfl ?_
  refine ev_get i68_9 ci68 fl7_10 (by assumption) rfl ?_
  refine ev_callV (vs := []) (rest := []) i68_12 ci68 lk7_84 (congrArg (fun q => q + 1) np50) ci50 (by decide) (by decide +kernel) (Nat.le_of_ble_eq_true rfl) ⟨rfl, rfl, Nat.le_of_ble_eq_true rfl⟩ rfl (by assumption) (c50 fT b1) (fun r H1 hq => ?_)
  obtain ⟨rfl, fT, hO1⟩ := hq
  show Ev tb 68 15 [some (.ref 0), some (.int (nI ln))] [] H1 _
  refine ev_iload_n i68_15 rfl ?_
  refine ev_iret i68_16 (by decide +kernel) ?_
  exact ⟨rfl, ⟨f0.off hO1 (by unfold txC; omega), fT, fH.off hO1 (by unfold txC; omega) (by unfold txC; omega) (by unfold txC; omega), fM.off hO1 (fun j u1 u2 => by unfold txC; omega), fA.off hO1 (fun j u1 u2 => by unfold txC; omega), fK.off hO1 (fun j u1 u2 => by unfold txC; omega), fL.off hO1 (fun j u1 u2 => by unfold txC; omega), fP.off hO1 (fun j u1 u2 => by unfold txC; omega) (fun j u1 u2 => by unfold txC; omega)⟩, hO1.weaken (fun j q => by unfold txC at q; unfold xC; omega)⟩
theorem HE_lt {n : Nat} (h : n ≤ 6) : HE n < 64 := by
  unfold HE
  have : 2 ^ n ≤ 2 ^ 6 := Nat.pow_le_pow_right (by decide) h
  omega
theorem HE_bit {n k : Nat} : (HE n).testBit k = decide (k < n) := Nat.testBit_two_pow_sub_one n k
theorem x71t {tb : dxT} {H : dxH} {tx : Nat → Nat} {ln n : Nat} {sd kd : Nat → Nat} {s : Sn} {am : Nat} {stk : Nat → Sn} {kp : Nat → Bool} {ks : Nat → Sn} {tm : Nat} {tc th : Nat → Nat} {td : Nat → Bool} {sed : Int64} {c : Nat} (hI : CInv H tx ln n sd kd s am stk kp ks tm tc th td sed) (hS : SpOK tx ln n sd kd s am stk kp ks tm tc th) (hc : c < 10) : Cl tb 71 [.ref 0, .int (nI c)] H (fun r H' => r = some (.int (nI (s.2.2.1 c))) ∧ CInv H' tx ln n sd kd s am stk kp ks tm tc th td sed ∧ Off xC H H') := by
  obtain ⟨f0, fT, fH, fM, fA, fK, fL, fP⟩ := id hI
  obtain ⟨⟨b1, b2⟩, b3, b4, b5, b6, b7, b8, b9, b10, b11⟩ := id hS
  obtain ⟨m0, m1, m2, m3, m4⟩ := id fM
  have g0 := f0
  unfold CC at g0
  have hb : HE n < 64 := HE_lt b3
  have ha : 6 ≤ 6 := Nat.le_refl 6
  show Ev tb 71 0 [some (.ref 0), some (.int (nI c))] [] H _
  refine ev_iload_n i71_0 rfl ?_
  refine ev_callS (vs := [.int (nI c)]) (rest := []) i71_1 ci71 lk7_98 (Or.inl rfl) np96 (by decide +kernel) (Nat.le_of_ble_eq_true rfl) ⟨rfl, rfl, Nat.le_of_ble_eq_true rfl⟩ rfl (c96n (by omega)) (fun r HH hq => ?_)
  obtain ⟨rfl, rfl⟩ := hq
  show Ev tb 71 4 [some (.ref 0), some (.int (nI c))] [.int (bI (decide (c < 10)))] H _
  refine evd_if_eq (t := 18) i71_4 (by decide) (fun z4 => by exfalso; omega) (fun z4 => ?_)
  refine ev_aload_n i71_7 rfl ?_
  refine ev_get i71_8 ci71 fl7_28 (by assumption) rfl ?_
  refine ev_iload_n i71_11 rfl ?_
  refine ev_callV (vs := [.int (nI c)]) (rest := []) i71_12 ci71 lk7_101 (congrArg (fun q => q + 1) np31) ci31 (by decide) (by decide +kernel) (Nat.le_of_ble_eq_true rfl) ⟨rfl, rfl, Nat.le_of_ble_eq_true rfl⟩ rfl (by assumption) (c31 fM hb ha (by omega)) (fun r HH hq => ?_)
  obtain ⟨rfl, rfl⟩ := hq
  show Ev tb 71 15 [some (.ref 0), some (.int (nI c))] [.int (nI (s.2.2.1 c))] H _
  refine ev_goto (t := 20) i71_15 (by decide) ?_
  refine ev_iret i71_20 (by decide +kernel) ?_
  exact ⟨rfl, hI, Off.rf⟩
theorem x71f {tb : dxT} {H : dxH} {tx : Nat → Nat} {ln n : Nat} {sd kd : Nat → Nat} {s : Sn} {am : Nat} {stk : Nat → Sn} {kp : Nat → Bool} {ks : Nat → Sn} {tm : Nat} {tc th : Nat → Nat} {td : Nat → Bool} {sed : Int64} {c : Int32} (hI : CInv H tx ln n sd kd s am stk kp ks tm tc th td sed) (hS : SpOK tx ln n sd kd s am stk kp ks tm tc th) (h : inR c 10 = false) : Cl tb 71 [.ref 0, .int c] H (fun r H' => r = some (.int (-2)) ∧ CInv H' tx ln n sd kd s am stk kp ks tm tc th td sed ∧ Off xC H H') := by
  obtain ⟨f0, fT, fH, fM, fA, fK, fL, fP⟩ := id hI
  obtain ⟨⟨b1, b2⟩, b3, b4, b5, b6, b7, b8, b9, b10, b11⟩ := id hS
  obtain ⟨m0, m1, m2, m3, m4⟩ := id fM
  have g0 := f0
  unfold CC at g0
  show Ev tb 71 0 [some (.ref 0), some (.int c)] [] H _
  refine ev_iload_n i71_0 rfl ?_
  refine ev_callS (vs := [.int c]) (rest := []) i71_1 ci71 lk7_98 (Or.inl rfl) np96 (by decide +kernel) (Nat.le_of_ble_eq_true rfl) ⟨rfl, rfl, Nat.le_of_ble_eq_true rfl⟩ rfl (c96) (fun r HH hq => ?_)
  obtain ⟨rfl, rfl⟩ := hq
  show Ev tb 71 4 [some (.ref 0), some (.int c)] [.int (bI (inR c 10))] H _
  refine evb_if_eq (t := 18) i71_4 (by decide) (fun z4 => ?_) (fun z4 => by exfalso; rw [h] at z4; cases z4)
  refine ev_bipush (v := (-2)) i71_18 (by decide) ?_
  refine ev_iret i71_20 (by decide +kernel) ?_
  exact ⟨rfl, hI, Off.rf⟩
end
section
theorem dxGo_holds : dxGo := by
  sorry
theorem whole_start {p : Program} {e : Env} {s : State} {m : MethodId} {below : List Frame} {meth : Method} {c : Code} (l : Launch) (hflags : l.flags = flags0) {b L : Nat} {xs : Nat → Int32} (hL : L ≤ 320) (C0 : lw_At p s m meth c b L xs) : W p l e room_1 s m #[Value.ref b] below meth c s.heap [] 0 0 (lw_Z below #[Value.ref b] s) (entryFrame m ([Value.ref b] : List Value).toArray 4) := dx_whole dxGo_holds l hL C0
-- ===== YOUR PART ENDS =====
set_option maxHeartbeats 4000000 in
theorem lw_walk (l : Launch) (hflags : l.flags = flags0) (b : Addr) (xs : List Int32) : MetFree l x (headSpec (Jvm.Cond.code x code maxLocals ret :: tables_1) room_1) (lw_P b xs) (fun _ _ _ _ _ => True) lw_Q := by
  refine MetFree.of_bodyS (code := code) (maxLocals := maxLocals) (ret := ret) (by decide) ?_ ?_
  · intro args s m h hn
    obtain ⟨meth, c, h1, h2, h3, h4, h5, h6, -, -⟩ := Cond.code_spec hn (atoms_spec (ws := Jvm.Cond.code x code maxLocals ret :: tables_1) h _ List.mem_cons_self)
    exact ⟨meth, c, h1, h2, h3, h4, h5, h6⟩
  · intro p e s m args below meth c s₁ B hml0 hP _
    obtain ⟨rfl, hx, hbd, hgv⟩ := hP
    obtain ⟨scr, harrAt, hlist, hof, hsmall⟩ := hx
    obtain ⟨hcb, hkn, -, -⟩ := State.arrayAt?_spec harrAt
    have hown : s.vm.findClass R_law = some m.cls := findClass_of_methodNamed B.named
    have hts0 : ∀ c ∈ (Jvm.Cond.code x code maxLocals ret :: tables_1), c.before #[Value.ref b] s = true := atoms_spec (ws := Jvm.Cond.code x code maxLocals ret :: tables_1) B.pre
    have hts : ∀ w ∈ lw_tbl, w.before #[Value.ref b] s = true := k2_hts_sels lw_privs (fun w hw => hts0 w (List.mem_cons_of_mem _ hw)) lw_privs_ok
    have hml : c.maxLocals = 4 := B.maxLocals_eq (hts0 _ List.mem_cons_self)
    have X₀ : Stand p l e room_1 s m #[Value.ref b] below meth c s₁ [] 0 0 := Stand.of_body B
    have hh0 : s₁.heap = s.heap := by rw [B.state]; rfl
    have hsz : scr.slots.size = xs.length := by rw [← Array.length_toList, hlist, List.length_map]
    have hval : ∀ j : Nat, j < xs.length → scr.slots[j]? = some (.int (xs.getD j 0)) := fun j hj => by
      rw [← Array.getElem?_toList, hlist]
      simp [hj]
    have hbl : b < s.heap.size := (Array.getElem?_eq_some_iff.mp hcb).1
    have hX : va_X b xs.length (fun j => xs.getD j 0) s s.heap := ⟨scr, hcb, hof, hkn, hsz, hval⟩
    have K : W p l e room_1 s m #[Value.ref b] below meth c s₁.heap [] 0 0 (lw_Z below #[Value.ref b] s) (entryFrame m ([Value.ref b] : List Value).toArray 4) := by
      rw [hh0]
      exact whole_start l hflags hbd ⟨B.exec, B.bytes, B.returns, hml, hown, hts, hX, hbl, B.notSynchronized, hgv⟩
    obtain ⟨t, a1, o, b1, b2, b3⟩ := K s₁ rfl X₀
    exact ⟨t, o, a1, b1, b2, b3⟩
theorem lw_pre_spec {args : Array Value} {s : State} (h : (Jvm.Cond.and given_1 narrow_1).before args s = true) (hr : rest_1_c.before args s = true) : ∃ (b : Addr) (xs : List Int32), lw_P b xs args s := by
  have hs := flat_of_before _ h
  have hq := flat_of_before _ hr
  have hc : (Cond.count 1).before args s = true := hs _ (by decide +kernel)
  have harr : (Cond.arrayOf (.arg 0) .int).before args s = true := hs _ (by decide +kernel)
  have hle : (Cond.le (.length (.arg 0)) (.int 320)).before args s = true := hs _ (by decide +kernel)
  have hlen : (Cond.isInt (.length (.arg 0))).before args s = true := hq _ (by decide +kernel)
  have hall : (Cond.all (.arg 0) (.isInt (.elem (.arg 0) (.index 0)))).before args s = true := hq _ (by decide +kernel)
  obtain ⟨b, xs, hb, hx⟩ := State.ints_of_pre rfl harr hlen hall
  have hsm : xs.length < 2 ^ 31 := hx.choose_spec.2.2.2
  have hev : (Term.length (.arg 0)).eval args s none [] s = some (.int xs.length.toInt32) := hx.length_eval hb
  have hv := Cond.le_ints hev (show (Term.int 320).eval args s none [] s = some (.int 320) from rfl)
  have hd : xs.length.toInt32 ≤ 320 := by
    simpa [Cond.before, Cond.holds, hv] using hle
  have hN : xs.length ≤ 320 := (Int32.ofNat_le_ofNat hsm (by decide)).mp (show Int32.ofNat xs.length ≤ Int32.ofNat 320 from hd)
  exact ⟨b, xs, Cond.one_arg hc (show args[0]? = some (.ref b) from hb), hx, hN, h⟩
theorem lw_comes (l : Launch) (hflags : l.flags = flags0) : Comes l x (Jvm.Cond.code x code maxLocals ret :: tables_1) room_1 (fun tb e args s => Calls_1 tb e args s ∧ rest_1 tb e args s ∧ Pre_1 tb e args s)
    (fun _ _ args s o t => lw_Q args s o t) := by
  intro p e ha hc hk s m args below hf hfit hheap happ hpre
  obtain ⟨b, xs, hP⟩ := lw_pre_spec hpre.2.2 hpre.2.1
  obtain ⟨k, o, h1, h2, h3, hQ⟩ := lw_walk l hflags b xs p e ha hc hk s m args below hf ((Spec.applies_iff_loose hf).mp happ).1 hP trivial
  exact ⟨k, o, h1, h2, h3, hQ⟩
theorem lw_frame {s t : State} {o : Outcome} {args : Array Value} (h : Framed s o t [] 600000 7302250) :
    Framed s o t (fieldLocs frame_1_writes args s ++ arrayLocs frame_1_arrays args s ++ staticLocs frame_1_statics s) 600000 7302250 := h
theorem lw_limb (L : Cond) (hL : ∀ (args : Array Value) (s t : State), L.after args s (.returned (some (.int 1))) t = true) :
    ArmFor flags0 classFile x code maxLocals ret World_1 tables_1 room_1 Calls_1 rest_1 Pre_1
      (fun tb e a s o t => postC L tb e a s o t ∧ Framed s o t (fieldLocs frame_1_writes a s ++ arrayLocs frame_1_arrays a s ++ staticLocs frame_1_statics s) 600000 7302250) := by
  intro l hflags _ _ p e ha hc hk s m args below hf hfit hheap happ hpre
  obtain ⟨k, o, h1, h2, h3, rfl, hF⟩ := lw_comes l hflags p e ha hc hk s m args below hf hfit hheap happ hpre
  exact ⟨k, _, h1, h2, h3, hL args s _, lw_frame hF⟩
theorem i_vc : Claimed_1_1 ∧ Claimed_1_2 := ⟨lw_limb limb_1_1 (fun args s t => by simp [limb_1_1, Cond.after, Cond.holds, Cond.value]), lw_limb limb_1_2 (fun args s t => Cond.after_iff.mpr (by
  first | (rw [show limb_1_2 = Cond.eq .result (.int 1) from rfl, Cond.eq_ints (x := 1) (y := 1) rfl rfl]; simp; done) | (simp [limb_1_2, Cond.value, Term.eval]; done)))⟩
end
