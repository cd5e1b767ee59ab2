section
-- ===== PART A: goes FIRST, ahead of the names: the tables' words, and 'selects' of the private methods out of them =====
/-- a private method of a class that the tables say can be made, by its rows of tables_1 -/
def lw_okq (q : MethodName × Nat) : Prop := (q.1.cls ≠ "java/lang/invoke/MethodHandle" ∧ q.1.cls ≠ "java/lang/invoke/VarHandle") ∧ Cond.instantiable q.1.cls q.2 ∈ tables_1 ∧ Cond.privateMethod q.1 ∈ tables_1 ∧ Cond.instanceMethod q.1 ∈ tables_1
theorem lw_p0 : lw_okq (⟨"MilkTruce$PassText", "letter", "(I)I"⟩, 2) := ⟨⟨by decide +kernel, by decide +kernel⟩, List.mem_of_getElem? (i := 22) (by decide +kernel), List.mem_of_getElem? (i := 218) (by decide +kernel), List.mem_of_getElem? (i := 219) (by decide +kernel)⟩
theorem lw_p1 : lw_okq (⟨"MilkTruce$PassText", "faultOfPart", "(I[I[II)I"⟩, 2) := ⟨⟨by decide +kernel, by decide +kernel⟩, List.mem_of_getElem? (i := 22) (by decide +kernel), List.mem_of_getElem? (i := 232) (by decide +kernel), List.mem_of_getElem? (i := 233) (by decide +kernel)⟩
theorem lw_p2 : lw_okq (⟨"MilkTruce$PassText", "figure", "(I)I"⟩, 2) := ⟨⟨by decide +kernel, by decide +kernel⟩, List.mem_of_getElem? (i := 22) (by decide +kernel), List.mem_of_getElem? (i := 236) (by decide +kernel), List.mem_of_getElem? (i := 237) (by decide +kernel)⟩
theorem lw_p3 : lw_okq (⟨"MilkTruce$Shelf", "at", "(I)LMilkTruce$Meadow;"⟩, 1) := ⟨⟨by decide +kernel, by decide +kernel⟩, List.mem_of_getElem? (i := 92) (by decide +kernel), List.mem_of_getElem? (i := 339) (by decide +kernel), List.mem_of_getElem? (i := 340) (by decide +kernel)⟩
theorem lw_p4 : lw_okq (⟨"MilkTruce$Meadow", "isWarning", "(I)Z"⟩, 9) := ⟨⟨by decide +kernel, by decide +kernel⟩, List.mem_of_getElem? (i := 52) (by decide +kernel), List.mem_of_getElem? (i := 359) (by decide +kernel), List.mem_of_getElem? (i := 360) (by decide +kernel)⟩
theorem lw_p5 : lw_okq (⟨"MilkTruce$Meadow", "milkDueCows", "()V"⟩, 9) := ⟨⟨by decide +kernel, by decide +kernel⟩, List.mem_of_getElem? (i := 52) (by decide +kernel), List.mem_of_getElem? (i := 363) (by decide +kernel), List.mem_of_getElem? (i := 364) (by decide +kernel)⟩
theorem lw_p6 : lw_okq (⟨"MilkTruce$Meadow", "letCowsEat", "()V"⟩, 9) := ⟨⟨by decide +kernel, by decide +kernel⟩, List.mem_of_getElem? (i := 52) (by decide +kernel), List.mem_of_getElem? (i := 371) (by decide +kernel), List.mem_of_getElem? (i := 372) (by decide +kernel)⟩
theorem lw_p7 : lw_okq (⟨"MilkTruce", "hoursOnAfter", "(III)I"⟩, 12) := ⟨⟨by decide +kernel, by decide +kernel⟩, List.mem_of_getElem? (i := 14) (by decide +kernel), List.mem_of_getElem? (i := 446) (by decide +kernel), List.mem_of_getElem? (i := 447) (by decide +kernel)⟩
theorem lw_p8 : lw_okq (⟨"MilkTruce", "choicesOf", "(I)LMilkTruce$Choices;"⟩, 12) := ⟨⟨by decide +kernel, by decide +kernel⟩, List.mem_of_getElem? (i := 14) (by decide +kernel), List.mem_of_getElem? (i := 487) (by decide +kernel), List.mem_of_getElem? (i := 488) (by decide +kernel)⟩
theorem lw_p9 : lw_okq (⟨"MilkTruce$Choices", "add", "(I)V"⟩, 2) := ⟨⟨by decide +kernel, by decide +kernel⟩, List.mem_of_getElem? (i := 140) (by decide +kernel), List.mem_of_getElem? (i := 495) (by decide +kernel), List.mem_of_getElem? (i := 496) (by decide +kernel)⟩
theorem lw_p10 : lw_okq (⟨"MilkTruce$Choices", "addMovesOf", "(ILMilkTruce$Meadow;)V"⟩, 2) := ⟨⟨by decide +kernel, by decide +kernel⟩, List.mem_of_getElem? (i := 140) (by decide +kernel), List.mem_of_getElem? (i := 503) (by decide +kernel), List.mem_of_getElem? (i := 504) (by decide +kernel)⟩
theorem lw_p11 : lw_okq (⟨"MilkTruce", "stopsAfterSowing", "(III)Z"⟩, 12) := ⟨⟨by decide +kernel, by decide +kernel⟩, List.mem_of_getElem? (i := 14) (by decide +kernel), List.mem_of_getElem? (i := 521) (by decide +kernel), List.mem_of_getElem? (i := 522) (by decide +kernel)⟩
theorem lw_p12 : lw_okq (⟨"MilkTruce", "stopsOf", "(II)I"⟩, 12) := ⟨⟨by decide +kernel, by decide +kernel⟩, List.mem_of_getElem? (i := 14) (by decide +kernel), List.mem_of_getElem? (i := 543) (by decide +kernel), List.mem_of_getElem? (i := 544) (by decide +kernel)⟩
theorem lw_p13 : lw_okq (⟨"MilkTruce", "isAllSoOfTrial", "()Z"⟩, 12) := ⟨⟨by decide +kernel, by decide +kernel⟩, List.mem_of_getElem? (i := 14) (by decide +kernel), List.mem_of_getElem? (i := 593) (by decide +kernel), List.mem_of_getElem? (i := 594) (by decide +kernel)⟩
theorem lw_p14 : lw_okq (⟨"MilkTruce", "isAtRest", "(IIII)Z"⟩, 12) := ⟨⟨by decide +kernel, by decide +kernel⟩, List.mem_of_getElem? (i := 14) (by decide +kernel), List.mem_of_getElem? (i := 607) (by decide +kernel), List.mem_of_getElem? (i := 608) (by decide +kernel)⟩
theorem lw_p15 : lw_okq (⟨"MilkTruce", "hoursOfPair", "(III)I"⟩, 12) := ⟨⟨by decide +kernel, by decide +kernel⟩, List.mem_of_getElem? (i := 14) (by decide +kernel), List.mem_of_getElem? (i := 611) (by decide +kernel), List.mem_of_getElem? (i := 612) (by decide +kernel)⟩
def lw_privs_1 : List (MethodName × Nat) := [(⟨"MilkTruce$PassText", "letter", "(I)I"⟩, 2), (⟨"MilkTruce$PassText", "faultOfPart", "(I[I[II)I"⟩, 2), (⟨"MilkTruce$PassText", "figure", "(I)I"⟩, 2), (⟨"MilkTruce$Shelf", "at", "(I)LMilkTruce$Meadow;"⟩, 1), (⟨"MilkTruce$Meadow", "isWarning", "(I)Z"⟩, 9), (⟨"MilkTruce$Meadow", "milkDueCows", "()V"⟩, 9), (⟨"MilkTruce$Meadow", "letCowsEat", "()V"⟩, 9), (⟨"MilkTruce", "hoursOnAfter", "(III)I"⟩, 12), (⟨"MilkTruce", "choicesOf", "(I)LMilkTruce$Choices;"⟩, 12), (⟨"MilkTruce$Choices", "add", "(I)V"⟩, 2), (⟨"MilkTruce$Choices", "addMovesOf", "(ILMilkTruce$Meadow;)V"⟩, 2), (⟨"MilkTruce", "stopsAfterSowing", "(III)Z"⟩, 12), (⟨"MilkTruce", "stopsOf", "(II)I"⟩, 12), (⟨"MilkTruce", "isAllSoOfTrial", "()Z"⟩, 12), (⟨"MilkTruce", "isAtRest", "(IIII)Z"⟩, 12), (⟨"MilkTruce", "hoursOfPair", "(III)I"⟩, 12)]
theorem lw_r1 : ∀ q ∈ lw_privs_1, lw_okq q := List.forall_mem_cons.mpr ⟨lw_p0, List.forall_mem_cons.mpr ⟨lw_p1, List.forall_mem_cons.mpr ⟨lw_p2, List.forall_mem_cons.mpr ⟨lw_p3, List.forall_mem_cons.mpr ⟨lw_p4, List.forall_mem_cons.mpr ⟨lw_p5, List.forall_mem_cons.mpr ⟨lw_p6, List.forall_mem_cons.mpr ⟨lw_p7, List.forall_mem_cons.mpr ⟨lw_p8, List.forall_mem_cons.mpr ⟨lw_p9, List.forall_mem_cons.mpr ⟨lw_p10, List.forall_mem_cons.mpr ⟨lw_p11, List.forall_mem_cons.mpr ⟨lw_p12, List.forall_mem_cons.mpr ⟨lw_p13, List.forall_mem_cons.mpr ⟨lw_p14, List.forall_mem_cons.mpr ⟨lw_p15, fun _ h => absurd h List.not_mem_nil⟩⟩⟩⟩⟩⟩⟩⟩⟩⟩⟩⟩⟩⟩⟩⟩
theorem lw_p16 : lw_okq (⟨"MilkTruce", "stopsLastBySnows", "(II)Z"⟩, 12) := ⟨⟨by decide +kernel, by decide +kernel⟩, List.mem_of_getElem? (i := 14) (by decide +kernel), List.mem_of_getElem? (i := 619) (by decide +kernel), List.mem_of_getElem? (i := 620) (by decide +kernel)⟩
theorem lw_p17 : lw_okq (⟨"MilkTruceModel", "readText", "()I"⟩, 26) := ⟨⟨by decide +kernel, by decide +kernel⟩, List.mem_of_getElem? (i := 659) (by decide +kernel), List.mem_of_getElem? (i := 760) (by decide +kernel), List.mem_of_getElem? (i := 761) (by decide +kernel)⟩
theorem lw_p18 : lw_okq (⟨"MilkTruceModel", "figureOf", "(I)I"⟩, 26) := ⟨⟨by decide +kernel, by decide +kernel⟩, List.mem_of_getElem? (i := 659) (by decide +kernel), List.mem_of_getElem? (i := 764) (by decide +kernel), List.mem_of_getElem? (i := 765) (by decide +kernel)⟩
theorem lw_p19 : lw_okq (⟨"MilkTruceModel", "figure", "(II)I"⟩, 26) := ⟨⟨by decide +kernel, by decide +kernel⟩, List.mem_of_getElem? (i := 659) (by decide +kernel), List.mem_of_getElem? (i := 772) (by decide +kernel), List.mem_of_getElem? (i := 773) (by decide +kernel)⟩
theorem lw_p20 : lw_okq (⟨"MilkTruceModel", "readCow", "()V"⟩, 26) := ⟨⟨by decide +kernel, by decide +kernel⟩, List.mem_of_getElem? (i := 659) (by decide +kernel), List.mem_of_getElem? (i := 776) (by decide +kernel), List.mem_of_getElem? (i := 777) (by decide +kernel)⟩
theorem lw_p21 : lw_okq (⟨"MilkTruceModel", "isCow", "(I)Z"⟩, 26) := ⟨⟨by decide +kernel, by decide +kernel⟩, List.mem_of_getElem? (i := 659) (by decide +kernel), List.mem_of_getElem? (i := 792) (by decide +kernel), List.mem_of_getElem? (i := 793) (by decide +kernel)⟩
theorem lw_p22 : lw_okq (⟨"MilkTruceModel", "isDue", "(II)Z"⟩, 26) := ⟨⟨by decide +kernel, by decide +kernel⟩, List.mem_of_getElem? (i := 659) (by decide +kernel), List.mem_of_getElem? (i := 796) (by decide +kernel), List.mem_of_getElem? (i := 797) (by decide +kernel)⟩
theorem lw_p23 : lw_okq (⟨"MilkTruceModel", "keepAct", "()V"⟩, 26) := ⟨⟨by decide +kernel, by decide +kernel⟩, List.mem_of_getElem? (i := 659) (by decide +kernel), List.mem_of_getElem? (i := 804) (by decide +kernel), List.mem_of_getElem? (i := 805) (by decide +kernel)⟩
theorem lw_p24 : lw_okq (⟨"MilkTruceModel", "passOn", "(IIZ)I"⟩, 26) := ⟨⟨by decide +kernel, by decide +kernel⟩, List.mem_of_getElem? (i := 659) (by decide +kernel), List.mem_of_getElem? (i := 808) (by decide +kernel), List.mem_of_getElem? (i := 809) (by decide +kernel)⟩
theorem lw_p25 : lw_okq (⟨"MilkTruceModel", "sortOf", "(IIZ)I"⟩, 26) := ⟨⟨by decide +kernel, by decide +kernel⟩, List.mem_of_getElem? (i := 659) (by decide +kernel), List.mem_of_getElem? (i := 812) (by decide +kernel), List.mem_of_getElem? (i := 813) (by decide +kernel)⟩
theorem lw_p26 : lw_okq (⟨"MilkTruceModel", "isSomeDue", "(II)Z"⟩, 26) := ⟨⟨by decide +kernel, by decide +kernel⟩, List.mem_of_getElem? (i := 659) (by decide +kernel), List.mem_of_getElem? (i := 816) (by decide +kernel), List.mem_of_getElem? (i := 817) (by decide +kernel)⟩
theorem lw_p27 : lw_okq (⟨"MilkTruceModel", "eat", "(II)V"⟩, 26) := ⟨⟨by decide +kernel, by decide +kernel⟩, List.mem_of_getElem? (i := 659) (by decide +kernel), List.mem_of_getElem? (i := 820) (by decide +kernel), List.mem_of_getElem? (i := 821) (by decide +kernel)⟩
theorem lw_p28 : lw_okq (⟨"MilkTruceModel", "isCowOn", "(I)Z"⟩, 26) := ⟨⟨by decide +kernel, by decide +kernel⟩, List.mem_of_getElem? (i := 659) (by decide +kernel), List.mem_of_getElem? (i := 828) (by decide +kernel), List.mem_of_getElem? (i := 829) (by decide +kernel)⟩
theorem lw_p29 : lw_okq (⟨"MilkTruceModel", "layTrial", "()V"⟩, 26) := ⟨⟨by decide +kernel, by decide +kernel⟩, List.mem_of_getElem? (i := 659) (by decide +kernel), List.mem_of_getElem? (i := 849) (by decide +kernel), List.mem_of_getElem? (i := 850) (by decide +kernel)⟩
theorem lw_p30 : lw_okq (⟨"MilkTruceModel", "manyOf", "(III)I"⟩, 26) := ⟨⟨by decide +kernel, by decide +kernel⟩, List.mem_of_getElem? (i := 659) (by decide +kernel), List.mem_of_getElem? (i := 857) (by decide +kernel), List.mem_of_getElem? (i := 858) (by decide +kernel)⟩
theorem lw_p31 : lw_okq (⟨"MilkTruceModel", "isChoice", "(II)Z"⟩, 26) := ⟨⟨by decide +kernel, by decide +kernel⟩, List.mem_of_getElem? (i := 659) (by decide +kernel), List.mem_of_getElem? (i := 870) (by decide +kernel), List.mem_of_getElem? (i := 871) (by decide +kernel)⟩
def lw_privs_2 : List (MethodName × Nat) := [(⟨"MilkTruce", "stopsLastBySnows", "(II)Z"⟩, 12), (⟨"MilkTruceModel", "readText", "()I"⟩, 26), (⟨"MilkTruceModel", "figureOf", "(I)I"⟩, 26), (⟨"MilkTruceModel", "figure", "(II)I"⟩, 26), (⟨"MilkTruceModel", "readCow", "()V"⟩, 26), (⟨"MilkTruceModel", "isCow", "(I)Z"⟩, 26), (⟨"MilkTruceModel", "isDue", "(II)Z"⟩, 26), (⟨"MilkTruceModel", "keepAct", "()V"⟩, 26), (⟨"MilkTruceModel", "passOn", "(IIZ)I"⟩, 26), (⟨"MilkTruceModel", "sortOf", "(IIZ)I"⟩, 26), (⟨"MilkTruceModel", "isSomeDue", "(II)Z"⟩, 26), (⟨"MilkTruceModel", "eat", "(II)V"⟩, 26), (⟨"MilkTruceModel", "isCowOn", "(I)Z"⟩, 26), (⟨"MilkTruceModel", "layTrial", "()V"⟩, 26), (⟨"MilkTruceModel", "manyOf", "(III)I"⟩, 26), (⟨"MilkTruceModel", "isChoice", "(II)Z"⟩, 26)]
theorem lw_r2 : ∀ q ∈ lw_privs_2, lw_okq q := List.forall_mem_cons.mpr ⟨lw_p16, List.forall_mem_cons.mpr ⟨lw_p17, List.forall_mem_cons.mpr ⟨lw_p18, List.forall_mem_cons.mpr ⟨lw_p19, List.forall_mem_cons.mpr ⟨lw_p20, List.forall_mem_cons.mpr ⟨lw_p21, List.forall_mem_cons.mpr ⟨lw_p22, List.forall_mem_cons.mpr ⟨lw_p23, List.forall_mem_cons.mpr ⟨lw_p24, List.forall_mem_cons.mpr ⟨lw_p25, List.forall_mem_cons.mpr ⟨lw_p26, List.forall_mem_cons.mpr ⟨lw_p27, List.forall_mem_cons.mpr ⟨lw_p28, List.forall_mem_cons.mpr ⟨lw_p29, List.forall_mem_cons.mpr ⟨lw_p30, List.forall_mem_cons.mpr ⟨lw_p31, fun _ h => absurd h List.not_mem_nil⟩⟩⟩⟩⟩⟩⟩⟩⟩⟩⟩⟩⟩⟩⟩⟩
theorem lw_p32 : lw_okq (⟨"MilkTruceModel", "moveTrial", "(I)V"⟩, 26) := ⟨⟨by decide +kernel, by decide +kernel⟩, List.mem_of_getElem? (i := 659) (by decide +kernel), List.mem_of_getElem? (i := 874) (by decide +kernel), List.mem_of_getElem? (i := 875) (by decide +kernel)⟩
theorem lw_p33 : lw_okq (⟨"MilkTruceModel", "stopsBy", "(III)Z"⟩, 26) := ⟨⟨by decide +kernel, by decide +kernel⟩, List.mem_of_getElem? (i := 659) (by decide +kernel), List.mem_of_getElem? (i := 882) (by decide +kernel), List.mem_of_getElem? (i := 883) (by decide +kernel)⟩
theorem lw_p34 : lw_okq (⟨"MilkTruceModel", "fits", "(II)Z"⟩, 26) := ⟨⟨by decide +kernel, by decide +kernel⟩, List.mem_of_getElem? (i := 659) (by decide +kernel), List.mem_of_getElem? (i := 923) (by decide +kernel), List.mem_of_getElem? (i := 924) (by decide +kernel)⟩
theorem lw_p35 : lw_okq (⟨"MilkTruceModel", "layOns", "(I)V"⟩, 26) := ⟨⟨by decide +kernel, by decide +kernel⟩, List.mem_of_getElem? (i := 659) (by decide +kernel), List.mem_of_getElem? (i := 931) (by decide +kernel), List.mem_of_getElem? (i := 932) (by decide +kernel)⟩
theorem lw_p36 : lw_okq (⟨"MilkTruceModel", "isRest", "(II)Z"⟩, 26) := ⟨⟨by decide +kernel, by decide +kernel⟩, List.mem_of_getElem? (i := 659) (by decide +kernel), List.mem_of_getElem? (i := 935) (by decide +kernel), List.mem_of_getElem? (i := 936) (by decide +kernel)⟩
def lw_privs_3 : List (MethodName × Nat) := [(⟨"MilkTruceModel", "moveTrial", "(I)V"⟩, 26), (⟨"MilkTruceModel", "stopsBy", "(III)Z"⟩, 26), (⟨"MilkTruceModel", "fits", "(II)Z"⟩, 26), (⟨"MilkTruceModel", "layOns", "(I)V"⟩, 26), (⟨"MilkTruceModel", "isRest", "(II)Z"⟩, 26)]
theorem lw_r3 : ∀ q ∈ lw_privs_3, lw_okq q := List.forall_mem_cons.mpr ⟨lw_p32, List.forall_mem_cons.mpr ⟨lw_p33, List.forall_mem_cons.mpr ⟨lw_p34, List.forall_mem_cons.mpr ⟨lw_p35, List.forall_mem_cons.mpr ⟨lw_p36, fun _ h => absurd h List.not_mem_nil⟩⟩⟩⟩⟩
def lw_privs : List (MethodName × Nat) := lw_privs_1 ++ (lw_privs_2 ++ (lw_privs_3))
def lw_tbl : List Cond := k2_sels lw_privs ++ tables_1
theorem lw_privs_ok : ∀ q ∈ lw_privs, lw_okq q := by
  show ∀ q ∈ lw_privs_1 ++ (lw_privs_2 ++ (lw_privs_3)), lw_okq q
  exact List.forall_mem_append.mpr ⟨lw_r1, List.forall_mem_append.mpr ⟨lw_r2, lw_r3⟩⟩

def RX0 : String := "MilkTruce$ActRow"
def TX0 : u_T := fun k => match k with
  | 0 => ("MilkTruce$ActRow", "before", "LMilkTruce$Shelf;", true)
  | 1 => ("MilkTruce$ActRow", "first", "I", false)
  | _ => ("MilkTruce$ActRow", "many", "I", false)
def tyX0 : Nat → FieldType := fun k => match k with
  | 0 => .object "MilkTruce$Shelf"
  | 1 => .int
  | _ => .int
abbrev wsX00 : List Cond := u_ws RX0 TX0 3
theorem nmX0 : ∀ a, a < 3 → ∀ b, b < 3 → a ≠ b → (TX0 a).2.1 ≠ (TX0 b).2.1 := by decide +kernel
theorem tyX0_ok : ∀ k, k < 3 → parseFieldDescriptor (TX0 k).2.2.1 = some (tyX0 k) := by decide +kernel
abbrev cX0_init : ByteArray := prog_2_method_1_code
def yX0_init : MethodName := ⟨RX0, "<init>", "(LMilkTruce$Herd;)V"⟩
abbrev cX0_clear : ByteArray := prog_2_method_2_code
def yX0_clear : MethodName := ⟨RX0, "clear", "()V"⟩
abbrev cX0_size : ByteArray := prog_2_method_3_code
def yX0_size : MethodName := ⟨RX0, "size", "()I"⟩
abbrev cX0_remember : ByteArray := prog_2_method_4_code
def yX0_remember : MethodName := ⟨RX0, "remember", "(LMilkTruce$Meadow;)V"⟩
abbrev cX0_takeBack : ByteArray := prog_2_method_5_code
def yX0_takeBack : MethodName := ⟨RX0, "takeBack", "(LMilkTruce$Meadow;)V"⟩
def RX1 : String := "MilkTruce$Choices"
def TX1 : u_T := fun k => match k with
  | 0 => ("MilkTruce$Choices", "row", "[I", true)
  | _ => ("MilkTruce$Choices", "many", "I", false)
def tyX1 : Nat → FieldType := fun k => match k with
  | 0 => .array .int
  | _ => .int
abbrev wsX10 : List Cond := u_ws RX1 TX1 2
theorem nmX1 : ∀ a, a < 2 → ∀ b, b < 2 → a ≠ b → (TX1 a).2.1 ≠ (TX1 b).2.1 := by decide +kernel
theorem tyX1_ok : ∀ k, k < 2 → parseFieldDescriptor (TX1 k).2.2.1 = some (tyX1 k) := by decide +kernel
abbrev cX1_init : ByteArray := prog_3_method_1_code
def yX1_init : MethodName := ⟨RX1, "<init>", "()V"⟩
abbrev cX1_lookAt : ByteArray := prog_3_method_2_code
def yX1_lookAt : MethodName := ⟨RX1, "lookAt", "(LMilkTruce$Meadow;I)V"⟩
abbrev cX1_addMovesOf : ByteArray := prog_3_method_3_code
def yX1_addMovesOf : MethodName := ⟨RX1, "addMovesOf", "(ILMilkTruce$Meadow;)V"⟩
abbrev cX1_add : ByteArray := prog_3_method_4_code
def yX1_add : MethodName := ⟨RX1, "add", "(I)V"⟩
abbrev cX1_size : ByteArray := prog_3_method_5_code
def yX1_size : MethodName := ⟨RX1, "size", "()I"⟩
abbrev cX1_at : ByteArray := prog_3_method_6_code
def yX1_at : MethodName := ⟨RX1, "at", "(I)I"⟩
def RX2 : String := "MilkTruce$Herd"
def TX2 : u_T := fun k => match k with
  | 0 => ("MilkTruce$Herd", "sides", "[I", true)
  | 1 => ("MilkTruce$Herd", "kinds", "[I", true)
  | _ => ("MilkTruce$Herd", "cows", "I", false)
def tyX2 : Nat → FieldType := fun k => match k with
  | 0 => .array .int
  | 1 => .array .int
  | _ => .int
abbrev wsX20 : List Cond := u_ws RX2 TX2 3
theorem nmX2 : ∀ a, a < 3 → ∀ b, b < 3 → a ≠ b → (TX2 a).2.1 ≠ (TX2 b).2.1 := by decide +kernel
theorem tyX2_ok : ∀ k, k < 3 → parseFieldDescriptor (TX2 k).2.2.1 = some (tyX2 k) := by decide +kernel
abbrev cX2_init : ByteArray := prog_4_method_1_code
def yX2_init : MethodName := ⟨RX2, "<init>", "()V"⟩
abbrev cX2_clear : ByteArray := prog_4_method_2_code
def yX2_clear : MethodName := ⟨RX2, "clear", "()V"⟩
abbrev cX2_add : ByteArray := prog_4_method_3_code
def yX2_add : MethodName := ⟨RX2, "add", "(II)V"⟩
abbrev cX2_size : ByteArray := prog_4_method_4_code
def yX2_size : MethodName := ⟨RX2, "size", "()I"⟩
abbrev cX2_has : ByteArray := prog_4_method_5_code
def yX2_has : MethodName := ⟨RX2, "has", "(I)Z"⟩
abbrev cX2_sideOf : ByteArray := prog_4_method_6_code
def yX2_sideOf : MethodName := ⟨RX2, "sideOf", "(I)I"⟩
abbrev cX2_kindOf : ByteArray := prog_4_method_7_code
def yX2_kindOf : MethodName := ⟨RX2, "kindOf", "(I)I"⟩
def RX3 : String := "MilkTruce$Meadow"
def TX3 : u_T := fun k => match k with
  | 0 => ("MilkTruce$Meadow", "herd", "LMilkTruce$Herd;", true)
  | 1 => ("MilkTruce$Meadow", "clover", "[I", true)
  | 2 => ("MilkTruce$Meadow", "cells", "[I", true)
  | 3 => ("MilkTruce$Meadow", "fullnesses", "[I", true)
  | 4 => ("MilkTruce$Meadow", "pails", "[I", true)
  | 5 => ("MilkTruce$Meadow", "here", "I", false)
  | 6 => ("MilkTruce$Meadow", "snowing", "Z", false)
  | 7 => ("MilkTruce$Meadow", "hours", "I", false)
  | _ => ("MilkTruce$Meadow", "warHours", "I", false)
def tyX3 : Nat → FieldType := fun k => match k with
  | 0 => .object "MilkTruce$Herd"
  | 1 => .array .int
  | 2 => .array .int
  | 3 => .array .int
  | 4 => .array .int
  | 5 => .int
  | 6 => .boolean
  | 7 => .int
  | _ => .int
abbrev wsX30 : List Cond := u_ws RX3 TX3 9
theorem nmX3 : ∀ a, a < 9 → ∀ b, b < 9 → a ≠ b → (TX3 a).2.1 ≠ (TX3 b).2.1 := by decide +kernel
theorem tyX3_ok : ∀ k, k < 9 → parseFieldDescriptor (TX3 k).2.2.1 = some (tyX3 k) := by decide +kernel
abbrev cX3_init : ByteArray := prog_5_method_1_code
def yX3_init : MethodName := ⟨RX3, "<init>", "(LMilkTruce$Herd;)V"⟩
abbrev cX3_clear : ByteArray := prog_5_method_2_code
def yX3_clear : MethodName := ⟨RX3, "clear", "()V"⟩
abbrev cX3_become : ByteArray := prog_5_method_3_code
def yX3_become : MethodName := ⟨RX3, "become", "(LMilkTruce$Meadow;)V"⟩
abbrev cX3_addCow : ByteArray := prog_5_method_4_code
def yX3_addCow : MethodName := ⟨RX3, "addCow", "(IIII)V"⟩
abbrev cX3_sendAwayAllBut : ByteArray := prog_5_method_5_code
def yX3_sendAwayAllBut : MethodName := ⟨RX3, "sendAwayAllBut", "(I)V"⟩
abbrev cX3_isHere : ByteArray := prog_5_method_6_code
def yX3_isHere : MethodName := ⟨RX3, "isHere", "(I)Z"⟩
abbrev cX3_isOfSide : ByteArray := prog_5_method_7_code
def yX3_isOfSide : MethodName := ⟨RX3, "isOfSide", "(II)Z"⟩
abbrev cX3_cellOf : ByteArray := prog_5_method_8_code
def yX3_cellOf : MethodName := ⟨RX3, "cellOf", "(I)I"⟩
abbrev cX3_fullnessOf : ByteArray := prog_5_method_9_code
def yX3_fullnessOf : MethodName := ⟨RX3, "fullnessOf", "(I)I"⟩
abbrev cX3_putCow : ByteArray := prog_5_method_10_code
def yX3_putCow : MethodName := ⟨RX3, "putCow", "(II)V"⟩
abbrev cX3_fillCow : ByteArray := prog_5_method_11_code
def yX3_fillCow : MethodName := ⟨RX3, "fillCow", "(II)V"⟩
abbrev cX3_moveBy : ByteArray := prog_5_method_12_code
def yX3_moveBy : MethodName := ⟨RX3, "moveBy", "(I)V"⟩
abbrev cX3_isGrazed : ByteArray := prog_5_method_13_code
def yX3_isGrazed : MethodName := ⟨RX3, "isGrazed", "(I)Z"⟩
abbrev cX3_cloverOn : ByteArray := prog_5_method_14_code
def yX3_cloverOn : MethodName := ⟨RX3, "cloverOn", "(I)I"⟩
abbrev cX3_growOn : ByteArray := prog_5_method_15_code
def yX3_growOn : MethodName := ⟨RX3, "growOn", "(II)V"⟩
abbrev cX3_maySow : ByteArray := prog_5_method_16_code
def yX3_maySow : MethodName := ⟨RX3, "maySow", "(I)Z"⟩
abbrev cX3_sowOn : ByteArray := prog_5_method_17_code
def yX3_sowOn : MethodName := ⟨RX3, "sowOn", "(I)V"⟩
abbrev cX3_isSnowing : ByteArray := prog_5_method_18_code
def yX3_isSnowing : MethodName := ⟨RX3, "isSnowing", "()Z"⟩
abbrev cX3_letSnow : ByteArray := prog_5_method_19_code
def yX3_letSnow : MethodName := ⟨RX3, "letSnow", "(Z)V"⟩
abbrev cX3_pailsOf : ByteArray := prog_5_method_20_code
def yX3_pailsOf : MethodName := ⟨RX3, "pailsOf", "(I)I"⟩
abbrev cX3_hourNow : ByteArray := prog_5_method_21_code
def yX3_hourNow : MethodName := ⟨RX3, "hourNow", "()I"⟩
abbrev cX3_hoursOfWar : ByteArray := prog_5_method_22_code
def yX3_hoursOfWar : MethodName := ⟨RX3, "hoursOfWar", "()I"⟩
abbrev cX3_isDue : ByteArray := prog_5_method_23_code
def yX3_isDue : MethodName := ⟨RX3, "isDue", "(I)Z"⟩
abbrev cX3_isWarning : ByteArray := prog_5_method_24_code
def yX3_isWarning : MethodName := ⟨RX3, "isWarning", "(I)Z"⟩
abbrev cX3_sortOfHour : ByteArray := prog_5_method_25_code
def yX3_sortOfHour : MethodName := ⟨RX3, "sortOfHour", "(Z)I"⟩
abbrev cX3_hourComes : ByteArray := prog_5_method_26_code
def yX3_hourComes : MethodName := ⟨RX3, "hourComes", "(Z)I"⟩
abbrev cX3_countOf : ByteArray := prog_5_method_27_code
def yX3_countOf : MethodName := ⟨RX3, "countOf", "(II)I"⟩
abbrev cX3_lastSortOf : ByteArray := prog_5_method_28_code
def yX3_lastSortOf : MethodName := ⟨RX3, "lastSortOf", "(I)I"⟩
abbrev cX3_milkDueCows : ByteArray := prog_5_method_29_code
def yX3_milkDueCows : MethodName := ⟨RX3, "milkDueCows", "()V"⟩
abbrev cX3_letCowsEat : ByteArray := prog_5_method_30_code
def yX3_letCowsEat : MethodName := ⟨RX3, "letCowsEat", "()V"⟩
def RX4 : String := "MilkTruce$PassText"
def TX4 : u_T := fun k => match k with
  | 0 => ("MilkTruce$PassText", "letters", "[I", true)
  | _ => ("MilkTruce$PassText", "length", "I", false)
def tyX4 : Nat → FieldType := fun k => match k with
  | 0 => .array .int
  | _ => .int
abbrev wsX40 : List Cond := u_ws RX4 TX4 2
theorem nmX4 : ∀ a, a < 2 → ∀ b, b < 2 → a ≠ b → (TX4 a).2.1 ≠ (TX4 b).2.1 := by decide +kernel
theorem tyX4_ok : ∀ k, k < 2 → parseFieldDescriptor (TX4 k).2.2.1 = some (tyX4 k) := by decide +kernel
abbrev cX4_init : ByteArray := prog_6_method_1_code
def yX4_init : MethodName := ⟨RX4, "<init>", "()V"⟩
abbrev cX4_size : ByteArray := prog_6_method_2_code
def yX4_size : MethodName := ⟨RX4, "size", "()I"⟩
abbrev cX4_clear : ByteArray := prog_6_method_3_code
def yX4_clear : MethodName := ⟨RX4, "clear", "()V"⟩
abbrev cX4_add : ByteArray := prog_6_method_4_code
def yX4_add : MethodName := ⟨RX4, "add", "(I)Z"⟩
abbrev cX4_letter : ByteArray := prog_6_method_5_code
def yX4_letter : MethodName := ⟨RX4, "letter", "(I)I"⟩
abbrev cX4_figure : ByteArray := prog_6_method_6_code
def yX4_figure : MethodName := ⟨RX4, "figure", "(I)I"⟩
abbrev cX4_faultPlace : ByteArray := prog_6_method_7_code
def yX4_faultPlace : MethodName := ⟨RX4, "faultPlace", "()I"⟩
abbrev cX4_faultOfPart : ByteArray := prog_6_method_8_code
def yX4_faultOfPart : MethodName := ⟨RX4, "faultOfPart", "(I[I[II)I"⟩
abbrev cX4_tellTo : ByteArray := prog_6_method_9_code
def yX4_tellTo : MethodName := ⟨RX4, "tellTo", "(LMilkTruce$Meadow;)V"⟩
def RX5 : String := "MilkTruce$Shelf"
def TX5 : u_T := fun k => match k with
  | _ => ("MilkTruce$Shelf", "places", "[LMilkTruce$Meadow;", true)
def tyX5 : Nat → FieldType := fun k => match k with
  | _ => .array (.object "MilkTruce$Meadow")
abbrev wsX50 : List Cond := u_ws RX5 TX5 1
theorem nmX5 : ∀ a, a < 1 → ∀ b, b < 1 → a ≠ b → (TX5 a).2.1 ≠ (TX5 b).2.1 := by decide +kernel
theorem tyX5_ok : ∀ k, k < 1 → parseFieldDescriptor (TX5 k).2.2.1 = some (tyX5 k) := by decide +kernel
abbrev cX5_init : ByteArray := prog_7_method_1_code
def yX5_init : MethodName := ⟨RX5, "<init>", "(ILMilkTruce$Herd;)V"⟩
abbrev cX5_at : ByteArray := prog_7_method_2_code
def yX5_at : MethodName := ⟨RX5, "at", "(I)LMilkTruce$Meadow;"⟩
abbrev cX5_put : ByteArray := prog_7_method_3_code
def yX5_put : MethodName := ⟨RX5, "put", "(ILMilkTruce$Meadow;)V"⟩
abbrev cX5_take : ByteArray := prog_7_method_4_code
def yX5_take : MethodName := ⟨RX5, "take", "(ILMilkTruce$Meadow;)V"⟩
def RX6 : String := "MilkTruce$Tellings"
def TX6 : u_T := fun k => match k with
  | 0 => ("MilkTruce$Tellings", "cows", "[I", true)
  | 1 => ("MilkTruce$Tellings", "hours", "[I", true)
  | 2 => ("MilkTruce$Tellings", "dues", "[Z", true)
  | _ => ("MilkTruce$Tellings", "many", "I", false)
def tyX6 : Nat → FieldType := fun k => match k with
  | 0 => .array .int
  | 1 => .array .int
  | 2 => .array .boolean
  | _ => .int
abbrev wsX60 : List Cond := u_ws RX6 TX6 4
theorem nmX6 : ∀ a, a < 4 → ∀ b, b < 4 → a ≠ b → (TX6 a).2.1 ≠ (TX6 b).2.1 := by decide +kernel
theorem tyX6_ok : ∀ k, k < 4 → parseFieldDescriptor (TX6 k).2.2.1 = some (tyX6 k) := by decide +kernel
abbrev cX6_init : ByteArray := prog_8_method_1_code
def yX6_init : MethodName := ⟨RX6, "<init>", "()V"⟩
abbrev cX6_clear : ByteArray := prog_8_method_2_code
def yX6_clear : MethodName := ⟨RX6, "clear", "()V"⟩
abbrev cX6_size : ByteArray := prog_8_method_3_code
def yX6_size : MethodName := ⟨RX6, "size", "()I"⟩
abbrev cX6_add : ByteArray := prog_8_method_4_code
def yX6_add : MethodName := ⟨RX6, "add", "(IIZ)Z"⟩
abbrev cX6_areSoOf : ByteArray := prog_8_method_5_code
def yX6_areSoOf : MethodName := ⟨RX6, "areSoOf", "(LMilkTruce$Meadow;I)Z"⟩
def RX7 : String := "MilkTruce"
def TX7 : u_T := fun k => match k with
  | 0 => ("MilkTruce", "text", "LMilkTruce$PassText;", true)
  | 1 => ("MilkTruce", "herd", "LMilkTruce$Herd;", true)
  | 2 => ("MilkTruce", "meadow", "LMilkTruce$Meadow;", true)
  | 3 => ("MilkTruce", "trial", "LMilkTruce$Meadow;", true)
  | 4 => ("MilkTruce", "acts", "LMilkTruce$ActRow;", true)
  | 5 => ("MilkTruce", "kept", "LMilkTruce$Shelf;", true)
  | 6 => ("MilkTruce", "isKept", "[Z", true)
  | 7 => ("MilkTruce", "tellings", "LMilkTruce$Tellings;", true)
  | 8 => ("MilkTruce", "choicesOfSide0", "LMilkTruce$Choices;", true)
  | 9 => ("MilkTruce", "choicesOfSide1", "LMilkTruce$Choices;", true)
  | 10 => ("MilkTruce", "pairHours", "[I", true)
  | _ => ("MilkTruce", "seedNow", "J", false)
def tyX7 : Nat → FieldType := fun k => match k with
  | 0 => .object "MilkTruce$PassText"
  | 1 => .object "MilkTruce$Herd"
  | 2 => .object "MilkTruce$Meadow"
  | 3 => .object "MilkTruce$Meadow"
  | 4 => .object "MilkTruce$ActRow"
  | 5 => .object "MilkTruce$Shelf"
  | 6 => .array .boolean
  | 7 => .object "MilkTruce$Tellings"
  | 8 => .object "MilkTruce$Choices"
  | 9 => .object "MilkTruce$Choices"
  | 10 => .array .int
  | _ => .long
abbrev wsX70 : List Cond := u_ws RX7 TX7 12
theorem nmX7 : ∀ a, a < 12 → ∀ b, b < 12 → a ≠ b → (TX7 a).2.1 ≠ (TX7 b).2.1 := by decide +kernel
theorem tyX7_ok : ∀ k, k < 12 → parseFieldDescriptor (TX7 k).2.2.1 = some (tyX7 k) := by decide +kernel
abbrev cX7_init : ByteArray := prog_1_method_1_code
def yX7_init : MethodName := ⟨RX7, "<init>", "()V"⟩
abbrev cX7_write : ByteArray := prog_1_method_2_code
def yX7_write : MethodName := ⟨RX7, "write", "(I)I"⟩
abbrev cX7_wipe : ByteArray := prog_1_method_3_code
def yX7_wipe : MethodName := ⟨RX7, "wipe", "()I"⟩
abbrev cX7_fault : ByteArray := prog_1_method_4_code
def yX7_fault : MethodName := ⟨RX7, "fault", "()I"⟩
abbrev cX7_pass : ByteArray := prog_1_method_5_code
def yX7_pass : MethodName := ⟨RX7, "pass", "()I"⟩
abbrev cX7_clover : ByteArray := prog_1_method_6_code
def yX7_clover : MethodName := ⟨RX7, "clover", "(I)I"⟩
abbrev cX7_cow : ByteArray := prog_1_method_7_code
def yX7_cow : MethodName := ⟨RX7, "cow", "(II)I"⟩
abbrev cX7_hour : ByteArray := prog_1_method_8_code
def yX7_hour : MethodName := ⟨RX7, "hour", "(Z)I"⟩
abbrev cX7_move : ByteArray := prog_1_method_9_code
def yX7_move : MethodName := ⟨RX7, "move", "(II)I"⟩
abbrev cX7_sow : ByteArray := prog_1_method_10_code
def yX7_sow : MethodName := ⟨RX7, "sow", "(I)I"⟩
abbrev cX7_snow : ByteArray := prog_1_method_11_code
def yX7_snow : MethodName := ⟨RX7, "snow", "()I"⟩
abbrev cX7_undo : ByteArray := prog_1_method_12_code
def yX7_undo : MethodName := ⟨RX7, "undo", "()I"⟩
abbrev cX7_sorts : ByteArray := prog_1_method_13_code
def yX7_sorts : MethodName := ⟨RX7, "sorts", "(I)I"⟩
abbrev cX7_on : ByteArray := prog_1_method_14_code
def yX7_on : MethodName := ⟨RX7, "on", "(I)I"⟩
abbrev cX7_milk : ByteArray := prog_1_method_15_code
def yX7_milk : MethodName := ⟨RX7, "milk", "(II)I"⟩
abbrev cX7_graze : ByteArray := prog_1_method_16_code
def yX7_graze : MethodName := ⟨RX7, "graze", "(IIZI)I"⟩
abbrev cX7_fewest : ByteArray := prog_1_method_17_code
def yX7_fewest : MethodName := ⟨RX7, "fewest", "(IZ)I"⟩
abbrev cX7_judge : ByteArray := prog_1_method_18_code
def yX7_judge : MethodName := ⟨RX7, "judge", "(II)I"⟩
abbrev cX7_share : ByteArray := prog_1_method_19_code
def yX7_share : MethodName := ⟨RX7, "share", "(IIZ)I"⟩
abbrev cX7_rang : ByteArray := prog_1_method_20_code
def yX7_rang : MethodName := ⟨RX7, "rang", "(II)I"⟩
abbrev cX7_tell : ByteArray := prog_1_method_21_code
def yX7_tell : MethodName := ⟨RX7, "tell", "(IIZ)I"⟩
abbrev cX7_untell : ByteArray := prog_1_method_22_code
def yX7_untell : MethodName := ⟨RX7, "untell", "()I"⟩
abbrev cX7_full : ByteArray := prog_1_method_23_code
def yX7_full : MethodName := ⟨RX7, "full", "(I)I"⟩
abbrev cX7_rests : ByteArray := prog_1_method_24_code
def yX7_rests : MethodName := ⟨RX7, "rests", "(II)I"⟩
abbrev cX7_chance : ByteArray := prog_1_method_25_code
def yX7_chance : MethodName := ⟨RX7, "chance", "(IIZ)I"⟩
abbrev cX7_seed : ByteArray := prog_1_method_26_code
def yX7_seed : MethodName := ⟨RX7, "seed", "(J)J"⟩
abbrev cX7_summers : ByteArray := prog_1_method_27_code
def yX7_summers : MethodName := ⟨RX7, "summers", "(I)I"⟩
abbrev cX7_keep : ByteArray := prog_1_method_28_code
def yX7_keep : MethodName := ⟨RX7, "keep", "(I)I"⟩
abbrev cX7_again : ByteArray := prog_1_method_29_code
def yX7_again : MethodName := ⟨RX7, "again", "(I)I"⟩
abbrev cX7_count : ByteArray := prog_1_method_30_code
def yX7_count : MethodName := ⟨RX7, "count", "(I)I"⟩
abbrev cX7_isCell : ByteArray := prog_1_method_31_code
def yX7_isCell : MethodName := ⟨RX7, "isCell", "(I)Z"⟩
abbrev cX7_isSide : ByteArray := prog_1_method_32_code
def yX7_isSide : MethodName := ⟨RX7, "isSide", "(I)Z"⟩
abbrev cX7_isSlot : ByteArray := prog_1_method_33_code
def yX7_isSlot : MethodName := ⟨RX7, "isSlot", "(I)Z"⟩
abbrev cX7_isAhead : ByteArray := prog_1_method_34_code
def yX7_isAhead : MethodName := ⟨RX7, "isAhead", "(I)Z"⟩
abbrev cX7_cowOfChoice : ByteArray := prog_1_method_35_code
def yX7_cowOfChoice : MethodName := ⟨RX7, "cowOfChoice", "(I)I"⟩
abbrev cX7_cellOfChoice : ByteArray := prog_1_method_36_code
def yX7_cellOfChoice : MethodName := ⟨RX7, "cellOfChoice", "(I)I"⟩
abbrev cX7_areToOneCell : ByteArray := prog_1_method_37_code
def yX7_areToOneCell : MethodName := ⟨RX7, "areToOneCell", "(II)Z"⟩
abbrev cX7_hoursOnAfter : ByteArray := prog_1_method_38_code
def yX7_hoursOnAfter : MethodName := ⟨RX7, "hoursOnAfter", "(III)I"⟩
abbrev cX7_stopsOf : ByteArray := prog_1_method_39_code
def yX7_stopsOf : MethodName := ⟨RX7, "stopsOf", "(II)I"⟩
abbrev cX7_stopsAfterSowing : ByteArray := prog_1_method_40_code
def yX7_stopsAfterSowing : MethodName := ⟨RX7, "stopsAfterSowing", "(III)Z"⟩
abbrev cX7_stopsLastBySnows : ByteArray := prog_1_method_41_code
def yX7_stopsLastBySnows : MethodName := ⟨RX7, "stopsLastBySnows", "(II)Z"⟩
abbrev cX7_isAllSoOfTrial : ByteArray := prog_1_method_42_code
def yX7_isAllSoOfTrial : MethodName := ⟨RX7, "isAllSoOfTrial", "()Z"⟩
abbrev cX7_choicesOf : ByteArray := prog_1_method_43_code
def yX7_choicesOf : MethodName := ⟨RX7, "choicesOf", "(I)LMilkTruce$Choices;"⟩
abbrev cX7_hoursOfPair : ByteArray := prog_1_method_44_code
def yX7_hoursOfPair : MethodName := ⟨RX7, "hoursOfPair", "(III)I"⟩
abbrev cX7_isAtRest : ByteArray := prog_1_method_45_code
def yX7_isAtRest : MethodName := ⟨RX7, "isAtRest", "(IIII)Z"⟩
abbrev cX7_termOf : ByteArray := prog_1_method_46_code
def yX7_termOf : MethodName := ⟨RX7, "termOf", "(IIZ)I"⟩
abbrev cX7_commonDivisor : ByteArray := prog_1_method_47_code
def yX7_commonDivisor : MethodName := ⟨RX7, "commonDivisor", "(II)I"⟩
abbrev cX7_powerOfTen : ByteArray := prog_1_method_48_code
def yX7_powerOfTen : MethodName := ⟨RX7, "powerOfTen", "(I)I"⟩
abbrev cX7_power : ByteArray := prog_1_method_49_code
def yX7_power : MethodName := ⟨RX7, "power", "(II)I"⟩
abbrev cX7_factorial : ByteArray := prog_1_method_50_code
def yX7_factorial : MethodName := ⟨RX7, "factorial", "(I)I"⟩
def RX8 : String := "MilkTruceModel"
def TX8 : u_T := fun k => match k with
  | 0 => ("MilkTruceModel", "cows", "I", false)
  | 1 => ("MilkTruceModel", "side", "[I", true)
  | 2 => ("MilkTruceModel", "kind", "[I", true)
  | 3 => ("MilkTruceModel", "now", "[I", true)
  | 4 => ("MilkTruceModel", "read", "[I", true)
  | 5 => ("MilkTruceModel", "readSide", "[I", true)
  | 6 => ("MilkTruceModel", "readKind", "[I", true)
  | 7 => ("MilkTruceModel", "readCows", "I", false)
  | 8 => ("MilkTruceModel", "readClover", "I", false)
  | 9 => ("MilkTruceModel", "readCells", "I", false)
  | 10 => ("MilkTruceModel", "text", "[I", true)
  | 11 => ("MilkTruceModel", "length", "I", false)
  | 12 => ("MilkTruceModel", "at", "I", false)
  | 13 => ("MilkTruceModel", "faultAt", "I", false)
  | 14 => ("MilkTruceModel", "acts", "I", false)
  | 15 => ("MilkTruceModel", "next", "I", false)
  | 16 => ("MilkTruceModel", "row", "[I", true)
  | 17 => ("MilkTruceModel", "stops", "[I", true)
  | 18 => ("MilkTruceModel", "tolds", "I", false)
  | 19 => ("MilkTruceModel", "toldOf", "[I", true)
  | 20 => ("MilkTruceModel", "toldAt", "[I", true)
  | 21 => ("MilkTruceModel", "toldDue", "[Z", true)
  | 22 => ("MilkTruceModel", "ons", "[I", true)
  | 23 => ("MilkTruceModel", "seed", "J", false)
  | 24 => ("MilkTruceModel", "isKept", "[Z", true)
  | _ => ("MilkTruceModel", "kept", "[I", true)
def tyX8 : Nat → FieldType := fun k => match k with
  | 0 => .int
  | 1 => .array .int
  | 2 => .array .int
  | 3 => .array .int
  | 4 => .array .int
  | 5 => .array .int
  | 6 => .array .int
  | 7 => .int
  | 8 => .int
  | 9 => .int
  | 10 => .array .int
  | 11 => .int
  | 12 => .int
  | 13 => .int
  | 14 => .int
  | 15 => .int
  | 16 => .array .int
  | 17 => .array .int
  | 18 => .int
  | 19 => .array .int
  | 20 => .array .int
  | 21 => .array .boolean
  | 22 => .array .int
  | 23 => .long
  | 24 => .array .boolean
  | _ => .array .int
abbrev wsX80 : List Cond := u_ws RX8 TX8 26
theorem nmX8 : ∀ a, a < 26 → ∀ b, b < 26 → a ≠ b → (TX8 a).2.1 ≠ (TX8 b).2.1 := by decide +kernel
theorem tyX8_ok : ∀ k, k < 26 → parseFieldDescriptor (TX8 k).2.2.1 = some (tyX8 k) := by decide +kernel
abbrev cX8_init : ByteArray := prog_10_method_1_code
def yX8_init : MethodName := ⟨RX8, "<init>", "()V"⟩
abbrev cX8_in : ByteArray := prog_10_method_3_code
def yX8_in : MethodName := ⟨RX8, "in", "(JJJ)Z"⟩
abbrev cX8_has : ByteArray := prog_10_method_4_code
def yX8_has : MethodName := ⟨RX8, "has", "(II)Z"⟩
abbrev cX8_ones : ByteArray := prog_10_method_5_code
def yX8_ones : MethodName := ⟨RX8, "ones", "(I)I"⟩
abbrev cX8_write : ByteArray := prog_10_method_6_code
def yX8_write : MethodName := ⟨RX8, "write", "(I)I"⟩
abbrev cX8_wipe : ByteArray := prog_10_method_7_code
def yX8_wipe : MethodName := ⟨RX8, "wipe", "()I"⟩
abbrev cX8_figure : ByteArray := prog_10_method_8_code
def yX8_figure : MethodName := ⟨RX8, "figure", "(II)I"⟩
abbrev cX8_figureOf : ByteArray := prog_10_method_9_code
def yX8_figureOf : MethodName := ⟨RX8, "figureOf", "(I)I"⟩
abbrev cX8_readText : ByteArray := prog_10_method_10_code
def yX8_readText : MethodName := ⟨RX8, "readText", "()I"⟩
abbrev cX8_readCow : ByteArray := prog_10_method_11_code
def yX8_readCow : MethodName := ⟨RX8, "readCow", "()V"⟩
abbrev cX8_fault : ByteArray := prog_10_method_12_code
def yX8_fault : MethodName := ⟨RX8, "fault", "()I"⟩
abbrev cX8_pass : ByteArray := prog_10_method_13_code
def yX8_pass : MethodName := ⟨RX8, "pass", "()I"⟩
abbrev cX8_isCow : ByteArray := prog_10_method_14_code
def yX8_isCow : MethodName := ⟨RX8, "isCow", "(I)Z"⟩
abbrev cX8_clover : ByteArray := prog_10_method_15_code
def yX8_clover : MethodName := ⟨RX8, "clover", "(I)I"⟩
abbrev cX8_isDue : ByteArray := prog_10_method_16_code
def yX8_isDue : MethodName := ⟨RX8, "isDue", "(II)Z"⟩
abbrev cX8_cow : ByteArray := prog_10_method_17_code
def yX8_cow : MethodName := ⟨RX8, "cow", "(II)I"⟩
abbrev cX8_isSomeDue : ByteArray := prog_10_method_18_code
def yX8_isSomeDue : MethodName := ⟨RX8, "isSomeDue", "(II)Z"⟩
abbrev cX8_sortOf : ByteArray := prog_10_method_19_code
def yX8_sortOf : MethodName := ⟨RX8, "sortOf", "(IIZ)I"⟩
abbrev cX8_eat : ByteArray := prog_10_method_20_code
def yX8_eat : MethodName := ⟨RX8, "eat", "(II)V"⟩
abbrev cX8_passOn : ByteArray := prog_10_method_21_code
def yX8_passOn : MethodName := ⟨RX8, "passOn", "(IIZ)I"⟩
abbrev cX8_keepAct : ByteArray := prog_10_method_22_code
def yX8_keepAct : MethodName := ⟨RX8, "keepAct", "()V"⟩
abbrev cX8_hour : ByteArray := prog_10_method_23_code
def yX8_hour : MethodName := ⟨RX8, "hour", "(Z)I"⟩
abbrev cX8_isCowOn : ByteArray := prog_10_method_24_code
def yX8_isCowOn : MethodName := ⟨RX8, "isCowOn", "(I)Z"⟩
abbrev cX8_move : ByteArray := prog_10_method_25_code
def yX8_move : MethodName := ⟨RX8, "move", "(II)I"⟩
abbrev cX8_sow : ByteArray := prog_10_method_26_code
def yX8_sow : MethodName := ⟨RX8, "sow", "(I)I"⟩
abbrev cX8_snow : ByteArray := prog_10_method_27_code
def yX8_snow : MethodName := ⟨RX8, "snow", "()I"⟩
abbrev cX8_undo : ByteArray := prog_10_method_28_code
def yX8_undo : MethodName := ⟨RX8, "undo", "()I"⟩
abbrev cX8_layTrial : ByteArray := prog_10_method_29_code
def yX8_layTrial : MethodName := ⟨RX8, "layTrial", "()V"⟩
abbrev cX8_sorts : ByteArray := prog_10_method_30_code
def yX8_sorts : MethodName := ⟨RX8, "sorts", "(I)I"⟩
abbrev cX8_manyOf : ByteArray := prog_10_method_31_code
def yX8_manyOf : MethodName := ⟨RX8, "manyOf", "(III)I"⟩
abbrev cX8_on : ByteArray := prog_10_method_32_code
def yX8_on : MethodName := ⟨RX8, "on", "(I)I"⟩
abbrev cX8_milk : ByteArray := prog_10_method_33_code
def yX8_milk : MethodName := ⟨RX8, "milk", "(II)I"⟩
abbrev cX8_isChoice : ByteArray := prog_10_method_34_code
def yX8_isChoice : MethodName := ⟨RX8, "isChoice", "(II)Z"⟩
abbrev cX8_moveTrial : ByteArray := prog_10_method_35_code
def yX8_moveTrial : MethodName := ⟨RX8, "moveTrial", "(I)V"⟩
abbrev cX8_graze : ByteArray := prog_10_method_36_code
def yX8_graze : MethodName := ⟨RX8, "graze", "(IIZI)I"⟩
abbrev cX8_stopsBy : ByteArray := prog_10_method_37_code
def yX8_stopsBy : MethodName := ⟨RX8, "stopsBy", "(III)Z"⟩
abbrev cX8_fewest : ByteArray := prog_10_method_38_code
def yX8_fewest : MethodName := ⟨RX8, "fewest", "(IZ)I"⟩
abbrev cX8_tenTo : ByteArray := prog_10_method_39_code
def yX8_tenTo : MethodName := ⟨RX8, "tenTo", "(I)I"⟩
abbrev cX8_judge : ByteArray := prog_10_method_40_code
def yX8_judge : MethodName := ⟨RX8, "judge", "(II)I"⟩
abbrev cX8_factorial : ByteArray := prog_10_method_41_code
def yX8_factorial : MethodName := ⟨RX8, "factorial", "(I)I"⟩
abbrev cX8_common : ByteArray := prog_10_method_42_code
def yX8_common : MethodName := ⟨RX8, "common", "(II)I"⟩
abbrev cX8_share : ByteArray := prog_10_method_43_code
def yX8_share : MethodName := ⟨RX8, "share", "(IIZ)I"⟩
abbrev cX8_rang : ByteArray := prog_10_method_44_code
def yX8_rang : MethodName := ⟨RX8, "rang", "(II)I"⟩
abbrev cX8_tell : ByteArray := prog_10_method_45_code
def yX8_tell : MethodName := ⟨RX8, "tell", "(IIZ)I"⟩
abbrev cX8_untell : ByteArray := prog_10_method_46_code
def yX8_untell : MethodName := ⟨RX8, "untell", "()I"⟩
abbrev cX8_fits : ByteArray := prog_10_method_47_code
def yX8_fits : MethodName := ⟨RX8, "fits", "(II)Z"⟩
abbrev cX8_full : ByteArray := prog_10_method_48_code
def yX8_full : MethodName := ⟨RX8, "full", "(I)I"⟩
abbrev cX8_layOns : ByteArray := prog_10_method_49_code
def yX8_layOns : MethodName := ⟨RX8, "layOns", "(I)V"⟩
abbrev cX8_isRest : ByteArray := prog_10_method_50_code
def yX8_isRest : MethodName := ⟨RX8, "isRest", "(II)Z"⟩
abbrev cX8_rests : ByteArray := prog_10_method_51_code
def yX8_rests : MethodName := ⟨RX8, "rests", "(II)I"⟩
abbrev cX8_chance : ByteArray := prog_10_method_52_code
def yX8_chance : MethodName := ⟨RX8, "chance", "(IIZ)I"⟩
abbrev cX8_seed : ByteArray := prog_10_method_53_code
def yX8_seed : MethodName := ⟨RX8, "seed", "(J)J"⟩
abbrev cX8_summers : ByteArray := prog_10_method_54_code
def yX8_summers : MethodName := ⟨RX8, "summers", "(I)I"⟩
abbrev cX8_keep : ByteArray := prog_10_method_55_code
def yX8_keep : MethodName := ⟨RX8, "keep", "(I)I"⟩
abbrev cX8_again : ByteArray := prog_10_method_56_code
def yX8_again : MethodName := ⟨RX8, "again", "(I)I"⟩
abbrev cX8_count : ByteArray := prog_10_method_57_code
def yX8_count : MethodName := ⟨RX8, "count", "(I)I"⟩
def RJ6 : String := "java/lang/Integer"
abbrev cJ6_bitCount_0f7a4 : ByteArray := prog_11_method_49_code
def yJ6_bitCount_0f7a4 : MethodName := ⟨RJ6, "bitCount", "(I)I"⟩
def RJ9 : String := "java/lang/Math"
abbrev cJ9_abs_0f7a4 : ByteArray := prog_12_method_59_code
def yJ9_abs_0f7a4 : MethodName := ⟨RJ9, "abs", "(I)I"⟩
abbrev cJ9_max_7cf53 : ByteArray := prog_12_method_65_code
def yJ9_max_7cf53 : MethodName := ⟨RJ9, "max", "(II)I"⟩
abbrev cJ9_min_7cf53 : ByteArray := prog_12_method_69_code
def yJ9_min_7cf53 : MethodName := ⟨RJ9, "min", "(II)I"⟩
def RJ10 : String := "java/lang/System"
abbrev vwCl : List vw_C := [(RX0, TX0, 3), (RX1, TX1, 2), (RX2, TX2, 3), (RX3, TX3, 9), (RX4, TX4, 2), (RX5, TX5, 1), (RX6, TX6, 4), (RX7, TX7, 12), (RX8, TX8, 26)]
end
section
/-! THE DEEP INTERPRETER'S TABLES, by program (wip/whole/gen_parts.py) -/
/-- the words that a callee may be handed -/
def dxTb : List Cond := lw_tbl.filter goodWord
def dxRn : List String := [RX0, RX1, RX2, RX3, RX4, RX5, RX6, RX7, RX8, "MilkTruceLaw", "java/lang/Integer"]
/-- a method: name, bytes, locals, answer; class, the place of its code word; frames and local words below it -/
def dxMs_0 : List (MethodName × ByteArray × Nat × Option FieldType × Nat × Nat × Nat × Nat) := [
  (yX0_init, cX0_init, 2, (Option.none : Option Jvm.ClassFile.FieldType), 0, 126, 3, 65),
  (yX0_clear, cX0_clear, 1, (Option.none : Option Jvm.ClassFile.FieldType), 0, 322, 0, 0),
  (yX0_size, cX0_size, 1, (Option.some Jvm.ClassFile.FieldType.int), 0, 461, 0, 0),
  (yX0_remember, cX0_remember, 2, (Option.none : Option Jvm.ClassFile.FieldType), 0, 370, 3, 70),
  (yX0_takeBack, cX0_takeBack, 2, (Option.none : Option Jvm.ClassFile.FieldType), 0, 465, 3, 70),
  (yX1_init, cX1_init, 1, (Option.none : Option Jvm.ClassFile.FieldType), 1, 180, 1, 21),
  (yX1_lookAt, cX1_lookAt, 4, (Option.none : Option Jvm.ClassFile.FieldType), 1, 530, 3, 66),
  (yX1_addMovesOf, cX1_addMovesOf, 4, (Option.none : Option Jvm.ClassFile.FieldType), 1, 542, 2, 43),
  (yX1_add, cX1_add, 2, (Option.none : Option Jvm.ClassFile.FieldType), 1, 534, 0, 0),
  (yX1_size, cX1_size, 1, (Option.some Jvm.ClassFile.FieldType.int), 1, 547, 0, 0),
  (yX1_at, cX1_at, 2, (Option.some Jvm.ClassFile.FieldType.int), 1, 551, 0, 0),
  (yX2_init, cX2_init, 1, (Option.none : Option Jvm.ClassFile.FieldType), 2, 76, 1, 21),
  (yX2_clear, cX2_clear, 1, (Option.none : Option Jvm.ClassFile.FieldType), 2, 287, 0, 0),
  (yX2_add, cX2_add, 3, (Option.none : Option Jvm.ClassFile.FieldType), 2, 314, 0, 0),
  (yX2_size, cX2_size, 1, (Option.some Jvm.ClassFile.FieldType.int), 2, 310, 0, 0),
  (yX2_has, cX2_has, 2, (Option.some Jvm.ClassFile.FieldType.boolean), 2, 318, 0, 0),
  (yX2_sideOf, cX2_sideOf, 2, (Option.some Jvm.ClassFile.FieldType.int), 2, 349, 0, 0),
  (yX2_kindOf, cX2_kindOf, 2, (Option.some Jvm.ClassFile.FieldType.int), 2, 357, 0, 0),
  (yX3_init, cX3_init, 2, (Option.none : Option Jvm.ClassFile.FieldType), 3, 92, 1, 21),
  (yX3_clear, cX3_clear, 2, (Option.none : Option Jvm.ClassFile.FieldType), 3, 291, 0, 0),
  (yX3_become, cX3_become, 2, (Option.none : Option Jvm.ClassFile.FieldType), 3, 382, 1, 26),
  (yX3_addCow, cX3_addCow, 6, (Option.none : Option Jvm.ClassFile.FieldType), 3, 306, 1, 22),
  (yX3_sendAwayAllBut, cX3_sendAwayAllBut, 2, (Option.none : Option Jvm.ClassFile.FieldType), 3, 586, 0, 0),
  (yX3_isHere, cX3_isHere, 2, (Option.some Jvm.ClassFile.FieldType.boolean), 3, 345, 0, 0),
  (yX3_isOfSide, cX3_isOfSide, 3, (Option.some Jvm.ClassFile.FieldType.boolean), 3, 538, 1, 21),
  (yX3_cellOf, cX3_cellOf, 2, (Option.some Jvm.ClassFile.FieldType.int), 3, 341, 1, 21),
  (yX3_fullnessOf, cX3_fullnessOf, 2, (Option.some Jvm.ClassFile.FieldType.int), 3, 353, 1, 21),
  (yX3_putCow, cX3_putCow, 3, (Option.none : Option Jvm.ClassFile.FieldType), 3, 428, 1, 21),
  (yX3_fillCow, cX3_fillCow, 3, (Option.none : Option Jvm.ClassFile.FieldType), 3, 628, 1, 21),
  (yX3_moveBy, cX3_moveBy, 2, (Option.none : Option Jvm.ClassFile.FieldType), 3, 495, 2, 43)]
def dxMs_1 : List (MethodName × ByteArray × Nat × Option FieldType × Nat × Nat × Nat × Nat) := [
  (yX3_isGrazed, cX3_isGrazed, 3, (Option.some Jvm.ClassFile.FieldType.boolean), 3, 424, 1, 21),
  (yX3_cloverOn, cX3_cloverOn, 2, (Option.some Jvm.ClassFile.FieldType.int), 3, 332, 1, 20),
  (yX3_growOn, cX3_growOn, 3, (Option.none : Option Jvm.ClassFile.FieldType), 3, 299, 1, 20),
  (yX3_maySow, cX3_maySow, 2, (Option.some Jvm.ClassFile.FieldType.boolean), 3, 436, 1, 20),
  (yX3_sowOn, cX3_sowOn, 2, (Option.none : Option Jvm.ClassFile.FieldType), 3, 440, 2, 41),
  (yX3_isSnowing, cX3_isSnowing, 1, (Option.some Jvm.ClassFile.FieldType.boolean), 3, 449, 0, 0),
  (yX3_letSnow, cX3_letSnow, 2, (Option.none : Option Jvm.ClassFile.FieldType), 3, 453, 0, 0),
  (yX3_pailsOf, cX3_pailsOf, 2, (Option.some Jvm.ClassFile.FieldType.int), 3, 518, 1, 20),
  (yX3_hourNow, cX3_hourNow, 1, (Option.some Jvm.ClassFile.FieldType.int), 3, 681, 0, 0),
  (yX3_hoursOfWar, cX3_hoursOfWar, 1, (Option.some Jvm.ClassFile.FieldType.int), 3, 694, 0, 0),
  (yX3_isDue, cX3_isDue, 3, (Option.some Jvm.ClassFile.FieldType.boolean), 3, 361, 1, 21),
  (yX3_isWarning, cX3_isWarning, 2, (Option.some Jvm.ClassFile.FieldType.boolean), 3, 398, 1, 21),
  (yX3_sortOfHour, cX3_sortOfHour, 4, (Option.some Jvm.ClassFile.FieldType.int), 3, 393, 2, 43),
  (yX3_hourComes, cX3_hourComes, 3, (Option.some Jvm.ClassFile.FieldType.int), 3, 389, 3, 66),
  (yX3_countOf, cX3_countOf, 5, (Option.some Jvm.ClassFile.FieldType.int), 3, 504, 4, 88),
  (yX3_lastSortOf, cX3_lastSortOf, 4, (Option.some Jvm.ClassFile.FieldType.int), 3, 514, 4, 88),
  (yX3_milkDueCows, cX3_milkDueCows, 3, (Option.none : Option Jvm.ClassFile.FieldType), 3, 402, 2, 43),
  (yX3_letCowsEat, cX3_letCowsEat, 5, (Option.none : Option Jvm.ClassFile.FieldType), 3, 410, 2, 42),
  (yX4_init, cX4_init, 1, (Option.none : Option Jvm.ClassFile.FieldType), 4, 62, 1, 21),
  (yX4_size, cX4_size, 1, (Option.some Jvm.ClassFile.FieldType.int), 4, 237, 0, 0),
  (yX4_clear, cX4_clear, 1, (Option.none : Option Jvm.ClassFile.FieldType), 4, 245, 0, 0),
  (yX4_add, cX4_add, 2, (Option.some Jvm.ClassFile.FieldType.boolean), 4, 233, 0, 0),
  (yX4_letter, cX4_letter, 2, (Option.some Jvm.ClassFile.FieldType.int), 4, 257, 0, 0),
  (yX4_figure, cX4_figure, 3, (Option.some Jvm.ClassFile.FieldType.int), 4, 275, 1, 21),
  (yX4_faultPlace, cX4_faultPlace, 8, (Option.some Jvm.ClassFile.FieldType.int), 4, 253, 3, 71),
  (yX4_faultOfPart, cX4_faultOfPart, 9, (Option.some Jvm.ClassFile.FieldType.int), 4, 271, 2, 43),
  (yX4_tellTo, cX4_tellTo, 4, (Option.none : Option Jvm.ClassFile.FieldType), 4, 295, 2, 47),
  (yX5_init, cX5_init, 4, (Option.none : Option Jvm.ClassFile.FieldType), 5, 132, 2, 42),
  (yX5_at, cX5_at, 2, (Option.some (Jvm.ClassFile.FieldType.object "MilkTruce$Meadow")), 5, 378, 0, 0),
  (yX5_put, cX5_put, 4, (Option.none : Option Jvm.ClassFile.FieldType), 5, 374, 2, 47)]
def dxMs_2 : List (MethodName × ByteArray × Nat × Option FieldType × Nat × Nat × Nat × Nat) := [
  (yX5_take, cX5_take, 4, (Option.none : Option Jvm.ClassFile.FieldType), 5, 469, 2, 47),
  (yX6_init, cX6_init, 1, (Option.none : Option Jvm.ClassFile.FieldType), 6, 160, 1, 21),
  (yX6_clear, cX6_clear, 1, (Option.none : Option Jvm.ClassFile.FieldType), 6, 620, 0, 0),
  (yX6_size, cX6_size, 1, (Option.some Jvm.ClassFile.FieldType.int), 6, 612, 0, 0),
  (yX6_add, cX6_add, 4, (Option.some Jvm.ClassFile.FieldType.boolean), 6, 608, 0, 0),
  (yX6_areSoOf, cX6_areSoOf, 5, (Option.some Jvm.ClassFile.FieldType.boolean), 6, 636, 2, 43),
  (yX7_init, cX7_init, 1, (Option.none : Option Jvm.ClassFile.FieldType), 7, 54, 4, 86),
  (yX7_write, cX7_write, 2, (Option.some Jvm.ClassFile.FieldType.int), 7, 229, 1, 21),
  (yX7_wipe, cX7_wipe, 2, (Option.some Jvm.ClassFile.FieldType.int), 7, 241, 1, 20),
  (yX7_fault, cX7_fault, 1, (Option.some Jvm.ClassFile.FieldType.int), 7, 249, 4, 98),
  (yX7_pass, cX7_pass, 2, (Option.some Jvm.ClassFile.FieldType.int), 7, 283, 4, 98),
  (yX7_clover, cX7_clover, 2, (Option.some Jvm.ClassFile.FieldType.int), 7, 327, 2, 41),
  (yX7_cow, cX7_cow, 3, (Option.some Jvm.ClassFile.FieldType.int), 7, 336, 2, 43),
  (yX7_hour, cX7_hour, 2, (Option.some Jvm.ClassFile.FieldType.int), 7, 366, 4, 91),
  (yX7_move, cX7_move, 4, (Option.some Jvm.ClassFile.FieldType.int), 7, 420, 4, 91),
  (yX7_sow, cX7_sow, 2, (Option.some Jvm.ClassFile.FieldType.int), 7, 432, 4, 91),
  (yX7_snow, cX7_snow, 1, (Option.some Jvm.ClassFile.FieldType.int), 7, 445, 4, 91),
  (yX7_undo, cX7_undo, 1, (Option.some Jvm.ClassFile.FieldType.int), 7, 457, 4, 91),
  (yX7_sorts, cX7_sorts, 4, (Option.some Jvm.ClassFile.FieldType.int), 7, 473, 4, 88),
  (yX7_on, cX7_on, 2, (Option.some Jvm.ClassFile.FieldType.int), 7, 481, 6, 135),
  (yX7_milk, cX7_milk, 3, (Option.some Jvm.ClassFile.FieldType.int), 7, 509, 5, 111),
  (yX7_graze, cX7_graze, 10, (Option.some Jvm.ClassFile.FieldType.int), 7, 522, 6, 135),
  (yX7_fewest, cX7_fewest, 6, (Option.some Jvm.ClassFile.FieldType.int), 7, 556, 6, 138),
  (yX7_judge, cX7_judge, 5, (Option.some Jvm.ClassFile.FieldType.int), 7, 570, 4, 88),
  (yX7_share, cX7_share, 10, (Option.some Jvm.ClassFile.FieldType.int), 7, 574, 6, 134),
  (yX7_rang, cX7_rang, 7, (Option.some Jvm.ClassFile.FieldType.int), 7, 599, 4, 88),
  (yX7_tell, cX7_tell, 4, (Option.some Jvm.ClassFile.FieldType.int), 7, 604, 1, 23),
  (yX7_untell, cX7_untell, 2, (Option.some Jvm.ClassFile.FieldType.int), 7, 616, 1, 20),
  (yX7_full, cX7_full, 4, (Option.some Jvm.ClassFile.FieldType.int), 7, 624, 5, 109),
  (yX7_rests, cX7_rests, 10, (Option.some Jvm.ClassFile.FieldType.int), 7, 642, 6, 135)]
def dxMs_3 : List (MethodName × ByteArray × Nat × Option FieldType × Nat × Nat × Nat × Nat) := [
  (yX7_chance, cX7_chance, 7, (Option.some Jvm.ClassFile.FieldType.int), 7, 654, 5, 112),
  (yX7_seed, cX7_seed, 5, (Option.some Jvm.ClassFile.FieldType.long), 7, 662, 0, 0),
  (yX7_summers, cX7_summers, 4, (Option.some Jvm.ClassFile.FieldType.int), 7, 666, 4, 88),
  (yX7_keep, cX7_keep, 2, (Option.some Jvm.ClassFile.FieldType.int), 7, 673, 3, 70),
  (yX7_again, cX7_again, 2, (Option.some Jvm.ClassFile.FieldType.int), 7, 685, 3, 70),
  (yX7_count, cX7_count, 2, (Option.some Jvm.ClassFile.FieldType.int), 7, 690, 3, 66),
  (yX7_isCell, cX7_isCell, 1, (Option.some Jvm.ClassFile.FieldType.boolean), 7, 302, 0, 0),
  (yX7_isSide, cX7_isSide, 1, (Option.some Jvm.ClassFile.FieldType.boolean), 7, 406, 0, 0),
  (yX7_isSlot, cX7_isSlot, 1, (Option.some Jvm.ClassFile.FieldType.boolean), 7, 676, 0, 0),
  (yX7_isAhead, cX7_isAhead, 1, (Option.some Jvm.ClassFile.FieldType.boolean), 7, 476, 0, 0),
  (yX7_cowOfChoice, cX7_cowOfChoice, 1, (Option.some Jvm.ClassFile.FieldType.int), 7, 498, 0, 0),
  (yX7_cellOfChoice, cX7_cellOfChoice, 1, (Option.some Jvm.ClassFile.FieldType.int), 7, 491, 0, 0),
  (yX7_areToOneCell, cX7_areToOneCell, 2, (Option.some Jvm.ClassFile.FieldType.boolean), 7, 488, 1, 20),
  (yX7_hoursOnAfter, cX7_hoursOnAfter, 4, (Option.some Jvm.ClassFile.FieldType.int), 7, 485, 5, 112),
  (yX7_stopsOf, cX7_stopsOf, 3, (Option.some Jvm.ClassFile.FieldType.int), 7, 582, 5, 112),
  (yX7_stopsAfterSowing, cX7_stopsAfterSowing, 8, (Option.some Jvm.ClassFile.FieldType.boolean), 7, 560, 5, 111),
  (yX7_stopsLastBySnows, cX7_stopsLastBySnows, 5, (Option.some Jvm.ClassFile.FieldType.boolean), 7, 658, 4, 88),
  (yX7_isAllSoOfTrial, cX7_isAllSoOfTrial, 2, (Option.some Jvm.ClassFile.FieldType.boolean), 7, 632, 4, 88),
  (yX7_choicesOf, cX7_choicesOf, 3, (Option.some (Jvm.ClassFile.FieldType.object "MilkTruce$Choices")), 7, 526, 4, 89),
  (yX7_hoursOfPair, cX7_hoursOfPair, 5, (Option.some Jvm.ClassFile.FieldType.int), 7, 650, 0, 0),
  (yX7_isAtRest, cX7_isAtRest, 8, (Option.some Jvm.ClassFile.FieldType.boolean), 7, 646, 1, 24),
  (yX7_termOf, cX7_termOf, 4, (Option.some Jvm.ClassFile.FieldType.int), 7, 589, 1, 25),
  (yX7_commonDivisor, cX7_commonDivisor, 6, (Option.some Jvm.ClassFile.FieldType.int), 7, 595, 0, 0),
  (yX7_powerOfTen, cX7_powerOfTen, 1, (Option.some Jvm.ClassFile.FieldType.int), 7, 563, 1, 23),
  (yX7_power, cX7_power, 4, (Option.some Jvm.ClassFile.FieldType.int), 7, 566, 0, 0),
  (yX7_factorial, cX7_factorial, 3, (Option.some Jvm.ClassFile.FieldType.int), 7, 578, 0, 0),
  (yX8_init, cX8_init, 1, (Option.none : Option Jvm.ClassFile.FieldType), 8, 699, 1, 21),
  (yX8_in, cX8_in, 6, (Option.some Jvm.ClassFile.FieldType.boolean), 8, 787, 0, 0),
  (yX8_has, cX8_has, 2, (Option.some Jvm.ClassFile.FieldType.boolean), 8, 807, 0, 0),
  (yX8_ones, cX8_ones, 3, (Option.some Jvm.ClassFile.FieldType.int), 8, 935, 0, 0)]
def dxMs_4 : List (MethodName × ByteArray × Nat × Option FieldType × Nat × Nat × Nat × Nat) := [
  (yX8_write, cX8_write, 2, (Option.some Jvm.ClassFile.FieldType.int), 8, 783, 1, 25),
  (yX8_wipe, cX8_wipe, 2, (Option.some Jvm.ClassFile.FieldType.int), 8, 791, 0, 0),
  (yX8_figure, cX8_figure, 4, (Option.some Jvm.ClassFile.FieldType.int), 8, 811, 1, 25),
  (yX8_figureOf, cX8_figureOf, 3, (Option.some Jvm.ClassFile.FieldType.int), 8, 803, 1, 25),
  (yX8_readText, cX8_readText, 2, (Option.some Jvm.ClassFile.FieldType.int), 8, 799, 3, 68),
  (yX8_readCow, cX8_readCow, 1, (Option.none : Option Jvm.ClassFile.FieldType), 8, 815, 2, 48),
  (yX8_fault, cX8_fault, 1, (Option.some Jvm.ClassFile.FieldType.int), 8, 795, 4, 89),
  (yX8_pass, cX8_pass, 2, (Option.some Jvm.ClassFile.FieldType.int), 8, 819, 4, 89),
  (yX8_isCow, cX8_isCow, 2, (Option.some Jvm.ClassFile.FieldType.boolean), 8, 831, 1, 25),
  (yX8_clover, cX8_clover, 2, (Option.some Jvm.ClassFile.FieldType.int), 8, 823, 1, 25),
  (yX8_isDue, cX8_isDue, 4, (Option.some Jvm.ClassFile.FieldType.boolean), 8, 835, 0, 0),
  (yX8_cow, cX8_cow, 3, (Option.some Jvm.ClassFile.FieldType.int), 8, 827, 2, 46),
  (yX8_isSomeDue, cX8_isSomeDue, 5, (Option.some Jvm.ClassFile.FieldType.boolean), 8, 855, 1, 23),
  (yX8_sortOf, cX8_sortOf, 6, (Option.some Jvm.ClassFile.FieldType.int), 8, 851, 2, 47),
  (yX8_eat, cX8_eat, 6, (Option.none : Option Jvm.ClassFile.FieldType), 8, 859, 0, 0),
  (yX8_passOn, cX8_passOn, 7, (Option.some Jvm.ClassFile.FieldType.int), 8, 847, 3, 72),
  (yX8_keepAct, cX8_keepAct, 2, (Option.none : Option Jvm.ClassFile.FieldType), 8, 843, 0, 0),
  (yX8_hour, cX8_hour, 2, (Option.some Jvm.ClassFile.FieldType.int), 8, 839, 4, 98),
  (yX8_isCowOn, cX8_isCowOn, 4, (Option.some Jvm.ClassFile.FieldType.boolean), 8, 867, 0, 0),
  (yX8_move, cX8_move, 4, (Option.some Jvm.ClassFile.FieldType.int), 8, 863, 2, 46),
  (yX8_sow, cX8_sow, 2, (Option.some Jvm.ClassFile.FieldType.int), 8, 871, 1, 25),
  (yX8_snow, cX8_snow, 1, (Option.some Jvm.ClassFile.FieldType.int), 8, 875, 1, 21),
  (yX8_undo, cX8_undo, 2, (Option.some Jvm.ClassFile.FieldType.int), 8, 879, 0, 0),
  (yX8_layTrial, cX8_layTrial, 2, (Option.none : Option Jvm.ClassFile.FieldType), 8, 888, 0, 0),
  (yX8_sorts, cX8_sorts, 4, (Option.some Jvm.ClassFile.FieldType.int), 8, 883, 4, 98),
  (yX8_manyOf, cX8_manyOf, 6, (Option.some Jvm.ClassFile.FieldType.int), 8, 896, 4, 98),
  (yX8_on, cX8_on, 2, (Option.some Jvm.ClassFile.FieldType.int), 8, 892, 5, 123),
  (yX8_milk, cX8_milk, 3, (Option.some Jvm.ClassFile.FieldType.int), 8, 900, 5, 123),
  (yX8_isChoice, cX8_isChoice, 4, (Option.some Jvm.ClassFile.FieldType.boolean), 8, 909, 2, 46),
  (yX8_moveTrial, cX8_moveTrial, 2, (Option.none : Option Jvm.ClassFile.FieldType), 8, 913, 0, 0)]
def dxMs_5 : List (MethodName × ByteArray × Nat × Option FieldType × Nat × Nat × Nat × Nat) := [
  (yX8_graze, cX8_graze, 10, (Option.some Jvm.ClassFile.FieldType.int), 8, 904, 5, 123),
  (yX8_stopsBy, cX8_stopsBy, 9, (Option.some Jvm.ClassFile.FieldType.boolean), 8, 921, 4, 98),
  (yX8_fewest, cX8_fewest, 6, (Option.some Jvm.ClassFile.FieldType.int), 8, 917, 5, 126),
  (yX8_tenTo, cX8_tenTo, 3, (Option.some Jvm.ClassFile.FieldType.int), 8, 928, 0, 0),
  (yX8_judge, cX8_judge, 4, (Option.some Jvm.ClassFile.FieldType.int), 8, 925, 4, 98),
  (yX8_factorial, cX8_factorial, 3, (Option.some Jvm.ClassFile.FieldType.int), 8, 938, 0, 0),
  (yX8_common, cX8_common, 5, (Option.some Jvm.ClassFile.FieldType.int), 8, 941, 0, 0),
  (yX8_share, cX8_share, 7, (Option.some Jvm.ClassFile.FieldType.int), 8, 932, 5, 123),
  (yX8_rang, cX8_rang, 7, (Option.some Jvm.ClassFile.FieldType.int), 8, 945, 4, 98),
  (yX8_tell, cX8_tell, 4, (Option.some Jvm.ClassFile.FieldType.int), 8, 949, 2, 46),
  (yX8_untell, cX8_untell, 2, (Option.some Jvm.ClassFile.FieldType.int), 8, 954, 0, 0),
  (yX8_fits, cX8_fits, 7, (Option.some Jvm.ClassFile.FieldType.boolean), 8, 962, 4, 98),
  (yX8_full, cX8_full, 4, (Option.some Jvm.ClassFile.FieldType.int), 8, 958, 5, 124),
  (yX8_layOns, cX8_layOns, 5, (Option.none : Option Jvm.ClassFile.FieldType), 8, 970, 5, 123),
  (yX8_isRest, cX8_isRest, 6, (Option.some Jvm.ClassFile.FieldType.boolean), 8, 974, 0, 0),
  (yX8_rests, cX8_rests, 7, (Option.some Jvm.ClassFile.FieldType.int), 8, 966, 6, 147),
  (yX8_chance, cX8_chance, 10, (Option.some Jvm.ClassFile.FieldType.int), 8, 978, 4, 98),
  (yX8_seed, cX8_seed, 5, (Option.some Jvm.ClassFile.FieldType.long), 8, 984, 0, 0),
  (yX8_summers, cX8_summers, 4, (Option.some Jvm.ClassFile.FieldType.int), 8, 988, 4, 98),
  (yX8_keep, cX8_keep, 3, (Option.some Jvm.ClassFile.FieldType.int), 8, 996, 1, 25),
  (yX8_again, cX8_again, 3, (Option.some Jvm.ClassFile.FieldType.int), 8, 1000, 1, 25),
  (yX8_count, cX8_count, 2, (Option.some Jvm.ClassFile.FieldType.int), 8, 1004, 3, 72),
  (yJ6_bitCount_0f7a4, cJ6_bitCount_0f7a4, 1, (Option.some Jvm.ClassFile.FieldType.int), 10, 260, 0, 0),
  (x, code, 4, (Option.some Jvm.ClassFile.FieldType.boolean), 9, 37, 7, 173)]
def dxMs : List (MethodName × ByteArray × Nat × Option FieldType × Nat × Nat × Nat × Nat) := dxMs_0 ++ (dxMs_1 ++ (dxMs_2 ++ (dxMs_3 ++ (dxMs_4 ++ (dxMs_5)))))
def dxLaw : Nat := 173
/-- calls: class, entry, kind, method; places of words -/
def dxLkT : List (Nat × Nat × Nat × Nat × Nat × Nat × Nat × Nat) := [
  (0, 3, 5, 0, 125, 0, 0, 0),
  (0, 11, 3, 57, 128, 129, 0, 43),
  (0, 27, 0, 59, 358, 359, 360, 43),
  (0, 31, 0, 60, 448, 449, 450, 43),
  (1, 3, 5, 0, 176, 0, 0, 0),
  (1, 19, 0, 8, 509, 510, 9, 46),
  (1, 23, 0, 24, 512, 513, 514, 41),
  (1, 29, 0, 7, 516, 517, 10, 46),
  (1, 33, 0, 30, 519, 404, 405, 41),
  (2, 3, 5, 0, 75, 0, 0, 0),
  (3, 3, 5, 0, 91, 0, 0, 0),
  (3, 42, 9, 0, 369, 0, 0, 0),
  (3, 48, 0, 14, 294, 295, 296, 40),
  (3, 54, 0, 13, 298, 299, 300, 40),
  (3, 58, 0, 15, 302, 303, 304, 40),
  (3, 62, 0, 23, 329, 330, 331, 41),
  (3, 65, 0, 16, 387, 334, 335, 40),
  (3, 69, 2, 96, 300, 288, 0, 38),
  (3, 72, 2, 100, 496, 477, 0, 38),
  (3, 75, 2, 101, 499, 471, 0, 38),
  (3, 78, 0, 27, 479, 408, 409, 41),
  (3, 81, 0, 33, 423, 416, 417, 41),
  (3, 84, 2, 97, 404, 388, 0, 38),
  (3, 87, 0, 17, 349, 342, 343, 40),
  (3, 90, 0, 40, 380, 346, 347, 41),
  (3, 93, 0, 41, 381, 382, 4, 41),
  (3, 96, 0, 42, 376, 377, 378, 41),
  (3, 100, 0, 46, 384, 385, 5, 41),
  (3, 103, 0, 47, 390, 391, 6, 41),
  (3, 106, 0, 43, 484, 373, 374, 41),
  (3, 109, 0, 25, 393, 326, 327, 41),
  (3, 112, 0, 31, 394, 317, 318, 41),
  (3, 115, 0, 32, 395, 285, 286, 41),
  (3, 118, 7, 0, 396, 0, 0, 0),
  (4, 3, 5, 0, 62, 0, 0, 0),
  (4, 19, 0, 52, 249, 250, 0, 39),
  (4, 23, 1, 172, 252, 253, 0, 48),
  (4, 34, 0, 55, 260, 261, 1, 39),
  (4, 44, 0, 53, 263, 264, 2, 39),
  (4, 47, 0, 32, 284, 285, 286, 41),
  (4, 53, 0, 21, 290, 291, 292, 41),
  (5, 1, 5, 0, 131, 0, 0, 0),
  (5, 7, 8, 0, 132, 0, 0, 0),
  (5, 21, 3, 18, 136, 89, 0, 41),
  (5, 24, 0, 58, 362, 363, 3, 43),
  (5, 28, 0, 20, 365, 366, 367, 41),
  (6, 3, 5, 0, 157, 0, 0, 0),
  (6, 26, 0, 23, 610, 330, 331, 41),
  (6, 32, 0, 40, 611, 346, 347, 41),
  (7, 1, 5, 0, 55, 0, 0, 0),
  (7, 9, 4, 48, 60, 60, 0, 39),
  (7, 18, 4, 11, 74, 73, 0, 40),
  (7, 25, 3, 18, 88, 89, 0, 41),
  (7, 37, 3, 0, 122, 123, 0, 42),
  (7, 44, 3, 57, 152, 129, 0, 43),
  (7, 57, 4, 61, 158, 155, 0, 45),
  (7, 64, 4, 5, 178, 174, 0, 46),
  (7, 76, 0, 51, 225, 226, 227, 39),
  (7, 80, 0, 49, 229, 230, 231, 39),
  (7, 84, 0, 50, 237, 238, 239, 39),
  (7, 87, 0, 54, 245, 246, 247, 39),
  (7, 90, 0, 12, 272, 273, 274, 40),
  (7, 91, 0, 19, 276, 277, 278, 41),
  (7, 92, 0, 56, 280, 281, 282, 39),
  (7, 96, 0, 1, 306, 307, 308, 42),
  (7, 97, 0, 14, 310, 295, 296, 40),
  (7, 98, 1, 96, 315, 288, 0, 38),
  (7, 101, 0, 31, 316, 317, 318, 41),
  (7, 105, 0, 15, 324, 303, 304, 40),
  (7, 108, 0, 25, 325, 326, 327, 41),
  (7, 111, 0, 16, 333, 334, 335, 40),
  (7, 114, 0, 26, 337, 338, 339, 41),
  (7, 117, 0, 17, 341, 342, 343, 40),
  (7, 120, 0, 40, 345, 346, 347, 41),
  (7, 123, 0, 3, 354, 355, 356, 42),
  (7, 126, 0, 43, 372, 373, 374, 41),
  (7, 130, 0, 30, 403, 404, 405, 41),
  (7, 133, 0, 27, 407, 408, 409, 41),
  (7, 137, 0, 33, 415, 416, 417, 41),
  (7, 140, 0, 34, 419, 420, 421, 41),
  (7, 144, 0, 35, 428, 429, 430, 41),
  (7, 148, 0, 36, 432, 433, 434, 41),
  (7, 152, 0, 2, 440, 441, 442, 42),
  (7, 153, 0, 4, 444, 445, 446, 42),
  (7, 156, 1, 99, 456, 457, 0, 38),
  (7, 159, 0, 20, 459, 366, 367, 41),
  (7, 162, 0, 103, 464, 465, 7, 38),
  (7, 166, 1, 97, 489, 388, 0, 38),
  (7, 169, 0, 45, 490, 491, 492, 41),
  (7, 172, 0, 37, 494, 495, 496, 41),
  (7, 175, 0, 108, 502, 503, 8, 38),
  (7, 179, 0, 9, 520, 521, 522, 46),
  (7, 180, 0, 10, 524, 525, 526, 46),
  (7, 183, 1, 100, 528, 477, 0, 38),
  (7, 186, 1, 101, 470, 471, 0, 38),
  (7, 189, 0, 105, 533, 534, 11, 38),
  (7, 193, 1, 113, 536, 537, 0, 38),
  (7, 196, 1, 172, 550, 253, 0, 48),
  (7, 201, 1, 115, 551, 552, 0, 38),
  (7, 204, 0, 104, 554, 555, 12, 38),
  (7, 208, 1, 111, 561, 562, 0, 38),
  (7, 212, 0, 42, 574, 377, 378, 41),
  (7, 215, 0, 64, 579, 580, 581, 45),
  (7, 218, 0, 63, 583, 584, 585, 45),
  (7, 219, 0, 62, 591, 592, 593, 45),
  (7, 220, 0, 28, 599, 600, 601, 41),
  (7, 223, 0, 107, 603, 604, 13, 38),
  (7, 226, 0, 110, 616, 617, 14, 38),
  (7, 230, 0, 106, 626, 627, 16, 38),
  (7, 234, 1, 114, 539, 540, 0, 38),
  (7, 247, 1, 98, 644, 645, 0, 38),
  (7, 250, 0, 59, 647, 359, 360, 43),
  (7, 254, 0, 38, 648, 649, 650, 41),
  (7, 257, 0, 60, 656, 449, 450, 43),
  (7, 260, 0, 39, 661, 662, 663, 41),
  (7, 263, 1, 102, 467, 468, 0, 38),
  (7, 266, 0, 29, 473, 474, 475, 41),
  (7, 269, 0, 44, 480, 481, 482, 41),
  (7, 272, 0, 22, 557, 558, 559, 41),
  (7, 275, 0, 65, 606, 607, 608, 45),
  (7, 279, 0, 6, 505, 506, 507, 46),
  (7, 283, 0, 109, 619, 620, 15, 38),
  (7, 286, 6, 0, 564, 0, 0, 0),
  (7, 291, 1, 112, 567, 568, 0, 38),
  (8, 1, 5, 0, 670, 0, 0, 0),
  (8, 62, 1, 117, 755, 756, 0, 47),
  (8, 77, 1, 118, 773, 774, 0, 47),
  (8, 90, 0, 123, 769, 770, 18, 47),
  (8, 94, 0, 122, 776, 777, 19, 47),
  (8, 98, 0, 125, 779, 780, 20, 47),
  (8, 101, 0, 124, 766, 767, 17, 47),
  (8, 108, 0, 128, 794, 795, 21, 47),
  (8, 112, 0, 130, 797, 798, 22, 47),
  (8, 115, 0, 132, 813, 814, 26, 47),
  (8, 118, 0, 133, 810, 811, 25, 47),
  (8, 122, 0, 134, 816, 817, 27, 47),
  (8, 129, 0, 136, 804, 805, 23, 47),
  (8, 132, 0, 135, 807, 808, 24, 47),
  (8, 135, 0, 138, 823, 824, 28, 47),
  (8, 140, 0, 143, 843, 844, 29, 47),
  (8, 143, 0, 145, 850, 851, 30, 47),
  (8, 149, 0, 148, 862, 863, 31, 47),
  (8, 152, 0, 149, 865, 866, 32, 47),
  (8, 156, 0, 151, 872, 873, 33, 47),
  (8, 160, 1, 153, 879, 880, 0, 47),
  (8, 163, 1, 119, 886, 887, 0, 47),
  (8, 166, 1, 155, 889, 890, 0, 47),
  (8, 169, 1, 156, 892, 893, 0, 47),
  (8, 177, 0, 161, 912, 913, 34, 47),
  (8, 180, 0, 163, 919, 920, 35, 47),
  (8, 183, 0, 164, 922, 923, 36, 47),
  (9, 9, 3, 66, 52, 53, 0, 38),
  (9, 12, 3, 116, 667, 668, 0, 47),
  (9, 13, 0, 67, 221, 222, 223, 38),
  (9, 17, 0, 120, 750, 751, 752, 47),
  (9, 18, 0, 68, 233, 234, 235, 38),
  (9, 22, 0, 121, 758, 759, 760, 47),
  (9, 23, 0, 69, 241, 242, 243, 38),
  (9, 26, 0, 126, 762, 763, 764, 47),
  (9, 27, 0, 70, 268, 269, 270, 38),
  (9, 30, 0, 127, 782, 783, 784, 47),
  (9, 31, 0, 71, 311, 312, 313, 38),
  (9, 34, 0, 129, 786, 787, 788, 47),
  (9, 35, 0, 72, 320, 321, 322, 38),
  (9, 39, 0, 131, 790, 791, 792, 47),
  (9, 40, 0, 73, 350, 351, 352, 38),
  (9, 44, 0, 137, 800, 801, 802, 47),
  (9, 45, 0, 74, 399, 400, 401, 38),
  (9, 48, 0, 139, 819, 820, 821, 47),
  (9, 49, 0, 75, 411, 412, 413, 38),
  (9, 52, 0, 140, 826, 827, 828, 47),
  (9, 53, 0, 76, 424, 425, 426, 38),
  (9, 56, 0, 141, 830, 831, 832, 47),
  (9, 57, 0, 77, 436, 437, 438, 38),
  (9, 60, 0, 142, 834, 835, 836, 47),
  (9, 61, 0, 78, 452, 453, 454, 38),
  (9, 64, 0, 144, 838, 839, 840, 47),
  (9, 65, 0, 79, 460, 461, 462, 38),
  (9, 68, 0, 146, 846, 847, 848, 47),
  (9, 69, 0, 80, 485, 486, 487, 38),
  (9, 72, 0, 147, 853, 854, 855, 47),
  (9, 73, 0, 81, 498, 499, 500, 38),
  (9, 77, 0, 150, 857, 858, 859, 47),
  (9, 78, 0, 82, 529, 530, 531, 38),
  (9, 82, 0, 152, 868, 869, 870, 47),
  (9, 83, 0, 83, 542, 543, 544, 38),
  (9, 86, 0, 154, 875, 876, 877, 47),
  (9, 87, 0, 84, 546, 547, 548, 38),
  (9, 91, 0, 157, 882, 883, 884, 47),
  (9, 92, 0, 85, 570, 571, 572, 38),
  (9, 95, 0, 158, 895, 896, 897, 47),
  (9, 96, 0, 86, 575, 576, 577, 38),
  (9, 99, 0, 159, 899, 900, 901, 47),
  (9, 100, 0, 87, 587, 588, 589, 38),
  (9, 103, 0, 160, 904, 905, 906, 47),
  (9, 104, 0, 88, 595, 596, 597, 38),
  (9, 107, 0, 162, 908, 909, 910, 47),
  (9, 108, 0, 89, 612, 613, 614, 38),
  (9, 111, 0, 165, 915, 916, 917, 47),
  (9, 112, 0, 90, 622, 623, 624, 38),
  (9, 115, 0, 166, 925, 926, 927, 47),
  (9, 118, 0, 91, 629, 630, 631, 38),
  (9, 122, 0, 167, 931, 932, 933, 47),
  (9, 123, 0, 92, 633, 634, 635, 38),
  (9, 126, 0, 168, 935, 936, 937, 47),
  (9, 127, 0, 93, 640, 641, 642, 38),
  (9, 130, 0, 169, 943, 944, 945, 47),
  (9, 131, 0, 94, 652, 653, 654, 38),
  (9, 134, 0, 170, 947, 948, 949, 47),
  (9, 135, 0, 95, 657, 658, 659, 38),
  (9, 138, 0, 171, 951, 952, 953, 47)]
/-- fields: class, entry, the object's class, the field; place -/
def dxFT : List (Nat × Nat × Nat × Nat × Nat) := [
  (0, 14, 0, 0, 141),
  (0, 20, 0, 2, 143),
  (0, 24, 0, 1, 142),
  (1, 9, 1, 0, 177),
  (1, 15, 1, 1, 178),
  (2, 9, 2, 0, 76),
  (2, 15, 2, 1, 77),
  (2, 18, 2, 2, 78),
  (3, 9, 3, 1, 93),
  (3, 15, 3, 2, 94),
  (3, 18, 3, 3, 95),
  (3, 21, 3, 4, 96),
  (3, 24, 3, 0, 92),
  (3, 28, 3, 5, 97),
  (3, 32, 3, 6, 98),
  (3, 36, 3, 7, 99),
  (3, 39, 3, 8, 100),
  (4, 9, 4, 0, 63),
  (4, 15, 4, 1, 64),
  (5, 15, 5, 0, 137),
  (6, 9, 6, 0, 158),
  (6, 15, 6, 1, 159),
  (6, 18, 6, 2, 160),
  (6, 22, 6, 3, 161),
  (7, 10, 7, 0, 184),
  (7, 19, 7, 1, 185),
  (7, 28, 7, 2, 186),
  (7, 32, 7, 3, 187),
  (7, 38, 7, 4, 188),
  (7, 47, 7, 5, 189),
  (7, 51, 7, 6, 190),
  (7, 58, 7, 7, 191),
  (7, 65, 7, 8, 192),
  (7, 69, 7, 9, 193),
  (7, 72, 7, 10, 194),
  (7, 237, 7, 11, 195),
  (8, 7, 8, 1, 672),
  (8, 13, 8, 2, 673),
  (8, 16, 8, 3, 674),
  (8, 19, 8, 4, 675),
  (8, 22, 8, 5, 676),
  (8, 25, 8, 6, 677),
  (8, 28, 8, 10, 681),
  (8, 31, 8, 16, 687),
  (8, 34, 8, 17, 688),
  (8, 37, 8, 19, 690),
  (8, 40, 8, 20, 691),
  (8, 43, 8, 21, 692),
  (8, 47, 8, 22, 693),
  (8, 50, 8, 24, 695),
  (8, 53, 8, 25, 696),
  (8, 56, 8, 0, 671),
  (8, 66, 8, 11, 682),
  (8, 69, 8, 13, 684),
  (8, 72, 8, 12, 683),
  (8, 81, 8, 7, 678),
  (8, 84, 8, 8, 679),
  (8, 87, 8, 9, 680),
  (8, 105, 8, 14, 685),
  (8, 126, 8, 15, 686),
  (8, 174, 8, 18, 689),
  (8, 190, 8, 23, 694)]
def dxST : List (Nat × Nat × Nat × Nat) := [(4, 28, 0, 258), (4, 31, 1, 259), (4, 38, 2, 266), (4, 41, 3, 267)]
def dxCT : List (Nat × Nat × Nat × Nat) := [(9, 7, 7, 50), (7, 7, 4, 58), (7, 16, 2, 71), (7, 23, 3, 86), (7, 35, 0, 120), (0, 9, 5, 126), (5, 13, 3, 135), (7, 42, 5, 151), (7, 55, 6, 153), (7, 62, 1, 172), (9, 10, 8, 665)]
def dxKT : List (Nat × Nat × (Int32 ⊕ Int64) × Nat) := [(10, 265, .inl 1431655765, 255), (10, 266, .inl 858993459, 256), (10, 267, .inl 252645135, 257), (7, 241, .inr 6364136223846793005, 637), (7, 243, .inr 1442695040888963407, 638), (7, 245, .inr 20, 639), (8, 60, .inr 255, 754), (8, 75, .inr 9, 772), (8, 138, .inr 8, 842), (8, 147, .inr 2, 861), (8, 172, .inr 7, 903), (8, 186, .inr 6, 929), (8, 188, .inr 10, 930), (8, 194, .inr 30, 939), (8, 196, .inr 6364136223846793005, 940), (8, 198, .inr 1442695040888963407, 941), (8, 200, .inr 20, 942), (9, 116, .inr 4294967295, 955)]
end
section
/-! THE DEEP INTERPRETER: the machine's bytecode run over a list of cells. A cell's number k stands for the address B + k; '.float i' stands for the i-th table (0 to 3: the static arrays; 4: the script). -/
abbrev dxE : Type := (Nat × vp_A) ⊕ (Nat × List Value)
abbrev dxH : Type := List dxE
abbrev dxL : Type := List (Option Value)
abbrev dxT : Type := Nat → Nat × (Nat → Int32)
def dxM (k : Nat) : MethodName × ByteArray × Nat × Option FieldType × Nat × Nat × Nat × Nat := dxMs.getD k (yX0_init, cX0_init, 0, none, 0, 0, 0, 0)
def dxY (k : Nat) : MethodName := (dxM k).1
def dxB (k : Nat) : ByteArray := (dxM k).2.1
def dxMl (k : Nat) : Nat := (dxM k).2.2.1
def dxRt (k : Nat) : Option FieldType := (dxM k).2.2.2.1
def dxCi (k : Nat) : Nat := (dxM k).2.2.2.2.1
def dxPs (k : Nat) : Nat := (dxM k).2.2.2.2.2.1
def dxFr (k : Nat) : Nat := (dxM k).2.2.2.2.2.2.1
def dxLo (k : Nat) : Nat := (dxM k).2.2.2.2.2.2.2
def dxR (ci : Nat) : String := dxRn.getD ci ""
def dxCl (c : Nat) : vw_C := vwCl.getD c (RX0, TX0, 0)
def dxTyp (c : Nat) : Nat → FieldType := match c with
  | 0 => tyX0
  | 1 => tyX1
  | 2 => tyX2
  | 3 => tyX3
  | 4 => tyX4
  | 5 => tyX5
  | 6 => tyX6
  | 7 => tyX7
  | _ => tyX8
/-- the tables of calls, fields, classes, constants -/
def dxLk (ci idx : Nat) : Option (Nat × Nat × Nat × Nat × Nat × Nat) := (dxLkT.find? (fun q => q.1 == ci && q.2.1 == idx)).map (fun q => q.2.2)
def dxF (ci idx : Nat) : Option (Nat × Nat × Nat) := (dxFT.find? (fun q => q.1 == ci && q.2.1 == idx)).map (fun q => q.2.2)
def dxS (ci idx : Nat) : Option (Nat × Nat) := (dxST.find? (fun q => q.1 == ci && q.2.1 == idx)).map (fun q => q.2.2)
def dxC (ci idx : Nat) : Option (Nat × Nat) := (dxCT.find? (fun q => q.1 == ci && q.2.1 == idx)).map (fun q => q.2.2)
def dxK (ci idx : Nat) : Option ((Int32 ⊕ Int64) × Nat) := (dxKT.find? (fun q => q.1 == ci && q.2.1 == idx)).map (fun q => q.2.2)
def dxI (k pc : Nat) : Option (Instr × Nat) := match decode (dxB k) pc with
  | .ok q => some q
  | .error _ => none
-- operands
def dxII (f : Int32 → Int32 → Option Value) (S : List Value) : Option (List Value) := match S with
  | .int y :: .int x :: r => (f x y).map (· :: r)
  | _ => none
def dxI1 (f : Int32 → Value) (S : List Value) : Option (List Value) := match S with
  | .int x :: r => some (f x :: r)
  | _ => none
def dxJJ (f : Int64 → Int64 → Option Value) (S : List Value) : Option (List Value) := match S with
  | .long y :: .long x :: r => (f x y).map (· :: r)
  | _ => none
def dxJ1 (f : Int64 → Value) (S : List Value) : Option (List Value) := match S with
  | .long x :: r => some (f x :: r)
  | _ => none
def dxJI (f : Int64 → Int32 → Value) (S : List Value) : Option (List Value) := match S with
  | .int y :: .long x :: r => some (f x y :: r)
  | _ => none
def dxOne (f : Value → List Value) (S : List Value) : Option (List Value) := match S with
  | v :: r => if v.category = 1 then some (f v ++ r) else none
  | _ => none
def dxTwo (S : List Value) : Option (List Value) := match S with
  | v :: w :: r => if v.category = 1 ∧ w.category = 1 then some (v :: w :: v :: w :: r) else none
  | _ => none
def dxPop (i : Instr) (n : Nat) (S : List Value) : Option (List Value) := match i, n with
  | .iconst c, 1 => some (.int (Int32.ofInt c) :: S)
  | .bipush c, 2 => some (.int (Int8.ofInt c).toInt32 :: S)
  | .sipush c, 3 => some (.int (Int16.ofInt c).toInt32 :: S)
  | .lconst c, 1 => some (.long (Int64.ofNat c) :: S)
  | .aconst_null, 1 => some (.null :: S)
  | .dup, 1 => dxOne (fun v => [v, v]) S
  | .pop, 1 => dxOne (fun _ => []) S
  | .dup2, 1 => dxTwo S
  | .iadd, 1 => dxII (fun x y => some (.int (x + y))) S
  | .isub, 1 => dxII (fun x y => some (.int (x - y))) S
  | .imul, 1 => dxII (fun x y => some (.int (x * y))) S
  | .idiv, 1 => dxII (fun x y => if y = 0 then none else some (.int (x / y))) S
  | .irem, 1 => dxII (fun x y => if y = 0 then none else some (.int (x - x / y * y))) S
  | .iand, 1 => dxII (fun x y => some (.int (x &&& y))) S
  | .ior, 1 => dxII (fun x y => some (.int (x ||| y))) S
  | .ixor, 1 => dxII (fun x y => some (.int (x ^^^ y))) S
  | .ishl, 1 => dxII (fun x y => some (.int (x <<< (y &&& 31)))) S
  | .ishr, 1 => dxII (fun x y => some (.int (x >>> (y &&& 31)))) S
  | .iushr, 1 => dxII (fun x y => some (.int (x.toUInt32 >>> (y.toUInt32 &&& Int32.toUInt32 31)).toInt32)) S
  | .ineg, 1 => dxI1 (fun x => .int (-x)) S
  | .i2l, 1 => dxI1 (fun x => .long x.toInt64) S
  | .l2i, 1 => dxJ1 (fun x => .int x.toInt32) S
  | .ladd, 1 => dxJJ (fun x y => some (.long (x + y))) S
  | .lmul, 1 => dxJJ (fun x y => some (.long (x * y))) S
  | .land, 1 => dxJJ (fun x y => some (.long (x &&& y))) S
  | .lor, 1 => dxJJ (fun x y => some (.long (x ||| y))) S
  | .lrem, 1 => dxJJ (fun x y => if y = 0 then none else some (.long (x - x / y * y))) S
  | .lcmp, 1 => dxJJ (fun x y => some (.int (lg_cmp x y))) S
  | .lshl, 1 => dxJI (fun x y => .long (x <<< (y.toInt64 &&& 63))) S
  | .lushr, 1 => dxJI (fun x y => .long (x.toUInt64 >>> (y.toInt64.toUInt64 &&& Int64.toUInt64 63)).toInt64) S
  | _, _ => none
-- locals
def dxNo2 (L : dxL) (j : Nat) : Bool := match j with
  | 0 => true
  | i + 1 => match L[i]? with
    | some (some (.long _)) => false
    | some (some (.double _)) => false
    | _ => true
def dxLdI (L : dxL) (j : Nat) (S : List Value) : Option (dxL × List Value) := match L[j]? with
  | some (some (.int x)) => some (L, .int x :: S)
  | _ => none
def dxLdJ (L : dxL) (j : Nat) (S : List Value) : Option (dxL × List Value) := match L[j]? with
  | some (some (.long x)) => some (L, .long x :: S)
  | _ => none
def dxLdA (L : dxL) (j : Nat) (S : List Value) : Option (dxL × List Value) := match L[j]? with
  | some (some (.ref x)) => some (L, .ref x :: S)
  | some (some (.float x)) => some (L, .float x :: S)
  | _ => none
def dxStI (L : dxL) (j : Nat) (S : List Value) : Option (dxL × List Value) := match S with
  | .int x :: r => if j < L.length ∧ dxNo2 L j = true then some (L.set j (some (.int x)), r) else none
  | _ => none
def dxStA (L : dxL) (j : Nat) (S : List Value) : Option (dxL × List Value) := match S with
  | .ref x :: r => if j < L.length ∧ dxNo2 L j = true then some (L.set j (some (.ref x)), r) else none
  | _ => none
def dxStJ (L : dxL) (j : Nat) (S : List Value) : Option (dxL × List Value) := match S with
  | .long x :: r => if j + 1 < L.length ∧ dxNo2 L j = true then some ((L.set j (some (.long x))).set (j + 1) none, r) else none
  | _ => none
def dxLoc (i : Instr) (n : Nat) (L : dxL) (S : List Value) : Option (dxL × List Value) := match i, n with
  | .iload_n j, 1 => dxLdI L j S
  | .iload j, 2 => dxLdI L j S
  | .lload_n j, 1 => dxLdJ L j S
  | .lload j, 2 => dxLdJ L j S
  | .aload_n j, 1 => dxLdA L j S
  | .aload j, 2 => dxLdA L j S
  | .istore_n j, 1 => dxStI L j S
  | .istore j, 2 => dxStI L j S
  | .astore_n j, 1 => dxStA L j S
  | .astore j, 2 => dxStA L j S
  | .lstore_n j, 1 => dxStJ L j S
  | .lstore j, 2 => dxStJ L j S
  | .iinc j d, 3 => match L[j]? with
    | some (some (.int x)) => if dxNo2 L j = true then some (L.set j (some (.int (x + Int32.ofInt d))), S) else none
    | _ => none
  | _, _ => none
-- jumps
def dxTg (pc : Nat) (off : Int) : Nat := ((pc : Int) + off).toNat
def dxIf2 (c : Int32 → Int32 → Bool) (t e : Nat) (S : List Value) : Option (Nat × List Value) := match S with
  | .int y :: .int x :: r => some (if c x y = true then t else e, r)
  | _ => none
def dxIf1 (c : Int32 → Bool) (t e : Nat) (S : List Value) : Option (Nat × List Value) := match S with
  | .int x :: r => some (if c x = true then t else e, r)
  | _ => none
def dxJmp (i : Instr) (n pc : Nat) (S : List Value) : Option (Nat × List Value) := match i, n with
  | .goto o, 3 => if 0 ≤ (pc : Int) + o then some (dxTg pc o, S) else none
  | .if_icmp .eq o, 3 => if 0 ≤ (pc : Int) + o then dxIf2 (fun x y => decide (x = y)) (dxTg pc o) (pc + 3) S else none
  | .if_icmp .ne o, 3 => if 0 ≤ (pc : Int) + o then dxIf2 (fun x y => decide (¬ x = y)) (dxTg pc o) (pc + 3) S else none
  | .if_icmp .lt o, 3 => if 0 ≤ (pc : Int) + o then dxIf2 (fun x y => decide (x < y)) (dxTg pc o) (pc + 3) S else none
  | .if_icmp .ge o, 3 => if 0 ≤ (pc : Int) + o then dxIf2 (fun x y => decide (y ≤ x)) (dxTg pc o) (pc + 3) S else none
  | .if_icmp .gt o, 3 => if 0 ≤ (pc : Int) + o then dxIf2 (fun x y => decide (y < x)) (dxTg pc o) (pc + 3) S else none
  | .if_icmp .le o, 3 => if 0 ≤ (pc : Int) + o then dxIf2 (fun x y => decide (x ≤ y)) (dxTg pc o) (pc + 3) S else none
  | .ifCond .eq o, 3 => if 0 ≤ (pc : Int) + o then dxIf1 (fun x => decide (x = 0)) (dxTg pc o) (pc + 3) S else none
  | .ifCond .ne o, 3 => if 0 ≤ (pc : Int) + o then dxIf1 (fun x => decide (¬ x = 0)) (dxTg pc o) (pc + 3) S else none
  | .ifCond .lt o, 3 => if 0 ≤ (pc : Int) + o then dxIf1 (fun x => decide (x < 0)) (dxTg pc o) (pc + 3) S else none
  | .ifCond .ge o, 3 => if 0 ≤ (pc : Int) + o then dxIf1 (fun x => decide (0 ≤ x)) (dxTg pc o) (pc + 3) S else none
  | .ifCond .gt o, 3 => if 0 ≤ (pc : Int) + o then dxIf1 (fun x => decide (0 < x)) (dxTg pc o) (pc + 3) S else none
  | .ifCond .le o, 3 => if 0 ≤ (pc : Int) + o then dxIf1 (fun x => decide (x ≤ 0)) (dxTg pc o) (pc + 3) S else none
  | .ifnull o, 3 => if 0 ≤ (pc : Int) + o then (match S with
    | .ref _ :: r => some (pc + 3, r)
    | .null :: r => some (dxTg pc o, r)
    | _ => none) else none
  | .tableswitch d lo hi offs, _ => match S with
    | .int x :: r => if x.toInt < lo ∨ hi < x.toInt then (if 0 ≤ (pc : Int) + d then some (dxTg pc d, r) else none) else match offs[(x.toInt - lo).toNat]? with
      | some o => if 0 ≤ (pc : Int) + o then some (dxTg pc o, r) else none
      | none => none
    | _ => none
  | _, _ => none
-- constants
def dxKst (ci : Nat) (i : Instr) (n : Nat) (S : List Value) : Option (List Value) := match i, n with
  | .ldc_w idx, 3 => match dxK ci idx with
    | some (.inl v, _) => some (.int v :: S)
    | _ => none
  | .ldc2_w idx, 3 => match dxK ci idx with
    | some (.inr v, _) => some (.long v :: S)
    | _ => none
  | _, _ => none
-- cells
def dxFit (t : FieldType) (v : Value) : Bool := match t, v with
  | .int, .int _ => true
  | .boolean, .int x => x == 0 || x == 1
  | .long, .long _ => true
  | .object _, .ref _ => true
  | .array _, .ref _ => true
  | _, _ => false
def dxIn (i : Int32) (n : Nat) : Bool := decide (¬ (i < 0 ∨ n ≤ i.toNatClampNeg))
def dxGet (ci idx : Nat) (S : List Value) (H : dxH) : Option (List Value × dxH) := match dxF ci idx with
  | some (c, j, _) => match S with
    | .ref a :: r => match H[a]? with
      | some (.inr (c', fs)) => if c' = c then (match fs[j]? with
        | some v => some (v :: r, H)
        | none => none) else none
      | _ => none
    | _ => none
  | none => none
def dxPut (k idx : Nat) (S : List Value) (H : dxH) : Option (List Value × dxH) := match dxF (dxCi k) idx with
  | some (c, j, _) => match S with
    | v :: .ref a :: r => match H[a]? with
      | some (.inr (c', fs)) => if c' = c ∧ j < fs.length ∧ dxFit (dxTyp c j) v = true ∧ (((dxCl c).2.1 j).2.2.2 = false ∨ ((dxY k).name = "<init>" ∧ c = dxCi k)) then some (r, H.set a (.inr (c, fs.set j v))) else none
      | _ => none
    | _ => none
  | none => none
def dxALd (t : Nat) (tb : dxT) (S : List Value) (H : dxH) : Option (List Value × dxH) := match S with
  | .int i :: .ref a :: r => match H[a]? with
    | some (.inl (t', n, .inl f)) => if t' = t ∧ dxIn i n = true then some (.int (f i.toNatClampNeg) :: r, H) else none
    | _ => none
  | .int i :: .float u :: r => if t = 0 ∧ u.toNat < 5 ∧ dxIn i (tb u.toNat).1 = true then some (.int ((tb u.toNat).2 i.toNatClampNeg) :: r, H) else none
  | _ => none
def dxASt (t : Nat) (S : List Value) (H : dxH) : Option (List Value × dxH) := match S with
  | .int x :: .int i :: .ref a :: r => match H[a]? with
    | some (.inl (t', n, .inl f)) => if t' = t ∧ dxIn i n = true ∧ (t = 1 → vp_nar .boolean x = x) then some (r, H.set a (.inl (t, n, .inl (upd f i.toNatClampNeg x)))) else none
    | _ => none
  | _ => none
def dxQLd (S : List Value) (H : dxH) : Option (List Value × dxH) := match S with
  | .int i :: .ref a :: r => match H[a]? with
    | some (.inl (t', n, .inr (.inr (.inr (.inr f))))) => if t' = 2 ∧ dxIn i n = true then some (va_rf (f i.toNatClampNeg) :: r, H) else none
    | _ => none
  | _ => none
def dxQSt (S : List Value) (H : dxH) : Option (List Value × dxH) := match S with
  | .ref v :: .int i :: .ref a :: r => match H[a]?, H[v]? with
    | some (.inl (t', n, .inr (.inr (.inr (.inr f))))), some (.inr (3, _)) => if t' = 2 ∧ dxIn i n = true then some (r, H.set a (.inl (2, n, .inr (.inr (.inr (.inr (va_up f i.toNatClampNeg (some v)))))))) else none
    | _, _ => none
  | _ => none
def dxLen (tb : dxT) (S : List Value) (H : dxH) : Option (List Value × dxH) := match S with
  | .ref a :: r => match H[a]? with
    | some (.inl (t', n, _)) => if t' < 3 then some (.int (Int32.ofNat n) :: r, H) else none
    | _ => none
  | .float u :: r => if u.toNat < 5 then some (.int (Int32.ofNat (tb u.toNat).1) :: r, H) else none
  | _ => none
def dxHp (tb : dxT) (k : Nat) (i : Instr) (n : Nat) (S : List Value) (H : dxH) : Option (List Value × dxH) := match i, n with
  | .getfield idx, 3 => dxGet (dxCi k) idx S H
  | .putfield idx, 3 => dxPut k idx S H
  | .iaload, 1 => dxALd 0 tb S H
  | .baload, 1 => dxALd 1 tb S H
  | .iastore, 1 => dxASt 0 S H
  | .bastore, 1 => dxASt 1 S H
  | .aaload, 1 => dxQLd S H
  | .aastore, 1 => dxQSt S H
  | .arraylength, 1 => dxLen tb S H
  | .getstatic idx, 3 => match dxS (dxCi k) idx with
    | some (u, _) => some (.float (UInt32.ofNat u) :: S, H)
    | none => none
  | _, _ => none
-- new cells
def dxDef (t : FieldType) : Value := match t with
  | .int => .int 0
  | .boolean => .int 0
  | .long => .long 0
  | _ => .null
def dxNwA (t : Nat) (S : List Value) (H : dxH) (z : Nat) : Option (List Value × dxH × Nat) := match S with
  | .int m :: r => if ¬ m < 0 ∧ m.toNatClampNeg ≤ 100000 then some (.ref H.length :: r, H ++ [.inl (t, m.toNatClampNeg, .inl (fun _ => 0))], z + m.toNatClampNeg) else none
  | _ => none
def dxNw (k : Nat) (i : Instr) (n : Nat) (S : List Value) (H : dxH) (z : Nat) : Option (List Value × dxH × Nat) := match i, n with
  | .new idx, 3 => match dxC (dxCi k) idx with
    | some (c, _) => if c < 9 then some (.ref H.length :: S, H ++ [.inr (c, (List.range (dxCl c).2.2).map (fun j => dxDef (dxTyp c j)))], z + (dxCl c).2.2) else none
    | none => none
  | .newarray .int, 2 => dxNwA 0 S H z
  | .newarray .boolean, 2 => dxNwA 1 S H z
  | .anewarray idx, 3 => match dxC (dxCi k) idx with
    | some (3, _) => match S with
      | .int m :: r => if ¬ m < 0 ∧ m.toNatClampNeg ≤ 100000 then some (.ref H.length :: r, H ++ [.inl (2, m.toNatClampNeg, .inr (.inr (.inr (.inr (fun _ => none)))))], z + m.toNatClampNeg) else none
      | _ => none
    | _ => none
  | _, _ => none
-- the JDK's own
def dxW8 (S : List Value) : Bool := decide ((S.map fun v => v.category).sum ≤ 8)
def dxCpy (S : List Value) (H : dxH) : Option (List Value × dxH) := match S with
  | .int m :: .int dp :: .ref a :: .int sp :: .ref b :: r => match H[b]?, H[a]? with
    | some (.inl (0, n0, .inl f)), some (.inl (0, n1, .inl g)) => if dxW8 r = true ∧ ¬ sp < 0 ∧ ¬ dp < 0 ∧ ¬ m < 0 ∧ sp.toNatClampNeg + m.toNatClampNeg ≤ n0 ∧ dp.toNatClampNeg + m.toNatClampNeg ≤ n1 then some (r, H.set a (.inl (0, n1, .inl (va_cpy f g sp.toNatClampNeg dp.toNatClampNeg m.toNatClampNeg)))) else none
    | _, _ => none
  | _ => none
def dxBi (k : Nat) (i : Instr) (n : Nat) (S : List Value) (H : dxH) : Option (List Value × dxH) := match i, n with
  | .invokespecial idx, 3 => match dxLk (dxCi k) idx with
    | some (5, _) => match S with
      | .ref _ :: r => if dxW8 r = true ∧ 1 ≤ dxFr k ∧ 21 ≤ dxLo k then some (r, H) else none
      | _ => none
    | _ => none
  | .invokestatic idx, 3 => if 1 ≤ dxFr k ∧ 21 ≤ dxLo k then (match dxLk (dxCi k) idx with
    | some (6, _) => match S with
      | .int x :: r => if dxW8 r = true then some (.int (if 0 ≤ x then x else 0 - x) :: r, H) else none
      | _ => none
    | some (7, _) => match S with
      | .int y :: .int x :: r => if dxW8 r = true then some (.int (if y < x then y else x) :: r, H) else none
      | _ => none
    | some (8, _) => match S with
      | .int y :: .int x :: r => if dxW8 r = true then some (.int (if x < y then y else x) :: r, H) else none
      | _ => none
    | some (9, _) => if 26 ≤ dxLo k then dxCpy S H else none
    | _ => none) else none
  | _, _ => none
/-- a step that is no call of ours and no return -/
def dxStep (tb : dxT) (k : Nat) (i : Instr) (n pc : Nat) (L : dxL) (S : List Value) (H : dxH) (z : Nat) : Option (Nat × dxL × List Value × dxH × Nat) := match dxPop i n S with
  | some S' => some (pc + n, L, S', H, z)
  | none => match dxLoc i n L S with
    | some (L', S') => some (pc + n, L', S', H, z)
    | none => match dxJmp i n pc S with
      | some (pc', S') => some (pc', L, S', H, z)
      | none => match dxKst (dxCi k) i n S with
        | some S' => some (pc + n, L, S', H, z)
        | none => match dxHp tb k i n S H with
          | some (S', H') => some (pc + n, L, S', H', z)
          | none => match dxNw k i n S H z with
            | some (S', H', z') => some (pc + n, L, S', H', z')
            | none => match dxBi k i n S H with
              | some (S', H') => some (pc + n, L, S', H', z)
              | none => none
/-- a return -/
def dxRet (k : Nat) (i : Instr) (n : Nat) (S : List Value) : Option (Option Value) := match i, n with
  | .ireturn, 1 => match S with
    | [.int v] => if dxRt k = some .int ∨ (dxRt k = some .boolean ∧ v &&& 1 = v) then some (some (.int v)) else none
    | _ => none
  | .lreturn, 1 => match S with
    | [.long v] => if dxRt k = some .long then some (some (.long v)) else none
    | _ => none
  | .areturn, 1 => match S, dxRt k with
    | [.ref a], some (.object _) => some (some (.ref a))
    | [.null], some (.object _) => some (some .null)
    | _, _ => none
  | .return_, 1 => match S with
    | [] => if dxRt k = none then some none else none
    | _ => none
  | _, _ => none
/-- a call of ours: the method, how many values it takes from the stack (its receiver too) -/
def dxNp (k : Nat) : Nat := ((parseMethodDescriptor (dxY k).desc).map (fun d => d.parameters.length)).getD 0
def dxCal (k : Nat) (i : Instr) (n : Nat) : Option (Nat × Nat) := match i, n with
  | .invokevirtual idx, 3 => match dxLk (dxCi k) idx with
    | some (0, y, _) => some (y, dxNp y + 1)
    | _ => none
  | .invokestatic idx, 3 => match dxLk (dxCi k) idx with
    | some (1, y, _) => some (y, dxNp y)
    | some (2, y, _) => some (y, dxNp y)
    | _ => none
  | .invokespecial idx, 3 => match dxLk (dxCi k) idx with
    | some (3, y, _) => some (y, dxNp y + 1)
    | some (4, y, _) => some (y, dxNp y + 1)
    | _ => none
  | _, _ => none
/-- a method's locals at its entry -/
def dxArg : List Value → dxL
  | [] => []
  | v :: vs => if v.category = 2 then some v :: none :: dxArg vs else some v :: dxArg vs
def dxEnt (k : Nat) (vs : List Value) : dxL := dxArg vs ++ List.replicate (dxMl k - (dxArg vs).length) none
/-- the receiver of a call is an object of the method's class -/
def dxRcv (k y : Nat) (i : Instr) (vs : List Value) (H : dxH) : Bool := match i with
  | .invokestatic _ => true
  | .invokespecial _ => match vs with
    | .ref _ :: _ => true
    | _ => false
  | _ => match vs with
    | .ref a :: _ => match H[a]? with
      | some (.inr (c, _)) => decide (c = dxCi y) && decide (c < 9)
      | _ => false
    | _ => false
def dxRun (tb : dxT) : Nat → Nat → Nat → dxL → List Value → dxH → Nat → Option (Option Value × dxH × Nat)
  | 0, _, _, _, _, _, _ => none
  | f + 1, k, pc, L, S, H, z => match dxI k pc with
    | none => none
    | some (i, n) => match dxRet k i n S with
      | some r => some (r, H, z)
      | none => match dxCal k i n with
        | some (y, na) => if na ≤ S.length ∧ (dxArg (S.take na).reverse).length ≤ dxMl y ∧ dxRcv k y i (S.take na).reverse H = true ∧ dxW8 (S.drop na) = true ∧ dxFr y + 1 ≤ dxFr k ∧ 8 + (dxMl y + 11) + dxLo y ≤ dxLo k then
            (match dxRun tb f y 0 (dxEnt y (S.take na).reverse) [] H z with
            | some (r, H', z') => dxRun tb f k (pc + 3) L (r.toList ++ S.drop na) H' z'
            | none => none) else none
        | none => match dxStep tb k i n pc L S H z with
          | some (pc', L', S', H', z') => dxRun tb f k pc' L' S' H' z'
          | none => none
end
section
/-! the methods' code words, by program -/
theorem dxMc0 : lw_tbl[126]? = some (Cond.code (dxY 0) (dxB 0) (dxMl 0) (dxRt 0)) := by decide +kernel
theorem dxMc1 : lw_tbl[322]? = some (Cond.code (dxY 1) (dxB 1) (dxMl 1) (dxRt 1)) := by decide +kernel
theorem dxMc2 : lw_tbl[461]? = some (Cond.code (dxY 2) (dxB 2) (dxMl 2) (dxRt 2)) := by decide +kernel
theorem dxMc3 : lw_tbl[370]? = some (Cond.code (dxY 3) (dxB 3) (dxMl 3) (dxRt 3)) := by decide +kernel
theorem dxMc4 : lw_tbl[465]? = some (Cond.code (dxY 4) (dxB 4) (dxMl 4) (dxRt 4)) := by decide +kernel
theorem dxMc5 : lw_tbl[180]? = some (Cond.code (dxY 5) (dxB 5) (dxMl 5) (dxRt 5)) := by decide +kernel
theorem dxMc6 : lw_tbl[530]? = some (Cond.code (dxY 6) (dxB 6) (dxMl 6) (dxRt 6)) := by decide +kernel
theorem dxMc7 : lw_tbl[542]? = some (Cond.code (dxY 7) (dxB 7) (dxMl 7) (dxRt 7)) := by decide +kernel
theorem dxMc8 : lw_tbl[534]? = some (Cond.code (dxY 8) (dxB 8) (dxMl 8) (dxRt 8)) := by decide +kernel
theorem dxMc9 : lw_tbl[547]? = some (Cond.code (dxY 9) (dxB 9) (dxMl 9) (dxRt 9)) := by decide +kernel
theorem dxMc10 : lw_tbl[551]? = some (Cond.code (dxY 10) (dxB 10) (dxMl 10) (dxRt 10)) := by decide +kernel
theorem dxMc11 : lw_tbl[76]? = some (Cond.code (dxY 11) (dxB 11) (dxMl 11) (dxRt 11)) := by decide +kernel
theorem dxMc12 : lw_tbl[287]? = some (Cond.code (dxY 12) (dxB 12) (dxMl 12) (dxRt 12)) := by decide +kernel
theorem dxMc13 : lw_tbl[314]? = some (Cond.code (dxY 13) (dxB 13) (dxMl 13) (dxRt 13)) := by decide +kernel
theorem dxMc14 : lw_tbl[310]? = some (Cond.code (dxY 14) (dxB 14) (dxMl 14) (dxRt 14)) := by decide +kernel
theorem dxMc15 : lw_tbl[318]? = some (Cond.code (dxY 15) (dxB 15) (dxMl 15) (dxRt 15)) := by decide +kernel
theorem dxMc16 : lw_tbl[349]? = some (Cond.code (dxY 16) (dxB 16) (dxMl 16) (dxRt 16)) := by decide +kernel
theorem dxMc17 : lw_tbl[357]? = some (Cond.code (dxY 17) (dxB 17) (dxMl 17) (dxRt 17)) := by decide +kernel
theorem dxMc18 : lw_tbl[92]? = some (Cond.code (dxY 18) (dxB 18) (dxMl 18) (dxRt 18)) := by decide +kernel
theorem dxMc19 : lw_tbl[291]? = some (Cond.code (dxY 19) (dxB 19) (dxMl 19) (dxRt 19)) := by decide +kernel
theorem dxMc20 : lw_tbl[382]? = some (Cond.code (dxY 20) (dxB 20) (dxMl 20) (dxRt 20)) := by decide +kernel
theorem dxMc21 : lw_tbl[306]? = some (Cond.code (dxY 21) (dxB 21) (dxMl 21) (dxRt 21)) := by decide +kernel
theorem dxMc22 : lw_tbl[586]? = some (Cond.code (dxY 22) (dxB 22) (dxMl 22) (dxRt 22)) := by decide +kernel
theorem dxMc23 : lw_tbl[345]? = some (Cond.code (dxY 23) (dxB 23) (dxMl 23) (dxRt 23)) := by decide +kernel
theorem dxMc24 : lw_tbl[538]? = some (Cond.code (dxY 24) (dxB 24) (dxMl 24) (dxRt 24)) := by decide +kernel
theorem dxMc25 : lw_tbl[341]? = some (Cond.code (dxY 25) (dxB 25) (dxMl 25) (dxRt 25)) := by decide +kernel
theorem dxMc26 : lw_tbl[353]? = some (Cond.code (dxY 26) (dxB 26) (dxMl 26) (dxRt 26)) := by decide +kernel
theorem dxMc27 : lw_tbl[428]? = some (Cond.code (dxY 27) (dxB 27) (dxMl 27) (dxRt 27)) := by decide +kernel
theorem dxMc28 : lw_tbl[628]? = some (Cond.code (dxY 28) (dxB 28) (dxMl 28) (dxRt 28)) := by decide +kernel
theorem dxMc29 : lw_tbl[495]? = some (Cond.code (dxY 29) (dxB 29) (dxMl 29) (dxRt 29)) := by decide +kernel
theorem dxMc30 : lw_tbl[424]? = some (Cond.code (dxY 30) (dxB 30) (dxMl 30) (dxRt 30)) := by decide +kernel
theorem dxMc31 : lw_tbl[332]? = some (Cond.code (dxY 31) (dxB 31) (dxMl 31) (dxRt 31)) := by decide +kernel
theorem dxMc32 : lw_tbl[299]? = some (Cond.code (dxY 32) (dxB 32) (dxMl 32) (dxRt 32)) := by decide +kernel
theorem dxMc33 : lw_tbl[436]? = some (Cond.code (dxY 33) (dxB 33) (dxMl 33) (dxRt 33)) := by decide +kernel
theorem dxMc34 : lw_tbl[440]? = some (Cond.code (dxY 34) (dxB 34) (dxMl 34) (dxRt 34)) := by decide +kernel
theorem dxMc35 : lw_tbl[449]? = some (Cond.code (dxY 35) (dxB 35) (dxMl 35) (dxRt 35)) := by decide +kernel
theorem dxMc36 : lw_tbl[453]? = some (Cond.code (dxY 36) (dxB 36) (dxMl 36) (dxRt 36)) := by decide +kernel
theorem dxMc37 : lw_tbl[518]? = some (Cond.code (dxY 37) (dxB 37) (dxMl 37) (dxRt 37)) := by decide +kernel
theorem dxMc38 : lw_tbl[681]? = some (Cond.code (dxY 38) (dxB 38) (dxMl 38) (dxRt 38)) := by decide +kernel
theorem dxMc39 : lw_tbl[694]? = some (Cond.code (dxY 39) (dxB 39) (dxMl 39) (dxRt 39)) := by decide +kernel
theorem dxMc40 : lw_tbl[361]? = some (Cond.code (dxY 40) (dxB 40) (dxMl 40) (dxRt 40)) := by decide +kernel
theorem dxMc41 : lw_tbl[398]? = some (Cond.code (dxY 41) (dxB 41) (dxMl 41) (dxRt 41)) := by decide +kernel
theorem dxMc42 : lw_tbl[393]? = some (Cond.code (dxY 42) (dxB 42) (dxMl 42) (dxRt 42)) := by decide +kernel
theorem dxMc43 : lw_tbl[389]? = some (Cond.code (dxY 43) (dxB 43) (dxMl 43) (dxRt 43)) := by decide +kernel
theorem dxMc44 : lw_tbl[504]? = some (Cond.code (dxY 44) (dxB 44) (dxMl 44) (dxRt 44)) := by decide +kernel
theorem dxMc45 : lw_tbl[514]? = some (Cond.code (dxY 45) (dxB 45) (dxMl 45) (dxRt 45)) := by decide +kernel
theorem dxMc46 : lw_tbl[402]? = some (Cond.code (dxY 46) (dxB 46) (dxMl 46) (dxRt 46)) := by decide +kernel
theorem dxMc47 : lw_tbl[410]? = some (Cond.code (dxY 47) (dxB 47) (dxMl 47) (dxRt 47)) := by decide +kernel
theorem dxMc48 : lw_tbl[62]? = some (Cond.code (dxY 48) (dxB 48) (dxMl 48) (dxRt 48)) := by decide +kernel
theorem dxMc49 : lw_tbl[237]? = some (Cond.code (dxY 49) (dxB 49) (dxMl 49) (dxRt 49)) := by decide +kernel
theorem dxMc50 : lw_tbl[245]? = some (Cond.code (dxY 50) (dxB 50) (dxMl 50) (dxRt 50)) := by decide +kernel
theorem dxMc51 : lw_tbl[233]? = some (Cond.code (dxY 51) (dxB 51) (dxMl 51) (dxRt 51)) := by decide +kernel
theorem dxMc52 : lw_tbl[257]? = some (Cond.code (dxY 52) (dxB 52) (dxMl 52) (dxRt 52)) := by decide +kernel
theorem dxMc53 : lw_tbl[275]? = some (Cond.code (dxY 53) (dxB 53) (dxMl 53) (dxRt 53)) := by decide +kernel
theorem dxMc54 : lw_tbl[253]? = some (Cond.code (dxY 54) (dxB 54) (dxMl 54) (dxRt 54)) := by decide +kernel
theorem dxMc55 : lw_tbl[271]? = some (Cond.code (dxY 55) (dxB 55) (dxMl 55) (dxRt 55)) := by decide +kernel
theorem dxMc56 : lw_tbl[295]? = some (Cond.code (dxY 56) (dxB 56) (dxMl 56) (dxRt 56)) := by decide +kernel
theorem dxMc57 : lw_tbl[132]? = some (Cond.code (dxY 57) (dxB 57) (dxMl 57) (dxRt 57)) := by decide +kernel
theorem dxMc58 : lw_tbl[378]? = some (Cond.code (dxY 58) (dxB 58) (dxMl 58) (dxRt 58)) := by decide +kernel
theorem dxMc59 : lw_tbl[374]? = some (Cond.code (dxY 59) (dxB 59) (dxMl 59) (dxRt 59)) := by decide +kernel
theorem dxMc60 : lw_tbl[469]? = some (Cond.code (dxY 60) (dxB 60) (dxMl 60) (dxRt 60)) := by decide +kernel
theorem dxMc61 : lw_tbl[160]? = some (Cond.code (dxY 61) (dxB 61) (dxMl 61) (dxRt 61)) := by decide +kernel
theorem dxMc62 : lw_tbl[620]? = some (Cond.code (dxY 62) (dxB 62) (dxMl 62) (dxRt 62)) := by decide +kernel
theorem dxMc63 : lw_tbl[612]? = some (Cond.code (dxY 63) (dxB 63) (dxMl 63) (dxRt 63)) := by decide +kernel
theorem dxMc64 : lw_tbl[608]? = some (Cond.code (dxY 64) (dxB 64) (dxMl 64) (dxRt 64)) := by decide +kernel
theorem dxMc65 : lw_tbl[636]? = some (Cond.code (dxY 65) (dxB 65) (dxMl 65) (dxRt 65)) := by decide +kernel
theorem dxMc66 : lw_tbl[54]? = some (Cond.code (dxY 66) (dxB 66) (dxMl 66) (dxRt 66)) := by decide +kernel
theorem dxMc67 : lw_tbl[229]? = some (Cond.code (dxY 67) (dxB 67) (dxMl 67) (dxRt 67)) := by decide +kernel
theorem dxMc68 : lw_tbl[241]? = some (Cond.code (dxY 68) (dxB 68) (dxMl 68) (dxRt 68)) := by decide +kernel
theorem dxMc69 : lw_tbl[249]? = some (Cond.code (dxY 69) (dxB 69) (dxMl 69) (dxRt 69)) := by decide +kernel
theorem dxMc70 : lw_tbl[283]? = some (Cond.code (dxY 70) (dxB 70) (dxMl 70) (dxRt 70)) := by decide +kernel
theorem dxMc71 : lw_tbl[327]? = some (Cond.code (dxY 71) (dxB 71) (dxMl 71) (dxRt 71)) := by decide +kernel
theorem dxMc72 : lw_tbl[336]? = some (Cond.code (dxY 72) (dxB 72) (dxMl 72) (dxRt 72)) := by decide +kernel
theorem dxMc73 : lw_tbl[366]? = some (Cond.code (dxY 73) (dxB 73) (dxMl 73) (dxRt 73)) := by decide +kernel
theorem dxMc74 : lw_tbl[420]? = some (Cond.code (dxY 74) (dxB 74) (dxMl 74) (dxRt 74)) := by decide +kernel
theorem dxMc75 : lw_tbl[432]? = some (Cond.code (dxY 75) (dxB 75) (dxMl 75) (dxRt 75)) := by decide +kernel
theorem dxMc76 : lw_tbl[445]? = some (Cond.code (dxY 76) (dxB 76) (dxMl 76) (dxRt 76)) := by decide +kernel
theorem dxMc77 : lw_tbl[457]? = some (Cond.code (dxY 77) (dxB 77) (dxMl 77) (dxRt 77)) := by decide +kernel
theorem dxMc78 : lw_tbl[473]? = some (Cond.code (dxY 78) (dxB 78) (dxMl 78) (dxRt 78)) := by decide +kernel
theorem dxMc79 : lw_tbl[481]? = some (Cond.code (dxY 79) (dxB 79) (dxMl 79) (dxRt 79)) := by decide +kernel
theorem dxMc80 : lw_tbl[509]? = some (Cond.code (dxY 80) (dxB 80) (dxMl 80) (dxRt 80)) := by decide +kernel
theorem dxMc81 : lw_tbl[522]? = some (Cond.code (dxY 81) (dxB 81) (dxMl 81) (dxRt 81)) := by decide +kernel
theorem dxMc82 : lw_tbl[556]? = some (Cond.code (dxY 82) (dxB 82) (dxMl 82) (dxRt 82)) := by decide +kernel
theorem dxMc83 : lw_tbl[570]? = some (Cond.code (dxY 83) (dxB 83) (dxMl 83) (dxRt 83)) := by decide +kernel
theorem dxMc84 : lw_tbl[574]? = some (Cond.code (dxY 84) (dxB 84) (dxMl 84) (dxRt 84)) := by decide +kernel
theorem dxMc85 : lw_tbl[599]? = some (Cond.code (dxY 85) (dxB 85) (dxMl 85) (dxRt 85)) := by decide +kernel
theorem dxMc86 : lw_tbl[604]? = some (Cond.code (dxY 86) (dxB 86) (dxMl 86) (dxRt 86)) := by decide +kernel
theorem dxMc87 : lw_tbl[616]? = some (Cond.code (dxY 87) (dxB 87) (dxMl 87) (dxRt 87)) := by decide +kernel
theorem dxMc88 : lw_tbl[624]? = some (Cond.code (dxY 88) (dxB 88) (dxMl 88) (dxRt 88)) := by decide +kernel
theorem dxMc89 : lw_tbl[642]? = some (Cond.code (dxY 89) (dxB 89) (dxMl 89) (dxRt 89)) := by decide +kernel
theorem dxMc90 : lw_tbl[654]? = some (Cond.code (dxY 90) (dxB 90) (dxMl 90) (dxRt 90)) := by decide +kernel
theorem dxMc91 : lw_tbl[662]? = some (Cond.code (dxY 91) (dxB 91) (dxMl 91) (dxRt 91)) := by decide +kernel
theorem dxMc92 : lw_tbl[666]? = some (Cond.code (dxY 92) (dxB 92) (dxMl 92) (dxRt 92)) := by decide +kernel
theorem dxMc93 : lw_tbl[673]? = some (Cond.code (dxY 93) (dxB 93) (dxMl 93) (dxRt 93)) := by decide +kernel
theorem dxMc94 : lw_tbl[685]? = some (Cond.code (dxY 94) (dxB 94) (dxMl 94) (dxRt 94)) := by decide +kernel
theorem dxMc95 : lw_tbl[690]? = some (Cond.code (dxY 95) (dxB 95) (dxMl 95) (dxRt 95)) := by decide +kernel
theorem dxMc96 : lw_tbl[302]? = some (Cond.code (dxY 96) (dxB 96) (dxMl 96) (dxRt 96)) := by decide +kernel
theorem dxMc97 : lw_tbl[406]? = some (Cond.code (dxY 97) (dxB 97) (dxMl 97) (dxRt 97)) := by decide +kernel
theorem dxMc98 : lw_tbl[676]? = some (Cond.code (dxY 98) (dxB 98) (dxMl 98) (dxRt 98)) := by decide +kernel
theorem dxMc99 : lw_tbl[476]? = some (Cond.code (dxY 99) (dxB 99) (dxMl 99) (dxRt 99)) := by decide +kernel
theorem dxMc100 : lw_tbl[498]? = some (Cond.code (dxY 100) (dxB 100) (dxMl 100) (dxRt 100)) := by decide +kernel
theorem dxMc101 : lw_tbl[491]? = some (Cond.code (dxY 101) (dxB 101) (dxMl 101) (dxRt 101)) := by decide +kernel
theorem dxMc102 : lw_tbl[488]? = some (Cond.code (dxY 102) (dxB 102) (dxMl 102) (dxRt 102)) := by decide +kernel
theorem dxMc103 : lw_tbl[485]? = some (Cond.code (dxY 103) (dxB 103) (dxMl 103) (dxRt 103)) := by decide +kernel
theorem dxMc104 : lw_tbl[582]? = some (Cond.code (dxY 104) (dxB 104) (dxMl 104) (dxRt 104)) := by decide +kernel
theorem dxMc105 : lw_tbl[560]? = some (Cond.code (dxY 105) (dxB 105) (dxMl 105) (dxRt 105)) := by decide +kernel
theorem dxMc106 : lw_tbl[658]? = some (Cond.code (dxY 106) (dxB 106) (dxMl 106) (dxRt 106)) := by decide +kernel
theorem dxMc107 : lw_tbl[632]? = some (Cond.code (dxY 107) (dxB 107) (dxMl 107) (dxRt 107)) := by decide +kernel
theorem dxMc108 : lw_tbl[526]? = some (Cond.code (dxY 108) (dxB 108) (dxMl 108) (dxRt 108)) := by decide +kernel
theorem dxMc109 : lw_tbl[650]? = some (Cond.code (dxY 109) (dxB 109) (dxMl 109) (dxRt 109)) := by decide +kernel
theorem dxMc110 : lw_tbl[646]? = some (Cond.code (dxY 110) (dxB 110) (dxMl 110) (dxRt 110)) := by decide +kernel
theorem dxMc111 : lw_tbl[589]? = some (Cond.code (dxY 111) (dxB 111) (dxMl 111) (dxRt 111)) := by decide +kernel
theorem dxMc112 : lw_tbl[595]? = some (Cond.code (dxY 112) (dxB 112) (dxMl 112) (dxRt 112)) := by decide +kernel
theorem dxMc113 : lw_tbl[563]? = some (Cond.code (dxY 113) (dxB 113) (dxMl 113) (dxRt 113)) := by decide +kernel
theorem dxMc114 : lw_tbl[566]? = some (Cond.code (dxY 114) (dxB 114) (dxMl 114) (dxRt 114)) := by decide +kernel
theorem dxMc115 : lw_tbl[578]? = some (Cond.code (dxY 115) (dxB 115) (dxMl 115) (dxRt 115)) := by decide +kernel
theorem dxMc116 : lw_tbl[699]? = some (Cond.code (dxY 116) (dxB 116) (dxMl 116) (dxRt 116)) := by decide +kernel
theorem dxMc117 : lw_tbl[787]? = some (Cond.code (dxY 117) (dxB 117) (dxMl 117) (dxRt 117)) := by decide +kernel
theorem dxMc118 : lw_tbl[807]? = some (Cond.code (dxY 118) (dxB 118) (dxMl 118) (dxRt 118)) := by decide +kernel
theorem dxMc119 : lw_tbl[935]? = some (Cond.code (dxY 119) (dxB 119) (dxMl 119) (dxRt 119)) := by decide +kernel
theorem dxMc120 : lw_tbl[783]? = some (Cond.code (dxY 120) (dxB 120) (dxMl 120) (dxRt 120)) := by decide +kernel
theorem dxMc121 : lw_tbl[791]? = some (Cond.code (dxY 121) (dxB 121) (dxMl 121) (dxRt 121)) := by decide +kernel
theorem dxMc122 : lw_tbl[811]? = some (Cond.code (dxY 122) (dxB 122) (dxMl 122) (dxRt 122)) := by decide +kernel
theorem dxMc123 : lw_tbl[803]? = some (Cond.code (dxY 123) (dxB 123) (dxMl 123) (dxRt 123)) := by decide +kernel
theorem dxMc124 : lw_tbl[799]? = some (Cond.code (dxY 124) (dxB 124) (dxMl 124) (dxRt 124)) := by decide +kernel
theorem dxMc125 : lw_tbl[815]? = some (Cond.code (dxY 125) (dxB 125) (dxMl 125) (dxRt 125)) := by decide +kernel
theorem dxMc126 : lw_tbl[795]? = some (Cond.code (dxY 126) (dxB 126) (dxMl 126) (dxRt 126)) := by decide +kernel
theorem dxMc127 : lw_tbl[819]? = some (Cond.code (dxY 127) (dxB 127) (dxMl 127) (dxRt 127)) := by decide +kernel
theorem dxMc128 : lw_tbl[831]? = some (Cond.code (dxY 128) (dxB 128) (dxMl 128) (dxRt 128)) := by decide +kernel
theorem dxMc129 : lw_tbl[823]? = some (Cond.code (dxY 129) (dxB 129) (dxMl 129) (dxRt 129)) := by decide +kernel
theorem dxMc130 : lw_tbl[835]? = some (Cond.code (dxY 130) (dxB 130) (dxMl 130) (dxRt 130)) := by decide +kernel
theorem dxMc131 : lw_tbl[827]? = some (Cond.code (dxY 131) (dxB 131) (dxMl 131) (dxRt 131)) := by decide +kernel
theorem dxMc132 : lw_tbl[855]? = some (Cond.code (dxY 132) (dxB 132) (dxMl 132) (dxRt 132)) := by decide +kernel
theorem dxMc133 : lw_tbl[851]? = some (Cond.code (dxY 133) (dxB 133) (dxMl 133) (dxRt 133)) := by decide +kernel
theorem dxMc134 : lw_tbl[859]? = some (Cond.code (dxY 134) (dxB 134) (dxMl 134) (dxRt 134)) := by decide +kernel
theorem dxMc135 : lw_tbl[847]? = some (Cond.code (dxY 135) (dxB 135) (dxMl 135) (dxRt 135)) := by decide +kernel
theorem dxMc136 : lw_tbl[843]? = some (Cond.code (dxY 136) (dxB 136) (dxMl 136) (dxRt 136)) := by decide +kernel
theorem dxMc137 : lw_tbl[839]? = some (Cond.code (dxY 137) (dxB 137) (dxMl 137) (dxRt 137)) := by decide +kernel
theorem dxMc138 : lw_tbl[867]? = some (Cond.code (dxY 138) (dxB 138) (dxMl 138) (dxRt 138)) := by decide +kernel
theorem dxMc139 : lw_tbl[863]? = some (Cond.code (dxY 139) (dxB 139) (dxMl 139) (dxRt 139)) := by decide +kernel
theorem dxMc140 : lw_tbl[871]? = some (Cond.code (dxY 140) (dxB 140) (dxMl 140) (dxRt 140)) := by decide +kernel
theorem dxMc141 : lw_tbl[875]? = some (Cond.code (dxY 141) (dxB 141) (dxMl 141) (dxRt 141)) := by decide +kernel
theorem dxMc142 : lw_tbl[879]? = some (Cond.code (dxY 142) (dxB 142) (dxMl 142) (dxRt 142)) := by decide +kernel
theorem dxMc143 : lw_tbl[888]? = some (Cond.code (dxY 143) (dxB 143) (dxMl 143) (dxRt 143)) := by decide +kernel
theorem dxMc144 : lw_tbl[883]? = some (Cond.code (dxY 144) (dxB 144) (dxMl 144) (dxRt 144)) := by decide +kernel
theorem dxMc145 : lw_tbl[896]? = some (Cond.code (dxY 145) (dxB 145) (dxMl 145) (dxRt 145)) := by decide +kernel
theorem dxMc146 : lw_tbl[892]? = some (Cond.code (dxY 146) (dxB 146) (dxMl 146) (dxRt 146)) := by decide +kernel
theorem dxMc147 : lw_tbl[900]? = some (Cond.code (dxY 147) (dxB 147) (dxMl 147) (dxRt 147)) := by decide +kernel
theorem dxMc148 : lw_tbl[909]? = some (Cond.code (dxY 148) (dxB 148) (dxMl 148) (dxRt 148)) := by decide +kernel
theorem dxMc149 : lw_tbl[913]? = some (Cond.code (dxY 149) (dxB 149) (dxMl 149) (dxRt 149)) := by decide +kernel
theorem dxMc150 : lw_tbl[904]? = some (Cond.code (dxY 150) (dxB 150) (dxMl 150) (dxRt 150)) := by decide +kernel
theorem dxMc151 : lw_tbl[921]? = some (Cond.code (dxY 151) (dxB 151) (dxMl 151) (dxRt 151)) := by decide +kernel
theorem dxMc152 : lw_tbl[917]? = some (Cond.code (dxY 152) (dxB 152) (dxMl 152) (dxRt 152)) := by decide +kernel
theorem dxMc153 : lw_tbl[928]? = some (Cond.code (dxY 153) (dxB 153) (dxMl 153) (dxRt 153)) := by decide +kernel
theorem dxMc154 : lw_tbl[925]? = some (Cond.code (dxY 154) (dxB 154) (dxMl 154) (dxRt 154)) := by decide +kernel
theorem dxMc155 : lw_tbl[938]? = some (Cond.code (dxY 155) (dxB 155) (dxMl 155) (dxRt 155)) := by decide +kernel
theorem dxMc156 : lw_tbl[941]? = some (Cond.code (dxY 156) (dxB 156) (dxMl 156) (dxRt 156)) := by decide +kernel
theorem dxMc157 : lw_tbl[932]? = some (Cond.code (dxY 157) (dxB 157) (dxMl 157) (dxRt 157)) := by decide +kernel
theorem dxMc158 : lw_tbl[945]? = some (Cond.code (dxY 158) (dxB 158) (dxMl 158) (dxRt 158)) := by decide +kernel
theorem dxMc159 : lw_tbl[949]? = some (Cond.code (dxY 159) (dxB 159) (dxMl 159) (dxRt 159)) := by decide +kernel
theorem dxMc160 : lw_tbl[954]? = some (Cond.code (dxY 160) (dxB 160) (dxMl 160) (dxRt 160)) := by decide +kernel
theorem dxMc161 : lw_tbl[962]? = some (Cond.code (dxY 161) (dxB 161) (dxMl 161) (dxRt 161)) := by decide +kernel
theorem dxMc162 : lw_tbl[958]? = some (Cond.code (dxY 162) (dxB 162) (dxMl 162) (dxRt 162)) := by decide +kernel
theorem dxMc163 : lw_tbl[970]? = some (Cond.code (dxY 163) (dxB 163) (dxMl 163) (dxRt 163)) := by decide +kernel
theorem dxMc164 : lw_tbl[974]? = some (Cond.code (dxY 164) (dxB 164) (dxMl 164) (dxRt 164)) := by decide +kernel
theorem dxMc165 : lw_tbl[966]? = some (Cond.code (dxY 165) (dxB 165) (dxMl 165) (dxRt 165)) := by decide +kernel
theorem dxMc166 : lw_tbl[978]? = some (Cond.code (dxY 166) (dxB 166) (dxMl 166) (dxRt 166)) := by decide +kernel
theorem dxMc167 : lw_tbl[984]? = some (Cond.code (dxY 167) (dxB 167) (dxMl 167) (dxRt 167)) := by decide +kernel
theorem dxMc168 : lw_tbl[988]? = some (Cond.code (dxY 168) (dxB 168) (dxMl 168) (dxRt 168)) := by decide +kernel
theorem dxMc169 : lw_tbl[996]? = some (Cond.code (dxY 169) (dxB 169) (dxMl 169) (dxRt 169)) := by decide +kernel
theorem dxMc170 : lw_tbl[1000]? = some (Cond.code (dxY 170) (dxB 170) (dxMl 170) (dxRt 170)) := by decide +kernel
theorem dxMc171 : lw_tbl[1004]? = some (Cond.code (dxY 171) (dxB 171) (dxMl 171) (dxRt 171)) := by decide +kernel
theorem dxMc172 : lw_tbl[260]? = some (Cond.code (dxY 172) (dxB 172) (dxMl 172) (dxRt 172)) := by decide +kernel
theorem dxMc_all : ∀ k, k < 173 → lw_tbl[dxPs k]? = some (Cond.code (dxY k) (dxB k) (dxMl k) (dxRt k))
  | 0, _ => dxMc0
  | 1, _ => dxMc1
  | 2, _ => dxMc2
  | 3, _ => dxMc3
  | 4, _ => dxMc4
  | 5, _ => dxMc5
  | 6, _ => dxMc6
  | 7, _ => dxMc7
  | 8, _ => dxMc8
  | 9, _ => dxMc9
  | 10, _ => dxMc10
  | 11, _ => dxMc11
  | 12, _ => dxMc12
  | 13, _ => dxMc13
  | 14, _ => dxMc14
  | 15, _ => dxMc15
  | 16, _ => dxMc16
  | 17, _ => dxMc17
  | 18, _ => dxMc18
  | 19, _ => dxMc19
  | 20, _ => dxMc20
  | 21, _ => dxMc21
  | 22, _ => dxMc22
  | 23, _ => dxMc23
  | 24, _ => dxMc24
  | 25, _ => dxMc25
  | 26, _ => dxMc26
  | 27, _ => dxMc27
  | 28, _ => dxMc28
  | 29, _ => dxMc29
  | 30, _ => dxMc30
  | 31, _ => dxMc31
  | 32, _ => dxMc32
  | 33, _ => dxMc33
  | 34, _ => dxMc34
  | 35, _ => dxMc35
  | 36, _ => dxMc36
  | 37, _ => dxMc37
  | 38, _ => dxMc38
  | 39, _ => dxMc39
  | 40, _ => dxMc40
  | 41, _ => dxMc41
  | 42, _ => dxMc42
  | 43, _ => dxMc43
  | 44, _ => dxMc44
  | 45, _ => dxMc45
  | 46, _ => dxMc46
  | 47, _ => dxMc47
  | 48, _ => dxMc48
  | 49, _ => dxMc49
  | 50, _ => dxMc50
  | 51, _ => dxMc51
  | 52, _ => dxMc52
  | 53, _ => dxMc53
  | 54, _ => dxMc54
  | 55, _ => dxMc55
  | 56, _ => dxMc56
  | 57, _ => dxMc57
  | 58, _ => dxMc58
  | 59, _ => dxMc59
  | 60, _ => dxMc60
  | 61, _ => dxMc61
  | 62, _ => dxMc62
  | 63, _ => dxMc63
  | 64, _ => dxMc64
  | 65, _ => dxMc65
  | 66, _ => dxMc66
  | 67, _ => dxMc67
  | 68, _ => dxMc68
  | 69, _ => dxMc69
  | 70, _ => dxMc70
  | 71, _ => dxMc71
  | 72, _ => dxMc72
  | 73, _ => dxMc73
  | 74, _ => dxMc74
  | 75, _ => dxMc75
  | 76, _ => dxMc76
  | 77, _ => dxMc77
  | 78, _ => dxMc78
  | 79, _ => dxMc79
  | 80, _ => dxMc80
  | 81, _ => dxMc81
  | 82, _ => dxMc82
  | 83, _ => dxMc83
  | 84, _ => dxMc84
  | 85, _ => dxMc85
  | 86, _ => dxMc86
  | 87, _ => dxMc87
  | 88, _ => dxMc88
  | 89, _ => dxMc89
  | 90, _ => dxMc90
  | 91, _ => dxMc91
  | 92, _ => dxMc92
  | 93, _ => dxMc93
  | 94, _ => dxMc94
  | 95, _ => dxMc95
  | 96, _ => dxMc96
  | 97, _ => dxMc97
  | 98, _ => dxMc98
  | 99, _ => dxMc99
  | 100, _ => dxMc100
  | 101, _ => dxMc101
  | 102, _ => dxMc102
  | 103, _ => dxMc103
  | 104, _ => dxMc104
  | 105, _ => dxMc105
  | 106, _ => dxMc106
  | 107, _ => dxMc107
  | 108, _ => dxMc108
  | 109, _ => dxMc109
  | 110, _ => dxMc110
  | 111, _ => dxMc111
  | 112, _ => dxMc112
  | 113, _ => dxMc113
  | 114, _ => dxMc114
  | 115, _ => dxMc115
  | 116, _ => dxMc116
  | 117, _ => dxMc117
  | 118, _ => dxMc118
  | 119, _ => dxMc119
  | 120, _ => dxMc120
  | 121, _ => dxMc121
  | 122, _ => dxMc122
  | 123, _ => dxMc123
  | 124, _ => dxMc124
  | 125, _ => dxMc125
  | 126, _ => dxMc126
  | 127, _ => dxMc127
  | 128, _ => dxMc128
  | 129, _ => dxMc129
  | 130, _ => dxMc130
  | 131, _ => dxMc131
  | 132, _ => dxMc132
  | 133, _ => dxMc133
  | 134, _ => dxMc134
  | 135, _ => dxMc135
  | 136, _ => dxMc136
  | 137, _ => dxMc137
  | 138, _ => dxMc138
  | 139, _ => dxMc139
  | 140, _ => dxMc140
  | 141, _ => dxMc141
  | 142, _ => dxMc142
  | 143, _ => dxMc143
  | 144, _ => dxMc144
  | 145, _ => dxMc145
  | 146, _ => dxMc146
  | 147, _ => dxMc147
  | 148, _ => dxMc148
  | 149, _ => dxMc149
  | 150, _ => dxMc150
  | 151, _ => dxMc151
  | 152, _ => dxMc152
  | 153, _ => dxMc153
  | 154, _ => dxMc154
  | 155, _ => dxMc155
  | 156, _ => dxMc156
  | 157, _ => dxMc157
  | 158, _ => dxMc158
  | 159, _ => dxMc159
  | 160, _ => dxMc160
  | 161, _ => dxMc161
  | 162, _ => dxMc162
  | 163, _ => dxMc163
  | 164, _ => dxMc164
  | 165, _ => dxMc165
  | 166, _ => dxMc166
  | 167, _ => dxMc167
  | 168, _ => dxMc168
  | 169, _ => dxMc169
  | 170, _ => dxMc170
  | 171, _ => dxMc171
  | 172, _ => dxMc172
  | k + 173, h => absurd h (by omega)
end
section
/-! soundness of the deep interpreter: stack, locals, jumps, constants -/
def dxV (b : Nat) (st : Nat → Nat) (v : Value) : Value := match v with
  | .ref a => .ref (b + a)
  | .float u => .ref (st u.toNat)
  | w => w
theorem dxV_cat (b : Nat) (st : Nat → Nat) (v : Value) : (dxV b st v).category = v.category := by cases v <;> rfl
theorem dxV_sum (b : Nat) (st : Nat → Nat) (S : List Value) : ((S.map (dxV b st)).map fun v => v.category).sum = (S.map fun v => v.category).sum := by
  rw [List.map_map]
  congr 1
  exact List.map_congr_left fun v _ => dxV_cat b st v
/-- the machine's locals hold the interpreter's -/
def dxLs (b : Nat) (st : Nat → Nat) (ls : Array Slot) (nL : Nat) (L : dxL) : Prop := ls.size = nL ∧ lv_wf ls ∧ L.length = nL ∧ ∀ (i : Nat) (v : Value), L[i]? = some (some v) → ls[i]? = some (.val (dxV b st v))
def dxLc (b : Nat) (st : Nat → Nat) (L : dxL) : List (Nat × Value) := (List.range L.length).filterMap (fun i => ((L[i]?).getD none).map (fun v => (i, dxV b st v)))
theorem dxLc_mem {b : Nat} {st : Nat → Nat} {L : dxL} {q : Nat × Value} : q ∈ dxLc b st L ↔ ∃ v, L[q.1]? = some (some v) ∧ q.2 = dxV b st v := by
  unfold dxLc
  rw [List.mem_filterMap]
  constructor
  · rintro ⟨i, hi, h⟩
    cases hx : L[i]? with
    | none => rw [hx] at h; cases h
    | some o =>
      cases o with
      | none => rw [hx] at h; cases h
      | some v => rw [hx] at h; cases h; exact ⟨v, hx, rfl⟩
  · rintro ⟨v, h1, h2⟩
    refine ⟨q.1, List.mem_range.mpr (List.getElem?_eq_some_iff.mp h1).1, ?_⟩
    rw [h1]
    show some (q.1, dxV b st v) = some q
    rw [← h2]
theorem dxLs.has {b : Nat} {st : Nat → Nat} {ls : Array Slot} {nL : Nat} {L : dxL} (h : dxLs b st ls nL L) : lv_has ls nL (dxLc b st L) := ⟨h.1, h.2.1, fun q hq => by
  obtain ⟨v, h1, h2⟩ := dxLc_mem.mp hq
  rw [h2]
  exact h.2.2.2 _ _ h1⟩
theorem dxNo2_spec {b : Nat} {st : Nat → Nat} {L : dxL} {j i : Nat} (h : dxNo2 L j = true) (hi : i + 1 = j) {v : Value} (hv : L[i]? = some (some v)) : (dxV b st v).category = 1 := by
  subst hi
  rw [dxV_cat]
  unfold dxNo2 at h
  simp only [hv] at h
  cases v <;> first | rfl | (simp at h)
theorem dxLs.set {b : Nat} {st : Nat → Nat} {ls' : Array Slot} {nL : Nat} {L : dxL} {j : Nat} {v w : Value} (hw : w = dxV b st v) (hlen : L.length = nL) (hn : dxNo2 L j = true) (hj : j < L.length) (h : lv_has ls' nL ((j, w) :: (dxLc b st L).filter (fun q => !(q.1 == j) && !(q.1 + 1 == j && q.2.category == 2)))) : dxLs b st ls' nL (L.set j (some v)) := by
  subst hw
  refine ⟨h.1, h.2.1, by rw [List.length_set]; exact hlen, fun i u hu => ?_⟩
  by_cases hij : i = j
  · subst hij
    rw [List.getElem?_set_self hj] at hu
    cases hu
    exact h.2.2 (i, _) List.mem_cons_self
  · rw [List.getElem?_set_ne (Ne.symm hij)] at hu
    refine h.2.2 (i, _) (List.mem_cons_of_mem _ (List.mem_filter.mpr ⟨dxLc_mem.mpr ⟨u, hu, rfl⟩, ?_⟩))
    simp only [Bool.and_eq_true, Bool.not_eq_true', beq_eq_false_iff_ne, ne_eq, Bool.and_eq_false_iff]
    refine ⟨hij, ?_⟩
    by_cases h1 : i + 1 = j
    · right
      exact fun z => absurd ((dxNo2_spec (b := b) (st := st) hn h1 hu).symm.trans z) (by decide)
    · left; exact h1
theorem dxLs.setJ {b : Nat} {st : Nat → Nat} {ls' : Array Slot} {nL : Nat} {L : dxL} {j : Nat} {x : Int64} (hlen : L.length = nL) (hn : dxNo2 L j = true) (hj : j + 1 < L.length) (h : lv_has ls' nL ((j, Value.long x) :: (dxLc b st L).filter (fun q => !(q.1 == j) && (!(q.1 == j + 1) && !(q.1 + 1 == j && q.2.category == 2))))) : dxLs b st ls' nL ((L.set j (some (.long x))).set (j + 1) none) := by
  refine ⟨h.1, h.2.1, by rw [List.length_set, List.length_set]; exact hlen, fun i u hu => ?_⟩
  by_cases h2 : i = j + 1
  · subst h2
    rw [List.getElem?_set_self (by rw [List.length_set]; exact hj)] at hu
    cases hu
  · rw [List.getElem?_set_ne (Ne.symm h2)] at hu
    by_cases hij : i = j
    · subst hij
      rw [List.getElem?_set_self (by omega)] at hu
      cases hu
      exact h.2.2 (i, _) List.mem_cons_self
    · rw [List.getElem?_set_ne (Ne.symm hij)] at hu
      refine h.2.2 (i, _) (List.mem_cons_of_mem _ (List.mem_filter.mpr ⟨dxLc_mem.mpr ⟨u, hu, rfl⟩, ?_⟩))
      simp only [Bool.and_eq_true, Bool.not_eq_true', beq_eq_false_iff_ne, ne_eq, Bool.and_eq_false_iff]
      refine ⟨hij, h2, ?_⟩
      by_cases h1 : i + 1 = j
      · right
        exact fun z => absurd ((dxNo2_spec (b := b) (st := st) hn h1 hu).symm.trans z) (by decide)
      · left; exact h1
theorem dxII_ok {f : Int32 → Int32 → Option Value} {S S' : List Value} (h : dxII f S = some S') : ∃ y x r v, S = .int y :: .int x :: r ∧ f x y = some v ∧ S' = v :: r := by
  unfold dxII at h
  split at h
  · rename_i y x r
    cases hv : f x y with
    | none => rw [hv] at h; cases h
    | some v => rw [hv] at h; cases h; exact ⟨y, x, r, v, rfl, hv, rfl⟩
  · cases h
theorem dxJJ_ok {f : Int64 → Int64 → Option Value} {S S' : List Value} (h : dxJJ f S = some S') : ∃ y x r v, S = .long y :: .long x :: r ∧ f x y = some v ∧ S' = v :: r := by
  unfold dxJJ at h
  split at h
  · rename_i y x r
    cases hv : f x y with
    | none => rw [hv] at h; cases h
    | some v => rw [hv] at h; cases h; exact ⟨y, x, r, v, rfl, hv, rfl⟩
  · cases h
theorem dxI1_ok {f : Int32 → Value} {S S' : List Value} (h : dxI1 f S = some S') : ∃ x r, S = .int x :: r ∧ S' = f x :: r := by
  unfold dxI1 at h
  split at h
  · cases h; exact ⟨_, _, rfl, rfl⟩
  · cases h
theorem dxJ1_ok {f : Int64 → Value} {S S' : List Value} (h : dxJ1 f S = some S') : ∃ x r, S = .long x :: r ∧ S' = f x :: r := by
  unfold dxJ1 at h
  split at h
  · cases h; exact ⟨_, _, rfl, rfl⟩
  · cases h
theorem dxJI_ok {f : Int64 → Int32 → Value} {S S' : List Value} (h : dxJI f S = some S') : ∃ y x r, S = .int y :: .long x :: r ∧ S' = f x y :: r := by
  unfold dxJI at h
  split at h
  · cases h; exact ⟨_, _, _, rfl, rfl⟩
  · cases h
theorem dxOne_ok {f : Value → List Value} {S S' : List Value} (h : dxOne f S = some S') : ∃ v r, S = v :: r ∧ v.category = 1 ∧ S' = f v ++ r := by
  unfold dxOne at h
  split at h
  · split at h
    · cases h; exact ⟨_, _, rfl, by assumption, rfl⟩
    · cases h
  · cases h
theorem dxTwo_ok {S S' : List Value} (h : dxTwo S = some S') : ∃ v w r, S = v :: w :: r ∧ v.category = 1 ∧ w.category = 1 ∧ S' = v :: w :: v :: w :: r := by
  unfold dxTwo at h
  split at h
  · split at h
    · rename_i hc
      cases h; exact ⟨_, _, _, rfl, hc.1, hc.2, rfl⟩
    · cases h
  · cases h
section DX1
variable {p : Program} {l : Launch} {e : Env} {R : Room} {s : State} {m : MethodId} {args : Array Value} {below : List Frame} {meth : Method} {c : Code} {H : Heap} {locs : List Loc} {cells slots : Nat} {Q : State → Prop}
variable {cc : ByteArray} {pc : Nat} {ls : Array Slot} {b : Nat} {st : Nat → Nat} {i : Instr} {n : Nat} {S S' : List Value} {L L' : dxL} {nL : Nat}
theorem dxPop_ok (hx : p.tables.exec = Jvm.exec) (hb : c.code = cc) (hd : decode cc pc = .ok (i, n)) (h : dxPop i n S = some S')
    (k : W p l e R s m args below meth c H locs cells slots Q (F0 m (pc + n) ls (S'.map (dxV b st)))) : W p l e R s m args below meth c H locs cells slots Q (F0 m pc ls (S.map (dxV b st))) := by
  unfold dxPop at h
  split at h
  · cases h; exact lv_iconst hx hb hd rfl k
  · cases h; exact lv_bipush hx hb hd rfl k
  · cases h; exact lv_sipush hx hb hd rfl k
  · cases h; exact lv_lconst hx hb hd rfl k
  · cases h; exact lv_null hx hb hd k
  · obtain ⟨v, r, rfl, hv, rfl⟩ := dxOne_ok h; exact lv_dup hx hb hd (by rw [dxV_cat]; exact hv) k
  · obtain ⟨v, r, rfl, hv, rfl⟩ := dxOne_ok h; exact lv_pop hx hb hd (by rw [dxV_cat]; exact hv) k
  · obtain ⟨v, w, r, rfl, hv, hw, rfl⟩ := dxTwo_ok h; exact lv_dup2_11 hx hb hd (by rw [dxV_cat]; exact hv) (by rw [dxV_cat]; exact hw) k
  · obtain ⟨y, x, r, v, rfl, hv, rfl⟩ := dxII_ok h; cases hv; exact lv_iadd hx hb hd k
  · obtain ⟨y, x, r, v, rfl, hv, rfl⟩ := dxII_ok h; cases hv; exact lv_isub hx hb hd k
  · obtain ⟨y, x, r, v, rfl, hv, rfl⟩ := dxII_ok h; cases hv; exact lv_imul hx hb hd k
  · obtain ⟨y, x, r, v, rfl, hv, rfl⟩ := dxII_ok h
    by_cases hy : y = 0
    · rw [if_pos hy] at hv; cases hv
    · rw [if_neg hy] at hv; cases hv; exact lv_idiv hx hb hd hy k
  · obtain ⟨y, x, r, v, rfl, hv, rfl⟩ := dxII_ok h
    by_cases hy : y = 0
    · rw [if_pos hy] at hv; cases hv
    · rw [if_neg hy] at hv; cases hv; exact lv_irem hx hb hd hy k
  · obtain ⟨y, x, r, v, rfl, hv, rfl⟩ := dxII_ok h; cases hv; exact lv_iand hx hb hd k
  · obtain ⟨y, x, r, v, rfl, hv, rfl⟩ := dxII_ok h; cases hv; exact lv_ior hx hb hd k
  · obtain ⟨y, x, r, v, rfl, hv, rfl⟩ := dxII_ok h; cases hv; exact lv_ixor hx hb hd k
  · obtain ⟨y, x, r, v, rfl, hv, rfl⟩ := dxII_ok h; cases hv; exact lv_ishl hx hb hd k
  · obtain ⟨y, x, r, v, rfl, hv, rfl⟩ := dxII_ok h; cases hv; exact lv_ishr hx hb hd k
  · obtain ⟨y, x, r, v, rfl, hv, rfl⟩ := dxII_ok h; cases hv; exact lv_iushr hx hb hd rfl k
  · obtain ⟨x, r, rfl, rfl⟩ := dxI1_ok h; exact lv_ineg hx hb hd k
  · obtain ⟨x, r, rfl, rfl⟩ := dxI1_ok h; exact lv_i2l hx hb hd rfl k
  · obtain ⟨x, r, rfl, rfl⟩ := dxJ1_ok h; exact lv_l2i hx hb hd rfl k
  · obtain ⟨y, x, r, v, rfl, hv, rfl⟩ := dxJJ_ok h; cases hv; exact lv_ladd hx hb hd k
  · obtain ⟨y, x, r, v, rfl, hv, rfl⟩ := dxJJ_ok h; cases hv; exact lv_lmul hx hb hd k
  · obtain ⟨y, x, r, v, rfl, hv, rfl⟩ := dxJJ_ok h; cases hv; exact lv_land hx hb hd k
  · obtain ⟨y, x, r, v, rfl, hv, rfl⟩ := dxJJ_ok h; cases hv; exact lv_lor hx hb hd k
  · obtain ⟨y, x, r, v, rfl, hv, rfl⟩ := dxJJ_ok h
    by_cases hy : y = 0
    · rw [if_pos hy] at hv; cases hv
    · rw [if_neg hy] at hv; cases hv; exact lv_lrem hx hb hd hy k
  · obtain ⟨y, x, r, v, rfl, hv, rfl⟩ := dxJJ_ok h; cases hv; exact W.lcmp hx hb hd k
  · obtain ⟨y, x, r, rfl, rfl⟩ := dxJI_ok h; exact lv_lshl hx hb hd rfl k
  · obtain ⟨y, x, r, rfl, rfl⟩ := dxJI_ok h; exact lv_lushr hx hb hd rfl k
  · cases h
theorem dxLdI_ok {j : Nat} (h : dxLdI L j S = some (L', S')) (hl : dxLs b st ls nL L) : ∃ x, ls[j]? = some (.val (.int x)) ∧ L' = L ∧ S' = .int x :: S := by
  unfold dxLdI at h
  split at h
  · rename_i x hv
    cases h; exact ⟨x, hl.2.2.2 _ _ hv, rfl, rfl⟩
  · cases h
theorem dxLdJ_ok {j : Nat} (h : dxLdJ L j S = some (L', S')) (hl : dxLs b st ls nL L) : ∃ x, ls[j]? = some (.val (.long x)) ∧ L' = L ∧ S' = .long x :: S := by
  unfold dxLdJ at h
  split at h
  · rename_i x hv
    cases h; exact ⟨x, hl.2.2.2 _ _ hv, rfl, rfl⟩
  · cases h
theorem dxLdA_ok {j : Nat} (h : dxLdA L j S = some (L', S')) (hl : dxLs b st ls nL L) : ∃ a v, ls[j]? = some (.val (.ref a)) ∧ L' = L ∧ S' = v :: S ∧ dxV b st v = .ref a := by
  unfold dxLdA at h
  split at h
  · rename_i x hv
    cases h; exact ⟨_, _, hl.2.2.2 _ _ hv, rfl, rfl, rfl⟩
  · rename_i x hv
    cases h; exact ⟨_, _, hl.2.2.2 _ _ hv, rfl, rfl, rfl⟩
  · cases h
theorem dxStI_ok {j : Nat} (h : dxStI L j S = some (L', S')) : ∃ x, S = .int x :: S' ∧ j < L.length ∧ dxNo2 L j = true ∧ L' = L.set j (some (.int x)) := by
  unfold dxStI at h
  split at h
  · split at h
    · rename_i hc
      cases h; exact ⟨_, rfl, hc.1, hc.2, rfl⟩
    · cases h
  · cases h
theorem dxStA_ok {j : Nat} (h : dxStA L j S = some (L', S')) : ∃ x, S = .ref x :: S' ∧ j < L.length ∧ dxNo2 L j = true ∧ L' = L.set j (some (.ref x)) := by
  unfold dxStA at h
  split at h
  · split at h
    · rename_i hc
      cases h; exact ⟨_, rfl, hc.1, hc.2, rfl⟩
    · cases h
  · cases h
theorem dxStJ_ok {j : Nat} (h : dxStJ L j S = some (L', S')) : ∃ x, S = .long x :: S' ∧ j + 1 < L.length ∧ dxNo2 L j = true ∧ L' = (L.set j (some (.long x))).set (j + 1) none := by
  unfold dxStJ at h
  split at h
  · split at h
    · rename_i hc
      cases h; exact ⟨_, rfl, hc.1, hc.2, rfl⟩
    · cases h
  · cases h
theorem dxLoc_ok (hx : p.tables.exec = Jvm.exec) (hb : c.code = cc) (hd : decode cc pc = .ok (i, n)) (hl : dxLs b st ls nL L) (h : dxLoc i n L S = some (L', S'))
    (k : ∀ ls' : Array Slot, dxLs b st ls' nL L' → W p l e R s m args below meth c H locs cells slots Q (F0 m (pc + n) ls' (S'.map (dxV b st)))) : W p l e R s m args below meth c H locs cells slots Q (F0 m pc ls (S.map (dxV b st))) := by
  have hlen := hl.2.2.1
  unfold dxLoc at h
  split at h
  · obtain ⟨x, h1, rfl, rfl⟩ := dxLdI_ok h hl; exact lv_iload_n hx hb hd rfl h1 (k ls hl)
  · obtain ⟨x, h1, rfl, rfl⟩ := dxLdI_ok h hl; exact lv_iload hx hb hd h1 (k ls hl)
  · obtain ⟨x, h1, rfl, rfl⟩ := dxLdJ_ok h hl; exact lv_lload_n hx hb hd rfl h1 (k ls hl)
  · obtain ⟨x, h1, rfl, rfl⟩ := dxLdJ_ok h hl; exact lv_lload hx hb hd h1 (k ls hl)
  · obtain ⟨x, v, h1, rfl, rfl, hv⟩ := dxLdA_ok h hl
    have k := k ls hl
    rw [List.map_cons, hv] at k
    exact lv_aload_n hx hb hd rfl h1 k
  · obtain ⟨x, v, h1, rfl, rfl, hv⟩ := dxLdA_ok h hl
    have k := k ls hl
    rw [List.map_cons, hv] at k
    exact lv_aload hx hb hd h1 k
  · obtain ⟨x, rfl, hj, hn, rfl⟩ := dxStI_ok h
    exact lv_istore_n hx hb hd rfl hl.has (by omega) rfl fun ls' h' => k ls' (dxLs.set rfl hlen hn hj h')
  · obtain ⟨x, rfl, hj, hn, rfl⟩ := dxStI_ok h
    exact lv_istore hx hb hd hl.has (by omega) rfl fun ls' h' => k ls' (dxLs.set rfl hlen hn hj h')
  · obtain ⟨x, rfl, hj, hn, rfl⟩ := dxStA_ok h
    exact lv_astore_n hx hb hd rfl hl.has (by omega) rfl fun ls' h' => k ls' (dxLs.set (v := .ref x) rfl hlen hn hj h')
  · obtain ⟨x, rfl, hj, hn, rfl⟩ := dxStA_ok h
    exact lv_astore hx hb hd hl.has (by omega) rfl fun ls' h' => k ls' (dxLs.set (v := .ref x) rfl hlen hn hj h')
  · obtain ⟨x, rfl, hj, hn, rfl⟩ := dxStJ_ok h
    exact lv_lstore_n hx hb hd rfl hl.has (by omega) rfl fun ls' h' => k ls' (dxLs.setJ hlen hn hj h')
  · obtain ⟨x, rfl, hj, hn, rfl⟩ := dxStJ_ok h
    exact lv_lstore hx hb hd hl.has (by omega) rfl fun ls' h' => k ls' (dxLs.setJ hlen hn hj h')
  · rename_i j d
    split at h
    · rename_i x hv
      split at h
      · rename_i hn
        cases h
        obtain ⟨q, hq⟩ := List.getElem?_of_mem (dxLc_mem (b := b) (st := st) (q := (j, .int x)) |>.mpr ⟨.int x, hv, rfl⟩)
        exact lv_iinc hx hb hd hl.has hq rfl (by have := (List.getElem?_eq_some_iff.mp hv).1; omega) rfl fun ls' h' => k ls' (dxLs.set rfl hlen hn (List.getElem?_eq_some_iff.mp hv).1 h')
      · cases h
    · cases h
  · cases h
theorem dxTg_ok {o : Int} (h : 0 ≤ (pc : Int) + o) : (pc : Int) + o = (dxTg pc o : Int) := by
  unfold dxTg
  omega
theorem dxIf2_ok {f : Int32 → Int32 → Bool} {t u pc' : Nat} (h : dxIf2 f t u S = some (pc', S')) : ∃ y x, S = .int y :: .int x :: S' ∧ pc' = if f x y = true then t else u := by
  unfold dxIf2 at h
  split at h
  · cases h; exact ⟨_, _, rfl, rfl⟩
  · cases h
theorem dxIf1_ok {f : Int32 → Bool} {t u pc' : Nat} (h : dxIf1 f t u S = some (pc', S')) : ∃ x, S = .int x :: S' ∧ pc' = if f x = true then t else u := by
  unfold dxIf1 at h
  split at h
  · cases h; exact ⟨_, rfl, rfl⟩
  · cases h
theorem dxJmp_ok {pc' : Nat} (hx : p.tables.exec = Jvm.exec) (hb : c.code = cc) (hd : decode cc pc = .ok (i, n)) (h : dxJmp i n pc S = some (pc', S'))
    (k : W p l e R s m args below meth c H locs cells slots Q (F0 m pc' ls (S'.map (dxV b st)))) : W p l e R s m args below meth c H locs cells slots Q (F0 m pc ls (S.map (dxV b st))) := by
  unfold dxJmp at h
  split at h
  · split at h
    · rename_i h0; cases h; exact lv_goto hx hb hd (dxTg_ok h0) k
    · cases h
  · split at h
    · rename_i h0; obtain ⟨y, x, rfl, rfl⟩ := dxIf2_ok h
      exact lv_icmp_eq hx hb hd (dxTg_ok h0) (fun q => by rwa [if_pos (by simp [q])] at k) (fun q => by rwa [if_neg (by simp [q])] at k)
    · cases h
  · split at h
    · rename_i h0; obtain ⟨y, x, rfl, rfl⟩ := dxIf2_ok h
      exact lv_icmp_ne hx hb hd (dxTg_ok h0) (fun q => by rwa [if_pos (by simp [q])] at k) (fun q => by rwa [if_neg (by simp [q])] at k)
    · cases h
  · split at h
    · rename_i h0; obtain ⟨y, x, rfl, rfl⟩ := dxIf2_ok h
      exact lv_icmp_lt hx hb hd (dxTg_ok h0) (fun q => by rwa [if_pos (decide_eq_true q)] at k) (fun q => by rwa [if_neg (fun z => q (of_decide_eq_true z))] at k)
    · cases h
  · split at h
    · rename_i h0; obtain ⟨y, x, rfl, rfl⟩ := dxIf2_ok h
      exact lv_icmp_ge hx hb hd (dxTg_ok h0) (fun q => by rwa [if_pos (decide_eq_true q)] at k) (fun q => by rwa [if_neg (fun z => q (of_decide_eq_true z))] at k)
    · cases h
  · split at h
    · rename_i h0; obtain ⟨y, x, rfl, rfl⟩ := dxIf2_ok h
      exact lv_icmp_gt hx hb hd (dxTg_ok h0) (fun q => by rwa [if_pos (decide_eq_true q)] at k) (fun q => by rwa [if_neg (fun z => q (of_decide_eq_true z))] at k)
    · cases h
  · split at h
    · rename_i h0; obtain ⟨y, x, rfl, rfl⟩ := dxIf2_ok h
      exact lv_icmp_le hx hb hd (dxTg_ok h0) (fun q => by rwa [if_pos (decide_eq_true q)] at k) (fun q => by rwa [if_neg (fun z => q (of_decide_eq_true z))] at k)
    · cases h
  · split at h
    · rename_i h0; obtain ⟨x, rfl, rfl⟩ := dxIf1_ok h
      exact lv_if_eq hx hb hd (dxTg_ok h0) (fun q => by rwa [if_pos (decide_eq_true q)] at k) (fun q => by rwa [if_neg (fun z => q (of_decide_eq_true z))] at k)
    · cases h
  · split at h
    · rename_i h0; obtain ⟨x, rfl, rfl⟩ := dxIf1_ok h
      exact lv_if_ne hx hb hd (dxTg_ok h0) (fun q => by rwa [if_pos (decide_eq_true q)] at k) (fun q => by rwa [if_neg (fun z => (of_decide_eq_true z) q)] at k)
    · cases h
  · split at h
    · rename_i h0; obtain ⟨x, rfl, rfl⟩ := dxIf1_ok h
      exact lv_if_lt hx hb hd (dxTg_ok h0) (fun q => by rwa [if_pos (decide_eq_true q)] at k) (fun q => by rwa [if_neg (fun z => q (of_decide_eq_true z))] at k)
    · cases h
  · split at h
    · rename_i h0; obtain ⟨x, rfl, rfl⟩ := dxIf1_ok h
      exact lv_if_ge hx hb hd (dxTg_ok h0) (fun q => by rwa [if_pos (decide_eq_true q)] at k) (fun q => by rwa [if_neg (fun z => q (of_decide_eq_true z))] at k)
    · cases h
  · split at h
    · rename_i h0; obtain ⟨x, rfl, rfl⟩ := dxIf1_ok h
      exact lv_if_gt hx hb hd (dxTg_ok h0) (fun q => by rwa [if_pos (decide_eq_true q)] at k) (fun q => by rwa [if_neg (fun z => q (of_decide_eq_true z))] at k)
    · cases h
  · split at h
    · rename_i h0; obtain ⟨x, rfl, rfl⟩ := dxIf1_ok h
      exact lv_if_le hx hb hd (dxTg_ok h0) (fun q => by rwa [if_pos (decide_eq_true q)] at k) (fun q => by rwa [if_neg (fun z => q (of_decide_eq_true z))] at k)
    · cases h
  · split at h
    · rename_i h0
      split at h
      · cases h; exact lv_ifnull hx hb hd k
      · cases h; exact lv_ifnullN hx hb hd (dxTg_ok h0) k
      · cases h
    · cases h
  · split at h
    · split at h
      · rename_i hr
        split at h
        · rename_i h0; cases h; exact lv_tableOut hx hb hd hr (dxTg_ok h0) k
        · cases h
      · rename_i hr
        split at h
        · rename_i o ho
          split at h
          · rename_i h0; cases h; exact lv_tableIn hx hb hd (fun q => hr (Or.inl q)) (fun q => hr (Or.inr q)) ho (dxTg_ok h0) k
          · cases h
        · cases h
    · cases h
  · cases h
/-- the words of constants, links, fields, classes: among the tables' -/
theorem dx_find {α : Type} {T : List (Nat × Nat × α)} {ci idx : Nat} {v : α} (h : (T.find? (fun q => q.1 == ci && q.2.1 == idx)).map (fun q => q.2.2) = some v) : (ci, idx, v) ∈ T := by
  cases hf : T.find? (fun q => q.1 == ci && q.2.1 == idx) with
  | none => rw [hf] at h; cases h
  | some q =>
    rw [hf] at h
    have h1 := List.find?_some hf
    have h2 := List.mem_of_find?_eq_some hf
    simp only [Bool.and_eq_true, beq_iff_eq] at h1
    obtain ⟨a, b, v'⟩ := q
    simp only [Option.map_some, Option.some.injEq] at h
    simp only at h1
    rw [← h1.1, ← h1.2, ← h]
    exact h2
def dxKw (q : Nat × Nat × (Int32 ⊕ Int64) × Nat) : Cond := match q.2.2.1 with
  | .inl v => .constant (dxR q.1) q.2.1 v
  | .inr v => .constantLong (dxR q.1) q.2.1 v
theorem dxKw_all : ∀ q ∈ dxKT, dxTb[q.2.2.2]? = some (dxKw q) := by decide +kernel
theorem dxKst_ok {ci : Nat} (hx : p.tables.exec = Jvm.exec) (hb : c.code = cc) (hown : s.vm.findClass (dxR ci) = some m.cls) (hts : ∀ w ∈ dxTb, w.before args s = true) (hd : decode cc pc = .ok (i, n)) (h : dxKst ci i n S = some S')
    (k : W p l e R s m args below meth c H locs cells slots Q (F0 m (pc + n) ls (S'.map (dxV b st)))) : W p l e R s m args below meth c H locs cells slots Q (F0 m pc ls (S.map (dxV b st))) := by
  unfold dxKst at h
  split at h
  · split at h
    · rename_i v q hq
      cases h
      exact lv_ldcw hx hb hown (hts _ (List.mem_of_getElem? (dxKw_all _ (dx_find hq)))) hd k
    · cases h
  · split at h
    · rename_i v q hq
      cases h
      exact lv_ldc2 hx hb hown (hts _ (List.mem_of_getElem? (dxKw_all _ (dx_find hq)))) hd k
    · cases h
  · cases h
end DX1
end
section
/-! soundness of the deep interpreter: cells, new cells, the JDK's own -/
def dxAc (b : Nat) (x : vp_A) : vp_A := match x with
  | (n, .inr (.inr (.inr (.inr f)))) => (n, .inr (.inr (.inr (.inr (fun j => (f j).map (fun q => b + q))))))
  | y => y
def dxEc (b : Nat) (st : Nat → Nat) (cy : Nat → ClassId) (e : dxE) : va_E := match e with
  | .inl (t, x) => .inl (cy t, dxAc b x)
  | .inr (c, fs) => .inr (c, fs.map (dxV b st))
def dxWc (b : Nat) (st : Nat → Nat) (cy : Nat → ClassId) (H : dxH) : va_W := H.mapIdx (fun k e => (b + k, dxEc b st cy e))
theorem dxWc_get {b : Nat} {st : Nat → Nat} {cy : Nat → ClassId} {H : dxH} {k : Nat} {e : dxE} (h : H[k]? = some e) : (dxWc b st cy H)[k]? = some (b + k, dxEc b st cy e) := by
  unfold dxWc
  rw [List.getElem?_mapIdx, h]
  rfl
theorem dxWc_inv {b : Nat} {st : Nat → Nat} {cy : Nat → ClassId} {H : dxH} {k : Nat} {q : Nat × va_E} (h : (dxWc b st cy H)[k]? = some q) : ∃ e, H[k]? = some e ∧ q = (b + k, dxEc b st cy e) := by
  unfold dxWc at h
  rw [List.getElem?_mapIdx] at h
  cases hx : H[k]? with
  | none => rw [hx] at h; cases h
  | some e => rw [hx] at h; cases h; exact ⟨e, rfl, rfl⟩
theorem dxWc_set (b : Nat) (st : Nat → Nat) (cy : Nat → ClassId) (H : dxH) (k : Nat) (e : dxE) : dxWc b st cy (H.set k e) = (dxWc b st cy H).set k (b + k, dxEc b st cy e) := by
  apply List.ext_getElem?
  intro j
  by_cases hj : k = j
  · subst hj
    by_cases hl : k < H.length
    · rw [dxWc_get (List.getElem?_set_self hl), List.getElem?_set_self (by unfold dxWc; rw [List.length_mapIdx]; exact hl)]
    · rw [List.getElem?_eq_none (by unfold dxWc; rw [List.length_mapIdx, List.length_set]; omega), List.getElem?_eq_none (by rw [List.length_set]; unfold dxWc; rw [List.length_mapIdx]; omega)]
  · rw [List.getElem?_set_ne hj]
    unfold dxWc
    rw [List.getElem?_mapIdx, List.getElem?_mapIdx, List.getElem?_set_ne hj]
theorem dxWc_app (b : Nat) (st : Nat → Nat) (cy : Nat → ClassId) (H : dxH) (e : dxE) : dxWc b st cy (H ++ [e]) = dxWc b st cy H ++ [(b + H.length, dxEc b st cy e)] := by
  unfold dxWc
  rw [List.mapIdx_append]
  simp
theorem dxWc_D (b : Nat) (st : Nat → Nat) (cy : Nat → ClassId) (H : dxH) : va_D (fun q => b ≤ q) (dxWc b st cy H) := by
  refine ⟨fun i j p q hi hj h => ?_, fun k q hk => ?_⟩
  · obtain ⟨_, -, rfl⟩ := dxWc_inv hi
    obtain ⟨_, -, rfl⟩ := dxWc_inv hj
    simp only at h
    omega
  · obtain ⟨_, -, rfl⟩ := dxWc_inv hk
    exact Nat.le_add_right _ _
def dxTy (cy : Nat → ClassId) : List (ClassId × FieldType) := [(cy 0, .int), (cy 1, .boolean), (cy 2, .object RX3)]
-- the classes
theorem dxCl_at {c : Nat} (h : c < 9) : vwCl[c]? = some ((dxCl c).1, (dxCl c).2.1, (dxCl c).2.2) := by
  have : ∀ c, c < 9 → (vwCl[c]?).isSome = true := by decide +kernel
  have h1 := this c h
  unfold dxCl
  cases hx : vwCl[c]? with
  | none => rw [hx] at h1; cases h1
  | some q => simp [List.getD, hx]
theorem dxCl_R {c : Nat} (h : c < 9) : (dxCl c).1 = dxR c := by
  have : ∀ c, c < 9 → (dxCl c).1 = dxR c := by decide +kernel
  exact this c h
theorem dxCl_uw {c : Nat} (h : c < 9) : ∀ w ∈ u_ws (dxCl c).1 (dxCl c).2.1 (dxCl c).2.2, w ∈ dxTb := by
  have : ∀ c, c < 9 → ∀ w ∈ u_ws (dxCl c).1 (dxCl c).2.1 (dxCl c).2.2, w ∈ dxTb := by decide +kernel
  exact this c h
theorem dxCl_ty {c : Nat} (h : c < 9) : ∀ j, j < (dxCl c).2.2 → parseFieldDescriptor ((dxCl c).2.1 j).2.2.1 = some (dxTyp c j) := by
  have : ∀ c, c < 9 → ∀ j, j < (dxCl c).2.2 → parseFieldDescriptor ((dxCl c).2.1 j).2.2.1 = some (dxTyp c j) := by decide +kernel
  exact this c h
theorem dxCl_nm {c : Nat} (h : c < 9) : ∀ i, i < (dxCl c).2.2 → ∀ j, j < (dxCl c).2.2 → i ≠ j → ((dxCl c).2.1 i).2.1 ≠ ((dxCl c).2.1 j).2.1 := by
  have : ∀ c, c < 9 → ∀ i, i < (dxCl c).2.2 → ∀ j, j < (dxCl c).2.2 → i ≠ j → ((dxCl c).2.1 i).2.1 ≠ ((dxCl c).2.1 j).2.1 := by decide +kernel
  exact this c h
theorem dxCl_in {c : Nat} (h : c < 9) : Cond.instantiable (dxCl c).1 (dxCl c).2.2 ∈ dxTb ∧ Cond.initialized (dxCl c).1 ∈ dxTb := by
  have : ∀ c, c < 9 → Cond.instantiable (dxCl c).1 (dxCl c).2.2 ∈ dxTb ∧ Cond.initialized (dxCl c).1 ∈ dxTb := by decide +kernel
  exact this c h
theorem dxCl_df {c : Nat} (h : c < 9) : ∀ j, j < (dxCl c).2.2 → dxDef (dxTyp c j) = defaultValue (dxTyp c j) := by
  have : ∀ c, c < 9 → ∀ j, j < (dxCl c).2.2 → dxDef (dxTyp c j) = defaultValue (dxTyp c j) := by decide +kernel
  exact this c h
theorem dxFw_all : ∀ q ∈ dxFT, dxTb[q.2.2.2.2]? = some (Cond.fieldLink (dxR q.1) q.2.1 ((dxCl q.2.2.1).2.1 q.2.2.2.1).1 ((dxCl q.2.2.1).2.1 q.2.2.2.1).2.1 ((dxCl q.2.2.1).2.1 q.2.2.2.1).2.2.1) ∧ q.2.2.1 < 9 ∧ q.2.2.2.1 < (dxCl q.2.2.1).2.2 ∧ ((dxCl q.2.2.1).2.1 q.2.2.2.1).1 = dxR q.2.2.1 := by decide +kernel
def dxSn (u : Nat) : String := ["CLOVER_LEAST", "CLOVER_MOST", "COW_LEAST", "COW_MOST"].getD u ""
theorem dxSw_all : ∀ q ∈ dxST, dxTb[q.2.2.2]? = some (Cond.fieldLink (dxR q.1) q.2.1 RX4 (dxSn q.2.2.1) "[I") ∧ q.2.2.1 < 4 := by decide +kernel
theorem dxCw_all : ∀ q ∈ dxCT, dxTb[q.2.2.2]? = some (Cond.classLink (dxR q.1) q.2.1 (dxCl q.2.2.1).1) := by decide +kernel
def dxLkw (q : Nat × Nat × Nat × Nat × Nat × Nat × Nat × Nat) : List (Nat × Cond) := match q with
  | (ci, idx, kind, k, p1, p2, p3, p4) => match kind with
    | 0 => [(p1, .methodLink (dxR ci) idx (dxY k)), (p2, .instanceMethod (dxY k)), (p3, .selects (dxY k).cls (dxY k) (dxY k)), (p4, .initialized (dxY k).cls)]
    | 1 => [(p1, .methodLink (dxR ci) idx (dxY k)), (p2, .static (dxY k)), (p4, .initialized (dxY k).cls)]
    | 2 => [(p2, .static (dxY k)), (p4, .initialized (dxY k).cls)]
    | 3 => [(p1, .methodLink (dxR ci) idx (dxY k)), (p2, .instanceMethod (dxY k)), (p4, .initialized (dxY k).cls)]
    | 4 => [(p2, .instanceMethod (dxY k)), (p4, .initialized (dxY k).cls)]
    | 5 => [(p1, .methodLink (dxR ci) idx Lib.objectInit)]
    | 6 => [(p1, .methodLink (dxR ci) idx Lib.Math.abs.name)]
    | 7 => [(p1, .methodLink (dxR ci) idx Lib.Math.min.name)]
    | 8 => [(p1, .methodLink (dxR ci) idx Lib.Math.max.name)]
    | 9 => [(p1, .methodLink (dxR ci) idx arraycopyName)]
    | _ => []
theorem dxLkw_all : ∀ q ∈ dxLkT, ∀ r ∈ dxLkw q, dxTb[r.1]? = some r.2 := by decide +kernel
theorem dxLk_w {ci idx kind k p1 p2 p3 p4 : Nat} (h : dxLk ci idx = some (kind, k, p1, p2, p3, p4)) {r : Nat × Cond} (hr : r ∈ dxLkw (ci, idx, kind, k, p1, p2, p3, p4)) : r.2 ∈ dxTb := List.mem_of_getElem? (dxLkw_all _ (dx_find h) r hr)
theorem dxNst_all : ∀ q ∈ dxLkT, (q.2.2.1 = 2 ∨ q.2.2.1 = 4) → lw_tbl[q.2.2.2.2.1]? = some (Cond.methodLinkNest (dxR q.1) q.2.1 (dxY q.2.2.2.1) "MilkTruce") := by decide +kernel
theorem dxW_obj : Cond.instanceMethod Lib.objectInit ∈ dxTb ∧ Cond.code Lib.objectInit ⟨#[0xb1]⟩ 1 none ∈ dxTb := by decide +kernel
theorem dxW_math : Cond.static Lib.Math.abs.name ∈ dxTb ∧ Cond.static Lib.Math.min.name ∈ dxTb ∧ Cond.static Lib.Math.max.name ∈ dxTb ∧ Cond.initialized "java/lang/Math" ∈ dxTb ∧ Cond.code Lib.Math.abs.name Lib.Math.abs.code 1 (some .int) ∈ dxTb ∧ Cond.code Lib.Math.min.name Lib.Math.min.code 2 (some .int) ∈ dxTb ∧ Cond.code Lib.Math.max.name Lib.Math.max.code 2 (some .int) ∈ dxTb := by decide +kernel
theorem dxW_copy : Cond.native arraycopyName ∈ dxTb ∧ Cond.static arraycopyName ∈ dxTb ∧ Cond.initialized "java/lang/System" ∈ dxTb := by decide +kernel
theorem dxW_arr : Cond.arrayClass .int ∈ dxTb ∧ Cond.arrayClass .boolean ∈ dxTb := by decide +kernel
theorem dxFit_ok {b : Nat} {st : Nat → Nat} {t : FieldType} {v : Value} (h : dxFit t v = true) : narrow t (dxV b st v) = dxV b st v ∧ fits t (dxV b st v) = true := by
  unfold dxFit at h
  split at h
  · exact ⟨rfl, rfl⟩
  · rename_i x
    simp only [Bool.or_eq_true, beq_iff_eq] at h
    rcases h with rfl | rfl
    · exact ⟨rfl, rfl⟩
    · exact ⟨rfl, rfl⟩
  · exact ⟨rfl, rfl⟩
  · exact ⟨rfl, rfl⟩
  · exact ⟨rfl, rfl⟩
  · cases h
section DX2
variable {p : Program} {l : Launch} {e : Env} {R : Room} {s : State} {m : MethodId} {args : Array Value} {below : List Frame} {meth : Method} {c : Code} {Hp : Heap} {locs : List Loc} {cells slots : Nat} {Q : State → Prop}
variable {cc : ByteArray} {pc : Nat} {ls : Array Slot} {b : Nat} {st : Nat → Nat} {cy : Nat → ClassId} {D : va_G} {i : Instr} {n : Nat} {S S' : List Value} {H H' : dxH} {k idx : Nat} {tb : dxT}
theorem dx_size (h : Hp.size ≤ s.heap.size + cells → W p l e R s m args below meth c Hp locs cells slots Q (F0 m pc ls S)) : W p l e R s m args below meth c Hp locs cells slots Q (F0 m pc ls S) :=
  fun T hT X => h (by rw [← hT]; exact X.heapSize) T hT X
theorem dxGet_ok (hx : p.tables.exec = Jvm.exec) (hb : c.code = cc) (hown : s.vm.findClass (dxR (dxCi k)) = some m.cls) (hts : ∀ w ∈ dxTb, w.before args s = true) (hK : va_K D vwCl (dxTy cy) s) (hP : va_P D vwCl (dxWc b st cy H) Hp) (hd : decode cc pc = .ok (.getfield idx, 3)) (h : dxGet (dxCi k) idx S H = some (S', H'))
    (kk : H' = H → W p l e R s m args below meth c Hp locs cells slots Q (F0 m (pc + 3) ls (S'.map (dxV b st)))) : W p l e R s m args below meth c Hp locs cells slots Q (F0 m pc ls (S.map (dxV b st))) := by
  unfold dxGet at h
  split at h
  · rename_i ci j w hf
    obtain ⟨f1, f2, f3, f4⟩ := dxFw_all _ (dx_find hf)
    split at h
    · rename_i a r
      split at h
      · rename_i c' fs ha
        split at h
        · rename_i hc
          subst hc
          split at h
          · rename_i v hv
            cases h
            refine va_get hx hb hts (dxCl_uw f2) hown hK hP a (dxWc_get ha) (dxCl_at f2) j f3 (hts _ (List.mem_of_getElem? f1)) (fun _ q => q) (v := dxV b st v) ?_ hd (kk rfl)
            rw [List.getElem?_map, hv]
            rfl
          · cases h
        · cases h
      · cases h
    · cases h
  · cases h
theorem dxPut_ok (hx : p.tables.exec = Jvm.exec) (hb : c.code = cc) (hown : s.vm.findClass (dxR (dxCi k)) = some m.cls) (hname : (dxY k).name = "<init>" → meth.name = "<init>") (hts : ∀ w ∈ dxTb, w.before args s = true) (hK : va_K D vwCl (dxTy cy) s) (hP : va_P D vwCl (dxWc b st cy H) Hp) (hS : va_S (fun q => b ≤ q) s.heap Hp locs) (hd : decode cc pc = .ok (.putfield idx, 3)) (h : dxPut k idx S H = some (S', H'))
    (kk : ∀ (Hp' : Heap) (locs' : List Loc), H'.length = H.length → va_P D vwCl (dxWc b st cy H') Hp' → va_S (fun q => b ≤ q) s.heap Hp' locs' → W p l e R s m args below meth c Hp' locs' cells slots Q (F0 m (pc + 3) ls (S'.map (dxV b st)))) : W p l e R s m args below meth c Hp locs cells slots Q (F0 m pc ls (S.map (dxV b st))) := by
  unfold dxPut at h
  split at h
  · rename_i ci j w hf
    obtain ⟨f1, f2, f3, f4⟩ := dxFw_all _ (dx_find hf)
    split at h
    · rename_i v a r
      split at h
      · rename_i c' fs ha
        split at h
        · rename_i hc
          obtain ⟨rfl, hj, hfit, hfin⟩ := hc
          cases h
          have e1 : dxWc b st cy (H.set a (.inr (c', fs.set j v))) = (dxWc b st cy H).set a (b + a, .inr (c', (fs.map (dxV b st)).set j (dxV b st v))) := by
            rw [dxWc_set]
            show List.set _ _ (_, Sum.inr (_, _)) = _
            rw [List.map_set]
          have kk' : ∀ (Hp' : Heap) (locs' : List Loc), va_P D vwCl ((dxWc b st cy H).set a (b + a, .inr (c', (fs.map (dxV b st)).set j (dxV b st v)))) Hp' → va_D (fun q => b ≤ q) ((dxWc b st cy H).set a (b + a, .inr (c', (fs.map (dxV b st)).set j (dxV b st v)))) → va_S (fun q => b ≤ q) s.heap Hp' locs' → W p l e R s m args below meth c Hp' locs' cells slots Q (F0 m (pc + 3) ls (S'.map (dxV b st))) := fun Hp' locs' g1 _ g3 => kk Hp' locs' (by rw [List.length_set]) (by rw [e1]; exact g1) g3
          by_cases hfi : ((dxCl c').2.1 j).2.2.2 = false
          · exact va_put hx hb hts (dxCl_uw f2) (dxTyp c') (dxCl_ty f2) (dxCl_nm f2) hown hK hP (dxWc_D b st cy H) hS a (dxWc_get ha) (dxCl_at f2) j f3 (hts _ (List.mem_of_getElem? f1)) (fun _ q => q) hfi (dxCl_ty f2 j f3) (dxFit_ok hfit).1 (dxFit_ok hfit).2 (by rw [List.length_map]; exact hj) hd kk'
          · rcases hfin with h0 | ⟨h1, h2⟩
            · exact absurd h0 hfi
            · exact va_putF hx hb hts (dxCl_uw f2) (dxTyp c') (dxCl_ty f2) (dxCl_nm f2) hown hK hP (dxWc_D b st cy H) hS a (dxWc_get ha) (dxCl_at f2) j f3 (hts _ (List.mem_of_getElem? f1)) (fun _ q => q) (by simpa using hfi) (hname h1) (by rw [← h2]; exact f4) (dxCl_ty f2 j f3) (dxFit_ok hfit).1 (dxFit_ok hfit).2 (by rw [List.length_map]; exact hj) hd kk'
        · cases h
      · cases h
    · cases h
  · cases h
theorem dxIn_ok {x : Int32} {N : Nat} (h : dxIn x N = true) : vp_in x N := by
  unfold dxIn at h
  show ¬ (x < 0 ∨ N ≤ x.toNatClampNeg)
  exact of_decide_eq_true h
theorem dxUp_q (f : Nat → Option Nat) (j v : Nat) : (fun q => (va_up f j (some v) q).map (fun z => b + z)) = va_up (fun q => (f q).map (fun z => b + z)) j (some (b + v)) := by
  funext q
  unfold va_up
  split <;> rfl
theorem dxHp_ok (hx : p.tables.exec = Jvm.exec) (hb : c.code = cc) (hown : s.vm.findClass (dxR (dxCi k)) = some m.cls) (hname : (dxY k).name = "<init>" → meth.name = "<init>") (hts : ∀ w ∈ dxTb, w.before args s = true) (hK : va_K D vwCl (dxTy cy) s) (hP : va_P D vwCl (dxWc b st cy H) Hp) (hS : va_S (fun q => b ≤ q) s.heap Hp locs)
    (hT : ∀ j, j < 5 → va_T .int (st j) (tb j).1 (fun q => .int ((tb j).2 q)) (fun q => b ≤ q) s s.heap) (hZ : ∀ j, j < 4 → va_Z RX4 (dxSn j) "[I" (.ref (st j)) (fun q => b ≤ q) s s.heap)
    (hd : decode cc pc = .ok (i, n)) (h : dxHp tb k i n S H = some (S', H'))
    (kk : ∀ (Hp' : Heap) (locs' : List Loc), H'.length = H.length → va_P D vwCl (dxWc b st cy H') Hp' → va_S (fun q => b ≤ q) s.heap Hp' locs' → W p l e R s m args below meth c Hp' locs' cells slots Q (F0 m (pc + n) ls (S'.map (dxV b st)))) : W p l e R s m args below meth c Hp locs cells slots Q (F0 m pc ls (S.map (dxV b st))) := by
  have k0 : H' = H → W p l e R s m args below meth c Hp locs cells slots Q (F0 m (pc + n) ls (S'.map (dxV b st))) := fun q => kk Hp locs (by rw [q]) (by rw [q]; exact hP) hS
  have hD := dxWc_D b st cy H
  unfold dxHp at h
  split at h
  · exact dxGet_ok hx hb hown hts hK hP hd h k0
  · exact dxPut_ok hx hb hown hname hts hK hP hS hd h kk
  · unfold dxALd at h
    split at h
    · rename_i x a r
      split at h
      · rename_i t' N f ha
        split at h
        · rename_i hc
          obtain ⟨rfl, hc⟩ := hc
          cases h
          exact va_iald hx hb hK hP a 0 (dxWc_get ha) rfl (dxIn_ok hc) hd (k0 rfl)
        · cases h
      · cases h
    · rename_i x u r
      split at h
      · rename_i hc
        cases h
        exact va_ti hx hb (hT _ hc.2.1) hS (dxIn_ok hc.2.2) rfl hd (k0 rfl)
      · cases h
    · cases h
  · unfold dxALd at h
    split at h
    · rename_i x a r
      split at h
      · rename_i t' N f ha
        split at h
        · rename_i hc
          obtain ⟨rfl, hc⟩ := hc
          cases h
          exact va_zald hx hb hK hP a 1 (dxWc_get ha) rfl (dxIn_ok hc) hd (k0 rfl)
        · cases h
      · cases h
    · split at h
      · rename_i hc
        exact absurd hc.1 (by decide)
      · cases h
    · cases h
  · unfold dxASt at h
    split at h
    · rename_i x y a r
      split at h
      · rename_i t' N f ha
        split at h
        · rename_i hc
          obtain ⟨rfl, hc, -⟩ := hc
          cases h
          exact va_iast hx hb hK hP hD hS a 0 (dxWc_get ha) rfl (dxIn_ok hc) hd (fun Hp' locs' g1 _ g3 => kk Hp' locs' (by rw [List.length_set]) (by rw [dxWc_set]; exact g1) g3)
        · cases h
      · cases h
    · cases h
  · unfold dxASt at h
    split at h
    · rename_i x y a r
      split at h
      · rename_i t' N f ha
        split at h
        · rename_i hc
          obtain ⟨rfl, hc, hz⟩ := hc
          cases h
          exact va_zast hx hb hK hP hD hS a 1 (dxWc_get ha) rfl (dxIn_ok hc) hd (fun Hp' locs' g1 _ g3 => kk Hp' locs' (by rw [List.length_set]) (by rw [dxWc_set]; rw [hz rfl] at g1; exact g1) g3)
        · cases h
      · cases h
    · cases h
  · unfold dxQLd at h
    split at h
    · rename_i x a r
      split at h
      · rename_i t' N f ha
        split at h
        · rename_i hc
          obtain ⟨rfl, hc⟩ := hc
          cases h
          refine va_aldq hx hb hK hP a 2 (dxWc_get ha) rfl (dxIn_ok hc) hd ?_
          have k1 := k0 rfl
          rw [List.map_cons] at k1
          have e1 : dxV b st (va_rf (f x.toNatClampNeg)) = va_rf ((f x.toNatClampNeg).map (fun q => b + q)) := by cases f x.toNatClampNeg <;> rfl
          rw [e1] at k1
          exact k1
        · cases h
      · cases h
    · cases h
  · unfold dxQSt at h
    split at h
    · rename_i v x a r
      split at h
      · rename_i t' N f fs ha hv
        split at h
        · rename_i hc
          obtain ⟨rfl, hc⟩ := hc
          cases h
          refine va_astq hx hb hK hP hD hS a 2 v 3 (dxWc_get ha) rfl (dxWc_get hv) (r := (RX3, TX3, 9)) rfl (dxIn_ok hc) hd (fun Hp' locs' g1 _ g3 => kk Hp' locs' (by rw [List.length_set]) ?_ g3)
          rw [dxWc_set]
          show va_P D vwCl (List.set _ _ (_, Sum.inl (_, _, Sum.inr (Sum.inr (Sum.inr (Sum.inr _)))))) _
          rw [dxUp_q]
          exact g1
        · cases h
      · cases h
    · cases h
  · unfold dxLen at h
    split at h
    · rename_i a r
      split at h
      · rename_i t' N x ha
        split at h
        · rename_i hc
          cases h
          have hlen : (dxAc b (N, x)).1 = N := by
            unfold dxAc
            split
            · rename_i heq; cases heq; rfl
            · rfl
          have ht : ∃ ty, (dxTy cy)[t']? = some (cy t', ty) := by
            match t', hc with
            | 0, _ => exact ⟨_, rfl⟩
            | 1, _ => exact ⟨_, rfl⟩
            | 2, _ => exact ⟨_, rfl⟩
          obtain ⟨ty, ht⟩ := ht
          exact va_alen hx hb hK hP a t' (dxWc_get ha) ht (by rw [hlen]) hd (k0 rfl)
        · cases h
      · cases h
    · rename_i u r
      split at h
      · rename_i hc
        cases h
        exact va_tlen hx hb (hT _ hc) hS rfl hd (k0 rfl)
      · cases h
    · cases h
  · split at h
    · rename_i u w hu
      cases h
      obtain ⟨f1, f2⟩ := dxSw_all _ (dx_find hu)
      refine va_gets hx hb (hZ u f2) hS hown (hts _ (List.mem_of_getElem? f1)) (fun _ q => q) hd ?_
      have k1 := k0 rfl
      rw [List.map_cons] at k1
      have e1 : dxV b st (.float (UInt32.ofNat u)) = .ref (st u) := by
        show Value.ref (st (UInt32.ofNat u).toNat) = _
        have f3 : u < 4 := f2
        have : (UInt32.ofNat u).toNat = u := UInt32.toNat_ofNat_of_lt' (by show u < 4294967296; omega)
        rw [this]
      rw [e1] at k1
      exact k1
    · cases h
  · cases h
end DX2
end
section
/-! soundness of the deep interpreter: new cells, the JDK's own, the step -/
section DX3
variable {p : Program} {l : Launch} {e : Env} {R : Room} {s : State} {m : MethodId} {args : Array Value} {below : List Frame} {meth : Method} {c : Code} {Hp : Heap} {locs : List Loc} {cells slots : Nat} {Q : State → Prop}
variable {cc : ByteArray} {pc : Nat} {ls : Array Slot} {b : Nat} {st : Nat → Nat} {cy : Nat → ClassId} {D : va_G} {i : Instr} {n : Nat} {S S' : List Value} {H H' : dxH} {k idx : Nat} {tb : dxT} {n0 z0 z z' : Nat}
/-- a new cell lies behind the others -/
theorem dx_new_at {H1 : Heap} {q : Nat} {x : va_E} (hP : va_P D vwCl (dxWc b st cy H ++ [(q, x)]) H1) (hD : va_D (fun q => b ≤ q) (dxWc b st cy H ++ [(q, x)])) (hz : H1.size ≤ b + H.length + 1) : q = b + H.length := by
  have hl : (dxWc b st cy H).length = H.length := by unfold dxWc; rw [List.length_mapIdx]
  have h1 : (dxWc b st cy H ++ [(q, x)])[H.length]? = some (q, x) := by
    rw [List.getElem?_append_right (by omega), hl, Nat.sub_self]
    rfl
  have h2 : b ≤ q := hD.2 _ _ h1
  have h3 : q < H1.size := (hP _ _ h1).lt
  rcases Nat.lt_or_ge q (b + H.length) with hq | hq
  · have h4 : q - b < H.length := by omega
    have h5 : (dxWc b st cy H ++ [(q, x)])[q - b]? = some (b + (q - b), dxEc b st cy (H[q - b])) := by
      rw [List.getElem?_append_left (by omega)]
      exact dxWc_get (List.getElem?_eq_getElem h4)
    have h6 := hD.1 _ _ _ _ h5 h1 (by show b + (q - b) = q; omega)
    omega
  · omega
theorem dx_cy {ty : FieldType} {t : Nat} {cA : ClassId} (ht : (dxTy cy)[t]? = some (cy t, ty)) (hK : va_K D vwCl (dxTy cy ++ [(cA, ty)]) s) : cA = cy t := by
  have h1 := (hK.2 (dxTy cy).length (cA, ty) (by rw [List.getElem?_append_right (Nat.le_refl _), Nat.sub_self]; rfl)).2
  have h2 := (hK.2 t (cy t, ty) (by rw [List.getElem?_append_left (List.getElem?_eq_some_iff.mp ht).1]; exact ht)).2
  cases ty with
  | object C =>
    obtain ⟨-, -, -, -, -, e1⟩ := h1
    obtain ⟨-, -, -, -, -, e2⟩ := h2
    exact Option.some.inj (e1.symm.trans e2)
  | _ => exact Option.some.inj (Eq.trans (Eq.symm h1) h2)
theorem dxNwA_ok {t : Nat} {atype : ArrayType} {ty : FieldType} (hx : p.tables.exec = Jvm.exec) (hb : c.code = cc) (hts : ∀ w ∈ dxTb, w.before args s = true) (hK : va_K D vwCl (dxTy cy) s) (hP : va_P D vwCl (dxWc b st cy H) Hp) (hS : va_S (fun q => b ≤ q) s.heap Hp locs)
    (hty : newarray.typeOf atype = ty) (hw : Cond.arrayClass ty ∈ dxTb) (ht : (dxTy cy)[t]? = some (cy t, ty)) (ha : ∀ (cA : ClassId) (N : Nat), vp_cell cA (N, .inl (fun _ => (0 : Int32))) = arrV cA N (fun _ => defaultValue ty)) (hcb : componentBytes ty ≤ 8)
    (hs0 : s.heap.size = b + n0) (hn0 : n0 ≤ H.length) (hz0 : z0 ≤ z) (hc1 : H'.length - n0 ≤ R.cells) (hc2 : z' - z0 ≤ R.slots)
    (hd : decode cc pc = .ok (.newarray atype, 2)) (h : dxNwA t S H z = some (S', H', z'))
    (kk : ∀ (Hp' : Heap) (locs' : List Loc), H.length ≤ H'.length → z ≤ z' → va_P D vwCl (dxWc b st cy H') Hp' → va_S (fun q => b ≤ q) s.heap Hp' locs' → W p l e R s m args below meth c Hp' locs' (H'.length - n0) (z' - z0) Q (F0 m (pc + 2) ls (S'.map (dxV b st)))) : W p l e R s m args below meth c Hp locs (H.length - n0) (z - z0) Q (F0 m pc ls (S.map (dxV b st))) := by
  unfold dxNwA at h
  split at h
  · rename_i x r
    split at h
    · rename_i hc
      cases h
      rw [List.length_append, List.length_singleton] at hc1
      refine va_newa hx hb (atype := atype) (by rw [hty]; exact hts _ hw) hty hK hP (dxWc_D b st cy H) hS (fun q h => by omega) (n := x) (N' := x.toNatClampNeg) (ha := fun cA => ha cA x.toNatClampNeg) hc.1 rfl ?_ (by omega) (by omega) hd (fun q cA H1 hK1 hP1 hD1 hS1 => ?_)
      · exact Nat.le_trans (Nat.mul_le_mul hc.2 hcb) (Nat.le_of_ble_eq_true rfl)
      · refine dx_size fun hz => ?_
        have e1 := dx_new_at hP1 hD1 (by omega)
        have e2 := dx_cy ht hK1
        subst e1
        subst e2
        have e3 : dxWc b st cy (H ++ [.inl (t, x.toNatClampNeg, .inl (fun _ => 0))]) = dxWc b st cy H ++ [(b + H.length, .inl (cy t, x.toNatClampNeg, .inl (fun _ => 0)))] := dxWc_app b st cy H _
        have k1 := kk H1 locs (by rw [List.length_append]; omega) (by omega) (by rw [e3]; exact hP1) hS1
        rw [List.length_append, List.length_singleton, show H.length + 1 - n0 = H.length - n0 + 1 by omega, show z + x.toNatClampNeg - z0 = z - z0 + x.toNatClampNeg by omega] at k1
        exact k1
    · cases h
  · cases h
theorem dxNw_ok (ho : va_AO RX3 s) (hx : p.tables.exec = Jvm.exec) (hb : c.code = cc) (hown : s.vm.findClass (dxR (dxCi k)) = some m.cls) (hts : ∀ w ∈ dxTb, w.before args s = true) (hK : va_K D vwCl (dxTy cy) s) (hP : va_P D vwCl (dxWc b st cy H) Hp) (hS : va_S (fun q => b ≤ q) s.heap Hp locs)
    (hs0 : s.heap.size = b + n0) (hn0 : n0 ≤ H.length) (hz0 : z0 ≤ z) (hc1 : H'.length - n0 ≤ R.cells) (hc2 : z' - z0 ≤ R.slots)
    (hd : decode cc pc = .ok (i, n)) (h : dxNw k i n S H z = some (S', H', z'))
    (kk : ∀ (Hp' : Heap) (locs' : List Loc), H.length ≤ H'.length → z ≤ z' → va_P D vwCl (dxWc b st cy H') Hp' → va_S (fun q => b ≤ q) s.heap Hp' locs' → W p l e R s m args below meth c Hp' locs' (H'.length - n0) (z' - z0) Q (F0 m (pc + n) ls (S'.map (dxV b st)))) : W p l e R s m args below meth c Hp locs (H.length - n0) (z - z0) Q (F0 m pc ls (S.map (dxV b st))) := by
  have hA : ∀ q : Nat, s.heap.size ≤ q → b ≤ q := fun q h => by omega
  unfold dxNw at h
  split at h
  · split at h
    · rename_i idx _ cc' w hf
      split at h
      · rename_i hc9
        cases h
        rw [List.length_append, List.length_singleton] at hc1
        have hcw : Cond.classLink (dxR (dxCi k)) idx (dxCl cc').1 ∈ dxTb := List.mem_of_getElem? (dxCw_all _ (dx_find hf))
        refine va_new hx hb hts (dxCl_uw hc9) (dxTyp cc') (dxCl_ty hc9) hown (hts _ hcw) (hts _ (dxCl_in hc9).1) (hts _ (dxCl_in hc9).2) hK hP (dxWc_D b st cy H) hS hA (dxCl_at hc9) (fs := ((List.range (dxCl cc').2.2).map (fun j => dxDef (dxTyp cc' j))).map (dxV b st)) (fun j hj => ?_) (by omega) (by omega) hd (fun q H1 hP1 hD1 hS1 => ?_)
        · unfold vp_V
          rw [List.map_map, List.getD_eq_getElem?_getD, List.getElem?_map, List.getElem?_range hj]
          show _ = dxV b st (dxDef (dxTyp cc' j))
          have hq := dxCl_df hc9 j hj
          rw [← hq]
          unfold dxDef
          cases dxTyp cc' j <;> rfl
        · refine dx_size fun hz => ?_
          have e1 := dx_new_at hP1 hD1 (by omega)
          subst e1
          have k1 := kk H1 locs (by rw [List.length_append]; omega) (by omega) (by rw [dxWc_app]; exact hP1) hS1
          rw [List.length_append, List.length_singleton, show H.length + 1 - n0 = H.length - n0 + 1 by omega, show z + (dxCl cc').2.2 - z0 = z - z0 + (dxCl cc').2.2 by omega] at k1
          exact k1
      · cases h
    · cases h
  · exact dxNwA_ok (atype := .int) (ty := .int) hx hb hts hK hP hS rfl dxW_arr.1 rfl (fun _ _ => rfl) (by decide) hs0 hn0 hz0 hc1 hc2 hd h kk
  · exact dxNwA_ok (atype := .boolean) (ty := .boolean) hx hb hts hK hP hS rfl dxW_arr.2 rfl (fun _ _ => rfl) (by decide) hs0 hn0 hz0 hc1 hc2 hd h kk
  · split at h
    · rename_i idx _ w hf
      split at h
      · rename_i x r
        split at h
        · rename_i hc
          cases h
          rw [List.length_append, List.length_singleton] at hc1
          have hcw : Cond.classLink (dxR (dxCi k)) idx RX3 ∈ dxTb := List.mem_of_getElem? (dxCw_all _ (dx_find hf))
          refine va_newq hx hb hown (hts _ hcw) ho hK hP (dxWc_D b st cy H) hS hA (n := x) hc.1 rfl ?_ (by omega) (by omega) hd (fun q cA H1 hK1 hP1 hD1 hS1 => ?_)
          · omega
          · refine dx_size fun hz => ?_
            have e1 := dx_new_at hP1 hD1 (by omega)
            have e2 : cA = cy 2 := dx_cy (t := 2) rfl hK1
            subst e1
            subst e2
            have k1 := kk H1 locs (by rw [List.length_append]; omega) (by omega) (by rw [dxWc_app]; exact hP1) hS1
            rw [List.length_append, List.length_singleton, show H.length + 1 - n0 = H.length - n0 + 1 by omega, show z + x.toNatClampNeg - z0 = z - z0 + x.toNatClampNeg by omega] at k1
            exact k1
        · cases h
      · cases h
    · cases h
  · cases h
theorem dxW8_ok (h : dxW8 S = true) : ((S.map (dxV b st)).map fun v => v.category).sum ≤ 8 := by
  rw [dxV_sum]
  unfold dxW8 at h
  exact of_decide_eq_true h
theorem dxBi_ok (hx : p.tables.exec = Jvm.exec) (hb : c.code = cc) (hml : c.maxLocals = ls.size) (hown : s.vm.findClass (dxR (dxCi k)) = some m.cls) (hts : ∀ w ∈ dxTb, w.before args s = true) (hK : va_K D vwCl (dxTy cy) s) (hP : va_P D vwCl (dxWc b st cy H) Hp) (hS : va_S (fun q => b ≤ q) s.heap Hp locs)
    (hfr : dxFr k ≤ R.frames) (hlo : dxLo k ≤ R.locals) (hcl : cells ≤ R.cells) (hsl : slots ≤ R.slots)
    (hd : decode cc pc = .ok (i, n)) (h : dxBi k i n S H = some (S', H'))
    (kk : ∀ (Hp' : Heap) (locs' : List Loc), H'.length = H.length → va_P D vwCl (dxWc b st cy H') Hp' → va_S (fun q => b ≤ q) s.heap Hp' locs' → W p l e R s m args below meth c Hp' locs' cells slots Q (F0 m (pc + n) ls (S'.map (dxV b st)))) : W p l e R s m args below meth c Hp locs cells slots Q (F0 m pc ls (S.map (dxV b st))) := by
  have k0 : H' = H → W p l e R s m args below meth c Hp locs cells slots Q (F0 m (pc + n) ls (S'.map (dxV b st))) := fun q => kk Hp locs (by rw [q]) (by rw [q]; exact hP) hS
  unfold dxBi at h
  split at h
  · split at h
    · rename_i idx w hf
      split at h
      · rename_i a r
        split at h
        · rename_i hc
          obtain ⟨hw, h1, h2⟩ := hc
          cases h
          obtain ⟨w1, w2, w3, w4, w5⟩ := w
          have hsum := dxW8_ok (b := b) (st := st) hw
          refine W.objInit hx hb hown (hts _ (dxLk_w hf (List.mem_cons_self))) (hts _ dxW_obj.1) (hts _ dxW_obj.2) rfl (by rw [hml]) (a := b + a) (rest := S'.map (dxV b st)) rfl hd (by omega) (by show 2 * 0 + _ + 12 ≤ _; omega) (k0 rfl)
        · cases h
      · cases h
    · cases h
  · split at h
    · rename_i hc
      split at h
      · rename_i w hf
        split at h
        · split at h
          · rename_i hw
            cases h
            obtain ⟨w1, w2, w3, w4, w5⟩ := w
            have hsum := dxW8_ok (b := b) (st := st) hw
            exact va_mabs hx hb hml hown (hts _ (dxLk_w hf (List.mem_cons_self))) (hts _ dxW_math.1) (hts _ dxW_math.2.2.2.1) (hts _ dxW_math.2.2.2.2.1) (by omega) (by omega) hcl hsl hd (k0 rfl)
          · cases h
        · cases h
      · rename_i w hf
        split at h
        · split at h
          · rename_i hw
            cases h
            obtain ⟨w1, w2, w3, w4, w5⟩ := w
            have hsum := dxW8_ok (b := b) (st := st) hw
            exact va_mmin hx hb hml hown (hts _ (dxLk_w hf (List.mem_cons_self))) (hts _ dxW_math.2.1) (hts _ dxW_math.2.2.2.1) (hts _ dxW_math.2.2.2.2.2.1) (by omega) (by omega) hcl hsl hd (k0 rfl)
          · cases h
        · cases h
      · rename_i w hf
        split at h
        · split at h
          · rename_i hw
            cases h
            obtain ⟨w1, w2, w3, w4, w5⟩ := w
            have hsum := dxW8_ok (b := b) (st := st) hw
            exact va_mmax hx hb hml hown (hts _ (dxLk_w hf (List.mem_cons_self))) (hts _ dxW_math.2.2.1) (hts _ dxW_math.2.2.2.1) (hts _ dxW_math.2.2.2.2.2.2) (by omega) (by omega) hcl hsl hd (k0 rfl)
          · cases h
        · cases h
      · rename_i w hf
        split at h
        · rename_i h26
          unfold dxCpy at h
          split at h
          · rename_i x dp a sp a0 r
            split at h
            · rename_i n0' f n1' g ha0 ha
              split at h
              · rename_i hq
                obtain ⟨hw, q1, q2, q3, q4, q5⟩ := hq
                cases h
                obtain ⟨w1, w2, w3, w4, w5⟩ := w
                have hsum := dxW8_ok (b := b) (st := st) hw
                refine va_copyi hx hb hml hown (hts _ (dxLk_w hf (List.mem_cons_self))) (hts _ dxW_copy.1) (hts _ dxW_copy.2.1) (hts _ dxW_copy.2.2) hK hP (dxWc_D b st cy H) hS a0 a 0 0 (dxWc_get ha0) (dxWc_get ha) rfl rfl rfl q1 q2 q3 q4 q5 (fun _ _ => rfl) (by omega) ?_ hd (fun Hp' locs' g1 _ g3 => kk Hp' locs' (by rw [List.length_set]) (by rw [dxWc_set]; exact g1) g3)
                have : nativeFrameWords "java/lang/System" "arraycopy" 5 = 7 := by decide +kernel
                rw [this]
                omega
              · cases h
            · cases h
          · cases h
        · cases h
      · cases h
    · cases h
  · cases h
end DX3
end
section
/-! soundness of the deep interpreter: calls, returns, the whole run -/
theorem dxASt_len {t : Nat} {S S' : List Value} {H H' : dxH} (h : dxASt t S H = some (S', H')) : H'.length = H.length := by
  unfold dxASt at h
  repeat' split at h
  all_goals first | (cases h; done) | (cases h; rw [List.length_set])
theorem dxHp_len {tb : dxT} {k n : Nat} {i : Instr} {S S' : List Value} {H H' : dxH} (h : dxHp tb k i n S H = some (S', H')) : H'.length = H.length := by
  unfold dxHp at h
  split at h
  · unfold dxGet at h
    repeat' split at h
    all_goals first | (cases h; done) | (cases h; rfl)
  · unfold dxPut at h
    repeat' split at h
    all_goals first | (cases h; done) | (cases h; rw [List.length_set])
  · unfold dxALd at h
    repeat' split at h
    all_goals first | (cases h; done) | (cases h; rfl)
  · unfold dxALd at h
    repeat' split at h
    all_goals first | (cases h; done) | (cases h; rfl)
  · exact dxASt_len h
  · exact dxASt_len h
  · unfold dxQLd at h
    repeat' split at h
    all_goals first | (cases h; done) | (cases h; rfl)
  · unfold dxQSt at h
    repeat' split at h
    all_goals first | (cases h; done) | (cases h; rw [List.length_set])
  · unfold dxLen at h
    repeat' split at h
    all_goals first | (cases h; done) | (cases h; rfl)
  · repeat' split at h
    all_goals first | (cases h; done) | (cases h; rfl)
  · cases h
theorem dxBi_len {k n : Nat} {i : Instr} {S S' : List Value} {H H' : dxH} (h : dxBi k i n S H = some (S', H')) : H'.length = H.length := by
  unfold dxBi at h
  unfold dxCpy at h
  repeat' split at h
  all_goals first | (cases h; done) | (cases h; rfl) | (cases h; rw [List.length_set])
theorem dxNw_len {k n : Nat} {i : Instr} {S S' : List Value} {H H' : dxH} {z z' : Nat} (h : dxNw k i n S H z = some (S', H', z')) : H.length ≤ H'.length ∧ z ≤ z' := by
  unfold dxNw at h
  unfold dxNwA at h
  repeat' split at h
  all_goals first | (cases h; done) | (cases h; rw [List.length_append]; exact ⟨Nat.le_add_right _ _, Nat.le_add_right _ _⟩)
theorem dxStep_len {tb : dxT} {k n pc pc' : Nat} {i : Instr} {L L' : dxL} {S S' : List Value} {H H' : dxH} {z z' : Nat} (h : dxStep tb k i n pc L S H z = some (pc', L', S', H', z')) : H.length ≤ H'.length ∧ z ≤ z' := by
  unfold dxStep at h
  split at h
  · cases h; exact ⟨Nat.le_refl _, Nat.le_refl _⟩
  · split at h
    · cases h; exact ⟨Nat.le_refl _, Nat.le_refl _⟩
    · split at h
      · cases h; exact ⟨Nat.le_refl _, Nat.le_refl _⟩
      · split at h
        · cases h; exact ⟨Nat.le_refl _, Nat.le_refl _⟩
        · split at h
          · rename_i hq; cases h; exact ⟨Nat.le_of_eq (dxHp_len hq).symm, Nat.le_refl _⟩
          · split at h
            · rename_i hq; cases h; exact dxNw_len hq
            · split at h
              · rename_i hq; cases h; exact ⟨Nat.le_of_eq (dxBi_len hq).symm, Nat.le_refl _⟩
              · cases h
theorem dxRun_len {tb : dxT} : ∀ (f : Nat) {k pc : Nat} {L : dxL} {S : List Value} {H : dxH} {z : Nat} {r : Option Value} {H' : dxH} {z' : Nat}, dxRun tb f k pc L S H z = some (r, H', z') → H.length ≤ H'.length ∧ z ≤ z'
  | 0, _, _, _, _, _, _, _, _, _, h => by cases h
  | f + 1, k, pc, L, S, H, z, r, H', z', h => by
    unfold dxRun at h
    split at h
    · cases h
    · split at h
      · cases h; exact ⟨Nat.le_refl _, Nat.le_refl _⟩
      · split at h
        · split at h
          · split at h
            · rename_i hq
              have h1 := dxRun_len f hq
              have h2 := dxRun_len f h
              exact ⟨Nat.le_trans h1.1 h2.1, Nat.le_trans h1.2 h2.2⟩
            · cases h
          · cases h
        · split at h
          · rename_i hq
            have h1 := dxStep_len hq
            have h2 := dxRun_len f h
            exact ⟨Nat.le_trans h1.1 h2.1, Nat.le_trans h1.2 h2.2⟩
          · cases h
-- what holds of a state beside its cells
def dxNs (U : State) : Prop := ∀ q ∈ dxLkT, (q.2.2.1 = 2 ∨ q.2.2.1 = 4) → va_Nw (.methodLinkNest (dxR q.1) q.2.1 (dxY q.2.2.2.1) "MilkTruce") U
def dxFx (b : Nat) (st : Nat → Nat) (cy : Nat → ClassId) (D : va_G) (tb : dxT) (U : State) : Prop := va_K D vwCl (dxTy cy) U ∧ (∀ j, j < 5 → va_T .int (st j) (tb j).1 (fun q => .int ((tb j).2 q)) (fun q => b ≤ q) U U.heap) ∧ (∀ j, j < 4 → va_Z RX4 (dxSn j) "[I" (.ref (st j)) (fun q => b ≤ q) U U.heap) ∧ va_AO RX3 U ∧ dxNs U
def dxWd (b : Nat) (st : Nat → Nat) (cy : Nat → ClassId) (D : va_G) (tb : dxT) (H : dxH) (U : State) : Prop := U.heap.size = b + H.length ∧ va_P D vwCl (dxWc b st cy H) U.heap ∧ dxFx b st cy D tb U
theorem dxFx.to {b : Nat} {st : Nat → Nat} {cy : Nat → ClassId} {D : va_G} {tb : dxT} {s U : State} (h : dxFx b st cy D tb s) (hW : s.WarmedH U.vm) (hq : ∀ a : Nat, a < s.heap.size → ¬ b ≤ a → U.heap[a]? = s.heap[a]?) : dxFx b st cy D tb U :=
  ⟨h.1.moved hW.alike, fun j hj => va_T.moved hW.alike ((h.2.1 j hj).kept hq), fun j hj => va_Z.moved hW.alike ((h.2.2.1 j hj).kept hq), h.2.2.2.1.moved hW.alike, fun q hq hk => (h.2.2.2.2 q hq hk).warmM hW⟩
theorem dxWd.blind {b : Nat} {st : Nat → Nat} {cy : Nat → ClassId} {D : va_G} {tb : dxT} {H : dxH} {U : State} (h : dxWd b st cy D tb H U) (g : JFrame) (mk : MethodId) (a : Array Value) : dxWd b st cy D tb H (U.calling g mk a) :=
  ⟨h.1, h.2.1, dxFx.to (U := U.calling g mk a) h.2.2 (State.WarmedH.refl U) (fun _ _ _ => rfl)⟩
theorem dx_size_eq {b : Nat} {st : Nat → Nat} {cy : Nat → ClassId} {D : va_G} {s : State} {H : dxH} {Hp : Heap} {locs : List Loc} {n0 : Nat} (hP : va_P D vwCl (dxWc b st cy H) Hp) (hS : va_S (fun q => b ≤ q) s.heap Hp locs) (hs0 : s.heap.size = b + n0) (hn0 : n0 ≤ H.length) (hz : Hp.size ≤ s.heap.size + (H.length - n0)) : Hp.size = b + H.length := by
  have h1 : b + H.length ≤ Hp.size := by
    by_cases h0 : H.length = 0
    · have := hS.1
      omega
    · have h2 := (hP (H.length - 1) _ (dxWc_get (List.getElem?_eq_getElem (by omega : H.length - 1 < H.length)))).lt
      simp only at h2
      omega
  omega
-- methods
theorem dxMt_all : ∀ k, k < 173 → True ∧ plainName (dxY k).cls = true ∧ ((dxY k).cls ≠ "java/lang/invoke/MethodHandle" ∧ (dxY k).cls ≠ "java/lang/invoke/VarHandle" ∧ (parseMethodDescriptor (dxY k).desc).map (fun d => d.parameters.length) = some (dxNp k)) ∧ (dxY k).cls = dxR (dxCi k) := by decide +kernel
theorem dxMk_all : ∀ q ∈ dxLkT, q.2.2.1 < 5 → q.2.2.2.1 < 173 ∧ (q.2.2.1 = 3 ∨ q.2.2.1 = 4 → (dxY q.2.2.2.1).name = "<init>" ∧ dxRt q.2.2.2.1 = none) := by decide +kernel
def dxWs (k : Nat) : List Cond := .code (dxY k) (dxB k) (dxMl k) (dxRt k) :: dxTb
theorem dxTb_good : GoodIn dxTb dxTb := fun w hw => ⟨hw, good_of_word (List.mem_filter.mp hw).2⟩
theorem dxWs_good {k : Nat} (hk : k < 173) : GoodIn dxTb (dxWs k) := fun w hw => by
  rcases List.mem_cons.mp hw with rfl | h
  · exact dxTb_good _ (List.mem_filter.mpr ⟨List.mem_of_getElem? (dxMc_all k hk), rfl⟩)
  · exact dxTb_good w h
def dxRm (k mc ms : Nat) : Room := { frames := dxFr k, cells := mc, slots := ms, locals := dxLo k }
def dxPc (b : Nat) (st : Nat → Nat) (cy : Nat → ClassId) (D : va_G) (tb : dxT) (vs : List Value) (H : dxH) : Array Value → State → Prop := va_Pc (vs.map (dxV b st)) (dxWd b st cy D tb H)
def dxQc (b : Nat) (st : Nat → Nat) (cy : Nat → ClassId) (D : va_G) (tb : dxT) (r : Option Value) (H : dxH) : Array Value → State → Outcome → State → Prop := fun _ u o t => o = .returned (r.map (dxV b st)) ∧ dxWd b st cy D tb H t ∧ va_F (fun q => b ≤ q) u t
def dxCx (b : Nat) (st : Nat → Nat) (cy : Nat → ClassId) (D : va_G) (tb : dxT) (k : Nat) (p : Program) (s : State) (m : MethodId) (args : Array Value) (meth : Method) (c : Code) : Prop :=
  p.tables.exec = Jvm.exec ∧ c.code = dxB k ∧ c.maxLocals = dxMl k ∧ s.vm.findClass (dxR (dxCi k)) = some m.cls ∧ ((dxY k).name = "<init>" → meth.name = "<init>") ∧ (∀ w ∈ dxTb, w.before args s = true) ∧ dxFx b st cy D tb s
theorem dxPc_blind {b : Nat} {st : Nat → Nat} {cy : Nat → ClassId} {D : va_G} {tb : dxT} {vs : List Value} {H : dxH} : FrameBlind (dxPc b st cy D tb vs H) := fun a U g mk q => ⟨q.1, q.2.blind g mk a⟩
theorem dxI_ok {k pc : Nat} {i : Instr} {n : Nat} (h : dxI k pc = some (i, n)) : decode (dxB k) pc = .ok (i, n) := by
  unfold dxI at h
  split at h
  · rename_i hq; cases h; exact hq
  · cases h
-- locals at the entry
theorem dxArg_len (b : Nat) (st : Nat → Nat) : ∀ vs : List Value, (lg_sl (vs.map (dxV b st))).length = (dxArg vs).length
  | [] => rfl
  | v :: vs => by
    have ih := dxArg_len b st vs
    have hc := dxV_cat b st v
    unfold dxArg
    show (List.flatMap _ (dxV b st v :: vs.map (dxV b st))).length = _
    rw [List.flatMap_cons, List.length_append]
    have e : (List.flatMap (fun v => if v.category = 2 then [Slot.val v, Slot.second] else [Slot.val v]) (vs.map (dxV b st))).length = (dxArg vs).length := ih
    rw [e, hc]
    by_cases h2 : v.category = 2
    · rw [if_pos h2, if_pos h2]; simp; omega
    · rw [if_neg h2, if_neg h2]; simp; omega
theorem dxArg_get (b : Nat) (st : Nat → Nat) : ∀ (vs : List Value) (i j : Nat) (v : Value), (dxArg vs)[j]? = some (some v) → (i + j, dxV b st v) ∈ lv_args i (vs.map (dxV b st))
  | [], i, j, v, h => by cases h
  | w :: vs, i, j, v, h => by
    unfold dxArg at h
    show _ ∈ (i, dxV b st w) :: lv_args (if (dxV b st w).category = 2 then i + 2 else i + 1) (vs.map (dxV b st))
    rw [dxV_cat]
    by_cases h2 : w.category = 2
    · rw [if_pos h2] at h ⊢
      match j, h with
      | 0, h => cases h; exact List.mem_cons_self
      | 1, h => cases h
      | j + 2, h =>
        have := dxArg_get b st vs (i + 2) j v h
        rw [show i + (j + 2) = i + 2 + j by omega]
        exact List.mem_cons_of_mem _ this
    · rw [if_neg h2] at h ⊢
      match j, h with
      | 0, h => cases h; exact List.mem_cons_self
      | j + 1, h =>
        have := dxArg_get b st vs (i + 1) j v h
        rw [show i + (j + 1) = i + 1 + j by omega]
        exact List.mem_cons_of_mem _ this
theorem dxEnt_ls {b : Nat} {st : Nat → Nat} {k : Nat} {vs : List Value} {ls : Array Slot} (hl : lv_has ls (dxMl k) (lv_args 0 (vs.map (dxV b st)))) (hle : (dxArg vs).length ≤ dxMl k) : dxLs b st ls (dxMl k) (dxEnt k vs) := by
  refine ⟨hl.1, hl.2.1, by unfold dxEnt; rw [List.length_append, List.length_replicate]; omega, fun i v h => ?_⟩
  unfold dxEnt at h
  by_cases hi : i < (dxArg vs).length
  · rw [List.getElem?_append_left hi] at h
    have h1 := hl.2.2 _ (dxArg_get b st vs 0 i v h)
    rwa [Nat.zero_add] at h1
  · rw [List.getElem?_append_right (by omega)] at h
    have h1 := List.mem_of_getElem? h
    have h2 := (List.mem_replicate.mp h1).2
    cases h2
section DX4
variable {p : Program} {l : Launch} {e : Env} {R : Room} {s : State} {m : MethodId} {args : Array Value} {below : List Frame} {meth : Method} {c : Code} {Hp : Heap} {locs : List Loc} {cells slots : Nat} {Q : State → Prop}
variable {cc : ByteArray} {pc : Nat} {ls : Array Slot} {b : Nat} {st : Nat → Nat} {cy : Nat → ClassId} {D : va_G} {i : Instr} {n : Nat} {S S' : List Value} {H H' H1 : dxH} {k y idx : Nat} {tb : dxT} {n0 z0 z z' mc ms : Nat}
/-- behind a call -/
theorem dx_back {a : Array Value} {st0 rest : List Value} {r : Option Value} {free : Addr → Prop} (hfree : ∀ q, free q → b ≤ q) (hr : va_Run p l e R s m args below meth c Hp locs cells slots mc ms (F0 m pc ls st0) rest (dxQc b st cy D tb r H1 a) free) (hsz : b ≤ s.heap.size) (hS : va_S (fun q => b ≤ q) s.heap Hp locs)
    (kk : ∀ (Hp' : Heap) (locs' : List Loc), va_P D vwCl (dxWc b st cy H1) Hp' → va_S (fun q => b ≤ q) s.heap Hp' locs' → W p l e R s m args below meth c Hp' locs' (cells + mc) (slots + ms) Q (F0 m (pc + 3) ls ((r.map (dxV b st)).toList ++ rest))) : W p l e R s m args below meth c Hp locs cells slots Q (F0 m pc ls st0) := by
  intro T hT X
  obtain ⟨v, st₀, t, T', L, h0, X', hL, e1, e2, ⟨hv, hw, hz, hk⟩, stp⟩ := hr T hT X
  cases hv
  rw [h0] at hz hk
  obtain ⟨t2, a1, b1⟩ := kk T'.heap (locs ++ L) (by rw [e1]; exact hw.2.1) ⟨Nat.le_trans hS.1 (by rw [e1]; exact hz), fun q h1 h2 => by rw [e1, hk q (Nat.lt_of_lt_of_le h1 hS.1) h2]; exact hS.2.1 q h1 h2, fun q hq => by
      rcases List.mem_append.mp hq with h | h
      · exact hS.2.2 q h
      · exact hfree _ (hL q h)⟩ T' rfl X'
  exact ⟨t2, stp t2 a1, b1⟩
/-- a method's return -/
theorem dx_ret {r : Option Value} (hx : p.tables.exec = Jvm.exec) (hb : c.code = dxB k) (hret : meth.sig.returnType = dxRt k) (hlocks : meth.locks = false) (hFx : dxFx b st cy D tb s) (hd : decode (dxB k) pc = .ok (i, n)) (h : dxRet k i n S = some r)
    (hs0 : s.heap.size = b + n0) (hn0 : n0 ≤ H.length) (hP : va_P D vwCl (dxWc b st cy H) Hp) (hS : va_S (fun q => b ≤ q) s.heap Hp locs) : W p l e R s m args below meth c Hp locs (H.length - n0) slots (MQ below (dxQc b st cy D tb r H) args s (H.length - n0) slots (fun q => b ≤ q)) (F0 m pc ls (S.map (dxV b st))) := by
  refine dx_size fun hz => ?_
  have hq : ∀ t : State, t.heap = Hp → s.WarmedH t.vm → dxQc b st cy D tb r H args s (.returned (r.map (dxV b st))) t := fun t ht hW =>
    ⟨rfl, ⟨by rw [ht]; exact dx_size_eq hP hS hs0 hn0 hz, by rw [ht]; exact hP, hFx.to hW (fun a h1 h2 => by rw [ht]; exact hS.2.1 a h1 h2)⟩, hS.F ht⟩
  unfold dxRet at h
  split at h
  · split at h
    · rename_i v
      split at h
      · rename_i hc
        cases h
        rcases hc with hc | ⟨hc, hv⟩
        · exact W.zret (ty := .int) hx hb (hret.trans hc) rfl hq hS.2.2 hd hlocks
        · exact W.zret (ty := .boolean) hx hb (hret.trans hc) (by show Value.int (v &&& 1) = _; rw [hv]) hq hS.2.2 hd hlocks
      · cases h
    · cases h
  · split at h
    · split at h
      · rename_i hc
        cases h
        exact W.lret hx hb (hret.trans hc) hq hS.2.2 hd hlocks
      · cases h
    · cases h
  · split at h
    · rename_i hc
      cases h
      exact W.aret hx hb (hret.trans hc) (Or.inl ⟨_, rfl⟩) (Or.inr ⟨_, rfl⟩) hq hS.2.2 hd hlocks
    · rename_i hc
      cases h
      exact W.aret hx hb (hret.trans hc) (Or.inl ⟨_, rfl⟩) (Or.inl rfl) hq hS.2.2 hd hlocks
    · cases h
  · split at h
    · split at h
      · rename_i hc
        cases h
        exact W.vret hx hb (hret.trans hc) hq hS.2.2 hd hlocks
      · cases h
    · cases h
  · cases h
end DX4
def dxSnd (tb : dxT) (l : Launch) (f : Nat) : Prop := ∀ (b : Nat) (st : Nat → Nat) (cy : Nat → ClassId) (D : va_G) (k pc : Nat) (L : dxL) (S : List Value) (H : dxH) (z : Nat) (r : Option Value) (H' : dxH) (z' : Nat), dxRun tb f k pc L S H z = some (r, H', z') →
  ∀ (p : Program) (e : Env) (R : Room) (s : State) (m : MethodId) (args : Array Value) (below : List Frame) (meth : Method) (c : Code) (Hp : Heap) (locs : List Loc) (Q : State → Prop) (ls : Array Slot) (n0 z0 : Nat), dxCx b st cy D tb k p s m args meth c → s.heap.size = b + n0 → n0 ≤ H.length → z0 ≤ z → H'.length - n0 ≤ R.cells → z' - z0 ≤ R.slots → dxFr k ≤ R.frames → dxLo k ≤ R.locals →
    va_P D vwCl (dxWc b st cy H) Hp → va_S (fun q => b ≤ q) s.heap Hp locs → dxLs b st ls (dxMl k) L →
    (∀ (Hp' : Heap) (locs' : List Loc) (ls' : Array Slot) (pc' : Nat) (i : Instr) (n : Nat) (S' : List Value), decode (dxB k) pc' = .ok (i, n) → dxRet k i n S' = some r → va_P D vwCl (dxWc b st cy H') Hp' → va_S (fun q => b ≤ q) s.heap Hp' locs' → W p l e R s m args below meth c Hp' locs' (H'.length - n0) (z' - z0) Q (F0 m pc' ls' (S'.map (dxV b st)))) →
    W p l e R s m args below meth c Hp locs (H.length - n0) (z - z0) Q (F0 m pc ls (S.map (dxV b st)))
/-- a method's contract out of the run of its body -/
theorem dx_met {tb : dxT} {l : Launch} {f : Nat} (ih : dxSnd tb l f) (b : Nat) (st : Nat → Nat) (cy : Nat → ClassId) (D : va_G) {k : Nat} (hk : k < 173) {vs : List Value} (hle : (dxArg vs).length ≤ dxMl k) {H : dxH} {z : Nat} {r : Option Value} {H' : dxH} {z' : Nat} (h : dxRun tb f k 0 (dxEnt k vs) [] H z = some (r, H', z')) :
    Met l (dxY k) (dxWs k) (dxRm k (H'.length - H.length) (z' - z)) (dxPc b st cy D tb vs H) (dxQc b st cy D tb r H') (H'.length - H.length) (z' - z) (fun q => b ≤ q) := by
  refine Met.ofW (cc := dxB k) (maxL := dxMl k) (ret := dxRt k) (dxMt_all k hk).2.1 rfl ?_
  intro p e s m args below meth c s₁ B hml hv
  obtain ⟨rfl, hw1, hw2, hw3⟩ := hv
  have hts := atoms_spec (ws := dxWs k) B.pre
  have hlen := dxRun_len f h
  have hown : s.vm.findClass (dxR (dxCi k)) = some m.cls := by
    rw [← (dxMt_all k hk).2.2.2]
    exact findClass_of_methodNamed B.named
  rw [lg_entry_eq]
  have hl := lv_entry (vs.map (dxV b st)) (n := dxMl k) (by rw [dxArg_len]; exact hle)
  generalize (lg_sl (vs.map (dxV b st)) ++ List.replicate (dxMl k - (lg_sl (vs.map (dxV b st))).length) Slot.unset).toArray = ls at hl ⊢
  have k1 := ih b st cy D k 0 (dxEnt k vs) [] H z r H' z' h p e (headSpec (dxWs k) (dxRm k (H'.length - H.length) (z' - z))).room s m (vs.map (dxV b st)).toArray below meth c s.heap [] (MQ below (dxQc b st cy D tb r H') (vs.map (dxV b st)).toArray s (H'.length - H.length) (z' - z) (fun q => b ≤ q)) ls H.length z
    ⟨B.exec, B.bytes, hml, hown, fun hn => (name_of_methodNamed B.named B.method).1.trans hn, fun w hw => hts w (List.mem_cons_of_mem _ hw), hw3⟩ hw1 (Nat.le_refl _) (Nat.le_refl _) (Nat.le_refl _) (Nat.le_refl _) (Nat.le_refl _) (Nat.le_refl _) hw2 va_S.rf (dxEnt_ls hl hle)
    (fun Hp' locs' ls' pc' i n S' hd hr hP' hS' => dx_ret B.exec B.bytes B.returns B.notSynchronized hw3 hd hr hw1 hlen.1 hP' hS')
  rw [Nat.sub_self, Nat.sub_self] at k1
  exact k1
theorem dx_sound (tb : dxT) (l : Launch) : ∀ f : Nat, dxSnd tb l f
  | 0 => fun _ _ _ _ _ _ _ _ _ _ _ _ _ h => by cases h
  | f + 1 => by
    have ih := dx_sound tb l f
    intro b st cy D k pc L S H z r H' z' h p e R s m args below meth c Hp locs Q ls n0 z0 hC hs0 hn0 hz0 hc1 hc2 hfr hlo hP hS hl ret
    obtain ⟨hx, hb, hml, hown, hname, hts, hFx⟩ := id hC
    unfold dxRun at h
    split at h
    · cases h
    · rename_i i n hI
      have hd := dxI_ok hI
      split at h
      · rename_i r' hr
        cases h
        exact ret Hp locs ls pc i n S hd hr hP hS
      · split at h
        · rename_i y na hcal
          split at h
          · rename_i hg
            obtain ⟨g1, g2, g3, g4, g5, g6⟩ := hg
            split at h
            · rename_i r1 H1 z1 hcall
              have m1 := dxRun_len f hcall
              have m2 := dxRun_len f h
              have hsl : (List.take na S).length = na := by rw [List.length_take]; omega
              have goOn : ∀ (Hp' : Heap) (locs' : List Loc), va_P D vwCl (dxWc b st cy H1) Hp' → va_S (fun q => b ≤ q) s.heap Hp' locs' → W p l e R s m args below meth c Hp' locs' (H.length - n0 + (H1.length - H.length)) (z - z0 + (z1 - z)) Q (F0 m (pc + 3) ls ((r1.map (dxV b st)).toList ++ (List.drop na S).map (dxV b st))) := by
                intro Hp' locs' hP' hS'
                have k1 := ih b st cy D k (pc + 3) L (r1.toList ++ List.drop na S) H1 z1 r H' z' h p e R s m args below meth c Hp' locs' Q ls n0 z0 hC hs0 (by omega) (by omega) hc1 hc2 hfr hlo hP' hS' hl ret
                rw [List.map_append, show H1.length - n0 = H.length - n0 + (H1.length - H.length) by omega, show z1 - z0 = z - z0 + (z1 - z) by omega] at k1
                cases r1 <;> exact k1
              have hsplit : S.map (dxV b st) = (((List.take na S).reverse).map (dxV b st)).reverse ++ (List.drop na S).map (dxV b st) := by
                rw [← List.map_reverse, List.reverse_reverse, ← List.map_append, List.take_append_drop]
              have hbs : b ≤ s.heap.size := by omega
              have hRm : (dxRm y (H1.length - H.length) (z1 - z)).frames + 1 ≤ R.frames ∧ 8 + (dxMl y + 11) + (dxRm y (H1.length - H.length) (z1 - z)).locals ≤ R.locals := ⟨by show dxFr y + 1 ≤ _; omega, by show 8 + (dxMl y + 11) + dxLo y ≤ _; omega⟩
              have hroom : H.length - n0 + (H1.length - H.length) ≤ R.cells ∧ z - z0 + (z1 - z) ≤ R.slots := by omega
              have hsz := dx_size (p := p) (l := l) (e := e) (R := R) (s := s) (m := m) (args := args) (below := below) (meth := meth) (c := c) (Hp := Hp) (locs := locs) (cells := H.length - n0) (slots := z - z0) (Q := Q) (pc := pc) (ls := ls) (S := S.map (dxV b st))
              refine hsz fun hz => ?_
              have hse := dx_size_eq hP hS hs0 hn0 hz
              have hpre : ∀ U : State, U.heap = Hp → s.WarmedH U.vm → dxPc b st cy D tb (List.take na S).reverse H (((List.take na S).reverse).map (dxV b st)).toArray U := fun U hU hW => ⟨rfl, by rw [hU]; exact hse, by rw [hU]; exact hP, hFx.to hW (fun a h1 h2 => by rw [hU]; exact hS.2.1 a h1 h2)⟩
              have hw8 := dxW8_ok (b := b) (st := st) g4
              unfold dxCal at hcal
              split at hcal
              · -- invokevirtual
                rename_i idx _
                split at hcal
                · rename_i y' w hlk
                  cases hcal
                  obtain ⟨p1, p2, p3, p4⟩ := w
                  obtain ⟨hk, -⟩ := dxMk_all _ (dx_find hlk) (by show 0 < 5; decide)
                  have hMt := dxMt_all y hk
                  have hmet := dx_met ih b st cy D hk g2 hcall
                  have w1 := dxLk_w hlk (r := (p1, _)) (by exact List.mem_cons_self)
                  have w2 := dxLk_w hlk (r := (p2, _)) (by exact List.mem_cons_of_mem _ List.mem_cons_self)
                  have w3 := dxLk_w hlk (r := (p3, _)) (by exact List.mem_cons_of_mem _ (List.mem_cons_of_mem _ List.mem_cons_self))
                  have w4 := dxLk_w hlk (r := (p4, _)) (by exact List.mem_cons_of_mem _ (List.mem_cons_of_mem _ (List.mem_cons_of_mem _ List.mem_cons_self)))
                  have hGv : GoodIn dxTb (wsV (dxR (dxCi k)) idx (dxY y).cls (dxY y) (dxWs y)) := by
                    intro w hw
                    unfold wsV at hw
                    rcases List.mem_append.mp hw with h | h
                    · rcases List.mem_cons.mp h with rfl | h
                      · exact dxTb_good _ w1
                      · rcases List.mem_cons.mp h with rfl | h
                        · exact dxTb_good _ w2
                        · rcases List.mem_cons.mp h with rfl | h
                          · exact dxTb_good _ w3
                          · rcases List.mem_cons.mp h with rfl | h
                            · exact dxTb_good _ w4
                            · cases h
                    · exact dxWs_good hk w h
                  simp only [dxRcv] at g3
                  generalize hvs : (List.take (dxNp y + 1) S).reverse = vs at *
                  have hlv : vs.length = dxNp y + 1 := by rw [← hvs, List.length_reverse]; exact hsl
                  split at g3
                  · rename_i a As
                    split at g3
                    · rename_i cc fs ha
                      simp only [Bool.and_eq_true, decide_eq_true_eq] at g3
                      obtain ⟨rfl, hc9⟩ := g3
                      have hrecv : ∃ cellB : Cell, Hp[b + a]? = some cellB ∧ cellB.vm.isStatics = false ∧ s.vm.findClass (dxY y).cls = some cellB.cls := by
                        rw [hMt.2.2.2, ← dxCl_R hc9]
                        exact va_recv hFx.1 hP (dxCl_at hc9) (dxWc_get ha)
                      rw [hsplit]
                      have e1 : (((Value.ref a :: As).map (dxV b st)).reverse ++ (List.drop (dxNp y + 1) S).map (dxV b st)) = (As.map (dxV b st)).reverse ++ .ref (b + a) :: (List.drop (dxNp y + 1) S).map (dxV b st) := by
                        rw [List.map_cons, List.reverse_cons, List.append_assoc]
                        rfl
                      rw [e1]
                      exact dx_back (fun _ h => h) (va_runV (As := As.map (dxV b st)) (rest := (List.drop (dxNp y + 1) S).map (dxV b st)) ⟨hx, hb, hml, hown, hts⟩ hmet (cwV (dxNp y) hts hGv rfl rfl rfl ⟨rfl, hMt.2.2.1⟩ hRm) ⟨dxPc_blind, hrecv, hpre⟩ rfl (by rw [List.length_map]; simpa using hlv) hl.1 rfl (by show 2 * 0 + _ ≤ 8; omega) hd hroom) hbs hS goOn
                    · cases g3
                  · cases g3
                · cases hcal
              · -- invokestatic
                rename_i idx _
                split at hcal
                · rename_i y' w hlk
                  cases hcal
                  obtain ⟨p1, p2, p3, p4⟩ := w
                  obtain ⟨hk, -⟩ := dxMk_all _ (dx_find hlk) (by show 1 < 5; decide)
                  have hMt := dxMt_all y hk
                  have hmet := dx_met ih b st cy D hk g2 hcall
                  have w1 := dxLk_w hlk (r := (p1, _)) (by exact List.mem_cons_self)
                  have w2 := dxLk_w hlk (r := (p2, _)) (by exact List.mem_cons_of_mem _ List.mem_cons_self)
                  have w4 := dxLk_w hlk (r := (p4, _)) (by exact List.mem_cons_of_mem _ (List.mem_cons_of_mem _ List.mem_cons_self))
                  have hGv : GoodIn dxTb (va_wsS (dxR (dxCi k)) idx (dxY y) (dxWs y)) := by
                    intro w hw
                    unfold va_wsS at hw
                    rcases List.mem_append.mp hw with h | h
                    · rcases List.mem_cons.mp h with rfl | h
                      · exact dxTb_good _ w1
                      · rcases List.mem_cons.mp h with rfl | h
                        · exact dxTb_good _ w2
                        · rcases List.mem_cons.mp h with rfl | h
                          · exact dxTb_good _ w4
                          · cases h
                    · exact dxWs_good hk w h
                  rw [hsplit]
                  exact dx_back (fun _ h => h) (va_runS (As := ((List.take (dxNp y) S).reverse).map (dxV b st)) (rest := (List.drop (dxNp y) S).map (dxV b st)) ⟨hx, hb, hml, hown, hts⟩ hmet (va_cwS (dxNp y) hts hGv rfl rfl rfl hMt.2.2.1 hRm) ⟨dxPc_blind, hpre⟩ rfl (by rw [List.length_map, List.length_reverse]; exact hsl) hl.1 rfl (by show 2 * 0 + _ ≤ 8; omega) hd hroom) hbs hS goOn
                · rename_i y' w hlk
                  cases hcal
                  obtain ⟨p1, p2, p3, p4⟩ := w
                  obtain ⟨hk, -⟩ := dxMk_all _ (dx_find hlk) (by show 2 < 5; decide)
                  have hMt := dxMt_all y hk
                  have hmet := dx_met ih b st cy D hk g2 hcall
                  have w2 := dxLk_w hlk (r := (p2, _)) (by exact List.mem_cons_self)
                  have w4 := dxLk_w hlk (r := (p4, _)) (by exact List.mem_cons_of_mem _ List.mem_cons_self)
                  have hN := hFx.2.2.2.2 _ (dx_find hlk) (Or.inl rfl)
                  rw [hsplit]
                  exact dx_back (fun _ h => h) (va_runSN (As := ((List.take (dxNp y) S).reverse).map (dxV b st)) (rest := (List.drop (dxNp y) S).map (dxV b st)) ⟨hx, hb, hml, hown, hts⟩ hmet ⟨va_cnB (dxNp y) hts (dxWs_good hk) rfl rfl rfl hN (hts _ w4) hMt.2.2.1 hRm, hts _ w2, trivial⟩ ⟨dxPc_blind, hpre⟩ rfl (by rw [List.length_map, List.length_reverse]; exact hsl) hl.1 rfl (by show 2 * 0 + _ ≤ 8; omega) hd hroom) hbs hS goOn
                · cases hcal
              · -- invokespecial
                rename_i idx _
                split at hcal
                · rename_i y' w hlk
                  cases hcal
                  obtain ⟨p1, p2, p3, p4⟩ := w
                  obtain ⟨hk, hnr⟩ := dxMk_all _ (dx_find hlk) (by show 3 < 5; decide)
                  obtain ⟨hnm, hrt⟩ := hnr (Or.inl rfl)
                  have hMt := dxMt_all y hk
                  have hmet := dx_met ih b st cy D hk g2 hcall
                  have w1 := dxLk_w hlk (r := (p1, _)) (by exact List.mem_cons_self)
                  have w2 := dxLk_w hlk (r := (p2, _)) (by exact List.mem_cons_of_mem _ List.mem_cons_self)
                  have w4 := dxLk_w hlk (r := (p4, _)) (by exact List.mem_cons_of_mem _ (List.mem_cons_of_mem _ List.mem_cons_self))
                  simp only [dxRcv] at g3
                  generalize hvs : (List.take (dxNp y + 1) S).reverse = vs at *
                  have hlv : vs.length = dxNp y + 1 := by rw [← hvs, List.length_reverse]; exact hsl
                  split at g3
                  · rename_i a As
                    rw [hsplit]
                    have e1 : (((Value.ref a :: As).map (dxV b st)).reverse ++ (List.drop (dxNp y + 1) S).map (dxV b st)) = (As.map (dxV b st)).reverse ++ .ref (b + a) :: (List.drop (dxNp y + 1) S).map (dxV b st) := by
                      rw [List.map_cons, List.reverse_cons, List.append_assoc]
                      rfl
                    rw [e1]
                    exact dx_back (fun _ h => h) (va_runI (As := As.map (dxV b st)) (rest := (List.drop (dxNp y + 1) S).map (dxV b st)) ⟨hx, hb, hml, hown, hts⟩ hmet (cwI (dxNp y) hts (dxWs_good hk) (by unfold dxWs; rw [hrt]) rfl rfl (hts _ w4) (hts _ w1) (hts _ w2) hnm hMt.2.2.1 hRm) ⟨dxPc_blind, hpre⟩ rfl (by rw [List.length_map]; simpa using hlv) hl.1 rfl (by show 2 * 0 + _ ≤ 8; omega) hd hroom) hbs hS goOn
                  · cases g3
                · rename_i y' w hlk
                  cases hcal
                  obtain ⟨p1, p2, p3, p4⟩ := w
                  obtain ⟨hk, hnr⟩ := dxMk_all _ (dx_find hlk) (by show 4 < 5; decide)
                  obtain ⟨hnm, hrt⟩ := hnr (Or.inr rfl)
                  have hMt := dxMt_all y hk
                  have hmet := dx_met ih b st cy D hk g2 hcall
                  have w2 := dxLk_w hlk (r := (p2, _)) (by exact List.mem_cons_self)
                  have w4 := dxLk_w hlk (r := (p4, _)) (by exact List.mem_cons_of_mem _ List.mem_cons_self)
                  have hN := hFx.2.2.2.2 _ (dx_find hlk) (Or.inr rfl)
                  simp only [dxRcv] at g3
                  generalize hvs : (List.take (dxNp y + 1) S).reverse = vs at *
                  have hlv : vs.length = dxNp y + 1 := by rw [← hvs, List.length_reverse]; exact hsl
                  split at g3
                  · rename_i a As
                    rw [hsplit]
                    have e1 : (((Value.ref a :: As).map (dxV b st)).reverse ++ (List.drop (dxNp y + 1) S).map (dxV b st)) = (As.map (dxV b st)).reverse ++ .ref (b + a) :: (List.drop (dxNp y + 1) S).map (dxV b st) := by
                      rw [List.map_cons, List.reverse_cons, List.append_assoc]
                      rfl
                    rw [e1]
                    exact dx_back (fun _ h => h) (va_runIN (As := As.map (dxV b st)) (rest := (List.drop (dxNp y + 1) S).map (dxV b st)) ⟨hx, hb, hml, hown, hts⟩ hmet ⟨va_cnB (dxNp y) hts (dxWs_good hk) (by unfold dxWs; rw [hrt]) rfl rfl hN (hts _ w4) hMt.2.2.1 hRm, hnm, hts _ w2⟩ ⟨dxPc_blind, hpre⟩ rfl (by rw [List.length_map]; simpa using hlv) hl.1 rfl (by show 2 * 0 + _ ≤ 8; omega) hd hroom) hbs hS goOn
                  · cases g3
                · cases hcal
              · cases hcal
            · cases h
          · cases h
        · split at h
          · rename_i pc1 L1 S1 H1 z1 hst
            have m1 := dxStep_len hst
            have m2 := dxRun_len f h
            have goOn : ∀ (Hp' : Heap) (locs' : List Loc) (ls' : Array Slot), dxLs b st ls' (dxMl k) L1 → va_P D vwCl (dxWc b st cy H1) Hp' → va_S (fun q => b ≤ q) s.heap Hp' locs' → W p l e R s m args below meth c Hp' locs' (H1.length - n0) (z1 - z0) Q (F0 m pc1 ls' (S1.map (dxV b st))) := fun Hp' locs' ls' hl' hP' hS' =>
              ih b st cy D k pc1 L1 S1 H1 z1 r H' z' h p e R s m args below meth c Hp' locs' Q ls' n0 z0 hC hs0 (by omega) (by omega) hc1 hc2 hfr hlo hP' hS' hl' ret
            unfold dxStep at hst
            split at hst
            · rename_i hq; cases hst; exact dxPop_ok hx hb hd hq (goOn Hp locs ls hl hP hS)
            · split at hst
              · rename_i hq; cases hst; exact dxLoc_ok hx hb hd hl hq (fun ls' hl' => goOn Hp locs ls' hl' hP hS)
              · split at hst
                · rename_i hq; cases hst; exact dxJmp_ok hx hb hd hq (goOn Hp locs ls hl hP hS)
                · split at hst
                  · rename_i hq; cases hst; exact dxKst_ok hx hb hown hts hd hq (goOn Hp locs ls hl hP hS)
                  · split at hst
                    · rename_i hq
                      cases hst
                      refine dxHp_ok hx hb hown hname hts hFx.1 hP hS hFx.2.1 hFx.2.2.1 hd hq (fun Hp' locs' hlen hP' hS' => ?_)
                      rw [← hlen]
                      exact goOn Hp' locs' ls hl hP' hS'
                    · split at hst
                      · rename_i hq
                        cases hst
                        exact dxNw_ok hFx.2.2.2.1 hx hb hown hts hFx.1 hP hS hs0 hn0 hz0 (by omega) (by omega) hd hq (fun Hp' locs' _ _ hP' hS' => goOn Hp' locs' ls hl hP' hS')
                      · split at hst
                        · rename_i hq
                          cases hst
                          have hlen := dxBi_len hq
                          refine dxBi_ok hx hb (hml.trans hl.1.symm) hown hts hFx.1 hP hS hfr hlo (by omega) (by omega) hd hq (fun Hp' locs' hlen hP' hS' => ?_)
                          rw [← hlen]
                          exact goOn Hp' locs' ls hl hP' hS'
                        · cases hst
          · cases h
end
section
/-! THE CLAIM OUT OF ONE WALK OF THE LAW'S BODY. Your part is whole_start (and what it stands on); all else here is the same for every law, but numbers. -/
def R_law : String := "MilkTruceLaw"
def lw_P (b : Addr) (xs : List Int32) (args : Array Value) (s : State) : Prop := args = #[.ref b] ∧ s.IntsAt b xs ∧ xs.length ≤ 320 ∧ (Jvm.Cond.and given_1 narrow_1).before args s = true
def lw_Q (_ : Array Value) (s : State) (o : Outcome) (t : State) : Prop := o = .returned (some (.int 1)) ∧ Framed s o t [] 600000 7302250
def lw_Z (below : List Frame) (a : Array Value) (s : State) : State → Prop := fun t => ∃ o, t.status = .running ∧ Ended t below o ∧ lw_Q a s o t
/-- the law's own end, with 1 on the stack, nothing written that was there before, its room as the claim has it -/
theorem lw_ret {p : Program} {l : Launch} {e : Env} {s : State} {m : MethodId} {below : List Frame} {meth : Method} {c : Code} {b : Nat} (hx : p.tables.exec = Jvm.exec) (hb : c.code = code) (hr : meth.sig.returnType = ret) (hlocks : meth.locks = false) {pc : Nat} {H : Heap} {ls : Array Slot} (hdg : decode code pc = .ok (.ireturn, 1)) : W p l e room_1 s m #[Value.ref b] below meth c H [] 600000 7302250 (lw_Z below #[Value.ref b] s) (F0 m pc ls [.int 1]) := by
  intro T hT X
  obtain ⟨fs, hret, hrun, hended, hW, hframe⟩ := X.leave (v := some (.int 1)) (hlocks := hlocks) (fun h => by rw [hr] at h; cases h)
  have hmeth' : T.vm.method? m = some meth := X.method'
  refine ⟨T.setFrames fs, ?_, .returned (some (.int 1)), hrun, hended, rfl, ⟨_, rfl⟩, hW, hframe⟩
  jvm_step X.here [X.here.top, hx, hb, hdg, hmeth', hr, ret, narrow_b1]
  (try refine ⟨rfl, ?_⟩); (try refine ⟨rfl, ?_⟩)
  first | (intro acts; rw [hret _ acts rfl rfl rfl]) | rw [hret _ _ rfl rfl rfl]
  exact Steps.refl _
/-- what holds at the law's entry: the machine, the code, the tables' words (any of lw_tbl by 'hts w (by decide +kernel)'), the script of L ints xs at the cell b, what the Statement gives of the start (any of its parts by flat_of_before) -/
def lw_At (p : Program) (s : State) (m : MethodId) (meth : Method) (c : Code) (b L : Nat) (xs : Nat → Int32) : Prop :=
  p.tables.exec = Jvm.exec ∧ c.code = code ∧ meth.sig.returnType = ret ∧ c.maxLocals = 4 ∧ s.vm.findClass R_law = some m.cls ∧ (∀ w ∈ lw_tbl, w.before #[Value.ref b] s = true) ∧ va_X b L xs s s.heap ∧ b < s.heap.size ∧ meth.locks = false ∧ (Jvm.Cond.and given_1 narrow_1).before #[Value.ref b] s = true
/-- the tables: the class's static arrays, the script -/
def dxTbl (L : Nat) (xs : Nat → Int32) : dxT := fun j => match j with
  | 0 => (2, fun q => [0, 1].getD q 0)
  | 1 => (2, fun q => [9, 9].getD q 0)
  | 2 => (4, fun q => [0, 0, 0, 0].getD q 0)
  | 3 => (4, fun q => [9, 1, 9, 3].getD q 0)
  | _ => (L, xs)
theorem dxB_law : dxB 173 = code := rfl
/-- WHAT IS LEFT: the law's run in the deep interpreter -/
def dxGo : Prop := ∀ (L : Nat) (xs : Nat → Int32), L ≤ 320 → ∃ (f : Nat) (H' : dxH) (z' : Nat), dxRun (dxTbl L xs) f 173 0 (dxEnt 173 [.float 4]) [] [] 0 = some (some (.int 1), H', z') ∧ H'.length ≤ 600000 ∧ z' ≤ 7302250
theorem dx_tab {args : Array Value} {s : State} {n : String} {N : Nat} {f : Nat → Int32} {A : Nat → Prop} (hN : N < 2 ^ 31) (harr : (Cond.arrayOf (.static RX4 n "[I") .int).before args s = true) (hlen : (Cond.eq (.length (.static RX4 n "[I")) (.int (Int32.ofNat N))).before args s = true) (hel : ∀ j : Nat, j < N → (Cond.eq (.elem (.static RX4 n "[I") (.int (Int32.ofNat j))) (.int (f j))).before args s = true) (hl : (Cond.laysStatic RX4 n "[I").before args s = true) (hini : (Cond.initialized RX4).before args s = true) (hA : ∀ a : Nat, a < s.heap.size → ¬ A a) : ∃ t : Nat, va_Z RX4 n "[I" (.ref t) A s s.heap ∧ va_T .int t N (fun j => .int (f j)) A s s.heap := by
  obtain ⟨t, h1, h2⟩ := va_Tof (f := fun j => .int (f j)) hN harr (va_eqt hlen) (fun j hj => va_eqt (hel j hj)) hA
  exact ⟨t, va_Zref hl hini h1 hA, h2⟩
set_option maxRecDepth 100000 in
theorem dx_whole (go : dxGo) {p : Program} {e : Env} {s : State} {m : MethodId} {below : List Frame} {meth : Method} {c : Code} (l : Launch) {b L : Nat} {xs : Nat → Int32} (hL : L ≤ 320) (C0 : lw_At p s m meth c b L xs) : W p l e room_1 s m #[Value.ref b] below meth c s.heap [] 0 0 (lw_Z below #[Value.ref b] s) (entryFrame m ([Value.ref b] : List Value).toArray 4) := by
  obtain ⟨hx, hb, hr0, hml, hown, hts, hX, hbl, hlocks, hgv⟩ := id C0
  have hA : ∀ a : Nat, a < s.heap.size → ¬ s.heap.size ≤ a := fun a h => by omega
  have hf := flat_of_before _ hgv
  have hin4 : (Cond.initialized RX4).before #[Value.ref b] s = true := hts _ (by decide +kernel)
  obtain ⟨t0, hZ0, hT0⟩ := dx_tab (n := "CLOVER_LEAST") (N := 2) (f := fun q => [0, 1].getD q 0) (by decide) (hf _ (by decide +kernel)) (hf _ (by decide +kernel)) (fun j hj => by rcases (show j = 0 ∨ j = 1 by omega) with rfl | rfl <;> exact hf _ (by decide +kernel)) (hts _ (by decide +kernel)) hin4 hA
  obtain ⟨t1, hZ1, hT1⟩ := dx_tab (n := "CLOVER_MOST") (N := 2) (f := fun q => [9, 9].getD q 0) (by decide) (hf _ (by decide +kernel)) (hf _ (by decide +kernel)) (fun j hj => by rcases (show j = 0 ∨ j = 1 by omega) with rfl | rfl <;> exact hf _ (by decide +kernel)) (hts _ (by decide +kernel)) hin4 hA
  obtain ⟨t2, hZ2, hT2⟩ := dx_tab (n := "COW_LEAST") (N := 4) (f := fun q => [0, 0, 0, 0].getD q 0) (by decide) (hf _ (by decide +kernel)) (hf _ (by decide +kernel)) (fun j hj => by rcases (show j = 0 ∨ j = 1 ∨ j = 2 ∨ j = 3 by omega) with rfl | rfl | rfl | rfl <;> exact hf _ (by decide +kernel)) (hts _ (by decide +kernel)) hin4 hA
  obtain ⟨t3, hZ3, hT3⟩ := dx_tab (n := "COW_MOST") (N := 4) (f := fun q => [9, 1, 9, 3].getD q 0) (by decide) (hf _ (by decide +kernel)) (hf _ (by decide +kernel)) (fun j hj => by rcases (show j = 0 ∨ j = 1 ∨ j = 2 ∨ j = 3 by omega) with rfl | rfl | rfl | rfl <;> exact hf _ (by decide +kernel)) (hts _ (by decide +kernel)) hin4 hA
  have hT4 : va_T .int b L (fun q => .int (xs q)) (fun q => s.heap.size ≤ q) s s.heap := by
    obtain ⟨scr, h1, h2, h3, h4, h5⟩ := hX
    exact ⟨scr, h1, h2, h3, by omega, by rw [h4], h5, by omega⟩
  -- the classes
  have hcl : ∀ c : Nat, ∃ q : ClassId × (Nat → Nat), c < 9 → u_Kn s (dxCl c).1 (dxCl c).2.1 (dxCl c).2.2 q.1 q.2 := by
    intro c
    by_cases hc : c < 9
    · obtain ⟨cC, iS, h⟩ := u_known (n := (dxCl c).2.2) hts (fun w hw => (List.mem_filter.mp (dxCl_uw hc w hw)).1) (hts _ (List.mem_filter.mp (dxCl_in hc).1).1)
      exact ⟨(cC, iS), fun _ => h⟩
    · exact ⟨(0, fun _ => 0), fun h => absurd h hc⟩
  obtain ⟨aI, kI, mI, i1, i2, i3⟩ := Cond.arrayClass_spec (hts _ (List.mem_filter.mp dxW_arr.1).1)
  obtain ⟨aZ, kZ, mZ, j1, j2, j3⟩ := Cond.arrayClass_spec (hts _ (List.mem_filter.mp dxW_arr.2).1)
  have hAO : va_AO RX3 s := va_AO.of (hts (.arrayOver (.object RX3)) (by decide +kernel))
  obtain ⟨mM, aM, kM, m1, -, m2, m3, m4⟩ := Cond.arrayOver_spec hAO
  have hK : va_K (fun c => (Classical.choose (hcl c)).1, fun c => (Classical.choose (hcl c)).2) vwCl (dxTy (fun t => if t = 0 then aI else if t = 1 then aZ else aM)) s := by
    refine ⟨fun c q hq => ?_, fun k q hq => ?_⟩
    · have hc : c < 9 := (List.getElem?_eq_some_iff.mp hq).1
      have h1 := Classical.choose_spec (hcl c) hc
      have h2 := dxCl_at hc
      rw [hq] at h2
      cases h2
      exact h1
    · match k, hq with
      | 0, hq => cases hq; exact ⟨fun n z => ⟨fun k h => (by cases h), kI, i2, mI, i3⟩, i1⟩
      | 1, hq => cases hq; exact ⟨fun n z => ⟨fun k h => (by cases h), kZ, j2, mZ, j3⟩, j1⟩
      | 2, hq => cases hq; exact ⟨fun n z => ⟨fun k h => (by cases h), kM, m2, mM, m3⟩, kM, mM, m2, m3, m1, m4⟩
      | k + 3, hq => cases hq
  have hFx : dxFx s.heap.size (fun j => if j = 0 then t0 else if j = 1 then t1 else if j = 2 then t2 else if j = 3 then t3 else b) (fun t => if t = 0 then aI else if t = 1 then aZ else aM) (fun c => (Classical.choose (hcl c)).1, fun c => (Classical.choose (hcl c)).2) (dxTbl L xs) s := by
    refine ⟨hK, fun j hj => ?_, fun j hj => ?_, hAO, fun q hq hk => va_Nw.of rfl (hts _ (List.mem_of_getElem? (dxNst_all q hq hk)))⟩
    · rcases (show j = 0 ∨ j = 1 ∨ j = 2 ∨ j = 3 ∨ j = 4 by omega) with rfl | rfl | rfl | rfl | rfl
      · exact hT0
      · exact hT1
      · exact hT2
      · exact hT3
      · exact hT4
    · rcases (show j = 0 ∨ j = 1 ∨ j = 2 ∨ j = 3 by omega) with rfl | rfl | rfl | rfl
      · exact hZ0
      · exact hZ1
      · exact hZ2
      · exact hZ3
  obtain ⟨f, H', z', hrun, hcells, hslots⟩ := go L xs hL
  have hl := lv_entry ([.ref b]) (n := 4) (Nat.le_of_ble_eq_true rfl)
  rw [lg_entry_eq]
  generalize (lg_sl ([.ref b]) ++ List.replicate (4 - (lg_sl ([.ref b])).length) Slot.unset).toArray = ls at hl ⊢
  have hls : dxLs s.heap.size (fun j => if j = 0 then t0 else if j = 1 then t1 else if j = 2 then t2 else if j = 3 then t3 else b) ls (dxMl 173) (dxEnt 173 [.float 4]) := dxEnt_ls (k := 173) (vs := [.float 4]) hl (by decide +kernel)
  have hcode : dxB 173 = code := dxB_law
  have k1 := dx_sound (dxTbl L xs) l f s.heap.size (fun j => if j = 0 then t0 else if j = 1 then t1 else if j = 2 then t2 else if j = 3 then t3 else b) (fun t => if t = 0 then aI else if t = 1 then aZ else aM) (fun c => (Classical.choose (hcl c)).1, fun c => (Classical.choose (hcl c)).2) 173 0 (dxEnt 173 [.float 4]) [] [] 0 (some (.int 1)) H' z' hrun p e room_1 s m #[Value.ref b] below meth c s.heap [] (lw_Z below #[Value.ref b] s) ls 0 0
    ⟨hx, hb.trans hcode.symm, hml.trans (by decide +kernel), hown, fun h => absurd h (by decide +kernel), fun w hw => hts w (List.mem_filter.mp hw).1, hFx⟩ rfl (Nat.le_refl _) (Nat.le_refl _) hcells hslots (by decide +kernel) (by decide +kernel) (fun k q h => by simp [dxWc] at h) va_S.rf hls
    (fun Hp' locs' ls' pc' i n S' hd hr hP' hS' => by
      refine va_forget hS'.2.2 (W.widen (k := 600000) (n := 7302250) hcells hslots ?_)
      unfold dxRet at hr
      split at hr
      · split at hr
        · split at hr
          · cases hr
            exact lw_ret hx hb hr0 hlocks (hcode ▸ hd)
          · cases hr
        · cases hr
      · repeat' split at hr
        all_goals cases hr
      · repeat' split at hr
        all_goals cases hr
      · repeat' split at hr
        all_goals cases hr
      · cases hr)
  exact k1
end
section
theorem dxGo_holds : dxGo := by
  sorry
theorem whole_start {p : Program} {e : Env} {s : State} {m : MethodId} {below : List Frame} {meth : Method} {c : Code} (l : Launch) (hflags : l.flags = flags0) {b L : Nat} {xs : Nat → Int32} (hL : L ≤ 320) (C0 : lw_At p s m meth c b L xs) : W p l e room_1 s m #[Value.ref b] below meth c s.heap [] 0 0 (lw_Z below #[Value.ref b] s) (entryFrame m ([Value.ref b] : List Value).toArray 4) := dx_whole dxGo_holds l hL C0
-- ===== YOUR PART ENDS =====
set_option maxHeartbeats 4000000 in
theorem lw_walk (l : Launch) (hflags : l.flags = flags0) (b : Addr) (xs : List Int32) : MetFree l x (headSpec (Jvm.Cond.code x code maxLocals ret :: tables_1) room_1) (lw_P b xs) (fun _ _ _ _ _ => True) lw_Q := by
  refine MetFree.of_bodyS (code := code) (maxLocals := maxLocals) (ret := ret) (by decide) ?_ ?_
  · intro args s m h hn
    obtain ⟨meth, c, h1, h2, h3, h4, h5, h6, -, -⟩ := Cond.code_spec hn (atoms_spec (ws := Jvm.Cond.code x code maxLocals ret :: tables_1) h _ List.mem_cons_self)
    exact ⟨meth, c, h1, h2, h3, h4, h5, h6⟩
  · intro p e s m args below meth c s₁ B hml0 hP _
    obtain ⟨rfl, hx, hbd, hgv⟩ := hP
    obtain ⟨scr, harrAt, hlist, hof, hsmall⟩ := hx
    obtain ⟨hcb, hkn, -, -⟩ := State.arrayAt?_spec harrAt
    have hown : s.vm.findClass R_law = some m.cls := findClass_of_methodNamed B.named
    have hts0 : ∀ c ∈ (Jvm.Cond.code x code maxLocals ret :: tables_1), c.before #[Value.ref b] s = true := atoms_spec (ws := Jvm.Cond.code x code maxLocals ret :: tables_1) B.pre
    have hts : ∀ w ∈ lw_tbl, w.before #[Value.ref b] s = true := k2_hts_sels lw_privs (fun w hw => hts0 w (List.mem_cons_of_mem _ hw)) lw_privs_ok
    have hml : c.maxLocals = 4 := B.maxLocals_eq (hts0 _ List.mem_cons_self)
    have X₀ : Stand p l e room_1 s m #[Value.ref b] below meth c s₁ [] 0 0 := Stand.of_body B
    have hh0 : s₁.heap = s.heap := by rw [B.state]; rfl
    have hsz : scr.slots.size = xs.length := by rw [← Array.length_toList, hlist, List.length_map]
    have hval : ∀ j : Nat, j < xs.length → scr.slots[j]? = some (.int (xs.getD j 0)) := fun j hj => by
      rw [← Array.getElem?_toList, hlist]
      simp [hj]
    have hbl : b < s.heap.size := (Array.getElem?_eq_some_iff.mp hcb).1
    have hX : va_X b xs.length (fun j => xs.getD j 0) s s.heap := ⟨scr, hcb, hof, hkn, hsz, hval⟩
    have K : W p l e room_1 s m #[Value.ref b] below meth c s₁.heap [] 0 0 (lw_Z below #[Value.ref b] s) (entryFrame m ([Value.ref b] : List Value).toArray 4) := by
      rw [hh0]
      exact whole_start l hflags hbd ⟨B.exec, B.bytes, B.returns, hml, hown, hts, hX, hbl, B.notSynchronized, hgv⟩
    obtain ⟨t, a1, o, b1, b2, b3⟩ := K s₁ rfl X₀
    exact ⟨t, o, a1, b1, b2, b3⟩
theorem lw_pre_spec {args : Array Value} {s : State} (h : (Jvm.Cond.and given_1 narrow_1).before args s = true) (hr : rest_1_c.before args s = true) : ∃ (b : Addr) (xs : List Int32), lw_P b xs args s := by
  have hs := flat_of_before _ h
  have hq := flat_of_before _ hr
  have hc : (Cond.count 1).before args s = true := hs _ (by decide +kernel)
  have harr : (Cond.arrayOf (.arg 0) .int).before args s = true := hs _ (by decide +kernel)
  have hle : (Cond.le (.length (.arg 0)) (.int 320)).before args s = true := hs _ (by decide +kernel)
  have hlen : (Cond.isInt (.length (.arg 0))).before args s = true := hq _ (by decide +kernel)
  have hall : (Cond.all (.arg 0) (.isInt (.elem (.arg 0) (.index 0)))).before args s = true := hq _ (by decide +kernel)
  obtain ⟨b, xs, hb, hx⟩ := State.ints_of_pre rfl harr hlen hall
  have hsm : xs.length < 2 ^ 31 := hx.choose_spec.2.2.2
  have hev : (Term.length (.arg 0)).eval args s none [] s = some (.int xs.length.toInt32) := hx.length_eval hb
  have hv := Cond.le_ints hev (show (Term.int 320).eval args s none [] s = some (.int 320) from rfl)
  have hd : xs.length.toInt32 ≤ 320 := by
    simpa [Cond.before, Cond.holds, hv] using hle
  have hN : xs.length ≤ 320 := (Int32.ofNat_le_ofNat hsm (by decide)).mp (show Int32.ofNat xs.length ≤ Int32.ofNat 320 from hd)
  exact ⟨b, xs, Cond.one_arg hc (show args[0]? = some (.ref b) from hb), hx, hN, h⟩
theorem lw_comes (l : Launch) (hflags : l.flags = flags0) : Comes l x (Jvm.Cond.code x code maxLocals ret :: tables_1) room_1 (fun tb e args s => Calls_1 tb e args s ∧ rest_1 tb e args s ∧ Pre_1 tb e args s)
    (fun _ _ args s o t => lw_Q args s o t) := by
  intro p e ha hc hk s m args below hf hfit hheap happ hpre
  obtain ⟨b, xs, hP⟩ := lw_pre_spec hpre.2.2 hpre.2.1
  obtain ⟨k, o, h1, h2, h3, hQ⟩ := lw_walk l hflags b xs p e ha hc hk s m args below hf ((Spec.applies_iff_loose hf).mp happ).1 hP trivial
  exact ⟨k, o, h1, h2, h3, hQ⟩
theorem lw_frame {s t : State} {o : Outcome} {args : Array Value} (h : Framed s o t [] 600000 7302250) :
    Framed s o t (fieldLocs frame_1_writes args s ++ arrayLocs frame_1_arrays args s ++ staticLocs frame_1_statics s) 600000 7302250 := h
theorem lw_limb (L : Cond) (hL : ∀ (args : Array Value) (s t : State), L.after args s (.returned (some (.int 1))) t = true) :
    ArmFor flags0 classFile x code maxLocals ret World_1 tables_1 room_1 Calls_1 rest_1 Pre_1
      (fun tb e a s o t => postC L tb e a s o t ∧ Framed s o t (fieldLocs frame_1_writes a s ++ arrayLocs frame_1_arrays a s ++ staticLocs frame_1_statics s) 600000 7302250) := by
  intro l hflags _ _ p e ha hc hk s m args below hf hfit hheap happ hpre
  obtain ⟨k, o, h1, h2, h3, rfl, hF⟩ := lw_comes l hflags p e ha hc hk s m args below hf hfit hheap happ hpre
  exact ⟨k, _, h1, h2, h3, hL args s _, lw_frame hF⟩
theorem i_vc : Claimed_1_1 ∧ Claimed_1_2 := ⟨lw_limb limb_1_1 (fun args s t => by simp [limb_1_1, Cond.after, Cond.holds, Cond.value]), lw_limb limb_1_2 (fun args s t => Cond.after_iff.mpr (by
  first | (rw [show limb_1_2 = Cond.eq .result (.int 1) from rfl, Cond.eq_ints (x := 1) (y := 1) rfl rfl]; simp; done) | (simp [limb_1_2, Cond.value, Term.eval]; done)))⟩
end
