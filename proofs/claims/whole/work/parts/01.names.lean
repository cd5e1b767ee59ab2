-- ===== PART A: goes FIRST, ahead of the names: the tables' words, and 'selects' of the private methods out of them =====
/-- a private method of a class that the tables say can be made, by its rows of tables_1 -/
def lw_okq (q : MethodName × Nat) : Prop := (q.1.cls ≠ "java/lang/invoke/MethodHandle" ∧ q.1.cls ≠ "java/lang/invoke/VarHandle") ∧ Cond.instantiable q.1.cls q.2 ∈ tables_1 ∧ Cond.privateMethod q.1 ∈ tables_1 ∧ Cond.instanceMethod q.1 ∈ tables_1
theorem lw_p0 : lw_okq (⟨"MilkTruce$PassText", "letter", "(I)I"⟩, 2) := ⟨⟨by decide +kernel, by decide +kernel⟩, List.mem_of_getElem? (i := 22) (by decide +kernel), List.mem_of_getElem? (i := 218) (by decide +kernel), List.mem_of_getElem? (i := 219) (by decide +kernel)⟩
theorem lw_p1 : lw_okq (⟨"MilkTruce$PassText", "faultOfPart", "(I[I[II)I"⟩, 2) := ⟨⟨by decide +kernel, by decide +kernel⟩, List.mem_of_getElem? (i := 22) (by decide +kernel), List.mem_of_getElem? (i := 232) (by decide +kernel), List.mem_of_getElem? (i := 233) (by decide +kernel)⟩
theorem lw_p2 : lw_okq (⟨"MilkTruce$PassText", "figure", "(I)I"⟩, 2) := ⟨⟨by decide +kernel, by decide +kernel⟩, List.mem_of_getElem? (i := 22) (by decide +kernel), List.mem_of_getElem? (i := 236) (by decide +kernel), List.mem_of_getElem? (i := 237) (by decide +kernel)⟩
theorem lw_p3 : lw_okq (⟨"MilkTruce$Shelf", "at", "(I)LMilkTruce$Meadow;"⟩, 1) := ⟨⟨by decide +kernel, by decide +kernel⟩, List.mem_of_getElem? (i := 92) (by decide +kernel), List.mem_of_getElem? (i := 339) (by decide +kernel), List.mem_of_getElem? (i := 340) (by decide +kernel)⟩
theorem lw_p4 : lw_okq (⟨"MilkTruce$Meadow", "isWarning", "(I)Z"⟩, 9) := ⟨⟨by decide +kernel, by decide +kernel⟩, List.mem_of_getElem? (i := 52) (by decide +kernel), List.mem_of_getElem? (i := 359) (by decide +kernel), List.mem_of_getElem? (i := 360) (by decide +kernel)⟩
theorem lw_p5 : lw_okq (⟨"MilkTruce$Meadow", "milkDueCows", "()V"⟩, 9) := ⟨⟨by decide +kernel, by decide +kernel⟩, List.mem_of_getElem? (i := 52) (by decide +kernel), List.mem_of_getElem? (i := 363) (by decide +kernel), List.mem_of_getElem? (i := 364) (by decide +kernel)⟩
theorem lw_p6 : lw_okq (⟨"MilkTruce$Meadow", "letCowsEat", "()V"⟩, 9) := ⟨⟨by decide +kernel, by decide +kernel⟩, List.mem_of_getElem? (i := 52) (by decide +kernel), List.mem_of_getElem? (i := 371) (by decide +kernel), List.mem_of_getElem? (i := 372) (by decide +kernel)⟩
theorem lw_p7 : lw_okq (⟨"MilkTruce", "hoursOnAfter", "(III)I"⟩, 12) := ⟨⟨by decide +kernel, by decide +kernel⟩, List.mem_of_getElem? (i := 14) (by decide +kernel), List.mem_of_getElem? (i := 446) (by decide +kernel), List.mem_of_getElem? (i := 447) (by decide +kernel)⟩
theorem lw_p8 : lw_okq (⟨"MilkTruce", "choicesOf", "(I)LMilkTruce$Choices;"⟩, 12) := ⟨⟨by decide +kernel, by decide +kernel⟩, List.mem_of_getElem? (i := 14) (by decide +kernel), List.mem_of_getElem? (i := 487) (by decide +kernel), List.mem_of_getElem? (i := 488) (by decide +kernel)⟩
theorem lw_p9 : lw_okq (⟨"MilkTruce$Choices", "add", "(I)V"⟩, 2) := ⟨⟨by decide +kernel, by decide +kernel⟩, List.mem_of_getElem? (i := 140) (by decide +kernel), List.mem_of_getElem? (i := 495) (by decide +kernel), List.mem_of_getElem? (i := 496) (by decide +kernel)⟩
theorem lw_p10 : lw_okq (⟨"MilkTruce$Choices", "addMovesOf", "(ILMilkTruce$Meadow;)V"⟩, 2) := ⟨⟨by decide +kernel, by decide +kernel⟩, List.mem_of_getElem? (i := 140) (by decide +kernel), List.mem_of_getElem? (i := 503) (by decide +kernel), List.mem_of_getElem? (i := 504) (by decide +kernel)⟩
theorem lw_p11 : lw_okq (⟨"MilkTruce", "stopsAfterSowing", "(III)Z"⟩, 12) := ⟨⟨by decide +kernel, by decide +kernel⟩, List.mem_of_getElem? (i := 14) (by decide +kernel), List.mem_of_getElem? (i := 521) (by decide +kernel), List.mem_of_getElem? (i := 522) (by decide +kernel)⟩
theorem lw_p12 : lw_okq (⟨"MilkTruce", "stopsOf", "(II)I"⟩, 12) := ⟨⟨by decide +kernel, by decide +kernel⟩, List.mem_of_getElem? (i := 14) (by decide +kernel), List.mem_of_getElem? (i := 543) (by decide +kernel), List.mem_of_getElem? (i := 544) (by decide +kernel)⟩
theorem lw_p13 : lw_okq (⟨"MilkTruce", "isAllSoOfTrial", "()Z"⟩, 12) := ⟨⟨by decide +kernel, by decide +kernel⟩, List.mem_of_getElem? (i := 14) (by decide +kernel), List.mem_of_getElem? (i := 593) (by decide +kernel), List.mem_of_getElem? (i := 594) (by decide +kernel)⟩
theorem lw_p14 : lw_okq (⟨"MilkTruce", "isAtRest", "(IIII)Z"⟩, 12) := ⟨⟨by decide +kernel, by decide +kernel⟩, List.mem_of_getElem? (i := 14) (by decide +kernel), List.mem_of_getElem? (i := 607) (by decide +kernel), List.mem_of_getElem? (i := 608) (by decide +kernel)⟩
theorem lw_p15 : lw_okq (⟨"MilkTruce", "hoursOfPair", "(III)I"⟩, 12) := ⟨⟨by decide +kernel, by decide +kernel⟩, List.mem_of_getElem? (i := 14) (by decide +kernel), List.mem_of_getElem? (i := 611) (by decide +kernel), List.mem_of_getElem? (i := 612) (by decide +kernel)⟩
def lw_privs_1 : List (MethodName × Nat) := [(⟨"MilkTruce$PassText", "letter", "(I)I"⟩, 2), (⟨"MilkTruce$PassText", "faultOfPart", "(I[I[II)I"⟩, 2), (⟨"MilkTruce$PassText", "figure", "(I)I"⟩, 2), (⟨"MilkTruce$Shelf", "at", "(I)LMilkTruce$Meadow;"⟩, 1), (⟨"MilkTruce$Meadow", "isWarning", "(I)Z"⟩, 9), (⟨"MilkTruce$Meadow", "milkDueCows", "()V"⟩, 9), (⟨"MilkTruce$Meadow", "letCowsEat", "()V"⟩, 9), (⟨"MilkTruce", "hoursOnAfter", "(III)I"⟩, 12), (⟨"MilkTruce", "choicesOf", "(I)LMilkTruce$Choices;"⟩, 12), (⟨"MilkTruce$Choices", "add", "(I)V"⟩, 2), (⟨"MilkTruce$Choices", "addMovesOf", "(ILMilkTruce$Meadow;)V"⟩, 2), (⟨"MilkTruce", "stopsAfterSowing", "(III)Z"⟩, 12), (⟨"MilkTruce", "stopsOf", "(II)I"⟩, 12), (⟨"MilkTruce", "isAllSoOfTrial", "()Z"⟩, 12), (⟨"MilkTruce", "isAtRest", "(IIII)Z"⟩, 12), (⟨"MilkTruce", "hoursOfPair", "(III)I"⟩, 12)]
theorem lw_r1 : ∀ q ∈ lw_privs_1, lw_okq q := List.forall_mem_cons.mpr ⟨lw_p0, List.forall_mem_cons.mpr ⟨lw_p1, List.forall_mem_cons.mpr ⟨lw_p2, List.forall_mem_cons.mpr ⟨lw_p3, List.forall_mem_cons.mpr ⟨lw_p4, List.forall_mem_cons.mpr ⟨lw_p5, List.forall_mem_cons.mpr ⟨lw_p6, List.forall_mem_cons.mpr ⟨lw_p7, List.forall_mem_cons.mpr ⟨lw_p8, List.forall_mem_cons.mpr ⟨lw_p9, List.forall_mem_cons.mpr ⟨lw_p10, List.forall_mem_cons.mpr ⟨lw_p11, List.forall_mem_cons.mpr ⟨lw_p12, List.forall_mem_cons.mpr ⟨lw_p13, List.forall_mem_cons.mpr ⟨lw_p14, List.forall_mem_cons.mpr ⟨lw_p15, fun _ h => absurd h List.not_mem_nil⟩⟩⟩⟩⟩⟩⟩⟩⟩⟩⟩⟩⟩⟩⟩⟩
theorem lw_p16 : lw_okq (⟨"MilkTruce", "stopsLastBySnows", "(II)Z"⟩, 12) := ⟨⟨by decide +kernel, by decide +kernel⟩, List.mem_of_getElem? (i := 14) (by decide +kernel), List.mem_of_getElem? (i := 619) (by decide +kernel), List.mem_of_getElem? (i := 620) (by decide +kernel)⟩
theorem lw_p17 : lw_okq (⟨"MilkTruceModel", "readText", "()I"⟩, 26) := ⟨⟨by decide +kernel, by decide +kernel⟩, List.mem_of_getElem? (i := 659) (by decide +kernel), List.mem_of_getElem? (i := 760) (by decide +kernel), List.mem_of_getElem? (i := 761) (by decide +kernel)⟩
theorem lw_p18 : lw_okq (⟨"MilkTruceModel", "figureOf", "(I)I"⟩, 26) := ⟨⟨by decide +kernel, by decide +kernel⟩, List.mem_of_getElem? (i := 659) (by decide +kernel), List.mem_of_getElem? (i := 764) (by decide +kernel), List.mem_of_getElem? (i := 765) (by decide +kernel)⟩
theorem lw_p19 : lw_okq (⟨"MilkTruceModel", "figure", "(II)I"⟩, 26) := ⟨⟨by decide +kernel, by decide +kernel⟩, List.mem_of_getElem? (i := 659) (by decide +kernel), List.mem_of_getElem? (i := 772) (by decide +kernel), List.mem_of_getElem? (i := 773) (by decide +kernel)⟩
theorem lw_p20 : lw_okq (⟨"MilkTruceModel", "readCow", "()V"⟩, 26) := ⟨⟨by decide +kernel, by decide +kernel⟩, List.mem_of_getElem? (i := 659) (by decide +kernel), List.mem_of_getElem? (i := 776) (by decide +kernel), List.mem_of_getElem? (i := 777) (by decide +kernel)⟩
theorem lw_p21 : lw_okq (⟨"MilkTruceModel", "isCow", "(I)Z"⟩, 26) := ⟨⟨by decide +kernel, by decide +kernel⟩, List.mem_of_getElem? (i := 659) (by decide +kernel), List.mem_of_getElem? (i := 792) (by decide +kernel), List.mem_of_getElem? (i := 793) (by decide +kernel)⟩
theorem lw_p22 : lw_okq (⟨"MilkTruceModel", "isDue", "(II)Z"⟩, 26) := ⟨⟨by decide +kernel, by decide +kernel⟩, List.mem_of_getElem? (i := 659) (by decide +kernel), List.mem_of_getElem? (i := 796) (by decide +kernel), List.mem_of_getElem? (i := 797) (by decide +kernel)⟩
theorem lw_p23 : lw_okq (⟨"MilkTruceModel", "keepAct", "()V"⟩, 26) := ⟨⟨by decide +kernel, by decide +kernel⟩, List.mem_of_getElem? (i := 659) (by decide +kernel), List.mem_of_getElem? (i := 804) (by decide +kernel), List.mem_of_getElem? (i := 805) (by decide +kernel)⟩
theorem lw_p24 : lw_okq (⟨"MilkTruceModel", "passOn", "(IIZ)I"⟩, 26) := ⟨⟨by decide +kernel, by decide +kernel⟩, List.mem_of_getElem? (i := 659) (by decide +kernel), List.mem_of_getElem? (i := 808) (by decide +kernel), List.mem_of_getElem? (i := 809) (by decide +kernel)⟩
theorem lw_p25 : lw_okq (⟨"MilkTruceModel", "sortOf", "(IIZ)I"⟩, 26) := ⟨⟨by decide +kernel, by decide +kernel⟩, List.mem_of_getElem? (i := 659) (by decide +kernel), List.mem_of_getElem? (i := 812) (by decide +kernel), List.mem_of_getElem? (i := 813) (by decide +kernel)⟩
theorem lw_p26 : lw_okq (⟨"MilkTruceModel", "isSomeDue", "(II)Z"⟩, 26) := ⟨⟨by decide +kernel, by decide +kernel⟩, List.mem_of_getElem? (i := 659) (by decide +kernel), List.mem_of_getElem? (i := 816) (by decide +kernel), List.mem_of_getElem? (i := 817) (by decide +kernel)⟩
theorem lw_p27 : lw_okq (⟨"MilkTruceModel", "eat", "(II)V"⟩, 26) := ⟨⟨by decide +kernel, by decide +kernel⟩, List.mem_of_getElem? (i := 659) (by decide +kernel), List.mem_of_getElem? (i := 820) (by decide +kernel), List.mem_of_getElem? (i := 821) (by decide +kernel)⟩
theorem lw_p28 : lw_okq (⟨"MilkTruceModel", "isCowOn", "(I)Z"⟩, 26) := ⟨⟨by decide +kernel, by decide +kernel⟩, List.mem_of_getElem? (i := 659) (by decide +kernel), List.mem_of_getElem? (i := 828) (by decide +kernel), List.mem_of_getElem? (i := 829) (by decide +kernel)⟩
theorem lw_p29 : lw_okq (⟨"MilkTruceModel", "layTrial", "()V"⟩, 26) := ⟨⟨by decide +kernel, by decide +kernel⟩, List.mem_of_getElem? (i := 659) (by decide +kernel), List.mem_of_getElem? (i := 849) (by decide +kernel), List.mem_of_getElem? (i := 850) (by decide +kernel)⟩
theorem lw_p30 : lw_okq (⟨"MilkTruceModel", "manyOf", "(III)I"⟩, 26) := ⟨⟨by decide +kernel, by decide +kernel⟩, List.mem_of_getElem? (i := 659) (by decide +kernel), List.mem_of_getElem? (i := 857) (by decide +kernel), List.mem_of_getElem? (i := 858) (by decide +kernel)⟩
theorem lw_p31 : lw_okq (⟨"MilkTruceModel", "isChoice", "(II)Z"⟩, 26) := ⟨⟨by decide +kernel, by decide +kernel⟩, List.mem_of_getElem? (i := 659) (by decide +kernel), List.mem_of_getElem? (i := 870) (by decide +kernel), List.mem_of_getElem? (i := 871) (by decide +kernel)⟩
def lw_privs_2 : List (MethodName × Nat) := [(⟨"MilkTruce", "stopsLastBySnows", "(II)Z"⟩, 12), (⟨"MilkTruceModel", "readText", "()I"⟩, 26), (⟨"MilkTruceModel", "figureOf", "(I)I"⟩, 26), (⟨"MilkTruceModel", "figure", "(II)I"⟩, 26), (⟨"MilkTruceModel", "readCow", "()V"⟩, 26), (⟨"MilkTruceModel", "isCow", "(I)Z"⟩, 26), (⟨"MilkTruceModel", "isDue", "(II)Z"⟩, 26), (⟨"MilkTruceModel", "keepAct", "()V"⟩, 26), (⟨"MilkTruceModel", "passOn", "(IIZ)I"⟩, 26), (⟨"MilkTruceModel", "sortOf", "(IIZ)I"⟩, 26), (⟨"MilkTruceModel", "isSomeDue", "(II)Z"⟩, 26), (⟨"MilkTruceModel", "eat", "(II)V"⟩, 26), (⟨"MilkTruceModel", "isCowOn", "(I)Z"⟩, 26), (⟨"MilkTruceModel", "layTrial", "()V"⟩, 26), (⟨"MilkTruceModel", "manyOf", "(III)I"⟩, 26), (⟨"MilkTruceModel", "isChoice", "(II)Z"⟩, 26)]
theorem lw_r2 : ∀ q ∈ lw_privs_2, lw_okq q := List.forall_mem_cons.mpr ⟨lw_p16, List.forall_mem_cons.mpr ⟨lw_p17, List.forall_mem_cons.mpr ⟨lw_p18, List.forall_mem_cons.mpr ⟨lw_p19, List.forall_mem_cons.mpr ⟨lw_p20, List.forall_mem_cons.mpr ⟨lw_p21, List.forall_mem_cons.mpr ⟨lw_p22, List.forall_mem_cons.mpr ⟨lw_p23, List.forall_mem_cons.mpr ⟨lw_p24, List.forall_mem_cons.mpr ⟨lw_p25, List.forall_mem_cons.mpr ⟨lw_p26, List.forall_mem_cons.mpr ⟨lw_p27, List.forall_mem_cons.mpr ⟨lw_p28, List.forall_mem_cons.mpr ⟨lw_p29, List.forall_mem_cons.mpr ⟨lw_p30, List.forall_mem_cons.mpr ⟨lw_p31, fun _ h => absurd h List.not_mem_nil⟩⟩⟩⟩⟩⟩⟩⟩⟩⟩⟩⟩⟩⟩⟩⟩
theorem lw_p32 : lw_okq (⟨"MilkTruceModel", "moveTrial", "(I)V"⟩, 26) := ⟨⟨by decide +kernel, by decide +kernel⟩, List.mem_of_getElem? (i := 659) (by decide +kernel), List.mem_of_getElem? (i := 874) (by decide +kernel), List.mem_of_getElem? (i := 875) (by decide +kernel)⟩
theorem lw_p33 : lw_okq (⟨"MilkTruceModel", "stopsBy", "(III)Z"⟩, 26) := ⟨⟨by decide +kernel, by decide +kernel⟩, List.mem_of_getElem? (i := 659) (by decide +kernel), List.mem_of_getElem? (i := 882) (by decide +kernel), List.mem_of_getElem? (i := 883) (by decide +kernel)⟩
theorem lw_p34 : lw_okq (⟨"MilkTruceModel", "fits", "(II)Z"⟩, 26) := ⟨⟨by decide +kernel, by decide +kernel⟩, List.mem_of_getElem? (i := 659) (by decide +kernel), List.mem_of_getElem? (i := 923) (by decide +kernel), List.mem_of_getElem? (i := 924) (by decide +kernel)⟩
theorem lw_p35 : lw_okq (⟨"MilkTruceModel", "layOns", "(I)V"⟩, 26) := ⟨⟨by decide +kernel, by decide +kernel⟩, List.mem_of_getElem? (i := 659) (by decide +kernel), List.mem_of_getElem? (i := 931) (by decide +kernel), List.mem_of_getElem? (i := 932) (by decide +kernel)⟩
theorem lw_p36 : lw_okq (⟨"MilkTruceModel", "isRest", "(II)Z"⟩, 26) := ⟨⟨by decide +kernel, by decide +kernel⟩, List.mem_of_getElem? (i := 659) (by decide +kernel), List.mem_of_getElem? (i := 935) (by decide +kernel), List.mem_of_getElem? (i := 936) (by decide +kernel)⟩
def lw_privs_3 : List (MethodName × Nat) := [(⟨"MilkTruceModel", "moveTrial", "(I)V"⟩, 26), (⟨"MilkTruceModel", "stopsBy", "(III)Z"⟩, 26), (⟨"MilkTruceModel", "fits", "(II)Z"⟩, 26), (⟨"MilkTruceModel", "layOns", "(I)V"⟩, 26), (⟨"MilkTruceModel", "isRest", "(II)Z"⟩, 26)]
theorem lw_r3 : ∀ q ∈ lw_privs_3, lw_okq q := List.forall_mem_cons.mpr ⟨lw_p32, List.forall_mem_cons.mpr ⟨lw_p33, List.forall_mem_cons.mpr ⟨lw_p34, List.forall_mem_cons.mpr ⟨lw_p35, List.forall_mem_cons.mpr ⟨lw_p36, fun _ h => absurd h List.not_mem_nil⟩⟩⟩⟩⟩
def lw_privs : List (MethodName × Nat) := lw_privs_1 ++ (lw_privs_2 ++ (lw_privs_3))
def lw_tbl : List Cond := k2_sels lw_privs ++ tables_1
theorem lw_privs_ok : ∀ q ∈ lw_privs, lw_okq q := by
  show ∀ q ∈ lw_privs_1 ++ (lw_privs_2 ++ (lw_privs_3)), lw_okq q
  exact List.forall_mem_append.mpr ⟨lw_r1, List.forall_mem_append.mpr ⟨lw_r2, lw_r3⟩⟩

def RX0 : String := "MilkTruce$ActRow"
def TX0 : u_T := fun k => match k with
  | 0 => ("MilkTruce$ActRow", "before", "LMilkTruce$Shelf;", true)
  | 1 => ("MilkTruce$ActRow", "first", "I", false)
  | _ => ("MilkTruce$ActRow", "many", "I", false)
def tyX0 : Nat → FieldType := fun k => match k with
  | 0 => .object "MilkTruce$Shelf"
  | 1 => .int
  | _ => .int
abbrev wsX00 : List Cond := u_ws RX0 TX0 3
theorem nmX0 : ∀ a, a < 3 → ∀ b, b < 3 → a ≠ b → (TX0 a).2.1 ≠ (TX0 b).2.1 := by decide +kernel
theorem tyX0_ok : ∀ k, k < 3 → parseFieldDescriptor (TX0 k).2.2.1 = some (tyX0 k) := by decide +kernel
abbrev cX0_init : ByteArray := prog_2_method_1_code
def yX0_init : MethodName := ⟨RX0, "<init>", "(LMilkTruce$Herd;)V"⟩
abbrev cX0_clear : ByteArray := prog_2_method_2_code
def yX0_clear : MethodName := ⟨RX0, "clear", "()V"⟩
abbrev cX0_size : ByteArray := prog_2_method_3_code
def yX0_size : MethodName := ⟨RX0, "size", "()I"⟩
abbrev cX0_remember : ByteArray := prog_2_method_4_code
def yX0_remember : MethodName := ⟨RX0, "remember", "(LMilkTruce$Meadow;)V"⟩
abbrev cX0_takeBack : ByteArray := prog_2_method_5_code
def yX0_takeBack : MethodName := ⟨RX0, "takeBack", "(LMilkTruce$Meadow;)V"⟩
def RX1 : String := "MilkTruce$Choices"
def TX1 : u_T := fun k => match k with
  | 0 => ("MilkTruce$Choices", "row", "[I", true)
  | _ => ("MilkTruce$Choices", "many", "I", false)
def tyX1 : Nat → FieldType := fun k => match k with
  | 0 => .array .int
  | _ => .int
abbrev wsX10 : List Cond := u_ws RX1 TX1 2
theorem nmX1 : ∀ a, a < 2 → ∀ b, b < 2 → a ≠ b → (TX1 a).2.1 ≠ (TX1 b).2.1 := by decide +kernel
theorem tyX1_ok : ∀ k, k < 2 → parseFieldDescriptor (TX1 k).2.2.1 = some (tyX1 k) := by decide +kernel
abbrev cX1_init : ByteArray := prog_3_method_1_code
def yX1_init : MethodName := ⟨RX1, "<init>", "()V"⟩
abbrev cX1_lookAt : ByteArray := prog_3_method_2_code
def yX1_lookAt : MethodName := ⟨RX1, "lookAt", "(LMilkTruce$Meadow;I)V"⟩
abbrev cX1_addMovesOf : ByteArray := prog_3_method_3_code
def yX1_addMovesOf : MethodName := ⟨RX1, "addMovesOf", "(ILMilkTruce$Meadow;)V"⟩
abbrev cX1_add : ByteArray := prog_3_method_4_code
def yX1_add : MethodName := ⟨RX1, "add", "(I)V"⟩
abbrev cX1_size : ByteArray := prog_3_method_5_code
def yX1_size : MethodName := ⟨RX1, "size", "()I"⟩
abbrev cX1_at : ByteArray := prog_3_method_6_code
def yX1_at : MethodName := ⟨RX1, "at", "(I)I"⟩
def RX2 : String := "MilkTruce$Herd"
def TX2 : u_T := fun k => match k with
  | 0 => ("MilkTruce$Herd", "sides", "[I", true)
  | 1 => ("MilkTruce$Herd", "kinds", "[I", true)
  | _ => ("MilkTruce$Herd", "cows", "I", false)
def tyX2 : Nat → FieldType := fun k => match k with
  | 0 => .array .int
  | 1 => .array .int
  | _ => .int
abbrev wsX20 : List Cond := u_ws RX2 TX2 3
theorem nmX2 : ∀ a, a < 3 → ∀ b, b < 3 → a ≠ b → (TX2 a).2.1 ≠ (TX2 b).2.1 := by decide +kernel
theorem tyX2_ok : ∀ k, k < 3 → parseFieldDescriptor (TX2 k).2.2.1 = some (tyX2 k) := by decide +kernel
abbrev cX2_init : ByteArray := prog_4_method_1_code
def yX2_init : MethodName := ⟨RX2, "<init>", "()V"⟩
abbrev cX2_clear : ByteArray := prog_4_method_2_code
def yX2_clear : MethodName := ⟨RX2, "clear", "()V"⟩
abbrev cX2_add : ByteArray := prog_4_method_3_code
def yX2_add : MethodName := ⟨RX2, "add", "(II)V"⟩
abbrev cX2_size : ByteArray := prog_4_method_4_code
def yX2_size : MethodName := ⟨RX2, "size", "()I"⟩
abbrev cX2_has : ByteArray := prog_4_method_5_code
def yX2_has : MethodName := ⟨RX2, "has", "(I)Z"⟩
abbrev cX2_sideOf : ByteArray := prog_4_method_6_code
def yX2_sideOf : MethodName := ⟨RX2, "sideOf", "(I)I"⟩
abbrev cX2_kindOf : ByteArray := prog_4_method_7_code
def yX2_kindOf : MethodName := ⟨RX2, "kindOf", "(I)I"⟩
def RX3 : String := "MilkTruce$Meadow"
def TX3 : u_T := fun k => match k with
  | 0 => ("MilkTruce$Meadow", "herd", "LMilkTruce$Herd;", true)
  | 1 => ("MilkTruce$Meadow", "clover", "[I", true)
  | 2 => ("MilkTruce$Meadow", "cells", "[I", true)
  | 3 => ("MilkTruce$Meadow", "fullnesses", "[I", true)
  | 4 => ("MilkTruce$Meadow", "pails", "[I", true)
  | 5 => ("MilkTruce$Meadow", "here", "I", false)
  | 6 => ("MilkTruce$Meadow", "snowing", "Z", false)
  | 7 => ("MilkTruce$Meadow", "hours", "I", false)
  | _ => ("MilkTruce$Meadow", "warHours", "I", false)
def tyX3 : Nat → FieldType := fun k => match k with
  | 0 => .object "MilkTruce$Herd"
  | 1 => .array .int
  | 2 => .array .int
  | 3 => .array .int
  | 4 => .array .int
  | 5 => .int
  | 6 => .boolean
  | 7 => .int
  | _ => .int
abbrev wsX30 : List Cond := u_ws RX3 TX3 9
theorem nmX3 : ∀ a, a < 9 → ∀ b, b < 9 → a ≠ b → (TX3 a).2.1 ≠ (TX3 b).2.1 := by decide +kernel
theorem tyX3_ok : ∀ k, k < 9 → parseFieldDescriptor (TX3 k).2.2.1 = some (tyX3 k) := by decide +kernel
abbrev cX3_init : ByteArray := prog_5_method_1_code
def yX3_init : MethodName := ⟨RX3, "<init>", "(LMilkTruce$Herd;)V"⟩
abbrev cX3_clear : ByteArray := prog_5_method_2_code
def yX3_clear : MethodName := ⟨RX3, "clear", "()V"⟩
abbrev cX3_become : ByteArray := prog_5_method_3_code
def yX3_become : MethodName := ⟨RX3, "become", "(LMilkTruce$Meadow;)V"⟩
abbrev cX3_addCow : ByteArray := prog_5_method_4_code
def yX3_addCow : MethodName := ⟨RX3, "addCow", "(IIII)V"⟩
abbrev cX3_sendAwayAllBut : ByteArray := prog_5_method_5_code
def yX3_sendAwayAllBut : MethodName := ⟨RX3, "sendAwayAllBut", "(I)V"⟩
abbrev cX3_isHere : ByteArray := prog_5_method_6_code
def yX3_isHere : MethodName := ⟨RX3, "isHere", "(I)Z"⟩
abbrev cX3_isOfSide : ByteArray := prog_5_method_7_code
def yX3_isOfSide : MethodName := ⟨RX3, "isOfSide", "(II)Z"⟩
abbrev cX3_cellOf : ByteArray := prog_5_method_8_code
def yX3_cellOf : MethodName := ⟨RX3, "cellOf", "(I)I"⟩
abbrev cX3_fullnessOf : ByteArray := prog_5_method_9_code
def yX3_fullnessOf : MethodName := ⟨RX3, "fullnessOf", "(I)I"⟩
abbrev cX3_putCow : ByteArray := prog_5_method_10_code
def yX3_putCow : MethodName := ⟨RX3, "putCow", "(II)V"⟩
abbrev cX3_fillCow : ByteArray := prog_5_method_11_code
def yX3_fillCow : MethodName := ⟨RX3, "fillCow", "(II)V"⟩
abbrev cX3_moveBy : ByteArray := prog_5_method_12_code
def yX3_moveBy : MethodName := ⟨RX3, "moveBy", "(I)V"⟩
abbrev cX3_isGrazed : ByteArray := prog_5_method_13_code
def yX3_isGrazed : MethodName := ⟨RX3, "isGrazed", "(I)Z"⟩
abbrev cX3_cloverOn : ByteArray := prog_5_method_14_code
def yX3_cloverOn : MethodName := ⟨RX3, "cloverOn", "(I)I"⟩
abbrev cX3_growOn : ByteArray := prog_5_method_15_code
def yX3_growOn : MethodName := ⟨RX3, "growOn", "(II)V"⟩
abbrev cX3_maySow : ByteArray := prog_5_method_16_code
def yX3_maySow : MethodName := ⟨RX3, "maySow", "(I)Z"⟩
abbrev cX3_sowOn : ByteArray := prog_5_method_17_code
def yX3_sowOn : MethodName := ⟨RX3, "sowOn", "(I)V"⟩
abbrev cX3_isSnowing : ByteArray := prog_5_method_18_code
def yX3_isSnowing : MethodName := ⟨RX3, "isSnowing", "()Z"⟩
abbrev cX3_letSnow : ByteArray := prog_5_method_19_code
def yX3_letSnow : MethodName := ⟨RX3, "letSnow", "(Z)V"⟩
abbrev cX3_pailsOf : ByteArray := prog_5_method_20_code
def yX3_pailsOf : MethodName := ⟨RX3, "pailsOf", "(I)I"⟩
abbrev cX3_hourNow : ByteArray := prog_5_method_21_code
def yX3_hourNow : MethodName := ⟨RX3, "hourNow", "()I"⟩
abbrev cX3_hoursOfWar : ByteArray := prog_5_method_22_code
def yX3_hoursOfWar : MethodName := ⟨RX3, "hoursOfWar", "()I"⟩
abbrev cX3_isDue : ByteArray := prog_5_method_23_code
def yX3_isDue : MethodName := ⟨RX3, "isDue", "(I)Z"⟩
abbrev cX3_isWarning : ByteArray := prog_5_method_24_code
def yX3_isWarning : MethodName := ⟨RX3, "isWarning", "(I)Z"⟩
abbrev cX3_sortOfHour : ByteArray := prog_5_method_25_code
def yX3_sortOfHour : MethodName := ⟨RX3, "sortOfHour", "(Z)I"⟩
abbrev cX3_hourComes : ByteArray := prog_5_method_26_code
def yX3_hourComes : MethodName := ⟨RX3, "hourComes", "(Z)I"⟩
abbrev cX3_countOf : ByteArray := prog_5_method_27_code
def yX3_countOf : MethodName := ⟨RX3, "countOf", "(II)I"⟩
abbrev cX3_lastSortOf : ByteArray := prog_5_method_28_code
def yX3_lastSortOf : MethodName := ⟨RX3, "lastSortOf", "(I)I"⟩
abbrev cX3_milkDueCows : ByteArray := prog_5_method_29_code
def yX3_milkDueCows : MethodName := ⟨RX3, "milkDueCows", "()V"⟩
abbrev cX3_letCowsEat : ByteArray := prog_5_method_30_code
def yX3_letCowsEat : MethodName := ⟨RX3, "letCowsEat", "()V"⟩
def RX4 : String := "MilkTruce$PassText"
def TX4 : u_T := fun k => match k with
  | 0 => ("MilkTruce$PassText", "letters", "[I", true)
  | _ => ("MilkTruce$PassText", "length", "I", false)
def tyX4 : Nat → FieldType := fun k => match k with
  | 0 => .array .int
  | _ => .int
abbrev wsX40 : List Cond := u_ws RX4 TX4 2
theorem nmX4 : ∀ a, a < 2 → ∀ b, b < 2 → a ≠ b → (TX4 a).2.1 ≠ (TX4 b).2.1 := by decide +kernel
theorem tyX4_ok : ∀ k, k < 2 → parseFieldDescriptor (TX4 k).2.2.1 = some (tyX4 k) := by decide +kernel
abbrev cX4_init : ByteArray := prog_6_method_1_code
def yX4_init : MethodName := ⟨RX4, "<init>", "()V"⟩
abbrev cX4_size : ByteArray := prog_6_method_2_code
def yX4_size : MethodName := ⟨RX4, "size", "()I"⟩
abbrev cX4_clear : ByteArray := prog_6_method_3_code
def yX4_clear : MethodName := ⟨RX4, "clear", "()V"⟩
abbrev cX4_add : ByteArray := prog_6_method_4_code
def yX4_add : MethodName := ⟨RX4, "add", "(I)Z"⟩
abbrev cX4_letter : ByteArray := prog_6_method_5_code
def yX4_letter : MethodName := ⟨RX4, "letter", "(I)I"⟩
abbrev cX4_figure : ByteArray := prog_6_method_6_code
def yX4_figure : MethodName := ⟨RX4, "figure", "(I)I"⟩
abbrev cX4_faultPlace : ByteArray := prog_6_method_7_code
def yX4_faultPlace : MethodName := ⟨RX4, "faultPlace", "()I"⟩
abbrev cX4_faultOfPart : ByteArray := prog_6_method_8_code
def yX4_faultOfPart : MethodName := ⟨RX4, "faultOfPart", "(I[I[II)I"⟩
abbrev cX4_tellTo : ByteArray := prog_6_method_9_code
def yX4_tellTo : MethodName := ⟨RX4, "tellTo", "(LMilkTruce$Meadow;)V"⟩
def RX5 : String := "MilkTruce$Shelf"
def TX5 : u_T := fun k => match k with
  | _ => ("MilkTruce$Shelf", "places", "[LMilkTruce$Meadow;", true)
def tyX5 : Nat → FieldType := fun k => match k with
  | _ => .array (.object "MilkTruce$Meadow")
abbrev wsX50 : List Cond := u_ws RX5 TX5 1
theorem nmX5 : ∀ a, a < 1 → ∀ b, b < 1 → a ≠ b → (TX5 a).2.1 ≠ (TX5 b).2.1 := by decide +kernel
theorem tyX5_ok : ∀ k, k < 1 → parseFieldDescriptor (TX5 k).2.2.1 = some (tyX5 k) := by decide +kernel
abbrev cX5_init : ByteArray := prog_7_method_1_code
def yX5_init : MethodName := ⟨RX5, "<init>", "(ILMilkTruce$Herd;)V"⟩
abbrev cX5_at : ByteArray := prog_7_method_2_code
def yX5_at : MethodName := ⟨RX5, "at", "(I)LMilkTruce$Meadow;"⟩
abbrev cX5_put : ByteArray := prog_7_method_3_code
def yX5_put : MethodName := ⟨RX5, "put", "(ILMilkTruce$Meadow;)V"⟩
abbrev cX5_take : ByteArray := prog_7_method_4_code
def yX5_take : MethodName := ⟨RX5, "take", "(ILMilkTruce$Meadow;)V"⟩
def RX6 : String := "MilkTruce$Tellings"
def TX6 : u_T := fun k => match k with
  | 0 => ("MilkTruce$Tellings", "cows", "[I", true)
  | 1 => ("MilkTruce$Tellings", "hours", "[I", true)
  | 2 => ("MilkTruce$Tellings", "dues", "[Z", true)
  | _ => ("MilkTruce$Tellings", "many", "I", false)
def tyX6 : Nat → FieldType := fun k => match k with
  | 0 => .array .int
  | 1 => .array .int
  | 2 => .array .boolean
  | _ => .int
abbrev wsX60 : List Cond := u_ws RX6 TX6 4
theorem nmX6 : ∀ a, a < 4 → ∀ b, b < 4 → a ≠ b → (TX6 a).2.1 ≠ (TX6 b).2.1 := by decide +kernel
theorem tyX6_ok : ∀ k, k < 4 → parseFieldDescriptor (TX6 k).2.2.1 = some (tyX6 k) := by decide +kernel
abbrev cX6_init : ByteArray := prog_8_method_1_code
def yX6_init : MethodName := ⟨RX6, "<init>", "()V"⟩
abbrev cX6_clear : ByteArray := prog_8_method_2_code
def yX6_clear : MethodName := ⟨RX6, "clear", "()V"⟩
abbrev cX6_size : ByteArray := prog_8_method_3_code
def yX6_size : MethodName := ⟨RX6, "size", "()I"⟩
abbrev cX6_add : ByteArray := prog_8_method_4_code
def yX6_add : MethodName := ⟨RX6, "add", "(IIZ)Z"⟩
abbrev cX6_areSoOf : ByteArray := prog_8_method_5_code
def yX6_areSoOf : MethodName := ⟨RX6, "areSoOf", "(LMilkTruce$Meadow;I)Z"⟩
def RX7 : String := "MilkTruce"
def TX7 : u_T := fun k => match k with
  | 0 => ("MilkTruce", "text", "LMilkTruce$PassText;", true)
  | 1 => ("MilkTruce", "herd", "LMilkTruce$Herd;", true)
  | 2 => ("MilkTruce", "meadow", "LMilkTruce$Meadow;", true)
  | 3 => ("MilkTruce", "trial", "LMilkTruce$Meadow;", true)
  | 4 => ("MilkTruce", "acts", "LMilkTruce$ActRow;", true)
  | 5 => ("MilkTruce", "kept", "LMilkTruce$Shelf;", true)
  | 6 => ("MilkTruce", "isKept", "[Z", true)
  | 7 => ("MilkTruce", "tellings", "LMilkTruce$Tellings;", true)
  | 8 => ("MilkTruce", "choicesOfSide0", "LMilkTruce$Choices;", true)
  | 9 => ("MilkTruce", "choicesOfSide1", "LMilkTruce$Choices;", true)
  | 10 => ("MilkTruce", "pairHours", "[I", true)
  | _ => ("MilkTruce", "seedNow", "J", false)
def tyX7 : Nat → FieldType := fun k => match k with
  | 0 => .object "MilkTruce$PassText"
  | 1 => .object "MilkTruce$Herd"
  | 2 => .object "MilkTruce$Meadow"
  | 3 => .object "MilkTruce$Meadow"
  | 4 => .object "MilkTruce$ActRow"
  | 5 => .object "MilkTruce$Shelf"
  | 6 => .array .boolean
  | 7 => .object "MilkTruce$Tellings"
  | 8 => .object "MilkTruce$Choices"
  | 9 => .object "MilkTruce$Choices"
  | 10 => .array .int
  | _ => .long
abbrev wsX70 : List Cond := u_ws RX7 TX7 12
theorem nmX7 : ∀ a, a < 12 → ∀ b, b < 12 → a ≠ b → (TX7 a).2.1 ≠ (TX7 b).2.1 := by decide +kernel
theorem tyX7_ok : ∀ k, k < 12 → parseFieldDescriptor (TX7 k).2.2.1 = some (tyX7 k) := by decide +kernel
abbrev cX7_init : ByteArray := prog_1_method_1_code
def yX7_init : MethodName := ⟨RX7, "<init>", "()V"⟩
abbrev cX7_write : ByteArray := prog_1_method_2_code
def yX7_write : MethodName := ⟨RX7, "write", "(I)I"⟩
abbrev cX7_wipe : ByteArray := prog_1_method_3_code
def yX7_wipe : MethodName := ⟨RX7, "wipe", "()I"⟩
abbrev cX7_fault : ByteArray := prog_1_method_4_code
def yX7_fault : MethodName := ⟨RX7, "fault", "()I"⟩
abbrev cX7_pass : ByteArray := prog_1_method_5_code
def yX7_pass : MethodName := ⟨RX7, "pass", "()I"⟩
abbrev cX7_clover : ByteArray := prog_1_method_6_code
def yX7_clover : MethodName := ⟨RX7, "clover", "(I)I"⟩
abbrev cX7_cow : ByteArray := prog_1_method_7_code
def yX7_cow : MethodName := ⟨RX7, "cow", "(II)I"⟩
abbrev cX7_hour : ByteArray := prog_1_method_8_code
def yX7_hour : MethodName := ⟨RX7, "hour", "(Z)I"⟩
abbrev cX7_move : ByteArray := prog_1_method_9_code
def yX7_move : MethodName := ⟨RX7, "move", "(II)I"⟩
abbrev cX7_sow : ByteArray := prog_1_method_10_code
def yX7_sow : MethodName := ⟨RX7, "sow", "(I)I"⟩
abbrev cX7_snow : ByteArray := prog_1_method_11_code
def yX7_snow : MethodName := ⟨RX7, "snow", "()I"⟩
abbrev cX7_undo : ByteArray := prog_1_method_12_code
def yX7_undo : MethodName := ⟨RX7, "undo", "()I"⟩
abbrev cX7_sorts : ByteArray := prog_1_method_13_code
def yX7_sorts : MethodName := ⟨RX7, "sorts", "(I)I"⟩
abbrev cX7_on : ByteArray := prog_1_method_14_code
def yX7_on : MethodName := ⟨RX7, "on", "(I)I"⟩
abbrev cX7_milk : ByteArray := prog_1_method_15_code
def yX7_milk : MethodName := ⟨RX7, "milk", "(II)I"⟩
abbrev cX7_graze : ByteArray := prog_1_method_16_code
def yX7_graze : MethodName := ⟨RX7, "graze", "(IIZI)I"⟩
abbrev cX7_fewest : ByteArray := prog_1_method_17_code
def yX7_fewest : MethodName := ⟨RX7, "fewest", "(IZ)I"⟩
abbrev cX7_judge : ByteArray := prog_1_method_18_code
def yX7_judge : MethodName := ⟨RX7, "judge", "(II)I"⟩
abbrev cX7_share : ByteArray := prog_1_method_19_code
def yX7_share : MethodName := ⟨RX7, "share", "(IIZ)I"⟩
abbrev cX7_rang : ByteArray := prog_1_method_20_code
def yX7_rang : MethodName := ⟨RX7, "rang", "(II)I"⟩
abbrev cX7_tell : ByteArray := prog_1_method_21_code
def yX7_tell : MethodName := ⟨RX7, "tell", "(IIZ)I"⟩
abbrev cX7_untell : ByteArray := prog_1_method_22_code
def yX7_untell : MethodName := ⟨RX7, "untell", "()I"⟩
abbrev cX7_full : ByteArray := prog_1_method_23_code
def yX7_full : MethodName := ⟨RX7, "full", "(I)I"⟩
abbrev cX7_rests : ByteArray := prog_1_method_24_code
def yX7_rests : MethodName := ⟨RX7, "rests", "(II)I"⟩
abbrev cX7_chance : ByteArray := prog_1_method_25_code
def yX7_chance : MethodName := ⟨RX7, "chance", "(IIZ)I"⟩
abbrev cX7_seed : ByteArray := prog_1_method_26_code
def yX7_seed : MethodName := ⟨RX7, "seed", "(J)J"⟩
abbrev cX7_summers : ByteArray := prog_1_method_27_code
def yX7_summers : MethodName := ⟨RX7, "summers", "(I)I"⟩
abbrev cX7_keep : ByteArray := prog_1_method_28_code
def yX7_keep : MethodName := ⟨RX7, "keep", "(I)I"⟩
abbrev cX7_again : ByteArray := prog_1_method_29_code
def yX7_again : MethodName := ⟨RX7, "again", "(I)I"⟩
abbrev cX7_count : ByteArray := prog_1_method_30_code
def yX7_count : MethodName := ⟨RX7, "count", "(I)I"⟩
abbrev cX7_isCell : ByteArray := prog_1_method_31_code
def yX7_isCell : MethodName := ⟨RX7, "isCell", "(I)Z"⟩
abbrev cX7_isSide : ByteArray := prog_1_method_32_code
def yX7_isSide : MethodName := ⟨RX7, "isSide", "(I)Z"⟩
abbrev cX7_isSlot : ByteArray := prog_1_method_33_code
def yX7_isSlot : MethodName := ⟨RX7, "isSlot", "(I)Z"⟩
abbrev cX7_isAhead : ByteArray := prog_1_method_34_code
def yX7_isAhead : MethodName := ⟨RX7, "isAhead", "(I)Z"⟩
abbrev cX7_cowOfChoice : ByteArray := prog_1_method_35_code
def yX7_cowOfChoice : MethodName := ⟨RX7, "cowOfChoice", "(I)I"⟩
abbrev cX7_cellOfChoice : ByteArray := prog_1_method_36_code
def yX7_cellOfChoice : MethodName := ⟨RX7, "cellOfChoice", "(I)I"⟩
abbrev cX7_areToOneCell : ByteArray := prog_1_method_37_code
def yX7_areToOneCell : MethodName := ⟨RX7, "areToOneCell", "(II)Z"⟩
abbrev cX7_hoursOnAfter : ByteArray := prog_1_method_38_code
def yX7_hoursOnAfter : MethodName := ⟨RX7, "hoursOnAfter", "(III)I"⟩
abbrev cX7_stopsOf : ByteArray := prog_1_method_39_code
def yX7_stopsOf : MethodName := ⟨RX7, "stopsOf", "(II)I"⟩
abbrev cX7_stopsAfterSowing : ByteArray := prog_1_method_40_code
def yX7_stopsAfterSowing : MethodName := ⟨RX7, "stopsAfterSowing", "(III)Z"⟩
abbrev cX7_stopsLastBySnows : ByteArray := prog_1_method_41_code
def yX7_stopsLastBySnows : MethodName := ⟨RX7, "stopsLastBySnows", "(II)Z"⟩
abbrev cX7_isAllSoOfTrial : ByteArray := prog_1_method_42_code
def yX7_isAllSoOfTrial : MethodName := ⟨RX7, "isAllSoOfTrial", "()Z"⟩
abbrev cX7_choicesOf : ByteArray := prog_1_method_43_code
def yX7_choicesOf : MethodName := ⟨RX7, "choicesOf", "(I)LMilkTruce$Choices;"⟩
abbrev cX7_hoursOfPair : ByteArray := prog_1_method_44_code
def yX7_hoursOfPair : MethodName := ⟨RX7, "hoursOfPair", "(III)I"⟩
abbrev cX7_isAtRest : ByteArray := prog_1_method_45_code
def yX7_isAtRest : MethodName := ⟨RX7, "isAtRest", "(IIII)Z"⟩
abbrev cX7_termOf : ByteArray := prog_1_method_46_code
def yX7_termOf : MethodName := ⟨RX7, "termOf", "(IIZ)I"⟩
abbrev cX7_commonDivisor : ByteArray := prog_1_method_47_code
def yX7_commonDivisor : MethodName := ⟨RX7, "commonDivisor", "(II)I"⟩
abbrev cX7_powerOfTen : ByteArray := prog_1_method_48_code
def yX7_powerOfTen : MethodName := ⟨RX7, "powerOfTen", "(I)I"⟩
abbrev cX7_power : ByteArray := prog_1_method_49_code
def yX7_power : MethodName := ⟨RX7, "power", "(II)I"⟩
abbrev cX7_factorial : ByteArray := prog_1_method_50_code
def yX7_factorial : MethodName := ⟨RX7, "factorial", "(I)I"⟩
def RX8 : String := "MilkTruceModel"
def TX8 : u_T := fun k => match k with
  | 0 => ("MilkTruceModel", "cows", "I", false)
  | 1 => ("MilkTruceModel", "side", "[I", true)
  | 2 => ("MilkTruceModel", "kind", "[I", true)
  | 3 => ("MilkTruceModel", "now", "[I", true)
  | 4 => ("MilkTruceModel", "read", "[I", true)
  | 5 => ("MilkTruceModel", "readSide", "[I", true)
  | 6 => ("MilkTruceModel", "readKind", "[I", true)
  | 7 => ("MilkTruceModel", "readCows", "I", false)
  | 8 => ("MilkTruceModel", "readClover", "I", false)
  | 9 => ("MilkTruceModel", "readCells", "I", false)
  | 10 => ("MilkTruceModel", "text", "[I", true)
  | 11 => ("MilkTruceModel", "length", "I", false)
  | 12 => ("MilkTruceModel", "at", "I", false)
  | 13 => ("MilkTruceModel", "faultAt", "I", false)
  | 14 => ("MilkTruceModel", "acts", "I", false)
  | 15 => ("MilkTruceModel", "next", "I", false)
  | 16 => ("MilkTruceModel", "row", "[I", true)
  | 17 => ("MilkTruceModel", "stops", "[I", true)
  | 18 => ("MilkTruceModel", "tolds", "I", false)
  | 19 => ("MilkTruceModel", "toldOf", "[I", true)
  | 20 => ("MilkTruceModel", "toldAt", "[I", true)
  | 21 => ("MilkTruceModel", "toldDue", "[Z", true)
  | 22 => ("MilkTruceModel", "ons", "[I", true)
  | 23 => ("MilkTruceModel", "seed", "J", false)
  | 24 => ("MilkTruceModel", "isKept", "[Z", true)
  | _ => ("MilkTruceModel", "kept", "[I", true)
def tyX8 : Nat → FieldType := fun k => match k with
  | 0 => .int
  | 1 => .array .int
  | 2 => .array .int
  | 3 => .array .int
  | 4 => .array .int
  | 5 => .array .int
  | 6 => .array .int
  | 7 => .int
  | 8 => .int
  | 9 => .int
  | 10 => .array .int
  | 11 => .int
  | 12 => .int
  | 13 => .int
  | 14 => .int
  | 15 => .int
  | 16 => .array .int
  | 17 => .array .int
  | 18 => .int
  | 19 => .array .int
  | 20 => .array .int
  | 21 => .array .boolean
  | 22 => .array .int
  | 23 => .long
  | 24 => .array .boolean
  | _ => .array .int
abbrev wsX80 : List Cond := u_ws RX8 TX8 26
theorem nmX8 : ∀ a, a < 26 → ∀ b, b < 26 → a ≠ b → (TX8 a).2.1 ≠ (TX8 b).2.1 := by decide +kernel
theorem tyX8_ok : ∀ k, k < 26 → parseFieldDescriptor (TX8 k).2.2.1 = some (tyX8 k) := by decide +kernel
abbrev cX8_init : ByteArray := prog_10_method_1_code
def yX8_init : MethodName := ⟨RX8, "<init>", "()V"⟩
abbrev cX8_in : ByteArray := prog_10_method_3_code
def yX8_in : MethodName := ⟨RX8, "in", "(JJJ)Z"⟩
abbrev cX8_has : ByteArray := prog_10_method_4_code
def yX8_has : MethodName := ⟨RX8, "has", "(II)Z"⟩
abbrev cX8_ones : ByteArray := prog_10_method_5_code
def yX8_ones : MethodName := ⟨RX8, "ones", "(I)I"⟩
abbrev cX8_write : ByteArray := prog_10_method_6_code
def yX8_write : MethodName := ⟨RX8, "write", "(I)I"⟩
abbrev cX8_wipe : ByteArray := prog_10_method_7_code
def yX8_wipe : MethodName := ⟨RX8, "wipe", "()I"⟩
abbrev cX8_figure : ByteArray := prog_10_method_8_code
def yX8_figure : MethodName := ⟨RX8, "figure", "(II)I"⟩
abbrev cX8_figureOf : ByteArray := prog_10_method_9_code
def yX8_figureOf : MethodName := ⟨RX8, "figureOf", "(I)I"⟩
abbrev cX8_readText : ByteArray := prog_10_method_10_code
def yX8_readText : MethodName := ⟨RX8, "readText", "()I"⟩
abbrev cX8_readCow : ByteArray := prog_10_method_11_code
def yX8_readCow : MethodName := ⟨RX8, "readCow", "()V"⟩
abbrev cX8_fault : ByteArray := prog_10_method_12_code
def yX8_fault : MethodName := ⟨RX8, "fault", "()I"⟩
abbrev cX8_pass : ByteArray := prog_10_method_13_code
def yX8_pass : MethodName := ⟨RX8, "pass", "()I"⟩
abbrev cX8_isCow : ByteArray := prog_10_method_14_code
def yX8_isCow : MethodName := ⟨RX8, "isCow", "(I)Z"⟩
abbrev cX8_clover : ByteArray := prog_10_method_15_code
def yX8_clover : MethodName := ⟨RX8, "clover", "(I)I"⟩
abbrev cX8_isDue : ByteArray := prog_10_method_16_code
def yX8_isDue : MethodName := ⟨RX8, "isDue", "(II)Z"⟩
abbrev cX8_cow : ByteArray := prog_10_method_17_code
def yX8_cow : MethodName := ⟨RX8, "cow", "(II)I"⟩
abbrev cX8_isSomeDue : ByteArray := prog_10_method_18_code
def yX8_isSomeDue : MethodName := ⟨RX8, "isSomeDue", "(II)Z"⟩
abbrev cX8_sortOf : ByteArray := prog_10_method_19_code
def yX8_sortOf : MethodName := ⟨RX8, "sortOf", "(IIZ)I"⟩
abbrev cX8_eat : ByteArray := prog_10_method_20_code
def yX8_eat : MethodName := ⟨RX8, "eat", "(II)V"⟩
abbrev cX8_passOn : ByteArray := prog_10_method_21_code
def yX8_passOn : MethodName := ⟨RX8, "passOn", "(IIZ)I"⟩
abbrev cX8_keepAct : ByteArray := prog_10_method_22_code
def yX8_keepAct : MethodName := ⟨RX8, "keepAct", "()V"⟩
abbrev cX8_hour : ByteArray := prog_10_method_23_code
def yX8_hour : MethodName := ⟨RX8, "hour", "(Z)I"⟩
abbrev cX8_isCowOn : ByteArray := prog_10_method_24_code
def yX8_isCowOn : MethodName := ⟨RX8, "isCowOn", "(I)Z"⟩
abbrev cX8_move : ByteArray := prog_10_method_25_code
def yX8_move : MethodName := ⟨RX8, "move", "(II)I"⟩
abbrev cX8_sow : ByteArray := prog_10_method_26_code
def yX8_sow : MethodName := ⟨RX8, "sow", "(I)I"⟩
abbrev cX8_snow : ByteArray := prog_10_method_27_code
def yX8_snow : MethodName := ⟨RX8, "snow", "()I"⟩
abbrev cX8_undo : ByteArray := prog_10_method_28_code
def yX8_undo : MethodName := ⟨RX8, "undo", "()I"⟩
abbrev cX8_layTrial : ByteArray := prog_10_method_29_code
def yX8_layTrial : MethodName := ⟨RX8, "layTrial", "()V"⟩
abbrev cX8_sorts : ByteArray := prog_10_method_30_code
def yX8_sorts : MethodName := ⟨RX8, "sorts", "(I)I"⟩
abbrev cX8_manyOf : ByteArray := prog_10_method_31_code
def yX8_manyOf : MethodName := ⟨RX8, "manyOf", "(III)I"⟩
abbrev cX8_on : ByteArray := prog_10_method_32_code
def yX8_on : MethodName := ⟨RX8, "on", "(I)I"⟩
abbrev cX8_milk : ByteArray := prog_10_method_33_code
def yX8_milk : MethodName := ⟨RX8, "milk", "(II)I"⟩
abbrev cX8_isChoice : ByteArray := prog_10_method_34_code
def yX8_isChoice : MethodName := ⟨RX8, "isChoice", "(II)Z"⟩
abbrev cX8_moveTrial : ByteArray := prog_10_method_35_code
def yX8_moveTrial : MethodName := ⟨RX8, "moveTrial", "(I)V"⟩
abbrev cX8_graze : ByteArray := prog_10_method_36_code
def yX8_graze : MethodName := ⟨RX8, "graze", "(IIZI)I"⟩
abbrev cX8_stopsBy : ByteArray := prog_10_method_37_code
def yX8_stopsBy : MethodName := ⟨RX8, "stopsBy", "(III)Z"⟩
abbrev cX8_fewest : ByteArray := prog_10_method_38_code
def yX8_fewest : MethodName := ⟨RX8, "fewest", "(IZ)I"⟩
abbrev cX8_tenTo : ByteArray := prog_10_method_39_code
def yX8_tenTo : MethodName := ⟨RX8, "tenTo", "(I)I"⟩
abbrev cX8_judge : ByteArray := prog_10_method_40_code
def yX8_judge : MethodName := ⟨RX8, "judge", "(II)I"⟩
abbrev cX8_factorial : ByteArray := prog_10_method_41_code
def yX8_factorial : MethodName := ⟨RX8, "factorial", "(I)I"⟩
abbrev cX8_common : ByteArray := prog_10_method_42_code
def yX8_common : MethodName := ⟨RX8, "common", "(II)I"⟩
abbrev cX8_share : ByteArray := prog_10_method_43_code
def yX8_share : MethodName := ⟨RX8, "share", "(IIZ)I"⟩
abbrev cX8_rang : ByteArray := prog_10_method_44_code
def yX8_rang : MethodName := ⟨RX8, "rang", "(II)I"⟩
abbrev cX8_tell : ByteArray := prog_10_method_45_code
def yX8_tell : MethodName := ⟨RX8, "tell", "(IIZ)I"⟩
abbrev cX8_untell : ByteArray := prog_10_method_46_code
def yX8_untell : MethodName := ⟨RX8, "untell", "()I"⟩
abbrev cX8_fits : ByteArray := prog_10_method_47_code
def yX8_fits : MethodName := ⟨RX8, "fits", "(II)Z"⟩
abbrev cX8_full : ByteArray := prog_10_method_48_code
def yX8_full : MethodName := ⟨RX8, "full", "(I)I"⟩
abbrev cX8_layOns : ByteArray := prog_10_method_49_code
def yX8_layOns : MethodName := ⟨RX8, "layOns", "(I)V"⟩
abbrev cX8_isRest : ByteArray := prog_10_method_50_code
def yX8_isRest : MethodName := ⟨RX8, "isRest", "(II)Z"⟩
abbrev cX8_rests : ByteArray := prog_10_method_51_code
def yX8_rests : MethodName := ⟨RX8, "rests", "(II)I"⟩
abbrev cX8_chance : ByteArray := prog_10_method_52_code
def yX8_chance : MethodName := ⟨RX8, "chance", "(IIZ)I"⟩
abbrev cX8_seed : ByteArray := prog_10_method_53_code
def yX8_seed : MethodName := ⟨RX8, "seed", "(J)J"⟩
abbrev cX8_summers : ByteArray := prog_10_method_54_code
def yX8_summers : MethodName := ⟨RX8, "summers", "(I)I"⟩
abbrev cX8_keep : ByteArray := prog_10_method_55_code
def yX8_keep : MethodName := ⟨RX8, "keep", "(I)I"⟩
abbrev cX8_again : ByteArray := prog_10_method_56_code
def yX8_again : MethodName := ⟨RX8, "again", "(I)I"⟩
abbrev cX8_count : ByteArray := prog_10_method_57_code
def yX8_count : MethodName := ⟨RX8, "count", "(I)I"⟩
def RJ6 : String := "java/lang/Integer"
abbrev cJ6_bitCount_0f7a4 : ByteArray := prog_11_method_49_code
def yJ6_bitCount_0f7a4 : MethodName := ⟨RJ6, "bitCount", "(I)I"⟩
def RJ9 : String := "java/lang/Math"
abbrev cJ9_abs_0f7a4 : ByteArray := prog_12_method_59_code
def yJ9_abs_0f7a4 : MethodName := ⟨RJ9, "abs", "(I)I"⟩
abbrev cJ9_max_7cf53 : ByteArray := prog_12_method_65_code
def yJ9_max_7cf53 : MethodName := ⟨RJ9, "max", "(II)I"⟩
abbrev cJ9_min_7cf53 : ByteArray := prog_12_method_69_code
def yJ9_min_7cf53 : MethodName := ⟨RJ9, "min", "(II)I"⟩
def RJ10 : String := "java/lang/System"
abbrev vwCl : List vw_C := [(RX0, TX0, 3), (RX1, TX1, 2), (RX2, TX2, 3), (RX3, TX3, 9), (RX4, TX4, 2), (RX5, TX5, 1), (RX6, TX6, 4), (RX7, TX7, 12), (RX8, TX8, 26)]
