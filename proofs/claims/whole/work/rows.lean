section
-- ===== PART A: goes FIRST, ahead of the names: the tables' words, and 'selects' of the private methods out of them =====
/-- a private method of a class that the tables say can be made, by its rows of tables_1 -/
def lw_okq (q : MethodName × Nat) : Prop := (q.1.cls ≠ "java/lang/invoke/MethodHandle" ∧ q.1.cls ≠ "java/lang/invoke/VarHandle") ∧ Cond.instantiable q.1.cls q.2 ∈ tables_1 ∧ Cond.privateMethod q.1 ∈ tables_1 ∧ Cond.instanceMethod q.1 ∈ tables_1
theorem lw_p0 : lw_okq (⟨"BasinSizes$RainRows", "mayFollow", "(III)Z"⟩, 4) := ⟨⟨by decide +kernel, by decide +kernel⟩, List.mem_of_getElem? (i := 25) (by decide +kernel), List.mem_of_getElem? (i := 220) (by decide +kernel), List.mem_of_getElem? (i := 221) (by decide +kernel)⟩
theorem lw_p1 : lw_okq (⟨"BasinSizes", "neediestRain", "(III)I"⟩, 8) := ⟨⟨by decide +kernel, by decide +kernel⟩, List.mem_of_getElem? (i := 17) (by decide +kernel), List.mem_of_getElem? (i := 228) (by decide +kernel), List.mem_of_getElem? (i := 229) (by decide +kernel)⟩
theorem lw_p2 : lw_okq (⟨"BasinSizes$RainRows", "comes", "(II)J"⟩, 4) := ⟨⟨by decide +kernel, by decide +kernel⟩, List.mem_of_getElem? (i := 25) (by decide +kernel), List.mem_of_getElem? (i := 241) (by decide +kernel), List.mem_of_getElem? (i := 242) (by decide +kernel)⟩
theorem lw_p3 : lw_okq (⟨"BasinSizes$RainRows", "secondsOf", "(I)J"⟩, 4) := ⟨⟨by decide +kernel, by decide +kernel⟩, List.mem_of_getElem? (i := 25) (by decide +kernel), List.mem_of_getElem? (i := 246) (by decide +kernel), List.mem_of_getElem? (i := 247) (by decide +kernel)⟩
theorem lw_p4 : lw_okq (⟨"BasinSizes$RainRows", "leastOutflowFor", "(IIJ)J"⟩, 4) := ⟨⟨by decide +kernel, by decide +kernel⟩, List.mem_of_getElem? (i := 25) (by decide +kernel), List.mem_of_getElem? (i := 275) (by decide +kernel), List.mem_of_getElem? (i := 276) (by decide +kernel)⟩
theorem lw_p5 : lw_okq (⟨"BasinSizes$Pond", "lastUpTo", "(I)I"⟩, 4) := ⟨⟨by decide +kernel, by decide +kernel⟩, List.mem_of_getElem? (i := 45) (by decide +kernel), List.mem_of_getElem? (i := 305) (by decide +kernel), List.mem_of_getElem? (i := 306) (by decide +kernel)⟩
theorem lw_p6 : lw_okq (⟨"BasinSizes$SignReader", "readTests", "(LBasinSizes$StateRows;)Z"⟩, 3) := ⟨⟨by decide +kernel, by decide +kernel⟩, List.mem_of_getElem? (i := 90) (by decide +kernel), List.mem_of_getElem? (i := 359) (by decide +kernel), List.mem_of_getElem? (i := 360) (by decide +kernel)⟩
theorem lw_p7 : lw_okq (⟨"BasinSizes$SignReader", "readTest", "(LBasinSizes$StateRows;)Z"⟩, 3) := ⟨⟨by decide +kernel, by decide +kernel⟩, List.mem_of_getElem? (i := 90) (by decide +kernel), List.mem_of_getElem? (i := 363) (by decide +kernel), List.mem_of_getElem? (i := 364) (by decide +kernel)⟩
theorem lw_p8 : lw_okq (⟨"BasinSizes$SignReader", "readSum", "(LBasinSizes$StateRows;I)Z"⟩, 3) := ⟨⟨by decide +kernel, by decide +kernel⟩, List.mem_of_getElem? (i := 90) (by decide +kernel), List.mem_of_getElem? (i := 371) (by decide +kernel), List.mem_of_getElem? (i := 372) (by decide +kernel)⟩
theorem lw_p9 : lw_okq (⟨"BasinSizes$SignReader", "readTerm", "(LBasinSizes$StateRows;I)Z"⟩, 3) := ⟨⟨by decide +kernel, by decide +kernel⟩, List.mem_of_getElem? (i := 90) (by decide +kernel), List.mem_of_getElem? (i := 375) (by decide +kernel), List.mem_of_getElem? (i := 376) (by decide +kernel)⟩
theorem lw_p10 : lw_okq (⟨"BasinSizes$SignReader", "toNextSign", "()C"⟩, 3) := ⟨⟨by decide +kernel, by decide +kernel⟩, List.mem_of_getElem? (i := 90) (by decide +kernel), List.mem_of_getElem? (i := 379) (by decide +kernel), List.mem_of_getElem? (i := 380) (by decide +kernel)⟩
theorem lw_p11 : lw_okq (⟨"BasinSizes$SignReader", "readNumber", "()I"⟩, 3) := ⟨⟨by decide +kernel, by decide +kernel⟩, List.mem_of_getElem? (i := 90) (by decide +kernel), List.mem_of_getElem? (i := 383) (by decide +kernel), List.mem_of_getElem? (i := 384) (by decide +kernel)⟩
theorem lw_p12 : lw_okq (⟨"BasinSizes$SignReader", "standAtOneTooMany", "()Z"⟩, 3) := ⟨⟨by decide +kernel, by decide +kernel⟩, List.mem_of_getElem? (i := 90) (by decide +kernel), List.mem_of_getElem? (i := 478) (by decide +kernel), List.mem_of_getElem? (i := 479) (by decide +kernel)⟩
theorem lw_p13 : lw_okq (⟨"BasinSizes$StateRows", "narrowByTest", "(II[I)V"⟩, 7) := ⟨⟨by decide +kernel, by decide +kernel⟩, List.mem_of_getElem? (i := 107) (by decide +kernel), List.mem_of_getElem? (i := 526) (by decide +kernel), List.mem_of_getElem? (i := 527) (by decide +kernel)⟩
theorem lw_p14 : lw_okq (⟨"BasinSizes$StateRows", "narrow", "(IJJ)V"⟩, 7) := ⟨⟨by decide +kernel, by decide +kernel⟩, List.mem_of_getElem? (i := 107) (by decide +kernel), List.mem_of_getElem? (i := 531) (by decide +kernel), List.mem_of_getElem? (i := 532) (by decide +kernel)⟩
theorem lw_p15 : lw_okq (⟨"BasinSizes$StateRows", "spans", "(IJ)Z"⟩, 7) := ⟨⟨by decide +kernel, by decide +kernel⟩, List.mem_of_getElem? (i := 107) (by decide +kernel), List.mem_of_getElem? (i := 546) (by decide +kernel), List.mem_of_getElem? (i := 547) (by decide +kernel)⟩
def lw_privs_1 : List (MethodName × Nat) := [(⟨"BasinSizes$RainRows", "mayFollow", "(III)Z"⟩, 4), (⟨"BasinSizes", "neediestRain", "(III)I"⟩, 8), (⟨"BasinSizes$RainRows", "comes", "(II)J"⟩, 4), (⟨"BasinSizes$RainRows", "secondsOf", "(I)J"⟩, 4), (⟨"BasinSizes$RainRows", "leastOutflowFor", "(IIJ)J"⟩, 4), (⟨"BasinSizes$Pond", "lastUpTo", "(I)I"⟩, 4), (⟨"BasinSizes$SignReader", "readTests", "(LBasinSizes$StateRows;)Z"⟩, 3), (⟨"BasinSizes$SignReader", "readTest", "(LBasinSizes$StateRows;)Z"⟩, 3), (⟨"BasinSizes$SignReader", "readSum", "(LBasinSizes$StateRows;I)Z"⟩, 3), (⟨"BasinSizes$SignReader", "readTerm", "(LBasinSizes$StateRows;I)Z"⟩, 3), (⟨"BasinSizes$SignReader", "toNextSign", "()C"⟩, 3), (⟨"BasinSizes$SignReader", "readNumber", "()I"⟩, 3), (⟨"BasinSizes$SignReader", "standAtOneTooMany", "()Z"⟩, 3), (⟨"BasinSizes$StateRows", "narrowByTest", "(II[I)V"⟩, 7), (⟨"BasinSizes$StateRows", "narrow", "(IJJ)V"⟩, 7), (⟨"BasinSizes$StateRows", "spans", "(IJ)Z"⟩, 7)]
theorem lw_r1 : ∀ q ∈ lw_privs_1, lw_okq q := List.forall_mem_cons.mpr ⟨lw_p0, List.forall_mem_cons.mpr ⟨lw_p1, List.forall_mem_cons.mpr ⟨lw_p2, List.forall_mem_cons.mpr ⟨lw_p3, List.forall_mem_cons.mpr ⟨lw_p4, List.forall_mem_cons.mpr ⟨lw_p5, List.forall_mem_cons.mpr ⟨lw_p6, List.forall_mem_cons.mpr ⟨lw_p7, List.forall_mem_cons.mpr ⟨lw_p8, List.forall_mem_cons.mpr ⟨lw_p9, List.forall_mem_cons.mpr ⟨lw_p10, List.forall_mem_cons.mpr ⟨lw_p11, List.forall_mem_cons.mpr ⟨lw_p12, List.forall_mem_cons.mpr ⟨lw_p13, List.forall_mem_cons.mpr ⟨lw_p14, List.forall_mem_cons.mpr ⟨lw_p15, fun _ h => absurd h List.not_mem_nil⟩⟩⟩⟩⟩⟩⟩⟩⟩⟩⟩⟩⟩⟩⟩⟩
theorem lw_p16 : lw_okq (⟨"BasinSizes$DayRows", "goThrough", "(JJ)I"⟩, 8) := ⟨⟨by decide +kernel, by decide +kernel⟩, List.mem_of_getElem? (i := 137) (by decide +kernel), List.mem_of_getElem? (i := 577) (by decide +kernel), List.mem_of_getElem? (i := 578) (by decide +kernel)⟩
theorem lw_p17 : lw_okq (⟨"BasinSizesModel", "worst", "(III)I"⟩, 27) := ⟨⟨by decide +kernel, by decide +kernel⟩, List.mem_of_getElem? (i := 647) (by decide +kernel), List.mem_of_getElem? (i := 749) (by decide +kernel), List.mem_of_getElem? (i := 750) (by decide +kernel)⟩
theorem lw_p18 : lw_okq (⟨"BasinSizesModel", "need", "(III)J"⟩, 27) := ⟨⟨by decide +kernel, by decide +kernel⟩, List.mem_of_getElem? (i := 647) (by decide +kernel), List.mem_of_getElem? (i := 754) (by decide +kernel), List.mem_of_getElem? (i := 755) (by decide +kernel)⟩
theorem lw_p19 : lw_okq (⟨"BasinSizesModel", "below", "(I)I"⟩, 27) := ⟨⟨by decide +kernel, by decide +kernel⟩, List.mem_of_getElem? (i := 647) (by decide +kernel), List.mem_of_getElem? (i := 779) (by decide +kernel), List.mem_of_getElem? (i := 780) (by decide +kernel)⟩
theorem lw_p20 : lw_okq (⟨"BasinSizesModel", "look", "()I"⟩, 27) := ⟨⟨by decide +kernel, by decide +kernel⟩, List.mem_of_getElem? (i := 647) (by decide +kernel), List.mem_of_getElem? (i := 809) (by decide +kernel), List.mem_of_getElem? (i := 810) (by decide +kernel)⟩
theorem lw_p21 : lw_okq (⟨"BasinSizesModel", "readState", "(I)V"⟩, 27) := ⟨⟨by decide +kernel, by decide +kernel⟩, List.mem_of_getElem? (i := 647) (by decide +kernel), List.mem_of_getElem? (i := 813) (by decide +kernel), List.mem_of_getElem? (i := 814) (by decide +kernel)⟩
theorem lw_p22 : lw_okq (⟨"BasinSizesModel", "readSum", "(I)V"⟩, 27) := ⟨⟨by decide +kernel, by decide +kernel⟩, List.mem_of_getElem? (i := 647) (by decide +kernel), List.mem_of_getElem? (i := 817) (by decide +kernel), List.mem_of_getElem? (i := 818) (by decide +kernel)⟩
theorem lw_p23 : lw_okq (⟨"BasinSizesModel", "readTerm", "(IZ)V"⟩, 27) := ⟨⟨by decide +kernel, by decide +kernel⟩, List.mem_of_getElem? (i := 647) (by decide +kernel), List.mem_of_getElem? (i := 821) (by decide +kernel), List.mem_of_getElem? (i := 822) (by decide +kernel)⟩
theorem lw_p24 : lw_okq (⟨"BasinSizesModel", "isCulvert", "(I)Z"⟩, 27) := ⟨⟨by decide +kernel, by decide +kernel⟩, List.mem_of_getElem? (i := 647) (by decide +kernel), List.mem_of_getElem? (i := 832) (by decide +kernel), List.mem_of_getElem? (i := 833) (by decide +kernel)⟩
theorem lw_p25 : lw_okq (⟨"BasinSizesModel", "isIn", "(IIIII)Z"⟩, 27) := ⟨⟨by decide +kernel, by decide +kernel⟩, List.mem_of_getElem? (i := 647) (by decide +kernel), List.mem_of_getElem? (i := 840) (by decide +kernel), List.mem_of_getElem? (i := 841) (by decide +kernel)⟩
theorem lw_p26 : lw_okq (⟨"BasinSizesModel", "sumOf", "(IIIII)J"⟩, 27) := ⟨⟨by decide +kernel, by decide +kernel⟩, List.mem_of_getElem? (i := 647) (by decide +kernel), List.mem_of_getElem? (i := 844) (by decide +kernel), List.mem_of_getElem? (i := 845) (by decide +kernel)⟩
theorem lw_p27 : lw_okq (⟨"BasinSizesModel", "go", "(JJ)I"⟩, 27) := ⟨⟨by decide +kernel, by decide +kernel⟩, List.mem_of_getElem? (i := 647) (by decide +kernel), List.mem_of_getElem? (i := 863) (by decide +kernel), List.mem_of_getElem? (i := 864) (by decide +kernel)⟩
def lw_privs_2 : List (MethodName × Nat) := [(⟨"BasinSizes$DayRows", "goThrough", "(JJ)I"⟩, 8), (⟨"BasinSizesModel", "worst", "(III)I"⟩, 27), (⟨"BasinSizesModel", "need", "(III)J"⟩, 27), (⟨"BasinSizesModel", "below", "(I)I"⟩, 27), (⟨"BasinSizesModel", "look", "()I"⟩, 27), (⟨"BasinSizesModel", "readState", "(I)V"⟩, 27), (⟨"BasinSizesModel", "readSum", "(I)V"⟩, 27), (⟨"BasinSizesModel", "readTerm", "(IZ)V"⟩, 27), (⟨"BasinSizesModel", "isCulvert", "(I)Z"⟩, 27), (⟨"BasinSizesModel", "isIn", "(IIIII)Z"⟩, 27), (⟨"BasinSizesModel", "sumOf", "(IIIII)J"⟩, 27), (⟨"BasinSizesModel", "go", "(JJ)I"⟩, 27)]
theorem lw_r2 : ∀ q ∈ lw_privs_2, lw_okq q := List.forall_mem_cons.mpr ⟨lw_p16, List.forall_mem_cons.mpr ⟨lw_p17, List.forall_mem_cons.mpr ⟨lw_p18, List.forall_mem_cons.mpr ⟨lw_p19, List.forall_mem_cons.mpr ⟨lw_p20, List.forall_mem_cons.mpr ⟨lw_p21, List.forall_mem_cons.mpr ⟨lw_p22, List.forall_mem_cons.mpr ⟨lw_p23, List.forall_mem_cons.mpr ⟨lw_p24, List.forall_mem_cons.mpr ⟨lw_p25, List.forall_mem_cons.mpr ⟨lw_p26, List.forall_mem_cons.mpr ⟨lw_p27, fun _ h => absurd h List.not_mem_nil⟩⟩⟩⟩⟩⟩⟩⟩⟩⟩⟩⟩
def lw_privs : List (MethodName × Nat) := lw_privs_1 ++ (lw_privs_2)
def lw_tbl : List Cond := k2_sels lw_privs ++ tables_1
theorem lw_privs_ok : ∀ q ∈ lw_privs, lw_okq q := by
  show ∀ q ∈ lw_privs_1 ++ (lw_privs_2), lw_okq q
  exact List.forall_mem_append.mpr ⟨lw_r1, lw_r2⟩
end
section
def RX0 : String := "BasinSizes$CulvertRows"
def TX0 : u_T := fun k => match k with
  | 0 => ("BasinSizes$CulvertRows", "widths", "[I", true)
  | 1 => ("BasinSizes$CulvertRows", "heights", "[I", true)
  | 2 => ("BasinSizes$CulvertRows", "lengths", "[I", true)
  | 3 => ("BasinSizes$CulvertRows", "falls", "[I", true)
  | 4 => ("BasinSizes$CulvertRows", "values", "[I", true)
  | _ => ("BasinSizes$CulvertRows", "used", "I", false)
def tyX0 : Nat → FieldType := fun k => match k with
  | 0 => .array .int
  | 1 => .array .int
  | 2 => .array .int
  | 3 => .array .int
  | 4 => .array .int
  | _ => .int
abbrev wsX00 : List Cond := u_ws RX0 TX0 6
theorem nmX0 : ∀ a, a < 6 → ∀ b, b < 6 → a ≠ b → (TX0 a).2.1 ≠ (TX0 b).2.1 := by decide +kernel
theorem tyX0_ok : ∀ k, k < 6 → parseFieldDescriptor (TX0 k).2.2.1 = some (tyX0 k) := by decide +kernel
abbrev cX0_init : ByteArray := prog_2_method_1_code
def yX0_init : MethodName := ⟨RX0, "<init>", "()V"⟩
abbrev cX0_size : ByteArray := prog_2_method_2_code
def yX0_size : MethodName := ⟨RX0, "size", "()I"⟩
abbrev cX0_has : ByteArray := prog_2_method_3_code
def yX0_has : MethodName := ⟨RX0, "has", "(I)Z"⟩
abbrev cX0_add : ByteArray := prog_2_method_4_code
def yX0_add : MethodName := ⟨RX0, "add", "(IIII)I"⟩
abbrev cX0_valuesFor : ByteArray := prog_2_method_5_code
def yX0_valuesFor : MethodName := ⟨RX0, "valuesFor", "(III)[I"⟩
def RX1 : String := "BasinSizes$DayRows"
def TX1 : u_T := fun k => match k with
  | 0 => ("BasinSizes$DayRows", "coming", "[J", true)
  | 1 => ("BasinSizes$DayRows", "held", "[J", true)
  | 2 => ("BasinSizes$DayRows", "gone", "[J", true)
  | 3 => ("BasinSizes$DayRows", "above", "[J", true)
  | 4 => ("BasinSizes$DayRows", "aboveSoFar", "[J", true)
  | 5 => ("BasinSizes$DayRows", "used", "I", false)
  | 6 => ("BasinSizes$DayRows", "allComing", "J", false)
  | _ => ("BasinSizes$DayRows", "hasRun", "Z", false)
def tyX1 : Nat → FieldType := fun k => match k with
  | 0 => .array .long
  | 1 => .array .long
  | 2 => .array .long
  | 3 => .array .long
  | 4 => .array .long
  | 5 => .int
  | 6 => .long
  | _ => .boolean
abbrev wsX10 : List Cond := u_ws RX1 TX1 8
theorem nmX1 : ∀ a, a < 8 → ∀ b, b < 8 → a ≠ b → (TX1 a).2.1 ≠ (TX1 b).2.1 := by decide +kernel
theorem tyX1_ok : ∀ k, k < 8 → parseFieldDescriptor (TX1 k).2.2.1 = some (tyX1 k) := by decide +kernel
abbrev cX1_init : ByteArray := prog_3_method_1_code
def yX1_init : MethodName := ⟨RX1, "<init>", "()V"⟩
abbrev cX1_size : ByteArray := prog_3_method_2_code
def yX1_size : MethodName := ⟨RX1, "size", "()I"⟩
abbrev cX1_add : ByteArray := prog_3_method_3_code
def yX1_add : MethodName := ⟨RX1, "add", "(J)I"⟩
abbrev cX1_keepRun : ByteArray := prog_3_method_4_code
def yX1_keepRun : MethodName := ⟨RX1, "keepRun", "(JJ)I"⟩
abbrev cX1_goThrough : ByteArray := prog_3_method_5_code
def yX1_goThrough : MethodName := ⟨RX1, "goThrough", "(JJ)I"⟩
abbrev cX1_recall : ByteArray := prog_3_method_6_code
def yX1_recall : MethodName := ⟨RX1, "recall", "(II)J"⟩
abbrev cX1_leastRoom : ByteArray := prog_3_method_7_code
def yX1_leastRoom : MethodName := ⟨RX1, "leastRoom", "(JI)J"⟩
def RX2 : String := "BasinSizes$Pond"
def TX2 : u_T := fun k => match k with
  | 0 => ("BasinSizes$Pond", "levels", "[I", true)
  | 1 => ("BasinSizes$Pond", "areas", "[I", true)
  | 2 => ("BasinSizes$Pond", "contents", "[J", true)
  | _ => ("BasinSizes$Pond", "used", "I", false)
def tyX2 : Nat → FieldType := fun k => match k with
  | 0 => .array .int
  | 1 => .array .int
  | 2 => .array .long
  | _ => .int
abbrev wsX20 : List Cond := u_ws RX2 TX2 4
theorem nmX2 : ∀ a, a < 4 → ∀ b, b < 4 → a ≠ b → (TX2 a).2.1 ≠ (TX2 b).2.1 := by decide +kernel
theorem tyX2_ok : ∀ k, k < 4 → parseFieldDescriptor (TX2 k).2.2.1 = some (tyX2 k) := by decide +kernel
abbrev cX2_init : ByteArray := prog_4_method_1_code
def yX2_init : MethodName := ⟨RX2, "<init>", "()V"⟩
abbrev cX2_size : ByteArray := prog_4_method_2_code
def yX2_size : MethodName := ⟨RX2, "size", "()I"⟩
abbrev cX2_add : ByteArray := prog_4_method_3_code
def yX2_add : MethodName := ⟨RX2, "add", "(II)I"⟩
abbrev cX2_between : ByteArray := prog_4_method_4_code
def yX2_between : MethodName := ⟨RX2, "between", "(JJJ)J"⟩
abbrev cX2_reaches : ByteArray := prog_4_method_5_code
def yX2_reaches : MethodName := ⟨RX2, "reaches", "(I)Z"⟩
abbrev cX2_areaAt : ByteArray := prog_4_method_6_code
def yX2_areaAt : MethodName := ⟨RX2, "areaAt", "(I)I"⟩
abbrev cX2_contentAt : ByteArray := prog_4_method_7_code
def yX2_contentAt : MethodName := ⟨RX2, "contentAt", "(I)J"⟩
abbrev cX2_lastUpTo : ByteArray := prog_4_method_8_code
def yX2_lastUpTo : MethodName := ⟨RX2, "lastUpTo", "(I)I"⟩
abbrev cX2_levelOf : ByteArray := prog_4_method_9_code
def yX2_levelOf : MethodName := ⟨RX2, "levelOf", "(J)I"⟩
def RX3 : String := "BasinSizes$RainRows"
def TX3 : u_T := fun k => match k with
  | 0 => ("BasinSizes$RainRows", "years", "[I", true)
  | 1 => ("BasinSizes$RainRows", "minutes", "[I", true)
  | 2 => ("BasinSizes$RainRows", "depths", "[I", true)
  | _ => ("BasinSizes$RainRows", "used", "I", false)
def tyX3 : Nat → FieldType := fun k => match k with
  | 0 => .array .int
  | 1 => .array .int
  | 2 => .array .int
  | _ => .int
abbrev wsX30 : List Cond := u_ws RX3 TX3 4
theorem nmX3 : ∀ a, a < 4 → ∀ b, b < 4 → a ≠ b → (TX3 a).2.1 ≠ (TX3 b).2.1 := by decide +kernel
theorem tyX3_ok : ∀ k, k < 4 → parseFieldDescriptor (TX3 k).2.2.1 = some (tyX3 k) := by decide +kernel
abbrev cX3_init : ByteArray := prog_5_method_1_code
def yX3_init : MethodName := ⟨RX3, "<init>", "()V"⟩
abbrev cX3_size : ByteArray := prog_5_method_2_code
def yX3_size : MethodName := ⟨RX3, "size", "()I"⟩
abbrev cX3_minutesOf : ByteArray := prog_5_method_3_code
def yX3_minutesOf : MethodName := ⟨RX3, "minutesOf", "(I)I"⟩
abbrev cX3_add : ByteArray := prog_5_method_4_code
def yX3_add : MethodName := ⟨RX3, "add", "(III)I"⟩
abbrev cX3_mayFollow : ByteArray := prog_5_method_5_code
def yX3_mayFollow : MethodName := ⟨RX3, "mayFollow", "(III)Z"⟩
abbrev cX3_need : ByteArray := prog_5_method_6_code
def yX3_need : MethodName := ⟨RX3, "need", "(III)J"⟩
abbrev cX3_comes : ByteArray := prog_5_method_7_code
def yX3_comes : MethodName := ⟨RX3, "comes", "(II)J"⟩
abbrev cX3_secondsOf : ByteArray := prog_5_method_8_code
def yX3_secondsOf : MethodName := ⟨RX3, "secondsOf", "(I)J"⟩
abbrev cX3_neediest : ByteArray := prog_5_method_9_code
def yX3_neediest : MethodName := ⟨RX3, "neediest", "(III)I"⟩
abbrev cX3_leastOutflow : ByteArray := prog_5_method_10_code
def yX3_leastOutflow : MethodName := ⟨RX3, "leastOutflow", "(IIJ)J"⟩
abbrev cX3_leastOutflowFor : ByteArray := prog_5_method_11_code
def yX3_leastOutflowFor : MethodName := ⟨RX3, "leastOutflowFor", "(IIJ)J"⟩
def RX4 : String := "BasinSizes$SafeWay"
def TX4 : u_T := fun k => match k with
  | 0 => ("BasinSizes$SafeWay", "levels", "[I", true)
  | _ => ("BasinSizes$SafeWay", "used", "I", false)
def tyX4 : Nat → FieldType := fun k => match k with
  | 0 => .array .int
  | _ => .int
abbrev wsX40 : List Cond := u_ws RX4 TX4 2
theorem nmX4 : ∀ a, a < 2 → ∀ b, b < 2 → a ≠ b → (TX4 a).2.1 ≠ (TX4 b).2.1 := by decide +kernel
theorem tyX4_ok : ∀ k, k < 2 → parseFieldDescriptor (TX4 k).2.2.1 = some (tyX4 k) := by decide +kernel
abbrev cX4_init : ByteArray := prog_6_method_1_code
def yX4_init : MethodName := ⟨RX4, "<init>", "()V"⟩
abbrev cX4_size : ByteArray := prog_6_method_2_code
def yX4_size : MethodName := ⟨RX4, "size", "()I"⟩
abbrev cX4_add : ByteArray := prog_6_method_3_code
def yX4_add : MethodName := ⟨RX4, "add", "(I)I"⟩
abbrev cX4_firstNotBelow : ByteArray := prog_6_method_4_code
def yX4_firstNotBelow : MethodName := ⟨RX4, "firstNotBelow", "()I"⟩
def RX5 : String := "BasinSizes$SignReader"
def TX5 : u_T := fun k => match k with
  | 0 => ("BasinSizes$SignReader", "signs", "[C", true)
  | 1 => ("BasinSizes$SignReader", "used", "I", false)
  | _ => ("BasinSizes$SignReader", "at", "I", false)
def tyX5 : Nat → FieldType := fun k => match k with
  | 0 => .array .char
  | 1 => .int
  | _ => .int
abbrev wsX50 : List Cond := u_ws RX5 TX5 3
theorem nmX5 : ∀ a, a < 3 → ∀ b, b < 3 → a ≠ b → (TX5 a).2.1 ≠ (TX5 b).2.1 := by decide +kernel
theorem tyX5_ok : ∀ k, k < 3 → parseFieldDescriptor (TX5 k).2.2.1 = some (tyX5 k) := by decide +kernel
abbrev cX5_init : ByteArray := prog_7_method_1_code
def yX5_init : MethodName := ⟨RX5, "<init>", "()V"⟩
abbrev cX5_size : ByteArray := prog_7_method_2_code
def yX5_size : MethodName := ⟨RX5, "size", "()I"⟩
abbrev cX5_position : ByteArray := prog_7_method_3_code
def yX5_position : MethodName := ⟨RX5, "position", "()I"⟩
abbrev cX5_clear : ByteArray := prog_7_method_4_code
def yX5_clear : MethodName := ⟨RX5, "clear", "()V"⟩
abbrev cX5_collect : ByteArray := prog_7_method_5_code
def yX5_collect : MethodName := ⟨RX5, "collect", "(C)Z"⟩
abbrev cX5_readStates : ByteArray := prog_7_method_6_code
def yX5_readStates : MethodName := ⟨RX5, "readStates", "(LBasinSizes$StateRows;)Z"⟩
abbrev cX5_readTests : ByteArray := prog_7_method_7_code
def yX5_readTests : MethodName := ⟨RX5, "readTests", "(LBasinSizes$StateRows;)Z"⟩
abbrev cX5_readTest : ByteArray := prog_7_method_8_code
def yX5_readTest : MethodName := ⟨RX5, "readTest", "(LBasinSizes$StateRows;)Z"⟩
abbrev cX5_readSum : ByteArray := prog_7_method_9_code
def yX5_readSum : MethodName := ⟨RX5, "readSum", "(LBasinSizes$StateRows;I)Z"⟩
abbrev cX5_readTerm : ByteArray := prog_7_method_10_code
def yX5_readTerm : MethodName := ⟨RX5, "readTerm", "(LBasinSizes$StateRows;I)Z"⟩
abbrev cX5_readNumber : ByteArray := prog_7_method_11_code
def yX5_readNumber : MethodName := ⟨RX5, "readNumber", "()I"⟩
abbrev cX5_standAtOneTooMany : ByteArray := prog_7_method_12_code
def yX5_standAtOneTooMany : MethodName := ⟨RX5, "standAtOneTooMany", "()Z"⟩
abbrev cX5_toNextSign : ByteArray := prog_7_method_13_code
def yX5_toNextSign : MethodName := ⟨RX5, "toNextSign", "()C"⟩
def RX6 : String := "BasinSizes$StateRows"
def TX6 : u_T := fun k => match k with
  | 0 => ("BasinSizes$StateRows", "ends", "[I", true)
  | 1 => ("BasinSizes$StateRows", "relations", "[C", true)
  | 2 => ("BasinSizes$StateRows", "factors", "[[I", true)
  | 3 => ("BasinSizes$StateRows", "lows", "[J", true)
  | 4 => ("BasinSizes$StateRows", "highs", "[J", true)
  | 5 => ("BasinSizes$StateRows", "used", "I", false)
  | _ => ("BasinSizes$StateRows", "tests", "I", false)
def tyX6 : Nat → FieldType := fun k => match k with
  | 0 => .array .int
  | 1 => .array .char
  | 2 => .array (.array .int)
  | 3 => .array .long
  | 4 => .array .long
  | 5 => .int
  | _ => .int
abbrev wsX60 : List Cond := u_ws RX6 TX6 7
theorem nmX6 : ∀ a, a < 7 → ∀ b, b < 7 → a ≠ b → (TX6 a).2.1 ≠ (TX6 b).2.1 := by decide +kernel
theorem tyX6_ok : ∀ k, k < 7 → parseFieldDescriptor (TX6 k).2.2.1 = some (tyX6 k) := by decide +kernel
abbrev cX6_init : ByteArray := prog_8_method_1_code
def yX6_init : MethodName := ⟨RX6, "<init>", "()V"⟩
abbrev cX6_size : ByteArray := prog_8_method_2_code
def yX6_size : MethodName := ⟨RX6, "size", "()I"⟩
abbrev cX6_clear : ByteArray := prog_8_method_3_code
def yX6_clear : MethodName := ⟨RX6, "clear", "()V"⟩
abbrev cX6_beginTest : ByteArray := prog_8_method_4_code
def yX6_beginTest : MethodName := ⟨RX6, "beginTest", "()V"⟩
abbrev cX6_addTerm : ByteArray := prog_8_method_5_code
def yX6_addTerm : MethodName := ⟨RX6, "addTerm", "(II)V"⟩
abbrev cX6_endTest : ByteArray := prog_8_method_6_code
def yX6_endTest : MethodName := ⟨RX6, "endTest", "(C)V"⟩
abbrev cX6_endState : ByteArray := prog_8_method_7_code
def yX6_endState : MethodName := ⟨RX6, "endState", "()V"⟩
abbrev cX6_findSpans : ByteArray := prog_8_method_8_code
def yX6_findSpans : MethodName := ⟨RX6, "findSpans", "([I)V"⟩
abbrev cX6_narrowByTest : ByteArray := prog_8_method_9_code
def yX6_narrowByTest : MethodName := ⟨RX6, "narrowByTest", "(II[I)V"⟩
abbrev cX6_narrow : ByteArray := prog_8_method_10_code
def yX6_narrow : MethodName := ⟨RX6, "narrow", "(IJJ)V"⟩
abbrev cX6_spans : ByteArray := prog_8_method_11_code
def yX6_spans : MethodName := ⟨RX6, "spans", "(IJ)Z"⟩
abbrev cX6_firstAt : ByteArray := prog_8_method_12_code
def yX6_firstAt : MethodName := ⟨RX6, "firstAt", "(I)I"⟩
abbrev cX6_leastHead : ByteArray := prog_8_method_13_code
def yX6_leastHead : MethodName := ⟨RX6, "leastHead", "(I)I"⟩
def RX7 : String := "BasinSizes"
def TX7 : u_T := fun k => match k with
  | 0 => ("BasinSizes", "rains", "LBasinSizes$RainRows;", true)
  | 1 => ("BasinSizes", "pond", "LBasinSizes$Pond;", true)
  | 2 => ("BasinSizes", "culverts", "LBasinSizes$CulvertRows;", true)
  | 3 => ("BasinSizes", "text", "LBasinSizes$SignReader;", true)
  | 4 => ("BasinSizes", "told", "LBasinSizes$StateRows;", false)
  | 5 => ("BasinSizes", "draft", "LBasinSizes$StateRows;", false)
  | 6 => ("BasinSizes", "days", "LBasinSizes$DayRows;", true)
  | _ => ("BasinSizes", "places", "LBasinSizes$SafeWay;", true)
def tyX7 : Nat → FieldType := fun k => match k with
  | 0 => .object "BasinSizes$RainRows"
  | 1 => .object "BasinSizes$Pond"
  | 2 => .object "BasinSizes$CulvertRows"
  | 3 => .object "BasinSizes$SignReader"
  | 4 => .object "BasinSizes$StateRows"
  | 5 => .object "BasinSizes$StateRows"
  | 6 => .object "BasinSizes$DayRows"
  | _ => .object "BasinSizes$SafeWay"
abbrev wsX70 : List Cond := u_ws RX7 TX7 8
theorem nmX7 : ∀ a, a < 8 → ∀ b, b < 8 → a ≠ b → (TX7 a).2.1 ≠ (TX7 b).2.1 := by decide +kernel
theorem tyX7_ok : ∀ k, k < 8 → parseFieldDescriptor (TX7 k).2.2.1 = some (tyX7 k) := by decide +kernel
abbrev cX7_init : ByteArray := prog_1_method_1_code
def yX7_init : MethodName := ⟨RX7, "<init>", "()V"⟩
abbrev cX7_rain : ByteArray := prog_1_method_2_code
def yX7_rain : MethodName := ⟨RX7, "rain", "(III)I"⟩
abbrev cX7_volume : ByteArray := prog_1_method_3_code
def yX7_volume : MethodName := ⟨RX7, "volume", "(III)J"⟩
abbrev cX7_by : ByteArray := prog_1_method_4_code
def yX7_by : MethodName := ⟨RX7, "by", "(III)I"⟩
abbrev cX7_outflow : ByteArray := prog_1_method_5_code
def yX7_outflow : MethodName := ⟨RX7, "outflow", "(IIJ)I"⟩
abbrev cX7_level : ByteArray := prog_1_method_6_code
def yX7_level : MethodName := ⟨RX7, "level", "(II)I"⟩
abbrev cX7_area : ByteArray := prog_1_method_7_code
def yX7_area : MethodName := ⟨RX7, "area", "(I)I"⟩
abbrev cX7_content : ByteArray := prog_1_method_8_code
def yX7_content : MethodName := ⟨RX7, "content", "(I)J"⟩
abbrev cX7_fill : ByteArray := prog_1_method_9_code
def yX7_fill : MethodName := ⟨RX7, "fill", "(J)I"⟩
abbrev cX7_culvert : ByteArray := prog_1_method_10_code
def yX7_culvert : MethodName := ⟨RX7, "culvert", "(IIII)I"⟩
abbrev cX7_unit : ByteArray := prog_1_method_11_code
def yX7_unit : MethodName := ⟨RX7, "unit", "(I)Z"⟩
abbrev cX7_states : ByteArray := prog_1_method_12_code
def yX7_states : MethodName := ⟨RX7, "states", "()I"⟩
abbrev cX7_state : ByteArray := prog_1_method_13_code
def yX7_state : MethodName := ⟨RX7, "state", "(IIII)I"⟩
abbrev cX7_head : ByteArray := prog_1_method_14_code
def yX7_head : MethodName := ⟨RX7, "head", "(IIII)I"⟩
abbrev cX7_day : ByteArray := prog_1_method_15_code
def yX7_day : MethodName := ⟨RX7, "day", "(J)I"⟩
abbrev cX7_run : ByteArray := prog_1_method_16_code
def yX7_run : MethodName := ⟨RX7, "run", "(JJ)I"⟩
abbrev cX7_behind : ByteArray := prog_1_method_17_code
def yX7_behind : MethodName := ⟨RX7, "behind", "(II)J"⟩
abbrev cX7_room : ByteArray := prog_1_method_18_code
def yX7_room : MethodName := ⟨RX7, "room", "(JI)J"⟩
abbrev cX7_way : ByteArray := prog_1_method_19_code
def yX7_way : MethodName := ⟨RX7, "way", "(I)I"⟩
abbrev cX7_stops : ByteArray := prog_1_method_20_code
def yX7_stops : MethodName := ⟨RX7, "stops", "()I"⟩
abbrev cX7_count : ByteArray := prog_1_method_21_code
def yX7_count : MethodName := ⟨RX7, "count", "(I)I"⟩
abbrev cX7_neediestRain : ByteArray := prog_1_method_22_code
def yX7_neediestRain : MethodName := ⟨RX7, "neediestRain", "(III)I"⟩
abbrev cX7_within : ByteArray := prog_1_method_23_code
def yX7_within : MethodName := ⟨RX7, "within", "(JJJ)Z"⟩
abbrev cX7_isWaterOrFlow : ByteArray := prog_1_method_24_code
def yX7_isWaterOrFlow : MethodName := ⟨RX7, "isWaterOrFlow", "(I)Z"⟩
def RX8 : String := "BasinSizesModel"
def TX8 : u_T := fun k => match k with
  | 0 => ("BasinSizesModel", "rains", "I", false)
  | 1 => ("BasinSizesModel", "years", "[I", true)
  | 2 => ("BasinSizesModel", "minutes", "[I", true)
  | 3 => ("BasinSizesModel", "depths", "[I", true)
  | 4 => ("BasinSizesModel", "levels", "I", false)
  | 5 => ("BasinSizesModel", "high", "[I", true)
  | 6 => ("BasinSizesModel", "areas", "[I", true)
  | 7 => ("BasinSizesModel", "culverts", "I", false)
  | 8 => ("BasinSizesModel", "measures", "[I", true)
  | 9 => ("BasinSizesModel", "signs", "I", false)
  | 10 => ("BasinSizesModel", "text", "[I", true)
  | 11 => ("BasinSizesModel", "states", "I", false)
  | 12 => ("BasinSizesModel", "tests", "[I", true)
  | 13 => ("BasinSizesModel", "relation", "[I", true)
  | 14 => ("BasinSizesModel", "terms", "[I", true)
  | 15 => ("BasinSizesModel", "often", "[I", true)
  | 16 => ("BasinSizesModel", "letter", "[I", true)
  | 17 => ("BasinSizesModel", "at", "I", false)
  | 18 => ("BasinSizesModel", "wrong", "Z", false)
  | 19 => ("BasinSizesModel", "days", "I", false)
  | 20 => ("BasinSizesModel", "comes", "[J", true)
  | 21 => ("BasinSizesModel", "ran", "Z", false)
  | 22 => ("BasinSizesModel", "holds", "[J", true)
  | 23 => ("BasinSizesModel", "went", "[J", true)
  | 24 => ("BasinSizesModel", "over", "[J", true)
  | 25 => ("BasinSizesModel", "ways", "I", false)
  | _ => ("BasinSizesModel", "way", "[I", true)
def tyX8 : Nat → FieldType := fun k => match k with
  | 0 => .int
  | 1 => .array .int
  | 2 => .array .int
  | 3 => .array .int
  | 4 => .int
  | 5 => .array .int
  | 6 => .array .int
  | 7 => .int
  | 8 => .array .int
  | 9 => .int
  | 10 => .array .int
  | 11 => .int
  | 12 => .array .int
  | 13 => .array .int
  | 14 => .array .int
  | 15 => .array .int
  | 16 => .array .int
  | 17 => .int
  | 18 => .boolean
  | 19 => .int
  | 20 => .array .long
  | 21 => .boolean
  | 22 => .array .long
  | 23 => .array .long
  | 24 => .array .long
  | 25 => .int
  | _ => .array .int
abbrev wsX80 : List Cond := u_ws RX8 TX8 27
theorem nmX8 : ∀ a, a < 27 → ∀ b, b < 27 → a ≠ b → (TX8 a).2.1 ≠ (TX8 b).2.1 := by decide +kernel
theorem tyX8_ok : ∀ k, k < 27 → parseFieldDescriptor (TX8 k).2.2.1 = some (tyX8 k) := by decide +kernel
abbrev cX8_init : ByteArray := prog_10_method_1_code
def yX8_init : MethodName := ⟨RX8, "<init>", "()V"⟩
abbrev cX8_in : ByteArray := prog_10_method_2_code
def yX8_in : MethodName := ⟨RX8, "in", "(JJJ)Z"⟩
abbrev cX8_rain : ByteArray := prog_10_method_3_code
def yX8_rain : MethodName := ⟨RX8, "rain", "(III)I"⟩
abbrev cX8_worst : ByteArray := prog_10_method_4_code
def yX8_worst : MethodName := ⟨RX8, "worst", "(III)I"⟩
abbrev cX8_need : ByteArray := prog_10_method_5_code
def yX8_need : MethodName := ⟨RX8, "need", "(III)J"⟩
abbrev cX8_volume : ByteArray := prog_10_method_6_code
def yX8_volume : MethodName := ⟨RX8, "volume", "(III)J"⟩
abbrev cX8_by : ByteArray := prog_10_method_7_code
def yX8_by : MethodName := ⟨RX8, "by", "(III)I"⟩
abbrev cX8_outflow : ByteArray := prog_10_method_8_code
def yX8_outflow : MethodName := ⟨RX8, "outflow", "(IIJ)I"⟩
abbrev cX8_level : ByteArray := prog_10_method_9_code
def yX8_level : MethodName := ⟨RX8, "level", "(II)I"⟩
abbrev cX8_below : ByteArray := prog_10_method_10_code
def yX8_below : MethodName := ⟨RX8, "below", "(I)I"⟩
abbrev cX8_area : ByteArray := prog_10_method_11_code
def yX8_area : MethodName := ⟨RX8, "area", "(I)I"⟩
abbrev cX8_content : ByteArray := prog_10_method_12_code
def yX8_content : MethodName := ⟨RX8, "content", "(I)J"⟩
abbrev cX8_fill : ByteArray := prog_10_method_13_code
def yX8_fill : MethodName := ⟨RX8, "fill", "(J)I"⟩
abbrev cX8_culvert : ByteArray := prog_10_method_14_code
def yX8_culvert : MethodName := ⟨RX8, "culvert", "(IIII)I"⟩
abbrev cX8_unit : ByteArray := prog_10_method_15_code
def yX8_unit : MethodName := ⟨RX8, "unit", "(I)Z"⟩
abbrev cX8_look : ByteArray := prog_10_method_16_code
def yX8_look : MethodName := ⟨RX8, "look", "()I"⟩
abbrev cX8_isLetter : ByteArray := prog_10_method_17_code
def yX8_isLetter : MethodName := ⟨RX8, "isLetter", "(I)Z"⟩
abbrev cX8_readTerm : ByteArray := prog_10_method_18_code
def yX8_readTerm : MethodName := ⟨RX8, "readTerm", "(IZ)V"⟩
abbrev cX8_readSum : ByteArray := prog_10_method_19_code
def yX8_readSum : MethodName := ⟨RX8, "readSum", "(I)V"⟩
abbrev cX8_readState : ByteArray := prog_10_method_20_code
def yX8_readState : MethodName := ⟨RX8, "readState", "(I)V"⟩
abbrev cX8_states : ByteArray := prog_10_method_21_code
def yX8_states : MethodName := ⟨RX8, "states", "()I"⟩
abbrev cX8_sumOf : ByteArray := prog_10_method_22_code
def yX8_sumOf : MethodName := ⟨RX8, "sumOf", "(IIIII)J"⟩
abbrev cX8_isIn : ByteArray := prog_10_method_23_code
def yX8_isIn : MethodName := ⟨RX8, "isIn", "(IIIII)Z"⟩
abbrev cX8_isWater : ByteArray := prog_10_method_24_code
def yX8_isWater : MethodName := ⟨RX8, "isWater", "(I)Z"⟩
abbrev cX8_isCulvert : ByteArray := prog_10_method_25_code
def yX8_isCulvert : MethodName := ⟨RX8, "isCulvert", "(I)Z"⟩
abbrev cX8_state : ByteArray := prog_10_method_26_code
def yX8_state : MethodName := ⟨RX8, "state", "(IIII)I"⟩
abbrev cX8_head : ByteArray := prog_10_method_27_code
def yX8_head : MethodName := ⟨RX8, "head", "(IIII)I"⟩
abbrev cX8_day : ByteArray := prog_10_method_28_code
def yX8_day : MethodName := ⟨RX8, "day", "(J)I"⟩
abbrev cX8_go : ByteArray := prog_10_method_29_code
def yX8_go : MethodName := ⟨RX8, "go", "(JJ)I"⟩
abbrev cX8_run : ByteArray := prog_10_method_30_code
def yX8_run : MethodName := ⟨RX8, "run", "(JJ)I"⟩
abbrev cX8_behind : ByteArray := prog_10_method_31_code
def yX8_behind : MethodName := ⟨RX8, "behind", "(II)J"⟩
abbrev cX8_room : ByteArray := prog_10_method_32_code
def yX8_room : MethodName := ⟨RX8, "room", "(JI)J"⟩
abbrev cX8_way : ByteArray := prog_10_method_33_code
def yX8_way : MethodName := ⟨RX8, "way", "(I)I"⟩
abbrev cX8_stops : ByteArray := prog_10_method_34_code
def yX8_stops : MethodName := ⟨RX8, "stops", "()I"⟩
abbrev cX8_count : ByteArray := prog_10_method_35_code
def yX8_count : MethodName := ⟨RX8, "count", "(I)I"⟩
def RJ11 : String := "java/lang/Character"
abbrev cJ11_isValidCodePoint_9a6ad : ByteArray := prog_11_method_11_code
def yJ11_isValidCodePoint_9a6ad : MethodName := ⟨RJ11, "isValidCodePoint", "(I)Z"⟩
abbrev cJ11_highSurrogate_5068e : ByteArray := prog_11_method_28_code
def yJ11_highSurrogate_5068e : MethodName := ⟨RJ11, "highSurrogate", "(I)C"⟩
abbrev cJ11_lowSurrogate_5068e : ByteArray := prog_11_method_29_code
def yJ11_lowSurrogate_5068e : MethodName := ⟨RJ11, "lowSurrogate", "(I)C"⟩
def RJ9 : String := "java/lang/Math"
abbrev cJ9_floorDiv_f86c9 : ByteArray := prog_12_method_49_code
def yJ9_floorDiv_f86c9 : MethodName := ⟨RJ9, "floorDiv", "(JJ)J"⟩
abbrev cJ9_max_7cf53 : ByteArray := prog_12_method_65_code
def yJ9_max_7cf53 : MethodName := ⟨RJ9, "max", "(II)I"⟩
abbrev cJ9_max_f86c9 : ByteArray := prog_12_method_66_code
def yJ9_max_f86c9 : MethodName := ⟨RJ9, "max", "(JJ)J"⟩
abbrev cJ9_min_7cf53 : ByteArray := prog_12_method_69_code
def yJ9_min_7cf53 : MethodName := ⟨RJ9, "min", "(II)I"⟩
abbrev cJ9_min_f86c9 : ByteArray := prog_12_method_70_code
def yJ9_min_f86c9 : MethodName := ⟨RJ9, "min", "(JJ)J"⟩
def RJ0 : String := "java/lang/String"
abbrev cJ0_length_8abf5 : ByteArray := prog_13_method_54_code
def yJ0_length_8abf5 : MethodName := ⟨RJ0, "length", "()I"⟩
abbrev cJ0_indexOf_0f7a4 : ByteArray := prog_13_method_79_code
def yJ0_indexOf_0f7a4 : MethodName := ⟨RJ0, "indexOf", "(I)I"⟩
abbrev cJ0_indexOf_7cf53 : ByteArray := prog_13_method_80_code
def yJ0_indexOf_7cf53 : MethodName := ⟨RJ0, "indexOf", "(II)I"⟩
abbrev cJ0_coder_7d493 : ByteArray := prog_13_method_152_code
def yJ0_coder_7d493 : MethodName := ⟨RJ0, "coder", "()B"⟩
abbrev cJ0_isLatin1_aae02 : ByteArray := prog_13_method_154_code
def yJ0_isLatin1_aae02 : MethodName := ⟨RJ0, "isLatin1", "()Z"⟩
abbrev cJ0_checkBoundsBeginEnd_23922 : ByteArray := prog_13_method_158_code
def yJ0_checkBoundsBeginEnd_23922 : MethodName := ⟨RJ0, "checkBoundsBeginEnd", "(III)V"⟩
def RJ1 : String := "java/lang/StringLatin1"
abbrev cJ1_canEncode_9a6ad : ByteArray := prog_14_method_4_code
def yJ1_canEncode_9a6ad : MethodName := ⟨RJ1, "canEncode", "(I)Z"⟩
abbrev cJ1_indexOf_4cfef : ByteArray := prog_14_method_22_code
def yJ1_indexOf_4cfef : MethodName := ⟨RJ1, "indexOf", "([BIII)I"⟩
abbrev cJ1_indexOfChar_4cfef : ByteArray := prog_14_method_23_code
def yJ1_indexOfChar_4cfef : MethodName := ⟨RJ1, "indexOfChar", "([BIII)I"⟩
def RJ2 : String := "java/lang/StringUTF16"
abbrev cJ2_getChar_3b067 : ByteArray := prog_15_method_5_code
def yJ2_getChar_3b067 : MethodName := ⟨RJ2, "getChar", "([BI)C"⟩
abbrev cJ2_length_9d52b : ByteArray := prog_15_method_6_code
def yJ2_length_9d52b : MethodName := ⟨RJ2, "length", "([B)I"⟩
abbrev cJ2_indexOf_4cfef : ByteArray := prog_15_method_40_code
def yJ2_indexOf_4cfef : MethodName := ⟨RJ2, "indexOf", "([BIII)I"⟩
abbrev cJ2_indexOfChar_4cfef : ByteArray := prog_15_method_47_code
def yJ2_indexOfChar_4cfef : MethodName := ⟨RJ2, "indexOfChar", "([BIII)I"⟩
abbrev cJ2_indexOfCharUnsafe_4cfef : ByteArray := prog_15_method_48_code
def yJ2_indexOfCharUnsafe_4cfef : MethodName := ⟨RJ2, "indexOfCharUnsafe", "([BIII)I"⟩
abbrev cJ2_indexOfSupplementary_4cfef : ByteArray := prog_15_method_49_code
def yJ2_indexOfSupplementary_4cfef : MethodName := ⟨RJ2, "indexOfSupplementary", "([BIII)I"⟩
abbrev cJ2_checkBoundsBeginEnd_d044e : ByteArray := prog_15_method_93_code
def yJ2_checkBoundsBeginEnd_d044e : MethodName := ⟨RJ2, "checkBoundsBeginEnd", "(II[B)V"⟩
def RJ3 : String := "jdk/internal/util/Preconditions"
abbrev cJ3_checkFromToIndex_8c36e : ByteArray := prog_16_method_12_code
def yJ3_checkFromToIndex_8c36e : MethodName := ⟨RJ3, "checkFromToIndex", "(IIILjava/util/function/BiFunction;)I"⟩
def RL : String := "BasinSizesLaw"
abbrev cL_law : ByteArray := code
theorem inX0 : ∀ w ∈ wsX00, w ∈ lw_tbl := by decide +kernel
theorem inX1 : ∀ w ∈ wsX10, w ∈ lw_tbl := by decide +kernel
theorem inX2 : ∀ w ∈ wsX20, w ∈ lw_tbl := by decide +kernel
theorem inX3 : ∀ w ∈ wsX30, w ∈ lw_tbl := by decide +kernel
theorem inX4 : ∀ w ∈ wsX40, w ∈ lw_tbl := by decide +kernel
theorem inX5 : ∀ w ∈ wsX50, w ∈ lw_tbl := by decide +kernel
theorem inX6 : ∀ w ∈ wsX60, w ∈ lw_tbl := by decide +kernel
theorem inX7 : ∀ w ∈ wsX70, w ∈ lw_tbl := by decide +kernel
theorem inX8 : ∀ w ∈ wsX80, w ∈ lw_tbl := by decide +kernel
end
section
theorem dX0_init_0 : decode cX0_init 0 = .ok (.aload_n 0, 1) := by decide +kernel
theorem dX0_init_1 : decode cX0_init 1 = .ok (.invokespecial 3, 3) := by decide +kernel
theorem dX0_init_4 : decode cX0_init 4 = .ok (.aload_n 0, 1) := by decide +kernel
theorem dX0_init_5 : decode cX0_init 5 = .ok (.bipush 8, 2) := by decide +kernel
theorem dX0_init_7 : decode cX0_init 7 = .ok (.newarray .int, 2) := by decide +kernel
theorem dX0_init_9 : decode cX0_init 9 = .ok (.putfield 9, 3) := by decide +kernel
theorem dX0_init_12 : decode cX0_init 12 = .ok (.aload_n 0, 1) := by decide +kernel
theorem dX0_init_13 : decode cX0_init 13 = .ok (.bipush 8, 2) := by decide +kernel
theorem dX0_init_15 : decode cX0_init 15 = .ok (.newarray .int, 2) := by decide +kernel
theorem dX0_init_17 : decode cX0_init 17 = .ok (.putfield 15, 3) := by decide +kernel
theorem dX0_init_20 : decode cX0_init 20 = .ok (.aload_n 0, 1) := by decide +kernel
theorem dX0_init_21 : decode cX0_init 21 = .ok (.bipush 8, 2) := by decide +kernel
theorem dX0_init_23 : decode cX0_init 23 = .ok (.newarray .int, 2) := by decide +kernel
theorem dX0_init_25 : decode cX0_init 25 = .ok (.putfield 18, 3) := by decide +kernel
theorem dX0_init_28 : decode cX0_init 28 = .ok (.aload_n 0, 1) := by decide +kernel
theorem dX0_init_29 : decode cX0_init 29 = .ok (.bipush 8, 2) := by decide +kernel
theorem dX0_init_31 : decode cX0_init 31 = .ok (.newarray .int, 2) := by decide +kernel
theorem dX0_init_33 : decode cX0_init 33 = .ok (.putfield 21, 3) := by decide +kernel
theorem dX0_init_36 : decode cX0_init 36 = .ok (.aload_n 0, 1) := by decide +kernel
theorem dX0_init_37 : decode cX0_init 37 = .ok (.bipush 8, 2) := by decide +kernel
theorem dX0_init_39 : decode cX0_init 39 = .ok (.newarray .int, 2) := by decide +kernel
theorem dX0_init_41 : decode cX0_init 41 = .ok (.putfield 24, 3) := by decide +kernel
theorem dX0_init_44 : decode cX0_init 44 = .ok (.aload_n 0, 1) := by decide +kernel
theorem dX0_init_45 : decode cX0_init 45 = .ok (.iconst 0, 1) := by decide +kernel
theorem dX0_init_46 : decode cX0_init 46 = .ok (.putfield 27, 3) := by decide +kernel
theorem dX0_init_49 : decode cX0_init 49 = .ok (.return_, 1) := by decide +kernel
theorem dX0_size_0 : decode cX0_size 0 = .ok (.aload_n 0, 1) := by decide +kernel
theorem dX0_size_1 : decode cX0_size 1 = .ok (.getfield 27, 3) := by decide +kernel
theorem dX0_size_4 : decode cX0_size 4 = .ok (.ireturn, 1) := by decide +kernel
theorem dX0_has_0 : decode cX0_has 0 = .ok (.iload_n 1, 1) := by decide +kernel
theorem dX0_has_1 : decode cX0_has 1 = .ok (.i2l, 1) := by decide +kernel
theorem dX0_has_2 : decode cX0_has 2 = .ok (.lconst 0, 1) := by decide +kernel
theorem dX0_has_3 : decode cX0_has 3 = .ok (.aload_n 0, 1) := by decide +kernel
theorem dX0_has_4 : decode cX0_has 4 = .ok (.getfield 27, 3) := by decide +kernel
theorem dX0_has_7 : decode cX0_has 7 = .ok (.iconst 1, 1) := by decide +kernel
theorem dX0_has_8 : decode cX0_has 8 = .ok (.isub, 1) := by decide +kernel
theorem dX0_has_9 : decode cX0_has 9 = .ok (.i2l, 1) := by decide +kernel
theorem dX0_has_10 : decode cX0_has 10 = .ok (.invokestatic 31, 3) := by decide +kernel
theorem dX0_has_13 : decode cX0_has 13 = .ok (.ireturn, 1) := by decide +kernel
theorem dX0_add_0 : decode cX0_add 0 = .ok (.aload_n 0, 1) := by decide +kernel
theorem dX0_add_1 : decode cX0_add 1 = .ok (.getfield 27, 3) := by decide +kernel
theorem dX0_add_4 : decode cX0_add 4 = .ok (.bipush 8, 2) := by decide +kernel
theorem dX0_add_6 : decode cX0_add 6 = .ok (.if_icmp .lt 5, 3) := by decide +kernel
theorem dX0_add_9 : decode cX0_add 9 = .ok (.iconst (-1), 1) := by decide +kernel
theorem dX0_add_10 : decode cX0_add 10 = .ok (.ireturn, 1) := by decide +kernel
theorem dX0_add_11 : decode cX0_add 11 = .ok (.aload_n 0, 1) := by decide +kernel
theorem dX0_add_12 : decode cX0_add 12 = .ok (.getfield 9, 3) := by decide +kernel
theorem dX0_add_15 : decode cX0_add 15 = .ok (.aload_n 0, 1) := by decide +kernel
theorem dX0_add_16 : decode cX0_add 16 = .ok (.getfield 27, 3) := by decide +kernel
theorem dX0_add_19 : decode cX0_add 19 = .ok (.iload_n 1, 1) := by decide +kernel
theorem dX0_add_20 : decode cX0_add 20 = .ok (.iastore, 1) := by decide +kernel
theorem dX0_add_21 : decode cX0_add 21 = .ok (.aload_n 0, 1) := by decide +kernel
theorem dX0_add_22 : decode cX0_add 22 = .ok (.getfield 15, 3) := by decide +kernel
theorem dX0_add_25 : decode cX0_add 25 = .ok (.aload_n 0, 1) := by decide +kernel
theorem dX0_add_26 : decode cX0_add 26 = .ok (.getfield 27, 3) := by decide +kernel
theorem dX0_add_29 : decode cX0_add 29 = .ok (.iload_n 2, 1) := by decide +kernel
theorem dX0_add_30 : decode cX0_add 30 = .ok (.iastore, 1) := by decide +kernel
theorem dX0_add_31 : decode cX0_add 31 = .ok (.aload_n 0, 1) := by decide +kernel
theorem dX0_add_32 : decode cX0_add 32 = .ok (.getfield 18, 3) := by decide +kernel
theorem dX0_add_35 : decode cX0_add 35 = .ok (.aload_n 0, 1) := by decide +kernel
theorem dX0_add_36 : decode cX0_add 36 = .ok (.getfield 27, 3) := by decide +kernel
theorem dX0_add_39 : decode cX0_add 39 = .ok (.iload_n 3, 1) := by decide +kernel
theorem dX0_add_40 : decode cX0_add 40 = .ok (.iastore, 1) := by decide +kernel
theorem dX0_add_41 : decode cX0_add 41 = .ok (.aload_n 0, 1) := by decide +kernel
theorem dX0_add_42 : decode cX0_add 42 = .ok (.getfield 21, 3) := by decide +kernel
theorem dX0_add_45 : decode cX0_add 45 = .ok (.aload_n 0, 1) := by decide +kernel
theorem dX0_add_46 : decode cX0_add 46 = .ok (.getfield 27, 3) := by decide +kernel
theorem dX0_add_49 : decode cX0_add 49 = .ok (.iload 4, 2) := by decide +kernel
theorem dX0_add_51 : decode cX0_add 51 = .ok (.iastore, 1) := by decide +kernel
theorem dX0_add_52 : decode cX0_add 52 = .ok (.aload_n 0, 1) := by decide +kernel
theorem dX0_add_53 : decode cX0_add 53 = .ok (.dup, 1) := by decide +kernel
theorem dX0_add_54 : decode cX0_add 54 = .ok (.getfield 27, 3) := by decide +kernel
theorem dX0_add_57 : decode cX0_add 57 = .ok (.iconst 1, 1) := by decide +kernel
theorem dX0_add_58 : decode cX0_add 58 = .ok (.iadd, 1) := by decide +kernel
theorem dX0_add_59 : decode cX0_add 59 = .ok (.putfield 27, 3) := by decide +kernel
theorem dX0_add_62 : decode cX0_add 62 = .ok (.aload_n 0, 1) := by decide +kernel
theorem dX0_add_63 : decode cX0_add 63 = .ok (.getfield 27, 3) := by decide +kernel
theorem dX0_add_66 : decode cX0_add 66 = .ok (.iconst 1, 1) := by decide +kernel
theorem dX0_add_67 : decode cX0_add 67 = .ok (.isub, 1) := by decide +kernel
theorem dX0_add_68 : decode cX0_add 68 = .ok (.ireturn, 1) := by decide +kernel
theorem dX0_valuesFor_0 : decode cX0_valuesFor 0 = .ok (.aload_n 0, 1) := by decide +kernel
theorem dX0_valuesFor_1 : decode cX0_valuesFor 1 = .ok (.getfield 24, 3) := by decide +kernel
theorem dX0_valuesFor_4 : decode cX0_valuesFor 4 = .ok (.iconst 1, 1) := by decide +kernel
theorem dX0_valuesFor_5 : decode cX0_valuesFor 5 = .ok (.iload_n 2, 1) := by decide +kernel
theorem dX0_valuesFor_6 : decode cX0_valuesFor 6 = .ok (.iastore, 1) := by decide +kernel
theorem dX0_valuesFor_7 : decode cX0_valuesFor 7 = .ok (.aload_n 0, 1) := by decide +kernel
theorem dX0_valuesFor_8 : decode cX0_valuesFor 8 = .ok (.getfield 24, 3) := by decide +kernel
theorem dX0_valuesFor_11 : decode cX0_valuesFor 11 = .ok (.bipush 6, 2) := by decide +kernel
theorem dX0_valuesFor_13 : decode cX0_valuesFor 13 = .ok (.iload_n 3, 1) := by decide +kernel
theorem dX0_valuesFor_14 : decode cX0_valuesFor 14 = .ok (.iastore, 1) := by decide +kernel
theorem dX0_valuesFor_15 : decode cX0_valuesFor 15 = .ok (.aload_n 0, 1) := by decide +kernel
theorem dX0_valuesFor_16 : decode cX0_valuesFor 16 = .ok (.getfield 24, 3) := by decide +kernel
theorem dX0_valuesFor_19 : decode cX0_valuesFor 19 = .ok (.bipush 7, 2) := by decide +kernel
theorem dX0_valuesFor_21 : decode cX0_valuesFor 21 = .ok (.iconst 1, 1) := by decide +kernel
theorem dX0_valuesFor_22 : decode cX0_valuesFor 22 = .ok (.iastore, 1) := by decide +kernel
theorem dX0_valuesFor_23 : decode cX0_valuesFor 23 = .ok (.aload_n 0, 1) := by decide +kernel
theorem dX0_valuesFor_24 : decode cX0_valuesFor 24 = .ok (.iload_n 1, 1) := by decide +kernel
theorem dX0_valuesFor_25 : decode cX0_valuesFor 25 = .ok (.invokevirtual 35, 3) := by decide +kernel
theorem dX0_valuesFor_28 : decode cX0_valuesFor 28 = .ok (.ifCond .eq 51, 3) := by decide +kernel
theorem dX0_valuesFor_31 : decode cX0_valuesFor 31 = .ok (.aload_n 0, 1) := by decide +kernel
theorem dX0_valuesFor_32 : decode cX0_valuesFor 32 = .ok (.getfield 24, 3) := by decide +kernel
theorem dX0_valuesFor_35 : decode cX0_valuesFor 35 = .ok (.iconst 2, 1) := by decide +kernel
theorem dX0_valuesFor_36 : decode cX0_valuesFor 36 = .ok (.aload_n 0, 1) := by decide +kernel
theorem dX0_valuesFor_37 : decode cX0_valuesFor 37 = .ok (.getfield 9, 3) := by decide +kernel
theorem dX0_valuesFor_40 : decode cX0_valuesFor 40 = .ok (.iload_n 1, 1) := by decide +kernel
theorem dX0_valuesFor_41 : decode cX0_valuesFor 41 = .ok (.iaload, 1) := by decide +kernel
theorem dX0_valuesFor_42 : decode cX0_valuesFor 42 = .ok (.iastore, 1) := by decide +kernel
theorem dX0_valuesFor_43 : decode cX0_valuesFor 43 = .ok (.aload_n 0, 1) := by decide +kernel
theorem dX0_valuesFor_44 : decode cX0_valuesFor 44 = .ok (.getfield 24, 3) := by decide +kernel
theorem dX0_valuesFor_47 : decode cX0_valuesFor 47 = .ok (.iconst 3, 1) := by decide +kernel
theorem dX0_valuesFor_48 : decode cX0_valuesFor 48 = .ok (.aload_n 0, 1) := by decide +kernel
theorem dX0_valuesFor_49 : decode cX0_valuesFor 49 = .ok (.getfield 15, 3) := by decide +kernel
theorem dX0_valuesFor_52 : decode cX0_valuesFor 52 = .ok (.iload_n 1, 1) := by decide +kernel
theorem dX0_valuesFor_53 : decode cX0_valuesFor 53 = .ok (.iaload, 1) := by decide +kernel
theorem dX0_valuesFor_54 : decode cX0_valuesFor 54 = .ok (.iastore, 1) := by decide +kernel
theorem dX0_valuesFor_55 : decode cX0_valuesFor 55 = .ok (.aload_n 0, 1) := by decide +kernel
theorem dX0_valuesFor_56 : decode cX0_valuesFor 56 = .ok (.getfield 24, 3) := by decide +kernel
theorem dX0_valuesFor_59 : decode cX0_valuesFor 59 = .ok (.iconst 4, 1) := by decide +kernel
theorem dX0_valuesFor_60 : decode cX0_valuesFor 60 = .ok (.aload_n 0, 1) := by decide +kernel
theorem dX0_valuesFor_61 : decode cX0_valuesFor 61 = .ok (.getfield 18, 3) := by decide +kernel
theorem dX0_valuesFor_64 : decode cX0_valuesFor 64 = .ok (.iload_n 1, 1) := by decide +kernel
theorem dX0_valuesFor_65 : decode cX0_valuesFor 65 = .ok (.iaload, 1) := by decide +kernel
theorem dX0_valuesFor_66 : decode cX0_valuesFor 66 = .ok (.iastore, 1) := by decide +kernel
theorem dX0_valuesFor_67 : decode cX0_valuesFor 67 = .ok (.aload_n 0, 1) := by decide +kernel
theorem dX0_valuesFor_68 : decode cX0_valuesFor 68 = .ok (.getfield 24, 3) := by decide +kernel
theorem dX0_valuesFor_71 : decode cX0_valuesFor 71 = .ok (.iconst 5, 1) := by decide +kernel
theorem dX0_valuesFor_72 : decode cX0_valuesFor 72 = .ok (.aload_n 0, 1) := by decide +kernel
theorem dX0_valuesFor_73 : decode cX0_valuesFor 73 = .ok (.getfield 21, 3) := by decide +kernel
theorem dX0_valuesFor_76 : decode cX0_valuesFor 76 = .ok (.iload_n 1, 1) := by decide +kernel
theorem dX0_valuesFor_77 : decode cX0_valuesFor 77 = .ok (.iaload, 1) := by decide +kernel
theorem dX0_valuesFor_78 : decode cX0_valuesFor 78 = .ok (.iastore, 1) := by decide +kernel
theorem dX0_valuesFor_79 : decode cX0_valuesFor 79 = .ok (.aload_n 0, 1) := by decide +kernel
theorem dX0_valuesFor_80 : decode cX0_valuesFor 80 = .ok (.getfield 24, 3) := by decide +kernel
theorem dX0_valuesFor_83 : decode cX0_valuesFor 83 = .ok (.areturn, 1) := by decide +kernel
theorem dX1_init_0 : decode cX1_init 0 = .ok (.aload_n 0, 1) := by decide +kernel
theorem dX1_init_1 : decode cX1_init 1 = .ok (.invokespecial 3, 3) := by decide +kernel
theorem dX1_init_4 : decode cX1_init 4 = .ok (.aload_n 0, 1) := by decide +kernel
theorem dX1_init_5 : decode cX1_init 5 = .ok (.sipush 400, 3) := by decide +kernel
theorem dX1_init_8 : decode cX1_init 8 = .ok (.newarray .long, 2) := by decide +kernel
theorem dX1_init_10 : decode cX1_init 10 = .ok (.putfield 9, 3) := by decide +kernel
theorem dX1_init_13 : decode cX1_init 13 = .ok (.aload_n 0, 1) := by decide +kernel
theorem dX1_init_14 : decode cX1_init 14 = .ok (.sipush 400, 3) := by decide +kernel
theorem dX1_init_17 : decode cX1_init 17 = .ok (.newarray .long, 2) := by decide +kernel
theorem dX1_init_19 : decode cX1_init 19 = .ok (.putfield 15, 3) := by decide +kernel
theorem dX1_init_22 : decode cX1_init 22 = .ok (.aload_n 0, 1) := by decide +kernel
theorem dX1_init_23 : decode cX1_init 23 = .ok (.sipush 400, 3) := by decide +kernel
theorem dX1_init_26 : decode cX1_init 26 = .ok (.newarray .long, 2) := by decide +kernel
theorem dX1_init_28 : decode cX1_init 28 = .ok (.putfield 18, 3) := by decide +kernel
theorem dX1_init_31 : decode cX1_init 31 = .ok (.aload_n 0, 1) := by decide +kernel
theorem dX1_init_32 : decode cX1_init 32 = .ok (.sipush 400, 3) := by decide +kernel
theorem dX1_init_35 : decode cX1_init 35 = .ok (.newarray .long, 2) := by decide +kernel
theorem dX1_init_37 : decode cX1_init 37 = .ok (.putfield 21, 3) := by decide +kernel
theorem dX1_init_40 : decode cX1_init 40 = .ok (.aload_n 0, 1) := by decide +kernel
theorem dX1_init_41 : decode cX1_init 41 = .ok (.sipush 400, 3) := by decide +kernel
theorem dX1_init_44 : decode cX1_init 44 = .ok (.newarray .long, 2) := by decide +kernel
theorem dX1_init_46 : decode cX1_init 46 = .ok (.putfield 24, 3) := by decide +kernel
theorem dX1_init_49 : decode cX1_init 49 = .ok (.aload_n 0, 1) := by decide +kernel
theorem dX1_init_50 : decode cX1_init 50 = .ok (.iconst 0, 1) := by decide +kernel
theorem dX1_init_51 : decode cX1_init 51 = .ok (.putfield 27, 3) := by decide +kernel
theorem dX1_init_54 : decode cX1_init 54 = .ok (.aload_n 0, 1) := by decide +kernel
theorem dX1_init_55 : decode cX1_init 55 = .ok (.lconst 0, 1) := by decide +kernel
theorem dX1_init_56 : decode cX1_init 56 = .ok (.putfield 31, 3) := by decide +kernel
theorem dX1_init_59 : decode cX1_init 59 = .ok (.aload_n 0, 1) := by decide +kernel
theorem dX1_init_60 : decode cX1_init 60 = .ok (.iconst 0, 1) := by decide +kernel
theorem dX1_init_61 : decode cX1_init 61 = .ok (.putfield 35, 3) := by decide +kernel
theorem dX1_init_64 : decode cX1_init 64 = .ok (.return_, 1) := by decide +kernel
theorem dX1_size_0 : decode cX1_size 0 = .ok (.aload_n 0, 1) := by decide +kernel
theorem dX1_size_1 : decode cX1_size 1 = .ok (.getfield 27, 3) := by decide +kernel
theorem dX1_size_4 : decode cX1_size 4 = .ok (.ireturn, 1) := by decide +kernel
theorem dX1_add_0 : decode cX1_add 0 = .ok (.aload_n 0, 1) := by decide +kernel
theorem dX1_add_1 : decode cX1_add 1 = .ok (.getfield 27, 3) := by decide +kernel
theorem dX1_add_4 : decode cX1_add 4 = .ok (.sipush 400, 3) := by decide +kernel
theorem dX1_add_7 : decode cX1_add 7 = .ok (.if_icmp .lt 5, 3) := by decide +kernel
theorem dX1_add_10 : decode cX1_add 10 = .ok (.iconst (-1), 1) := by decide +kernel
theorem dX1_add_11 : decode cX1_add 11 = .ok (.ireturn, 1) := by decide +kernel
theorem dX1_add_12 : decode cX1_add 12 = .ok (.aload_n 0, 1) := by decide +kernel
theorem dX1_add_13 : decode cX1_add 13 = .ok (.getfield 9, 3) := by decide +kernel
theorem dX1_add_16 : decode cX1_add 16 = .ok (.aload_n 0, 1) := by decide +kernel
theorem dX1_add_17 : decode cX1_add 17 = .ok (.getfield 27, 3) := by decide +kernel
theorem dX1_add_20 : decode cX1_add 20 = .ok (.lload_n 1, 1) := by decide +kernel
theorem dX1_add_21 : decode cX1_add 21 = .ok (.lastore, 1) := by decide +kernel
theorem dX1_add_22 : decode cX1_add 22 = .ok (.aload_n 0, 1) := by decide +kernel
theorem dX1_add_23 : decode cX1_add 23 = .ok (.dup, 1) := by decide +kernel
theorem dX1_add_24 : decode cX1_add 24 = .ok (.getfield 31, 3) := by decide +kernel
theorem dX1_add_27 : decode cX1_add 27 = .ok (.lload_n 1, 1) := by decide +kernel
theorem dX1_add_28 : decode cX1_add 28 = .ok (.ladd, 1) := by decide +kernel
theorem dX1_add_29 : decode cX1_add 29 = .ok (.putfield 31, 3) := by decide +kernel
theorem dX1_add_32 : decode cX1_add 32 = .ok (.aload_n 0, 1) := by decide +kernel
theorem dX1_add_33 : decode cX1_add 33 = .ok (.dup, 1) := by decide +kernel
theorem dX1_add_34 : decode cX1_add 34 = .ok (.getfield 27, 3) := by decide +kernel
theorem dX1_add_37 : decode cX1_add 37 = .ok (.iconst 1, 1) := by decide +kernel
theorem dX1_add_38 : decode cX1_add 38 = .ok (.iadd, 1) := by decide +kernel
theorem dX1_add_39 : decode cX1_add 39 = .ok (.putfield 27, 3) := by decide +kernel
theorem dX1_add_42 : decode cX1_add 42 = .ok (.aload_n 0, 1) := by decide +kernel
theorem dX1_add_43 : decode cX1_add 43 = .ok (.iconst 0, 1) := by decide +kernel
theorem dX1_add_44 : decode cX1_add 44 = .ok (.putfield 35, 3) := by decide +kernel
theorem dX1_add_47 : decode cX1_add 47 = .ok (.aload_n 0, 1) := by decide +kernel
theorem dX1_add_48 : decode cX1_add 48 = .ok (.getfield 27, 3) := by decide +kernel
theorem dX1_add_51 : decode cX1_add 51 = .ok (.ireturn, 1) := by decide +kernel
theorem dX1_keepRun_0 : decode cX1_keepRun 0 = .ok (.aload_n 0, 1) := by decide +kernel
theorem dX1_keepRun_1 : decode cX1_keepRun 1 = .ok (.iconst 1, 1) := by decide +kernel
theorem dX1_keepRun_2 : decode cX1_keepRun 2 = .ok (.putfield 35, 3) := by decide +kernel
theorem dX1_keepRun_5 : decode cX1_keepRun 5 = .ok (.aload_n 0, 1) := by decide +kernel
theorem dX1_keepRun_6 : decode cX1_keepRun 6 = .ok (.lload_n 1, 1) := by decide +kernel
theorem dX1_keepRun_7 : decode cX1_keepRun 7 = .ok (.lload_n 3, 1) := by decide +kernel
theorem dX1_keepRun_8 : decode cX1_keepRun 8 = .ok (.invokevirtual 39, 3) := by decide +kernel
theorem dX1_keepRun_11 : decode cX1_keepRun 11 = .ok (.ireturn, 1) := by decide +kernel
theorem dX1_goThrough_0 : decode cX1_goThrough 0 = .ok (.lconst 0, 1) := by decide +kernel
theorem dX1_goThrough_1 : decode cX1_goThrough 1 = .ok (.lstore 5, 2) := by decide +kernel
theorem dX1_goThrough_3 : decode cX1_goThrough 3 = .ok (.lconst 0, 1) := by decide +kernel
theorem dX1_goThrough_4 : decode cX1_goThrough 4 = .ok (.lstore 7, 2) := by decide +kernel
theorem dX1_goThrough_6 : decode cX1_goThrough 6 = .ok (.iconst 0, 1) := by decide +kernel
theorem dX1_goThrough_7 : decode cX1_goThrough 7 = .ok (.istore 9, 2) := by decide +kernel
theorem dX1_goThrough_9 : decode cX1_goThrough 9 = .ok (.iconst 0, 1) := by decide +kernel
theorem dX1_goThrough_10 : decode cX1_goThrough 10 = .ok (.istore 10, 2) := by decide +kernel
theorem dX1_goThrough_12 : decode cX1_goThrough 12 = .ok (.iload 10, 2) := by decide +kernel
theorem dX1_goThrough_14 : decode cX1_goThrough 14 = .ok (.aload_n 0, 1) := by decide +kernel
theorem dX1_goThrough_15 : decode cX1_goThrough 15 = .ok (.getfield 27, 3) := by decide +kernel
theorem dX1_goThrough_18 : decode cX1_goThrough 18 = .ok (.if_icmp .ge 118, 3) := by decide +kernel
theorem dX1_goThrough_21 : decode cX1_goThrough 21 = .ok (.lload 5, 2) := by decide +kernel
theorem dX1_goThrough_23 : decode cX1_goThrough 23 = .ok (.aload_n 0, 1) := by decide +kernel
theorem dX1_goThrough_24 : decode cX1_goThrough 24 = .ok (.getfield 9, 3) := by decide +kernel
theorem dX1_goThrough_27 : decode cX1_goThrough 27 = .ok (.iload 10, 2) := by decide +kernel
theorem dX1_goThrough_29 : decode cX1_goThrough 29 = .ok (.laload, 1) := by decide +kernel
theorem dX1_goThrough_30 : decode cX1_goThrough 30 = .ok (.ladd, 1) := by decide +kernel
theorem dX1_goThrough_31 : decode cX1_goThrough 31 = .ok (.lstore 5, 2) := by decide +kernel
theorem dX1_goThrough_33 : decode cX1_goThrough 33 = .ok (.aload_n 0, 1) := by decide +kernel
theorem dX1_goThrough_34 : decode cX1_goThrough 34 = .ok (.getfield 18, 3) := by decide +kernel
theorem dX1_goThrough_37 : decode cX1_goThrough 37 = .ok (.iload 10, 2) := by decide +kernel
theorem dX1_goThrough_39 : decode cX1_goThrough 39 = .ok (.lload 5, 2) := by decide +kernel
theorem dX1_goThrough_41 : decode cX1_goThrough 41 = .ok (.lload_n 1, 1) := by decide +kernel
theorem dX1_goThrough_42 : decode cX1_goThrough 42 = .ok (.invokestatic 43, 3) := by decide +kernel
theorem dX1_goThrough_45 : decode cX1_goThrough 45 = .ok (.lastore, 1) := by decide +kernel
theorem dX1_goThrough_46 : decode cX1_goThrough 46 = .ok (.lload 5, 2) := by decide +kernel
theorem dX1_goThrough_48 : decode cX1_goThrough 48 = .ok (.aload_n 0, 1) := by decide +kernel
theorem dX1_goThrough_49 : decode cX1_goThrough 49 = .ok (.getfield 18, 3) := by decide +kernel
theorem dX1_goThrough_52 : decode cX1_goThrough 52 = .ok (.iload 10, 2) := by decide +kernel
theorem dX1_goThrough_54 : decode cX1_goThrough 54 = .ok (.laload, 1) := by decide +kernel
theorem dX1_goThrough_55 : decode cX1_goThrough 55 = .ok (.lsub, 1) := by decide +kernel
theorem dX1_goThrough_56 : decode cX1_goThrough 56 = .ok (.lstore 5, 2) := by decide +kernel
theorem dX1_goThrough_58 : decode cX1_goThrough 58 = .ok (.aload_n 0, 1) := by decide +kernel
theorem dX1_goThrough_59 : decode cX1_goThrough 59 = .ok (.getfield 21, 3) := by decide +kernel
theorem dX1_goThrough_62 : decode cX1_goThrough 62 = .ok (.iload 10, 2) := by decide +kernel
theorem dX1_goThrough_64 : decode cX1_goThrough 64 = .ok (.lconst 0, 1) := by decide +kernel
theorem dX1_goThrough_65 : decode cX1_goThrough 65 = .ok (.lload 5, 2) := by decide +kernel
theorem dX1_goThrough_67 : decode cX1_goThrough 67 = .ok (.lload_n 3, 1) := by decide +kernel
theorem dX1_goThrough_68 : decode cX1_goThrough 68 = .ok (.lsub, 1) := by decide +kernel
theorem dX1_goThrough_69 : decode cX1_goThrough 69 = .ok (.invokestatic 49, 3) := by decide +kernel
theorem dX1_goThrough_72 : decode cX1_goThrough 72 = .ok (.lastore, 1) := by decide +kernel
theorem dX1_goThrough_73 : decode cX1_goThrough 73 = .ok (.lload 5, 2) := by decide +kernel
theorem dX1_goThrough_75 : decode cX1_goThrough 75 = .ok (.aload_n 0, 1) := by decide +kernel
theorem dX1_goThrough_76 : decode cX1_goThrough 76 = .ok (.getfield 21, 3) := by decide +kernel
theorem dX1_goThrough_79 : decode cX1_goThrough 79 = .ok (.iload 10, 2) := by decide +kernel
theorem dX1_goThrough_81 : decode cX1_goThrough 81 = .ok (.laload, 1) := by decide +kernel
theorem dX1_goThrough_82 : decode cX1_goThrough 82 = .ok (.lsub, 1) := by decide +kernel
theorem dX1_goThrough_83 : decode cX1_goThrough 83 = .ok (.lstore 5, 2) := by decide +kernel
theorem dX1_goThrough_85 : decode cX1_goThrough 85 = .ok (.aload_n 0, 1) := by decide +kernel
theorem dX1_goThrough_86 : decode cX1_goThrough 86 = .ok (.getfield 15, 3) := by decide +kernel
theorem dX1_goThrough_89 : decode cX1_goThrough 89 = .ok (.iload 10, 2) := by decide +kernel
theorem dX1_goThrough_91 : decode cX1_goThrough 91 = .ok (.lload 5, 2) := by decide +kernel
theorem dX1_goThrough_93 : decode cX1_goThrough 93 = .ok (.lastore, 1) := by decide +kernel
theorem dX1_goThrough_94 : decode cX1_goThrough 94 = .ok (.lload 7, 2) := by decide +kernel
theorem dX1_goThrough_96 : decode cX1_goThrough 96 = .ok (.aload_n 0, 1) := by decide +kernel
theorem dX1_goThrough_97 : decode cX1_goThrough 97 = .ok (.getfield 21, 3) := by decide +kernel
theorem dX1_goThrough_100 : decode cX1_goThrough 100 = .ok (.iload 10, 2) := by decide +kernel
theorem dX1_goThrough_102 : decode cX1_goThrough 102 = .ok (.laload, 1) := by decide +kernel
theorem dX1_goThrough_103 : decode cX1_goThrough 103 = .ok (.ladd, 1) := by decide +kernel
theorem dX1_goThrough_104 : decode cX1_goThrough 104 = .ok (.lstore 7, 2) := by decide +kernel
theorem dX1_goThrough_106 : decode cX1_goThrough 106 = .ok (.aload_n 0, 1) := by decide +kernel
theorem dX1_goThrough_107 : decode cX1_goThrough 107 = .ok (.getfield 24, 3) := by decide +kernel
theorem dX1_goThrough_110 : decode cX1_goThrough 110 = .ok (.iload 10, 2) := by decide +kernel
theorem dX1_goThrough_112 : decode cX1_goThrough 112 = .ok (.lload 7, 2) := by decide +kernel
theorem dX1_goThrough_114 : decode cX1_goThrough 114 = .ok (.lastore, 1) := by decide +kernel
theorem dX1_goThrough_115 : decode cX1_goThrough 115 = .ok (.aload_n 0, 1) := by decide +kernel
theorem dX1_goThrough_116 : decode cX1_goThrough 116 = .ok (.getfield 21, 3) := by decide +kernel
theorem dX1_goThrough_119 : decode cX1_goThrough 119 = .ok (.iload 10, 2) := by decide +kernel
theorem dX1_goThrough_121 : decode cX1_goThrough 121 = .ok (.laload, 1) := by decide +kernel
theorem dX1_goThrough_122 : decode cX1_goThrough 122 = .ok (.lconst 0, 1) := by decide +kernel
theorem dX1_goThrough_123 : decode cX1_goThrough 123 = .ok (.lcmp, 1) := by decide +kernel
theorem dX1_goThrough_124 : decode cX1_goThrough 124 = .ok (.ifCond .le 6, 3) := by decide +kernel
theorem dX1_goThrough_127 : decode cX1_goThrough 127 = .ok (.iinc 9 1, 3) := by decide +kernel
theorem dX1_goThrough_130 : decode cX1_goThrough 130 = .ok (.iinc 10 1, 3) := by decide +kernel
theorem dX1_goThrough_133 : decode cX1_goThrough 133 = .ok (.goto (-121), 3) := by decide +kernel
theorem dX1_goThrough_136 : decode cX1_goThrough 136 = .ok (.iload 9, 2) := by decide +kernel
theorem dX1_goThrough_138 : decode cX1_goThrough 138 = .ok (.ireturn, 1) := by decide +kernel
theorem dX1_recall_0 : decode cX1_recall 0 = .ok (.aload_n 0, 1) := by decide +kernel
theorem dX1_recall_1 : decode cX1_recall 1 = .ok (.getfield 35, 3) := by decide +kernel
theorem dX1_recall_4 : decode cX1_recall 4 = .ok (.ifCond .eq 19, 3) := by decide +kernel
theorem dX1_recall_7 : decode cX1_recall 7 = .ok (.iload_n 1, 1) := by decide +kernel
theorem dX1_recall_8 : decode cX1_recall 8 = .ok (.i2l, 1) := by decide +kernel
theorem dX1_recall_9 : decode cX1_recall 9 = .ok (.lconst 0, 1) := by decide +kernel
theorem dX1_recall_10 : decode cX1_recall 10 = .ok (.aload_n 0, 1) := by decide +kernel
theorem dX1_recall_11 : decode cX1_recall 11 = .ok (.getfield 27, 3) := by decide +kernel
theorem dX1_recall_14 : decode cX1_recall 14 = .ok (.iconst 1, 1) := by decide +kernel
theorem dX1_recall_15 : decode cX1_recall 15 = .ok (.isub, 1) := by decide +kernel
theorem dX1_recall_16 : decode cX1_recall 16 = .ok (.i2l, 1) := by decide +kernel
theorem dX1_recall_17 : decode cX1_recall 17 = .ok (.invokestatic 52, 3) := by decide +kernel
theorem dX1_recall_20 : decode cX1_recall 20 = .ok (.ifCond .ne 7, 3) := by decide +kernel
theorem dX1_recall_23 : decode cX1_recall 23 = .ok (.ldc2_w 56, 3) := by decide +kernel
theorem dX1_recall_26 : decode cX1_recall 26 = .ok (.lreturn, 1) := by decide +kernel
theorem dX1_recall_27 : decode cX1_recall 27 = .ok (.iload_n 2, 1) := by decide +kernel
theorem dX1_recall_28 : decode cX1_recall 28 = .ok (.tableswitch 60 0 3 #[32, 39, 46, 53], 32) := by decide +kernel
theorem dX1_recall_60 : decode cX1_recall 60 = .ok (.aload_n 0, 1) := by decide +kernel
theorem dX1_recall_61 : decode cX1_recall 61 = .ok (.getfield 15, 3) := by decide +kernel
theorem dX1_recall_64 : decode cX1_recall 64 = .ok (.iload_n 1, 1) := by decide +kernel
theorem dX1_recall_65 : decode cX1_recall 65 = .ok (.laload, 1) := by decide +kernel
theorem dX1_recall_66 : decode cX1_recall 66 = .ok (.lreturn, 1) := by decide +kernel
theorem dX1_recall_67 : decode cX1_recall 67 = .ok (.aload_n 0, 1) := by decide +kernel
theorem dX1_recall_68 : decode cX1_recall 68 = .ok (.getfield 18, 3) := by decide +kernel
theorem dX1_recall_71 : decode cX1_recall 71 = .ok (.iload_n 1, 1) := by decide +kernel
theorem dX1_recall_72 : decode cX1_recall 72 = .ok (.laload, 1) := by decide +kernel
theorem dX1_recall_73 : decode cX1_recall 73 = .ok (.lreturn, 1) := by decide +kernel
theorem dX1_recall_74 : decode cX1_recall 74 = .ok (.aload_n 0, 1) := by decide +kernel
theorem dX1_recall_75 : decode cX1_recall 75 = .ok (.getfield 21, 3) := by decide +kernel
theorem dX1_recall_78 : decode cX1_recall 78 = .ok (.iload_n 1, 1) := by decide +kernel
theorem dX1_recall_79 : decode cX1_recall 79 = .ok (.laload, 1) := by decide +kernel
theorem dX1_recall_80 : decode cX1_recall 80 = .ok (.lreturn, 1) := by decide +kernel
theorem dX1_recall_81 : decode cX1_recall 81 = .ok (.aload_n 0, 1) := by decide +kernel
theorem dX1_recall_82 : decode cX1_recall 82 = .ok (.getfield 24, 3) := by decide +kernel
theorem dX1_recall_85 : decode cX1_recall 85 = .ok (.iload_n 1, 1) := by decide +kernel
theorem dX1_recall_86 : decode cX1_recall 86 = .ok (.laload, 1) := by decide +kernel
theorem dX1_recall_87 : decode cX1_recall 87 = .ok (.lreturn, 1) := by decide +kernel
theorem dX1_recall_88 : decode cX1_recall 88 = .ok (.ldc2_w 56, 3) := by decide +kernel
theorem dX1_recall_91 : decode cX1_recall 91 = .ok (.lreturn, 1) := by decide +kernel
theorem dX1_leastRoom_0 : decode cX1_leastRoom 0 = .ok (.aload_n 0, 1) := by decide +kernel
theorem dX1_leastRoom_1 : decode cX1_leastRoom 1 = .ok (.iconst 0, 1) := by decide +kernel
theorem dX1_leastRoom_2 : decode cX1_leastRoom 2 = .ok (.putfield 35, 3) := by decide +kernel
theorem dX1_leastRoom_5 : decode cX1_leastRoom 5 = .ok (.lconst 0, 1) := by decide +kernel
theorem dX1_leastRoom_6 : decode cX1_leastRoom 6 = .ok (.lstore 4, 2) := by decide +kernel
theorem dX1_leastRoom_8 : decode cX1_leastRoom 8 = .ok (.aload_n 0, 1) := by decide +kernel
theorem dX1_leastRoom_9 : decode cX1_leastRoom 9 = .ok (.getfield 31, 3) := by decide +kernel
theorem dX1_leastRoom_12 : decode cX1_leastRoom 12 = .ok (.lstore 6, 2) := by decide +kernel
theorem dX1_leastRoom_14 : decode cX1_leastRoom 14 = .ok (.iconst 0, 1) := by decide +kernel
theorem dX1_leastRoom_15 : decode cX1_leastRoom 15 = .ok (.istore 8, 2) := by decide +kernel
theorem dX1_leastRoom_17 : decode cX1_leastRoom 17 = .ok (.iload 8, 2) := by decide +kernel
theorem dX1_leastRoom_19 : decode cX1_leastRoom 19 = .ok (.bipush 60, 2) := by decide +kernel
theorem dX1_leastRoom_21 : decode cX1_leastRoom 21 = .ok (.if_icmp .ge 55, 3) := by decide +kernel
theorem dX1_leastRoom_24 : decode cX1_leastRoom 24 = .ok (.lload 4, 2) := by decide +kernel
theorem dX1_leastRoom_26 : decode cX1_leastRoom 26 = .ok (.lload 6, 2) := by decide +kernel
theorem dX1_leastRoom_28 : decode cX1_leastRoom 28 = .ok (.lcmp, 1) := by decide +kernel
theorem dX1_leastRoom_29 : decode cX1_leastRoom 29 = .ok (.ifCond .ge 47, 3) := by decide +kernel
theorem dX1_leastRoom_32 : decode cX1_leastRoom 32 = .ok (.lload 4, 2) := by decide +kernel
theorem dX1_leastRoom_34 : decode cX1_leastRoom 34 = .ok (.lload 6, 2) := by decide +kernel
theorem dX1_leastRoom_36 : decode cX1_leastRoom 36 = .ok (.lload 4, 2) := by decide +kernel
theorem dX1_leastRoom_38 : decode cX1_leastRoom 38 = .ok (.lsub, 1) := by decide +kernel
theorem dX1_leastRoom_39 : decode cX1_leastRoom 39 = .ok (.ldc2_w 58, 3) := by decide +kernel
theorem dX1_leastRoom_42 : decode cX1_leastRoom 42 = .ok (.ldiv, 1) := by decide +kernel
theorem dX1_leastRoom_43 : decode cX1_leastRoom 43 = .ok (.ladd, 1) := by decide +kernel
theorem dX1_leastRoom_44 : decode cX1_leastRoom 44 = .ok (.lstore 9, 2) := by decide +kernel
theorem dX1_leastRoom_46 : decode cX1_leastRoom 46 = .ok (.aload_n 0, 1) := by decide +kernel
theorem dX1_leastRoom_47 : decode cX1_leastRoom 47 = .ok (.lload_n 1, 1) := by decide +kernel
theorem dX1_leastRoom_48 : decode cX1_leastRoom 48 = .ok (.lload 9, 2) := by decide +kernel
theorem dX1_leastRoom_50 : decode cX1_leastRoom 50 = .ok (.invokevirtual 39, 3) := by decide +kernel
theorem dX1_leastRoom_53 : decode cX1_leastRoom 53 = .ok (.iload_n 3, 1) := by decide +kernel
theorem dX1_leastRoom_54 : decode cX1_leastRoom 54 = .ok (.if_icmp .gt 10, 3) := by decide +kernel
theorem dX1_leastRoom_57 : decode cX1_leastRoom 57 = .ok (.lload 9, 2) := by decide +kernel
theorem dX1_leastRoom_59 : decode cX1_leastRoom 59 = .ok (.lstore 6, 2) := by decide +kernel
theorem dX1_leastRoom_61 : decode cX1_leastRoom 61 = .ok (.goto 9, 3) := by decide +kernel
theorem dX1_leastRoom_64 : decode cX1_leastRoom 64 = .ok (.lload 9, 2) := by decide +kernel
theorem dX1_leastRoom_66 : decode cX1_leastRoom 66 = .ok (.lconst 1, 1) := by decide +kernel
theorem dX1_leastRoom_67 : decode cX1_leastRoom 67 = .ok (.ladd, 1) := by decide +kernel
theorem dX1_leastRoom_68 : decode cX1_leastRoom 68 = .ok (.lstore 4, 2) := by decide +kernel
theorem dX1_leastRoom_70 : decode cX1_leastRoom 70 = .ok (.iinc 8 1, 3) := by decide +kernel
theorem dX1_leastRoom_73 : decode cX1_leastRoom 73 = .ok (.goto (-56), 3) := by decide +kernel
theorem dX1_leastRoom_76 : decode cX1_leastRoom 76 = .ok (.lload 4, 2) := by decide +kernel
theorem dX1_leastRoom_78 : decode cX1_leastRoom 78 = .ok (.lreturn, 1) := by decide +kernel
theorem dX2_init_0 : decode cX2_init 0 = .ok (.aload_n 0, 1) := by decide +kernel
theorem dX2_init_1 : decode cX2_init 1 = .ok (.invokespecial 3, 3) := by decide +kernel
theorem dX2_init_4 : decode cX2_init 4 = .ok (.aload_n 0, 1) := by decide +kernel
theorem dX2_init_5 : decode cX2_init 5 = .ok (.bipush 20, 2) := by decide +kernel
theorem dX2_init_7 : decode cX2_init 7 = .ok (.newarray .int, 2) := by decide +kernel
theorem dX2_init_9 : decode cX2_init 9 = .ok (.putfield 9, 3) := by decide +kernel
theorem dX2_init_12 : decode cX2_init 12 = .ok (.aload_n 0, 1) := by decide +kernel
theorem dX2_init_13 : decode cX2_init 13 = .ok (.bipush 20, 2) := by decide +kernel
theorem dX2_init_15 : decode cX2_init 15 = .ok (.newarray .int, 2) := by decide +kernel
theorem dX2_init_17 : decode cX2_init 17 = .ok (.putfield 15, 3) := by decide +kernel
theorem dX2_init_20 : decode cX2_init 20 = .ok (.aload_n 0, 1) := by decide +kernel
theorem dX2_init_21 : decode cX2_init 21 = .ok (.bipush 20, 2) := by decide +kernel
theorem dX2_init_23 : decode cX2_init 23 = .ok (.newarray .long, 2) := by decide +kernel
theorem dX2_init_25 : decode cX2_init 25 = .ok (.putfield 18, 3) := by decide +kernel
theorem dX2_init_28 : decode cX2_init 28 = .ok (.aload_n 0, 1) := by decide +kernel
theorem dX2_init_29 : decode cX2_init 29 = .ok (.iconst 0, 1) := by decide +kernel
theorem dX2_init_30 : decode cX2_init 30 = .ok (.putfield 22, 3) := by decide +kernel
theorem dX2_init_33 : decode cX2_init 33 = .ok (.return_, 1) := by decide +kernel
theorem dX2_size_0 : decode cX2_size 0 = .ok (.aload_n 0, 1) := by decide +kernel
theorem dX2_size_1 : decode cX2_size 1 = .ok (.getfield 22, 3) := by decide +kernel
theorem dX2_size_4 : decode cX2_size 4 = .ok (.ireturn, 1) := by decide +kernel
theorem dX2_add_0 : decode cX2_add 0 = .ok (.aload_n 0, 1) := by decide +kernel
theorem dX2_add_1 : decode cX2_add 1 = .ok (.getfield 22, 3) := by decide +kernel
theorem dX2_add_4 : decode cX2_add 4 = .ok (.bipush 20, 2) := by decide +kernel
theorem dX2_add_6 : decode cX2_add 6 = .ok (.if_icmp .lt 5, 3) := by decide +kernel
theorem dX2_add_9 : decode cX2_add 9 = .ok (.iconst (-1), 1) := by decide +kernel
theorem dX2_add_10 : decode cX2_add 10 = .ok (.ireturn, 1) := by decide +kernel
theorem dX2_add_11 : decode cX2_add 11 = .ok (.lconst 0, 1) := by decide +kernel
theorem dX2_add_12 : decode cX2_add 12 = .ok (.lstore_n 3, 1) := by decide +kernel
theorem dX2_add_13 : decode cX2_add 13 = .ok (.aload_n 0, 1) := by decide +kernel
theorem dX2_add_14 : decode cX2_add 14 = .ok (.getfield 22, 3) := by decide +kernel
theorem dX2_add_17 : decode cX2_add 17 = .ok (.ifCond .le 67, 3) := by decide +kernel
theorem dX2_add_20 : decode cX2_add 20 = .ok (.aload_n 0, 1) := by decide +kernel
theorem dX2_add_21 : decode cX2_add 21 = .ok (.getfield 22, 3) := by decide +kernel
theorem dX2_add_24 : decode cX2_add 24 = .ok (.iconst 1, 1) := by decide +kernel
theorem dX2_add_25 : decode cX2_add 25 = .ok (.isub, 1) := by decide +kernel
theorem dX2_add_26 : decode cX2_add 26 = .ok (.istore 5, 2) := by decide +kernel
theorem dX2_add_28 : decode cX2_add 28 = .ok (.iload_n 1, 1) := by decide +kernel
theorem dX2_add_29 : decode cX2_add 29 = .ok (.aload_n 0, 1) := by decide +kernel
theorem dX2_add_30 : decode cX2_add 30 = .ok (.getfield 9, 3) := by decide +kernel
theorem dX2_add_33 : decode cX2_add 33 = .ok (.iload 5, 2) := by decide +kernel
theorem dX2_add_35 : decode cX2_add 35 = .ok (.iaload, 1) := by decide +kernel
theorem dX2_add_36 : decode cX2_add 36 = .ok (.if_icmp .le 14, 3) := by decide +kernel
theorem dX2_add_39 : decode cX2_add 39 = .ok (.iload_n 2, 1) := by decide +kernel
theorem dX2_add_40 : decode cX2_add 40 = .ok (.aload_n 0, 1) := by decide +kernel
theorem dX2_add_41 : decode cX2_add 41 = .ok (.getfield 15, 3) := by decide +kernel
theorem dX2_add_44 : decode cX2_add 44 = .ok (.iload 5, 2) := by decide +kernel
theorem dX2_add_46 : decode cX2_add 46 = .ok (.iaload, 1) := by decide +kernel
theorem dX2_add_47 : decode cX2_add 47 = .ok (.if_icmp .ge 5, 3) := by decide +kernel
theorem dX2_add_50 : decode cX2_add 50 = .ok (.iconst (-1), 1) := by decide +kernel
theorem dX2_add_51 : decode cX2_add 51 = .ok (.ireturn, 1) := by decide +kernel
theorem dX2_add_52 : decode cX2_add 52 = .ok (.aload_n 0, 1) := by decide +kernel
theorem dX2_add_53 : decode cX2_add 53 = .ok (.getfield 18, 3) := by decide +kernel
theorem dX2_add_56 : decode cX2_add 56 = .ok (.iload 5, 2) := by decide +kernel
theorem dX2_add_58 : decode cX2_add 58 = .ok (.laload, 1) := by decide +kernel
theorem dX2_add_59 : decode cX2_add 59 = .ok (.aload_n 0, 1) := by decide +kernel
theorem dX2_add_60 : decode cX2_add 60 = .ok (.getfield 15, 3) := by decide +kernel
theorem dX2_add_63 : decode cX2_add 63 = .ok (.iload 5, 2) := by decide +kernel
theorem dX2_add_65 : decode cX2_add 65 = .ok (.iaload, 1) := by decide +kernel
theorem dX2_add_66 : decode cX2_add 66 = .ok (.i2l, 1) := by decide +kernel
theorem dX2_add_67 : decode cX2_add 67 = .ok (.iload_n 2, 1) := by decide +kernel
theorem dX2_add_68 : decode cX2_add 68 = .ok (.i2l, 1) := by decide +kernel
theorem dX2_add_69 : decode cX2_add 69 = .ok (.iload_n 1, 1) := by decide +kernel
theorem dX2_add_70 : decode cX2_add 70 = .ok (.aload_n 0, 1) := by decide +kernel
theorem dX2_add_71 : decode cX2_add 71 = .ok (.getfield 9, 3) := by decide +kernel
theorem dX2_add_74 : decode cX2_add 74 = .ok (.iload 5, 2) := by decide +kernel
theorem dX2_add_76 : decode cX2_add 76 = .ok (.iaload, 1) := by decide +kernel
theorem dX2_add_77 : decode cX2_add 77 = .ok (.isub, 1) := by decide +kernel
theorem dX2_add_78 : decode cX2_add 78 = .ok (.i2l, 1) := by decide +kernel
theorem dX2_add_79 : decode cX2_add 79 = .ok (.invokestatic 26, 3) := by decide +kernel
theorem dX2_add_82 : decode cX2_add 82 = .ok (.ladd, 1) := by decide +kernel
theorem dX2_add_83 : decode cX2_add 83 = .ok (.lstore_n 3, 1) := by decide +kernel
theorem dX2_add_84 : decode cX2_add 84 = .ok (.aload_n 0, 1) := by decide +kernel
theorem dX2_add_85 : decode cX2_add 85 = .ok (.getfield 9, 3) := by decide +kernel
theorem dX2_add_88 : decode cX2_add 88 = .ok (.aload_n 0, 1) := by decide +kernel
theorem dX2_add_89 : decode cX2_add 89 = .ok (.getfield 22, 3) := by decide +kernel
theorem dX2_add_92 : decode cX2_add 92 = .ok (.iload_n 1, 1) := by decide +kernel
theorem dX2_add_93 : decode cX2_add 93 = .ok (.iastore, 1) := by decide +kernel
theorem dX2_add_94 : decode cX2_add 94 = .ok (.aload_n 0, 1) := by decide +kernel
theorem dX2_add_95 : decode cX2_add 95 = .ok (.getfield 15, 3) := by decide +kernel
theorem dX2_add_98 : decode cX2_add 98 = .ok (.aload_n 0, 1) := by decide +kernel
theorem dX2_add_99 : decode cX2_add 99 = .ok (.getfield 22, 3) := by decide +kernel
theorem dX2_add_102 : decode cX2_add 102 = .ok (.iload_n 2, 1) := by decide +kernel
theorem dX2_add_103 : decode cX2_add 103 = .ok (.iastore, 1) := by decide +kernel
theorem dX2_add_104 : decode cX2_add 104 = .ok (.aload_n 0, 1) := by decide +kernel
theorem dX2_add_105 : decode cX2_add 105 = .ok (.getfield 18, 3) := by decide +kernel
theorem dX2_add_108 : decode cX2_add 108 = .ok (.aload_n 0, 1) := by decide +kernel
theorem dX2_add_109 : decode cX2_add 109 = .ok (.getfield 22, 3) := by decide +kernel
theorem dX2_add_112 : decode cX2_add 112 = .ok (.lload_n 3, 1) := by decide +kernel
theorem dX2_add_113 : decode cX2_add 113 = .ok (.lastore, 1) := by decide +kernel
theorem dX2_add_114 : decode cX2_add 114 = .ok (.aload_n 0, 1) := by decide +kernel
theorem dX2_add_115 : decode cX2_add 115 = .ok (.dup, 1) := by decide +kernel
theorem dX2_add_116 : decode cX2_add 116 = .ok (.getfield 22, 3) := by decide +kernel
theorem dX2_add_119 : decode cX2_add 119 = .ok (.iconst 1, 1) := by decide +kernel
theorem dX2_add_120 : decode cX2_add 120 = .ok (.iadd, 1) := by decide +kernel
theorem dX2_add_121 : decode cX2_add 121 = .ok (.putfield 22, 3) := by decide +kernel
theorem dX2_add_124 : decode cX2_add 124 = .ok (.aload_n 0, 1) := by decide +kernel
theorem dX2_add_125 : decode cX2_add 125 = .ok (.getfield 22, 3) := by decide +kernel
theorem dX2_add_128 : decode cX2_add 128 = .ok (.ireturn, 1) := by decide +kernel
theorem dX2_between_0 : decode cX2_between 0 = .ok (.lload_n 0, 1) := by decide +kernel
theorem dX2_between_1 : decode cX2_between 1 = .ok (.lload_n 2, 1) := by decide +kernel
theorem dX2_between_2 : decode cX2_between 2 = .ok (.ladd, 1) := by decide +kernel
theorem dX2_between_3 : decode cX2_between 3 = .ok (.lload 4, 2) := by decide +kernel
theorem dX2_between_5 : decode cX2_between 5 = .ok (.lmul, 1) := by decide +kernel
theorem dX2_between_6 : decode cX2_between 6 = .ok (.ldc2_w 30, 3) := by decide +kernel
theorem dX2_between_9 : decode cX2_between 9 = .ok (.lmul, 1) := by decide +kernel
theorem dX2_between_10 : decode cX2_between 10 = .ok (.lreturn, 1) := by decide +kernel
theorem dX2_reaches_0 : decode cX2_reaches 0 = .ok (.aload_n 0, 1) := by decide +kernel
theorem dX2_reaches_1 : decode cX2_reaches 1 = .ok (.getfield 22, 3) := by decide +kernel
theorem dX2_reaches_4 : decode cX2_reaches 4 = .ok (.ifCond .le 32, 3) := by decide +kernel
theorem dX2_reaches_7 : decode cX2_reaches 7 = .ok (.aload_n 0, 1) := by decide +kernel
theorem dX2_reaches_8 : decode cX2_reaches 8 = .ok (.getfield 9, 3) := by decide +kernel
theorem dX2_reaches_11 : decode cX2_reaches 11 = .ok (.iconst 0, 1) := by decide +kernel
theorem dX2_reaches_12 : decode cX2_reaches 12 = .ok (.iaload, 1) := by decide +kernel
theorem dX2_reaches_13 : decode cX2_reaches 13 = .ok (.iload_n 1, 1) := by decide +kernel
theorem dX2_reaches_14 : decode cX2_reaches 14 = .ok (.if_icmp .gt 22, 3) := by decide +kernel
theorem dX2_reaches_17 : decode cX2_reaches 17 = .ok (.iload_n 1, 1) := by decide +kernel
theorem dX2_reaches_18 : decode cX2_reaches 18 = .ok (.aload_n 0, 1) := by decide +kernel
theorem dX2_reaches_19 : decode cX2_reaches 19 = .ok (.getfield 9, 3) := by decide +kernel
theorem dX2_reaches_22 : decode cX2_reaches 22 = .ok (.aload_n 0, 1) := by decide +kernel
theorem dX2_reaches_23 : decode cX2_reaches 23 = .ok (.getfield 22, 3) := by decide +kernel
theorem dX2_reaches_26 : decode cX2_reaches 26 = .ok (.iconst 1, 1) := by decide +kernel
theorem dX2_reaches_27 : decode cX2_reaches 27 = .ok (.isub, 1) := by decide +kernel
theorem dX2_reaches_28 : decode cX2_reaches 28 = .ok (.iaload, 1) := by decide +kernel
theorem dX2_reaches_29 : decode cX2_reaches 29 = .ok (.if_icmp .gt 7, 3) := by decide +kernel
theorem dX2_reaches_32 : decode cX2_reaches 32 = .ok (.iconst 1, 1) := by decide +kernel
theorem dX2_reaches_33 : decode cX2_reaches 33 = .ok (.goto 4, 3) := by decide +kernel
theorem dX2_reaches_36 : decode cX2_reaches 36 = .ok (.iconst 0, 1) := by decide +kernel
theorem dX2_reaches_37 : decode cX2_reaches 37 = .ok (.ireturn, 1) := by decide +kernel
theorem dX2_areaAt_0 : decode cX2_areaAt 0 = .ok (.aload_n 0, 1) := by decide +kernel
theorem dX2_areaAt_1 : decode cX2_areaAt 1 = .ok (.iload_n 1, 1) := by decide +kernel
theorem dX2_areaAt_2 : decode cX2_areaAt 2 = .ok (.invokevirtual 32, 3) := by decide +kernel
theorem dX2_areaAt_5 : decode cX2_areaAt 5 = .ok (.istore_n 2, 1) := by decide +kernel
theorem dX2_areaAt_6 : decode cX2_areaAt 6 = .ok (.iload_n 2, 1) := by decide +kernel
theorem dX2_areaAt_7 : decode cX2_areaAt 7 = .ok (.iconst 1, 1) := by decide +kernel
theorem dX2_areaAt_8 : decode cX2_areaAt 8 = .ok (.iadd, 1) := by decide +kernel
theorem dX2_areaAt_9 : decode cX2_areaAt 9 = .ok (.istore_n 3, 1) := by decide +kernel
theorem dX2_areaAt_10 : decode cX2_areaAt 10 = .ok (.iload_n 3, 1) := by decide +kernel
theorem dX2_areaAt_11 : decode cX2_areaAt 11 = .ok (.aload_n 0, 1) := by decide +kernel
theorem dX2_areaAt_12 : decode cX2_areaAt 12 = .ok (.getfield 22, 3) := by decide +kernel
theorem dX2_areaAt_15 : decode cX2_areaAt 15 = .ok (.if_icmp .lt 10, 3) := by decide +kernel
theorem dX2_areaAt_18 : decode cX2_areaAt 18 = .ok (.aload_n 0, 1) := by decide +kernel
theorem dX2_areaAt_19 : decode cX2_areaAt 19 = .ok (.getfield 15, 3) := by decide +kernel
theorem dX2_areaAt_22 : decode cX2_areaAt 22 = .ok (.iload_n 2, 1) := by decide +kernel
theorem dX2_areaAt_23 : decode cX2_areaAt 23 = .ok (.iaload, 1) := by decide +kernel
theorem dX2_areaAt_24 : decode cX2_areaAt 24 = .ok (.ireturn, 1) := by decide +kernel
theorem dX2_areaAt_25 : decode cX2_areaAt 25 = .ok (.aload_n 0, 1) := by decide +kernel
theorem dX2_areaAt_26 : decode cX2_areaAt 26 = .ok (.getfield 9, 3) := by decide +kernel
theorem dX2_areaAt_29 : decode cX2_areaAt 29 = .ok (.iload_n 3, 1) := by decide +kernel
theorem dX2_areaAt_30 : decode cX2_areaAt 30 = .ok (.iaload, 1) := by decide +kernel
theorem dX2_areaAt_31 : decode cX2_areaAt 31 = .ok (.i2l, 1) := by decide +kernel
theorem dX2_areaAt_32 : decode cX2_areaAt 32 = .ok (.aload_n 0, 1) := by decide +kernel
theorem dX2_areaAt_33 : decode cX2_areaAt 33 = .ok (.getfield 9, 3) := by decide +kernel
theorem dX2_areaAt_36 : decode cX2_areaAt 36 = .ok (.iload_n 2, 1) := by decide +kernel
theorem dX2_areaAt_37 : decode cX2_areaAt 37 = .ok (.iaload, 1) := by decide +kernel
theorem dX2_areaAt_38 : decode cX2_areaAt 38 = .ok (.i2l, 1) := by decide +kernel
theorem dX2_areaAt_39 : decode cX2_areaAt 39 = .ok (.lsub, 1) := by decide +kernel
theorem dX2_areaAt_40 : decode cX2_areaAt 40 = .ok (.lstore 4, 2) := by decide +kernel
theorem dX2_areaAt_42 : decode cX2_areaAt 42 = .ok (.lload 4, 2) := by decide +kernel
theorem dX2_areaAt_44 : decode cX2_areaAt 44 = .ok (.lconst 0, 1) := by decide +kernel
theorem dX2_areaAt_45 : decode cX2_areaAt 45 = .ok (.lcmp, 1) := by decide +kernel
theorem dX2_areaAt_46 : decode cX2_areaAt 46 = .ok (.ifCond .gt 10, 3) := by decide +kernel
theorem dX2_areaAt_49 : decode cX2_areaAt 49 = .ok (.aload_n 0, 1) := by decide +kernel
theorem dX2_areaAt_50 : decode cX2_areaAt 50 = .ok (.getfield 15, 3) := by decide +kernel
theorem dX2_areaAt_53 : decode cX2_areaAt 53 = .ok (.iload_n 2, 1) := by decide +kernel
theorem dX2_areaAt_54 : decode cX2_areaAt 54 = .ok (.iaload, 1) := by decide +kernel
theorem dX2_areaAt_55 : decode cX2_areaAt 55 = .ok (.ireturn, 1) := by decide +kernel
theorem dX2_areaAt_56 : decode cX2_areaAt 56 = .ok (.aload_n 0, 1) := by decide +kernel
theorem dX2_areaAt_57 : decode cX2_areaAt 57 = .ok (.getfield 15, 3) := by decide +kernel
theorem dX2_areaAt_60 : decode cX2_areaAt 60 = .ok (.iload_n 3, 1) := by decide +kernel
theorem dX2_areaAt_61 : decode cX2_areaAt 61 = .ok (.iaload, 1) := by decide +kernel
theorem dX2_areaAt_62 : decode cX2_areaAt 62 = .ok (.i2l, 1) := by decide +kernel
theorem dX2_areaAt_63 : decode cX2_areaAt 63 = .ok (.aload_n 0, 1) := by decide +kernel
theorem dX2_areaAt_64 : decode cX2_areaAt 64 = .ok (.getfield 15, 3) := by decide +kernel
theorem dX2_areaAt_67 : decode cX2_areaAt 67 = .ok (.iload_n 2, 1) := by decide +kernel
theorem dX2_areaAt_68 : decode cX2_areaAt 68 = .ok (.iaload, 1) := by decide +kernel
theorem dX2_areaAt_69 : decode cX2_areaAt 69 = .ok (.i2l, 1) := by decide +kernel
theorem dX2_areaAt_70 : decode cX2_areaAt 70 = .ok (.lsub, 1) := by decide +kernel
theorem dX2_areaAt_71 : decode cX2_areaAt 71 = .ok (.lstore 6, 2) := by decide +kernel
theorem dX2_areaAt_73 : decode cX2_areaAt 73 = .ok (.aload_n 0, 1) := by decide +kernel
theorem dX2_areaAt_74 : decode cX2_areaAt 74 = .ok (.getfield 15, 3) := by decide +kernel
theorem dX2_areaAt_77 : decode cX2_areaAt 77 = .ok (.iload_n 2, 1) := by decide +kernel
theorem dX2_areaAt_78 : decode cX2_areaAt 78 = .ok (.iaload, 1) := by decide +kernel
theorem dX2_areaAt_79 : decode cX2_areaAt 79 = .ok (.lload 6, 2) := by decide +kernel
theorem dX2_areaAt_81 : decode cX2_areaAt 81 = .ok (.iload_n 1, 1) := by decide +kernel
theorem dX2_areaAt_82 : decode cX2_areaAt 82 = .ok (.aload_n 0, 1) := by decide +kernel
theorem dX2_areaAt_83 : decode cX2_areaAt 83 = .ok (.getfield 9, 3) := by decide +kernel
theorem dX2_areaAt_86 : decode cX2_areaAt 86 = .ok (.iload_n 2, 1) := by decide +kernel
theorem dX2_areaAt_87 : decode cX2_areaAt 87 = .ok (.iaload, 1) := by decide +kernel
theorem dX2_areaAt_88 : decode cX2_areaAt 88 = .ok (.isub, 1) := by decide +kernel
theorem dX2_areaAt_89 : decode cX2_areaAt 89 = .ok (.i2l, 1) := by decide +kernel
theorem dX2_areaAt_90 : decode cX2_areaAt 90 = .ok (.lmul, 1) := by decide +kernel
theorem dX2_areaAt_91 : decode cX2_areaAt 91 = .ok (.lload 4, 2) := by decide +kernel
theorem dX2_areaAt_93 : decode cX2_areaAt 93 = .ok (.ldiv, 1) := by decide +kernel
theorem dX2_areaAt_94 : decode cX2_areaAt 94 = .ok (.l2i, 1) := by decide +kernel
theorem dX2_areaAt_95 : decode cX2_areaAt 95 = .ok (.iadd, 1) := by decide +kernel
theorem dX2_areaAt_96 : decode cX2_areaAt 96 = .ok (.ireturn, 1) := by decide +kernel
theorem dX2_contentAt_0 : decode cX2_contentAt 0 = .ok (.aload_n 0, 1) := by decide +kernel
theorem dX2_contentAt_1 : decode cX2_contentAt 1 = .ok (.iload_n 1, 1) := by decide +kernel
theorem dX2_contentAt_2 : decode cX2_contentAt 2 = .ok (.invokevirtual 32, 3) := by decide +kernel
theorem dX2_contentAt_5 : decode cX2_contentAt 5 = .ok (.istore_n 2, 1) := by decide +kernel
theorem dX2_contentAt_6 : decode cX2_contentAt 6 = .ok (.aload_n 0, 1) := by decide +kernel
theorem dX2_contentAt_7 : decode cX2_contentAt 7 = .ok (.getfield 18, 3) := by decide +kernel
theorem dX2_contentAt_10 : decode cX2_contentAt 10 = .ok (.iload_n 2, 1) := by decide +kernel
theorem dX2_contentAt_11 : decode cX2_contentAt 11 = .ok (.laload, 1) := by decide +kernel
theorem dX2_contentAt_12 : decode cX2_contentAt 12 = .ok (.aload_n 0, 1) := by decide +kernel
theorem dX2_contentAt_13 : decode cX2_contentAt 13 = .ok (.getfield 15, 3) := by decide +kernel
theorem dX2_contentAt_16 : decode cX2_contentAt 16 = .ok (.iload_n 2, 1) := by decide +kernel
theorem dX2_contentAt_17 : decode cX2_contentAt 17 = .ok (.iaload, 1) := by decide +kernel
theorem dX2_contentAt_18 : decode cX2_contentAt 18 = .ok (.i2l, 1) := by decide +kernel
theorem dX2_contentAt_19 : decode cX2_contentAt 19 = .ok (.aload_n 0, 1) := by decide +kernel
theorem dX2_contentAt_20 : decode cX2_contentAt 20 = .ok (.iload_n 1, 1) := by decide +kernel
theorem dX2_contentAt_21 : decode cX2_contentAt 21 = .ok (.invokevirtual 36, 3) := by decide +kernel
theorem dX2_contentAt_24 : decode cX2_contentAt 24 = .ok (.i2l, 1) := by decide +kernel
theorem dX2_contentAt_25 : decode cX2_contentAt 25 = .ok (.iload_n 1, 1) := by decide +kernel
theorem dX2_contentAt_26 : decode cX2_contentAt 26 = .ok (.aload_n 0, 1) := by decide +kernel
theorem dX2_contentAt_27 : decode cX2_contentAt 27 = .ok (.getfield 9, 3) := by decide +kernel
theorem dX2_contentAt_30 : decode cX2_contentAt 30 = .ok (.iload_n 2, 1) := by decide +kernel
theorem dX2_contentAt_31 : decode cX2_contentAt 31 = .ok (.iaload, 1) := by decide +kernel
theorem dX2_contentAt_32 : decode cX2_contentAt 32 = .ok (.isub, 1) := by decide +kernel
theorem dX2_contentAt_33 : decode cX2_contentAt 33 = .ok (.i2l, 1) := by decide +kernel
theorem dX2_contentAt_34 : decode cX2_contentAt 34 = .ok (.invokestatic 26, 3) := by decide +kernel
theorem dX2_contentAt_37 : decode cX2_contentAt 37 = .ok (.ladd, 1) := by decide +kernel
theorem dX2_contentAt_38 : decode cX2_contentAt 38 = .ok (.lreturn, 1) := by decide +kernel
theorem dX2_lastUpTo_0 : decode cX2_lastUpTo 0 = .ok (.iconst 0, 1) := by decide +kernel
theorem dX2_lastUpTo_1 : decode cX2_lastUpTo 1 = .ok (.istore_n 2, 1) := by decide +kernel
theorem dX2_lastUpTo_2 : decode cX2_lastUpTo 2 = .ok (.iconst 1, 1) := by decide +kernel
theorem dX2_lastUpTo_3 : decode cX2_lastUpTo 3 = .ok (.istore_n 3, 1) := by decide +kernel
theorem dX2_lastUpTo_4 : decode cX2_lastUpTo 4 = .ok (.iload_n 3, 1) := by decide +kernel
theorem dX2_lastUpTo_5 : decode cX2_lastUpTo 5 = .ok (.aload_n 0, 1) := by decide +kernel
theorem dX2_lastUpTo_6 : decode cX2_lastUpTo 6 = .ok (.getfield 22, 3) := by decide +kernel
theorem dX2_lastUpTo_9 : decode cX2_lastUpTo 9 = .ok (.if_icmp .ge 21, 3) := by decide +kernel
theorem dX2_lastUpTo_12 : decode cX2_lastUpTo 12 = .ok (.aload_n 0, 1) := by decide +kernel
theorem dX2_lastUpTo_13 : decode cX2_lastUpTo 13 = .ok (.getfield 9, 3) := by decide +kernel
theorem dX2_lastUpTo_16 : decode cX2_lastUpTo 16 = .ok (.iload_n 3, 1) := by decide +kernel
theorem dX2_lastUpTo_17 : decode cX2_lastUpTo 17 = .ok (.iaload, 1) := by decide +kernel
theorem dX2_lastUpTo_18 : decode cX2_lastUpTo 18 = .ok (.iload_n 1, 1) := by decide +kernel
theorem dX2_lastUpTo_19 : decode cX2_lastUpTo 19 = .ok (.if_icmp .gt 5, 3) := by decide +kernel
theorem dX2_lastUpTo_22 : decode cX2_lastUpTo 22 = .ok (.iload_n 3, 1) := by decide +kernel
theorem dX2_lastUpTo_23 : decode cX2_lastUpTo 23 = .ok (.istore_n 2, 1) := by decide +kernel
theorem dX2_lastUpTo_24 : decode cX2_lastUpTo 24 = .ok (.iinc 3 1, 3) := by decide +kernel
theorem dX2_lastUpTo_27 : decode cX2_lastUpTo 27 = .ok (.goto (-23), 3) := by decide +kernel
theorem dX2_lastUpTo_30 : decode cX2_lastUpTo 30 = .ok (.iload_n 2, 1) := by decide +kernel
theorem dX2_lastUpTo_31 : decode cX2_lastUpTo 31 = .ok (.ireturn, 1) := by decide +kernel
theorem dX2_levelOf_0 : decode cX2_levelOf 0 = .ok (.aload_n 0, 1) := by decide +kernel
theorem dX2_levelOf_1 : decode cX2_levelOf 1 = .ok (.getfield 22, 3) := by decide +kernel
theorem dX2_levelOf_4 : decode cX2_levelOf 4 = .ok (.ifCond .eq 22, 3) := by decide +kernel
theorem dX2_levelOf_7 : decode cX2_levelOf 7 = .ok (.lload_n 1, 1) := by decide +kernel
theorem dX2_levelOf_8 : decode cX2_levelOf 8 = .ok (.lconst 0, 1) := by decide +kernel
theorem dX2_levelOf_9 : decode cX2_levelOf 9 = .ok (.aload_n 0, 1) := by decide +kernel
theorem dX2_levelOf_10 : decode cX2_levelOf 10 = .ok (.getfield 18, 3) := by decide +kernel
theorem dX2_levelOf_13 : decode cX2_levelOf 13 = .ok (.aload_n 0, 1) := by decide +kernel
theorem dX2_levelOf_14 : decode cX2_levelOf 14 = .ok (.getfield 22, 3) := by decide +kernel
theorem dX2_levelOf_17 : decode cX2_levelOf 17 = .ok (.iconst 1, 1) := by decide +kernel
theorem dX2_levelOf_18 : decode cX2_levelOf 18 = .ok (.isub, 1) := by decide +kernel
theorem dX2_levelOf_19 : decode cX2_levelOf 19 = .ok (.laload, 1) := by decide +kernel
theorem dX2_levelOf_20 : decode cX2_levelOf 20 = .ok (.invokestatic 39, 3) := by decide +kernel
theorem dX2_levelOf_23 : decode cX2_levelOf 23 = .ok (.ifCond .ne 6, 3) := by decide +kernel
theorem dX2_levelOf_26 : decode cX2_levelOf 26 = .ok (.ldc 43, 2) := by decide +kernel
theorem dX2_levelOf_28 : decode cX2_levelOf 28 = .ok (.ireturn, 1) := by decide +kernel
theorem dX2_levelOf_29 : decode cX2_levelOf 29 = .ok (.aload_n 0, 1) := by decide +kernel
theorem dX2_levelOf_30 : decode cX2_levelOf 30 = .ok (.getfield 9, 3) := by decide +kernel
theorem dX2_levelOf_33 : decode cX2_levelOf 33 = .ok (.iconst 0, 1) := by decide +kernel
theorem dX2_levelOf_34 : decode cX2_levelOf 34 = .ok (.iaload, 1) := by decide +kernel
theorem dX2_levelOf_35 : decode cX2_levelOf 35 = .ok (.istore_n 3, 1) := by decide +kernel
theorem dX2_levelOf_36 : decode cX2_levelOf 36 = .ok (.aload_n 0, 1) := by decide +kernel
theorem dX2_levelOf_37 : decode cX2_levelOf 37 = .ok (.getfield 9, 3) := by decide +kernel
theorem dX2_levelOf_40 : decode cX2_levelOf 40 = .ok (.aload_n 0, 1) := by decide +kernel
theorem dX2_levelOf_41 : decode cX2_levelOf 41 = .ok (.getfield 22, 3) := by decide +kernel
theorem dX2_levelOf_44 : decode cX2_levelOf 44 = .ok (.iconst 1, 1) := by decide +kernel
theorem dX2_levelOf_45 : decode cX2_levelOf 45 = .ok (.isub, 1) := by decide +kernel
theorem dX2_levelOf_46 : decode cX2_levelOf 46 = .ok (.iaload, 1) := by decide +kernel
theorem dX2_levelOf_47 : decode cX2_levelOf 47 = .ok (.istore 4, 2) := by decide +kernel
theorem dX2_levelOf_49 : decode cX2_levelOf 49 = .ok (.iconst 0, 1) := by decide +kernel
theorem dX2_levelOf_50 : decode cX2_levelOf 50 = .ok (.istore 5, 2) := by decide +kernel
theorem dX2_levelOf_52 : decode cX2_levelOf 52 = .ok (.iload 5, 2) := by decide +kernel
theorem dX2_levelOf_54 : decode cX2_levelOf 54 = .ok (.bipush 20, 2) := by decide +kernel
theorem dX2_levelOf_56 : decode cX2_levelOf 56 = .ok (.if_icmp .ge 50, 3) := by decide +kernel
theorem dX2_levelOf_59 : decode cX2_levelOf 59 = .ok (.iload_n 3, 1) := by decide +kernel
theorem dX2_levelOf_60 : decode cX2_levelOf 60 = .ok (.iload 4, 2) := by decide +kernel
theorem dX2_levelOf_62 : decode cX2_levelOf 62 = .ok (.if_icmp .ge 44, 3) := by decide +kernel
theorem dX2_levelOf_65 : decode cX2_levelOf 65 = .ok (.iload_n 3, 1) := by decide +kernel
theorem dX2_levelOf_66 : decode cX2_levelOf 66 = .ok (.iload 4, 2) := by decide +kernel
theorem dX2_levelOf_68 : decode cX2_levelOf 68 = .ok (.iload_n 3, 1) := by decide +kernel
theorem dX2_levelOf_69 : decode cX2_levelOf 69 = .ok (.isub, 1) := by decide +kernel
theorem dX2_levelOf_70 : decode cX2_levelOf 70 = .ok (.iconst 1, 1) := by decide +kernel
theorem dX2_levelOf_71 : decode cX2_levelOf 71 = .ok (.iadd, 1) := by decide +kernel
theorem dX2_levelOf_72 : decode cX2_levelOf 72 = .ok (.iconst 2, 1) := by decide +kernel
theorem dX2_levelOf_73 : decode cX2_levelOf 73 = .ok (.idiv, 1) := by decide +kernel
theorem dX2_levelOf_74 : decode cX2_levelOf 74 = .ok (.iadd, 1) := by decide +kernel
theorem dX2_levelOf_75 : decode cX2_levelOf 75 = .ok (.istore 6, 2) := by decide +kernel
theorem dX2_levelOf_77 : decode cX2_levelOf 77 = .ok (.aload_n 0, 1) := by decide +kernel
theorem dX2_levelOf_78 : decode cX2_levelOf 78 = .ok (.iload 6, 2) := by decide +kernel
theorem dX2_levelOf_80 : decode cX2_levelOf 80 = .ok (.invokevirtual 44, 3) := by decide +kernel
theorem dX2_levelOf_83 : decode cX2_levelOf 83 = .ok (.lload_n 1, 1) := by decide +kernel
theorem dX2_levelOf_84 : decode cX2_levelOf 84 = .ok (.lcmp, 1) := by decide +kernel
theorem dX2_levelOf_85 : decode cX2_levelOf 85 = .ok (.ifCond .gt 9, 3) := by decide +kernel
theorem dX2_levelOf_88 : decode cX2_levelOf 88 = .ok (.iload 6, 2) := by decide +kernel
theorem dX2_levelOf_90 : decode cX2_levelOf 90 = .ok (.istore_n 3, 1) := by decide +kernel
theorem dX2_levelOf_91 : decode cX2_levelOf 91 = .ok (.goto 9, 3) := by decide +kernel
theorem dX2_levelOf_94 : decode cX2_levelOf 94 = .ok (.iload 6, 2) := by decide +kernel
theorem dX2_levelOf_96 : decode cX2_levelOf 96 = .ok (.iconst 1, 1) := by decide +kernel
theorem dX2_levelOf_97 : decode cX2_levelOf 97 = .ok (.isub, 1) := by decide +kernel
theorem dX2_levelOf_98 : decode cX2_levelOf 98 = .ok (.istore 4, 2) := by decide +kernel
theorem dX2_levelOf_100 : decode cX2_levelOf 100 = .ok (.iinc 5 1, 3) := by decide +kernel
theorem dX2_levelOf_103 : decode cX2_levelOf 103 = .ok (.goto (-51), 3) := by decide +kernel
theorem dX2_levelOf_106 : decode cX2_levelOf 106 = .ok (.iload_n 3, 1) := by decide +kernel
theorem dX2_levelOf_107 : decode cX2_levelOf 107 = .ok (.ireturn, 1) := by decide +kernel
theorem dX3_init_0 : decode cX3_init 0 = .ok (.aload_n 0, 1) := by decide +kernel
theorem dX3_init_1 : decode cX3_init 1 = .ok (.invokespecial 3, 3) := by decide +kernel
theorem dX3_init_4 : decode cX3_init 4 = .ok (.aload_n 0, 1) := by decide +kernel
theorem dX3_init_5 : decode cX3_init 5 = .ok (.bipush 40, 2) := by decide +kernel
theorem dX3_init_7 : decode cX3_init 7 = .ok (.newarray .int, 2) := by decide +kernel
theorem dX3_init_9 : decode cX3_init 9 = .ok (.putfield 9, 3) := by decide +kernel
theorem dX3_init_12 : decode cX3_init 12 = .ok (.aload_n 0, 1) := by decide +kernel
theorem dX3_init_13 : decode cX3_init 13 = .ok (.bipush 40, 2) := by decide +kernel
theorem dX3_init_15 : decode cX3_init 15 = .ok (.newarray .int, 2) := by decide +kernel
theorem dX3_init_17 : decode cX3_init 17 = .ok (.putfield 15, 3) := by decide +kernel
theorem dX3_init_20 : decode cX3_init 20 = .ok (.aload_n 0, 1) := by decide +kernel
theorem dX3_init_21 : decode cX3_init 21 = .ok (.bipush 40, 2) := by decide +kernel
theorem dX3_init_23 : decode cX3_init 23 = .ok (.newarray .int, 2) := by decide +kernel
theorem dX3_init_25 : decode cX3_init 25 = .ok (.putfield 18, 3) := by decide +kernel
theorem dX3_init_28 : decode cX3_init 28 = .ok (.aload_n 0, 1) := by decide +kernel
theorem dX3_init_29 : decode cX3_init 29 = .ok (.iconst 0, 1) := by decide +kernel
theorem dX3_init_30 : decode cX3_init 30 = .ok (.putfield 21, 3) := by decide +kernel
theorem dX3_init_33 : decode cX3_init 33 = .ok (.return_, 1) := by decide +kernel
theorem dX3_size_0 : decode cX3_size 0 = .ok (.aload_n 0, 1) := by decide +kernel
theorem dX3_size_1 : decode cX3_size 1 = .ok (.getfield 21, 3) := by decide +kernel
theorem dX3_size_4 : decode cX3_size 4 = .ok (.ireturn, 1) := by decide +kernel
theorem dX3_minutesOf_0 : decode cX3_minutesOf 0 = .ok (.iload_n 1, 1) := by decide +kernel
theorem dX3_minutesOf_1 : decode cX3_minutesOf 1 = .ok (.i2l, 1) := by decide +kernel
theorem dX3_minutesOf_2 : decode cX3_minutesOf 2 = .ok (.lconst 0, 1) := by decide +kernel
theorem dX3_minutesOf_3 : decode cX3_minutesOf 3 = .ok (.aload_n 0, 1) := by decide +kernel
theorem dX3_minutesOf_4 : decode cX3_minutesOf 4 = .ok (.getfield 21, 3) := by decide +kernel
theorem dX3_minutesOf_7 : decode cX3_minutesOf 7 = .ok (.iconst 1, 1) := by decide +kernel
theorem dX3_minutesOf_8 : decode cX3_minutesOf 8 = .ok (.isub, 1) := by decide +kernel
theorem dX3_minutesOf_9 : decode cX3_minutesOf 9 = .ok (.i2l, 1) := by decide +kernel
theorem dX3_minutesOf_10 : decode cX3_minutesOf 10 = .ok (.invokestatic 25, 3) := by decide +kernel
theorem dX3_minutesOf_13 : decode cX3_minutesOf 13 = .ok (.ifCond .eq 12, 3) := by decide +kernel
theorem dX3_minutesOf_16 : decode cX3_minutesOf 16 = .ok (.aload_n 0, 1) := by decide +kernel
theorem dX3_minutesOf_17 : decode cX3_minutesOf 17 = .ok (.getfield 15, 3) := by decide +kernel
theorem dX3_minutesOf_20 : decode cX3_minutesOf 20 = .ok (.iload_n 1, 1) := by decide +kernel
theorem dX3_minutesOf_21 : decode cX3_minutesOf 21 = .ok (.iaload, 1) := by decide +kernel
theorem dX3_minutesOf_22 : decode cX3_minutesOf 22 = .ok (.goto 4, 3) := by decide +kernel
theorem dX3_minutesOf_25 : decode cX3_minutesOf 25 = .ok (.iconst (-1), 1) := by decide +kernel
theorem dX3_minutesOf_26 : decode cX3_minutesOf 26 = .ok (.ireturn, 1) := by decide +kernel
theorem dX3_add_0 : decode cX3_add 0 = .ok (.aload_n 0, 1) := by decide +kernel
theorem dX3_add_1 : decode cX3_add 1 = .ok (.getfield 21, 3) := by decide +kernel
theorem dX3_add_4 : decode cX3_add 4 = .ok (.bipush 40, 2) := by decide +kernel
theorem dX3_add_6 : decode cX3_add 6 = .ok (.if_icmp .lt 5, 3) := by decide +kernel
theorem dX3_add_9 : decode cX3_add 9 = .ok (.iconst (-1), 1) := by decide +kernel
theorem dX3_add_10 : decode cX3_add 10 = .ok (.ireturn, 1) := by decide +kernel
theorem dX3_add_11 : decode cX3_add 11 = .ok (.iconst 0, 1) := by decide +kernel
theorem dX3_add_12 : decode cX3_add 12 = .ok (.istore 4, 2) := by decide +kernel
theorem dX3_add_14 : decode cX3_add 14 = .ok (.iconst (-1), 1) := by decide +kernel
theorem dX3_add_15 : decode cX3_add 15 = .ok (.istore 5, 2) := by decide +kernel
theorem dX3_add_17 : decode cX3_add 17 = .ok (.iconst 0, 1) := by decide +kernel
theorem dX3_add_18 : decode cX3_add 18 = .ok (.istore 6, 2) := by decide +kernel
theorem dX3_add_20 : decode cX3_add 20 = .ok (.iload 6, 2) := by decide +kernel
theorem dX3_add_22 : decode cX3_add 22 = .ok (.aload_n 0, 1) := by decide +kernel
theorem dX3_add_23 : decode cX3_add 23 = .ok (.getfield 21, 3) := by decide +kernel
theorem dX3_add_26 : decode cX3_add 26 = .ok (.if_icmp .ge 27, 3) := by decide +kernel
theorem dX3_add_29 : decode cX3_add 29 = .ok (.aload_n 0, 1) := by decide +kernel
theorem dX3_add_30 : decode cX3_add 30 = .ok (.getfield 9, 3) := by decide +kernel
theorem dX3_add_33 : decode cX3_add 33 = .ok (.iload 6, 2) := by decide +kernel
theorem dX3_add_35 : decode cX3_add 35 = .ok (.iaload, 1) := by decide +kernel
theorem dX3_add_36 : decode cX3_add 36 = .ok (.iload_n 1, 1) := by decide +kernel
theorem dX3_add_37 : decode cX3_add 37 = .ok (.if_icmp .ne 10, 3) := by decide +kernel
theorem dX3_add_40 : decode cX3_add 40 = .ok (.iinc 4 1, 3) := by decide +kernel
theorem dX3_add_43 : decode cX3_add 43 = .ok (.iload 6, 2) := by decide +kernel
theorem dX3_add_45 : decode cX3_add 45 = .ok (.istore 5, 2) := by decide +kernel
theorem dX3_add_47 : decode cX3_add 47 = .ok (.iinc 6 1, 3) := by decide +kernel
theorem dX3_add_50 : decode cX3_add 50 = .ok (.goto (-30), 3) := by decide +kernel
theorem dX3_add_53 : decode cX3_add 53 = .ok (.iload 5, 2) := by decide +kernel
theorem dX3_add_55 : decode cX3_add 55 = .ok (.iconst (-1), 1) := by decide +kernel
theorem dX3_add_56 : decode cX3_add 56 = .ok (.if_icmp .eq 16, 3) := by decide +kernel
theorem dX3_add_59 : decode cX3_add 59 = .ok (.aload_n 0, 1) := by decide +kernel
theorem dX3_add_60 : decode cX3_add 60 = .ok (.iload 5, 2) := by decide +kernel
theorem dX3_add_62 : decode cX3_add 62 = .ok (.iload_n 2, 1) := by decide +kernel
theorem dX3_add_63 : decode cX3_add 63 = .ok (.iload_n 3, 1) := by decide +kernel
theorem dX3_add_64 : decode cX3_add 64 = .ok (.invokevirtual 29, 3) := by decide +kernel
theorem dX3_add_67 : decode cX3_add 67 = .ok (.ifCond .ne 5, 3) := by decide +kernel
theorem dX3_add_70 : decode cX3_add 70 = .ok (.iconst (-1), 1) := by decide +kernel
theorem dX3_add_71 : decode cX3_add 71 = .ok (.ireturn, 1) := by decide +kernel
theorem dX3_add_72 : decode cX3_add 72 = .ok (.aload_n 0, 1) := by decide +kernel
theorem dX3_add_73 : decode cX3_add 73 = .ok (.getfield 9, 3) := by decide +kernel
theorem dX3_add_76 : decode cX3_add 76 = .ok (.aload_n 0, 1) := by decide +kernel
theorem dX3_add_77 : decode cX3_add 77 = .ok (.getfield 21, 3) := by decide +kernel
theorem dX3_add_80 : decode cX3_add 80 = .ok (.iload_n 1, 1) := by decide +kernel
theorem dX3_add_81 : decode cX3_add 81 = .ok (.iastore, 1) := by decide +kernel
theorem dX3_add_82 : decode cX3_add 82 = .ok (.aload_n 0, 1) := by decide +kernel
theorem dX3_add_83 : decode cX3_add 83 = .ok (.getfield 15, 3) := by decide +kernel
theorem dX3_add_86 : decode cX3_add 86 = .ok (.aload_n 0, 1) := by decide +kernel
theorem dX3_add_87 : decode cX3_add 87 = .ok (.getfield 21, 3) := by decide +kernel
theorem dX3_add_90 : decode cX3_add 90 = .ok (.iload_n 2, 1) := by decide +kernel
theorem dX3_add_91 : decode cX3_add 91 = .ok (.iastore, 1) := by decide +kernel
theorem dX3_add_92 : decode cX3_add 92 = .ok (.aload_n 0, 1) := by decide +kernel
theorem dX3_add_93 : decode cX3_add 93 = .ok (.getfield 18, 3) := by decide +kernel
theorem dX3_add_96 : decode cX3_add 96 = .ok (.aload_n 0, 1) := by decide +kernel
theorem dX3_add_97 : decode cX3_add 97 = .ok (.getfield 21, 3) := by decide +kernel
theorem dX3_add_100 : decode cX3_add 100 = .ok (.iload_n 3, 1) := by decide +kernel
theorem dX3_add_101 : decode cX3_add 101 = .ok (.iastore, 1) := by decide +kernel
theorem dX3_add_102 : decode cX3_add 102 = .ok (.aload_n 0, 1) := by decide +kernel
theorem dX3_add_103 : decode cX3_add 103 = .ok (.dup, 1) := by decide +kernel
theorem dX3_add_104 : decode cX3_add 104 = .ok (.getfield 21, 3) := by decide +kernel
theorem dX3_add_107 : decode cX3_add 107 = .ok (.iconst 1, 1) := by decide +kernel
theorem dX3_add_108 : decode cX3_add 108 = .ok (.iadd, 1) := by decide +kernel
theorem dX3_add_109 : decode cX3_add 109 = .ok (.putfield 21, 3) := by decide +kernel
theorem dX3_add_112 : decode cX3_add 112 = .ok (.iload 4, 2) := by decide +kernel
theorem dX3_add_114 : decode cX3_add 114 = .ok (.iconst 1, 1) := by decide +kernel
theorem dX3_add_115 : decode cX3_add 115 = .ok (.iadd, 1) := by decide +kernel
theorem dX3_add_116 : decode cX3_add 116 = .ok (.ireturn, 1) := by decide +kernel
theorem dX3_mayFollow_0 : decode cX3_mayFollow 0 = .ok (.iload_n 2, 1) := by decide +kernel
theorem dX3_mayFollow_1 : decode cX3_mayFollow 1 = .ok (.aload_n 0, 1) := by decide +kernel
theorem dX3_mayFollow_2 : decode cX3_mayFollow 2 = .ok (.getfield 15, 3) := by decide +kernel
theorem dX3_mayFollow_5 : decode cX3_mayFollow 5 = .ok (.iload_n 1, 1) := by decide +kernel
theorem dX3_mayFollow_6 : decode cX3_mayFollow 6 = .ok (.iaload, 1) := by decide +kernel
theorem dX3_mayFollow_7 : decode cX3_mayFollow 7 = .ok (.if_icmp .le 17, 3) := by decide +kernel
theorem dX3_mayFollow_10 : decode cX3_mayFollow 10 = .ok (.iload_n 3, 1) := by decide +kernel
theorem dX3_mayFollow_11 : decode cX3_mayFollow 11 = .ok (.aload_n 0, 1) := by decide +kernel
theorem dX3_mayFollow_12 : decode cX3_mayFollow 12 = .ok (.getfield 18, 3) := by decide +kernel
theorem dX3_mayFollow_15 : decode cX3_mayFollow 15 = .ok (.iload_n 1, 1) := by decide +kernel
theorem dX3_mayFollow_16 : decode cX3_mayFollow 16 = .ok (.iaload, 1) := by decide +kernel
theorem dX3_mayFollow_17 : decode cX3_mayFollow 17 = .ok (.if_icmp .le 7, 3) := by decide +kernel
theorem dX3_mayFollow_20 : decode cX3_mayFollow 20 = .ok (.iconst 1, 1) := by decide +kernel
theorem dX3_mayFollow_21 : decode cX3_mayFollow 21 = .ok (.goto 4, 3) := by decide +kernel
theorem dX3_mayFollow_24 : decode cX3_mayFollow 24 = .ok (.iconst 0, 1) := by decide +kernel
theorem dX3_mayFollow_25 : decode cX3_mayFollow 25 = .ok (.istore 4, 2) := by decide +kernel
theorem dX3_mayFollow_27 : decode cX3_mayFollow 27 = .ok (.iload_n 3, 1) := by decide +kernel
theorem dX3_mayFollow_28 : decode cX3_mayFollow 28 = .ok (.i2l, 1) := by decide +kernel
theorem dX3_mayFollow_29 : decode cX3_mayFollow 29 = .ok (.aload_n 0, 1) := by decide +kernel
theorem dX3_mayFollow_30 : decode cX3_mayFollow 30 = .ok (.getfield 15, 3) := by decide +kernel
theorem dX3_mayFollow_33 : decode cX3_mayFollow 33 = .ok (.iload_n 1, 1) := by decide +kernel
theorem dX3_mayFollow_34 : decode cX3_mayFollow 34 = .ok (.iaload, 1) := by decide +kernel
theorem dX3_mayFollow_35 : decode cX3_mayFollow 35 = .ok (.i2l, 1) := by decide +kernel
theorem dX3_mayFollow_36 : decode cX3_mayFollow 36 = .ok (.lmul, 1) := by decide +kernel
theorem dX3_mayFollow_37 : decode cX3_mayFollow 37 = .ok (.aload_n 0, 1) := by decide +kernel
theorem dX3_mayFollow_38 : decode cX3_mayFollow 38 = .ok (.getfield 18, 3) := by decide +kernel
theorem dX3_mayFollow_41 : decode cX3_mayFollow 41 = .ok (.iload_n 1, 1) := by decide +kernel
theorem dX3_mayFollow_42 : decode cX3_mayFollow 42 = .ok (.iaload, 1) := by decide +kernel
theorem dX3_mayFollow_43 : decode cX3_mayFollow 43 = .ok (.i2l, 1) := by decide +kernel
theorem dX3_mayFollow_44 : decode cX3_mayFollow 44 = .ok (.iload_n 2, 1) := by decide +kernel
theorem dX3_mayFollow_45 : decode cX3_mayFollow 45 = .ok (.i2l, 1) := by decide +kernel
theorem dX3_mayFollow_46 : decode cX3_mayFollow 46 = .ok (.lmul, 1) := by decide +kernel
theorem dX3_mayFollow_47 : decode cX3_mayFollow 47 = .ok (.lcmp, 1) := by decide +kernel
theorem dX3_mayFollow_48 : decode cX3_mayFollow 48 = .ok (.ifCond .le 7, 3) := by decide +kernel
theorem dX3_mayFollow_51 : decode cX3_mayFollow 51 = .ok (.iconst 1, 1) := by decide +kernel
theorem dX3_mayFollow_52 : decode cX3_mayFollow 52 = .ok (.goto 4, 3) := by decide +kernel
theorem dX3_mayFollow_55 : decode cX3_mayFollow 55 = .ok (.iconst 0, 1) := by decide +kernel
theorem dX3_mayFollow_56 : decode cX3_mayFollow 56 = .ok (.istore 5, 2) := by decide +kernel
theorem dX3_mayFollow_58 : decode cX3_mayFollow 58 = .ok (.iload 4, 2) := by decide +kernel
theorem dX3_mayFollow_60 : decode cX3_mayFollow 60 = .ok (.ifCond .eq 12, 3) := by decide +kernel
theorem dX3_mayFollow_63 : decode cX3_mayFollow 63 = .ok (.iload 5, 2) := by decide +kernel
theorem dX3_mayFollow_65 : decode cX3_mayFollow 65 = .ok (.ifCond .ne 7, 3) := by decide +kernel
theorem dX3_mayFollow_68 : decode cX3_mayFollow 68 = .ok (.iconst 1, 1) := by decide +kernel
theorem dX3_mayFollow_69 : decode cX3_mayFollow 69 = .ok (.goto 4, 3) := by decide +kernel
theorem dX3_mayFollow_72 : decode cX3_mayFollow 72 = .ok (.iconst 0, 1) := by decide +kernel
theorem dX3_mayFollow_73 : decode cX3_mayFollow 73 = .ok (.ireturn, 1) := by decide +kernel
theorem dX3_need_0 : decode cX3_need 0 = .ok (.aload_n 0, 1) := by decide +kernel
theorem dX3_need_1 : decode cX3_need 1 = .ok (.iload_n 1, 1) := by decide +kernel
theorem dX3_need_2 : decode cX3_need 2 = .ok (.iload_n 2, 1) := by decide +kernel
theorem dX3_need_3 : decode cX3_need 3 = .ok (.invokevirtual 33, 3) := by decide +kernel
theorem dX3_need_6 : decode cX3_need 6 = .ok (.iload_n 3, 1) := by decide +kernel
theorem dX3_need_7 : decode cX3_need 7 = .ok (.i2l, 1) := by decide +kernel
theorem dX3_need_8 : decode cX3_need 8 = .ok (.aload_n 0, 1) := by decide +kernel
theorem dX3_need_9 : decode cX3_need 9 = .ok (.iload_n 1, 1) := by decide +kernel
theorem dX3_need_10 : decode cX3_need 10 = .ok (.invokevirtual 37, 3) := by decide +kernel
theorem dX3_need_13 : decode cX3_need 13 = .ok (.lmul, 1) := by decide +kernel
theorem dX3_need_14 : decode cX3_need 14 = .ok (.lsub, 1) := by decide +kernel
theorem dX3_need_15 : decode cX3_need 15 = .ok (.lreturn, 1) := by decide +kernel
theorem dX3_comes_0 : decode cX3_comes 0 = .ok (.aload_n 0, 1) := by decide +kernel
theorem dX3_comes_1 : decode cX3_comes 1 = .ok (.getfield 18, 3) := by decide +kernel
theorem dX3_comes_4 : decode cX3_comes 4 = .ok (.iload_n 1, 1) := by decide +kernel
theorem dX3_comes_5 : decode cX3_comes 5 = .ok (.iaload, 1) := by decide +kernel
theorem dX3_comes_6 : decode cX3_comes 6 = .ok (.i2l, 1) := by decide +kernel
theorem dX3_comes_7 : decode cX3_comes 7 = .ok (.iload_n 2, 1) := by decide +kernel
theorem dX3_comes_8 : decode cX3_comes 8 = .ok (.i2l, 1) := by decide +kernel
theorem dX3_comes_9 : decode cX3_comes 9 = .ok (.lmul, 1) := by decide +kernel
theorem dX3_comes_10 : decode cX3_comes 10 = .ok (.ldc2_w 41, 3) := by decide +kernel
theorem dX3_comes_13 : decode cX3_comes 13 = .ok (.ldiv, 1) := by decide +kernel
theorem dX3_comes_14 : decode cX3_comes 14 = .ok (.lreturn, 1) := by decide +kernel
theorem dX3_secondsOf_0 : decode cX3_secondsOf 0 = .ok (.ldc2_w 43, 3) := by decide +kernel
theorem dX3_secondsOf_3 : decode cX3_secondsOf 3 = .ok (.aload_n 0, 1) := by decide +kernel
theorem dX3_secondsOf_4 : decode cX3_secondsOf 4 = .ok (.getfield 15, 3) := by decide +kernel
theorem dX3_secondsOf_7 : decode cX3_secondsOf 7 = .ok (.iload_n 1, 1) := by decide +kernel
theorem dX3_secondsOf_8 : decode cX3_secondsOf 8 = .ok (.iaload, 1) := by decide +kernel
theorem dX3_secondsOf_9 : decode cX3_secondsOf 9 = .ok (.i2l, 1) := by decide +kernel
theorem dX3_secondsOf_10 : decode cX3_secondsOf 10 = .ok (.lmul, 1) := by decide +kernel
theorem dX3_secondsOf_11 : decode cX3_secondsOf 11 = .ok (.lreturn, 1) := by decide +kernel
theorem dX3_neediest_0 : decode cX3_neediest 0 = .ok (.iconst (-1), 1) := by decide +kernel
theorem dX3_neediest_1 : decode cX3_neediest 1 = .ok (.istore 4, 2) := by decide +kernel
theorem dX3_neediest_3 : decode cX3_neediest 3 = .ok (.lconst 0, 1) := by decide +kernel
theorem dX3_neediest_4 : decode cX3_neediest 4 = .ok (.lstore 5, 2) := by decide +kernel
theorem dX3_neediest_6 : decode cX3_neediest 6 = .ok (.iconst 0, 1) := by decide +kernel
theorem dX3_neediest_7 : decode cX3_neediest 7 = .ok (.istore 7, 2) := by decide +kernel
theorem dX3_neediest_9 : decode cX3_neediest 9 = .ok (.iload 7, 2) := by decide +kernel
theorem dX3_neediest_11 : decode cX3_neediest 11 = .ok (.aload_n 0, 1) := by decide +kernel
theorem dX3_neediest_12 : decode cX3_neediest 12 = .ok (.getfield 21, 3) := by decide +kernel
theorem dX3_neediest_15 : decode cX3_neediest 15 = .ok (.if_icmp .ge 55, 3) := by decide +kernel
theorem dX3_neediest_18 : decode cX3_neediest 18 = .ok (.aload_n 0, 1) := by decide +kernel
theorem dX3_neediest_19 : decode cX3_neediest 19 = .ok (.getfield 9, 3) := by decide +kernel
theorem dX3_neediest_22 : decode cX3_neediest 22 = .ok (.iload 7, 2) := by decide +kernel
theorem dX3_neediest_24 : decode cX3_neediest 24 = .ok (.iaload, 1) := by decide +kernel
theorem dX3_neediest_25 : decode cX3_neediest 25 = .ok (.iload_n 1, 1) := by decide +kernel
theorem dX3_neediest_26 : decode cX3_neediest 26 = .ok (.if_icmp .eq 6, 3) := by decide +kernel
theorem dX3_neediest_29 : decode cX3_neediest 29 = .ok (.goto 35, 3) := by decide +kernel
theorem dX3_neediest_32 : decode cX3_neediest 32 = .ok (.aload_n 0, 1) := by decide +kernel
theorem dX3_neediest_33 : decode cX3_neediest 33 = .ok (.iload 7, 2) := by decide +kernel
theorem dX3_neediest_35 : decode cX3_neediest 35 = .ok (.iload_n 2, 1) := by decide +kernel
theorem dX3_neediest_36 : decode cX3_neediest 36 = .ok (.iload_n 3, 1) := by decide +kernel
theorem dX3_neediest_37 : decode cX3_neediest 37 = .ok (.invokevirtual 45, 3) := by decide +kernel
theorem dX3_neediest_40 : decode cX3_neediest 40 = .ok (.lstore 8, 2) := by decide +kernel
theorem dX3_neediest_42 : decode cX3_neediest 42 = .ok (.iload 4, 2) := by decide +kernel
theorem dX3_neediest_44 : decode cX3_neediest 44 = .ok (.iconst (-1), 1) := by decide +kernel
theorem dX3_neediest_45 : decode cX3_neediest 45 = .ok (.if_icmp .eq 11, 3) := by decide +kernel
theorem dX3_neediest_48 : decode cX3_neediest 48 = .ok (.lload 8, 2) := by decide +kernel
theorem dX3_neediest_50 : decode cX3_neediest 50 = .ok (.lload 5, 2) := by decide +kernel
theorem dX3_neediest_52 : decode cX3_neediest 52 = .ok (.lcmp, 1) := by decide +kernel
theorem dX3_neediest_53 : decode cX3_neediest 53 = .ok (.ifCond .le 11, 3) := by decide +kernel
theorem dX3_neediest_56 : decode cX3_neediest 56 = .ok (.iload 7, 2) := by decide +kernel
theorem dX3_neediest_58 : decode cX3_neediest 58 = .ok (.istore 4, 2) := by decide +kernel
theorem dX3_neediest_60 : decode cX3_neediest 60 = .ok (.lload 8, 2) := by decide +kernel
theorem dX3_neediest_62 : decode cX3_neediest 62 = .ok (.lstore 5, 2) := by decide +kernel
theorem dX3_neediest_64 : decode cX3_neediest 64 = .ok (.iinc 7 1, 3) := by decide +kernel
theorem dX3_neediest_67 : decode cX3_neediest 67 = .ok (.goto (-58), 3) := by decide +kernel
theorem dX3_neediest_70 : decode cX3_neediest 70 = .ok (.iload 4, 2) := by decide +kernel
theorem dX3_neediest_72 : decode cX3_neediest 72 = .ok (.ireturn, 1) := by decide +kernel
theorem dX3_leastOutflow_0 : decode cX3_leastOutflow 0 = .ok (.ldc2_w 49, 3) := by decide +kernel
theorem dX3_leastOutflow_3 : decode cX3_leastOutflow 3 = .ok (.lstore 5, 2) := by decide +kernel
theorem dX3_leastOutflow_5 : decode cX3_leastOutflow 5 = .ok (.iconst 0, 1) := by decide +kernel
theorem dX3_leastOutflow_6 : decode cX3_leastOutflow 6 = .ok (.istore 7, 2) := by decide +kernel
theorem dX3_leastOutflow_8 : decode cX3_leastOutflow 8 = .ok (.iload 7, 2) := by decide +kernel
theorem dX3_leastOutflow_10 : decode cX3_leastOutflow 10 = .ok (.aload_n 0, 1) := by decide +kernel
theorem dX3_leastOutflow_11 : decode cX3_leastOutflow 11 = .ok (.getfield 21, 3) := by decide +kernel
theorem dX3_leastOutflow_14 : decode cX3_leastOutflow 14 = .ok (.if_icmp .ge 35, 3) := by decide +kernel
theorem dX3_leastOutflow_17 : decode cX3_leastOutflow 17 = .ok (.aload_n 0, 1) := by decide +kernel
theorem dX3_leastOutflow_18 : decode cX3_leastOutflow 18 = .ok (.getfield 9, 3) := by decide +kernel
theorem dX3_leastOutflow_21 : decode cX3_leastOutflow 21 = .ok (.iload 7, 2) := by decide +kernel
theorem dX3_leastOutflow_23 : decode cX3_leastOutflow 23 = .ok (.iaload, 1) := by decide +kernel
theorem dX3_leastOutflow_24 : decode cX3_leastOutflow 24 = .ok (.iload_n 1, 1) := by decide +kernel
theorem dX3_leastOutflow_25 : decode cX3_leastOutflow 25 = .ok (.if_icmp .ne 18, 3) := by decide +kernel
theorem dX3_leastOutflow_28 : decode cX3_leastOutflow 28 = .ok (.lload 5, 2) := by decide +kernel
theorem dX3_leastOutflow_30 : decode cX3_leastOutflow 30 = .ok (.aload_n 0, 1) := by decide +kernel
theorem dX3_leastOutflow_31 : decode cX3_leastOutflow 31 = .ok (.iload 7, 2) := by decide +kernel
theorem dX3_leastOutflow_33 : decode cX3_leastOutflow 33 = .ok (.iload_n 2, 1) := by decide +kernel
theorem dX3_leastOutflow_34 : decode cX3_leastOutflow 34 = .ok (.lload_n 3, 1) := by decide +kernel
theorem dX3_leastOutflow_35 : decode cX3_leastOutflow 35 = .ok (.invokevirtual 51, 3) := by decide +kernel
theorem dX3_leastOutflow_38 : decode cX3_leastOutflow 38 = .ok (.invokestatic 55, 3) := by decide +kernel
theorem dX3_leastOutflow_41 : decode cX3_leastOutflow 41 = .ok (.lstore 5, 2) := by decide +kernel
theorem dX3_leastOutflow_43 : decode cX3_leastOutflow 43 = .ok (.iinc 7 1, 3) := by decide +kernel
theorem dX3_leastOutflow_46 : decode cX3_leastOutflow 46 = .ok (.goto (-38), 3) := by decide +kernel
theorem dX3_leastOutflow_49 : decode cX3_leastOutflow 49 = .ok (.lload 5, 2) := by decide +kernel
theorem dX3_leastOutflow_51 : decode cX3_leastOutflow 51 = .ok (.lreturn, 1) := by decide +kernel
theorem dX3_leastOutflowFor_0 : decode cX3_leastOutflowFor 0 = .ok (.aload_n 0, 1) := by decide +kernel
theorem dX3_leastOutflowFor_1 : decode cX3_leastOutflowFor 1 = .ok (.iload_n 1, 1) := by decide +kernel
theorem dX3_leastOutflowFor_2 : decode cX3_leastOutflowFor 2 = .ok (.iload_n 2, 1) := by decide +kernel
theorem dX3_leastOutflowFor_3 : decode cX3_leastOutflowFor 3 = .ok (.invokevirtual 33, 3) := by decide +kernel
theorem dX3_leastOutflowFor_6 : decode cX3_leastOutflowFor 6 = .ok (.lload_n 3, 1) := by decide +kernel
theorem dX3_leastOutflowFor_7 : decode cX3_leastOutflowFor 7 = .ok (.lsub, 1) := by decide +kernel
theorem dX3_leastOutflowFor_8 : decode cX3_leastOutflowFor 8 = .ok (.lstore 5, 2) := by decide +kernel
theorem dX3_leastOutflowFor_10 : decode cX3_leastOutflowFor 10 = .ok (.aload_n 0, 1) := by decide +kernel
theorem dX3_leastOutflowFor_11 : decode cX3_leastOutflowFor 11 = .ok (.iload_n 1, 1) := by decide +kernel
theorem dX3_leastOutflowFor_12 : decode cX3_leastOutflowFor 12 = .ok (.invokevirtual 37, 3) := by decide +kernel
theorem dX3_leastOutflowFor_15 : decode cX3_leastOutflowFor 15 = .ok (.lstore 7, 2) := by decide +kernel
theorem dX3_leastOutflowFor_17 : decode cX3_leastOutflowFor 17 = .ok (.lload 5, 2) := by decide +kernel
theorem dX3_leastOutflowFor_19 : decode cX3_leastOutflowFor 19 = .ok (.lconst 0, 1) := by decide +kernel
theorem dX3_leastOutflowFor_20 : decode cX3_leastOutflowFor 20 = .ok (.lcmp, 1) := by decide +kernel
theorem dX3_leastOutflowFor_21 : decode cX3_leastOutflowFor 21 = .ok (.ifCond .le 10, 3) := by decide +kernel
theorem dX3_leastOutflowFor_24 : decode cX3_leastOutflowFor 24 = .ok (.lload 7, 2) := by decide +kernel
theorem dX3_leastOutflowFor_26 : decode cX3_leastOutflowFor 26 = .ok (.lconst 0, 1) := by decide +kernel
theorem dX3_leastOutflowFor_27 : decode cX3_leastOutflowFor 27 = .ok (.lcmp, 1) := by decide +kernel
theorem dX3_leastOutflowFor_28 : decode cX3_leastOutflowFor 28 = .ok (.ifCond .gt 5, 3) := by decide +kernel
theorem dX3_leastOutflowFor_31 : decode cX3_leastOutflowFor 31 = .ok (.lconst 0, 1) := by decide +kernel
theorem dX3_leastOutflowFor_32 : decode cX3_leastOutflowFor 32 = .ok (.lreturn, 1) := by decide +kernel
theorem dX3_leastOutflowFor_33 : decode cX3_leastOutflowFor 33 = .ok (.lload 5, 2) := by decide +kernel
theorem dX3_leastOutflowFor_35 : decode cX3_leastOutflowFor 35 = .ok (.lload 7, 2) := by decide +kernel
theorem dX3_leastOutflowFor_37 : decode cX3_leastOutflowFor 37 = .ok (.ladd, 1) := by decide +kernel
theorem dX3_leastOutflowFor_38 : decode cX3_leastOutflowFor 38 = .ok (.lconst 1, 1) := by decide +kernel
theorem dX3_leastOutflowFor_39 : decode cX3_leastOutflowFor 39 = .ok (.lsub, 1) := by decide +kernel
theorem dX3_leastOutflowFor_40 : decode cX3_leastOutflowFor 40 = .ok (.lload 7, 2) := by decide +kernel
theorem dX3_leastOutflowFor_42 : decode cX3_leastOutflowFor 42 = .ok (.ldiv, 1) := by decide +kernel
theorem dX3_leastOutflowFor_43 : decode cX3_leastOutflowFor 43 = .ok (.lreturn, 1) := by decide +kernel
theorem dX4_init_0 : decode cX4_init 0 = .ok (.aload_n 0, 1) := by decide +kernel
theorem dX4_init_1 : decode cX4_init 1 = .ok (.invokespecial 3, 3) := by decide +kernel
theorem dX4_init_4 : decode cX4_init 4 = .ok (.aload_n 0, 1) := by decide +kernel
theorem dX4_init_5 : decode cX4_init 5 = .ok (.bipush 50, 2) := by decide +kernel
theorem dX4_init_7 : decode cX4_init 7 = .ok (.newarray .int, 2) := by decide +kernel
theorem dX4_init_9 : decode cX4_init 9 = .ok (.putfield 9, 3) := by decide +kernel
theorem dX4_init_12 : decode cX4_init 12 = .ok (.aload_n 0, 1) := by decide +kernel
theorem dX4_init_13 : decode cX4_init 13 = .ok (.iconst 0, 1) := by decide +kernel
theorem dX4_init_14 : decode cX4_init 14 = .ok (.putfield 15, 3) := by decide +kernel
theorem dX4_init_17 : decode cX4_init 17 = .ok (.return_, 1) := by decide +kernel
theorem dX4_size_0 : decode cX4_size 0 = .ok (.aload_n 0, 1) := by decide +kernel
theorem dX4_size_1 : decode cX4_size 1 = .ok (.getfield 15, 3) := by decide +kernel
theorem dX4_size_4 : decode cX4_size 4 = .ok (.ireturn, 1) := by decide +kernel
theorem dX4_add_0 : decode cX4_add 0 = .ok (.aload_n 0, 1) := by decide +kernel
theorem dX4_add_1 : decode cX4_add 1 = .ok (.getfield 15, 3) := by decide +kernel
theorem dX4_add_4 : decode cX4_add 4 = .ok (.bipush 50, 2) := by decide +kernel
theorem dX4_add_6 : decode cX4_add 6 = .ok (.if_icmp .lt 5, 3) := by decide +kernel
theorem dX4_add_9 : decode cX4_add 9 = .ok (.iconst (-1), 1) := by decide +kernel
theorem dX4_add_10 : decode cX4_add 10 = .ok (.ireturn, 1) := by decide +kernel
theorem dX4_add_11 : decode cX4_add 11 = .ok (.aload_n 0, 1) := by decide +kernel
theorem dX4_add_12 : decode cX4_add 12 = .ok (.getfield 9, 3) := by decide +kernel
theorem dX4_add_15 : decode cX4_add 15 = .ok (.aload_n 0, 1) := by decide +kernel
theorem dX4_add_16 : decode cX4_add 16 = .ok (.getfield 15, 3) := by decide +kernel
theorem dX4_add_19 : decode cX4_add 19 = .ok (.iload_n 1, 1) := by decide +kernel
theorem dX4_add_20 : decode cX4_add 20 = .ok (.iastore, 1) := by decide +kernel
theorem dX4_add_21 : decode cX4_add 21 = .ok (.aload_n 0, 1) := by decide +kernel
theorem dX4_add_22 : decode cX4_add 22 = .ok (.dup, 1) := by decide +kernel
theorem dX4_add_23 : decode cX4_add 23 = .ok (.getfield 15, 3) := by decide +kernel
theorem dX4_add_26 : decode cX4_add 26 = .ok (.iconst 1, 1) := by decide +kernel
theorem dX4_add_27 : decode cX4_add 27 = .ok (.iadd, 1) := by decide +kernel
theorem dX4_add_28 : decode cX4_add 28 = .ok (.putfield 15, 3) := by decide +kernel
theorem dX4_add_31 : decode cX4_add 31 = .ok (.aload_n 0, 1) := by decide +kernel
theorem dX4_add_32 : decode cX4_add 32 = .ok (.getfield 15, 3) := by decide +kernel
theorem dX4_add_35 : decode cX4_add 35 = .ok (.ireturn, 1) := by decide +kernel
theorem dX4_firstNotBelow_0 : decode cX4_firstNotBelow 0 = .ok (.iconst 1, 1) := by decide +kernel
theorem dX4_firstNotBelow_1 : decode cX4_firstNotBelow 1 = .ok (.istore_n 1, 1) := by decide +kernel
theorem dX4_firstNotBelow_2 : decode cX4_firstNotBelow 2 = .ok (.iload_n 1, 1) := by decide +kernel
theorem dX4_firstNotBelow_3 : decode cX4_firstNotBelow 3 = .ok (.aload_n 0, 1) := by decide +kernel
theorem dX4_firstNotBelow_4 : decode cX4_firstNotBelow 4 = .ok (.getfield 15, 3) := by decide +kernel
theorem dX4_firstNotBelow_7 : decode cX4_firstNotBelow 7 = .ok (.if_icmp .ge 28, 3) := by decide +kernel
theorem dX4_firstNotBelow_10 : decode cX4_firstNotBelow 10 = .ok (.aload_n 0, 1) := by decide +kernel
theorem dX4_firstNotBelow_11 : decode cX4_firstNotBelow 11 = .ok (.getfield 9, 3) := by decide +kernel
theorem dX4_firstNotBelow_14 : decode cX4_firstNotBelow 14 = .ok (.iload_n 1, 1) := by decide +kernel
theorem dX4_firstNotBelow_15 : decode cX4_firstNotBelow 15 = .ok (.iaload, 1) := by decide +kernel
theorem dX4_firstNotBelow_16 : decode cX4_firstNotBelow 16 = .ok (.aload_n 0, 1) := by decide +kernel
theorem dX4_firstNotBelow_17 : decode cX4_firstNotBelow 17 = .ok (.getfield 9, 3) := by decide +kernel
theorem dX4_firstNotBelow_20 : decode cX4_firstNotBelow 20 = .ok (.iload_n 1, 1) := by decide +kernel
theorem dX4_firstNotBelow_21 : decode cX4_firstNotBelow 21 = .ok (.iconst 1, 1) := by decide +kernel
theorem dX4_firstNotBelow_22 : decode cX4_firstNotBelow 22 = .ok (.isub, 1) := by decide +kernel
theorem dX4_firstNotBelow_23 : decode cX4_firstNotBelow 23 = .ok (.iaload, 1) := by decide +kernel
theorem dX4_firstNotBelow_24 : decode cX4_firstNotBelow 24 = .ok (.if_icmp .lt 5, 3) := by decide +kernel
theorem dX4_firstNotBelow_27 : decode cX4_firstNotBelow 27 = .ok (.iload_n 1, 1) := by decide +kernel
theorem dX4_firstNotBelow_28 : decode cX4_firstNotBelow 28 = .ok (.ireturn, 1) := by decide +kernel
theorem dX4_firstNotBelow_29 : decode cX4_firstNotBelow 29 = .ok (.iinc 1 1, 3) := by decide +kernel
theorem dX4_firstNotBelow_32 : decode cX4_firstNotBelow 32 = .ok (.goto (-30), 3) := by decide +kernel
theorem dX4_firstNotBelow_35 : decode cX4_firstNotBelow 35 = .ok (.iconst (-1), 1) := by decide +kernel
theorem dX4_firstNotBelow_36 : decode cX4_firstNotBelow 36 = .ok (.ireturn, 1) := by decide +kernel
theorem dX5_init_0 : decode cX5_init 0 = .ok (.aload_n 0, 1) := by decide +kernel
theorem dX5_init_1 : decode cX5_init 1 = .ok (.invokespecial 3, 3) := by decide +kernel
theorem dX5_init_4 : decode cX5_init 4 = .ok (.aload_n 0, 1) := by decide +kernel
theorem dX5_init_5 : decode cX5_init 5 = .ok (.sipush 300, 3) := by decide +kernel
theorem dX5_init_8 : decode cX5_init 8 = .ok (.newarray .char, 2) := by decide +kernel
theorem dX5_init_10 : decode cX5_init 10 = .ok (.putfield 9, 3) := by decide +kernel
theorem dX5_init_13 : decode cX5_init 13 = .ok (.aload_n 0, 1) := by decide +kernel
theorem dX5_init_14 : decode cX5_init 14 = .ok (.iconst 0, 1) := by decide +kernel
theorem dX5_init_15 : decode cX5_init 15 = .ok (.putfield 15, 3) := by decide +kernel
theorem dX5_init_18 : decode cX5_init 18 = .ok (.aload_n 0, 1) := by decide +kernel
theorem dX5_init_19 : decode cX5_init 19 = .ok (.iconst 0, 1) := by decide +kernel
theorem dX5_init_20 : decode cX5_init 20 = .ok (.putfield 19, 3) := by decide +kernel
theorem dX5_init_23 : decode cX5_init 23 = .ok (.return_, 1) := by decide +kernel
theorem dX5_size_0 : decode cX5_size 0 = .ok (.aload_n 0, 1) := by decide +kernel
theorem dX5_size_1 : decode cX5_size 1 = .ok (.getfield 15, 3) := by decide +kernel
theorem dX5_size_4 : decode cX5_size 4 = .ok (.ireturn, 1) := by decide +kernel
theorem dX5_position_0 : decode cX5_position 0 = .ok (.aload_n 0, 1) := by decide +kernel
theorem dX5_position_1 : decode cX5_position 1 = .ok (.getfield 19, 3) := by decide +kernel
theorem dX5_position_4 : decode cX5_position 4 = .ok (.ireturn, 1) := by decide +kernel
theorem dX5_clear_0 : decode cX5_clear 0 = .ok (.aload_n 0, 1) := by decide +kernel
theorem dX5_clear_1 : decode cX5_clear 1 = .ok (.iconst 0, 1) := by decide +kernel
theorem dX5_clear_2 : decode cX5_clear 2 = .ok (.putfield 15, 3) := by decide +kernel
theorem dX5_clear_5 : decode cX5_clear 5 = .ok (.return_, 1) := by decide +kernel
theorem dX5_collect_0 : decode cX5_collect 0 = .ok (.aload_n 0, 1) := by decide +kernel
theorem dX5_collect_1 : decode cX5_collect 1 = .ok (.getfield 15, 3) := by decide +kernel
theorem dX5_collect_4 : decode cX5_collect 4 = .ok (.sipush 300, 3) := by decide +kernel
theorem dX5_collect_7 : decode cX5_collect 7 = .ok (.if_icmp .lt 5, 3) := by decide +kernel
theorem dX5_collect_10 : decode cX5_collect 10 = .ok (.iconst 0, 1) := by decide +kernel
theorem dX5_collect_11 : decode cX5_collect 11 = .ok (.ireturn, 1) := by decide +kernel
theorem dX5_collect_12 : decode cX5_collect 12 = .ok (.aload_n 0, 1) := by decide +kernel
theorem dX5_collect_13 : decode cX5_collect 13 = .ok (.getfield 9, 3) := by decide +kernel
theorem dX5_collect_16 : decode cX5_collect 16 = .ok (.aload_n 0, 1) := by decide +kernel
theorem dX5_collect_17 : decode cX5_collect 17 = .ok (.getfield 15, 3) := by decide +kernel
theorem dX5_collect_20 : decode cX5_collect 20 = .ok (.iload_n 1, 1) := by decide +kernel
theorem dX5_collect_21 : decode cX5_collect 21 = .ok (.castore, 1) := by decide +kernel
theorem dX5_collect_22 : decode cX5_collect 22 = .ok (.aload_n 0, 1) := by decide +kernel
theorem dX5_collect_23 : decode cX5_collect 23 = .ok (.dup, 1) := by decide +kernel
theorem dX5_collect_24 : decode cX5_collect 24 = .ok (.getfield 15, 3) := by decide +kernel
theorem dX5_collect_27 : decode cX5_collect 27 = .ok (.iconst 1, 1) := by decide +kernel
theorem dX5_collect_28 : decode cX5_collect 28 = .ok (.iadd, 1) := by decide +kernel
theorem dX5_collect_29 : decode cX5_collect 29 = .ok (.putfield 15, 3) := by decide +kernel
theorem dX5_collect_32 : decode cX5_collect 32 = .ok (.iconst 1, 1) := by decide +kernel
theorem dX5_collect_33 : decode cX5_collect 33 = .ok (.ireturn, 1) := by decide +kernel
theorem dX5_readStates_0 : decode cX5_readStates 0 = .ok (.aload_n 0, 1) := by decide +kernel
theorem dX5_readStates_1 : decode cX5_readStates 1 = .ok (.iconst 0, 1) := by decide +kernel
theorem dX5_readStates_2 : decode cX5_readStates 2 = .ok (.putfield 19, 3) := by decide +kernel
theorem dX5_readStates_5 : decode cX5_readStates 5 = .ok (.aload_n 1, 1) := by decide +kernel
theorem dX5_readStates_6 : decode cX5_readStates 6 = .ok (.invokevirtual 22, 3) := by decide +kernel
theorem dX5_readStates_9 : decode cX5_readStates 9 = .ok (.iconst 0, 1) := by decide +kernel
theorem dX5_readStates_10 : decode cX5_readStates 10 = .ok (.istore_n 2, 1) := by decide +kernel
theorem dX5_readStates_11 : decode cX5_readStates 11 = .ok (.iload_n 2, 1) := by decide +kernel
theorem dX5_readStates_12 : decode cX5_readStates 12 = .ok (.bipush 6, 2) := by decide +kernel
theorem dX5_readStates_14 : decode cX5_readStates 14 = .ok (.if_icmp .ge 52, 3) := by decide +kernel
theorem dX5_readStates_17 : decode cX5_readStates 17 = .ok (.aload_n 0, 1) := by decide +kernel
theorem dX5_readStates_18 : decode cX5_readStates 18 = .ok (.aload_n 1, 1) := by decide +kernel
theorem dX5_readStates_19 : decode cX5_readStates 19 = .ok (.invokevirtual 27, 3) := by decide +kernel
theorem dX5_readStates_22 : decode cX5_readStates 22 = .ok (.ifCond .ne 5, 3) := by decide +kernel
theorem dX5_readStates_25 : decode cX5_readStates 25 = .ok (.iconst 0, 1) := by decide +kernel
theorem dX5_readStates_26 : decode cX5_readStates 26 = .ok (.ireturn, 1) := by decide +kernel
theorem dX5_readStates_27 : decode cX5_readStates 27 = .ok (.aload_n 1, 1) := by decide +kernel
theorem dX5_readStates_28 : decode cX5_readStates 28 = .ok (.invokevirtual 31, 3) := by decide +kernel
theorem dX5_readStates_31 : decode cX5_readStates 31 = .ok (.aload_n 0, 1) := by decide +kernel
theorem dX5_readStates_32 : decode cX5_readStates 32 = .ok (.invokevirtual 34, 3) := by decide +kernel
theorem dX5_readStates_35 : decode cX5_readStates 35 = .ok (.istore_n 3, 1) := by decide +kernel
theorem dX5_readStates_36 : decode cX5_readStates 36 = .ok (.iload_n 3, 1) := by decide +kernel
theorem dX5_readStates_37 : decode cX5_readStates 37 = .ok (.ifCond .ne 5, 3) := by decide +kernel
theorem dX5_readStates_40 : decode cX5_readStates 40 = .ok (.iconst 1, 1) := by decide +kernel
theorem dX5_readStates_41 : decode cX5_readStates 41 = .ok (.ireturn, 1) := by decide +kernel
theorem dX5_readStates_42 : decode cX5_readStates 42 = .ok (.iload_n 3, 1) := by decide +kernel
theorem dX5_readStates_43 : decode cX5_readStates 43 = .ok (.bipush 59, 2) := by decide +kernel
theorem dX5_readStates_45 : decode cX5_readStates 45 = .ok (.if_icmp .eq 5, 3) := by decide +kernel
theorem dX5_readStates_48 : decode cX5_readStates 48 = .ok (.iconst 0, 1) := by decide +kernel
theorem dX5_readStates_49 : decode cX5_readStates 49 = .ok (.ireturn, 1) := by decide +kernel
theorem dX5_readStates_50 : decode cX5_readStates 50 = .ok (.aload_n 0, 1) := by decide +kernel
theorem dX5_readStates_51 : decode cX5_readStates 51 = .ok (.dup, 1) := by decide +kernel
theorem dX5_readStates_52 : decode cX5_readStates 52 = .ok (.getfield 19, 3) := by decide +kernel
theorem dX5_readStates_55 : decode cX5_readStates 55 = .ok (.iconst 1, 1) := by decide +kernel
theorem dX5_readStates_56 : decode cX5_readStates 56 = .ok (.iadd, 1) := by decide +kernel
theorem dX5_readStates_57 : decode cX5_readStates 57 = .ok (.putfield 19, 3) := by decide +kernel
theorem dX5_readStates_60 : decode cX5_readStates 60 = .ok (.iinc 2 1, 3) := by decide +kernel
theorem dX5_readStates_63 : decode cX5_readStates 63 = .ok (.goto (-52), 3) := by decide +kernel
theorem dX5_readStates_66 : decode cX5_readStates 66 = .ok (.aload_n 0, 1) := by decide +kernel
theorem dX5_readStates_67 : decode cX5_readStates 67 = .ok (.invokevirtual 38, 3) := by decide +kernel
theorem dX5_readStates_70 : decode cX5_readStates 70 = .ok (.ireturn, 1) := by decide +kernel
theorem dX5_readTests_0 : decode cX5_readTests 0 = .ok (.iconst 0, 1) := by decide +kernel
theorem dX5_readTests_1 : decode cX5_readTests 1 = .ok (.istore_n 2, 1) := by decide +kernel
theorem dX5_readTests_2 : decode cX5_readTests 2 = .ok (.iload_n 2, 1) := by decide +kernel
theorem dX5_readTests_3 : decode cX5_readTests 3 = .ok (.iconst 5, 1) := by decide +kernel
theorem dX5_readTests_4 : decode cX5_readTests 4 = .ok (.if_icmp .ge 40, 3) := by decide +kernel
theorem dX5_readTests_7 : decode cX5_readTests 7 = .ok (.aload_n 0, 1) := by decide +kernel
theorem dX5_readTests_8 : decode cX5_readTests 8 = .ok (.aload_n 1, 1) := by decide +kernel
theorem dX5_readTests_9 : decode cX5_readTests 9 = .ok (.invokevirtual 42, 3) := by decide +kernel
theorem dX5_readTests_12 : decode cX5_readTests 12 = .ok (.ifCond .ne 5, 3) := by decide +kernel
theorem dX5_readTests_15 : decode cX5_readTests 15 = .ok (.iconst 0, 1) := by decide +kernel
theorem dX5_readTests_16 : decode cX5_readTests 16 = .ok (.ireturn, 1) := by decide +kernel
theorem dX5_readTests_17 : decode cX5_readTests 17 = .ok (.aload_n 0, 1) := by decide +kernel
theorem dX5_readTests_18 : decode cX5_readTests 18 = .ok (.invokevirtual 34, 3) := by decide +kernel
theorem dX5_readTests_21 : decode cX5_readTests 21 = .ok (.bipush 38, 2) := by decide +kernel
theorem dX5_readTests_23 : decode cX5_readTests 23 = .ok (.if_icmp .eq 5, 3) := by decide +kernel
theorem dX5_readTests_26 : decode cX5_readTests 26 = .ok (.iconst 1, 1) := by decide +kernel
theorem dX5_readTests_27 : decode cX5_readTests 27 = .ok (.ireturn, 1) := by decide +kernel
theorem dX5_readTests_28 : decode cX5_readTests 28 = .ok (.aload_n 0, 1) := by decide +kernel
theorem dX5_readTests_29 : decode cX5_readTests 29 = .ok (.dup, 1) := by decide +kernel
theorem dX5_readTests_30 : decode cX5_readTests 30 = .ok (.getfield 19, 3) := by decide +kernel
theorem dX5_readTests_33 : decode cX5_readTests 33 = .ok (.iconst 1, 1) := by decide +kernel
theorem dX5_readTests_34 : decode cX5_readTests 34 = .ok (.iadd, 1) := by decide +kernel
theorem dX5_readTests_35 : decode cX5_readTests 35 = .ok (.putfield 19, 3) := by decide +kernel
theorem dX5_readTests_38 : decode cX5_readTests 38 = .ok (.iinc 2 1, 3) := by decide +kernel
theorem dX5_readTests_41 : decode cX5_readTests 41 = .ok (.goto (-39), 3) := by decide +kernel
theorem dX5_readTests_44 : decode cX5_readTests 44 = .ok (.aload_n 0, 1) := by decide +kernel
theorem dX5_readTests_45 : decode cX5_readTests 45 = .ok (.invokevirtual 38, 3) := by decide +kernel
theorem dX5_readTests_48 : decode cX5_readTests 48 = .ok (.ireturn, 1) := by decide +kernel
theorem dX5_readTest_0 : decode cX5_readTest 0 = .ok (.aload_n 1, 1) := by decide +kernel
theorem dX5_readTest_1 : decode cX5_readTest 1 = .ok (.invokevirtual 45, 3) := by decide +kernel
theorem dX5_readTest_4 : decode cX5_readTest 4 = .ok (.aload_n 0, 1) := by decide +kernel
theorem dX5_readTest_5 : decode cX5_readTest 5 = .ok (.aload_n 1, 1) := by decide +kernel
theorem dX5_readTest_6 : decode cX5_readTest 6 = .ok (.iconst 1, 1) := by decide +kernel
theorem dX5_readTest_7 : decode cX5_readTest 7 = .ok (.invokevirtual 48, 3) := by decide +kernel
theorem dX5_readTest_10 : decode cX5_readTest 10 = .ok (.ifCond .ne 5, 3) := by decide +kernel
theorem dX5_readTest_13 : decode cX5_readTest 13 = .ok (.iconst 0, 1) := by decide +kernel
theorem dX5_readTest_14 : decode cX5_readTest 14 = .ok (.ireturn, 1) := by decide +kernel
theorem dX5_readTest_15 : decode cX5_readTest 15 = .ok (.aload_n 0, 1) := by decide +kernel
theorem dX5_readTest_16 : decode cX5_readTest 16 = .ok (.invokevirtual 34, 3) := by decide +kernel
theorem dX5_readTest_19 : decode cX5_readTest 19 = .ok (.istore_n 2, 1) := by decide +kernel
theorem dX5_readTest_20 : decode cX5_readTest 20 = .ok (.iload_n 2, 1) := by decide +kernel
theorem dX5_readTest_21 : decode cX5_readTest 21 = .ok (.bipush 60, 2) := by decide +kernel
theorem dX5_readTest_23 : decode cX5_readTest 23 = .ok (.if_icmp .eq 17, 3) := by decide +kernel
theorem dX5_readTest_26 : decode cX5_readTest 26 = .ok (.iload_n 2, 1) := by decide +kernel
theorem dX5_readTest_27 : decode cX5_readTest 27 = .ok (.bipush 62, 2) := by decide +kernel
theorem dX5_readTest_29 : decode cX5_readTest 29 = .ok (.if_icmp .eq 11, 3) := by decide +kernel
theorem dX5_readTest_32 : decode cX5_readTest 32 = .ok (.iload_n 2, 1) := by decide +kernel
theorem dX5_readTest_33 : decode cX5_readTest 33 = .ok (.bipush 61, 2) := by decide +kernel
theorem dX5_readTest_35 : decode cX5_readTest 35 = .ok (.if_icmp .eq 5, 3) := by decide +kernel
theorem dX5_readTest_38 : decode cX5_readTest 38 = .ok (.iconst 0, 1) := by decide +kernel
theorem dX5_readTest_39 : decode cX5_readTest 39 = .ok (.ireturn, 1) := by decide +kernel
theorem dX5_readTest_40 : decode cX5_readTest 40 = .ok (.aload_n 0, 1) := by decide +kernel
theorem dX5_readTest_41 : decode cX5_readTest 41 = .ok (.dup, 1) := by decide +kernel
theorem dX5_readTest_42 : decode cX5_readTest 42 = .ok (.getfield 19, 3) := by decide +kernel
theorem dX5_readTest_45 : decode cX5_readTest 45 = .ok (.iconst 1, 1) := by decide +kernel
theorem dX5_readTest_46 : decode cX5_readTest 46 = .ok (.iadd, 1) := by decide +kernel
theorem dX5_readTest_47 : decode cX5_readTest 47 = .ok (.putfield 19, 3) := by decide +kernel
theorem dX5_readTest_50 : decode cX5_readTest 50 = .ok (.aload_n 0, 1) := by decide +kernel
theorem dX5_readTest_51 : decode cX5_readTest 51 = .ok (.aload_n 1, 1) := by decide +kernel
theorem dX5_readTest_52 : decode cX5_readTest 52 = .ok (.iconst (-1), 1) := by decide +kernel
theorem dX5_readTest_53 : decode cX5_readTest 53 = .ok (.invokevirtual 48, 3) := by decide +kernel
theorem dX5_readTest_56 : decode cX5_readTest 56 = .ok (.ifCond .ne 5, 3) := by decide +kernel
theorem dX5_readTest_59 : decode cX5_readTest 59 = .ok (.iconst 0, 1) := by decide +kernel
theorem dX5_readTest_60 : decode cX5_readTest 60 = .ok (.ireturn, 1) := by decide +kernel
theorem dX5_readTest_61 : decode cX5_readTest 61 = .ok (.aload_n 1, 1) := by decide +kernel
theorem dX5_readTest_62 : decode cX5_readTest 62 = .ok (.iload_n 2, 1) := by decide +kernel
theorem dX5_readTest_63 : decode cX5_readTest 63 = .ok (.invokevirtual 52, 3) := by decide +kernel
theorem dX5_readTest_66 : decode cX5_readTest 66 = .ok (.iconst 1, 1) := by decide +kernel
theorem dX5_readTest_67 : decode cX5_readTest 67 = .ok (.ireturn, 1) := by decide +kernel
theorem dX5_readSum_0 : decode cX5_readSum 0 = .ok (.iload_n 2, 1) := by decide +kernel
theorem dX5_readSum_1 : decode cX5_readSum 1 = .ok (.istore_n 3, 1) := by decide +kernel
theorem dX5_readSum_2 : decode cX5_readSum 2 = .ok (.iconst 0, 1) := by decide +kernel
theorem dX5_readSum_3 : decode cX5_readSum 3 = .ok (.istore 4, 2) := by decide +kernel
theorem dX5_readSum_5 : decode cX5_readSum 5 = .ok (.iload 4, 2) := by decide +kernel
theorem dX5_readSum_7 : decode cX5_readSum 7 = .ok (.iconst 4, 1) := by decide +kernel
theorem dX5_readSum_8 : decode cX5_readSum 8 = .ok (.if_icmp .ge 66, 3) := by decide +kernel
theorem dX5_readSum_11 : decode cX5_readSum 11 = .ok (.aload_n 0, 1) := by decide +kernel
theorem dX5_readSum_12 : decode cX5_readSum 12 = .ok (.aload_n 1, 1) := by decide +kernel
theorem dX5_readSum_13 : decode cX5_readSum 13 = .ok (.iload_n 3, 1) := by decide +kernel
theorem dX5_readSum_14 : decode cX5_readSum 14 = .ok (.invokevirtual 56, 3) := by decide +kernel
theorem dX5_readSum_17 : decode cX5_readSum 17 = .ok (.ifCond .ne 5, 3) := by decide +kernel
theorem dX5_readSum_20 : decode cX5_readSum 20 = .ok (.iconst 0, 1) := by decide +kernel
theorem dX5_readSum_21 : decode cX5_readSum 21 = .ok (.ireturn, 1) := by decide +kernel
theorem dX5_readSum_22 : decode cX5_readSum 22 = .ok (.aload_n 0, 1) := by decide +kernel
theorem dX5_readSum_23 : decode cX5_readSum 23 = .ok (.invokevirtual 34, 3) := by decide +kernel
theorem dX5_readSum_26 : decode cX5_readSum 26 = .ok (.istore 5, 2) := by decide +kernel
theorem dX5_readSum_28 : decode cX5_readSum 28 = .ok (.iload 5, 2) := by decide +kernel
theorem dX5_readSum_30 : decode cX5_readSum 30 = .ok (.bipush 43, 2) := by decide +kernel
theorem dX5_readSum_32 : decode cX5_readSum 32 = .ok (.if_icmp .eq 12, 3) := by decide +kernel
theorem dX5_readSum_35 : decode cX5_readSum 35 = .ok (.iload 5, 2) := by decide +kernel
theorem dX5_readSum_37 : decode cX5_readSum 37 = .ok (.bipush 45, 2) := by decide +kernel
theorem dX5_readSum_39 : decode cX5_readSum 39 = .ok (.if_icmp .eq 5, 3) := by decide +kernel
theorem dX5_readSum_42 : decode cX5_readSum 42 = .ok (.iconst 1, 1) := by decide +kernel
theorem dX5_readSum_43 : decode cX5_readSum 43 = .ok (.ireturn, 1) := by decide +kernel
theorem dX5_readSum_44 : decode cX5_readSum 44 = .ok (.iload 5, 2) := by decide +kernel
theorem dX5_readSum_46 : decode cX5_readSum 46 = .ok (.bipush 43, 2) := by decide +kernel
theorem dX5_readSum_48 : decode cX5_readSum 48 = .ok (.if_icmp .ne 7, 3) := by decide +kernel
theorem dX5_readSum_51 : decode cX5_readSum 51 = .ok (.iload_n 2, 1) := by decide +kernel
theorem dX5_readSum_52 : decode cX5_readSum 52 = .ok (.goto 5, 3) := by decide +kernel
theorem dX5_readSum_55 : decode cX5_readSum 55 = .ok (.iload_n 2, 1) := by decide +kernel
theorem dX5_readSum_56 : decode cX5_readSum 56 = .ok (.ineg, 1) := by decide +kernel
theorem dX5_readSum_57 : decode cX5_readSum 57 = .ok (.istore_n 3, 1) := by decide +kernel
theorem dX5_readSum_58 : decode cX5_readSum 58 = .ok (.aload_n 0, 1) := by decide +kernel
theorem dX5_readSum_59 : decode cX5_readSum 59 = .ok (.dup, 1) := by decide +kernel
theorem dX5_readSum_60 : decode cX5_readSum 60 = .ok (.getfield 19, 3) := by decide +kernel
theorem dX5_readSum_63 : decode cX5_readSum 63 = .ok (.iconst 1, 1) := by decide +kernel
theorem dX5_readSum_64 : decode cX5_readSum 64 = .ok (.iadd, 1) := by decide +kernel
theorem dX5_readSum_65 : decode cX5_readSum 65 = .ok (.putfield 19, 3) := by decide +kernel
theorem dX5_readSum_68 : decode cX5_readSum 68 = .ok (.iinc 4 1, 3) := by decide +kernel
theorem dX5_readSum_71 : decode cX5_readSum 71 = .ok (.goto (-66), 3) := by decide +kernel
theorem dX5_readSum_74 : decode cX5_readSum 74 = .ok (.aload_n 0, 1) := by decide +kernel
theorem dX5_readSum_75 : decode cX5_readSum 75 = .ok (.invokevirtual 38, 3) := by decide +kernel
theorem dX5_readSum_78 : decode cX5_readSum 78 = .ok (.ireturn, 1) := by decide +kernel
theorem dX5_readTerm_0 : decode cX5_readTerm 0 = .ok (.aload_n 0, 1) := by decide +kernel
theorem dX5_readTerm_1 : decode cX5_readTerm 1 = .ok (.invokevirtual 34, 3) := by decide +kernel
theorem dX5_readTerm_4 : decode cX5_readTerm 4 = .ok (.pop, 1) := by decide +kernel
theorem dX5_readTerm_5 : decode cX5_readTerm 5 = .ok (.aload_n 0, 1) := by decide +kernel
theorem dX5_readTerm_6 : decode cX5_readTerm 6 = .ok (.getfield 19, 3) := by decide +kernel
theorem dX5_readTerm_9 : decode cX5_readTerm 9 = .ok (.istore_n 3, 1) := by decide +kernel
theorem dX5_readTerm_10 : decode cX5_readTerm 10 = .ok (.aload_n 0, 1) := by decide +kernel
theorem dX5_readTerm_11 : decode cX5_readTerm 11 = .ok (.invokevirtual 59, 3) := by decide +kernel
theorem dX5_readTerm_14 : decode cX5_readTerm 14 = .ok (.istore 4, 2) := by decide +kernel
theorem dX5_readTerm_16 : decode cX5_readTerm 16 = .ok (.aload_n 0, 1) := by decide +kernel
theorem dX5_readTerm_17 : decode cX5_readTerm 17 = .ok (.getfield 19, 3) := by decide +kernel
theorem dX5_readTerm_20 : decode cX5_readTerm 20 = .ok (.iload_n 3, 1) := by decide +kernel
theorem dX5_readTerm_21 : decode cX5_readTerm 21 = .ok (.if_icmp .le 7, 3) := by decide +kernel
theorem dX5_readTerm_24 : decode cX5_readTerm 24 = .ok (.iconst 1, 1) := by decide +kernel
theorem dX5_readTerm_25 : decode cX5_readTerm 25 = .ok (.goto 4, 3) := by decide +kernel
theorem dX5_readTerm_28 : decode cX5_readTerm 28 = .ok (.iconst 0, 1) := by decide +kernel
theorem dX5_readTerm_29 : decode cX5_readTerm 29 = .ok (.istore 5, 2) := by decide +kernel
theorem dX5_readTerm_31 : decode cX5_readTerm 31 = .ok (.ldc 63, 2) := by decide +kernel
theorem dX5_readTerm_33 : decode cX5_readTerm 33 = .ok (.aload_n 0, 1) := by decide +kernel
theorem dX5_readTerm_34 : decode cX5_readTerm 34 = .ok (.invokevirtual 34, 3) := by decide +kernel
theorem dX5_readTerm_37 : decode cX5_readTerm 37 = .ok (.invokevirtual 65, 3) := by decide +kernel
theorem dX5_readTerm_40 : decode cX5_readTerm 40 = .ok (.istore 6, 2) := by decide +kernel
theorem dX5_readTerm_42 : decode cX5_readTerm 42 = .ok (.iload 6, 2) := by decide +kernel
theorem dX5_readTerm_44 : decode cX5_readTerm 44 = .ok (.ifCond .lt 7, 3) := by decide +kernel
theorem dX5_readTerm_47 : decode cX5_readTerm 47 = .ok (.iconst 1, 1) := by decide +kernel
theorem dX5_readTerm_48 : decode cX5_readTerm 48 = .ok (.goto 4, 3) := by decide +kernel
theorem dX5_readTerm_51 : decode cX5_readTerm 51 = .ok (.iconst 0, 1) := by decide +kernel
theorem dX5_readTerm_52 : decode cX5_readTerm 52 = .ok (.istore 7, 2) := by decide +kernel
theorem dX5_readTerm_54 : decode cX5_readTerm 54 = .ok (.iload 5, 2) := by decide +kernel
theorem dX5_readTerm_56 : decode cX5_readTerm 56 = .ok (.ifCond .ne 10, 3) := by decide +kernel
theorem dX5_readTerm_59 : decode cX5_readTerm 59 = .ok (.iload 7, 2) := by decide +kernel
theorem dX5_readTerm_61 : decode cX5_readTerm 61 = .ok (.ifCond .ne 5, 3) := by decide +kernel
theorem dX5_readTerm_64 : decode cX5_readTerm 64 = .ok (.iconst 0, 1) := by decide +kernel
theorem dX5_readTerm_65 : decode cX5_readTerm 65 = .ok (.ireturn, 1) := by decide +kernel
theorem dX5_readTerm_66 : decode cX5_readTerm 66 = .ok (.iload 4, 2) := by decide +kernel
theorem dX5_readTerm_68 : decode cX5_readTerm 68 = .ok (.iconst (-1), 1) := by decide +kernel
theorem dX5_readTerm_69 : decode cX5_readTerm 69 = .ok (.if_icmp .eq 13, 3) := by decide +kernel
theorem dX5_readTerm_72 : decode cX5_readTerm 72 = .ok (.iload 7, 2) := by decide +kernel
theorem dX5_readTerm_74 : decode cX5_readTerm 74 = .ok (.ifCond .eq 15, 3) := by decide +kernel
theorem dX5_readTerm_77 : decode cX5_readTerm 77 = .ok (.iload 4, 2) := by decide +kernel
theorem dX5_readTerm_79 : decode cX5_readTerm 79 = .ok (.ifCond .ne 10, 3) := by decide +kernel
theorem dX5_readTerm_82 : decode cX5_readTerm 82 = .ok (.aload_n 0, 1) := by decide +kernel
theorem dX5_readTerm_83 : decode cX5_readTerm 83 = .ok (.iload_n 3, 1) := by decide +kernel
theorem dX5_readTerm_84 : decode cX5_readTerm 84 = .ok (.putfield 19, 3) := by decide +kernel
theorem dX5_readTerm_87 : decode cX5_readTerm 87 = .ok (.iconst 0, 1) := by decide +kernel
theorem dX5_readTerm_88 : decode cX5_readTerm 88 = .ok (.ireturn, 1) := by decide +kernel
theorem dX5_readTerm_89 : decode cX5_readTerm 89 = .ok (.aload_n 1, 1) := by decide +kernel
theorem dX5_readTerm_90 : decode cX5_readTerm 90 = .ok (.iload 7, 2) := by decide +kernel
theorem dX5_readTerm_92 : decode cX5_readTerm 92 = .ok (.ifCond .eq 8, 3) := by decide +kernel
theorem dX5_readTerm_95 : decode cX5_readTerm 95 = .ok (.iload 6, 2) := by decide +kernel
theorem dX5_readTerm_97 : decode cX5_readTerm 97 = .ok (.goto 5, 3) := by decide +kernel
theorem dX5_readTerm_100 : decode cX5_readTerm 100 = .ok (.bipush 7, 2) := by decide +kernel
theorem dX5_readTerm_102 : decode cX5_readTerm 102 = .ok (.iload_n 2, 1) := by decide +kernel
theorem dX5_readTerm_103 : decode cX5_readTerm 103 = .ok (.iload 4, 2) := by decide +kernel
theorem dX5_readTerm_105 : decode cX5_readTerm 105 = .ok (.imul, 1) := by decide +kernel
theorem dX5_readTerm_106 : decode cX5_readTerm 106 = .ok (.invokevirtual 71, 3) := by decide +kernel
theorem dX5_readTerm_109 : decode cX5_readTerm 109 = .ok (.iload 7, 2) := by decide +kernel
theorem dX5_readTerm_111 : decode cX5_readTerm 111 = .ok (.ifCond .eq 13, 3) := by decide +kernel
theorem dX5_readTerm_114 : decode cX5_readTerm 114 = .ok (.aload_n 0, 1) := by decide +kernel
theorem dX5_readTerm_115 : decode cX5_readTerm 115 = .ok (.dup, 1) := by decide +kernel
theorem dX5_readTerm_116 : decode cX5_readTerm 116 = .ok (.getfield 19, 3) := by decide +kernel
theorem dX5_readTerm_119 : decode cX5_readTerm 119 = .ok (.iconst 1, 1) := by decide +kernel
theorem dX5_readTerm_120 : decode cX5_readTerm 120 = .ok (.iadd, 1) := by decide +kernel
theorem dX5_readTerm_121 : decode cX5_readTerm 121 = .ok (.putfield 19, 3) := by decide +kernel
theorem dX5_readTerm_124 : decode cX5_readTerm 124 = .ok (.iconst 1, 1) := by decide +kernel
theorem dX5_readTerm_125 : decode cX5_readTerm 125 = .ok (.ireturn, 1) := by decide +kernel
theorem dX5_readNumber_0 : decode cX5_readNumber 0 = .ok (.aload_n 0, 1) := by decide +kernel
theorem dX5_readNumber_1 : decode cX5_readNumber 1 = .ok (.getfield 19, 3) := by decide +kernel
theorem dX5_readNumber_4 : decode cX5_readNumber 4 = .ok (.istore_n 1, 1) := by decide +kernel
theorem dX5_readNumber_5 : decode cX5_readNumber 5 = .ok (.iconst 0, 1) := by decide +kernel
theorem dX5_readNumber_6 : decode cX5_readNumber 6 = .ok (.istore_n 2, 1) := by decide +kernel
theorem dX5_readNumber_7 : decode cX5_readNumber 7 = .ok (.aload_n 0, 1) := by decide +kernel
theorem dX5_readNumber_8 : decode cX5_readNumber 8 = .ok (.getfield 19, 3) := by decide +kernel
theorem dX5_readNumber_11 : decode cX5_readNumber 11 = .ok (.aload_n 0, 1) := by decide +kernel
theorem dX5_readNumber_12 : decode cX5_readNumber 12 = .ok (.getfield 15, 3) := by decide +kernel
theorem dX5_readNumber_15 : decode cX5_readNumber 15 = .ok (.if_icmp .ge 72, 3) := by decide +kernel
theorem dX5_readNumber_18 : decode cX5_readNumber 18 = .ok (.bipush 48, 2) := by decide +kernel
theorem dX5_readNumber_20 : decode cX5_readNumber 20 = .ok (.aload_n 0, 1) := by decide +kernel
theorem dX5_readNumber_21 : decode cX5_readNumber 21 = .ok (.getfield 9, 3) := by decide +kernel
theorem dX5_readNumber_24 : decode cX5_readNumber 24 = .ok (.aload_n 0, 1) := by decide +kernel
theorem dX5_readNumber_25 : decode cX5_readNumber 25 = .ok (.getfield 19, 3) := by decide +kernel
theorem dX5_readNumber_28 : decode cX5_readNumber 28 = .ok (.caload, 1) := by decide +kernel
theorem dX5_readNumber_29 : decode cX5_readNumber 29 = .ok (.if_icmp .gt 58, 3) := by decide +kernel
theorem dX5_readNumber_32 : decode cX5_readNumber 32 = .ok (.aload_n 0, 1) := by decide +kernel
theorem dX5_readNumber_33 : decode cX5_readNumber 33 = .ok (.getfield 9, 3) := by decide +kernel
theorem dX5_readNumber_36 : decode cX5_readNumber 36 = .ok (.aload_n 0, 1) := by decide +kernel
theorem dX5_readNumber_37 : decode cX5_readNumber 37 = .ok (.getfield 19, 3) := by decide +kernel
theorem dX5_readNumber_40 : decode cX5_readNumber 40 = .ok (.caload, 1) := by decide +kernel
theorem dX5_readNumber_41 : decode cX5_readNumber 41 = .ok (.bipush 57, 2) := by decide +kernel
theorem dX5_readNumber_43 : decode cX5_readNumber 43 = .ok (.if_icmp .gt 44, 3) := by decide +kernel
theorem dX5_readNumber_46 : decode cX5_readNumber 46 = .ok (.aload_n 0, 1) := by decide +kernel
theorem dX5_readNumber_47 : decode cX5_readNumber 47 = .ok (.getfield 19, 3) := by decide +kernel
theorem dX5_readNumber_50 : decode cX5_readNumber 50 = .ok (.iload_n 1, 1) := by decide +kernel
theorem dX5_readNumber_51 : decode cX5_readNumber 51 = .ok (.isub, 1) := by decide +kernel
theorem dX5_readNumber_52 : decode cX5_readNumber 52 = .ok (.iconst 5, 1) := by decide +kernel
theorem dX5_readNumber_53 : decode cX5_readNumber 53 = .ok (.if_icmp .ge 21, 3) := by decide +kernel
theorem dX5_readNumber_56 : decode cX5_readNumber 56 = .ok (.bipush 10, 2) := by decide +kernel
theorem dX5_readNumber_58 : decode cX5_readNumber 58 = .ok (.iload_n 2, 1) := by decide +kernel
theorem dX5_readNumber_59 : decode cX5_readNumber 59 = .ok (.imul, 1) := by decide +kernel
theorem dX5_readNumber_60 : decode cX5_readNumber 60 = .ok (.aload_n 0, 1) := by decide +kernel
theorem dX5_readNumber_61 : decode cX5_readNumber 61 = .ok (.getfield 9, 3) := by decide +kernel
theorem dX5_readNumber_64 : decode cX5_readNumber 64 = .ok (.aload_n 0, 1) := by decide +kernel
theorem dX5_readNumber_65 : decode cX5_readNumber 65 = .ok (.getfield 19, 3) := by decide +kernel
theorem dX5_readNumber_68 : decode cX5_readNumber 68 = .ok (.caload, 1) := by decide +kernel
theorem dX5_readNumber_69 : decode cX5_readNumber 69 = .ok (.bipush 48, 2) := by decide +kernel
theorem dX5_readNumber_71 : decode cX5_readNumber 71 = .ok (.isub, 1) := by decide +kernel
theorem dX5_readNumber_72 : decode cX5_readNumber 72 = .ok (.iadd, 1) := by decide +kernel
theorem dX5_readNumber_73 : decode cX5_readNumber 73 = .ok (.istore_n 2, 1) := by decide +kernel
theorem dX5_readNumber_74 : decode cX5_readNumber 74 = .ok (.aload_n 0, 1) := by decide +kernel
theorem dX5_readNumber_75 : decode cX5_readNumber 75 = .ok (.dup, 1) := by decide +kernel
theorem dX5_readNumber_76 : decode cX5_readNumber 76 = .ok (.getfield 19, 3) := by decide +kernel
theorem dX5_readNumber_79 : decode cX5_readNumber 79 = .ok (.iconst 1, 1) := by decide +kernel
theorem dX5_readNumber_80 : decode cX5_readNumber 80 = .ok (.iadd, 1) := by decide +kernel
theorem dX5_readNumber_81 : decode cX5_readNumber 81 = .ok (.putfield 19, 3) := by decide +kernel
theorem dX5_readNumber_84 : decode cX5_readNumber 84 = .ok (.goto (-77), 3) := by decide +kernel
theorem dX5_readNumber_87 : decode cX5_readNumber 87 = .ok (.aload_n 0, 1) := by decide +kernel
theorem dX5_readNumber_88 : decode cX5_readNumber 88 = .ok (.getfield 19, 3) := by decide +kernel
theorem dX5_readNumber_91 : decode cX5_readNumber 91 = .ok (.iload_n 1, 1) := by decide +kernel
theorem dX5_readNumber_92 : decode cX5_readNumber 92 = .ok (.isub, 1) := by decide +kernel
theorem dX5_readNumber_93 : decode cX5_readNumber 93 = .ok (.istore_n 3, 1) := by decide +kernel
theorem dX5_readNumber_94 : decode cX5_readNumber 94 = .ok (.iload_n 3, 1) := by decide +kernel
theorem dX5_readNumber_95 : decode cX5_readNumber 95 = .ok (.ifCond .ne 5, 3) := by decide +kernel
theorem dX5_readNumber_98 : decode cX5_readNumber 98 = .ok (.iconst 1, 1) := by decide +kernel
theorem dX5_readNumber_99 : decode cX5_readNumber 99 = .ok (.ireturn, 1) := by decide +kernel
theorem dX5_readNumber_100 : decode cX5_readNumber 100 = .ok (.iload_n 3, 1) := by decide +kernel
theorem dX5_readNumber_101 : decode cX5_readNumber 101 = .ok (.iconst 1, 1) := by decide +kernel
theorem dX5_readNumber_102 : decode cX5_readNumber 102 = .ok (.if_icmp .le 18, 3) := by decide +kernel
theorem dX5_readNumber_105 : decode cX5_readNumber 105 = .ok (.aload_n 0, 1) := by decide +kernel
theorem dX5_readNumber_106 : decode cX5_readNumber 106 = .ok (.getfield 9, 3) := by decide +kernel
theorem dX5_readNumber_109 : decode cX5_readNumber 109 = .ok (.iload_n 1, 1) := by decide +kernel
theorem dX5_readNumber_110 : decode cX5_readNumber 110 = .ok (.caload, 1) := by decide +kernel
theorem dX5_readNumber_111 : decode cX5_readNumber 111 = .ok (.bipush 48, 2) := by decide +kernel
theorem dX5_readNumber_113 : decode cX5_readNumber 113 = .ok (.if_icmp .ne 7, 3) := by decide +kernel
theorem dX5_readNumber_116 : decode cX5_readNumber 116 = .ok (.iconst 1, 1) := by decide +kernel
theorem dX5_readNumber_117 : decode cX5_readNumber 117 = .ok (.goto 4, 3) := by decide +kernel
theorem dX5_readNumber_120 : decode cX5_readNumber 120 = .ok (.iconst 0, 1) := by decide +kernel
theorem dX5_readNumber_121 : decode cX5_readNumber 121 = .ok (.istore 4, 2) := by decide +kernel
theorem dX5_readNumber_123 : decode cX5_readNumber 123 = .ok (.iload_n 3, 1) := by decide +kernel
theorem dX5_readNumber_124 : decode cX5_readNumber 124 = .ok (.iconst 5, 1) := by decide +kernel
theorem dX5_readNumber_125 : decode cX5_readNumber 125 = .ok (.if_icmp .gt 8, 3) := by decide +kernel
theorem dX5_readNumber_128 : decode cX5_readNumber 128 = .ok (.iload 4, 2) := by decide +kernel
theorem dX5_readNumber_130 : decode cX5_readNumber 130 = .ok (.ifCond .eq 7, 3) := by decide +kernel
theorem dX5_readNumber_133 : decode cX5_readNumber 133 = .ok (.iconst (-1), 1) := by decide +kernel
theorem dX5_readNumber_134 : decode cX5_readNumber 134 = .ok (.goto 4, 3) := by decide +kernel
theorem dX5_readNumber_137 : decode cX5_readNumber 137 = .ok (.iload_n 2, 1) := by decide +kernel
theorem dX5_readNumber_138 : decode cX5_readNumber 138 = .ok (.ireturn, 1) := by decide +kernel
theorem dX5_standAtOneTooMany_0 : decode cX5_standAtOneTooMany 0 = .ok (.aload_n 0, 1) := by decide +kernel
theorem dX5_standAtOneTooMany_1 : decode cX5_standAtOneTooMany 1 = .ok (.invokevirtual 34, 3) := by decide +kernel
theorem dX5_standAtOneTooMany_4 : decode cX5_standAtOneTooMany 4 = .ok (.pop, 1) := by decide +kernel
theorem dX5_standAtOneTooMany_5 : decode cX5_standAtOneTooMany 5 = .ok (.iconst 0, 1) := by decide +kernel
theorem dX5_standAtOneTooMany_6 : decode cX5_standAtOneTooMany 6 = .ok (.ireturn, 1) := by decide +kernel
theorem dX5_toNextSign_0 : decode cX5_toNextSign 0 = .ok (.aload_n 0, 1) := by decide +kernel
theorem dX5_toNextSign_1 : decode cX5_toNextSign 1 = .ok (.getfield 19, 3) := by decide +kernel
theorem dX5_toNextSign_4 : decode cX5_toNextSign 4 = .ok (.aload_n 0, 1) := by decide +kernel
theorem dX5_toNextSign_5 : decode cX5_toNextSign 5 = .ok (.getfield 15, 3) := by decide +kernel
theorem dX5_toNextSign_8 : decode cX5_toNextSign 8 = .ok (.if_icmp .ge 30, 3) := by decide +kernel
theorem dX5_toNextSign_11 : decode cX5_toNextSign 11 = .ok (.aload_n 0, 1) := by decide +kernel
theorem dX5_toNextSign_12 : decode cX5_toNextSign 12 = .ok (.getfield 9, 3) := by decide +kernel
theorem dX5_toNextSign_15 : decode cX5_toNextSign 15 = .ok (.aload_n 0, 1) := by decide +kernel
theorem dX5_toNextSign_16 : decode cX5_toNextSign 16 = .ok (.getfield 19, 3) := by decide +kernel
theorem dX5_toNextSign_19 : decode cX5_toNextSign 19 = .ok (.caload, 1) := by decide +kernel
theorem dX5_toNextSign_20 : decode cX5_toNextSign 20 = .ok (.bipush 32, 2) := by decide +kernel
theorem dX5_toNextSign_22 : decode cX5_toNextSign 22 = .ok (.if_icmp .ne 16, 3) := by decide +kernel
theorem dX5_toNextSign_25 : decode cX5_toNextSign 25 = .ok (.aload_n 0, 1) := by decide +kernel
theorem dX5_toNextSign_26 : decode cX5_toNextSign 26 = .ok (.dup, 1) := by decide +kernel
theorem dX5_toNextSign_27 : decode cX5_toNextSign 27 = .ok (.getfield 19, 3) := by decide +kernel
theorem dX5_toNextSign_30 : decode cX5_toNextSign 30 = .ok (.iconst 1, 1) := by decide +kernel
theorem dX5_toNextSign_31 : decode cX5_toNextSign 31 = .ok (.iadd, 1) := by decide +kernel
theorem dX5_toNextSign_32 : decode cX5_toNextSign 32 = .ok (.putfield 19, 3) := by decide +kernel
theorem dX5_toNextSign_35 : decode cX5_toNextSign 35 = .ok (.goto (-35), 3) := by decide +kernel
theorem dX5_toNextSign_38 : decode cX5_toNextSign 38 = .ok (.aload_n 0, 1) := by decide +kernel
theorem dX5_toNextSign_39 : decode cX5_toNextSign 39 = .ok (.getfield 19, 3) := by decide +kernel
theorem dX5_toNextSign_42 : decode cX5_toNextSign 42 = .ok (.aload_n 0, 1) := by decide +kernel
theorem dX5_toNextSign_43 : decode cX5_toNextSign 43 = .ok (.getfield 15, 3) := by decide +kernel
theorem dX5_toNextSign_46 : decode cX5_toNextSign 46 = .ok (.if_icmp .ge 15, 3) := by decide +kernel
theorem dX5_toNextSign_49 : decode cX5_toNextSign 49 = .ok (.aload_n 0, 1) := by decide +kernel
theorem dX5_toNextSign_50 : decode cX5_toNextSign 50 = .ok (.getfield 9, 3) := by decide +kernel
theorem dX5_toNextSign_53 : decode cX5_toNextSign 53 = .ok (.aload_n 0, 1) := by decide +kernel
theorem dX5_toNextSign_54 : decode cX5_toNextSign 54 = .ok (.getfield 19, 3) := by decide +kernel
theorem dX5_toNextSign_57 : decode cX5_toNextSign 57 = .ok (.caload, 1) := by decide +kernel
theorem dX5_toNextSign_58 : decode cX5_toNextSign 58 = .ok (.goto 4, 3) := by decide +kernel
theorem dX5_toNextSign_61 : decode cX5_toNextSign 61 = .ok (.iconst 0, 1) := by decide +kernel
theorem dX5_toNextSign_62 : decode cX5_toNextSign 62 = .ok (.ireturn, 1) := by decide +kernel
theorem dX6_init_0 : decode cX6_init 0 = .ok (.aload_n 0, 1) := by decide +kernel
theorem dX6_init_1 : decode cX6_init 1 = .ok (.invokespecial 3, 3) := by decide +kernel
theorem dX6_init_4 : decode cX6_init 4 = .ok (.aload_n 0, 1) := by decide +kernel
theorem dX6_init_5 : decode cX6_init 5 = .ok (.bipush 6, 2) := by decide +kernel
theorem dX6_init_7 : decode cX6_init 7 = .ok (.newarray .int, 2) := by decide +kernel
theorem dX6_init_9 : decode cX6_init 9 = .ok (.putfield 9, 3) := by decide +kernel
theorem dX6_init_12 : decode cX6_init 12 = .ok (.aload_n 0, 1) := by decide +kernel
theorem dX6_init_13 : decode cX6_init 13 = .ok (.bipush 30, 2) := by decide +kernel
theorem dX6_init_15 : decode cX6_init 15 = .ok (.newarray .char, 2) := by decide +kernel
theorem dX6_init_17 : decode cX6_init 17 = .ok (.putfield 15, 3) := by decide +kernel
theorem dX6_init_20 : decode cX6_init 20 = .ok (.aload_n 0, 1) := by decide +kernel
theorem dX6_init_21 : decode cX6_init 21 = .ok (.bipush 30, 2) := by decide +kernel
theorem dX6_init_23 : decode cX6_init 23 = .ok (.bipush 8, 2) := by decide +kernel
theorem dX6_init_25 : decode cX6_init 25 = .ok (.multianewarray 19 2, 4) := by decide +kernel
theorem dX6_init_29 : decode cX6_init 29 = .ok (.putfield 21, 3) := by decide +kernel
theorem dX6_init_32 : decode cX6_init 32 = .ok (.aload_n 0, 1) := by decide +kernel
theorem dX6_init_33 : decode cX6_init 33 = .ok (.bipush 6, 2) := by decide +kernel
theorem dX6_init_35 : decode cX6_init 35 = .ok (.newarray .long, 2) := by decide +kernel
theorem dX6_init_37 : decode cX6_init 37 = .ok (.putfield 24, 3) := by decide +kernel
theorem dX6_init_40 : decode cX6_init 40 = .ok (.aload_n 0, 1) := by decide +kernel
theorem dX6_init_41 : decode cX6_init 41 = .ok (.bipush 6, 2) := by decide +kernel
theorem dX6_init_43 : decode cX6_init 43 = .ok (.newarray .long, 2) := by decide +kernel
theorem dX6_init_45 : decode cX6_init 45 = .ok (.putfield 28, 3) := by decide +kernel
theorem dX6_init_48 : decode cX6_init 48 = .ok (.aload_n 0, 1) := by decide +kernel
theorem dX6_init_49 : decode cX6_init 49 = .ok (.iconst 0, 1) := by decide +kernel
theorem dX6_init_50 : decode cX6_init 50 = .ok (.putfield 31, 3) := by decide +kernel
theorem dX6_init_53 : decode cX6_init 53 = .ok (.aload_n 0, 1) := by decide +kernel
theorem dX6_init_54 : decode cX6_init 54 = .ok (.iconst 0, 1) := by decide +kernel
theorem dX6_init_55 : decode cX6_init 55 = .ok (.putfield 35, 3) := by decide +kernel
theorem dX6_init_58 : decode cX6_init 58 = .ok (.return_, 1) := by decide +kernel
theorem dX6_size_0 : decode cX6_size 0 = .ok (.aload_n 0, 1) := by decide +kernel
theorem dX6_size_1 : decode cX6_size 1 = .ok (.getfield 31, 3) := by decide +kernel
theorem dX6_size_4 : decode cX6_size 4 = .ok (.ireturn, 1) := by decide +kernel
theorem dX6_clear_0 : decode cX6_clear 0 = .ok (.aload_n 0, 1) := by decide +kernel
theorem dX6_clear_1 : decode cX6_clear 1 = .ok (.iconst 0, 1) := by decide +kernel
theorem dX6_clear_2 : decode cX6_clear 2 = .ok (.putfield 31, 3) := by decide +kernel
theorem dX6_clear_5 : decode cX6_clear 5 = .ok (.aload_n 0, 1) := by decide +kernel
theorem dX6_clear_6 : decode cX6_clear 6 = .ok (.iconst 0, 1) := by decide +kernel
theorem dX6_clear_7 : decode cX6_clear 7 = .ok (.putfield 35, 3) := by decide +kernel
theorem dX6_clear_10 : decode cX6_clear 10 = .ok (.return_, 1) := by decide +kernel
theorem dX6_beginTest_0 : decode cX6_beginTest 0 = .ok (.aload_n 0, 1) := by decide +kernel
theorem dX6_beginTest_1 : decode cX6_beginTest 1 = .ok (.getfield 35, 3) := by decide +kernel
theorem dX6_beginTest_4 : decode cX6_beginTest 4 = .ok (.aload_n 0, 1) := by decide +kernel
theorem dX6_beginTest_5 : decode cX6_beginTest 5 = .ok (.getfield 21, 3) := by decide +kernel
theorem dX6_beginTest_8 : decode cX6_beginTest 8 = .ok (.arraylength, 1) := by decide +kernel
theorem dX6_beginTest_9 : decode cX6_beginTest 9 = .ok (.if_icmp .ge 29, 3) := by decide +kernel
theorem dX6_beginTest_12 : decode cX6_beginTest 12 = .ok (.iconst 0, 1) := by decide +kernel
theorem dX6_beginTest_13 : decode cX6_beginTest 13 = .ok (.istore_n 1, 1) := by decide +kernel
theorem dX6_beginTest_14 : decode cX6_beginTest 14 = .ok (.iload_n 1, 1) := by decide +kernel
theorem dX6_beginTest_15 : decode cX6_beginTest 15 = .ok (.bipush 8, 2) := by decide +kernel
theorem dX6_beginTest_17 : decode cX6_beginTest 17 = .ok (.if_icmp .ge 21, 3) := by decide +kernel
theorem dX6_beginTest_20 : decode cX6_beginTest 20 = .ok (.aload_n 0, 1) := by decide +kernel
theorem dX6_beginTest_21 : decode cX6_beginTest 21 = .ok (.getfield 21, 3) := by decide +kernel
theorem dX6_beginTest_24 : decode cX6_beginTest 24 = .ok (.aload_n 0, 1) := by decide +kernel
theorem dX6_beginTest_25 : decode cX6_beginTest 25 = .ok (.getfield 35, 3) := by decide +kernel
theorem dX6_beginTest_28 : decode cX6_beginTest 28 = .ok (.aaload, 1) := by decide +kernel
theorem dX6_beginTest_29 : decode cX6_beginTest 29 = .ok (.iload_n 1, 1) := by decide +kernel
theorem dX6_beginTest_30 : decode cX6_beginTest 30 = .ok (.iconst 0, 1) := by decide +kernel
theorem dX6_beginTest_31 : decode cX6_beginTest 31 = .ok (.iastore, 1) := by decide +kernel
theorem dX6_beginTest_32 : decode cX6_beginTest 32 = .ok (.iinc 1 1, 3) := by decide +kernel
theorem dX6_beginTest_35 : decode cX6_beginTest 35 = .ok (.goto (-21), 3) := by decide +kernel
theorem dX6_beginTest_38 : decode cX6_beginTest 38 = .ok (.return_, 1) := by decide +kernel
theorem dX6_addTerm_0 : decode cX6_addTerm 0 = .ok (.aload_n 0, 1) := by decide +kernel
theorem dX6_addTerm_1 : decode cX6_addTerm 1 = .ok (.getfield 35, 3) := by decide +kernel
theorem dX6_addTerm_4 : decode cX6_addTerm 4 = .ok (.aload_n 0, 1) := by decide +kernel
theorem dX6_addTerm_5 : decode cX6_addTerm 5 = .ok (.getfield 21, 3) := by decide +kernel
theorem dX6_addTerm_8 : decode cX6_addTerm 8 = .ok (.arraylength, 1) := by decide +kernel
theorem dX6_addTerm_9 : decode cX6_addTerm 9 = .ok (.if_icmp .ge 29, 3) := by decide +kernel
theorem dX6_addTerm_12 : decode cX6_addTerm 12 = .ok (.iconst 0, 1) := by decide +kernel
theorem dX6_addTerm_13 : decode cX6_addTerm 13 = .ok (.iload_n 1, 1) := by decide +kernel
theorem dX6_addTerm_14 : decode cX6_addTerm 14 = .ok (.if_icmp .gt 24, 3) := by decide +kernel
theorem dX6_addTerm_17 : decode cX6_addTerm 17 = .ok (.iload_n 1, 1) := by decide +kernel
theorem dX6_addTerm_18 : decode cX6_addTerm 18 = .ok (.bipush 8, 2) := by decide +kernel
theorem dX6_addTerm_20 : decode cX6_addTerm 20 = .ok (.if_icmp .ge 18, 3) := by decide +kernel
theorem dX6_addTerm_23 : decode cX6_addTerm 23 = .ok (.aload_n 0, 1) := by decide +kernel
theorem dX6_addTerm_24 : decode cX6_addTerm 24 = .ok (.getfield 21, 3) := by decide +kernel
theorem dX6_addTerm_27 : decode cX6_addTerm 27 = .ok (.aload_n 0, 1) := by decide +kernel
theorem dX6_addTerm_28 : decode cX6_addTerm 28 = .ok (.getfield 35, 3) := by decide +kernel
theorem dX6_addTerm_31 : decode cX6_addTerm 31 = .ok (.aaload, 1) := by decide +kernel
theorem dX6_addTerm_32 : decode cX6_addTerm 32 = .ok (.iload_n 1, 1) := by decide +kernel
theorem dX6_addTerm_33 : decode cX6_addTerm 33 = .ok (.dup2, 1) := by decide +kernel
theorem dX6_addTerm_34 : decode cX6_addTerm 34 = .ok (.iaload, 1) := by decide +kernel
theorem dX6_addTerm_35 : decode cX6_addTerm 35 = .ok (.iload_n 2, 1) := by decide +kernel
theorem dX6_addTerm_36 : decode cX6_addTerm 36 = .ok (.iadd, 1) := by decide +kernel
theorem dX6_addTerm_37 : decode cX6_addTerm 37 = .ok (.iastore, 1) := by decide +kernel
theorem dX6_addTerm_38 : decode cX6_addTerm 38 = .ok (.return_, 1) := by decide +kernel
theorem dX6_endTest_0 : decode cX6_endTest 0 = .ok (.aload_n 0, 1) := by decide +kernel
theorem dX6_endTest_1 : decode cX6_endTest 1 = .ok (.getfield 35, 3) := by decide +kernel
theorem dX6_endTest_4 : decode cX6_endTest 4 = .ok (.aload_n 0, 1) := by decide +kernel
theorem dX6_endTest_5 : decode cX6_endTest 5 = .ok (.getfield 15, 3) := by decide +kernel
theorem dX6_endTest_8 : decode cX6_endTest 8 = .ok (.arraylength, 1) := by decide +kernel
theorem dX6_endTest_9 : decode cX6_endTest 9 = .ok (.if_icmp .ge 23, 3) := by decide +kernel
theorem dX6_endTest_12 : decode cX6_endTest 12 = .ok (.aload_n 0, 1) := by decide +kernel
theorem dX6_endTest_13 : decode cX6_endTest 13 = .ok (.getfield 15, 3) := by decide +kernel
theorem dX6_endTest_16 : decode cX6_endTest 16 = .ok (.aload_n 0, 1) := by decide +kernel
theorem dX6_endTest_17 : decode cX6_endTest 17 = .ok (.getfield 35, 3) := by decide +kernel
theorem dX6_endTest_20 : decode cX6_endTest 20 = .ok (.iload_n 1, 1) := by decide +kernel
theorem dX6_endTest_21 : decode cX6_endTest 21 = .ok (.castore, 1) := by decide +kernel
theorem dX6_endTest_22 : decode cX6_endTest 22 = .ok (.aload_n 0, 1) := by decide +kernel
theorem dX6_endTest_23 : decode cX6_endTest 23 = .ok (.dup, 1) := by decide +kernel
theorem dX6_endTest_24 : decode cX6_endTest 24 = .ok (.getfield 35, 3) := by decide +kernel
theorem dX6_endTest_27 : decode cX6_endTest 27 = .ok (.iconst 1, 1) := by decide +kernel
theorem dX6_endTest_28 : decode cX6_endTest 28 = .ok (.iadd, 1) := by decide +kernel
theorem dX6_endTest_29 : decode cX6_endTest 29 = .ok (.putfield 35, 3) := by decide +kernel
theorem dX6_endTest_32 : decode cX6_endTest 32 = .ok (.return_, 1) := by decide +kernel
theorem dX6_endState_0 : decode cX6_endState 0 = .ok (.aload_n 0, 1) := by decide +kernel
theorem dX6_endState_1 : decode cX6_endState 1 = .ok (.getfield 31, 3) := by decide +kernel
theorem dX6_endState_4 : decode cX6_endState 4 = .ok (.bipush 6, 2) := by decide +kernel
theorem dX6_endState_6 : decode cX6_endState 6 = .ok (.if_icmp .ge 26, 3) := by decide +kernel
theorem dX6_endState_9 : decode cX6_endState 9 = .ok (.aload_n 0, 1) := by decide +kernel
theorem dX6_endState_10 : decode cX6_endState 10 = .ok (.getfield 9, 3) := by decide +kernel
theorem dX6_endState_13 : decode cX6_endState 13 = .ok (.aload_n 0, 1) := by decide +kernel
theorem dX6_endState_14 : decode cX6_endState 14 = .ok (.getfield 31, 3) := by decide +kernel
theorem dX6_endState_17 : decode cX6_endState 17 = .ok (.aload_n 0, 1) := by decide +kernel
theorem dX6_endState_18 : decode cX6_endState 18 = .ok (.getfield 35, 3) := by decide +kernel
theorem dX6_endState_21 : decode cX6_endState 21 = .ok (.iastore, 1) := by decide +kernel
theorem dX6_endState_22 : decode cX6_endState 22 = .ok (.aload_n 0, 1) := by decide +kernel
theorem dX6_endState_23 : decode cX6_endState 23 = .ok (.dup, 1) := by decide +kernel
theorem dX6_endState_24 : decode cX6_endState 24 = .ok (.getfield 31, 3) := by decide +kernel
theorem dX6_endState_27 : decode cX6_endState 27 = .ok (.iconst 1, 1) := by decide +kernel
theorem dX6_endState_28 : decode cX6_endState 28 = .ok (.iadd, 1) := by decide +kernel
theorem dX6_endState_29 : decode cX6_endState 29 = .ok (.putfield 31, 3) := by decide +kernel
theorem dX6_endState_32 : decode cX6_endState 32 = .ok (.return_, 1) := by decide +kernel
theorem dX6_findSpans_0 : decode cX6_findSpans 0 = .ok (.iconst 0, 1) := by decide +kernel
theorem dX6_findSpans_1 : decode cX6_findSpans 1 = .ok (.istore_n 2, 1) := by decide +kernel
theorem dX6_findSpans_2 : decode cX6_findSpans 2 = .ok (.iconst 0, 1) := by decide +kernel
theorem dX6_findSpans_3 : decode cX6_findSpans 3 = .ok (.istore_n 3, 1) := by decide +kernel
theorem dX6_findSpans_4 : decode cX6_findSpans 4 = .ok (.iload_n 3, 1) := by decide +kernel
theorem dX6_findSpans_5 : decode cX6_findSpans 5 = .ok (.aload_n 0, 1) := by decide +kernel
theorem dX6_findSpans_6 : decode cX6_findSpans 6 = .ok (.getfield 31, 3) := by decide +kernel
theorem dX6_findSpans_9 : decode cX6_findSpans 9 = .ok (.if_icmp .ge 48, 3) := by decide +kernel
theorem dX6_findSpans_12 : decode cX6_findSpans 12 = .ok (.aload_n 0, 1) := by decide +kernel
theorem dX6_findSpans_13 : decode cX6_findSpans 13 = .ok (.getfield 24, 3) := by decide +kernel
theorem dX6_findSpans_16 : decode cX6_findSpans 16 = .ok (.iload_n 3, 1) := by decide +kernel
theorem dX6_findSpans_17 : decode cX6_findSpans 17 = .ok (.lconst 0, 1) := by decide +kernel
theorem dX6_findSpans_18 : decode cX6_findSpans 18 = .ok (.lastore, 1) := by decide +kernel
theorem dX6_findSpans_19 : decode cX6_findSpans 19 = .ok (.aload_n 0, 1) := by decide +kernel
theorem dX6_findSpans_20 : decode cX6_findSpans 20 = .ok (.getfield 28, 3) := by decide +kernel
theorem dX6_findSpans_23 : decode cX6_findSpans 23 = .ok (.iload_n 3, 1) := by decide +kernel
theorem dX6_findSpans_24 : decode cX6_findSpans 24 = .ok (.ldc2_w 38, 3) := by decide +kernel
theorem dX6_findSpans_27 : decode cX6_findSpans 27 = .ok (.lastore, 1) := by decide +kernel
theorem dX6_findSpans_28 : decode cX6_findSpans 28 = .ok (.iload_n 2, 1) := by decide +kernel
theorem dX6_findSpans_29 : decode cX6_findSpans 29 = .ok (.aload_n 0, 1) := by decide +kernel
theorem dX6_findSpans_30 : decode cX6_findSpans 30 = .ok (.getfield 9, 3) := by decide +kernel
theorem dX6_findSpans_33 : decode cX6_findSpans 33 = .ok (.iload_n 3, 1) := by decide +kernel
theorem dX6_findSpans_34 : decode cX6_findSpans 34 = .ok (.iaload, 1) := by decide +kernel
theorem dX6_findSpans_35 : decode cX6_findSpans 35 = .ok (.if_icmp .ge 16, 3) := by decide +kernel
theorem dX6_findSpans_38 : decode cX6_findSpans 38 = .ok (.aload_n 0, 1) := by decide +kernel
theorem dX6_findSpans_39 : decode cX6_findSpans 39 = .ok (.iload_n 3, 1) := by decide +kernel
theorem dX6_findSpans_40 : decode cX6_findSpans 40 = .ok (.iload_n 2, 1) := by decide +kernel
theorem dX6_findSpans_41 : decode cX6_findSpans 41 = .ok (.aload_n 1, 1) := by decide +kernel
theorem dX6_findSpans_42 : decode cX6_findSpans 42 = .ok (.invokevirtual 40, 3) := by decide +kernel
theorem dX6_findSpans_45 : decode cX6_findSpans 45 = .ok (.iinc 2 1, 3) := by decide +kernel
theorem dX6_findSpans_48 : decode cX6_findSpans 48 = .ok (.goto (-20), 3) := by decide +kernel
theorem dX6_findSpans_51 : decode cX6_findSpans 51 = .ok (.iinc 3 1, 3) := by decide +kernel
theorem dX6_findSpans_54 : decode cX6_findSpans 54 = .ok (.goto (-50), 3) := by decide +kernel
theorem dX6_findSpans_57 : decode cX6_findSpans 57 = .ok (.return_, 1) := by decide +kernel
theorem dX6_narrowByTest_0 : decode cX6_narrowByTest 0 = .ok (.aload_n 0, 1) := by decide +kernel
theorem dX6_narrowByTest_1 : decode cX6_narrowByTest 1 = .ok (.getfield 21, 3) := by decide +kernel
theorem dX6_narrowByTest_4 : decode cX6_narrowByTest 4 = .ok (.iload_n 2, 1) := by decide +kernel
theorem dX6_narrowByTest_5 : decode cX6_narrowByTest 5 = .ok (.aaload, 1) := by decide +kernel
theorem dX6_narrowByTest_6 : decode cX6_narrowByTest 6 = .ok (.iconst 0, 1) := by decide +kernel
theorem dX6_narrowByTest_7 : decode cX6_narrowByTest 7 = .ok (.iaload, 1) := by decide +kernel
theorem dX6_narrowByTest_8 : decode cX6_narrowByTest 8 = .ok (.i2l, 1) := by decide +kernel
theorem dX6_narrowByTest_9 : decode cX6_narrowByTest 9 = .ok (.lstore 4, 2) := by decide +kernel
theorem dX6_narrowByTest_11 : decode cX6_narrowByTest 11 = .ok (.lconst 0, 1) := by decide +kernel
theorem dX6_narrowByTest_12 : decode cX6_narrowByTest 12 = .ok (.lstore 6, 2) := by decide +kernel
theorem dX6_narrowByTest_14 : decode cX6_narrowByTest 14 = .ok (.iconst 1, 1) := by decide +kernel
theorem dX6_narrowByTest_15 : decode cX6_narrowByTest 15 = .ok (.istore 8, 2) := by decide +kernel
theorem dX6_narrowByTest_17 : decode cX6_narrowByTest 17 = .ok (.iload 8, 2) := by decide +kernel
theorem dX6_narrowByTest_19 : decode cX6_narrowByTest 19 = .ok (.bipush 8, 2) := by decide +kernel
theorem dX6_narrowByTest_21 : decode cX6_narrowByTest 21 = .ok (.if_icmp .ge 37, 3) := by decide +kernel
theorem dX6_narrowByTest_24 : decode cX6_narrowByTest 24 = .ok (.iload 8, 2) := by decide +kernel
theorem dX6_narrowByTest_26 : decode cX6_narrowByTest 26 = .ok (.aload_n 3, 1) := by decide +kernel
theorem dX6_narrowByTest_27 : decode cX6_narrowByTest 27 = .ok (.arraylength, 1) := by decide +kernel
theorem dX6_narrowByTest_28 : decode cX6_narrowByTest 28 = .ok (.if_icmp .ge 30, 3) := by decide +kernel
theorem dX6_narrowByTest_31 : decode cX6_narrowByTest 31 = .ok (.lload 6, 2) := by decide +kernel
theorem dX6_narrowByTest_33 : decode cX6_narrowByTest 33 = .ok (.aload_n 0, 1) := by decide +kernel
theorem dX6_narrowByTest_34 : decode cX6_narrowByTest 34 = .ok (.getfield 21, 3) := by decide +kernel
theorem dX6_narrowByTest_37 : decode cX6_narrowByTest 37 = .ok (.iload_n 2, 1) := by decide +kernel
theorem dX6_narrowByTest_38 : decode cX6_narrowByTest 38 = .ok (.aaload, 1) := by decide +kernel
theorem dX6_narrowByTest_39 : decode cX6_narrowByTest 39 = .ok (.iload 8, 2) := by decide +kernel
theorem dX6_narrowByTest_41 : decode cX6_narrowByTest 41 = .ok (.iaload, 1) := by decide +kernel
theorem dX6_narrowByTest_42 : decode cX6_narrowByTest 42 = .ok (.i2l, 1) := by decide +kernel
theorem dX6_narrowByTest_43 : decode cX6_narrowByTest 43 = .ok (.aload_n 3, 1) := by decide +kernel
theorem dX6_narrowByTest_44 : decode cX6_narrowByTest 44 = .ok (.iload 8, 2) := by decide +kernel
theorem dX6_narrowByTest_46 : decode cX6_narrowByTest 46 = .ok (.iaload, 1) := by decide +kernel
theorem dX6_narrowByTest_47 : decode cX6_narrowByTest 47 = .ok (.i2l, 1) := by decide +kernel
theorem dX6_narrowByTest_48 : decode cX6_narrowByTest 48 = .ok (.lmul, 1) := by decide +kernel
theorem dX6_narrowByTest_49 : decode cX6_narrowByTest 49 = .ok (.ladd, 1) := by decide +kernel
theorem dX6_narrowByTest_50 : decode cX6_narrowByTest 50 = .ok (.lstore 6, 2) := by decide +kernel
theorem dX6_narrowByTest_52 : decode cX6_narrowByTest 52 = .ok (.iinc 8 1, 3) := by decide +kernel
theorem dX6_narrowByTest_55 : decode cX6_narrowByTest 55 = .ok (.goto (-38), 3) := by decide +kernel
theorem dX6_narrowByTest_58 : decode cX6_narrowByTest 58 = .ok (.aload_n 0, 1) := by decide +kernel
theorem dX6_narrowByTest_59 : decode cX6_narrowByTest 59 = .ok (.getfield 15, 3) := by decide +kernel
theorem dX6_narrowByTest_62 : decode cX6_narrowByTest 62 = .ok (.iload_n 2, 1) := by decide +kernel
theorem dX6_narrowByTest_63 : decode cX6_narrowByTest 63 = .ok (.caload, 1) := by decide +kernel
theorem dX6_narrowByTest_64 : decode cX6_narrowByTest 64 = .ok (.istore 8, 2) := by decide +kernel
theorem dX6_narrowByTest_66 : decode cX6_narrowByTest 66 = .ok (.iload 8, 2) := by decide +kernel
theorem dX6_narrowByTest_68 : decode cX6_narrowByTest 68 = .ok (.bipush 61, 2) := by decide +kernel
theorem dX6_narrowByTest_70 : decode cX6_narrowByTest 70 = .ok (.if_icmp .ne 7, 3) := by decide +kernel
theorem dX6_narrowByTest_73 : decode cX6_narrowByTest 73 = .ok (.lconst 0, 1) := by decide +kernel
theorem dX6_narrowByTest_74 : decode cX6_narrowByTest 74 = .ok (.goto 6, 3) := by decide +kernel
theorem dX6_narrowByTest_77 : decode cX6_narrowByTest 77 = .ok (.ldc2_w 44, 3) := by decide +kernel
theorem dX6_narrowByTest_80 : decode cX6_narrowByTest 80 = .ok (.lstore 9, 2) := by decide +kernel
theorem dX6_narrowByTest_82 : decode cX6_narrowByTest 82 = .ok (.iload 8, 2) := by decide +kernel
theorem dX6_narrowByTest_84 : decode cX6_narrowByTest 84 = .ok (.bipush 62, 2) := by decide +kernel
theorem dX6_narrowByTest_86 : decode cX6_narrowByTest 86 = .ok (.if_icmp .eq 15, 3) := by decide +kernel
theorem dX6_narrowByTest_89 : decode cX6_narrowByTest 89 = .ok (.aload_n 0, 1) := by decide +kernel
theorem dX6_narrowByTest_90 : decode cX6_narrowByTest 90 = .ok (.iload_n 1, 1) := by decide +kernel
theorem dX6_narrowByTest_91 : decode cX6_narrowByTest 91 = .ok (.lload 4, 2) := by decide +kernel
theorem dX6_narrowByTest_93 : decode cX6_narrowByTest 93 = .ok (.lload 9, 2) := by decide +kernel
theorem dX6_narrowByTest_95 : decode cX6_narrowByTest 95 = .ok (.lload 6, 2) := by decide +kernel
theorem dX6_narrowByTest_97 : decode cX6_narrowByTest 97 = .ok (.lsub, 1) := by decide +kernel
theorem dX6_narrowByTest_98 : decode cX6_narrowByTest 98 = .ok (.invokevirtual 46, 3) := by decide +kernel
theorem dX6_narrowByTest_101 : decode cX6_narrowByTest 101 = .ok (.iload 8, 2) := by decide +kernel
theorem dX6_narrowByTest_103 : decode cX6_narrowByTest 103 = .ok (.bipush 60, 2) := by decide +kernel
theorem dX6_narrowByTest_105 : decode cX6_narrowByTest 105 = .ok (.if_icmp .eq 16, 3) := by decide +kernel
theorem dX6_narrowByTest_108 : decode cX6_narrowByTest 108 = .ok (.aload_n 0, 1) := by decide +kernel
theorem dX6_narrowByTest_109 : decode cX6_narrowByTest 109 = .ok (.iload_n 1, 1) := by decide +kernel
theorem dX6_narrowByTest_110 : decode cX6_narrowByTest 110 = .ok (.lload 4, 2) := by decide +kernel
theorem dX6_narrowByTest_112 : decode cX6_narrowByTest 112 = .ok (.lneg, 1) := by decide +kernel
theorem dX6_narrowByTest_113 : decode cX6_narrowByTest 113 = .ok (.lload 9, 2) := by decide +kernel
theorem dX6_narrowByTest_115 : decode cX6_narrowByTest 115 = .ok (.lload 6, 2) := by decide +kernel
theorem dX6_narrowByTest_117 : decode cX6_narrowByTest 117 = .ok (.ladd, 1) := by decide +kernel
theorem dX6_narrowByTest_118 : decode cX6_narrowByTest 118 = .ok (.invokevirtual 46, 3) := by decide +kernel
theorem dX6_narrowByTest_121 : decode cX6_narrowByTest 121 = .ok (.return_, 1) := by decide +kernel
theorem dX6_narrow_0 : decode cX6_narrow 0 = .ok (.lload_n 2, 1) := by decide +kernel
theorem dX6_narrow_1 : decode cX6_narrow 1 = .ok (.lconst 0, 1) := by decide +kernel
theorem dX6_narrow_2 : decode cX6_narrow 2 = .ok (.lcmp, 1) := by decide +kernel
theorem dX6_narrow_3 : decode cX6_narrow 3 = .ok (.ifCond .le 27, 3) := by decide +kernel
theorem dX6_narrow_6 : decode cX6_narrow 6 = .ok (.aload_n 0, 1) := by decide +kernel
theorem dX6_narrow_7 : decode cX6_narrow 7 = .ok (.getfield 28, 3) := by decide +kernel
theorem dX6_narrow_10 : decode cX6_narrow 10 = .ok (.iload_n 1, 1) := by decide +kernel
theorem dX6_narrow_11 : decode cX6_narrow 11 = .ok (.aload_n 0, 1) := by decide +kernel
theorem dX6_narrow_12 : decode cX6_narrow 12 = .ok (.getfield 28, 3) := by decide +kernel
theorem dX6_narrow_15 : decode cX6_narrow 15 = .ok (.iload_n 1, 1) := by decide +kernel
theorem dX6_narrow_16 : decode cX6_narrow 16 = .ok (.laload, 1) := by decide +kernel
theorem dX6_narrow_17 : decode cX6_narrow 17 = .ok (.lload 4, 2) := by decide +kernel
theorem dX6_narrow_19 : decode cX6_narrow 19 = .ok (.lload_n 2, 1) := by decide +kernel
theorem dX6_narrow_20 : decode cX6_narrow 20 = .ok (.invokestatic 50, 3) := by decide +kernel
theorem dX6_narrow_23 : decode cX6_narrow 23 = .ok (.invokestatic 56, 3) := by decide +kernel
theorem dX6_narrow_26 : decode cX6_narrow 26 = .ok (.lastore, 1) := by decide +kernel
theorem dX6_narrow_27 : decode cX6_narrow 27 = .ok (.goto 51, 3) := by decide +kernel
theorem dX6_narrow_30 : decode cX6_narrow 30 = .ok (.lload_n 2, 1) := by decide +kernel
theorem dX6_narrow_31 : decode cX6_narrow 31 = .ok (.lconst 0, 1) := by decide +kernel
theorem dX6_narrow_32 : decode cX6_narrow 32 = .ok (.lcmp, 1) := by decide +kernel
theorem dX6_narrow_33 : decode cX6_narrow 33 = .ok (.ifCond .ge 29, 3) := by decide +kernel
theorem dX6_narrow_36 : decode cX6_narrow 36 = .ok (.aload_n 0, 1) := by decide +kernel
theorem dX6_narrow_37 : decode cX6_narrow 37 = .ok (.getfield 24, 3) := by decide +kernel
theorem dX6_narrow_40 : decode cX6_narrow 40 = .ok (.iload_n 1, 1) := by decide +kernel
theorem dX6_narrow_41 : decode cX6_narrow 41 = .ok (.aload_n 0, 1) := by decide +kernel
theorem dX6_narrow_42 : decode cX6_narrow 42 = .ok (.getfield 24, 3) := by decide +kernel
theorem dX6_narrow_45 : decode cX6_narrow 45 = .ok (.iload_n 1, 1) := by decide +kernel
theorem dX6_narrow_46 : decode cX6_narrow 46 = .ok (.laload, 1) := by decide +kernel
theorem dX6_narrow_47 : decode cX6_narrow 47 = .ok (.lload 4, 2) := by decide +kernel
theorem dX6_narrow_49 : decode cX6_narrow 49 = .ok (.lload_n 2, 1) := by decide +kernel
theorem dX6_narrow_50 : decode cX6_narrow 50 = .ok (.lneg, 1) := by decide +kernel
theorem dX6_narrow_51 : decode cX6_narrow 51 = .ok (.invokestatic 50, 3) := by decide +kernel
theorem dX6_narrow_54 : decode cX6_narrow 54 = .ok (.lneg, 1) := by decide +kernel
theorem dX6_narrow_55 : decode cX6_narrow 55 = .ok (.invokestatic 59, 3) := by decide +kernel
theorem dX6_narrow_58 : decode cX6_narrow 58 = .ok (.lastore, 1) := by decide +kernel
theorem dX6_narrow_59 : decode cX6_narrow 59 = .ok (.goto 19, 3) := by decide +kernel
theorem dX6_narrow_62 : decode cX6_narrow 62 = .ok (.lload 4, 2) := by decide +kernel
theorem dX6_narrow_64 : decode cX6_narrow 64 = .ok (.lconst 0, 1) := by decide +kernel
theorem dX6_narrow_65 : decode cX6_narrow 65 = .ok (.lcmp, 1) := by decide +kernel
theorem dX6_narrow_66 : decode cX6_narrow 66 = .ok (.ifCond .ge 12, 3) := by decide +kernel
theorem dX6_narrow_69 : decode cX6_narrow 69 = .ok (.aload_n 0, 1) := by decide +kernel
theorem dX6_narrow_70 : decode cX6_narrow 70 = .ok (.getfield 28, 3) := by decide +kernel
theorem dX6_narrow_73 : decode cX6_narrow 73 = .ok (.iload_n 1, 1) := by decide +kernel
theorem dX6_narrow_74 : decode cX6_narrow 74 = .ok (.ldc2_w 44, 3) := by decide +kernel
theorem dX6_narrow_77 : decode cX6_narrow 77 = .ok (.lastore, 1) := by decide +kernel
theorem dX6_narrow_78 : decode cX6_narrow 78 = .ok (.return_, 1) := by decide +kernel
theorem dX6_spans_0 : decode cX6_spans 0 = .ok (.aload_n 0, 1) := by decide +kernel
theorem dX6_spans_1 : decode cX6_spans 1 = .ok (.getfield 24, 3) := by decide +kernel
theorem dX6_spans_4 : decode cX6_spans 4 = .ok (.iload_n 1, 1) := by decide +kernel
theorem dX6_spans_5 : decode cX6_spans 5 = .ok (.laload, 1) := by decide +kernel
theorem dX6_spans_6 : decode cX6_spans 6 = .ok (.lload_n 2, 1) := by decide +kernel
theorem dX6_spans_7 : decode cX6_spans 7 = .ok (.lcmp, 1) := by decide +kernel
theorem dX6_spans_8 : decode cX6_spans 8 = .ok (.ifCond .gt 18, 3) := by decide +kernel
theorem dX6_spans_11 : decode cX6_spans 11 = .ok (.lload_n 2, 1) := by decide +kernel
theorem dX6_spans_12 : decode cX6_spans 12 = .ok (.aload_n 0, 1) := by decide +kernel
theorem dX6_spans_13 : decode cX6_spans 13 = .ok (.getfield 28, 3) := by decide +kernel
theorem dX6_spans_16 : decode cX6_spans 16 = .ok (.iload_n 1, 1) := by decide +kernel
theorem dX6_spans_17 : decode cX6_spans 17 = .ok (.laload, 1) := by decide +kernel
theorem dX6_spans_18 : decode cX6_spans 18 = .ok (.lcmp, 1) := by decide +kernel
theorem dX6_spans_19 : decode cX6_spans 19 = .ok (.ifCond .gt 7, 3) := by decide +kernel
theorem dX6_spans_22 : decode cX6_spans 22 = .ok (.iconst 1, 1) := by decide +kernel
theorem dX6_spans_23 : decode cX6_spans 23 = .ok (.goto 4, 3) := by decide +kernel
theorem dX6_spans_26 : decode cX6_spans 26 = .ok (.iconst 0, 1) := by decide +kernel
theorem dX6_spans_27 : decode cX6_spans 27 = .ok (.ireturn, 1) := by decide +kernel
theorem dX6_firstAt_0 : decode cX6_firstAt 0 = .ok (.iconst 0, 1) := by decide +kernel
theorem dX6_firstAt_1 : decode cX6_firstAt 1 = .ok (.istore_n 2, 1) := by decide +kernel
theorem dX6_firstAt_2 : decode cX6_firstAt 2 = .ok (.iload_n 2, 1) := by decide +kernel
theorem dX6_firstAt_3 : decode cX6_firstAt 3 = .ok (.aload_n 0, 1) := by decide +kernel
theorem dX6_firstAt_4 : decode cX6_firstAt 4 = .ok (.getfield 31, 3) := by decide +kernel
theorem dX6_firstAt_7 : decode cX6_firstAt 7 = .ok (.if_icmp .ge 21, 3) := by decide +kernel
theorem dX6_firstAt_10 : decode cX6_firstAt 10 = .ok (.aload_n 0, 1) := by decide +kernel
theorem dX6_firstAt_11 : decode cX6_firstAt 11 = .ok (.iload_n 2, 1) := by decide +kernel
theorem dX6_firstAt_12 : decode cX6_firstAt 12 = .ok (.iload_n 1, 1) := by decide +kernel
theorem dX6_firstAt_13 : decode cX6_firstAt 13 = .ok (.i2l, 1) := by decide +kernel
theorem dX6_firstAt_14 : decode cX6_firstAt 14 = .ok (.invokevirtual 62, 3) := by decide +kernel
theorem dX6_firstAt_17 : decode cX6_firstAt 17 = .ok (.ifCond .eq 5, 3) := by decide +kernel
theorem dX6_firstAt_20 : decode cX6_firstAt 20 = .ok (.iload_n 2, 1) := by decide +kernel
theorem dX6_firstAt_21 : decode cX6_firstAt 21 = .ok (.ireturn, 1) := by decide +kernel
theorem dX6_firstAt_22 : decode cX6_firstAt 22 = .ok (.iinc 2 1, 3) := by decide +kernel
theorem dX6_firstAt_25 : decode cX6_firstAt 25 = .ok (.goto (-23), 3) := by decide +kernel
theorem dX6_firstAt_28 : decode cX6_firstAt 28 = .ok (.iconst (-1), 1) := by decide +kernel
theorem dX6_firstAt_29 : decode cX6_firstAt 29 = .ok (.ireturn, 1) := by decide +kernel
theorem dX6_leastHead_0 : decode cX6_leastHead 0 = .ok (.iload_n 1, 1) := by decide +kernel
theorem dX6_leastHead_1 : decode cX6_leastHead 1 = .ok (.i2l, 1) := by decide +kernel
theorem dX6_leastHead_2 : decode cX6_leastHead 2 = .ok (.lconst 0, 1) := by decide +kernel
theorem dX6_leastHead_3 : decode cX6_leastHead 3 = .ok (.aload_n 0, 1) := by decide +kernel
theorem dX6_leastHead_4 : decode cX6_leastHead 4 = .ok (.getfield 31, 3) := by decide +kernel
theorem dX6_leastHead_7 : decode cX6_leastHead 7 = .ok (.iconst 1, 1) := by decide +kernel
theorem dX6_leastHead_8 : decode cX6_leastHead 8 = .ok (.isub, 1) := by decide +kernel
theorem dX6_leastHead_9 : decode cX6_leastHead 9 = .ok (.i2l, 1) := by decide +kernel
theorem dX6_leastHead_10 : decode cX6_leastHead 10 = .ok (.invokestatic 66, 3) := by decide +kernel
theorem dX6_leastHead_13 : decode cX6_leastHead 13 = .ok (.ifCond .ne 5, 3) := by decide +kernel
theorem dX6_leastHead_16 : decode cX6_leastHead 16 = .ok (.iconst (-1), 1) := by decide +kernel
theorem dX6_leastHead_17 : decode cX6_leastHead 17 = .ok (.ireturn, 1) := by decide +kernel
theorem dX6_leastHead_18 : decode cX6_leastHead 18 = .ok (.aload_n 0, 1) := by decide +kernel
theorem dX6_leastHead_19 : decode cX6_leastHead 19 = .ok (.getfield 24, 3) := by decide +kernel
theorem dX6_leastHead_22 : decode cX6_leastHead 22 = .ok (.iload_n 1, 1) := by decide +kernel
theorem dX6_leastHead_23 : decode cX6_leastHead 23 = .ok (.laload, 1) := by decide +kernel
theorem dX6_leastHead_24 : decode cX6_leastHead 24 = .ok (.lstore_n 2, 1) := by decide +kernel
theorem dX6_leastHead_25 : decode cX6_leastHead 25 = .ok (.iconst 0, 1) := by decide +kernel
theorem dX6_leastHead_26 : decode cX6_leastHead 26 = .ok (.istore 4, 2) := by decide +kernel
theorem dX6_leastHead_28 : decode cX6_leastHead 28 = .ok (.iload 4, 2) := by decide +kernel
theorem dX6_leastHead_30 : decode cX6_leastHead 30 = .ok (.iload_n 1, 1) := by decide +kernel
theorem dX6_leastHead_31 : decode cX6_leastHead 31 = .ok (.if_icmp .ge 44, 3) := by decide +kernel
theorem dX6_leastHead_34 : decode cX6_leastHead 34 = .ok (.iconst 0, 1) := by decide +kernel
theorem dX6_leastHead_35 : decode cX6_leastHead 35 = .ok (.istore 5, 2) := by decide +kernel
theorem dX6_leastHead_37 : decode cX6_leastHead 37 = .ok (.iload 5, 2) := by decide +kernel
theorem dX6_leastHead_39 : decode cX6_leastHead 39 = .ok (.iload_n 1, 1) := by decide +kernel
theorem dX6_leastHead_40 : decode cX6_leastHead 40 = .ok (.if_icmp .ge 29, 3) := by decide +kernel
theorem dX6_leastHead_43 : decode cX6_leastHead 43 = .ok (.aload_n 0, 1) := by decide +kernel
theorem dX6_leastHead_44 : decode cX6_leastHead 44 = .ok (.iload 5, 2) := by decide +kernel
theorem dX6_leastHead_46 : decode cX6_leastHead 46 = .ok (.lload_n 2, 1) := by decide +kernel
theorem dX6_leastHead_47 : decode cX6_leastHead 47 = .ok (.invokevirtual 62, 3) := by decide +kernel
theorem dX6_leastHead_50 : decode cX6_leastHead 50 = .ok (.ifCond .eq 13, 3) := by decide +kernel
theorem dX6_leastHead_53 : decode cX6_leastHead 53 = .ok (.aload_n 0, 1) := by decide +kernel
theorem dX6_leastHead_54 : decode cX6_leastHead 54 = .ok (.getfield 28, 3) := by decide +kernel
theorem dX6_leastHead_57 : decode cX6_leastHead 57 = .ok (.iload 5, 2) := by decide +kernel
theorem dX6_leastHead_59 : decode cX6_leastHead 59 = .ok (.laload, 1) := by decide +kernel
theorem dX6_leastHead_60 : decode cX6_leastHead 60 = .ok (.lconst 1, 1) := by decide +kernel
theorem dX6_leastHead_61 : decode cX6_leastHead 61 = .ok (.ladd, 1) := by decide +kernel
theorem dX6_leastHead_62 : decode cX6_leastHead 62 = .ok (.lstore_n 2, 1) := by decide +kernel
theorem dX6_leastHead_63 : decode cX6_leastHead 63 = .ok (.iinc 5 1, 3) := by decide +kernel
theorem dX6_leastHead_66 : decode cX6_leastHead 66 = .ok (.goto (-29), 3) := by decide +kernel
theorem dX6_leastHead_69 : decode cX6_leastHead 69 = .ok (.iinc 4 1, 3) := by decide +kernel
theorem dX6_leastHead_72 : decode cX6_leastHead 72 = .ok (.goto (-44), 3) := by decide +kernel
theorem dX6_leastHead_75 : decode cX6_leastHead 75 = .ok (.lload_n 2, 1) := by decide +kernel
theorem dX6_leastHead_76 : decode cX6_leastHead 76 = .ok (.aload_n 0, 1) := by decide +kernel
theorem dX6_leastHead_77 : decode cX6_leastHead 77 = .ok (.getfield 28, 3) := by decide +kernel
theorem dX6_leastHead_80 : decode cX6_leastHead 80 = .ok (.iload_n 1, 1) := by decide +kernel
theorem dX6_leastHead_81 : decode cX6_leastHead 81 = .ok (.laload, 1) := by decide +kernel
theorem dX6_leastHead_82 : decode cX6_leastHead 82 = .ok (.lcmp, 1) := by decide +kernel
theorem dX6_leastHead_83 : decode cX6_leastHead 83 = .ok (.ifCond .gt 8, 3) := by decide +kernel
theorem dX6_leastHead_86 : decode cX6_leastHead 86 = .ok (.lload_n 2, 1) := by decide +kernel
theorem dX6_leastHead_87 : decode cX6_leastHead 87 = .ok (.l2i, 1) := by decide +kernel
theorem dX6_leastHead_88 : decode cX6_leastHead 88 = .ok (.goto 4, 3) := by decide +kernel
theorem dX6_leastHead_91 : decode cX6_leastHead 91 = .ok (.iconst (-1), 1) := by decide +kernel
theorem dX6_leastHead_92 : decode cX6_leastHead 92 = .ok (.ireturn, 1) := by decide +kernel
theorem dX7_init_0 : decode cX7_init 0 = .ok (.aload_n 0, 1) := by decide +kernel
theorem dX7_init_1 : decode cX7_init 1 = .ok (.invokespecial 1, 3) := by decide +kernel
theorem dX7_init_4 : decode cX7_init 4 = .ok (.aload_n 0, 1) := by decide +kernel
theorem dX7_init_5 : decode cX7_init 5 = .ok (.new 7, 3) := by decide +kernel
theorem dX7_init_8 : decode cX7_init 8 = .ok (.dup, 1) := by decide +kernel
theorem dX7_init_9 : decode cX7_init 9 = .ok (.invokespecial 9, 3) := by decide +kernel
theorem dX7_init_12 : decode cX7_init 12 = .ok (.putfield 10, 3) := by decide +kernel
theorem dX7_init_15 : decode cX7_init 15 = .ok (.aload_n 0, 1) := by decide +kernel
theorem dX7_init_16 : decode cX7_init 16 = .ok (.new 16, 3) := by decide +kernel
theorem dX7_init_19 : decode cX7_init 19 = .ok (.dup, 1) := by decide +kernel
theorem dX7_init_20 : decode cX7_init 20 = .ok (.invokespecial 18, 3) := by decide +kernel
theorem dX7_init_23 : decode cX7_init 23 = .ok (.putfield 19, 3) := by decide +kernel
theorem dX7_init_26 : decode cX7_init 26 = .ok (.aload_n 0, 1) := by decide +kernel
theorem dX7_init_27 : decode cX7_init 27 = .ok (.new 23, 3) := by decide +kernel
theorem dX7_init_30 : decode cX7_init 30 = .ok (.dup, 1) := by decide +kernel
theorem dX7_init_31 : decode cX7_init 31 = .ok (.invokespecial 25, 3) := by decide +kernel
theorem dX7_init_34 : decode cX7_init 34 = .ok (.putfield 26, 3) := by decide +kernel
theorem dX7_init_37 : decode cX7_init 37 = .ok (.aload_n 0, 1) := by decide +kernel
theorem dX7_init_38 : decode cX7_init 38 = .ok (.new 30, 3) := by decide +kernel
theorem dX7_init_41 : decode cX7_init 41 = .ok (.dup, 1) := by decide +kernel
theorem dX7_init_42 : decode cX7_init 42 = .ok (.invokespecial 32, 3) := by decide +kernel
theorem dX7_init_45 : decode cX7_init 45 = .ok (.putfield 33, 3) := by decide +kernel
theorem dX7_init_48 : decode cX7_init 48 = .ok (.aload_n 0, 1) := by decide +kernel
theorem dX7_init_49 : decode cX7_init 49 = .ok (.new 37, 3) := by decide +kernel
theorem dX7_init_52 : decode cX7_init 52 = .ok (.dup, 1) := by decide +kernel
theorem dX7_init_53 : decode cX7_init 53 = .ok (.invokespecial 39, 3) := by decide +kernel
theorem dX7_init_56 : decode cX7_init 56 = .ok (.putfield 40, 3) := by decide +kernel
theorem dX7_init_59 : decode cX7_init 59 = .ok (.aload_n 0, 1) := by decide +kernel
theorem dX7_init_60 : decode cX7_init 60 = .ok (.new 37, 3) := by decide +kernel
theorem dX7_init_63 : decode cX7_init 63 = .ok (.dup, 1) := by decide +kernel
theorem dX7_init_64 : decode cX7_init 64 = .ok (.invokespecial 39, 3) := by decide +kernel
theorem dX7_init_67 : decode cX7_init 67 = .ok (.putfield 44, 3) := by decide +kernel
theorem dX7_init_70 : decode cX7_init 70 = .ok (.aload_n 0, 1) := by decide +kernel
theorem dX7_init_71 : decode cX7_init 71 = .ok (.new 47, 3) := by decide +kernel
theorem dX7_init_74 : decode cX7_init 74 = .ok (.dup, 1) := by decide +kernel
theorem dX7_init_75 : decode cX7_init 75 = .ok (.invokespecial 49, 3) := by decide +kernel
theorem dX7_init_78 : decode cX7_init 78 = .ok (.putfield 50, 3) := by decide +kernel
theorem dX7_init_81 : decode cX7_init 81 = .ok (.aload_n 0, 1) := by decide +kernel
theorem dX7_init_82 : decode cX7_init 82 = .ok (.new 54, 3) := by decide +kernel
theorem dX7_init_85 : decode cX7_init 85 = .ok (.dup, 1) := by decide +kernel
theorem dX7_init_86 : decode cX7_init 86 = .ok (.invokespecial 56, 3) := by decide +kernel
theorem dX7_init_89 : decode cX7_init 89 = .ok (.putfield 57, 3) := by decide +kernel
theorem dX7_init_92 : decode cX7_init 92 = .ok (.return_, 1) := by decide +kernel
theorem dX7_rain_0 : decode cX7_rain 0 = .ok (.iload_n 1, 1) := by decide +kernel
theorem dX7_rain_1 : decode cX7_rain 1 = .ok (.i2l, 1) := by decide +kernel
theorem dX7_rain_2 : decode cX7_rain 2 = .ok (.lconst 1, 1) := by decide +kernel
theorem dX7_rain_3 : decode cX7_rain 3 = .ok (.ldc2_w 61, 3) := by decide +kernel
theorem dX7_rain_6 : decode cX7_rain 6 = .ok (.invokestatic 63, 3) := by decide +kernel
theorem dX7_rain_9 : decode cX7_rain 9 = .ok (.ifCond .eq 27, 3) := by decide +kernel
theorem dX7_rain_12 : decode cX7_rain 12 = .ok (.iload_n 2, 1) := by decide +kernel
theorem dX7_rain_13 : decode cX7_rain 13 = .ok (.i2l, 1) := by decide +kernel
theorem dX7_rain_14 : decode cX7_rain 14 = .ok (.lconst 1, 1) := by decide +kernel
theorem dX7_rain_15 : decode cX7_rain 15 = .ok (.ldc2_w 67, 3) := by decide +kernel
theorem dX7_rain_18 : decode cX7_rain 18 = .ok (.invokestatic 63, 3) := by decide +kernel
theorem dX7_rain_21 : decode cX7_rain 21 = .ok (.ifCond .eq 15, 3) := by decide +kernel
theorem dX7_rain_24 : decode cX7_rain 24 = .ok (.iload_n 3, 1) := by decide +kernel
theorem dX7_rain_25 : decode cX7_rain 25 = .ok (.i2l, 1) := by decide +kernel
theorem dX7_rain_26 : decode cX7_rain 26 = .ok (.lconst 1, 1) := by decide +kernel
theorem dX7_rain_27 : decode cX7_rain 27 = .ok (.ldc2_w 69, 3) := by decide +kernel
theorem dX7_rain_30 : decode cX7_rain 30 = .ok (.invokestatic 63, 3) := by decide +kernel
theorem dX7_rain_33 : decode cX7_rain 33 = .ok (.ifCond .ne 5, 3) := by decide +kernel
theorem dX7_rain_36 : decode cX7_rain 36 = .ok (.iconst (-1), 1) := by decide +kernel
theorem dX7_rain_37 : decode cX7_rain 37 = .ok (.ireturn, 1) := by decide +kernel
theorem dX7_rain_38 : decode cX7_rain 38 = .ok (.aload_n 0, 1) := by decide +kernel
theorem dX7_rain_39 : decode cX7_rain 39 = .ok (.getfield 10, 3) := by decide +kernel
theorem dX7_rain_42 : decode cX7_rain 42 = .ok (.iload_n 1, 1) := by decide +kernel
theorem dX7_rain_43 : decode cX7_rain 43 = .ok (.iload_n 2, 1) := by decide +kernel
theorem dX7_rain_44 : decode cX7_rain 44 = .ok (.iload_n 3, 1) := by decide +kernel
theorem dX7_rain_45 : decode cX7_rain 45 = .ok (.invokevirtual 71, 3) := by decide +kernel
theorem dX7_rain_48 : decode cX7_rain 48 = .ok (.ireturn, 1) := by decide +kernel
theorem dX7_volume_0 : decode cX7_volume 0 = .ok (.aload_n 0, 1) := by decide +kernel
theorem dX7_volume_1 : decode cX7_volume 1 = .ok (.iload_n 1, 1) := by decide +kernel
theorem dX7_volume_2 : decode cX7_volume 2 = .ok (.iload_n 2, 1) := by decide +kernel
theorem dX7_volume_3 : decode cX7_volume 3 = .ok (.iload_n 3, 1) := by decide +kernel
theorem dX7_volume_4 : decode cX7_volume 4 = .ok (.invokevirtual 75, 3) := by decide +kernel
theorem dX7_volume_7 : decode cX7_volume 7 = .ok (.istore 4, 2) := by decide +kernel
theorem dX7_volume_9 : decode cX7_volume 9 = .ok (.iload 4, 2) := by decide +kernel
theorem dX7_volume_11 : decode cX7_volume 11 = .ok (.iconst (-1), 1) := by decide +kernel
theorem dX7_volume_12 : decode cX7_volume 12 = .ok (.if_icmp .ne 9, 3) := by decide +kernel
theorem dX7_volume_15 : decode cX7_volume 15 = .ok (.ldc2_w 78, 3) := by decide +kernel
theorem dX7_volume_18 : decode cX7_volume 18 = .ok (.goto 18, 3) := by decide +kernel
theorem dX7_volume_21 : decode cX7_volume 21 = .ok (.lconst 0, 1) := by decide +kernel
theorem dX7_volume_22 : decode cX7_volume 22 = .ok (.aload_n 0, 1) := by decide +kernel
theorem dX7_volume_23 : decode cX7_volume 23 = .ok (.getfield 10, 3) := by decide +kernel
theorem dX7_volume_26 : decode cX7_volume 26 = .ok (.iload 4, 2) := by decide +kernel
theorem dX7_volume_28 : decode cX7_volume 28 = .ok (.iload_n 2, 1) := by decide +kernel
theorem dX7_volume_29 : decode cX7_volume 29 = .ok (.iload_n 3, 1) := by decide +kernel
theorem dX7_volume_30 : decode cX7_volume 30 = .ok (.invokevirtual 80, 3) := by decide +kernel
theorem dX7_volume_33 : decode cX7_volume 33 = .ok (.invokestatic 84, 3) := by decide +kernel
theorem dX7_volume_36 : decode cX7_volume 36 = .ok (.lreturn, 1) := by decide +kernel
theorem dX7_by_0 : decode cX7_by 0 = .ok (.aload_n 0, 1) := by decide +kernel
theorem dX7_by_1 : decode cX7_by 1 = .ok (.iload_n 1, 1) := by decide +kernel
theorem dX7_by_2 : decode cX7_by 2 = .ok (.iload_n 2, 1) := by decide +kernel
theorem dX7_by_3 : decode cX7_by 3 = .ok (.iload_n 3, 1) := by decide +kernel
theorem dX7_by_4 : decode cX7_by 4 = .ok (.invokevirtual 75, 3) := by decide +kernel
theorem dX7_by_7 : decode cX7_by 7 = .ok (.istore 4, 2) := by decide +kernel
theorem dX7_by_9 : decode cX7_by 9 = .ok (.iload 4, 2) := by decide +kernel
theorem dX7_by_11 : decode cX7_by 11 = .ok (.iconst (-1), 1) := by decide +kernel
theorem dX7_by_12 : decode cX7_by 12 = .ok (.if_icmp .ne 7, 3) := by decide +kernel
theorem dX7_by_15 : decode cX7_by 15 = .ok (.iconst (-1), 1) := by decide +kernel
theorem dX7_by_16 : decode cX7_by 16 = .ok (.goto 12, 3) := by decide +kernel
theorem dX7_by_19 : decode cX7_by 19 = .ok (.aload_n 0, 1) := by decide +kernel
theorem dX7_by_20 : decode cX7_by 20 = .ok (.getfield 10, 3) := by decide +kernel
theorem dX7_by_23 : decode cX7_by 23 = .ok (.iload 4, 2) := by decide +kernel
theorem dX7_by_25 : decode cX7_by 25 = .ok (.invokevirtual 90, 3) := by decide +kernel
theorem dX7_by_28 : decode cX7_by 28 = .ok (.ireturn, 1) := by decide +kernel
theorem dX7_outflow_0 : decode cX7_outflow 0 = .ok (.iload_n 2, 1) := by decide +kernel
theorem dX7_outflow_1 : decode cX7_outflow 1 = .ok (.i2l, 1) := by decide +kernel
theorem dX7_outflow_2 : decode cX7_outflow 2 = .ok (.lconst 0, 1) := by decide +kernel
theorem dX7_outflow_3 : decode cX7_outflow 3 = .ok (.ldc2_w 94, 3) := by decide +kernel
theorem dX7_outflow_6 : decode cX7_outflow 6 = .ok (.invokestatic 63, 3) := by decide +kernel
theorem dX7_outflow_9 : decode cX7_outflow 9 = .ok (.ifCond .eq 14, 3) := by decide +kernel
theorem dX7_outflow_12 : decode cX7_outflow 12 = .ok (.lload_n 3, 1) := by decide +kernel
theorem dX7_outflow_13 : decode cX7_outflow 13 = .ok (.lconst 0, 1) := by decide +kernel
theorem dX7_outflow_14 : decode cX7_outflow 14 = .ok (.ldc2_w 96, 3) := by decide +kernel
theorem dX7_outflow_17 : decode cX7_outflow 17 = .ok (.invokestatic 63, 3) := by decide +kernel
theorem dX7_outflow_20 : decode cX7_outflow 20 = .ok (.ifCond .ne 5, 3) := by decide +kernel
theorem dX7_outflow_23 : decode cX7_outflow 23 = .ok (.iconst (-1), 1) := by decide +kernel
theorem dX7_outflow_24 : decode cX7_outflow 24 = .ok (.ireturn, 1) := by decide +kernel
theorem dX7_outflow_25 : decode cX7_outflow 25 = .ok (.aload_n 0, 1) := by decide +kernel
theorem dX7_outflow_26 : decode cX7_outflow 26 = .ok (.getfield 10, 3) := by decide +kernel
theorem dX7_outflow_29 : decode cX7_outflow 29 = .ok (.iload_n 1, 1) := by decide +kernel
theorem dX7_outflow_30 : decode cX7_outflow 30 = .ok (.iload_n 2, 1) := by decide +kernel
theorem dX7_outflow_31 : decode cX7_outflow 31 = .ok (.lload_n 3, 1) := by decide +kernel
theorem dX7_outflow_32 : decode cX7_outflow 32 = .ok (.invokevirtual 98, 3) := by decide +kernel
theorem dX7_outflow_35 : decode cX7_outflow 35 = .ok (.lstore 5, 2) := by decide +kernel
theorem dX7_outflow_37 : decode cX7_outflow 37 = .ok (.lload 5, 2) := by decide +kernel
theorem dX7_outflow_39 : decode cX7_outflow 39 = .ok (.lconst 0, 1) := by decide +kernel
theorem dX7_outflow_40 : decode cX7_outflow 40 = .ok (.ldc2_w 69, 3) := by decide +kernel
theorem dX7_outflow_43 : decode cX7_outflow 43 = .ok (.invokestatic 63, 3) := by decide +kernel
theorem dX7_outflow_46 : decode cX7_outflow 46 = .ok (.ifCond .eq 9, 3) := by decide +kernel
theorem dX7_outflow_49 : decode cX7_outflow 49 = .ok (.lload 5, 2) := by decide +kernel
theorem dX7_outflow_51 : decode cX7_outflow 51 = .ok (.l2i, 1) := by decide +kernel
theorem dX7_outflow_52 : decode cX7_outflow 52 = .ok (.goto 4, 3) := by decide +kernel
theorem dX7_outflow_55 : decode cX7_outflow 55 = .ok (.iconst (-1), 1) := by decide +kernel
theorem dX7_outflow_56 : decode cX7_outflow 56 = .ok (.ireturn, 1) := by decide +kernel
theorem dX7_level_0 : decode cX7_level 0 = .ok (.iload_n 1, 1) := by decide +kernel
theorem dX7_level_1 : decode cX7_level 1 = .ok (.i2l, 1) := by decide +kernel
theorem dX7_level_2 : decode cX7_level 2 = .ok (.ldc2_w 102, 3) := by decide +kernel
theorem dX7_level_5 : decode cX7_level 5 = .ok (.ldc2_w 69, 3) := by decide +kernel
theorem dX7_level_8 : decode cX7_level 8 = .ok (.invokestatic 63, 3) := by decide +kernel
theorem dX7_level_11 : decode cX7_level 11 = .ok (.ifCond .eq 15, 3) := by decide +kernel
theorem dX7_level_14 : decode cX7_level 14 = .ok (.iload_n 2, 1) := by decide +kernel
theorem dX7_level_15 : decode cX7_level 15 = .ok (.i2l, 1) := by decide +kernel
theorem dX7_level_16 : decode cX7_level 16 = .ok (.lconst 0, 1) := by decide +kernel
theorem dX7_level_17 : decode cX7_level 17 = .ok (.ldc2_w 94, 3) := by decide +kernel
theorem dX7_level_20 : decode cX7_level 20 = .ok (.invokestatic 63, 3) := by decide +kernel
theorem dX7_level_23 : decode cX7_level 23 = .ok (.ifCond .ne 5, 3) := by decide +kernel
theorem dX7_level_26 : decode cX7_level 26 = .ok (.iconst (-1), 1) := by decide +kernel
theorem dX7_level_27 : decode cX7_level 27 = .ok (.ireturn, 1) := by decide +kernel
theorem dX7_level_28 : decode cX7_level 28 = .ok (.aload_n 0, 1) := by decide +kernel
theorem dX7_level_29 : decode cX7_level 29 = .ok (.getfield 19, 3) := by decide +kernel
theorem dX7_level_32 : decode cX7_level 32 = .ok (.iload_n 1, 1) := by decide +kernel
theorem dX7_level_33 : decode cX7_level 33 = .ok (.iload_n 2, 1) := by decide +kernel
theorem dX7_level_34 : decode cX7_level 34 = .ok (.invokevirtual 104, 3) := by decide +kernel
theorem dX7_level_37 : decode cX7_level 37 = .ok (.ireturn, 1) := by decide +kernel
theorem dX7_area_0 : decode cX7_area 0 = .ok (.aload_n 0, 1) := by decide +kernel
theorem dX7_area_1 : decode cX7_area 1 = .ok (.getfield 19, 3) := by decide +kernel
theorem dX7_area_4 : decode cX7_area 4 = .ok (.iload_n 1, 1) := by decide +kernel
theorem dX7_area_5 : decode cX7_area 5 = .ok (.invokevirtual 107, 3) := by decide +kernel
theorem dX7_area_8 : decode cX7_area 8 = .ok (.ifCond .eq 14, 3) := by decide +kernel
theorem dX7_area_11 : decode cX7_area 11 = .ok (.aload_n 0, 1) := by decide +kernel
theorem dX7_area_12 : decode cX7_area 12 = .ok (.getfield 19, 3) := by decide +kernel
theorem dX7_area_15 : decode cX7_area 15 = .ok (.iload_n 1, 1) := by decide +kernel
theorem dX7_area_16 : decode cX7_area 16 = .ok (.invokevirtual 111, 3) := by decide +kernel
theorem dX7_area_19 : decode cX7_area 19 = .ok (.goto 4, 3) := by decide +kernel
theorem dX7_area_22 : decode cX7_area 22 = .ok (.iconst (-1), 1) := by decide +kernel
theorem dX7_area_23 : decode cX7_area 23 = .ok (.ireturn, 1) := by decide +kernel
theorem dX7_content_0 : decode cX7_content 0 = .ok (.aload_n 0, 1) := by decide +kernel
theorem dX7_content_1 : decode cX7_content 1 = .ok (.getfield 19, 3) := by decide +kernel
theorem dX7_content_4 : decode cX7_content 4 = .ok (.iload_n 1, 1) := by decide +kernel
theorem dX7_content_5 : decode cX7_content 5 = .ok (.invokevirtual 107, 3) := by decide +kernel
theorem dX7_content_8 : decode cX7_content 8 = .ok (.ifCond .eq 14, 3) := by decide +kernel
theorem dX7_content_11 : decode cX7_content 11 = .ok (.aload_n 0, 1) := by decide +kernel
theorem dX7_content_12 : decode cX7_content 12 = .ok (.getfield 19, 3) := by decide +kernel
theorem dX7_content_15 : decode cX7_content 15 = .ok (.iload_n 1, 1) := by decide +kernel
theorem dX7_content_16 : decode cX7_content 16 = .ok (.invokevirtual 114, 3) := by decide +kernel
theorem dX7_content_19 : decode cX7_content 19 = .ok (.goto 6, 3) := by decide +kernel
theorem dX7_content_22 : decode cX7_content 22 = .ok (.ldc2_w 78, 3) := by decide +kernel
theorem dX7_content_25 : decode cX7_content 25 = .ok (.lreturn, 1) := by decide +kernel
theorem dX7_fill_0 : decode cX7_fill 0 = .ok (.aload_n 0, 1) := by decide +kernel
theorem dX7_fill_1 : decode cX7_fill 1 = .ok (.getfield 19, 3) := by decide +kernel
theorem dX7_fill_4 : decode cX7_fill 4 = .ok (.lload_n 1, 1) := by decide +kernel
theorem dX7_fill_5 : decode cX7_fill 5 = .ok (.invokevirtual 118, 3) := by decide +kernel
theorem dX7_fill_8 : decode cX7_fill 8 = .ok (.ireturn, 1) := by decide +kernel
theorem dX7_culvert_0 : decode cX7_culvert 0 = .ok (.iload_n 1, 1) := by decide +kernel
theorem dX7_culvert_1 : decode cX7_culvert 1 = .ok (.i2l, 1) := by decide +kernel
theorem dX7_culvert_2 : decode cX7_culvert 2 = .ok (.lconst 1, 1) := by decide +kernel
theorem dX7_culvert_3 : decode cX7_culvert 3 = .ok (.ldc2_w 67, 3) := by decide +kernel
theorem dX7_culvert_6 : decode cX7_culvert 6 = .ok (.invokestatic 63, 3) := by decide +kernel
theorem dX7_culvert_9 : decode cX7_culvert 9 = .ok (.ifCond .eq 40, 3) := by decide +kernel
theorem dX7_culvert_12 : decode cX7_culvert 12 = .ok (.iload_n 2, 1) := by decide +kernel
theorem dX7_culvert_13 : decode cX7_culvert 13 = .ok (.i2l, 1) := by decide +kernel
theorem dX7_culvert_14 : decode cX7_culvert 14 = .ok (.lconst 1, 1) := by decide +kernel
theorem dX7_culvert_15 : decode cX7_culvert 15 = .ok (.ldc2_w 67, 3) := by decide +kernel
theorem dX7_culvert_18 : decode cX7_culvert 18 = .ok (.invokestatic 63, 3) := by decide +kernel
theorem dX7_culvert_21 : decode cX7_culvert 21 = .ok (.ifCond .eq 28, 3) := by decide +kernel
theorem dX7_culvert_24 : decode cX7_culvert 24 = .ok (.iload_n 3, 1) := by decide +kernel
theorem dX7_culvert_25 : decode cX7_culvert 25 = .ok (.i2l, 1) := by decide +kernel
theorem dX7_culvert_26 : decode cX7_culvert 26 = .ok (.lconst 1, 1) := by decide +kernel
theorem dX7_culvert_27 : decode cX7_culvert 27 = .ok (.ldc2_w 69, 3) := by decide +kernel
theorem dX7_culvert_30 : decode cX7_culvert 30 = .ok (.invokestatic 63, 3) := by decide +kernel
theorem dX7_culvert_33 : decode cX7_culvert 33 = .ok (.ifCond .eq 16, 3) := by decide +kernel
theorem dX7_culvert_36 : decode cX7_culvert 36 = .ok (.iload 4, 2) := by decide +kernel
theorem dX7_culvert_38 : decode cX7_culvert 38 = .ok (.i2l, 1) := by decide +kernel
theorem dX7_culvert_39 : decode cX7_culvert 39 = .ok (.lconst 0, 1) := by decide +kernel
theorem dX7_culvert_40 : decode cX7_culvert 40 = .ok (.ldc2_w 67, 3) := by decide +kernel
theorem dX7_culvert_43 : decode cX7_culvert 43 = .ok (.invokestatic 63, 3) := by decide +kernel
theorem dX7_culvert_46 : decode cX7_culvert 46 = .ok (.ifCond .ne 5, 3) := by decide +kernel
theorem dX7_culvert_49 : decode cX7_culvert 49 = .ok (.iconst (-1), 1) := by decide +kernel
theorem dX7_culvert_50 : decode cX7_culvert 50 = .ok (.ireturn, 1) := by decide +kernel
theorem dX7_culvert_51 : decode cX7_culvert 51 = .ok (.aload_n 0, 1) := by decide +kernel
theorem dX7_culvert_52 : decode cX7_culvert 52 = .ok (.getfield 26, 3) := by decide +kernel
theorem dX7_culvert_55 : decode cX7_culvert 55 = .ok (.iload_n 1, 1) := by decide +kernel
theorem dX7_culvert_56 : decode cX7_culvert 56 = .ok (.iload_n 2, 1) := by decide +kernel
theorem dX7_culvert_57 : decode cX7_culvert 57 = .ok (.iload_n 3, 1) := by decide +kernel
theorem dX7_culvert_58 : decode cX7_culvert 58 = .ok (.iload 4, 2) := by decide +kernel
theorem dX7_culvert_60 : decode cX7_culvert 60 = .ok (.invokevirtual 122, 3) := by decide +kernel
theorem dX7_culvert_63 : decode cX7_culvert 63 = .ok (.ireturn, 1) := by decide +kernel
theorem dX7_unit_0 : decode cX7_unit 0 = .ok (.iload_n 1, 1) := by decide +kernel
theorem dX7_unit_1 : decode cX7_unit 1 = .ok (.i2l, 1) := by decide +kernel
theorem dX7_unit_2 : decode cX7_unit 2 = .ok (.ldc2_w 125, 3) := by decide +kernel
theorem dX7_unit_5 : decode cX7_unit 5 = .ok (.ldc2_w 127, 3) := by decide +kernel
theorem dX7_unit_8 : decode cX7_unit 8 = .ok (.invokestatic 63, 3) := by decide +kernel
theorem dX7_unit_11 : decode cX7_unit 11 = .ok (.ifCond .eq 19, 3) := by decide +kernel
theorem dX7_unit_14 : decode cX7_unit 14 = .ok (.aload_n 0, 1) := by decide +kernel
theorem dX7_unit_15 : decode cX7_unit 15 = .ok (.getfield 33, 3) := by decide +kernel
theorem dX7_unit_18 : decode cX7_unit 18 = .ok (.iload_n 1, 1) := by decide +kernel
theorem dX7_unit_19 : decode cX7_unit 19 = .ok (.i2c, 1) := by decide +kernel
theorem dX7_unit_20 : decode cX7_unit 20 = .ok (.invokevirtual 129, 3) := by decide +kernel
theorem dX7_unit_23 : decode cX7_unit 23 = .ok (.ifCond .eq 7, 3) := by decide +kernel
theorem dX7_unit_26 : decode cX7_unit 26 = .ok (.iconst 1, 1) := by decide +kernel
theorem dX7_unit_27 : decode cX7_unit 27 = .ok (.goto 4, 3) := by decide +kernel
theorem dX7_unit_30 : decode cX7_unit 30 = .ok (.iconst 0, 1) := by decide +kernel
theorem dX7_unit_31 : decode cX7_unit 31 = .ok (.ireturn, 1) := by decide +kernel
theorem dX7_states_0 : decode cX7_states 0 = .ok (.aload_n 0, 1) := by decide +kernel
theorem dX7_states_1 : decode cX7_states 1 = .ok (.getfield 33, 3) := by decide +kernel
theorem dX7_states_4 : decode cX7_states 4 = .ok (.aload_n 0, 1) := by decide +kernel
theorem dX7_states_5 : decode cX7_states 5 = .ok (.getfield 44, 3) := by decide +kernel
theorem dX7_states_8 : decode cX7_states 8 = .ok (.invokevirtual 133, 3) := by decide +kernel
theorem dX7_states_11 : decode cX7_states 11 = .ok (.istore_n 1, 1) := by decide +kernel
theorem dX7_states_12 : decode cX7_states 12 = .ok (.iload_n 1, 1) := by decide +kernel
theorem dX7_states_13 : decode cX7_states 13 = .ok (.ifCond .eq 13, 3) := by decide +kernel
theorem dX7_states_16 : decode cX7_states 16 = .ok (.aload_n 0, 1) := by decide +kernel
theorem dX7_states_17 : decode cX7_states 17 = .ok (.getfield 44, 3) := by decide +kernel
theorem dX7_states_20 : decode cX7_states 20 = .ok (.invokevirtual 137, 3) := by decide +kernel
theorem dX7_states_23 : decode cX7_states 23 = .ok (.goto 12, 3) := by decide +kernel
theorem dX7_states_26 : decode cX7_states 26 = .ok (.iconst (-1), 1) := by decide +kernel
theorem dX7_states_27 : decode cX7_states 27 = .ok (.aload_n 0, 1) := by decide +kernel
theorem dX7_states_28 : decode cX7_states 28 = .ok (.getfield 33, 3) := by decide +kernel
theorem dX7_states_31 : decode cX7_states 31 = .ok (.invokevirtual 141, 3) := by decide +kernel
theorem dX7_states_34 : decode cX7_states 34 = .ok (.isub, 1) := by decide +kernel
theorem dX7_states_35 : decode cX7_states 35 = .ok (.istore_n 2, 1) := by decide +kernel
theorem dX7_states_36 : decode cX7_states 36 = .ok (.iload_n 1, 1) := by decide +kernel
theorem dX7_states_37 : decode cX7_states 37 = .ok (.ifCond .eq 21, 3) := by decide +kernel
theorem dX7_states_40 : decode cX7_states 40 = .ok (.aload_n 0, 1) := by decide +kernel
theorem dX7_states_41 : decode cX7_states 41 = .ok (.getfield 40, 3) := by decide +kernel
theorem dX7_states_44 : decode cX7_states 44 = .ok (.astore_n 3, 1) := by decide +kernel
theorem dX7_states_45 : decode cX7_states 45 = .ok (.aload_n 0, 1) := by decide +kernel
theorem dX7_states_46 : decode cX7_states 46 = .ok (.aload_n 0, 1) := by decide +kernel
theorem dX7_states_47 : decode cX7_states 47 = .ok (.getfield 44, 3) := by decide +kernel
theorem dX7_states_50 : decode cX7_states 50 = .ok (.putfield 40, 3) := by decide +kernel
theorem dX7_states_53 : decode cX7_states 53 = .ok (.aload_n 0, 1) := by decide +kernel
theorem dX7_states_54 : decode cX7_states 54 = .ok (.aload_n 3, 1) := by decide +kernel
theorem dX7_states_55 : decode cX7_states 55 = .ok (.putfield 44, 3) := by decide +kernel
theorem dX7_states_58 : decode cX7_states 58 = .ok (.aload_n 0, 1) := by decide +kernel
theorem dX7_states_59 : decode cX7_states 59 = .ok (.getfield 33, 3) := by decide +kernel
theorem dX7_states_62 : decode cX7_states 62 = .ok (.invokevirtual 144, 3) := by decide +kernel
theorem dX7_states_65 : decode cX7_states 65 = .ok (.iload_n 2, 1) := by decide +kernel
theorem dX7_states_66 : decode cX7_states 66 = .ok (.ireturn, 1) := by decide +kernel
theorem dX7_state_0 : decode cX7_state 0 = .ok (.aload_n 0, 1) := by decide +kernel
theorem dX7_state_1 : decode cX7_state 1 = .ok (.getfield 26, 3) := by decide +kernel
theorem dX7_state_4 : decode cX7_state 4 = .ok (.iload_n 1, 1) := by decide +kernel
theorem dX7_state_5 : decode cX7_state 5 = .ok (.invokevirtual 147, 3) := by decide +kernel
theorem dX7_state_8 : decode cX7_state 8 = .ok (.ifCond .eq 25, 3) := by decide +kernel
theorem dX7_state_11 : decode cX7_state 11 = .ok (.iload_n 2, 1) := by decide +kernel
theorem dX7_state_12 : decode cX7_state 12 = .ok (.invokestatic 150, 3) := by decide +kernel
theorem dX7_state_15 : decode cX7_state 15 = .ok (.ifCond .eq 18, 3) := by decide +kernel
theorem dX7_state_18 : decode cX7_state 18 = .ok (.iload_n 3, 1) := by decide +kernel
theorem dX7_state_19 : decode cX7_state 19 = .ok (.invokestatic 150, 3) := by decide +kernel
theorem dX7_state_22 : decode cX7_state 22 = .ok (.ifCond .eq 11, 3) := by decide +kernel
theorem dX7_state_25 : decode cX7_state 25 = .ok (.iload 4, 2) := by decide +kernel
theorem dX7_state_27 : decode cX7_state 27 = .ok (.invokestatic 150, 3) := by decide +kernel
theorem dX7_state_30 : decode cX7_state 30 = .ok (.ifCond .ne 5, 3) := by decide +kernel
theorem dX7_state_33 : decode cX7_state 33 = .ok (.iconst (-1), 1) := by decide +kernel
theorem dX7_state_34 : decode cX7_state 34 = .ok (.ireturn, 1) := by decide +kernel
theorem dX7_state_35 : decode cX7_state 35 = .ok (.aload_n 0, 1) := by decide +kernel
theorem dX7_state_36 : decode cX7_state 36 = .ok (.getfield 40, 3) := by decide +kernel
theorem dX7_state_39 : decode cX7_state 39 = .ok (.aload_n 0, 1) := by decide +kernel
theorem dX7_state_40 : decode cX7_state 40 = .ok (.getfield 26, 3) := by decide +kernel
theorem dX7_state_43 : decode cX7_state 43 = .ok (.iload_n 1, 1) := by decide +kernel
theorem dX7_state_44 : decode cX7_state 44 = .ok (.iload_n 3, 1) := by decide +kernel
theorem dX7_state_45 : decode cX7_state 45 = .ok (.iload 4, 2) := by decide +kernel
theorem dX7_state_47 : decode cX7_state 47 = .ok (.invokevirtual 153, 3) := by decide +kernel
theorem dX7_state_50 : decode cX7_state 50 = .ok (.invokevirtual 157, 3) := by decide +kernel
theorem dX7_state_53 : decode cX7_state 53 = .ok (.aload_n 0, 1) := by decide +kernel
theorem dX7_state_54 : decode cX7_state 54 = .ok (.getfield 40, 3) := by decide +kernel
theorem dX7_state_57 : decode cX7_state 57 = .ok (.iload_n 2, 1) := by decide +kernel
theorem dX7_state_58 : decode cX7_state 58 = .ok (.invokevirtual 161, 3) := by decide +kernel
theorem dX7_state_61 : decode cX7_state 61 = .ok (.ireturn, 1) := by decide +kernel
theorem dX7_head_0 : decode cX7_head 0 = .ok (.aload_n 0, 1) := by decide +kernel
theorem dX7_head_1 : decode cX7_head 1 = .ok (.getfield 26, 3) := by decide +kernel
theorem dX7_head_4 : decode cX7_head 4 = .ok (.iload_n 1, 1) := by decide +kernel
theorem dX7_head_5 : decode cX7_head 5 = .ok (.invokevirtual 147, 3) := by decide +kernel
theorem dX7_head_8 : decode cX7_head 8 = .ok (.ifCond .eq 37, 3) := by decide +kernel
theorem dX7_head_11 : decode cX7_head 11 = .ok (.iload_n 2, 1) := by decide +kernel
theorem dX7_head_12 : decode cX7_head 12 = .ok (.i2l, 1) := by decide +kernel
theorem dX7_head_13 : decode cX7_head 13 = .ok (.lconst 0, 1) := by decide +kernel
theorem dX7_head_14 : decode cX7_head 14 = .ok (.aload_n 0, 1) := by decide +kernel
theorem dX7_head_15 : decode cX7_head 15 = .ok (.getfield 40, 3) := by decide +kernel
theorem dX7_head_18 : decode cX7_head 18 = .ok (.invokevirtual 137, 3) := by decide +kernel
theorem dX7_head_21 : decode cX7_head 21 = .ok (.iconst 1, 1) := by decide +kernel
theorem dX7_head_22 : decode cX7_head 22 = .ok (.isub, 1) := by decide +kernel
theorem dX7_head_23 : decode cX7_head 23 = .ok (.i2l, 1) := by decide +kernel
theorem dX7_head_24 : decode cX7_head 24 = .ok (.invokestatic 63, 3) := by decide +kernel
theorem dX7_head_27 : decode cX7_head 27 = .ok (.ifCond .eq 18, 3) := by decide +kernel
theorem dX7_head_30 : decode cX7_head 30 = .ok (.iload_n 3, 1) := by decide +kernel
theorem dX7_head_31 : decode cX7_head 31 = .ok (.invokestatic 150, 3) := by decide +kernel
theorem dX7_head_34 : decode cX7_head 34 = .ok (.ifCond .eq 11, 3) := by decide +kernel
theorem dX7_head_37 : decode cX7_head 37 = .ok (.iload 4, 2) := by decide +kernel
theorem dX7_head_39 : decode cX7_head 39 = .ok (.invokestatic 150, 3) := by decide +kernel
theorem dX7_head_42 : decode cX7_head 42 = .ok (.ifCond .ne 5, 3) := by decide +kernel
theorem dX7_head_45 : decode cX7_head 45 = .ok (.iconst (-1), 1) := by decide +kernel
theorem dX7_head_46 : decode cX7_head 46 = .ok (.ireturn, 1) := by decide +kernel
theorem dX7_head_47 : decode cX7_head 47 = .ok (.aload_n 0, 1) := by decide +kernel
theorem dX7_head_48 : decode cX7_head 48 = .ok (.getfield 40, 3) := by decide +kernel
theorem dX7_head_51 : decode cX7_head 51 = .ok (.aload_n 0, 1) := by decide +kernel
theorem dX7_head_52 : decode cX7_head 52 = .ok (.getfield 26, 3) := by decide +kernel
theorem dX7_head_55 : decode cX7_head 55 = .ok (.iload_n 1, 1) := by decide +kernel
theorem dX7_head_56 : decode cX7_head 56 = .ok (.iload_n 3, 1) := by decide +kernel
theorem dX7_head_57 : decode cX7_head 57 = .ok (.iload 4, 2) := by decide +kernel
theorem dX7_head_59 : decode cX7_head 59 = .ok (.invokevirtual 153, 3) := by decide +kernel
theorem dX7_head_62 : decode cX7_head 62 = .ok (.invokevirtual 157, 3) := by decide +kernel
theorem dX7_head_65 : decode cX7_head 65 = .ok (.aload_n 0, 1) := by decide +kernel
theorem dX7_head_66 : decode cX7_head 66 = .ok (.getfield 40, 3) := by decide +kernel
theorem dX7_head_69 : decode cX7_head 69 = .ok (.iload_n 2, 1) := by decide +kernel
theorem dX7_head_70 : decode cX7_head 70 = .ok (.invokevirtual 164, 3) := by decide +kernel
theorem dX7_head_73 : decode cX7_head 73 = .ok (.ireturn, 1) := by decide +kernel
theorem dX7_day_0 : decode cX7_day 0 = .ok (.lload_n 1, 1) := by decide +kernel
theorem dX7_day_1 : decode cX7_day 1 = .ok (.lconst 0, 1) := by decide +kernel
theorem dX7_day_2 : decode cX7_day 2 = .ok (.ldc2_w 167, 3) := by decide +kernel
theorem dX7_day_5 : decode cX7_day 5 = .ok (.invokestatic 63, 3) := by decide +kernel
theorem dX7_day_8 : decode cX7_day 8 = .ok (.ifCond .eq 14, 3) := by decide +kernel
theorem dX7_day_11 : decode cX7_day 11 = .ok (.aload_n 0, 1) := by decide +kernel
theorem dX7_day_12 : decode cX7_day 12 = .ok (.getfield 50, 3) := by decide +kernel
theorem dX7_day_15 : decode cX7_day 15 = .ok (.lload_n 1, 1) := by decide +kernel
theorem dX7_day_16 : decode cX7_day 16 = .ok (.invokevirtual 169, 3) := by decide +kernel
theorem dX7_day_19 : decode cX7_day 19 = .ok (.goto 4, 3) := by decide +kernel
theorem dX7_day_22 : decode cX7_day 22 = .ok (.iconst (-1), 1) := by decide +kernel
theorem dX7_day_23 : decode cX7_day 23 = .ok (.ireturn, 1) := by decide +kernel
theorem dX7_run_0 : decode cX7_run 0 = .ok (.lload_n 1, 1) := by decide +kernel
theorem dX7_run_1 : decode cX7_run 1 = .ok (.lconst 0, 1) := by decide +kernel
theorem dX7_run_2 : decode cX7_run 2 = .ok (.ldc2_w 171, 3) := by decide +kernel
theorem dX7_run_5 : decode cX7_run 5 = .ok (.invokestatic 63, 3) := by decide +kernel
theorem dX7_run_8 : decode cX7_run 8 = .ok (.ifCond .eq 14, 3) := by decide +kernel
theorem dX7_run_11 : decode cX7_run 11 = .ok (.lload_n 3, 1) := by decide +kernel
theorem dX7_run_12 : decode cX7_run 12 = .ok (.lconst 0, 1) := by decide +kernel
theorem dX7_run_13 : decode cX7_run 13 = .ok (.ldc2_w 171, 3) := by decide +kernel
theorem dX7_run_16 : decode cX7_run 16 = .ok (.invokestatic 63, 3) := by decide +kernel
theorem dX7_run_19 : decode cX7_run 19 = .ok (.ifCond .ne 5, 3) := by decide +kernel
theorem dX7_run_22 : decode cX7_run 22 = .ok (.iconst (-1), 1) := by decide +kernel
theorem dX7_run_23 : decode cX7_run 23 = .ok (.ireturn, 1) := by decide +kernel
theorem dX7_run_24 : decode cX7_run 24 = .ok (.aload_n 0, 1) := by decide +kernel
theorem dX7_run_25 : decode cX7_run 25 = .ok (.getfield 50, 3) := by decide +kernel
theorem dX7_run_28 : decode cX7_run 28 = .ok (.lload_n 1, 1) := by decide +kernel
theorem dX7_run_29 : decode cX7_run 29 = .ok (.lload_n 3, 1) := by decide +kernel
theorem dX7_run_30 : decode cX7_run 30 = .ok (.invokevirtual 173, 3) := by decide +kernel
theorem dX7_run_33 : decode cX7_run 33 = .ok (.ireturn, 1) := by decide +kernel
theorem dX7_behind_0 : decode cX7_behind 0 = .ok (.aload_n 0, 1) := by decide +kernel
theorem dX7_behind_1 : decode cX7_behind 1 = .ok (.getfield 50, 3) := by decide +kernel
theorem dX7_behind_4 : decode cX7_behind 4 = .ok (.iload_n 1, 1) := by decide +kernel
theorem dX7_behind_5 : decode cX7_behind 5 = .ok (.iload_n 2, 1) := by decide +kernel
theorem dX7_behind_6 : decode cX7_behind 6 = .ok (.invokevirtual 177, 3) := by decide +kernel
theorem dX7_behind_9 : decode cX7_behind 9 = .ok (.lreturn, 1) := by decide +kernel
theorem dX7_room_0 : decode cX7_room 0 = .ok (.lload_n 1, 1) := by decide +kernel
theorem dX7_room_1 : decode cX7_room 1 = .ok (.lconst 0, 1) := by decide +kernel
theorem dX7_room_2 : decode cX7_room 2 = .ok (.ldc2_w 171, 3) := by decide +kernel
theorem dX7_room_5 : decode cX7_room 5 = .ok (.invokestatic 63, 3) := by decide +kernel
theorem dX7_room_8 : decode cX7_room 8 = .ok (.ifCond .eq 15, 3) := by decide +kernel
theorem dX7_room_11 : decode cX7_room 11 = .ok (.iload_n 3, 1) := by decide +kernel
theorem dX7_room_12 : decode cX7_room 12 = .ok (.i2l, 1) := by decide +kernel
theorem dX7_room_13 : decode cX7_room 13 = .ok (.lconst 0, 1) := by decide +kernel
theorem dX7_room_14 : decode cX7_room 14 = .ok (.ldc2_w 181, 3) := by decide +kernel
theorem dX7_room_17 : decode cX7_room 17 = .ok (.invokestatic 63, 3) := by decide +kernel
theorem dX7_room_20 : decode cX7_room 20 = .ok (.ifCond .ne 7, 3) := by decide +kernel
theorem dX7_room_23 : decode cX7_room 23 = .ok (.ldc2_w 78, 3) := by decide +kernel
theorem dX7_room_26 : decode cX7_room 26 = .ok (.lreturn, 1) := by decide +kernel
theorem dX7_room_27 : decode cX7_room 27 = .ok (.aload_n 0, 1) := by decide +kernel
theorem dX7_room_28 : decode cX7_room 28 = .ok (.getfield 50, 3) := by decide +kernel
theorem dX7_room_31 : decode cX7_room 31 = .ok (.lload_n 1, 1) := by decide +kernel
theorem dX7_room_32 : decode cX7_room 32 = .ok (.iload_n 3, 1) := by decide +kernel
theorem dX7_room_33 : decode cX7_room 33 = .ok (.invokevirtual 183, 3) := by decide +kernel
theorem dX7_room_36 : decode cX7_room 36 = .ok (.lreturn, 1) := by decide +kernel
theorem dX7_way_0 : decode cX7_way 0 = .ok (.iload_n 1, 1) := by decide +kernel
theorem dX7_way_1 : decode cX7_way 1 = .ok (.i2l, 1) := by decide +kernel
theorem dX7_way_2 : decode cX7_way 2 = .ok (.ldc2_w 102, 3) := by decide +kernel
theorem dX7_way_5 : decode cX7_way 5 = .ok (.ldc2_w 69, 3) := by decide +kernel
theorem dX7_way_8 : decode cX7_way 8 = .ok (.invokestatic 63, 3) := by decide +kernel
theorem dX7_way_11 : decode cX7_way 11 = .ok (.ifCond .eq 14, 3) := by decide +kernel
theorem dX7_way_14 : decode cX7_way 14 = .ok (.aload_n 0, 1) := by decide +kernel
theorem dX7_way_15 : decode cX7_way 15 = .ok (.getfield 57, 3) := by decide +kernel
theorem dX7_way_18 : decode cX7_way 18 = .ok (.iload_n 1, 1) := by decide +kernel
theorem dX7_way_19 : decode cX7_way 19 = .ok (.invokevirtual 187, 3) := by decide +kernel
theorem dX7_way_22 : decode cX7_way 22 = .ok (.goto 4, 3) := by decide +kernel
theorem dX7_way_25 : decode cX7_way 25 = .ok (.iconst (-1), 1) := by decide +kernel
theorem dX7_way_26 : decode cX7_way 26 = .ok (.ireturn, 1) := by decide +kernel
theorem dX7_stops_0 : decode cX7_stops 0 = .ok (.aload_n 0, 1) := by decide +kernel
theorem dX7_stops_1 : decode cX7_stops 1 = .ok (.getfield 57, 3) := by decide +kernel
theorem dX7_stops_4 : decode cX7_stops 4 = .ok (.invokevirtual 189, 3) := by decide +kernel
theorem dX7_stops_7 : decode cX7_stops 7 = .ok (.ireturn, 1) := by decide +kernel
theorem dX7_count_0 : decode cX7_count 0 = .ok (.iload_n 1, 1) := by decide +kernel
theorem dX7_count_1 : decode cX7_count 1 = .ok (.tableswitch 99 0 6 #[43, 51, 59, 67, 75, 83, 91], 43) := by decide +kernel
theorem dX7_count_44 : decode cX7_count 44 = .ok (.aload_n 0, 1) := by decide +kernel
theorem dX7_count_45 : decode cX7_count 45 = .ok (.getfield 10, 3) := by decide +kernel
theorem dX7_count_48 : decode cX7_count 48 = .ok (.invokevirtual 192, 3) := by decide +kernel
theorem dX7_count_51 : decode cX7_count 51 = .ok (.ireturn, 1) := by decide +kernel
theorem dX7_count_52 : decode cX7_count 52 = .ok (.aload_n 0, 1) := by decide +kernel
theorem dX7_count_53 : decode cX7_count 53 = .ok (.getfield 19, 3) := by decide +kernel
theorem dX7_count_56 : decode cX7_count 56 = .ok (.invokevirtual 193, 3) := by decide +kernel
theorem dX7_count_59 : decode cX7_count 59 = .ok (.ireturn, 1) := by decide +kernel
theorem dX7_count_60 : decode cX7_count 60 = .ok (.aload_n 0, 1) := by decide +kernel
theorem dX7_count_61 : decode cX7_count 61 = .ok (.getfield 26, 3) := by decide +kernel
theorem dX7_count_64 : decode cX7_count 64 = .ok (.invokevirtual 194, 3) := by decide +kernel
theorem dX7_count_67 : decode cX7_count 67 = .ok (.ireturn, 1) := by decide +kernel
theorem dX7_count_68 : decode cX7_count 68 = .ok (.aload_n 0, 1) := by decide +kernel
theorem dX7_count_69 : decode cX7_count 69 = .ok (.getfield 40, 3) := by decide +kernel
theorem dX7_count_72 : decode cX7_count 72 = .ok (.invokevirtual 137, 3) := by decide +kernel
theorem dX7_count_75 : decode cX7_count 75 = .ok (.ireturn, 1) := by decide +kernel
theorem dX7_count_76 : decode cX7_count 76 = .ok (.aload_n 0, 1) := by decide +kernel
theorem dX7_count_77 : decode cX7_count 77 = .ok (.getfield 50, 3) := by decide +kernel
theorem dX7_count_80 : decode cX7_count 80 = .ok (.invokevirtual 195, 3) := by decide +kernel
theorem dX7_count_83 : decode cX7_count 83 = .ok (.ireturn, 1) := by decide +kernel
theorem dX7_count_84 : decode cX7_count 84 = .ok (.aload_n 0, 1) := by decide +kernel
theorem dX7_count_85 : decode cX7_count 85 = .ok (.getfield 57, 3) := by decide +kernel
theorem dX7_count_88 : decode cX7_count 88 = .ok (.invokevirtual 196, 3) := by decide +kernel
theorem dX7_count_91 : decode cX7_count 91 = .ok (.ireturn, 1) := by decide +kernel
theorem dX7_count_92 : decode cX7_count 92 = .ok (.aload_n 0, 1) := by decide +kernel
theorem dX7_count_93 : decode cX7_count 93 = .ok (.getfield 33, 3) := by decide +kernel
theorem dX7_count_96 : decode cX7_count 96 = .ok (.invokevirtual 197, 3) := by decide +kernel
theorem dX7_count_99 : decode cX7_count 99 = .ok (.ireturn, 1) := by decide +kernel
theorem dX7_count_100 : decode cX7_count 100 = .ok (.iconst (-1), 1) := by decide +kernel
theorem dX7_count_101 : decode cX7_count 101 = .ok (.ireturn, 1) := by decide +kernel
theorem dX7_neediestRain_0 : decode cX7_neediestRain 0 = .ok (.iload_n 2, 1) := by decide +kernel
theorem dX7_neediestRain_1 : decode cX7_neediestRain 1 = .ok (.i2l, 1) := by decide +kernel
theorem dX7_neediestRain_2 : decode cX7_neediestRain 2 = .ok (.lconst 0, 1) := by decide +kernel
theorem dX7_neediestRain_3 : decode cX7_neediestRain 3 = .ok (.ldc2_w 94, 3) := by decide +kernel
theorem dX7_neediestRain_6 : decode cX7_neediestRain 6 = .ok (.invokestatic 63, 3) := by decide +kernel
theorem dX7_neediestRain_9 : decode cX7_neediestRain 9 = .ok (.ifCond .eq 15, 3) := by decide +kernel
theorem dX7_neediestRain_12 : decode cX7_neediestRain 12 = .ok (.iload_n 3, 1) := by decide +kernel
theorem dX7_neediestRain_13 : decode cX7_neediestRain 13 = .ok (.i2l, 1) := by decide +kernel
theorem dX7_neediestRain_14 : decode cX7_neediestRain 14 = .ok (.lconst 0, 1) := by decide +kernel
theorem dX7_neediestRain_15 : decode cX7_neediestRain 15 = .ok (.ldc2_w 69, 3) := by decide +kernel
theorem dX7_neediestRain_18 : decode cX7_neediestRain 18 = .ok (.invokestatic 63, 3) := by decide +kernel
theorem dX7_neediestRain_21 : decode cX7_neediestRain 21 = .ok (.ifCond .ne 5, 3) := by decide +kernel
theorem dX7_neediestRain_24 : decode cX7_neediestRain 24 = .ok (.iconst (-1), 1) := by decide +kernel
theorem dX7_neediestRain_25 : decode cX7_neediestRain 25 = .ok (.ireturn, 1) := by decide +kernel
theorem dX7_neediestRain_26 : decode cX7_neediestRain 26 = .ok (.aload_n 0, 1) := by decide +kernel
theorem dX7_neediestRain_27 : decode cX7_neediestRain 27 = .ok (.getfield 10, 3) := by decide +kernel
theorem dX7_neediestRain_30 : decode cX7_neediestRain 30 = .ok (.iload_n 1, 1) := by decide +kernel
theorem dX7_neediestRain_31 : decode cX7_neediestRain 31 = .ok (.iload_n 2, 1) := by decide +kernel
theorem dX7_neediestRain_32 : decode cX7_neediestRain 32 = .ok (.iload_n 3, 1) := by decide +kernel
theorem dX7_neediestRain_33 : decode cX7_neediestRain 33 = .ok (.invokevirtual 198, 3) := by decide +kernel
theorem dX7_neediestRain_36 : decode cX7_neediestRain 36 = .ok (.ireturn, 1) := by decide +kernel
theorem dX7_within_0 : decode cX7_within 0 = .ok (.lload_n 2, 1) := by decide +kernel
theorem dX7_within_1 : decode cX7_within 1 = .ok (.lload_n 0, 1) := by decide +kernel
theorem dX7_within_2 : decode cX7_within 2 = .ok (.lcmp, 1) := by decide +kernel
theorem dX7_within_3 : decode cX7_within 3 = .ok (.ifCond .gt 14, 3) := by decide +kernel
theorem dX7_within_6 : decode cX7_within 6 = .ok (.lload_n 0, 1) := by decide +kernel
theorem dX7_within_7 : decode cX7_within 7 = .ok (.lload 4, 2) := by decide +kernel
theorem dX7_within_9 : decode cX7_within 9 = .ok (.lcmp, 1) := by decide +kernel
theorem dX7_within_10 : decode cX7_within 10 = .ok (.ifCond .gt 7, 3) := by decide +kernel
theorem dX7_within_13 : decode cX7_within 13 = .ok (.iconst 1, 1) := by decide +kernel
theorem dX7_within_14 : decode cX7_within 14 = .ok (.goto 4, 3) := by decide +kernel
theorem dX7_within_17 : decode cX7_within 17 = .ok (.iconst 0, 1) := by decide +kernel
theorem dX7_within_18 : decode cX7_within 18 = .ok (.ireturn, 1) := by decide +kernel
theorem dX7_isWaterOrFlow_0 : decode cX7_isWaterOrFlow 0 = .ok (.iload_n 0, 1) := by decide +kernel
theorem dX7_isWaterOrFlow_1 : decode cX7_isWaterOrFlow 1 = .ok (.i2l, 1) := by decide +kernel
theorem dX7_isWaterOrFlow_2 : decode cX7_isWaterOrFlow 2 = .ok (.lconst 0, 1) := by decide +kernel
theorem dX7_isWaterOrFlow_3 : decode cX7_isWaterOrFlow 3 = .ok (.ldc2_w 201, 3) := by decide +kernel
theorem dX7_isWaterOrFlow_6 : decode cX7_isWaterOrFlow 6 = .ok (.invokestatic 63, 3) := by decide +kernel
theorem dX7_isWaterOrFlow_9 : decode cX7_isWaterOrFlow 9 = .ok (.ireturn, 1) := by decide +kernel
end
section
theorem dX8_init_0 : decode cX8_init 0 = .ok (.aload_n 0, 1) := by decide +kernel
theorem dX8_init_1 : decode cX8_init 1 = .ok (.invokespecial 1, 3) := by decide +kernel
theorem dX8_init_4 : decode cX8_init 4 = .ok (.aload_n 0, 1) := by decide +kernel
theorem dX8_init_5 : decode cX8_init 5 = .ok (.bipush 40, 2) := by decide +kernel
theorem dX8_init_7 : decode cX8_init 7 = .ok (.newarray .int, 2) := by decide +kernel
theorem dX8_init_9 : decode cX8_init 9 = .ok (.putfield 7, 3) := by decide +kernel
theorem dX8_init_12 : decode cX8_init 12 = .ok (.aload_n 0, 1) := by decide +kernel
theorem dX8_init_13 : decode cX8_init 13 = .ok (.bipush 40, 2) := by decide +kernel
theorem dX8_init_15 : decode cX8_init 15 = .ok (.newarray .int, 2) := by decide +kernel
theorem dX8_init_17 : decode cX8_init 17 = .ok (.putfield 13, 3) := by decide +kernel
theorem dX8_init_20 : decode cX8_init 20 = .ok (.aload_n 0, 1) := by decide +kernel
theorem dX8_init_21 : decode cX8_init 21 = .ok (.bipush 40, 2) := by decide +kernel
theorem dX8_init_23 : decode cX8_init 23 = .ok (.newarray .int, 2) := by decide +kernel
theorem dX8_init_25 : decode cX8_init 25 = .ok (.putfield 16, 3) := by decide +kernel
theorem dX8_init_28 : decode cX8_init 28 = .ok (.aload_n 0, 1) := by decide +kernel
theorem dX8_init_29 : decode cX8_init 29 = .ok (.bipush 20, 2) := by decide +kernel
theorem dX8_init_31 : decode cX8_init 31 = .ok (.newarray .int, 2) := by decide +kernel
theorem dX8_init_33 : decode cX8_init 33 = .ok (.putfield 19, 3) := by decide +kernel
theorem dX8_init_36 : decode cX8_init 36 = .ok (.aload_n 0, 1) := by decide +kernel
theorem dX8_init_37 : decode cX8_init 37 = .ok (.bipush 20, 2) := by decide +kernel
theorem dX8_init_39 : decode cX8_init 39 = .ok (.newarray .int, 2) := by decide +kernel
theorem dX8_init_41 : decode cX8_init 41 = .ok (.putfield 22, 3) := by decide +kernel
theorem dX8_init_44 : decode cX8_init 44 = .ok (.aload_n 0, 1) := by decide +kernel
theorem dX8_init_45 : decode cX8_init 45 = .ok (.bipush 32, 2) := by decide +kernel
theorem dX8_init_47 : decode cX8_init 47 = .ok (.newarray .int, 2) := by decide +kernel
theorem dX8_init_49 : decode cX8_init 49 = .ok (.putfield 25, 3) := by decide +kernel
theorem dX8_init_52 : decode cX8_init 52 = .ok (.aload_n 0, 1) := by decide +kernel
theorem dX8_init_53 : decode cX8_init 53 = .ok (.sipush 300, 3) := by decide +kernel
theorem dX8_init_56 : decode cX8_init 56 = .ok (.newarray .int, 2) := by decide +kernel
theorem dX8_init_58 : decode cX8_init 58 = .ok (.putfield 28, 3) := by decide +kernel
theorem dX8_init_61 : decode cX8_init 61 = .ok (.aload_n 0, 1) := by decide +kernel
theorem dX8_init_62 : decode cX8_init 62 = .ok (.bipush 12, 2) := by decide +kernel
theorem dX8_init_64 : decode cX8_init 64 = .ok (.newarray .int, 2) := by decide +kernel
theorem dX8_init_66 : decode cX8_init 66 = .ok (.putfield 31, 3) := by decide +kernel
theorem dX8_init_69 : decode cX8_init 69 = .ok (.aload_n 0, 1) := by decide +kernel
theorem dX8_init_70 : decode cX8_init 70 = .ok (.bipush 60, 2) := by decide +kernel
theorem dX8_init_72 : decode cX8_init 72 = .ok (.newarray .int, 2) := by decide +kernel
theorem dX8_init_74 : decode cX8_init 74 = .ok (.putfield 34, 3) := by decide +kernel
theorem dX8_init_77 : decode cX8_init 77 = .ok (.aload_n 0, 1) := by decide +kernel
theorem dX8_init_78 : decode cX8_init 78 = .ok (.bipush 120, 2) := by decide +kernel
theorem dX8_init_80 : decode cX8_init 80 = .ok (.newarray .int, 2) := by decide +kernel
theorem dX8_init_82 : decode cX8_init 82 = .ok (.putfield 37, 3) := by decide +kernel
theorem dX8_init_85 : decode cX8_init 85 = .ok (.aload_n 0, 1) := by decide +kernel
theorem dX8_init_86 : decode cX8_init 86 = .ok (.sipush 480, 3) := by decide +kernel
theorem dX8_init_89 : decode cX8_init 89 = .ok (.newarray .int, 2) := by decide +kernel
theorem dX8_init_91 : decode cX8_init 91 = .ok (.putfield 40, 3) := by decide +kernel
theorem dX8_init_94 : decode cX8_init 94 = .ok (.aload_n 0, 1) := by decide +kernel
theorem dX8_init_95 : decode cX8_init 95 = .ok (.sipush 480, 3) := by decide +kernel
theorem dX8_init_98 : decode cX8_init 98 = .ok (.newarray .int, 2) := by decide +kernel
theorem dX8_init_100 : decode cX8_init 100 = .ok (.putfield 43, 3) := by decide +kernel
theorem dX8_init_103 : decode cX8_init 103 = .ok (.aload_n 0, 1) := by decide +kernel
theorem dX8_init_104 : decode cX8_init 104 = .ok (.sipush 400, 3) := by decide +kernel
theorem dX8_init_107 : decode cX8_init 107 = .ok (.newarray .long, 2) := by decide +kernel
theorem dX8_init_109 : decode cX8_init 109 = .ok (.putfield 46, 3) := by decide +kernel
theorem dX8_init_112 : decode cX8_init 112 = .ok (.aload_n 0, 1) := by decide +kernel
theorem dX8_init_113 : decode cX8_init 113 = .ok (.sipush 400, 3) := by decide +kernel
theorem dX8_init_116 : decode cX8_init 116 = .ok (.newarray .long, 2) := by decide +kernel
theorem dX8_init_118 : decode cX8_init 118 = .ok (.putfield 50, 3) := by decide +kernel
theorem dX8_init_121 : decode cX8_init 121 = .ok (.aload_n 0, 1) := by decide +kernel
theorem dX8_init_122 : decode cX8_init 122 = .ok (.sipush 400, 3) := by decide +kernel
theorem dX8_init_125 : decode cX8_init 125 = .ok (.newarray .long, 2) := by decide +kernel
theorem dX8_init_127 : decode cX8_init 127 = .ok (.putfield 53, 3) := by decide +kernel
theorem dX8_init_130 : decode cX8_init 130 = .ok (.aload_n 0, 1) := by decide +kernel
theorem dX8_init_131 : decode cX8_init 131 = .ok (.sipush 400, 3) := by decide +kernel
theorem dX8_init_134 : decode cX8_init 134 = .ok (.newarray .long, 2) := by decide +kernel
theorem dX8_init_136 : decode cX8_init 136 = .ok (.putfield 56, 3) := by decide +kernel
theorem dX8_init_139 : decode cX8_init 139 = .ok (.aload_n 0, 1) := by decide +kernel
theorem dX8_init_140 : decode cX8_init 140 = .ok (.bipush 50, 2) := by decide +kernel
theorem dX8_init_142 : decode cX8_init 142 = .ok (.newarray .int, 2) := by decide +kernel
theorem dX8_init_144 : decode cX8_init 144 = .ok (.putfield 59, 3) := by decide +kernel
theorem dX8_init_147 : decode cX8_init 147 = .ok (.return_, 1) := by decide +kernel
theorem dX8_in_0 : decode cX8_in 0 = .ok (.lload_n 0, 1) := by decide +kernel
theorem dX8_in_1 : decode cX8_in 1 = .ok (.lload_n 2, 1) := by decide +kernel
theorem dX8_in_2 : decode cX8_in 2 = .ok (.lcmp, 1) := by decide +kernel
theorem dX8_in_3 : decode cX8_in 3 = .ok (.ifCond .lt 14, 3) := by decide +kernel
theorem dX8_in_6 : decode cX8_in 6 = .ok (.lload_n 0, 1) := by decide +kernel
theorem dX8_in_7 : decode cX8_in 7 = .ok (.lload 4, 2) := by decide +kernel
theorem dX8_in_9 : decode cX8_in 9 = .ok (.lcmp, 1) := by decide +kernel
theorem dX8_in_10 : decode cX8_in 10 = .ok (.ifCond .gt 7, 3) := by decide +kernel
theorem dX8_in_13 : decode cX8_in 13 = .ok (.iconst 1, 1) := by decide +kernel
theorem dX8_in_14 : decode cX8_in 14 = .ok (.goto 4, 3) := by decide +kernel
theorem dX8_in_17 : decode cX8_in 17 = .ok (.iconst 0, 1) := by decide +kernel
theorem dX8_in_18 : decode cX8_in 18 = .ok (.ireturn, 1) := by decide +kernel
theorem dX8_rain_0 : decode cX8_rain 0 = .ok (.iload_n 1, 1) := by decide +kernel
theorem dX8_rain_1 : decode cX8_rain 1 = .ok (.i2l, 1) := by decide +kernel
theorem dX8_rain_2 : decode cX8_rain 2 = .ok (.lconst 1, 1) := by decide +kernel
theorem dX8_rain_3 : decode cX8_rain 3 = .ok (.ldc2_w 62, 3) := by decide +kernel
theorem dX8_rain_6 : decode cX8_rain 6 = .ok (.invokestatic 64, 3) := by decide +kernel
theorem dX8_rain_9 : decode cX8_rain 9 = .ok (.ifCond .eq 36, 3) := by decide +kernel
theorem dX8_rain_12 : decode cX8_rain 12 = .ok (.iload_n 2, 1) := by decide +kernel
theorem dX8_rain_13 : decode cX8_rain 13 = .ok (.i2l, 1) := by decide +kernel
theorem dX8_rain_14 : decode cX8_rain 14 = .ok (.lconst 1, 1) := by decide +kernel
theorem dX8_rain_15 : decode cX8_rain 15 = .ok (.ldc2_w 68, 3) := by decide +kernel
theorem dX8_rain_18 : decode cX8_rain 18 = .ok (.invokestatic 64, 3) := by decide +kernel
theorem dX8_rain_21 : decode cX8_rain 21 = .ok (.ifCond .eq 24, 3) := by decide +kernel
theorem dX8_rain_24 : decode cX8_rain 24 = .ok (.iload_n 3, 1) := by decide +kernel
theorem dX8_rain_25 : decode cX8_rain 25 = .ok (.i2l, 1) := by decide +kernel
theorem dX8_rain_26 : decode cX8_rain 26 = .ok (.lconst 1, 1) := by decide +kernel
theorem dX8_rain_27 : decode cX8_rain 27 = .ok (.ldc2_w 70, 3) := by decide +kernel
theorem dX8_rain_30 : decode cX8_rain 30 = .ok (.invokestatic 64, 3) := by decide +kernel
theorem dX8_rain_33 : decode cX8_rain 33 = .ok (.ifCond .eq 12, 3) := by decide +kernel
theorem dX8_rain_36 : decode cX8_rain 36 = .ok (.aload_n 0, 1) := by decide +kernel
theorem dX8_rain_37 : decode cX8_rain 37 = .ok (.getfield 72, 3) := by decide +kernel
theorem dX8_rain_40 : decode cX8_rain 40 = .ok (.bipush 40, 2) := by decide +kernel
theorem dX8_rain_42 : decode cX8_rain 42 = .ok (.if_icmp .ne 5, 3) := by decide +kernel
theorem dX8_rain_45 : decode cX8_rain 45 = .ok (.iconst (-1), 1) := by decide +kernel
theorem dX8_rain_46 : decode cX8_rain 46 = .ok (.ireturn, 1) := by decide +kernel
theorem dX8_rain_47 : decode cX8_rain 47 = .ok (.iconst 0, 1) := by decide +kernel
theorem dX8_rain_48 : decode cX8_rain 48 = .ok (.istore 4, 2) := by decide +kernel
theorem dX8_rain_50 : decode cX8_rain 50 = .ok (.iconst (-1), 1) := by decide +kernel
theorem dX8_rain_51 : decode cX8_rain 51 = .ok (.istore 5, 2) := by decide +kernel
theorem dX8_rain_53 : decode cX8_rain 53 = .ok (.iconst 0, 1) := by decide +kernel
theorem dX8_rain_54 : decode cX8_rain 54 = .ok (.istore 6, 2) := by decide +kernel
theorem dX8_rain_56 : decode cX8_rain 56 = .ok (.iload 6, 2) := by decide +kernel
theorem dX8_rain_58 : decode cX8_rain 58 = .ok (.aload_n 0, 1) := by decide +kernel
theorem dX8_rain_59 : decode cX8_rain 59 = .ok (.getfield 72, 3) := by decide +kernel
theorem dX8_rain_62 : decode cX8_rain 62 = .ok (.if_icmp .ge 27, 3) := by decide +kernel
theorem dX8_rain_65 : decode cX8_rain 65 = .ok (.aload_n 0, 1) := by decide +kernel
theorem dX8_rain_66 : decode cX8_rain 66 = .ok (.getfield 7, 3) := by decide +kernel
theorem dX8_rain_69 : decode cX8_rain 69 = .ok (.iload 6, 2) := by decide +kernel
theorem dX8_rain_71 : decode cX8_rain 71 = .ok (.iaload, 1) := by decide +kernel
theorem dX8_rain_72 : decode cX8_rain 72 = .ok (.iload_n 1, 1) := by decide +kernel
theorem dX8_rain_73 : decode cX8_rain 73 = .ok (.if_icmp .ne 10, 3) := by decide +kernel
theorem dX8_rain_76 : decode cX8_rain 76 = .ok (.iinc 4 1, 3) := by decide +kernel
theorem dX8_rain_79 : decode cX8_rain 79 = .ok (.iload 6, 2) := by decide +kernel
theorem dX8_rain_81 : decode cX8_rain 81 = .ok (.istore 5, 2) := by decide +kernel
theorem dX8_rain_83 : decode cX8_rain 83 = .ok (.iinc 6 1, 3) := by decide +kernel
theorem dX8_rain_86 : decode cX8_rain 86 = .ok (.goto (-30), 3) := by decide +kernel
theorem dX8_rain_89 : decode cX8_rain 89 = .ok (.iload 5, 2) := by decide +kernel
theorem dX8_rain_91 : decode cX8_rain 91 = .ok (.ifCond .lt 53, 3) := by decide +kernel
theorem dX8_rain_94 : decode cX8_rain 94 = .ok (.iload_n 2, 1) := by decide +kernel
theorem dX8_rain_95 : decode cX8_rain 95 = .ok (.aload_n 0, 1) := by decide +kernel
theorem dX8_rain_96 : decode cX8_rain 96 = .ok (.getfield 13, 3) := by decide +kernel
theorem dX8_rain_99 : decode cX8_rain 99 = .ok (.iload 5, 2) := by decide +kernel
theorem dX8_rain_101 : decode cX8_rain 101 = .ok (.iaload, 1) := by decide +kernel
theorem dX8_rain_102 : decode cX8_rain 102 = .ok (.if_icmp .le 40, 3) := by decide +kernel
theorem dX8_rain_105 : decode cX8_rain 105 = .ok (.iload_n 3, 1) := by decide +kernel
theorem dX8_rain_106 : decode cX8_rain 106 = .ok (.aload_n 0, 1) := by decide +kernel
theorem dX8_rain_107 : decode cX8_rain 107 = .ok (.getfield 16, 3) := by decide +kernel
theorem dX8_rain_110 : decode cX8_rain 110 = .ok (.iload 5, 2) := by decide +kernel
theorem dX8_rain_112 : decode cX8_rain 112 = .ok (.iaload, 1) := by decide +kernel
theorem dX8_rain_113 : decode cX8_rain 113 = .ok (.if_icmp .le 29, 3) := by decide +kernel
theorem dX8_rain_116 : decode cX8_rain 116 = .ok (.iload_n 3, 1) := by decide +kernel
theorem dX8_rain_117 : decode cX8_rain 117 = .ok (.i2l, 1) := by decide +kernel
theorem dX8_rain_118 : decode cX8_rain 118 = .ok (.aload_n 0, 1) := by decide +kernel
theorem dX8_rain_119 : decode cX8_rain 119 = .ok (.getfield 13, 3) := by decide +kernel
theorem dX8_rain_122 : decode cX8_rain 122 = .ok (.iload 5, 2) := by decide +kernel
theorem dX8_rain_124 : decode cX8_rain 124 = .ok (.iaload, 1) := by decide +kernel
theorem dX8_rain_125 : decode cX8_rain 125 = .ok (.i2l, 1) := by decide +kernel
theorem dX8_rain_126 : decode cX8_rain 126 = .ok (.lmul, 1) := by decide +kernel
theorem dX8_rain_127 : decode cX8_rain 127 = .ok (.aload_n 0, 1) := by decide +kernel
theorem dX8_rain_128 : decode cX8_rain 128 = .ok (.getfield 16, 3) := by decide +kernel
theorem dX8_rain_131 : decode cX8_rain 131 = .ok (.iload 5, 2) := by decide +kernel
theorem dX8_rain_133 : decode cX8_rain 133 = .ok (.iaload, 1) := by decide +kernel
theorem dX8_rain_134 : decode cX8_rain 134 = .ok (.i2l, 1) := by decide +kernel
theorem dX8_rain_135 : decode cX8_rain 135 = .ok (.iload_n 2, 1) := by decide +kernel
theorem dX8_rain_136 : decode cX8_rain 136 = .ok (.i2l, 1) := by decide +kernel
theorem dX8_rain_137 : decode cX8_rain 137 = .ok (.lmul, 1) := by decide +kernel
theorem dX8_rain_138 : decode cX8_rain 138 = .ok (.lcmp, 1) := by decide +kernel
theorem dX8_rain_139 : decode cX8_rain 139 = .ok (.ifCond .le 5, 3) := by decide +kernel
theorem dX8_rain_142 : decode cX8_rain 142 = .ok (.iconst (-1), 1) := by decide +kernel
theorem dX8_rain_143 : decode cX8_rain 143 = .ok (.ireturn, 1) := by decide +kernel
theorem dX8_rain_144 : decode cX8_rain 144 = .ok (.aload_n 0, 1) := by decide +kernel
theorem dX8_rain_145 : decode cX8_rain 145 = .ok (.getfield 7, 3) := by decide +kernel
theorem dX8_rain_148 : decode cX8_rain 148 = .ok (.aload_n 0, 1) := by decide +kernel
theorem dX8_rain_149 : decode cX8_rain 149 = .ok (.getfield 72, 3) := by decide +kernel
theorem dX8_rain_152 : decode cX8_rain 152 = .ok (.iload_n 1, 1) := by decide +kernel
theorem dX8_rain_153 : decode cX8_rain 153 = .ok (.iastore, 1) := by decide +kernel
theorem dX8_rain_154 : decode cX8_rain 154 = .ok (.aload_n 0, 1) := by decide +kernel
theorem dX8_rain_155 : decode cX8_rain 155 = .ok (.getfield 13, 3) := by decide +kernel
theorem dX8_rain_158 : decode cX8_rain 158 = .ok (.aload_n 0, 1) := by decide +kernel
theorem dX8_rain_159 : decode cX8_rain 159 = .ok (.getfield 72, 3) := by decide +kernel
theorem dX8_rain_162 : decode cX8_rain 162 = .ok (.iload_n 2, 1) := by decide +kernel
theorem dX8_rain_163 : decode cX8_rain 163 = .ok (.iastore, 1) := by decide +kernel
theorem dX8_rain_164 : decode cX8_rain 164 = .ok (.aload_n 0, 1) := by decide +kernel
theorem dX8_rain_165 : decode cX8_rain 165 = .ok (.getfield 16, 3) := by decide +kernel
theorem dX8_rain_168 : decode cX8_rain 168 = .ok (.aload_n 0, 1) := by decide +kernel
theorem dX8_rain_169 : decode cX8_rain 169 = .ok (.getfield 72, 3) := by decide +kernel
theorem dX8_rain_172 : decode cX8_rain 172 = .ok (.iload_n 3, 1) := by decide +kernel
theorem dX8_rain_173 : decode cX8_rain 173 = .ok (.iastore, 1) := by decide +kernel
theorem dX8_rain_174 : decode cX8_rain 174 = .ok (.aload_n 0, 1) := by decide +kernel
theorem dX8_rain_175 : decode cX8_rain 175 = .ok (.dup, 1) := by decide +kernel
theorem dX8_rain_176 : decode cX8_rain 176 = .ok (.getfield 72, 3) := by decide +kernel
theorem dX8_rain_179 : decode cX8_rain 179 = .ok (.iconst 1, 1) := by decide +kernel
theorem dX8_rain_180 : decode cX8_rain 180 = .ok (.iadd, 1) := by decide +kernel
theorem dX8_rain_181 : decode cX8_rain 181 = .ok (.putfield 72, 3) := by decide +kernel
theorem dX8_rain_184 : decode cX8_rain 184 = .ok (.iload 4, 2) := by decide +kernel
theorem dX8_rain_186 : decode cX8_rain 186 = .ok (.iconst 1, 1) := by decide +kernel
theorem dX8_rain_187 : decode cX8_rain 187 = .ok (.iadd, 1) := by decide +kernel
theorem dX8_rain_188 : decode cX8_rain 188 = .ok (.ireturn, 1) := by decide +kernel
theorem dX8_worst_0 : decode cX8_worst 0 = .ok (.iconst (-1), 1) := by decide +kernel
theorem dX8_worst_1 : decode cX8_worst 1 = .ok (.istore 4, 2) := by decide +kernel
theorem dX8_worst_3 : decode cX8_worst 3 = .ok (.iload_n 2, 1) := by decide +kernel
theorem dX8_worst_4 : decode cX8_worst 4 = .ok (.i2l, 1) := by decide +kernel
theorem dX8_worst_5 : decode cX8_worst 5 = .ok (.lconst 0, 1) := by decide +kernel
theorem dX8_worst_6 : decode cX8_worst 6 = .ok (.ldc2_w 76, 3) := by decide +kernel
theorem dX8_worst_9 : decode cX8_worst 9 = .ok (.invokestatic 64, 3) := by decide +kernel
theorem dX8_worst_12 : decode cX8_worst 12 = .ok (.ifCond .eq 15, 3) := by decide +kernel
theorem dX8_worst_15 : decode cX8_worst 15 = .ok (.iload_n 3, 1) := by decide +kernel
theorem dX8_worst_16 : decode cX8_worst 16 = .ok (.i2l, 1) := by decide +kernel
theorem dX8_worst_17 : decode cX8_worst 17 = .ok (.lconst 0, 1) := by decide +kernel
theorem dX8_worst_18 : decode cX8_worst 18 = .ok (.ldc2_w 70, 3) := by decide +kernel
theorem dX8_worst_21 : decode cX8_worst 21 = .ok (.invokestatic 64, 3) := by decide +kernel
theorem dX8_worst_24 : decode cX8_worst 24 = .ok (.ifCond .ne 5, 3) := by decide +kernel
theorem dX8_worst_27 : decode cX8_worst 27 = .ok (.iconst (-1), 1) := by decide +kernel
theorem dX8_worst_28 : decode cX8_worst 28 = .ok (.ireturn, 1) := by decide +kernel
theorem dX8_worst_29 : decode cX8_worst 29 = .ok (.iconst 0, 1) := by decide +kernel
theorem dX8_worst_30 : decode cX8_worst 30 = .ok (.istore 5, 2) := by decide +kernel
theorem dX8_worst_32 : decode cX8_worst 32 = .ok (.iload 5, 2) := by decide +kernel
theorem dX8_worst_34 : decode cX8_worst 34 = .ok (.aload_n 0, 1) := by decide +kernel
theorem dX8_worst_35 : decode cX8_worst 35 = .ok (.getfield 72, 3) := by decide +kernel
theorem dX8_worst_38 : decode cX8_worst 38 = .ok (.if_icmp .ge 50, 3) := by decide +kernel
theorem dX8_worst_41 : decode cX8_worst 41 = .ok (.aload_n 0, 1) := by decide +kernel
theorem dX8_worst_42 : decode cX8_worst 42 = .ok (.getfield 7, 3) := by decide +kernel
theorem dX8_worst_45 : decode cX8_worst 45 = .ok (.iload 5, 2) := by decide +kernel
theorem dX8_worst_47 : decode cX8_worst 47 = .ok (.iaload, 1) := by decide +kernel
theorem dX8_worst_48 : decode cX8_worst 48 = .ok (.iload_n 1, 1) := by decide +kernel
theorem dX8_worst_49 : decode cX8_worst 49 = .ok (.if_icmp .ne 33, 3) := by decide +kernel
theorem dX8_worst_52 : decode cX8_worst 52 = .ok (.iload 4, 2) := by decide +kernel
theorem dX8_worst_54 : decode cX8_worst 54 = .ok (.iconst (-1), 1) := by decide +kernel
theorem dX8_worst_55 : decode cX8_worst 55 = .ok (.if_icmp .eq 23, 3) := by decide +kernel
theorem dX8_worst_58 : decode cX8_worst 58 = .ok (.aload_n 0, 1) := by decide +kernel
theorem dX8_worst_59 : decode cX8_worst 59 = .ok (.iload 5, 2) := by decide +kernel
theorem dX8_worst_61 : decode cX8_worst 61 = .ok (.iload_n 2, 1) := by decide +kernel
theorem dX8_worst_62 : decode cX8_worst 62 = .ok (.iload_n 3, 1) := by decide +kernel
theorem dX8_worst_63 : decode cX8_worst 63 = .ok (.invokevirtual 78, 3) := by decide +kernel
theorem dX8_worst_66 : decode cX8_worst 66 = .ok (.aload_n 0, 1) := by decide +kernel
theorem dX8_worst_67 : decode cX8_worst 67 = .ok (.iload 4, 2) := by decide +kernel
theorem dX8_worst_69 : decode cX8_worst 69 = .ok (.iload_n 2, 1) := by decide +kernel
theorem dX8_worst_70 : decode cX8_worst 70 = .ok (.iload_n 3, 1) := by decide +kernel
theorem dX8_worst_71 : decode cX8_worst 71 = .ok (.invokevirtual 78, 3) := by decide +kernel
theorem dX8_worst_74 : decode cX8_worst 74 = .ok (.lcmp, 1) := by decide +kernel
theorem dX8_worst_75 : decode cX8_worst 75 = .ok (.ifCond .le 7, 3) := by decide +kernel
theorem dX8_worst_78 : decode cX8_worst 78 = .ok (.iload 5, 2) := by decide +kernel
theorem dX8_worst_80 : decode cX8_worst 80 = .ok (.istore 4, 2) := by decide +kernel
theorem dX8_worst_82 : decode cX8_worst 82 = .ok (.iinc 5 1, 3) := by decide +kernel
theorem dX8_worst_85 : decode cX8_worst 85 = .ok (.goto (-53), 3) := by decide +kernel
theorem dX8_worst_88 : decode cX8_worst 88 = .ok (.iload 4, 2) := by decide +kernel
theorem dX8_worst_90 : decode cX8_worst 90 = .ok (.ireturn, 1) := by decide +kernel
theorem dX8_need_0 : decode cX8_need 0 = .ok (.aload_n 0, 1) := by decide +kernel
theorem dX8_need_1 : decode cX8_need 1 = .ok (.getfield 16, 3) := by decide +kernel
theorem dX8_need_4 : decode cX8_need 4 = .ok (.iload_n 1, 1) := by decide +kernel
theorem dX8_need_5 : decode cX8_need 5 = .ok (.iaload, 1) := by decide +kernel
theorem dX8_need_6 : decode cX8_need 6 = .ok (.i2l, 1) := by decide +kernel
theorem dX8_need_7 : decode cX8_need 7 = .ok (.iload_n 2, 1) := by decide +kernel
theorem dX8_need_8 : decode cX8_need 8 = .ok (.i2l, 1) := by decide +kernel
theorem dX8_need_9 : decode cX8_need 9 = .ok (.lmul, 1) := by decide +kernel
theorem dX8_need_10 : decode cX8_need 10 = .ok (.ldc2_w 82, 3) := by decide +kernel
theorem dX8_need_13 : decode cX8_need 13 = .ok (.ldiv, 1) := by decide +kernel
theorem dX8_need_14 : decode cX8_need 14 = .ok (.ldc2_w 84, 3) := by decide +kernel
theorem dX8_need_17 : decode cX8_need 17 = .ok (.iload_n 3, 1) := by decide +kernel
theorem dX8_need_18 : decode cX8_need 18 = .ok (.i2l, 1) := by decide +kernel
theorem dX8_need_19 : decode cX8_need 19 = .ok (.lmul, 1) := by decide +kernel
theorem dX8_need_20 : decode cX8_need 20 = .ok (.aload_n 0, 1) := by decide +kernel
theorem dX8_need_21 : decode cX8_need 21 = .ok (.getfield 13, 3) := by decide +kernel
theorem dX8_need_24 : decode cX8_need 24 = .ok (.iload_n 1, 1) := by decide +kernel
theorem dX8_need_25 : decode cX8_need 25 = .ok (.iaload, 1) := by decide +kernel
theorem dX8_need_26 : decode cX8_need 26 = .ok (.i2l, 1) := by decide +kernel
theorem dX8_need_27 : decode cX8_need 27 = .ok (.lmul, 1) := by decide +kernel
theorem dX8_need_28 : decode cX8_need 28 = .ok (.lsub, 1) := by decide +kernel
theorem dX8_need_29 : decode cX8_need 29 = .ok (.lreturn, 1) := by decide +kernel
theorem dX8_volume_0 : decode cX8_volume 0 = .ok (.aload_n 0, 1) := by decide +kernel
theorem dX8_volume_1 : decode cX8_volume 1 = .ok (.iload_n 1, 1) := by decide +kernel
theorem dX8_volume_2 : decode cX8_volume 2 = .ok (.iload_n 2, 1) := by decide +kernel
theorem dX8_volume_3 : decode cX8_volume 3 = .ok (.iload_n 3, 1) := by decide +kernel
theorem dX8_volume_4 : decode cX8_volume 4 = .ok (.invokevirtual 86, 3) := by decide +kernel
theorem dX8_volume_7 : decode cX8_volume 7 = .ok (.istore 4, 2) := by decide +kernel
theorem dX8_volume_9 : decode cX8_volume 9 = .ok (.iload 4, 2) := by decide +kernel
theorem dX8_volume_11 : decode cX8_volume 11 = .ok (.iconst (-1), 1) := by decide +kernel
theorem dX8_volume_12 : decode cX8_volume 12 = .ok (.if_icmp .ne 7, 3) := by decide +kernel
theorem dX8_volume_15 : decode cX8_volume 15 = .ok (.ldc2_w 90, 3) := by decide +kernel
theorem dX8_volume_18 : decode cX8_volume 18 = .ok (.lreturn, 1) := by decide +kernel
theorem dX8_volume_19 : decode cX8_volume 19 = .ok (.aload_n 0, 1) := by decide +kernel
theorem dX8_volume_20 : decode cX8_volume 20 = .ok (.iload 4, 2) := by decide +kernel
theorem dX8_volume_22 : decode cX8_volume 22 = .ok (.iload_n 2, 1) := by decide +kernel
theorem dX8_volume_23 : decode cX8_volume 23 = .ok (.iload_n 3, 1) := by decide +kernel
theorem dX8_volume_24 : decode cX8_volume 24 = .ok (.invokevirtual 78, 3) := by decide +kernel
theorem dX8_volume_27 : decode cX8_volume 27 = .ok (.lstore 5, 2) := by decide +kernel
theorem dX8_volume_29 : decode cX8_volume 29 = .ok (.lload 5, 2) := by decide +kernel
theorem dX8_volume_31 : decode cX8_volume 31 = .ok (.lconst 0, 1) := by decide +kernel
theorem dX8_volume_32 : decode cX8_volume 32 = .ok (.lcmp, 1) := by decide +kernel
theorem dX8_volume_33 : decode cX8_volume 33 = .ok (.ifCond .ge 7, 3) := by decide +kernel
theorem dX8_volume_36 : decode cX8_volume 36 = .ok (.lconst 0, 1) := by decide +kernel
theorem dX8_volume_37 : decode cX8_volume 37 = .ok (.goto 5, 3) := by decide +kernel
theorem dX8_volume_40 : decode cX8_volume 40 = .ok (.lload 5, 2) := by decide +kernel
theorem dX8_volume_42 : decode cX8_volume 42 = .ok (.lreturn, 1) := by decide +kernel
theorem dX8_by_0 : decode cX8_by 0 = .ok (.aload_n 0, 1) := by decide +kernel
theorem dX8_by_1 : decode cX8_by 1 = .ok (.iload_n 1, 1) := by decide +kernel
theorem dX8_by_2 : decode cX8_by 2 = .ok (.iload_n 2, 1) := by decide +kernel
theorem dX8_by_3 : decode cX8_by 3 = .ok (.iload_n 3, 1) := by decide +kernel
theorem dX8_by_4 : decode cX8_by 4 = .ok (.invokevirtual 86, 3) := by decide +kernel
theorem dX8_by_7 : decode cX8_by 7 = .ok (.istore 4, 2) := by decide +kernel
theorem dX8_by_9 : decode cX8_by 9 = .ok (.iload 4, 2) := by decide +kernel
theorem dX8_by_11 : decode cX8_by 11 = .ok (.iconst (-1), 1) := by decide +kernel
theorem dX8_by_12 : decode cX8_by 12 = .ok (.if_icmp .ne 7, 3) := by decide +kernel
theorem dX8_by_15 : decode cX8_by 15 = .ok (.iconst (-1), 1) := by decide +kernel
theorem dX8_by_16 : decode cX8_by 16 = .ok (.goto 10, 3) := by decide +kernel
theorem dX8_by_19 : decode cX8_by 19 = .ok (.aload_n 0, 1) := by decide +kernel
theorem dX8_by_20 : decode cX8_by 20 = .ok (.getfield 13, 3) := by decide +kernel
theorem dX8_by_23 : decode cX8_by 23 = .ok (.iload 4, 2) := by decide +kernel
theorem dX8_by_25 : decode cX8_by 25 = .ok (.iaload, 1) := by decide +kernel
theorem dX8_by_26 : decode cX8_by 26 = .ok (.ireturn, 1) := by decide +kernel
theorem dX8_outflow_0 : decode cX8_outflow 0 = .ok (.aload_n 0, 1) := by decide +kernel
theorem dX8_outflow_1 : decode cX8_outflow 1 = .ok (.iload_n 1, 1) := by decide +kernel
theorem dX8_outflow_2 : decode cX8_outflow 2 = .ok (.iload_n 2, 1) := by decide +kernel
theorem dX8_outflow_3 : decode cX8_outflow 3 = .ok (.iconst 0, 1) := by decide +kernel
theorem dX8_outflow_4 : decode cX8_outflow 4 = .ok (.invokevirtual 86, 3) := by decide +kernel
theorem dX8_outflow_7 : decode cX8_outflow 7 = .ok (.iconst (-1), 1) := by decide +kernel
theorem dX8_outflow_8 : decode cX8_outflow 8 = .ok (.if_icmp .eq 14, 3) := by decide +kernel
theorem dX8_outflow_11 : decode cX8_outflow 11 = .ok (.lload_n 3, 1) := by decide +kernel
theorem dX8_outflow_12 : decode cX8_outflow 12 = .ok (.lconst 0, 1) := by decide +kernel
theorem dX8_outflow_13 : decode cX8_outflow 13 = .ok (.ldc2_w 92, 3) := by decide +kernel
theorem dX8_outflow_16 : decode cX8_outflow 16 = .ok (.invokestatic 64, 3) := by decide +kernel
theorem dX8_outflow_19 : decode cX8_outflow 19 = .ok (.ifCond .ne 5, 3) := by decide +kernel
theorem dX8_outflow_22 : decode cX8_outflow 22 = .ok (.iconst (-1), 1) := by decide +kernel
theorem dX8_outflow_23 : decode cX8_outflow 23 = .ok (.ireturn, 1) := by decide +kernel
theorem dX8_outflow_24 : decode cX8_outflow 24 = .ok (.lconst 0, 1) := by decide +kernel
theorem dX8_outflow_25 : decode cX8_outflow 25 = .ok (.lstore 5, 2) := by decide +kernel
theorem dX8_outflow_27 : decode cX8_outflow 27 = .ok (.iconst 0, 1) := by decide +kernel
theorem dX8_outflow_28 : decode cX8_outflow 28 = .ok (.istore 7, 2) := by decide +kernel
theorem dX8_outflow_30 : decode cX8_outflow 30 = .ok (.iload 7, 2) := by decide +kernel
theorem dX8_outflow_32 : decode cX8_outflow 32 = .ok (.aload_n 0, 1) := by decide +kernel
theorem dX8_outflow_33 : decode cX8_outflow 33 = .ok (.getfield 72, 3) := by decide +kernel
theorem dX8_outflow_36 : decode cX8_outflow 36 = .ok (.if_icmp .ge 86, 3) := by decide +kernel
theorem dX8_outflow_39 : decode cX8_outflow 39 = .ok (.aload_n 0, 1) := by decide +kernel
theorem dX8_outflow_40 : decode cX8_outflow 40 = .ok (.getfield 7, 3) := by decide +kernel
theorem dX8_outflow_43 : decode cX8_outflow 43 = .ok (.iload 7, 2) := by decide +kernel
theorem dX8_outflow_45 : decode cX8_outflow 45 = .ok (.iaload, 1) := by decide +kernel
theorem dX8_outflow_46 : decode cX8_outflow 46 = .ok (.iload_n 1, 1) := by decide +kernel
theorem dX8_outflow_47 : decode cX8_outflow 47 = .ok (.if_icmp .ne 69, 3) := by decide +kernel
theorem dX8_outflow_50 : decode cX8_outflow 50 = .ok (.aload_n 0, 1) := by decide +kernel
theorem dX8_outflow_51 : decode cX8_outflow 51 = .ok (.iload 7, 2) := by decide +kernel
theorem dX8_outflow_53 : decode cX8_outflow 53 = .ok (.iload_n 2, 1) := by decide +kernel
theorem dX8_outflow_54 : decode cX8_outflow 54 = .ok (.iconst 0, 1) := by decide +kernel
theorem dX8_outflow_55 : decode cX8_outflow 55 = .ok (.invokevirtual 78, 3) := by decide +kernel
theorem dX8_outflow_58 : decode cX8_outflow 58 = .ok (.lload_n 3, 1) := by decide +kernel
theorem dX8_outflow_59 : decode cX8_outflow 59 = .ok (.lsub, 1) := by decide +kernel
theorem dX8_outflow_60 : decode cX8_outflow 60 = .ok (.lstore 8, 2) := by decide +kernel
theorem dX8_outflow_62 : decode cX8_outflow 62 = .ok (.ldc2_w 84, 3) := by decide +kernel
theorem dX8_outflow_65 : decode cX8_outflow 65 = .ok (.aload_n 0, 1) := by decide +kernel
theorem dX8_outflow_66 : decode cX8_outflow 66 = .ok (.getfield 13, 3) := by decide +kernel
theorem dX8_outflow_69 : decode cX8_outflow 69 = .ok (.iload 7, 2) := by decide +kernel
theorem dX8_outflow_71 : decode cX8_outflow 71 = .ok (.iaload, 1) := by decide +kernel
theorem dX8_outflow_72 : decode cX8_outflow 72 = .ok (.i2l, 1) := by decide +kernel
theorem dX8_outflow_73 : decode cX8_outflow 73 = .ok (.lmul, 1) := by decide +kernel
theorem dX8_outflow_74 : decode cX8_outflow 74 = .ok (.lstore 10, 2) := by decide +kernel
theorem dX8_outflow_76 : decode cX8_outflow 76 = .ok (.lload 8, 2) := by decide +kernel
theorem dX8_outflow_78 : decode cX8_outflow 78 = .ok (.lconst 0, 1) := by decide +kernel
theorem dX8_outflow_79 : decode cX8_outflow 79 = .ok (.lcmp, 1) := by decide +kernel
theorem dX8_outflow_80 : decode cX8_outflow 80 = .ok (.ifCond .gt 7, 3) := by decide +kernel
theorem dX8_outflow_83 : decode cX8_outflow 83 = .ok (.lconst 0, 1) := by decide +kernel
theorem dX8_outflow_84 : decode cX8_outflow 84 = .ok (.goto 13, 3) := by decide +kernel
theorem dX8_outflow_87 : decode cX8_outflow 87 = .ok (.lload 8, 2) := by decide +kernel
theorem dX8_outflow_89 : decode cX8_outflow 89 = .ok (.lload 10, 2) := by decide +kernel
theorem dX8_outflow_91 : decode cX8_outflow 91 = .ok (.ladd, 1) := by decide +kernel
theorem dX8_outflow_92 : decode cX8_outflow 92 = .ok (.lconst 1, 1) := by decide +kernel
theorem dX8_outflow_93 : decode cX8_outflow 93 = .ok (.lsub, 1) := by decide +kernel
theorem dX8_outflow_94 : decode cX8_outflow 94 = .ok (.lload 10, 2) := by decide +kernel
theorem dX8_outflow_96 : decode cX8_outflow 96 = .ok (.ldiv, 1) := by decide +kernel
theorem dX8_outflow_97 : decode cX8_outflow 97 = .ok (.lstore 12, 2) := by decide +kernel
theorem dX8_outflow_99 : decode cX8_outflow 99 = .ok (.lload 12, 2) := by decide +kernel
theorem dX8_outflow_101 : decode cX8_outflow 101 = .ok (.lload 5, 2) := by decide +kernel
theorem dX8_outflow_103 : decode cX8_outflow 103 = .ok (.lcmp, 1) := by decide +kernel
theorem dX8_outflow_104 : decode cX8_outflow 104 = .ok (.ifCond .le 8, 3) := by decide +kernel
theorem dX8_outflow_107 : decode cX8_outflow 107 = .ok (.lload 12, 2) := by decide +kernel
theorem dX8_outflow_109 : decode cX8_outflow 109 = .ok (.goto 5, 3) := by decide +kernel
theorem dX8_outflow_112 : decode cX8_outflow 112 = .ok (.lload 5, 2) := by decide +kernel
theorem dX8_outflow_114 : decode cX8_outflow 114 = .ok (.lstore 5, 2) := by decide +kernel
theorem dX8_outflow_116 : decode cX8_outflow 116 = .ok (.iinc 7 1, 3) := by decide +kernel
theorem dX8_outflow_119 : decode cX8_outflow 119 = .ok (.goto (-89), 3) := by decide +kernel
theorem dX8_outflow_122 : decode cX8_outflow 122 = .ok (.lload 5, 2) := by decide +kernel
theorem dX8_outflow_124 : decode cX8_outflow 124 = .ok (.ldc2_w 70, 3) := by decide +kernel
theorem dX8_outflow_127 : decode cX8_outflow 127 = .ok (.lcmp, 1) := by decide +kernel
theorem dX8_outflow_128 : decode cX8_outflow 128 = .ok (.ifCond .le 7, 3) := by decide +kernel
theorem dX8_outflow_131 : decode cX8_outflow 131 = .ok (.iconst (-1), 1) := by decide +kernel
theorem dX8_outflow_132 : decode cX8_outflow 132 = .ok (.goto 6, 3) := by decide +kernel
theorem dX8_outflow_135 : decode cX8_outflow 135 = .ok (.lload 5, 2) := by decide +kernel
theorem dX8_outflow_137 : decode cX8_outflow 137 = .ok (.l2i, 1) := by decide +kernel
theorem dX8_outflow_138 : decode cX8_outflow 138 = .ok (.ireturn, 1) := by decide +kernel
theorem dX8_level_0 : decode cX8_level 0 = .ok (.iload_n 1, 1) := by decide +kernel
theorem dX8_level_1 : decode cX8_level 1 = .ok (.i2l, 1) := by decide +kernel
theorem dX8_level_2 : decode cX8_level 2 = .ok (.ldc2_w 94, 3) := by decide +kernel
theorem dX8_level_5 : decode cX8_level 5 = .ok (.ldc2_w 70, 3) := by decide +kernel
theorem dX8_level_8 : decode cX8_level 8 = .ok (.invokestatic 64, 3) := by decide +kernel
theorem dX8_level_11 : decode cX8_level 11 = .ok (.ifCond .eq 24, 3) := by decide +kernel
theorem dX8_level_14 : decode cX8_level 14 = .ok (.iload_n 2, 1) := by decide +kernel
theorem dX8_level_15 : decode cX8_level 15 = .ok (.i2l, 1) := by decide +kernel
theorem dX8_level_16 : decode cX8_level 16 = .ok (.lconst 0, 1) := by decide +kernel
theorem dX8_level_17 : decode cX8_level 17 = .ok (.ldc2_w 76, 3) := by decide +kernel
theorem dX8_level_20 : decode cX8_level 20 = .ok (.invokestatic 64, 3) := by decide +kernel
theorem dX8_level_23 : decode cX8_level 23 = .ok (.ifCond .eq 12, 3) := by decide +kernel
theorem dX8_level_26 : decode cX8_level 26 = .ok (.aload_n 0, 1) := by decide +kernel
theorem dX8_level_27 : decode cX8_level 27 = .ok (.getfield 96, 3) := by decide +kernel
theorem dX8_level_30 : decode cX8_level 30 = .ok (.bipush 20, 2) := by decide +kernel
theorem dX8_level_32 : decode cX8_level 32 = .ok (.if_icmp .ne 5, 3) := by decide +kernel
theorem dX8_level_35 : decode cX8_level 35 = .ok (.iconst (-1), 1) := by decide +kernel
theorem dX8_level_36 : decode cX8_level 36 = .ok (.ireturn, 1) := by decide +kernel
theorem dX8_level_37 : decode cX8_level 37 = .ok (.aload_n 0, 1) := by decide +kernel
theorem dX8_level_38 : decode cX8_level 38 = .ok (.getfield 96, 3) := by decide +kernel
theorem dX8_level_41 : decode cX8_level 41 = .ok (.ifCond .le 35, 3) := by decide +kernel
theorem dX8_level_44 : decode cX8_level 44 = .ok (.iload_n 1, 1) := by decide +kernel
theorem dX8_level_45 : decode cX8_level 45 = .ok (.aload_n 0, 1) := by decide +kernel
theorem dX8_level_46 : decode cX8_level 46 = .ok (.getfield 19, 3) := by decide +kernel
theorem dX8_level_49 : decode cX8_level 49 = .ok (.aload_n 0, 1) := by decide +kernel
theorem dX8_level_50 : decode cX8_level 50 = .ok (.getfield 96, 3) := by decide +kernel
theorem dX8_level_53 : decode cX8_level 53 = .ok (.iconst 1, 1) := by decide +kernel
theorem dX8_level_54 : decode cX8_level 54 = .ok (.isub, 1) := by decide +kernel
theorem dX8_level_55 : decode cX8_level 55 = .ok (.iaload, 1) := by decide +kernel
theorem dX8_level_56 : decode cX8_level 56 = .ok (.if_icmp .le 18, 3) := by decide +kernel
theorem dX8_level_59 : decode cX8_level 59 = .ok (.iload_n 2, 1) := by decide +kernel
theorem dX8_level_60 : decode cX8_level 60 = .ok (.aload_n 0, 1) := by decide +kernel
theorem dX8_level_61 : decode cX8_level 61 = .ok (.getfield 22, 3) := by decide +kernel
theorem dX8_level_64 : decode cX8_level 64 = .ok (.aload_n 0, 1) := by decide +kernel
theorem dX8_level_65 : decode cX8_level 65 = .ok (.getfield 96, 3) := by decide +kernel
theorem dX8_level_68 : decode cX8_level 68 = .ok (.iconst 1, 1) := by decide +kernel
theorem dX8_level_69 : decode cX8_level 69 = .ok (.isub, 1) := by decide +kernel
theorem dX8_level_70 : decode cX8_level 70 = .ok (.iaload, 1) := by decide +kernel
theorem dX8_level_71 : decode cX8_level 71 = .ok (.if_icmp .ge 5, 3) := by decide +kernel
theorem dX8_level_74 : decode cX8_level 74 = .ok (.iconst (-1), 1) := by decide +kernel
theorem dX8_level_75 : decode cX8_level 75 = .ok (.ireturn, 1) := by decide +kernel
theorem dX8_level_76 : decode cX8_level 76 = .ok (.aload_n 0, 1) := by decide +kernel
theorem dX8_level_77 : decode cX8_level 77 = .ok (.getfield 19, 3) := by decide +kernel
theorem dX8_level_80 : decode cX8_level 80 = .ok (.aload_n 0, 1) := by decide +kernel
theorem dX8_level_81 : decode cX8_level 81 = .ok (.getfield 96, 3) := by decide +kernel
theorem dX8_level_84 : decode cX8_level 84 = .ok (.iload_n 1, 1) := by decide +kernel
theorem dX8_level_85 : decode cX8_level 85 = .ok (.iastore, 1) := by decide +kernel
theorem dX8_level_86 : decode cX8_level 86 = .ok (.aload_n 0, 1) := by decide +kernel
theorem dX8_level_87 : decode cX8_level 87 = .ok (.getfield 22, 3) := by decide +kernel
theorem dX8_level_90 : decode cX8_level 90 = .ok (.aload_n 0, 1) := by decide +kernel
theorem dX8_level_91 : decode cX8_level 91 = .ok (.getfield 96, 3) := by decide +kernel
theorem dX8_level_94 : decode cX8_level 94 = .ok (.iload_n 2, 1) := by decide +kernel
theorem dX8_level_95 : decode cX8_level 95 = .ok (.iastore, 1) := by decide +kernel
theorem dX8_level_96 : decode cX8_level 96 = .ok (.aload_n 0, 1) := by decide +kernel
theorem dX8_level_97 : decode cX8_level 97 = .ok (.dup, 1) := by decide +kernel
theorem dX8_level_98 : decode cX8_level 98 = .ok (.getfield 96, 3) := by decide +kernel
theorem dX8_level_101 : decode cX8_level 101 = .ok (.iconst 1, 1) := by decide +kernel
theorem dX8_level_102 : decode cX8_level 102 = .ok (.iadd, 1) := by decide +kernel
theorem dX8_level_103 : decode cX8_level 103 = .ok (.putfield 96, 3) := by decide +kernel
theorem dX8_level_106 : decode cX8_level 106 = .ok (.aload_n 0, 1) := by decide +kernel
theorem dX8_level_107 : decode cX8_level 107 = .ok (.getfield 96, 3) := by decide +kernel
theorem dX8_level_110 : decode cX8_level 110 = .ok (.ireturn, 1) := by decide +kernel
theorem dX8_below_0 : decode cX8_below 0 = .ok (.aload_n 0, 1) := by decide +kernel
theorem dX8_below_1 : decode cX8_below 1 = .ok (.getfield 96, 3) := by decide +kernel
theorem dX8_below_4 : decode cX8_below 4 = .ok (.ifCond .eq 28, 3) := by decide +kernel
theorem dX8_below_7 : decode cX8_below 7 = .ok (.iload_n 1, 1) := by decide +kernel
theorem dX8_below_8 : decode cX8_below 8 = .ok (.aload_n 0, 1) := by decide +kernel
theorem dX8_below_9 : decode cX8_below 9 = .ok (.getfield 19, 3) := by decide +kernel
theorem dX8_below_12 : decode cX8_below 12 = .ok (.iconst 0, 1) := by decide +kernel
theorem dX8_below_13 : decode cX8_below 13 = .ok (.iaload, 1) := by decide +kernel
theorem dX8_below_14 : decode cX8_below 14 = .ok (.if_icmp .lt 18, 3) := by decide +kernel
theorem dX8_below_17 : decode cX8_below 17 = .ok (.iload_n 1, 1) := by decide +kernel
theorem dX8_below_18 : decode cX8_below 18 = .ok (.aload_n 0, 1) := by decide +kernel
theorem dX8_below_19 : decode cX8_below 19 = .ok (.getfield 19, 3) := by decide +kernel
theorem dX8_below_22 : decode cX8_below 22 = .ok (.aload_n 0, 1) := by decide +kernel
theorem dX8_below_23 : decode cX8_below 23 = .ok (.getfield 96, 3) := by decide +kernel
theorem dX8_below_26 : decode cX8_below 26 = .ok (.iconst 1, 1) := by decide +kernel
theorem dX8_below_27 : decode cX8_below 27 = .ok (.isub, 1) := by decide +kernel
theorem dX8_below_28 : decode cX8_below 28 = .ok (.iaload, 1) := by decide +kernel
theorem dX8_below_29 : decode cX8_below 29 = .ok (.if_icmp .le 5, 3) := by decide +kernel
theorem dX8_below_32 : decode cX8_below 32 = .ok (.iconst (-1), 1) := by decide +kernel
theorem dX8_below_33 : decode cX8_below 33 = .ok (.ireturn, 1) := by decide +kernel
theorem dX8_below_34 : decode cX8_below 34 = .ok (.iconst 0, 1) := by decide +kernel
theorem dX8_below_35 : decode cX8_below 35 = .ok (.istore_n 2, 1) := by decide +kernel
theorem dX8_below_36 : decode cX8_below 36 = .ok (.iload_n 2, 1) := by decide +kernel
theorem dX8_below_37 : decode cX8_below 37 = .ok (.iconst 1, 1) := by decide +kernel
theorem dX8_below_38 : decode cX8_below 38 = .ok (.iadd, 1) := by decide +kernel
theorem dX8_below_39 : decode cX8_below 39 = .ok (.aload_n 0, 1) := by decide +kernel
theorem dX8_below_40 : decode cX8_below 40 = .ok (.getfield 96, 3) := by decide +kernel
theorem dX8_below_43 : decode cX8_below 43 = .ok (.if_icmp .ge 21, 3) := by decide +kernel
theorem dX8_below_46 : decode cX8_below 46 = .ok (.aload_n 0, 1) := by decide +kernel
theorem dX8_below_47 : decode cX8_below 47 = .ok (.getfield 19, 3) := by decide +kernel
theorem dX8_below_50 : decode cX8_below 50 = .ok (.iload_n 2, 1) := by decide +kernel
theorem dX8_below_51 : decode cX8_below 51 = .ok (.iconst 1, 1) := by decide +kernel
theorem dX8_below_52 : decode cX8_below 52 = .ok (.iadd, 1) := by decide +kernel
theorem dX8_below_53 : decode cX8_below 53 = .ok (.iaload, 1) := by decide +kernel
theorem dX8_below_54 : decode cX8_below 54 = .ok (.iload_n 1, 1) := by decide +kernel
theorem dX8_below_55 : decode cX8_below 55 = .ok (.if_icmp .gt 9, 3) := by decide +kernel
theorem dX8_below_58 : decode cX8_below 58 = .ok (.iinc 2 1, 3) := by decide +kernel
theorem dX8_below_61 : decode cX8_below 61 = .ok (.goto (-25), 3) := by decide +kernel
theorem dX8_below_64 : decode cX8_below 64 = .ok (.iload_n 2, 1) := by decide +kernel
theorem dX8_below_65 : decode cX8_below 65 = .ok (.ireturn, 1) := by decide +kernel
theorem dX8_area_0 : decode cX8_area 0 = .ok (.aload_n 0, 1) := by decide +kernel
theorem dX8_area_1 : decode cX8_area 1 = .ok (.iload_n 1, 1) := by decide +kernel
theorem dX8_area_2 : decode cX8_area 2 = .ok (.invokevirtual 99, 3) := by decide +kernel
theorem dX8_area_5 : decode cX8_area 5 = .ok (.istore_n 2, 1) := by decide +kernel
theorem dX8_area_6 : decode cX8_area 6 = .ok (.iload_n 2, 1) := by decide +kernel
theorem dX8_area_7 : decode cX8_area 7 = .ok (.iconst (-1), 1) := by decide +kernel
theorem dX8_area_8 : decode cX8_area 8 = .ok (.if_icmp .ne 5, 3) := by decide +kernel
theorem dX8_area_11 : decode cX8_area 11 = .ok (.iconst (-1), 1) := by decide +kernel
theorem dX8_area_12 : decode cX8_area 12 = .ok (.ireturn, 1) := by decide +kernel
theorem dX8_area_13 : decode cX8_area 13 = .ok (.iload_n 1, 1) := by decide +kernel
theorem dX8_area_14 : decode cX8_area 14 = .ok (.aload_n 0, 1) := by decide +kernel
theorem dX8_area_15 : decode cX8_area 15 = .ok (.getfield 19, 3) := by decide +kernel
theorem dX8_area_18 : decode cX8_area 18 = .ok (.iload_n 2, 1) := by decide +kernel
theorem dX8_area_19 : decode cX8_area 19 = .ok (.iaload, 1) := by decide +kernel
theorem dX8_area_20 : decode cX8_area 20 = .ok (.isub, 1) := by decide +kernel
theorem dX8_area_21 : decode cX8_area 21 = .ok (.istore_n 3, 1) := by decide +kernel
theorem dX8_area_22 : decode cX8_area 22 = .ok (.iload_n 3, 1) := by decide +kernel
theorem dX8_area_23 : decode cX8_area 23 = .ok (.ifCond .ne 12, 3) := by decide +kernel
theorem dX8_area_26 : decode cX8_area 26 = .ok (.aload_n 0, 1) := by decide +kernel
theorem dX8_area_27 : decode cX8_area 27 = .ok (.getfield 22, 3) := by decide +kernel
theorem dX8_area_30 : decode cX8_area 30 = .ok (.iload_n 2, 1) := by decide +kernel
theorem dX8_area_31 : decode cX8_area 31 = .ok (.iaload, 1) := by decide +kernel
theorem dX8_area_32 : decode cX8_area 32 = .ok (.goto 47, 3) := by decide +kernel
theorem dX8_area_35 : decode cX8_area 35 = .ok (.aload_n 0, 1) := by decide +kernel
theorem dX8_area_36 : decode cX8_area 36 = .ok (.getfield 22, 3) := by decide +kernel
theorem dX8_area_39 : decode cX8_area 39 = .ok (.iload_n 2, 1) := by decide +kernel
theorem dX8_area_40 : decode cX8_area 40 = .ok (.iaload, 1) := by decide +kernel
theorem dX8_area_41 : decode cX8_area 41 = .ok (.aload_n 0, 1) := by decide +kernel
theorem dX8_area_42 : decode cX8_area 42 = .ok (.getfield 22, 3) := by decide +kernel
theorem dX8_area_45 : decode cX8_area 45 = .ok (.iload_n 2, 1) := by decide +kernel
theorem dX8_area_46 : decode cX8_area 46 = .ok (.iconst 1, 1) := by decide +kernel
theorem dX8_area_47 : decode cX8_area 47 = .ok (.iadd, 1) := by decide +kernel
theorem dX8_area_48 : decode cX8_area 48 = .ok (.iaload, 1) := by decide +kernel
theorem dX8_area_49 : decode cX8_area 49 = .ok (.aload_n 0, 1) := by decide +kernel
theorem dX8_area_50 : decode cX8_area 50 = .ok (.getfield 22, 3) := by decide +kernel
theorem dX8_area_53 : decode cX8_area 53 = .ok (.iload_n 2, 1) := by decide +kernel
theorem dX8_area_54 : decode cX8_area 54 = .ok (.iaload, 1) := by decide +kernel
theorem dX8_area_55 : decode cX8_area 55 = .ok (.isub, 1) := by decide +kernel
theorem dX8_area_56 : decode cX8_area 56 = .ok (.i2l, 1) := by decide +kernel
theorem dX8_area_57 : decode cX8_area 57 = .ok (.iload_n 3, 1) := by decide +kernel
theorem dX8_area_58 : decode cX8_area 58 = .ok (.i2l, 1) := by decide +kernel
theorem dX8_area_59 : decode cX8_area 59 = .ok (.lmul, 1) := by decide +kernel
theorem dX8_area_60 : decode cX8_area 60 = .ok (.aload_n 0, 1) := by decide +kernel
theorem dX8_area_61 : decode cX8_area 61 = .ok (.getfield 19, 3) := by decide +kernel
theorem dX8_area_64 : decode cX8_area 64 = .ok (.iload_n 2, 1) := by decide +kernel
theorem dX8_area_65 : decode cX8_area 65 = .ok (.iconst 1, 1) := by decide +kernel
theorem dX8_area_66 : decode cX8_area 66 = .ok (.iadd, 1) := by decide +kernel
theorem dX8_area_67 : decode cX8_area 67 = .ok (.iaload, 1) := by decide +kernel
theorem dX8_area_68 : decode cX8_area 68 = .ok (.aload_n 0, 1) := by decide +kernel
theorem dX8_area_69 : decode cX8_area 69 = .ok (.getfield 19, 3) := by decide +kernel
theorem dX8_area_72 : decode cX8_area 72 = .ok (.iload_n 2, 1) := by decide +kernel
theorem dX8_area_73 : decode cX8_area 73 = .ok (.iaload, 1) := by decide +kernel
theorem dX8_area_74 : decode cX8_area 74 = .ok (.isub, 1) := by decide +kernel
theorem dX8_area_75 : decode cX8_area 75 = .ok (.i2l, 1) := by decide +kernel
theorem dX8_area_76 : decode cX8_area 76 = .ok (.ldiv, 1) := by decide +kernel
theorem dX8_area_77 : decode cX8_area 77 = .ok (.l2i, 1) := by decide +kernel
theorem dX8_area_78 : decode cX8_area 78 = .ok (.iadd, 1) := by decide +kernel
theorem dX8_area_79 : decode cX8_area 79 = .ok (.ireturn, 1) := by decide +kernel
theorem dX8_content_0 : decode cX8_content 0 = .ok (.aload_n 0, 1) := by decide +kernel
theorem dX8_content_1 : decode cX8_content 1 = .ok (.iload_n 1, 1) := by decide +kernel
theorem dX8_content_2 : decode cX8_content 2 = .ok (.invokevirtual 99, 3) := by decide +kernel
theorem dX8_content_5 : decode cX8_content 5 = .ok (.istore_n 2, 1) := by decide +kernel
theorem dX8_content_6 : decode cX8_content 6 = .ok (.iload_n 2, 1) := by decide +kernel
theorem dX8_content_7 : decode cX8_content 7 = .ok (.iconst (-1), 1) := by decide +kernel
theorem dX8_content_8 : decode cX8_content 8 = .ok (.if_icmp .ne 7, 3) := by decide +kernel
theorem dX8_content_11 : decode cX8_content 11 = .ok (.ldc2_w 90, 3) := by decide +kernel
theorem dX8_content_14 : decode cX8_content 14 = .ok (.lreturn, 1) := by decide +kernel
theorem dX8_content_15 : decode cX8_content 15 = .ok (.lconst 0, 1) := by decide +kernel
theorem dX8_content_16 : decode cX8_content 16 = .ok (.lstore_n 3, 1) := by decide +kernel
theorem dX8_content_17 : decode cX8_content 17 = .ok (.iconst 0, 1) := by decide +kernel
theorem dX8_content_18 : decode cX8_content 18 = .ok (.istore 5, 2) := by decide +kernel
theorem dX8_content_20 : decode cX8_content 20 = .ok (.iload 5, 2) := by decide +kernel
theorem dX8_content_22 : decode cX8_content 22 = .ok (.iload_n 2, 1) := by decide +kernel
theorem dX8_content_23 : decode cX8_content 23 = .ok (.if_icmp .ge 53, 3) := by decide +kernel
theorem dX8_content_26 : decode cX8_content 26 = .ok (.lload_n 3, 1) := by decide +kernel
theorem dX8_content_27 : decode cX8_content 27 = .ok (.ldc2_w 103, 3) := by decide +kernel
theorem dX8_content_30 : decode cX8_content 30 = .ok (.aload_n 0, 1) := by decide +kernel
theorem dX8_content_31 : decode cX8_content 31 = .ok (.getfield 22, 3) := by decide +kernel
theorem dX8_content_34 : decode cX8_content 34 = .ok (.iload 5, 2) := by decide +kernel
theorem dX8_content_36 : decode cX8_content 36 = .ok (.iaload, 1) := by decide +kernel
theorem dX8_content_37 : decode cX8_content 37 = .ok (.aload_n 0, 1) := by decide +kernel
theorem dX8_content_38 : decode cX8_content 38 = .ok (.getfield 22, 3) := by decide +kernel
theorem dX8_content_41 : decode cX8_content 41 = .ok (.iload 5, 2) := by decide +kernel
theorem dX8_content_43 : decode cX8_content 43 = .ok (.iconst 1, 1) := by decide +kernel
theorem dX8_content_44 : decode cX8_content 44 = .ok (.iadd, 1) := by decide +kernel
theorem dX8_content_45 : decode cX8_content 45 = .ok (.iaload, 1) := by decide +kernel
theorem dX8_content_46 : decode cX8_content 46 = .ok (.iadd, 1) := by decide +kernel
theorem dX8_content_47 : decode cX8_content 47 = .ok (.i2l, 1) := by decide +kernel
theorem dX8_content_48 : decode cX8_content 48 = .ok (.lmul, 1) := by decide +kernel
theorem dX8_content_49 : decode cX8_content 49 = .ok (.aload_n 0, 1) := by decide +kernel
theorem dX8_content_50 : decode cX8_content 50 = .ok (.getfield 19, 3) := by decide +kernel
theorem dX8_content_53 : decode cX8_content 53 = .ok (.iload 5, 2) := by decide +kernel
theorem dX8_content_55 : decode cX8_content 55 = .ok (.iconst 1, 1) := by decide +kernel
theorem dX8_content_56 : decode cX8_content 56 = .ok (.iadd, 1) := by decide +kernel
theorem dX8_content_57 : decode cX8_content 57 = .ok (.iaload, 1) := by decide +kernel
theorem dX8_content_58 : decode cX8_content 58 = .ok (.aload_n 0, 1) := by decide +kernel
theorem dX8_content_59 : decode cX8_content 59 = .ok (.getfield 19, 3) := by decide +kernel
theorem dX8_content_62 : decode cX8_content 62 = .ok (.iload 5, 2) := by decide +kernel
theorem dX8_content_64 : decode cX8_content 64 = .ok (.iaload, 1) := by decide +kernel
theorem dX8_content_65 : decode cX8_content 65 = .ok (.isub, 1) := by decide +kernel
theorem dX8_content_66 : decode cX8_content 66 = .ok (.i2l, 1) := by decide +kernel
theorem dX8_content_67 : decode cX8_content 67 = .ok (.lmul, 1) := by decide +kernel
theorem dX8_content_68 : decode cX8_content 68 = .ok (.ladd, 1) := by decide +kernel
theorem dX8_content_69 : decode cX8_content 69 = .ok (.lstore_n 3, 1) := by decide +kernel
theorem dX8_content_70 : decode cX8_content 70 = .ok (.iinc 5 1, 3) := by decide +kernel
theorem dX8_content_73 : decode cX8_content 73 = .ok (.goto (-53), 3) := by decide +kernel
theorem dX8_content_76 : decode cX8_content 76 = .ok (.lload_n 3, 1) := by decide +kernel
theorem dX8_content_77 : decode cX8_content 77 = .ok (.ldc2_w 103, 3) := by decide +kernel
theorem dX8_content_80 : decode cX8_content 80 = .ok (.aload_n 0, 1) := by decide +kernel
theorem dX8_content_81 : decode cX8_content 81 = .ok (.getfield 22, 3) := by decide +kernel
theorem dX8_content_84 : decode cX8_content 84 = .ok (.iload_n 2, 1) := by decide +kernel
theorem dX8_content_85 : decode cX8_content 85 = .ok (.iaload, 1) := by decide +kernel
theorem dX8_content_86 : decode cX8_content 86 = .ok (.aload_n 0, 1) := by decide +kernel
theorem dX8_content_87 : decode cX8_content 87 = .ok (.iload_n 1, 1) := by decide +kernel
theorem dX8_content_88 : decode cX8_content 88 = .ok (.invokevirtual 105, 3) := by decide +kernel
theorem dX8_content_91 : decode cX8_content 91 = .ok (.iadd, 1) := by decide +kernel
theorem dX8_content_92 : decode cX8_content 92 = .ok (.i2l, 1) := by decide +kernel
theorem dX8_content_93 : decode cX8_content 93 = .ok (.lmul, 1) := by decide +kernel
theorem dX8_content_94 : decode cX8_content 94 = .ok (.iload_n 1, 1) := by decide +kernel
theorem dX8_content_95 : decode cX8_content 95 = .ok (.aload_n 0, 1) := by decide +kernel
theorem dX8_content_96 : decode cX8_content 96 = .ok (.getfield 19, 3) := by decide +kernel
theorem dX8_content_99 : decode cX8_content 99 = .ok (.iload_n 2, 1) := by decide +kernel
theorem dX8_content_100 : decode cX8_content 100 = .ok (.iaload, 1) := by decide +kernel
theorem dX8_content_101 : decode cX8_content 101 = .ok (.isub, 1) := by decide +kernel
theorem dX8_content_102 : decode cX8_content 102 = .ok (.i2l, 1) := by decide +kernel
theorem dX8_content_103 : decode cX8_content 103 = .ok (.lmul, 1) := by decide +kernel
theorem dX8_content_104 : decode cX8_content 104 = .ok (.ladd, 1) := by decide +kernel
theorem dX8_content_105 : decode cX8_content 105 = .ok (.lreturn, 1) := by decide +kernel
theorem dX8_fill_0 : decode cX8_fill 0 = .ok (.aload_n 0, 1) := by decide +kernel
theorem dX8_fill_1 : decode cX8_fill 1 = .ok (.getfield 96, 3) := by decide +kernel
theorem dX8_fill_4 : decode cX8_fill 4 = .ok (.ifCond .eq 29, 3) := by decide +kernel
theorem dX8_fill_7 : decode cX8_fill 7 = .ok (.lload_n 1, 1) := by decide +kernel
theorem dX8_fill_8 : decode cX8_fill 8 = .ok (.lconst 0, 1) := by decide +kernel
theorem dX8_fill_9 : decode cX8_fill 9 = .ok (.lcmp, 1) := by decide +kernel
theorem dX8_fill_10 : decode cX8_fill 10 = .ok (.ifCond .lt 23, 3) := by decide +kernel
theorem dX8_fill_13 : decode cX8_fill 13 = .ok (.lload_n 1, 1) := by decide +kernel
theorem dX8_fill_14 : decode cX8_fill 14 = .ok (.aload_n 0, 1) := by decide +kernel
theorem dX8_fill_15 : decode cX8_fill 15 = .ok (.aload_n 0, 1) := by decide +kernel
theorem dX8_fill_16 : decode cX8_fill 16 = .ok (.getfield 19, 3) := by decide +kernel
theorem dX8_fill_19 : decode cX8_fill 19 = .ok (.aload_n 0, 1) := by decide +kernel
theorem dX8_fill_20 : decode cX8_fill 20 = .ok (.getfield 96, 3) := by decide +kernel
theorem dX8_fill_23 : decode cX8_fill 23 = .ok (.iconst 1, 1) := by decide +kernel
theorem dX8_fill_24 : decode cX8_fill 24 = .ok (.isub, 1) := by decide +kernel
theorem dX8_fill_25 : decode cX8_fill 25 = .ok (.iaload, 1) := by decide +kernel
theorem dX8_fill_26 : decode cX8_fill 26 = .ok (.invokevirtual 108, 3) := by decide +kernel
theorem dX8_fill_29 : decode cX8_fill 29 = .ok (.lcmp, 1) := by decide +kernel
theorem dX8_fill_30 : decode cX8_fill 30 = .ok (.ifCond .le 6, 3) := by decide +kernel
theorem dX8_fill_33 : decode cX8_fill 33 = .ok (.ldc 112, 2) := by decide +kernel
theorem dX8_fill_35 : decode cX8_fill 35 = .ok (.ireturn, 1) := by decide +kernel
theorem dX8_fill_36 : decode cX8_fill 36 = .ok (.aload_n 0, 1) := by decide +kernel
theorem dX8_fill_37 : decode cX8_fill 37 = .ok (.getfield 19, 3) := by decide +kernel
theorem dX8_fill_40 : decode cX8_fill 40 = .ok (.iconst 0, 1) := by decide +kernel
theorem dX8_fill_41 : decode cX8_fill 41 = .ok (.iaload, 1) := by decide +kernel
theorem dX8_fill_42 : decode cX8_fill 42 = .ok (.istore_n 3, 1) := by decide +kernel
theorem dX8_fill_43 : decode cX8_fill 43 = .ok (.aload_n 0, 1) := by decide +kernel
theorem dX8_fill_44 : decode cX8_fill 44 = .ok (.getfield 19, 3) := by decide +kernel
theorem dX8_fill_47 : decode cX8_fill 47 = .ok (.aload_n 0, 1) := by decide +kernel
theorem dX8_fill_48 : decode cX8_fill 48 = .ok (.getfield 96, 3) := by decide +kernel
theorem dX8_fill_51 : decode cX8_fill 51 = .ok (.iconst 1, 1) := by decide +kernel
theorem dX8_fill_52 : decode cX8_fill 52 = .ok (.isub, 1) := by decide +kernel
theorem dX8_fill_53 : decode cX8_fill 53 = .ok (.iaload, 1) := by decide +kernel
theorem dX8_fill_54 : decode cX8_fill 54 = .ok (.istore 4, 2) := by decide +kernel
theorem dX8_fill_56 : decode cX8_fill 56 = .ok (.iload_n 3, 1) := by decide +kernel
theorem dX8_fill_57 : decode cX8_fill 57 = .ok (.iload 4, 2) := by decide +kernel
theorem dX8_fill_59 : decode cX8_fill 59 = .ok (.if_icmp .ge 41, 3) := by decide +kernel
theorem dX8_fill_62 : decode cX8_fill 62 = .ok (.iload_n 3, 1) := by decide +kernel
theorem dX8_fill_63 : decode cX8_fill 63 = .ok (.iload 4, 2) := by decide +kernel
theorem dX8_fill_65 : decode cX8_fill 65 = .ok (.iload_n 3, 1) := by decide +kernel
theorem dX8_fill_66 : decode cX8_fill 66 = .ok (.isub, 1) := by decide +kernel
theorem dX8_fill_67 : decode cX8_fill 67 = .ok (.iconst 1, 1) := by decide +kernel
theorem dX8_fill_68 : decode cX8_fill 68 = .ok (.iadd, 1) := by decide +kernel
theorem dX8_fill_69 : decode cX8_fill 69 = .ok (.iconst 2, 1) := by decide +kernel
theorem dX8_fill_70 : decode cX8_fill 70 = .ok (.idiv, 1) := by decide +kernel
theorem dX8_fill_71 : decode cX8_fill 71 = .ok (.iadd, 1) := by decide +kernel
theorem dX8_fill_72 : decode cX8_fill 72 = .ok (.istore 5, 2) := by decide +kernel
theorem dX8_fill_74 : decode cX8_fill 74 = .ok (.aload_n 0, 1) := by decide +kernel
theorem dX8_fill_75 : decode cX8_fill 75 = .ok (.iload 5, 2) := by decide +kernel
theorem dX8_fill_77 : decode cX8_fill 77 = .ok (.invokevirtual 108, 3) := by decide +kernel
theorem dX8_fill_80 : decode cX8_fill 80 = .ok (.lload_n 1, 1) := by decide +kernel
theorem dX8_fill_81 : decode cX8_fill 81 = .ok (.lcmp, 1) := by decide +kernel
theorem dX8_fill_82 : decode cX8_fill 82 = .ok (.ifCond .gt 9, 3) := by decide +kernel
theorem dX8_fill_85 : decode cX8_fill 85 = .ok (.iload 5, 2) := by decide +kernel
theorem dX8_fill_87 : decode cX8_fill 87 = .ok (.istore_n 3, 1) := by decide +kernel
theorem dX8_fill_88 : decode cX8_fill 88 = .ok (.goto 9, 3) := by decide +kernel
theorem dX8_fill_91 : decode cX8_fill 91 = .ok (.iload 5, 2) := by decide +kernel
theorem dX8_fill_93 : decode cX8_fill 93 = .ok (.iconst 1, 1) := by decide +kernel
theorem dX8_fill_94 : decode cX8_fill 94 = .ok (.isub, 1) := by decide +kernel
theorem dX8_fill_95 : decode cX8_fill 95 = .ok (.istore 4, 2) := by decide +kernel
theorem dX8_fill_97 : decode cX8_fill 97 = .ok (.goto (-41), 3) := by decide +kernel
theorem dX8_fill_100 : decode cX8_fill 100 = .ok (.iload_n 3, 1) := by decide +kernel
theorem dX8_fill_101 : decode cX8_fill 101 = .ok (.ireturn, 1) := by decide +kernel
theorem dX8_culvert_0 : decode cX8_culvert 0 = .ok (.iload_n 1, 1) := by decide +kernel
theorem dX8_culvert_1 : decode cX8_culvert 1 = .ok (.i2l, 1) := by decide +kernel
theorem dX8_culvert_2 : decode cX8_culvert 2 = .ok (.lconst 1, 1) := by decide +kernel
theorem dX8_culvert_3 : decode cX8_culvert 3 = .ok (.ldc2_w 68, 3) := by decide +kernel
theorem dX8_culvert_6 : decode cX8_culvert 6 = .ok (.invokestatic 64, 3) := by decide +kernel
theorem dX8_culvert_9 : decode cX8_culvert 9 = .ok (.ifCond .eq 49, 3) := by decide +kernel
theorem dX8_culvert_12 : decode cX8_culvert 12 = .ok (.iload_n 2, 1) := by decide +kernel
theorem dX8_culvert_13 : decode cX8_culvert 13 = .ok (.i2l, 1) := by decide +kernel
theorem dX8_culvert_14 : decode cX8_culvert 14 = .ok (.lconst 1, 1) := by decide +kernel
theorem dX8_culvert_15 : decode cX8_culvert 15 = .ok (.ldc2_w 68, 3) := by decide +kernel
theorem dX8_culvert_18 : decode cX8_culvert 18 = .ok (.invokestatic 64, 3) := by decide +kernel
theorem dX8_culvert_21 : decode cX8_culvert 21 = .ok (.ifCond .eq 37, 3) := by decide +kernel
theorem dX8_culvert_24 : decode cX8_culvert 24 = .ok (.iload_n 3, 1) := by decide +kernel
theorem dX8_culvert_25 : decode cX8_culvert 25 = .ok (.i2l, 1) := by decide +kernel
theorem dX8_culvert_26 : decode cX8_culvert 26 = .ok (.lconst 1, 1) := by decide +kernel
theorem dX8_culvert_27 : decode cX8_culvert 27 = .ok (.ldc2_w 70, 3) := by decide +kernel
theorem dX8_culvert_30 : decode cX8_culvert 30 = .ok (.invokestatic 64, 3) := by decide +kernel
theorem dX8_culvert_33 : decode cX8_culvert 33 = .ok (.ifCond .eq 25, 3) := by decide +kernel
theorem dX8_culvert_36 : decode cX8_culvert 36 = .ok (.iload 4, 2) := by decide +kernel
theorem dX8_culvert_38 : decode cX8_culvert 38 = .ok (.i2l, 1) := by decide +kernel
theorem dX8_culvert_39 : decode cX8_culvert 39 = .ok (.lconst 0, 1) := by decide +kernel
theorem dX8_culvert_40 : decode cX8_culvert 40 = .ok (.ldc2_w 68, 3) := by decide +kernel
theorem dX8_culvert_43 : decode cX8_culvert 43 = .ok (.invokestatic 64, 3) := by decide +kernel
theorem dX8_culvert_46 : decode cX8_culvert 46 = .ok (.ifCond .eq 12, 3) := by decide +kernel
theorem dX8_culvert_49 : decode cX8_culvert 49 = .ok (.aload_n 0, 1) := by decide +kernel
theorem dX8_culvert_50 : decode cX8_culvert 50 = .ok (.getfield 113, 3) := by decide +kernel
theorem dX8_culvert_53 : decode cX8_culvert 53 = .ok (.bipush 8, 2) := by decide +kernel
theorem dX8_culvert_55 : decode cX8_culvert 55 = .ok (.if_icmp .ne 5, 3) := by decide +kernel
theorem dX8_culvert_58 : decode cX8_culvert 58 = .ok (.iconst (-1), 1) := by decide +kernel
theorem dX8_culvert_59 : decode cX8_culvert 59 = .ok (.ireturn, 1) := by decide +kernel
theorem dX8_culvert_60 : decode cX8_culvert 60 = .ok (.aload_n 0, 1) := by decide +kernel
theorem dX8_culvert_61 : decode cX8_culvert 61 = .ok (.getfield 25, 3) := by decide +kernel
theorem dX8_culvert_64 : decode cX8_culvert 64 = .ok (.iconst 4, 1) := by decide +kernel
theorem dX8_culvert_65 : decode cX8_culvert 65 = .ok (.aload_n 0, 1) := by decide +kernel
theorem dX8_culvert_66 : decode cX8_culvert 66 = .ok (.getfield 113, 3) := by decide +kernel
theorem dX8_culvert_69 : decode cX8_culvert 69 = .ok (.imul, 1) := by decide +kernel
theorem dX8_culvert_70 : decode cX8_culvert 70 = .ok (.iload_n 1, 1) := by decide +kernel
theorem dX8_culvert_71 : decode cX8_culvert 71 = .ok (.iastore, 1) := by decide +kernel
theorem dX8_culvert_72 : decode cX8_culvert 72 = .ok (.aload_n 0, 1) := by decide +kernel
theorem dX8_culvert_73 : decode cX8_culvert 73 = .ok (.getfield 25, 3) := by decide +kernel
theorem dX8_culvert_76 : decode cX8_culvert 76 = .ok (.iconst 4, 1) := by decide +kernel
theorem dX8_culvert_77 : decode cX8_culvert 77 = .ok (.aload_n 0, 1) := by decide +kernel
theorem dX8_culvert_78 : decode cX8_culvert 78 = .ok (.getfield 113, 3) := by decide +kernel
theorem dX8_culvert_81 : decode cX8_culvert 81 = .ok (.imul, 1) := by decide +kernel
theorem dX8_culvert_82 : decode cX8_culvert 82 = .ok (.iconst 1, 1) := by decide +kernel
theorem dX8_culvert_83 : decode cX8_culvert 83 = .ok (.iadd, 1) := by decide +kernel
theorem dX8_culvert_84 : decode cX8_culvert 84 = .ok (.iload_n 2, 1) := by decide +kernel
theorem dX8_culvert_85 : decode cX8_culvert 85 = .ok (.iastore, 1) := by decide +kernel
theorem dX8_culvert_86 : decode cX8_culvert 86 = .ok (.aload_n 0, 1) := by decide +kernel
theorem dX8_culvert_87 : decode cX8_culvert 87 = .ok (.getfield 25, 3) := by decide +kernel
theorem dX8_culvert_90 : decode cX8_culvert 90 = .ok (.iconst 4, 1) := by decide +kernel
theorem dX8_culvert_91 : decode cX8_culvert 91 = .ok (.aload_n 0, 1) := by decide +kernel
theorem dX8_culvert_92 : decode cX8_culvert 92 = .ok (.getfield 113, 3) := by decide +kernel
theorem dX8_culvert_95 : decode cX8_culvert 95 = .ok (.imul, 1) := by decide +kernel
theorem dX8_culvert_96 : decode cX8_culvert 96 = .ok (.iconst 2, 1) := by decide +kernel
theorem dX8_culvert_97 : decode cX8_culvert 97 = .ok (.iadd, 1) := by decide +kernel
theorem dX8_culvert_98 : decode cX8_culvert 98 = .ok (.iload_n 3, 1) := by decide +kernel
theorem dX8_culvert_99 : decode cX8_culvert 99 = .ok (.iastore, 1) := by decide +kernel
theorem dX8_culvert_100 : decode cX8_culvert 100 = .ok (.aload_n 0, 1) := by decide +kernel
theorem dX8_culvert_101 : decode cX8_culvert 101 = .ok (.getfield 25, 3) := by decide +kernel
theorem dX8_culvert_104 : decode cX8_culvert 104 = .ok (.iconst 4, 1) := by decide +kernel
theorem dX8_culvert_105 : decode cX8_culvert 105 = .ok (.aload_n 0, 1) := by decide +kernel
theorem dX8_culvert_106 : decode cX8_culvert 106 = .ok (.getfield 113, 3) := by decide +kernel
theorem dX8_culvert_109 : decode cX8_culvert 109 = .ok (.imul, 1) := by decide +kernel
theorem dX8_culvert_110 : decode cX8_culvert 110 = .ok (.iconst 3, 1) := by decide +kernel
theorem dX8_culvert_111 : decode cX8_culvert 111 = .ok (.iadd, 1) := by decide +kernel
theorem dX8_culvert_112 : decode cX8_culvert 112 = .ok (.iload 4, 2) := by decide +kernel
theorem dX8_culvert_114 : decode cX8_culvert 114 = .ok (.iastore, 1) := by decide +kernel
theorem dX8_culvert_115 : decode cX8_culvert 115 = .ok (.aload_n 0, 1) := by decide +kernel
theorem dX8_culvert_116 : decode cX8_culvert 116 = .ok (.dup, 1) := by decide +kernel
theorem dX8_culvert_117 : decode cX8_culvert 117 = .ok (.getfield 113, 3) := by decide +kernel
theorem dX8_culvert_120 : decode cX8_culvert 120 = .ok (.iconst 1, 1) := by decide +kernel
theorem dX8_culvert_121 : decode cX8_culvert 121 = .ok (.iadd, 1) := by decide +kernel
theorem dX8_culvert_122 : decode cX8_culvert 122 = .ok (.putfield 113, 3) := by decide +kernel
theorem dX8_culvert_125 : decode cX8_culvert 125 = .ok (.aload_n 0, 1) := by decide +kernel
theorem dX8_culvert_126 : decode cX8_culvert 126 = .ok (.getfield 113, 3) := by decide +kernel
theorem dX8_culvert_129 : decode cX8_culvert 129 = .ok (.iconst 1, 1) := by decide +kernel
theorem dX8_culvert_130 : decode cX8_culvert 130 = .ok (.isub, 1) := by decide +kernel
theorem dX8_culvert_131 : decode cX8_culvert 131 = .ok (.ireturn, 1) := by decide +kernel
theorem dX8_unit_0 : decode cX8_unit 0 = .ok (.iload_n 1, 1) := by decide +kernel
theorem dX8_unit_1 : decode cX8_unit 1 = .ok (.i2l, 1) := by decide +kernel
theorem dX8_unit_2 : decode cX8_unit 2 = .ok (.ldc2_w 116, 3) := by decide +kernel
theorem dX8_unit_5 : decode cX8_unit 5 = .ok (.ldc2_w 118, 3) := by decide +kernel
theorem dX8_unit_8 : decode cX8_unit 8 = .ok (.invokestatic 64, 3) := by decide +kernel
theorem dX8_unit_11 : decode cX8_unit 11 = .ok (.ifCond .eq 13, 3) := by decide +kernel
theorem dX8_unit_14 : decode cX8_unit 14 = .ok (.aload_n 0, 1) := by decide +kernel
theorem dX8_unit_15 : decode cX8_unit 15 = .ok (.getfield 120, 3) := by decide +kernel
theorem dX8_unit_18 : decode cX8_unit 18 = .ok (.sipush 300, 3) := by decide +kernel
theorem dX8_unit_21 : decode cX8_unit 21 = .ok (.if_icmp .ne 5, 3) := by decide +kernel
theorem dX8_unit_24 : decode cX8_unit 24 = .ok (.iconst 0, 1) := by decide +kernel
theorem dX8_unit_25 : decode cX8_unit 25 = .ok (.ireturn, 1) := by decide +kernel
theorem dX8_unit_26 : decode cX8_unit 26 = .ok (.aload_n 0, 1) := by decide +kernel
theorem dX8_unit_27 : decode cX8_unit 27 = .ok (.getfield 28, 3) := by decide +kernel
theorem dX8_unit_30 : decode cX8_unit 30 = .ok (.aload_n 0, 1) := by decide +kernel
theorem dX8_unit_31 : decode cX8_unit 31 = .ok (.getfield 120, 3) := by decide +kernel
theorem dX8_unit_34 : decode cX8_unit 34 = .ok (.iload_n 1, 1) := by decide +kernel
theorem dX8_unit_35 : decode cX8_unit 35 = .ok (.iastore, 1) := by decide +kernel
theorem dX8_unit_36 : decode cX8_unit 36 = .ok (.aload_n 0, 1) := by decide +kernel
theorem dX8_unit_37 : decode cX8_unit 37 = .ok (.dup, 1) := by decide +kernel
theorem dX8_unit_38 : decode cX8_unit 38 = .ok (.getfield 120, 3) := by decide +kernel
theorem dX8_unit_41 : decode cX8_unit 41 = .ok (.iconst 1, 1) := by decide +kernel
theorem dX8_unit_42 : decode cX8_unit 42 = .ok (.iadd, 1) := by decide +kernel
theorem dX8_unit_43 : decode cX8_unit 43 = .ok (.putfield 120, 3) := by decide +kernel
theorem dX8_unit_46 : decode cX8_unit 46 = .ok (.iconst 1, 1) := by decide +kernel
theorem dX8_unit_47 : decode cX8_unit 47 = .ok (.ireturn, 1) := by decide +kernel
theorem dX8_look_0 : decode cX8_look 0 = .ok (.aload_n 0, 1) := by decide +kernel
theorem dX8_look_1 : decode cX8_look 1 = .ok (.getfield 123, 3) := by decide +kernel
theorem dX8_look_4 : decode cX8_look 4 = .ok (.aload_n 0, 1) := by decide +kernel
theorem dX8_look_5 : decode cX8_look 5 = .ok (.getfield 120, 3) := by decide +kernel
theorem dX8_look_8 : decode cX8_look 8 = .ok (.if_icmp .ge 30, 3) := by decide +kernel
theorem dX8_look_11 : decode cX8_look 11 = .ok (.aload_n 0, 1) := by decide +kernel
theorem dX8_look_12 : decode cX8_look 12 = .ok (.getfield 28, 3) := by decide +kernel
theorem dX8_look_15 : decode cX8_look 15 = .ok (.aload_n 0, 1) := by decide +kernel
theorem dX8_look_16 : decode cX8_look 16 = .ok (.getfield 123, 3) := by decide +kernel
theorem dX8_look_19 : decode cX8_look 19 = .ok (.iaload, 1) := by decide +kernel
theorem dX8_look_20 : decode cX8_look 20 = .ok (.bipush 32, 2) := by decide +kernel
theorem dX8_look_22 : decode cX8_look 22 = .ok (.if_icmp .ne 16, 3) := by decide +kernel
theorem dX8_look_25 : decode cX8_look 25 = .ok (.aload_n 0, 1) := by decide +kernel
theorem dX8_look_26 : decode cX8_look 26 = .ok (.dup, 1) := by decide +kernel
theorem dX8_look_27 : decode cX8_look 27 = .ok (.getfield 123, 3) := by decide +kernel
theorem dX8_look_30 : decode cX8_look 30 = .ok (.iconst 1, 1) := by decide +kernel
theorem dX8_look_31 : decode cX8_look 31 = .ok (.iadd, 1) := by decide +kernel
theorem dX8_look_32 : decode cX8_look 32 = .ok (.putfield 123, 3) := by decide +kernel
theorem dX8_look_35 : decode cX8_look 35 = .ok (.goto (-35), 3) := by decide +kernel
theorem dX8_look_38 : decode cX8_look 38 = .ok (.aload_n 0, 1) := by decide +kernel
theorem dX8_look_39 : decode cX8_look 39 = .ok (.getfield 123, 3) := by decide +kernel
theorem dX8_look_42 : decode cX8_look 42 = .ok (.aload_n 0, 1) := by decide +kernel
theorem dX8_look_43 : decode cX8_look 43 = .ok (.getfield 120, 3) := by decide +kernel
theorem dX8_look_46 : decode cX8_look 46 = .ok (.if_icmp .ge 15, 3) := by decide +kernel
theorem dX8_look_49 : decode cX8_look 49 = .ok (.aload_n 0, 1) := by decide +kernel
theorem dX8_look_50 : decode cX8_look 50 = .ok (.getfield 28, 3) := by decide +kernel
theorem dX8_look_53 : decode cX8_look 53 = .ok (.aload_n 0, 1) := by decide +kernel
theorem dX8_look_54 : decode cX8_look 54 = .ok (.getfield 123, 3) := by decide +kernel
theorem dX8_look_57 : decode cX8_look 57 = .ok (.iaload, 1) := by decide +kernel
theorem dX8_look_58 : decode cX8_look 58 = .ok (.goto 4, 3) := by decide +kernel
theorem dX8_look_61 : decode cX8_look 61 = .ok (.iconst 0, 1) := by decide +kernel
theorem dX8_look_62 : decode cX8_look 62 = .ok (.ireturn, 1) := by decide +kernel
theorem dX8_isLetter_0 : decode cX8_isLetter 0 = .ok (.iload_n 0, 1) := by decide +kernel
theorem dX8_isLetter_1 : decode cX8_isLetter 1 = .ok (.bipush 104, 2) := by decide +kernel
theorem dX8_isLetter_3 : decode cX8_isLetter 3 = .ok (.if_icmp .eq 39, 3) := by decide +kernel
theorem dX8_isLetter_6 : decode cX8_isLetter 6 = .ok (.iload_n 0, 1) := by decide +kernel
theorem dX8_isLetter_7 : decode cX8_isLetter 7 = .ok (.bipush 116, 2) := by decide +kernel
theorem dX8_isLetter_9 : decode cX8_isLetter 9 = .ok (.if_icmp .eq 33, 3) := by decide +kernel
theorem dX8_isLetter_12 : decode cX8_isLetter 12 = .ok (.iload_n 0, 1) := by decide +kernel
theorem dX8_isLetter_13 : decode cX8_isLetter 13 = .ok (.bipush 119, 2) := by decide +kernel
theorem dX8_isLetter_15 : decode cX8_isLetter 15 = .ok (.if_icmp .eq 27, 3) := by decide +kernel
theorem dX8_isLetter_18 : decode cX8_isLetter 18 = .ok (.iload_n 0, 1) := by decide +kernel
theorem dX8_isLetter_19 : decode cX8_isLetter 19 = .ok (.bipush 100, 2) := by decide +kernel
theorem dX8_isLetter_21 : decode cX8_isLetter 21 = .ok (.if_icmp .eq 21, 3) := by decide +kernel
theorem dX8_isLetter_24 : decode cX8_isLetter 24 = .ok (.iload_n 0, 1) := by decide +kernel
theorem dX8_isLetter_25 : decode cX8_isLetter 25 = .ok (.bipush 108, 2) := by decide +kernel
theorem dX8_isLetter_27 : decode cX8_isLetter 27 = .ok (.if_icmp .eq 15, 3) := by decide +kernel
theorem dX8_isLetter_30 : decode cX8_isLetter 30 = .ok (.iload_n 0, 1) := by decide +kernel
theorem dX8_isLetter_31 : decode cX8_isLetter 31 = .ok (.bipush 102, 2) := by decide +kernel
theorem dX8_isLetter_33 : decode cX8_isLetter 33 = .ok (.if_icmp .eq 9, 3) := by decide +kernel
theorem dX8_isLetter_36 : decode cX8_isLetter 36 = .ok (.iload_n 0, 1) := by decide +kernel
theorem dX8_isLetter_37 : decode cX8_isLetter 37 = .ok (.bipush 113, 2) := by decide +kernel
theorem dX8_isLetter_39 : decode cX8_isLetter 39 = .ok (.if_icmp .ne 7, 3) := by decide +kernel
theorem dX8_isLetter_42 : decode cX8_isLetter 42 = .ok (.iconst 1, 1) := by decide +kernel
theorem dX8_isLetter_43 : decode cX8_isLetter 43 = .ok (.goto 4, 3) := by decide +kernel
theorem dX8_isLetter_46 : decode cX8_isLetter 46 = .ok (.iconst 0, 1) := by decide +kernel
theorem dX8_isLetter_47 : decode cX8_isLetter 47 = .ok (.ireturn, 1) := by decide +kernel
theorem dX8_readTerm_0 : decode cX8_readTerm 0 = .ok (.aload_n 0, 1) := by decide +kernel
theorem dX8_readTerm_1 : decode cX8_readTerm 1 = .ok (.invokevirtual 126, 3) := by decide +kernel
theorem dX8_readTerm_4 : decode cX8_readTerm 4 = .ok (.istore_n 3, 1) := by decide +kernel
theorem dX8_readTerm_5 : decode cX8_readTerm 5 = .ok (.aload_n 0, 1) := by decide +kernel
theorem dX8_readTerm_6 : decode cX8_readTerm 6 = .ok (.getfield 123, 3) := by decide +kernel
theorem dX8_readTerm_9 : decode cX8_readTerm 9 = .ok (.istore 4, 2) := by decide +kernel
theorem dX8_readTerm_11 : decode cX8_readTerm 11 = .ok (.iconst 0, 1) := by decide +kernel
theorem dX8_readTerm_12 : decode cX8_readTerm 12 = .ok (.istore 5, 2) := by decide +kernel
theorem dX8_readTerm_14 : decode cX8_readTerm 14 = .ok (.iconst 0, 1) := by decide +kernel
theorem dX8_readTerm_15 : decode cX8_readTerm 15 = .ok (.istore 6, 2) := by decide +kernel
theorem dX8_readTerm_17 : decode cX8_readTerm 17 = .ok (.aload_n 0, 1) := by decide +kernel
theorem dX8_readTerm_18 : decode cX8_readTerm 18 = .ok (.getfield 123, 3) := by decide +kernel
theorem dX8_readTerm_21 : decode cX8_readTerm 21 = .ok (.aload_n 0, 1) := by decide +kernel
theorem dX8_readTerm_22 : decode cX8_readTerm 22 = .ok (.getfield 120, 3) := by decide +kernel
theorem dX8_readTerm_25 : decode cX8_readTerm 25 = .ok (.if_icmp .ge 79, 3) := by decide +kernel
theorem dX8_readTerm_28 : decode cX8_readTerm 28 = .ok (.aload_n 0, 1) := by decide +kernel
theorem dX8_readTerm_29 : decode cX8_readTerm 29 = .ok (.getfield 28, 3) := by decide +kernel
theorem dX8_readTerm_32 : decode cX8_readTerm 32 = .ok (.aload_n 0, 1) := by decide +kernel
theorem dX8_readTerm_33 : decode cX8_readTerm 33 = .ok (.getfield 123, 3) := by decide +kernel
theorem dX8_readTerm_36 : decode cX8_readTerm 36 = .ok (.iaload, 1) := by decide +kernel
theorem dX8_readTerm_37 : decode cX8_readTerm 37 = .ok (.bipush 48, 2) := by decide +kernel
theorem dX8_readTerm_39 : decode cX8_readTerm 39 = .ok (.if_icmp .lt 65, 3) := by decide +kernel
theorem dX8_readTerm_42 : decode cX8_readTerm 42 = .ok (.aload_n 0, 1) := by decide +kernel
theorem dX8_readTerm_43 : decode cX8_readTerm 43 = .ok (.getfield 28, 3) := by decide +kernel
theorem dX8_readTerm_46 : decode cX8_readTerm 46 = .ok (.aload_n 0, 1) := by decide +kernel
theorem dX8_readTerm_47 : decode cX8_readTerm 47 = .ok (.getfield 123, 3) := by decide +kernel
theorem dX8_readTerm_50 : decode cX8_readTerm 50 = .ok (.iaload, 1) := by decide +kernel
theorem dX8_readTerm_51 : decode cX8_readTerm 51 = .ok (.bipush 57, 2) := by decide +kernel
theorem dX8_readTerm_53 : decode cX8_readTerm 53 = .ok (.if_icmp .gt 51, 3) := by decide +kernel
theorem dX8_readTerm_56 : decode cX8_readTerm 56 = .ok (.iload 5, 2) := by decide +kernel
theorem dX8_readTerm_58 : decode cX8_readTerm 58 = .ok (.bipush 6, 2) := by decide +kernel
theorem dX8_readTerm_60 : decode cX8_readTerm 60 = .ok (.if_icmp .ge 24, 3) := by decide +kernel
theorem dX8_readTerm_63 : decode cX8_readTerm 63 = .ok (.bipush 10, 2) := by decide +kernel
theorem dX8_readTerm_65 : decode cX8_readTerm 65 = .ok (.iload 6, 2) := by decide +kernel
theorem dX8_readTerm_67 : decode cX8_readTerm 67 = .ok (.imul, 1) := by decide +kernel
theorem dX8_readTerm_68 : decode cX8_readTerm 68 = .ok (.aload_n 0, 1) := by decide +kernel
theorem dX8_readTerm_69 : decode cX8_readTerm 69 = .ok (.getfield 28, 3) := by decide +kernel
theorem dX8_readTerm_72 : decode cX8_readTerm 72 = .ok (.aload_n 0, 1) := by decide +kernel
theorem dX8_readTerm_73 : decode cX8_readTerm 73 = .ok (.getfield 123, 3) := by decide +kernel
theorem dX8_readTerm_76 : decode cX8_readTerm 76 = .ok (.iaload, 1) := by decide +kernel
theorem dX8_readTerm_77 : decode cX8_readTerm 77 = .ok (.iadd, 1) := by decide +kernel
theorem dX8_readTerm_78 : decode cX8_readTerm 78 = .ok (.bipush 48, 2) := by decide +kernel
theorem dX8_readTerm_80 : decode cX8_readTerm 80 = .ok (.isub, 1) := by decide +kernel
theorem dX8_readTerm_81 : decode cX8_readTerm 81 = .ok (.goto 5, 3) := by decide +kernel
theorem dX8_readTerm_84 : decode cX8_readTerm 84 = .ok (.iload 6, 2) := by decide +kernel
theorem dX8_readTerm_86 : decode cX8_readTerm 86 = .ok (.istore 6, 2) := by decide +kernel
theorem dX8_readTerm_88 : decode cX8_readTerm 88 = .ok (.iinc 5 1, 3) := by decide +kernel
theorem dX8_readTerm_91 : decode cX8_readTerm 91 = .ok (.aload_n 0, 1) := by decide +kernel
theorem dX8_readTerm_92 : decode cX8_readTerm 92 = .ok (.dup, 1) := by decide +kernel
theorem dX8_readTerm_93 : decode cX8_readTerm 93 = .ok (.getfield 123, 3) := by decide +kernel
theorem dX8_readTerm_96 : decode cX8_readTerm 96 = .ok (.iconst 1, 1) := by decide +kernel
theorem dX8_readTerm_97 : decode cX8_readTerm 97 = .ok (.iadd, 1) := by decide +kernel
theorem dX8_readTerm_98 : decode cX8_readTerm 98 = .ok (.putfield 123, 3) := by decide +kernel
theorem dX8_readTerm_101 : decode cX8_readTerm 101 = .ok (.goto (-84), 3) := by decide +kernel
theorem dX8_readTerm_104 : decode cX8_readTerm 104 = .ok (.iload 5, 2) := by decide +kernel
theorem dX8_readTerm_106 : decode cX8_readTerm 106 = .ok (.ifCond .ne 6, 3) := by decide +kernel
theorem dX8_readTerm_109 : decode cX8_readTerm 109 = .ok (.iconst 1, 1) := by decide +kernel
theorem dX8_readTerm_110 : decode cX8_readTerm 110 = .ok (.istore 6, 2) := by decide +kernel
theorem dX8_readTerm_112 : decode cX8_readTerm 112 = .ok (.iload 5, 2) := by decide +kernel
theorem dX8_readTerm_114 : decode cX8_readTerm 114 = .ok (.iconst 5, 1) := by decide +kernel
theorem dX8_readTerm_115 : decode cX8_readTerm 115 = .ok (.if_icmp .gt 21, 3) := by decide +kernel
theorem dX8_readTerm_118 : decode cX8_readTerm 118 = .ok (.iload 5, 2) := by decide +kernel
theorem dX8_readTerm_120 : decode cX8_readTerm 120 = .ok (.iconst 1, 1) := by decide +kernel
theorem dX8_readTerm_121 : decode cX8_readTerm 121 = .ok (.if_icmp .le 27, 3) := by decide +kernel
theorem dX8_readTerm_124 : decode cX8_readTerm 124 = .ok (.aload_n 0, 1) := by decide +kernel
theorem dX8_readTerm_125 : decode cX8_readTerm 125 = .ok (.getfield 28, 3) := by decide +kernel
theorem dX8_readTerm_128 : decode cX8_readTerm 128 = .ok (.iload 4, 2) := by decide +kernel
theorem dX8_readTerm_130 : decode cX8_readTerm 130 = .ok (.iaload, 1) := by decide +kernel
theorem dX8_readTerm_131 : decode cX8_readTerm 131 = .ok (.bipush 48, 2) := by decide +kernel
theorem dX8_readTerm_133 : decode cX8_readTerm 133 = .ok (.if_icmp .ne 15, 3) := by decide +kernel
theorem dX8_readTerm_136 : decode cX8_readTerm 136 = .ok (.aload_n 0, 1) := by decide +kernel
theorem dX8_readTerm_137 : decode cX8_readTerm 137 = .ok (.iload 4, 2) := by decide +kernel
theorem dX8_readTerm_139 : decode cX8_readTerm 139 = .ok (.putfield 123, 3) := by decide +kernel
theorem dX8_readTerm_142 : decode cX8_readTerm 142 = .ok (.aload_n 0, 1) := by decide +kernel
theorem dX8_readTerm_143 : decode cX8_readTerm 143 = .ok (.iconst 1, 1) := by decide +kernel
theorem dX8_readTerm_144 : decode cX8_readTerm 144 = .ok (.putfield 130, 3) := by decide +kernel
theorem dX8_readTerm_147 : decode cX8_readTerm 147 = .ok (.return_, 1) := by decide +kernel
theorem dX8_readTerm_148 : decode cX8_readTerm 148 = .ok (.aload_n 0, 1) := by decide +kernel
theorem dX8_readTerm_149 : decode cX8_readTerm 149 = .ok (.invokevirtual 126, 3) := by decide +kernel
theorem dX8_readTerm_152 : decode cX8_readTerm 152 = .ok (.istore 7, 2) := by decide +kernel
theorem dX8_readTerm_154 : decode cX8_readTerm 154 = .ok (.aload_n 0, 1) := by decide +kernel
theorem dX8_readTerm_155 : decode cX8_readTerm 155 = .ok (.getfield 43, 3) := by decide +kernel
theorem dX8_readTerm_158 : decode cX8_readTerm 158 = .ok (.iload_n 1, 1) := by decide +kernel
theorem dX8_readTerm_159 : decode cX8_readTerm 159 = .ok (.iconst 0, 1) := by decide +kernel
theorem dX8_readTerm_160 : decode cX8_readTerm 160 = .ok (.iastore, 1) := by decide +kernel
theorem dX8_readTerm_161 : decode cX8_readTerm 161 = .ok (.iload 7, 2) := by decide +kernel
theorem dX8_readTerm_163 : decode cX8_readTerm 163 = .ok (.invokestatic 134, 3) := by decide +kernel
theorem dX8_readTerm_166 : decode cX8_readTerm 166 = .ok (.ifCond .eq 41, 3) := by decide +kernel
theorem dX8_readTerm_169 : decode cX8_readTerm 169 = .ok (.iload 6, 2) := by decide +kernel
theorem dX8_readTerm_171 : decode cX8_readTerm 171 = .ok (.ifCond .ne 15, 3) := by decide +kernel
theorem dX8_readTerm_174 : decode cX8_readTerm 174 = .ok (.aload_n 0, 1) := by decide +kernel
theorem dX8_readTerm_175 : decode cX8_readTerm 175 = .ok (.iload 4, 2) := by decide +kernel
theorem dX8_readTerm_177 : decode cX8_readTerm 177 = .ok (.putfield 123, 3) := by decide +kernel
theorem dX8_readTerm_180 : decode cX8_readTerm 180 = .ok (.aload_n 0, 1) := by decide +kernel
theorem dX8_readTerm_181 : decode cX8_readTerm 181 = .ok (.iconst 1, 1) := by decide +kernel
theorem dX8_readTerm_182 : decode cX8_readTerm 182 = .ok (.putfield 130, 3) := by decide +kernel
theorem dX8_readTerm_185 : decode cX8_readTerm 185 = .ok (.return_, 1) := by decide +kernel
theorem dX8_readTerm_186 : decode cX8_readTerm 186 = .ok (.aload_n 0, 1) := by decide +kernel
theorem dX8_readTerm_187 : decode cX8_readTerm 187 = .ok (.getfield 43, 3) := by decide +kernel
theorem dX8_readTerm_190 : decode cX8_readTerm 190 = .ok (.iload_n 1, 1) := by decide +kernel
theorem dX8_readTerm_191 : decode cX8_readTerm 191 = .ok (.iload 7, 2) := by decide +kernel
theorem dX8_readTerm_193 : decode cX8_readTerm 193 = .ok (.iastore, 1) := by decide +kernel
theorem dX8_readTerm_194 : decode cX8_readTerm 194 = .ok (.aload_n 0, 1) := by decide +kernel
theorem dX8_readTerm_195 : decode cX8_readTerm 195 = .ok (.dup, 1) := by decide +kernel
theorem dX8_readTerm_196 : decode cX8_readTerm 196 = .ok (.getfield 123, 3) := by decide +kernel
theorem dX8_readTerm_199 : decode cX8_readTerm 199 = .ok (.iconst 1, 1) := by decide +kernel
theorem dX8_readTerm_200 : decode cX8_readTerm 200 = .ok (.iadd, 1) := by decide +kernel
theorem dX8_readTerm_201 : decode cX8_readTerm 201 = .ok (.putfield 123, 3) := by decide +kernel
theorem dX8_readTerm_204 : decode cX8_readTerm 204 = .ok (.goto 14, 3) := by decide +kernel
theorem dX8_readTerm_207 : decode cX8_readTerm 207 = .ok (.iload 5, 2) := by decide +kernel
theorem dX8_readTerm_209 : decode cX8_readTerm 209 = .ok (.ifCond .ne 9, 3) := by decide +kernel
theorem dX8_readTerm_212 : decode cX8_readTerm 212 = .ok (.aload_n 0, 1) := by decide +kernel
theorem dX8_readTerm_213 : decode cX8_readTerm 213 = .ok (.iconst 1, 1) := by decide +kernel
theorem dX8_readTerm_214 : decode cX8_readTerm 214 = .ok (.putfield 130, 3) := by decide +kernel
theorem dX8_readTerm_217 : decode cX8_readTerm 217 = .ok (.return_, 1) := by decide +kernel
theorem dX8_readTerm_218 : decode cX8_readTerm 218 = .ok (.aload_n 0, 1) := by decide +kernel
theorem dX8_readTerm_219 : decode cX8_readTerm 219 = .ok (.getfield 40, 3) := by decide +kernel
theorem dX8_readTerm_222 : decode cX8_readTerm 222 = .ok (.iload_n 1, 1) := by decide +kernel
theorem dX8_readTerm_223 : decode cX8_readTerm 223 = .ok (.iload_n 2, 1) := by decide +kernel
theorem dX8_readTerm_224 : decode cX8_readTerm 224 = .ok (.ifCond .eq 9, 3) := by decide +kernel
theorem dX8_readTerm_227 : decode cX8_readTerm 227 = .ok (.iload 6, 2) := by decide +kernel
theorem dX8_readTerm_229 : decode cX8_readTerm 229 = .ok (.ineg, 1) := by decide +kernel
theorem dX8_readTerm_230 : decode cX8_readTerm 230 = .ok (.goto 5, 3) := by decide +kernel
theorem dX8_readTerm_233 : decode cX8_readTerm 233 = .ok (.iload 6, 2) := by decide +kernel
theorem dX8_readTerm_235 : decode cX8_readTerm 235 = .ok (.iastore, 1) := by decide +kernel
theorem dX8_readTerm_236 : decode cX8_readTerm 236 = .ok (.return_, 1) := by decide +kernel
theorem dX8_readSum_0 : decode cX8_readSum 0 = .ok (.aload_n 0, 1) := by decide +kernel
theorem dX8_readSum_1 : decode cX8_readSum 1 = .ok (.getfield 37, 3) := by decide +kernel
theorem dX8_readSum_4 : decode cX8_readSum 4 = .ok (.iload_n 1, 1) := by decide +kernel
theorem dX8_readSum_5 : decode cX8_readSum 5 = .ok (.iconst 0, 1) := by decide +kernel
theorem dX8_readSum_6 : decode cX8_readSum 6 = .ok (.iastore, 1) := by decide +kernel
theorem dX8_readSum_7 : decode cX8_readSum 7 = .ok (.iconst 1, 1) := by decide +kernel
theorem dX8_readSum_8 : decode cX8_readSum 8 = .ok (.istore_n 2, 1) := by decide +kernel
theorem dX8_readSum_9 : decode cX8_readSum 9 = .ok (.iconst 0, 1) := by decide +kernel
theorem dX8_readSum_10 : decode cX8_readSum 10 = .ok (.istore_n 3, 1) := by decide +kernel
theorem dX8_readSum_11 : decode cX8_readSum 11 = .ok (.iload_n 2, 1) := by decide +kernel
theorem dX8_readSum_12 : decode cX8_readSum 12 = .ok (.ifCond .eq 130, 3) := by decide +kernel
theorem dX8_readSum_15 : decode cX8_readSum 15 = .ok (.aload_n 0, 1) := by decide +kernel
theorem dX8_readSum_16 : decode cX8_readSum 16 = .ok (.getfield 130, 3) := by decide +kernel
theorem dX8_readSum_19 : decode cX8_readSum 19 = .ok (.ifCond .ne 123, 3) := by decide +kernel
theorem dX8_readSum_22 : decode cX8_readSum 22 = .ok (.aload_n 0, 1) := by decide +kernel
theorem dX8_readSum_23 : decode cX8_readSum 23 = .ok (.getfield 37, 3) := by decide +kernel
theorem dX8_readSum_26 : decode cX8_readSum 26 = .ok (.iload_n 1, 1) := by decide +kernel
theorem dX8_readSum_27 : decode cX8_readSum 27 = .ok (.iaload, 1) := by decide +kernel
theorem dX8_readSum_28 : decode cX8_readSum 28 = .ok (.iconst 4, 1) := by decide +kernel
theorem dX8_readSum_29 : decode cX8_readSum 29 = .ok (.if_icmp .ne 17, 3) := by decide +kernel
theorem dX8_readSum_32 : decode cX8_readSum 32 = .ok (.aload_n 0, 1) := by decide +kernel
theorem dX8_readSum_33 : decode cX8_readSum 33 = .ok (.invokevirtual 126, 3) := by decide +kernel
theorem dX8_readSum_36 : decode cX8_readSum 36 = .ok (.istore 4, 2) := by decide +kernel
theorem dX8_readSum_38 : decode cX8_readSum 38 = .ok (.aload_n 0, 1) := by decide +kernel
theorem dX8_readSum_39 : decode cX8_readSum 39 = .ok (.iconst 1, 1) := by decide +kernel
theorem dX8_readSum_40 : decode cX8_readSum 40 = .ok (.putfield 130, 3) := by decide +kernel
theorem dX8_readSum_43 : decode cX8_readSum 43 = .ok (.goto (-32), 3) := by decide +kernel
theorem dX8_readSum_46 : decode cX8_readSum 46 = .ok (.aload_n 0, 1) := by decide +kernel
theorem dX8_readSum_47 : decode cX8_readSum 47 = .ok (.iconst 4, 1) := by decide +kernel
theorem dX8_readSum_48 : decode cX8_readSum 48 = .ok (.iload_n 1, 1) := by decide +kernel
theorem dX8_readSum_49 : decode cX8_readSum 49 = .ok (.imul, 1) := by decide +kernel
theorem dX8_readSum_50 : decode cX8_readSum 50 = .ok (.aload_n 0, 1) := by decide +kernel
theorem dX8_readSum_51 : decode cX8_readSum 51 = .ok (.getfield 37, 3) := by decide +kernel
theorem dX8_readSum_54 : decode cX8_readSum 54 = .ok (.iload_n 1, 1) := by decide +kernel
theorem dX8_readSum_55 : decode cX8_readSum 55 = .ok (.iaload, 1) := by decide +kernel
theorem dX8_readSum_56 : decode cX8_readSum 56 = .ok (.iadd, 1) := by decide +kernel
theorem dX8_readSum_57 : decode cX8_readSum 57 = .ok (.iload_n 3, 1) := by decide +kernel
theorem dX8_readSum_58 : decode cX8_readSum 58 = .ok (.invokevirtual 138, 3) := by decide +kernel
theorem dX8_readSum_61 : decode cX8_readSum 61 = .ok (.aload_n 0, 1) := by decide +kernel
theorem dX8_readSum_62 : decode cX8_readSum 62 = .ok (.getfield 37, 3) := by decide +kernel
theorem dX8_readSum_65 : decode cX8_readSum 65 = .ok (.iload_n 1, 1) := by decide +kernel
theorem dX8_readSum_66 : decode cX8_readSum 66 = .ok (.dup2, 1) := by decide +kernel
theorem dX8_readSum_67 : decode cX8_readSum 67 = .ok (.iaload, 1) := by decide +kernel
theorem dX8_readSum_68 : decode cX8_readSum 68 = .ok (.iconst 1, 1) := by decide +kernel
theorem dX8_readSum_69 : decode cX8_readSum 69 = .ok (.iadd, 1) := by decide +kernel
theorem dX8_readSum_70 : decode cX8_readSum 70 = .ok (.iastore, 1) := by decide +kernel
theorem dX8_readSum_71 : decode cX8_readSum 71 = .ok (.aload_n 0, 1) := by decide +kernel
theorem dX8_readSum_72 : decode cX8_readSum 72 = .ok (.getfield 130, 3) := by decide +kernel
theorem dX8_readSum_75 : decode cX8_readSum 75 = .ok (.ifCond .eq 7, 3) := by decide +kernel
theorem dX8_readSum_78 : decode cX8_readSum 78 = .ok (.iconst 0, 1) := by decide +kernel
theorem dX8_readSum_79 : decode cX8_readSum 79 = .ok (.goto 7, 3) := by decide +kernel
theorem dX8_readSum_82 : decode cX8_readSum 82 = .ok (.aload_n 0, 1) := by decide +kernel
theorem dX8_readSum_83 : decode cX8_readSum 83 = .ok (.invokevirtual 126, 3) := by decide +kernel
theorem dX8_readSum_86 : decode cX8_readSum 86 = .ok (.istore 4, 2) := by decide +kernel
theorem dX8_readSum_88 : decode cX8_readSum 88 = .ok (.iload 4, 2) := by decide +kernel
theorem dX8_readSum_90 : decode cX8_readSum 90 = .ok (.bipush 43, 2) := by decide +kernel
theorem dX8_readSum_92 : decode cX8_readSum 92 = .ok (.if_icmp .eq 10, 3) := by decide +kernel
theorem dX8_readSum_95 : decode cX8_readSum 95 = .ok (.iload 4, 2) := by decide +kernel
theorem dX8_readSum_97 : decode cX8_readSum 97 = .ok (.bipush 45, 2) := by decide +kernel
theorem dX8_readSum_99 : decode cX8_readSum 99 = .ok (.if_icmp .ne 7, 3) := by decide +kernel
theorem dX8_readSum_102 : decode cX8_readSum 102 = .ok (.iconst 1, 1) := by decide +kernel
theorem dX8_readSum_103 : decode cX8_readSum 103 = .ok (.goto 4, 3) := by decide +kernel
theorem dX8_readSum_106 : decode cX8_readSum 106 = .ok (.iconst 0, 1) := by decide +kernel
theorem dX8_readSum_107 : decode cX8_readSum 107 = .ok (.istore_n 2, 1) := by decide +kernel
theorem dX8_readSum_108 : decode cX8_readSum 108 = .ok (.iload 4, 2) := by decide +kernel
theorem dX8_readSum_110 : decode cX8_readSum 110 = .ok (.bipush 45, 2) := by decide +kernel
theorem dX8_readSum_112 : decode cX8_readSum 112 = .ok (.if_icmp .ne 7, 3) := by decide +kernel
theorem dX8_readSum_115 : decode cX8_readSum 115 = .ok (.iconst 1, 1) := by decide +kernel
theorem dX8_readSum_116 : decode cX8_readSum 116 = .ok (.goto 4, 3) := by decide +kernel
theorem dX8_readSum_119 : decode cX8_readSum 119 = .ok (.iconst 0, 1) := by decide +kernel
theorem dX8_readSum_120 : decode cX8_readSum 120 = .ok (.istore_n 3, 1) := by decide +kernel
theorem dX8_readSum_121 : decode cX8_readSum 121 = .ok (.aload_n 0, 1) := by decide +kernel
theorem dX8_readSum_122 : decode cX8_readSum 122 = .ok (.dup, 1) := by decide +kernel
theorem dX8_readSum_123 : decode cX8_readSum 123 = .ok (.getfield 123, 3) := by decide +kernel
theorem dX8_readSum_126 : decode cX8_readSum 126 = .ok (.iload_n 2, 1) := by decide +kernel
theorem dX8_readSum_127 : decode cX8_readSum 127 = .ok (.ifCond .eq 7, 3) := by decide +kernel
theorem dX8_readSum_130 : decode cX8_readSum 130 = .ok (.iconst 1, 1) := by decide +kernel
theorem dX8_readSum_131 : decode cX8_readSum 131 = .ok (.goto 4, 3) := by decide +kernel
theorem dX8_readSum_134 : decode cX8_readSum 134 = .ok (.iconst 0, 1) := by decide +kernel
theorem dX8_readSum_135 : decode cX8_readSum 135 = .ok (.iadd, 1) := by decide +kernel
theorem dX8_readSum_136 : decode cX8_readSum 136 = .ok (.putfield 123, 3) := by decide +kernel
theorem dX8_readSum_139 : decode cX8_readSum 139 = .ok (.goto (-128), 3) := by decide +kernel
theorem dX8_readSum_142 : decode cX8_readSum 142 = .ok (.return_, 1) := by decide +kernel
theorem dX8_readState_0 : decode cX8_readState 0 = .ok (.bipush 6, 2) := by decide +kernel
theorem dX8_readState_2 : decode cX8_readState 2 = .ok (.iload_n 1, 1) := by decide +kernel
theorem dX8_readState_3 : decode cX8_readState 3 = .ok (.iadd, 1) := by decide +kernel
theorem dX8_readState_4 : decode cX8_readState 4 = .ok (.istore_n 2, 1) := by decide +kernel
theorem dX8_readState_5 : decode cX8_readState 5 = .ok (.aload_n 0, 1) := by decide +kernel
theorem dX8_readState_6 : decode cX8_readState 6 = .ok (.getfield 31, 3) := by decide +kernel
theorem dX8_readState_9 : decode cX8_readState 9 = .ok (.iload_n 2, 1) := by decide +kernel
theorem dX8_readState_10 : decode cX8_readState 10 = .ok (.iconst 0, 1) := by decide +kernel
theorem dX8_readState_11 : decode cX8_readState 11 = .ok (.iastore, 1) := by decide +kernel
theorem dX8_readState_12 : decode cX8_readState 12 = .ok (.iconst 1, 1) := by decide +kernel
theorem dX8_readState_13 : decode cX8_readState 13 = .ok (.istore_n 3, 1) := by decide +kernel
theorem dX8_readState_14 : decode cX8_readState 14 = .ok (.iload_n 3, 1) := by decide +kernel
theorem dX8_readState_15 : decode cX8_readState 15 = .ok (.ifCond .eq 195, 3) := by decide +kernel
theorem dX8_readState_18 : decode cX8_readState 18 = .ok (.aload_n 0, 1) := by decide +kernel
theorem dX8_readState_19 : decode cX8_readState 19 = .ok (.getfield 130, 3) := by decide +kernel
theorem dX8_readState_22 : decode cX8_readState 22 = .ok (.ifCond .ne 188, 3) := by decide +kernel
theorem dX8_readState_25 : decode cX8_readState 25 = .ok (.aload_n 0, 1) := by decide +kernel
theorem dX8_readState_26 : decode cX8_readState 26 = .ok (.getfield 31, 3) := by decide +kernel
theorem dX8_readState_29 : decode cX8_readState 29 = .ok (.iload_n 2, 1) := by decide +kernel
theorem dX8_readState_30 : decode cX8_readState 30 = .ok (.iaload, 1) := by decide +kernel
theorem dX8_readState_31 : decode cX8_readState 31 = .ok (.iconst 5, 1) := by decide +kernel
theorem dX8_readState_32 : decode cX8_readState 32 = .ok (.if_icmp .ne 15, 3) := by decide +kernel
theorem dX8_readState_35 : decode cX8_readState 35 = .ok (.aload_n 0, 1) := by decide +kernel
theorem dX8_readState_36 : decode cX8_readState 36 = .ok (.invokevirtual 126, 3) := by decide +kernel
theorem dX8_readState_39 : decode cX8_readState 39 = .ok (.istore 4, 2) := by decide +kernel
theorem dX8_readState_41 : decode cX8_readState 41 = .ok (.aload_n 0, 1) := by decide +kernel
theorem dX8_readState_42 : decode cX8_readState 42 = .ok (.iconst 1, 1) := by decide +kernel
theorem dX8_readState_43 : decode cX8_readState 43 = .ok (.putfield 130, 3) := by decide +kernel
theorem dX8_readState_46 : decode cX8_readState 46 = .ok (.return_, 1) := by decide +kernel
theorem dX8_readState_47 : decode cX8_readState 47 = .ok (.iconst 5, 1) := by decide +kernel
theorem dX8_readState_48 : decode cX8_readState 48 = .ok (.iload_n 2, 1) := by decide +kernel
theorem dX8_readState_49 : decode cX8_readState 49 = .ok (.imul, 1) := by decide +kernel
theorem dX8_readState_50 : decode cX8_readState 50 = .ok (.aload_n 0, 1) := by decide +kernel
theorem dX8_readState_51 : decode cX8_readState 51 = .ok (.getfield 31, 3) := by decide +kernel
theorem dX8_readState_54 : decode cX8_readState 54 = .ok (.iload_n 2, 1) := by decide +kernel
theorem dX8_readState_55 : decode cX8_readState 55 = .ok (.iaload, 1) := by decide +kernel
theorem dX8_readState_56 : decode cX8_readState 56 = .ok (.iadd, 1) := by decide +kernel
theorem dX8_readState_57 : decode cX8_readState 57 = .ok (.istore 4, 2) := by decide +kernel
theorem dX8_readState_59 : decode cX8_readState 59 = .ok (.aload_n 0, 1) := by decide +kernel
theorem dX8_readState_60 : decode cX8_readState 60 = .ok (.iconst 2, 1) := by decide +kernel
theorem dX8_readState_61 : decode cX8_readState 61 = .ok (.iload 4, 2) := by decide +kernel
theorem dX8_readState_63 : decode cX8_readState 63 = .ok (.imul, 1) := by decide +kernel
theorem dX8_readState_64 : decode cX8_readState 64 = .ok (.invokevirtual 142, 3) := by decide +kernel
theorem dX8_readState_67 : decode cX8_readState 67 = .ok (.aload_n 0, 1) := by decide +kernel
theorem dX8_readState_68 : decode cX8_readState 68 = .ok (.getfield 130, 3) := by decide +kernel
theorem dX8_readState_71 : decode cX8_readState 71 = .ok (.ifCond .eq 7, 3) := by decide +kernel
theorem dX8_readState_74 : decode cX8_readState 74 = .ok (.iconst 0, 1) := by decide +kernel
theorem dX8_readState_75 : decode cX8_readState 75 = .ok (.goto 7, 3) := by decide +kernel
theorem dX8_readState_78 : decode cX8_readState 78 = .ok (.aload_n 0, 1) := by decide +kernel
theorem dX8_readState_79 : decode cX8_readState 79 = .ok (.invokevirtual 126, 3) := by decide +kernel
theorem dX8_readState_82 : decode cX8_readState 82 = .ok (.istore 5, 2) := by decide +kernel
theorem dX8_readState_84 : decode cX8_readState 84 = .ok (.aload_n 0, 1) := by decide +kernel
theorem dX8_readState_85 : decode cX8_readState 85 = .ok (.aload_n 0, 1) := by decide +kernel
theorem dX8_readState_86 : decode cX8_readState 86 = .ok (.getfield 130, 3) := by decide +kernel
theorem dX8_readState_89 : decode cX8_readState 89 = .ok (.ifCond .ne 24, 3) := by decide +kernel
theorem dX8_readState_92 : decode cX8_readState 92 = .ok (.iload 5, 2) := by decide +kernel
theorem dX8_readState_94 : decode cX8_readState 94 = .ok (.bipush 60, 2) := by decide +kernel
theorem dX8_readState_96 : decode cX8_readState 96 = .ok (.if_icmp .eq 21, 3) := by decide +kernel
theorem dX8_readState_99 : decode cX8_readState 99 = .ok (.iload 5, 2) := by decide +kernel
theorem dX8_readState_101 : decode cX8_readState 101 = .ok (.bipush 62, 2) := by decide +kernel
theorem dX8_readState_103 : decode cX8_readState 103 = .ok (.if_icmp .eq 14, 3) := by decide +kernel
theorem dX8_readState_106 : decode cX8_readState 106 = .ok (.iload 5, 2) := by decide +kernel
theorem dX8_readState_108 : decode cX8_readState 108 = .ok (.bipush 61, 2) := by decide +kernel
theorem dX8_readState_110 : decode cX8_readState 110 = .ok (.if_icmp .eq 7, 3) := by decide +kernel
theorem dX8_readState_113 : decode cX8_readState 113 = .ok (.iconst 1, 1) := by decide +kernel
theorem dX8_readState_114 : decode cX8_readState 114 = .ok (.goto 4, 3) := by decide +kernel
theorem dX8_readState_117 : decode cX8_readState 117 = .ok (.iconst 0, 1) := by decide +kernel
theorem dX8_readState_118 : decode cX8_readState 118 = .ok (.putfield 130, 3) := by decide +kernel
theorem dX8_readState_121 : decode cX8_readState 121 = .ok (.aload_n 0, 1) := by decide +kernel
theorem dX8_readState_122 : decode cX8_readState 122 = .ok (.getfield 130, 3) := by decide +kernel
theorem dX8_readState_125 : decode cX8_readState 125 = .ok (.ifCond .ne 42, 3) := by decide +kernel
theorem dX8_readState_128 : decode cX8_readState 128 = .ok (.aload_n 0, 1) := by decide +kernel
theorem dX8_readState_129 : decode cX8_readState 129 = .ok (.getfield 34, 3) := by decide +kernel
theorem dX8_readState_132 : decode cX8_readState 132 = .ok (.iload 4, 2) := by decide +kernel
theorem dX8_readState_134 : decode cX8_readState 134 = .ok (.iload 5, 2) := by decide +kernel
theorem dX8_readState_136 : decode cX8_readState 136 = .ok (.iastore, 1) := by decide +kernel
theorem dX8_readState_137 : decode cX8_readState 137 = .ok (.aload_n 0, 1) := by decide +kernel
theorem dX8_readState_138 : decode cX8_readState 138 = .ok (.dup, 1) := by decide +kernel
theorem dX8_readState_139 : decode cX8_readState 139 = .ok (.getfield 123, 3) := by decide +kernel
theorem dX8_readState_142 : decode cX8_readState 142 = .ok (.iconst 1, 1) := by decide +kernel
theorem dX8_readState_143 : decode cX8_readState 143 = .ok (.iadd, 1) := by decide +kernel
theorem dX8_readState_144 : decode cX8_readState 144 = .ok (.putfield 123, 3) := by decide +kernel
theorem dX8_readState_147 : decode cX8_readState 147 = .ok (.aload_n 0, 1) := by decide +kernel
theorem dX8_readState_148 : decode cX8_readState 148 = .ok (.iconst 2, 1) := by decide +kernel
theorem dX8_readState_149 : decode cX8_readState 149 = .ok (.iload 4, 2) := by decide +kernel
theorem dX8_readState_151 : decode cX8_readState 151 = .ok (.imul, 1) := by decide +kernel
theorem dX8_readState_152 : decode cX8_readState 152 = .ok (.iconst 1, 1) := by decide +kernel
theorem dX8_readState_153 : decode cX8_readState 153 = .ok (.iadd, 1) := by decide +kernel
theorem dX8_readState_154 : decode cX8_readState 154 = .ok (.invokevirtual 142, 3) := by decide +kernel
theorem dX8_readState_157 : decode cX8_readState 157 = .ok (.aload_n 0, 1) := by decide +kernel
theorem dX8_readState_158 : decode cX8_readState 158 = .ok (.getfield 31, 3) := by decide +kernel
theorem dX8_readState_161 : decode cX8_readState 161 = .ok (.iload_n 2, 1) := by decide +kernel
theorem dX8_readState_162 : decode cX8_readState 162 = .ok (.dup2, 1) := by decide +kernel
theorem dX8_readState_163 : decode cX8_readState 163 = .ok (.iaload, 1) := by decide +kernel
theorem dX8_readState_164 : decode cX8_readState 164 = .ok (.iconst 1, 1) := by decide +kernel
theorem dX8_readState_165 : decode cX8_readState 165 = .ok (.iadd, 1) := by decide +kernel
theorem dX8_readState_166 : decode cX8_readState 166 = .ok (.iastore, 1) := by decide +kernel
theorem dX8_readState_167 : decode cX8_readState 167 = .ok (.aload_n 0, 1) := by decide +kernel
theorem dX8_readState_168 : decode cX8_readState 168 = .ok (.getfield 130, 3) := by decide +kernel
theorem dX8_readState_171 : decode cX8_readState 171 = .ok (.ifCond .ne 16, 3) := by decide +kernel
theorem dX8_readState_174 : decode cX8_readState 174 = .ok (.aload_n 0, 1) := by decide +kernel
theorem dX8_readState_175 : decode cX8_readState 175 = .ok (.invokevirtual 126, 3) := by decide +kernel
theorem dX8_readState_178 : decode cX8_readState 178 = .ok (.bipush 38, 2) := by decide +kernel
theorem dX8_readState_180 : decode cX8_readState 180 = .ok (.if_icmp .ne 7, 3) := by decide +kernel
theorem dX8_readState_183 : decode cX8_readState 183 = .ok (.iconst 1, 1) := by decide +kernel
theorem dX8_readState_184 : decode cX8_readState 184 = .ok (.goto 4, 3) := by decide +kernel
theorem dX8_readState_187 : decode cX8_readState 187 = .ok (.iconst 0, 1) := by decide +kernel
theorem dX8_readState_188 : decode cX8_readState 188 = .ok (.istore_n 3, 1) := by decide +kernel
theorem dX8_readState_189 : decode cX8_readState 189 = .ok (.aload_n 0, 1) := by decide +kernel
theorem dX8_readState_190 : decode cX8_readState 190 = .ok (.dup, 1) := by decide +kernel
theorem dX8_readState_191 : decode cX8_readState 191 = .ok (.getfield 123, 3) := by decide +kernel
theorem dX8_readState_194 : decode cX8_readState 194 = .ok (.iload_n 3, 1) := by decide +kernel
theorem dX8_readState_195 : decode cX8_readState 195 = .ok (.ifCond .eq 7, 3) := by decide +kernel
theorem dX8_readState_198 : decode cX8_readState 198 = .ok (.iconst 1, 1) := by decide +kernel
theorem dX8_readState_199 : decode cX8_readState 199 = .ok (.goto 4, 3) := by decide +kernel
theorem dX8_readState_202 : decode cX8_readState 202 = .ok (.iconst 0, 1) := by decide +kernel
theorem dX8_readState_203 : decode cX8_readState 203 = .ok (.iadd, 1) := by decide +kernel
theorem dX8_readState_204 : decode cX8_readState 204 = .ok (.putfield 123, 3) := by decide +kernel
theorem dX8_readState_207 : decode cX8_readState 207 = .ok (.goto (-193), 3) := by decide +kernel
theorem dX8_readState_210 : decode cX8_readState 210 = .ok (.return_, 1) := by decide +kernel
theorem dX8_states_0 : decode cX8_states 0 = .ok (.aload_n 0, 1) := by decide +kernel
theorem dX8_states_1 : decode cX8_states 1 = .ok (.iconst 0, 1) := by decide +kernel
theorem dX8_states_2 : decode cX8_states 2 = .ok (.putfield 123, 3) := by decide +kernel
theorem dX8_states_5 : decode cX8_states 5 = .ok (.aload_n 0, 1) := by decide +kernel
theorem dX8_states_6 : decode cX8_states 6 = .ok (.iconst 0, 1) := by decide +kernel
theorem dX8_states_7 : decode cX8_states 7 = .ok (.putfield 130, 3) := by decide +kernel
theorem dX8_states_10 : decode cX8_states 10 = .ok (.iconst 0, 1) := by decide +kernel
theorem dX8_states_11 : decode cX8_states 11 = .ok (.istore_n 1, 1) := by decide +kernel
theorem dX8_states_12 : decode cX8_states 12 = .ok (.iconst 1, 1) := by decide +kernel
theorem dX8_states_13 : decode cX8_states 13 = .ok (.istore_n 2, 1) := by decide +kernel
theorem dX8_states_14 : decode cX8_states 14 = .ok (.iload_n 2, 1) := by decide +kernel
theorem dX8_states_15 : decode cX8_states 15 = .ok (.ifCond .eq 119, 3) := by decide +kernel
theorem dX8_states_18 : decode cX8_states 18 = .ok (.aload_n 0, 1) := by decide +kernel
theorem dX8_states_19 : decode cX8_states 19 = .ok (.getfield 130, 3) := by decide +kernel
theorem dX8_states_22 : decode cX8_states 22 = .ok (.ifCond .ne 112, 3) := by decide +kernel
theorem dX8_states_25 : decode cX8_states 25 = .ok (.iload_n 1, 1) := by decide +kernel
theorem dX8_states_26 : decode cX8_states 26 = .ok (.bipush 6, 2) := by decide +kernel
theorem dX8_states_28 : decode cX8_states 28 = .ok (.if_icmp .ne 16, 3) := by decide +kernel
theorem dX8_states_31 : decode cX8_states 31 = .ok (.aload_n 0, 1) := by decide +kernel
theorem dX8_states_32 : decode cX8_states 32 = .ok (.invokevirtual 126, 3) := by decide +kernel
theorem dX8_states_35 : decode cX8_states 35 = .ok (.istore_n 3, 1) := by decide +kernel
theorem dX8_states_36 : decode cX8_states 36 = .ok (.aload_n 0, 1) := by decide +kernel
theorem dX8_states_37 : decode cX8_states 37 = .ok (.iconst 1, 1) := by decide +kernel
theorem dX8_states_38 : decode cX8_states 38 = .ok (.putfield 130, 3) := by decide +kernel
theorem dX8_states_41 : decode cX8_states 41 = .ok (.goto (-27), 3) := by decide +kernel
theorem dX8_states_44 : decode cX8_states 44 = .ok (.aload_n 0, 1) := by decide +kernel
theorem dX8_states_45 : decode cX8_states 45 = .ok (.iload_n 1, 1) := by decide +kernel
theorem dX8_states_46 : decode cX8_states 46 = .ok (.invokevirtual 146, 3) := by decide +kernel
theorem dX8_states_49 : decode cX8_states 49 = .ok (.iinc 1 1, 3) := by decide +kernel
theorem dX8_states_52 : decode cX8_states 52 = .ok (.aload_n 0, 1) := by decide +kernel
theorem dX8_states_53 : decode cX8_states 53 = .ok (.getfield 130, 3) := by decide +kernel
theorem dX8_states_56 : decode cX8_states 56 = .ok (.ifCond .eq 7, 3) := by decide +kernel
theorem dX8_states_59 : decode cX8_states 59 = .ok (.iconst 0, 1) := by decide +kernel
theorem dX8_states_60 : decode cX8_states 60 = .ok (.goto 7, 3) := by decide +kernel
theorem dX8_states_63 : decode cX8_states 63 = .ok (.aload_n 0, 1) := by decide +kernel
theorem dX8_states_64 : decode cX8_states 64 = .ok (.invokevirtual 126, 3) := by decide +kernel
theorem dX8_states_67 : decode cX8_states 67 = .ok (.istore_n 3, 1) := by decide +kernel
theorem dX8_states_68 : decode cX8_states 68 = .ok (.aload_n 0, 1) := by decide +kernel
theorem dX8_states_69 : decode cX8_states 69 = .ok (.aload_n 0, 1) := by decide +kernel
theorem dX8_states_70 : decode cX8_states 70 = .ok (.getfield 130, 3) := by decide +kernel
theorem dX8_states_73 : decode cX8_states 73 = .ok (.ifCond .ne 13, 3) := by decide +kernel
theorem dX8_states_76 : decode cX8_states 76 = .ok (.iload_n 3, 1) := by decide +kernel
theorem dX8_states_77 : decode cX8_states 77 = .ok (.ifCond .eq 13, 3) := by decide +kernel
theorem dX8_states_80 : decode cX8_states 80 = .ok (.iload_n 3, 1) := by decide +kernel
theorem dX8_states_81 : decode cX8_states 81 = .ok (.bipush 59, 2) := by decide +kernel
theorem dX8_states_83 : decode cX8_states 83 = .ok (.if_icmp .eq 7, 3) := by decide +kernel
theorem dX8_states_86 : decode cX8_states 86 = .ok (.iconst 1, 1) := by decide +kernel
theorem dX8_states_87 : decode cX8_states 87 = .ok (.goto 4, 3) := by decide +kernel
theorem dX8_states_90 : decode cX8_states 90 = .ok (.iconst 0, 1) := by decide +kernel
theorem dX8_states_91 : decode cX8_states 91 = .ok (.putfield 130, 3) := by decide +kernel
theorem dX8_states_94 : decode cX8_states 94 = .ok (.aload_n 0, 1) := by decide +kernel
theorem dX8_states_95 : decode cX8_states 95 = .ok (.getfield 130, 3) := by decide +kernel
theorem dX8_states_98 : decode cX8_states 98 = .ok (.ifCond .ne 13, 3) := by decide +kernel
theorem dX8_states_101 : decode cX8_states 101 = .ok (.iload_n 3, 1) := by decide +kernel
theorem dX8_states_102 : decode cX8_states 102 = .ok (.bipush 59, 2) := by decide +kernel
theorem dX8_states_104 : decode cX8_states 104 = .ok (.if_icmp .ne 7, 3) := by decide +kernel
theorem dX8_states_107 : decode cX8_states 107 = .ok (.iconst 1, 1) := by decide +kernel
theorem dX8_states_108 : decode cX8_states 108 = .ok (.goto 4, 3) := by decide +kernel
theorem dX8_states_111 : decode cX8_states 111 = .ok (.iconst 0, 1) := by decide +kernel
theorem dX8_states_112 : decode cX8_states 112 = .ok (.istore_n 2, 1) := by decide +kernel
theorem dX8_states_113 : decode cX8_states 113 = .ok (.aload_n 0, 1) := by decide +kernel
theorem dX8_states_114 : decode cX8_states 114 = .ok (.dup, 1) := by decide +kernel
theorem dX8_states_115 : decode cX8_states 115 = .ok (.getfield 123, 3) := by decide +kernel
theorem dX8_states_118 : decode cX8_states 118 = .ok (.iload_n 2, 1) := by decide +kernel
theorem dX8_states_119 : decode cX8_states 119 = .ok (.ifCond .eq 7, 3) := by decide +kernel
theorem dX8_states_122 : decode cX8_states 122 = .ok (.iconst 1, 1) := by decide +kernel
theorem dX8_states_123 : decode cX8_states 123 = .ok (.goto 4, 3) := by decide +kernel
theorem dX8_states_126 : decode cX8_states 126 = .ok (.iconst 0, 1) := by decide +kernel
theorem dX8_states_127 : decode cX8_states 127 = .ok (.iadd, 1) := by decide +kernel
theorem dX8_states_128 : decode cX8_states 128 = .ok (.putfield 123, 3) := by decide +kernel
theorem dX8_states_131 : decode cX8_states 131 = .ok (.goto (-117), 3) := by decide +kernel
theorem dX8_states_134 : decode cX8_states 134 = .ok (.aload_n 0, 1) := by decide +kernel
theorem dX8_states_135 : decode cX8_states 135 = .ok (.iconst 0, 1) := by decide +kernel
theorem dX8_states_136 : decode cX8_states 136 = .ok (.putfield 120, 3) := by decide +kernel
theorem dX8_states_139 : decode cX8_states 139 = .ok (.aload_n 0, 1) := by decide +kernel
theorem dX8_states_140 : decode cX8_states 140 = .ok (.getfield 130, 3) := by decide +kernel
theorem dX8_states_143 : decode cX8_states 143 = .ok (.ifCond .eq 10, 3) := by decide +kernel
theorem dX8_states_146 : decode cX8_states 146 = .ok (.iconst (-1), 1) := by decide +kernel
theorem dX8_states_147 : decode cX8_states 147 = .ok (.aload_n 0, 1) := by decide +kernel
theorem dX8_states_148 : decode cX8_states 148 = .ok (.getfield 123, 3) := by decide +kernel
theorem dX8_states_151 : decode cX8_states 151 = .ok (.isub, 1) := by decide +kernel
theorem dX8_states_152 : decode cX8_states 152 = .ok (.ireturn, 1) := by decide +kernel
theorem dX8_states_153 : decode cX8_states 153 = .ok (.aload_n 0, 1) := by decide +kernel
theorem dX8_states_154 : decode cX8_states 154 = .ok (.iload_n 1, 1) := by decide +kernel
theorem dX8_states_155 : decode cX8_states 155 = .ok (.putfield 149, 3) := by decide +kernel
theorem dX8_states_158 : decode cX8_states 158 = .ok (.iconst 0, 1) := by decide +kernel
theorem dX8_states_159 : decode cX8_states 159 = .ok (.istore_n 3, 1) := by decide +kernel
theorem dX8_states_160 : decode cX8_states 160 = .ok (.iload_n 3, 1) := by decide +kernel
theorem dX8_states_161 : decode cX8_states 161 = .ok (.bipush 6, 2) := by decide +kernel
theorem dX8_states_163 : decode cX8_states 163 = .ok (.if_icmp .ge 24, 3) := by decide +kernel
theorem dX8_states_166 : decode cX8_states 166 = .ok (.aload_n 0, 1) := by decide +kernel
theorem dX8_states_167 : decode cX8_states 167 = .ok (.getfield 31, 3) := by decide +kernel
theorem dX8_states_170 : decode cX8_states 170 = .ok (.iload_n 3, 1) := by decide +kernel
theorem dX8_states_171 : decode cX8_states 171 = .ok (.aload_n 0, 1) := by decide +kernel
theorem dX8_states_172 : decode cX8_states 172 = .ok (.getfield 31, 3) := by decide +kernel
theorem dX8_states_175 : decode cX8_states 175 = .ok (.bipush 6, 2) := by decide +kernel
theorem dX8_states_177 : decode cX8_states 177 = .ok (.iload_n 3, 1) := by decide +kernel
theorem dX8_states_178 : decode cX8_states 178 = .ok (.iadd, 1) := by decide +kernel
theorem dX8_states_179 : decode cX8_states 179 = .ok (.iaload, 1) := by decide +kernel
theorem dX8_states_180 : decode cX8_states 180 = .ok (.iastore, 1) := by decide +kernel
theorem dX8_states_181 : decode cX8_states 181 = .ok (.iinc 3 1, 3) := by decide +kernel
theorem dX8_states_184 : decode cX8_states 184 = .ok (.goto (-24), 3) := by decide +kernel
theorem dX8_states_187 : decode cX8_states 187 = .ok (.iconst 0, 1) := by decide +kernel
theorem dX8_states_188 : decode cX8_states 188 = .ok (.istore_n 3, 1) := by decide +kernel
theorem dX8_states_189 : decode cX8_states 189 = .ok (.iload_n 3, 1) := by decide +kernel
theorem dX8_states_190 : decode cX8_states 190 = .ok (.bipush 30, 2) := by decide +kernel
theorem dX8_states_192 : decode cX8_states 192 = .ok (.if_icmp .ge 24, 3) := by decide +kernel
theorem dX8_states_195 : decode cX8_states 195 = .ok (.aload_n 0, 1) := by decide +kernel
theorem dX8_states_196 : decode cX8_states 196 = .ok (.getfield 34, 3) := by decide +kernel
theorem dX8_states_199 : decode cX8_states 199 = .ok (.iload_n 3, 1) := by decide +kernel
theorem dX8_states_200 : decode cX8_states 200 = .ok (.aload_n 0, 1) := by decide +kernel
theorem dX8_states_201 : decode cX8_states 201 = .ok (.getfield 34, 3) := by decide +kernel
theorem dX8_states_204 : decode cX8_states 204 = .ok (.bipush 30, 2) := by decide +kernel
theorem dX8_states_206 : decode cX8_states 206 = .ok (.iload_n 3, 1) := by decide +kernel
theorem dX8_states_207 : decode cX8_states 207 = .ok (.iadd, 1) := by decide +kernel
theorem dX8_states_208 : decode cX8_states 208 = .ok (.iaload, 1) := by decide +kernel
theorem dX8_states_209 : decode cX8_states 209 = .ok (.iastore, 1) := by decide +kernel
theorem dX8_states_210 : decode cX8_states 210 = .ok (.iinc 3 1, 3) := by decide +kernel
theorem dX8_states_213 : decode cX8_states 213 = .ok (.goto (-24), 3) := by decide +kernel
theorem dX8_states_216 : decode cX8_states 216 = .ok (.iconst 0, 1) := by decide +kernel
theorem dX8_states_217 : decode cX8_states 217 = .ok (.istore_n 3, 1) := by decide +kernel
theorem dX8_states_218 : decode cX8_states 218 = .ok (.iload_n 3, 1) := by decide +kernel
theorem dX8_states_219 : decode cX8_states 219 = .ok (.bipush 60, 2) := by decide +kernel
theorem dX8_states_221 : decode cX8_states 221 = .ok (.if_icmp .ge 24, 3) := by decide +kernel
theorem dX8_states_224 : decode cX8_states 224 = .ok (.aload_n 0, 1) := by decide +kernel
theorem dX8_states_225 : decode cX8_states 225 = .ok (.getfield 37, 3) := by decide +kernel
theorem dX8_states_228 : decode cX8_states 228 = .ok (.iload_n 3, 1) := by decide +kernel
theorem dX8_states_229 : decode cX8_states 229 = .ok (.aload_n 0, 1) := by decide +kernel
theorem dX8_states_230 : decode cX8_states 230 = .ok (.getfield 37, 3) := by decide +kernel
theorem dX8_states_233 : decode cX8_states 233 = .ok (.bipush 60, 2) := by decide +kernel
theorem dX8_states_235 : decode cX8_states 235 = .ok (.iload_n 3, 1) := by decide +kernel
theorem dX8_states_236 : decode cX8_states 236 = .ok (.iadd, 1) := by decide +kernel
theorem dX8_states_237 : decode cX8_states 237 = .ok (.iaload, 1) := by decide +kernel
theorem dX8_states_238 : decode cX8_states 238 = .ok (.iastore, 1) := by decide +kernel
theorem dX8_states_239 : decode cX8_states 239 = .ok (.iinc 3 1, 3) := by decide +kernel
theorem dX8_states_242 : decode cX8_states 242 = .ok (.goto (-24), 3) := by decide +kernel
theorem dX8_states_245 : decode cX8_states 245 = .ok (.iconst 0, 1) := by decide +kernel
theorem dX8_states_246 : decode cX8_states 246 = .ok (.istore_n 3, 1) := by decide +kernel
theorem dX8_states_247 : decode cX8_states 247 = .ok (.iload_n 3, 1) := by decide +kernel
theorem dX8_states_248 : decode cX8_states 248 = .ok (.sipush 240, 3) := by decide +kernel
theorem dX8_states_251 : decode cX8_states 251 = .ok (.if_icmp .ge 41, 3) := by decide +kernel
theorem dX8_states_254 : decode cX8_states 254 = .ok (.aload_n 0, 1) := by decide +kernel
theorem dX8_states_255 : decode cX8_states 255 = .ok (.getfield 40, 3) := by decide +kernel
theorem dX8_states_258 : decode cX8_states 258 = .ok (.iload_n 3, 1) := by decide +kernel
theorem dX8_states_259 : decode cX8_states 259 = .ok (.aload_n 0, 1) := by decide +kernel
theorem dX8_states_260 : decode cX8_states 260 = .ok (.getfield 40, 3) := by decide +kernel
theorem dX8_states_263 : decode cX8_states 263 = .ok (.sipush 240, 3) := by decide +kernel
theorem dX8_states_266 : decode cX8_states 266 = .ok (.iload_n 3, 1) := by decide +kernel
theorem dX8_states_267 : decode cX8_states 267 = .ok (.iadd, 1) := by decide +kernel
theorem dX8_states_268 : decode cX8_states 268 = .ok (.iaload, 1) := by decide +kernel
theorem dX8_states_269 : decode cX8_states 269 = .ok (.iastore, 1) := by decide +kernel
theorem dX8_states_270 : decode cX8_states 270 = .ok (.aload_n 0, 1) := by decide +kernel
theorem dX8_states_271 : decode cX8_states 271 = .ok (.getfield 43, 3) := by decide +kernel
theorem dX8_states_274 : decode cX8_states 274 = .ok (.iload_n 3, 1) := by decide +kernel
theorem dX8_states_275 : decode cX8_states 275 = .ok (.aload_n 0, 1) := by decide +kernel
theorem dX8_states_276 : decode cX8_states 276 = .ok (.getfield 43, 3) := by decide +kernel
theorem dX8_states_279 : decode cX8_states 279 = .ok (.sipush 240, 3) := by decide +kernel
theorem dX8_states_282 : decode cX8_states 282 = .ok (.iload_n 3, 1) := by decide +kernel
theorem dX8_states_283 : decode cX8_states 283 = .ok (.iadd, 1) := by decide +kernel
theorem dX8_states_284 : decode cX8_states 284 = .ok (.iaload, 1) := by decide +kernel
theorem dX8_states_285 : decode cX8_states 285 = .ok (.iastore, 1) := by decide +kernel
theorem dX8_states_286 : decode cX8_states 286 = .ok (.iinc 3 1, 3) := by decide +kernel
theorem dX8_states_289 : decode cX8_states 289 = .ok (.goto (-42), 3) := by decide +kernel
theorem dX8_states_292 : decode cX8_states 292 = .ok (.aload_n 0, 1) := by decide +kernel
theorem dX8_states_293 : decode cX8_states 293 = .ok (.getfield 149, 3) := by decide +kernel
theorem dX8_states_296 : decode cX8_states 296 = .ok (.ireturn, 1) := by decide +kernel
theorem dX8_sumOf_0 : decode cX8_sumOf 0 = .ok (.lconst 0, 1) := by decide +kernel
theorem dX8_sumOf_1 : decode cX8_sumOf 1 = .ok (.lstore 6, 2) := by decide +kernel
theorem dX8_sumOf_3 : decode cX8_sumOf 3 = .ok (.iconst 4, 1) := by decide +kernel
theorem dX8_sumOf_4 : decode cX8_sumOf 4 = .ok (.iload_n 1, 1) := by decide +kernel
theorem dX8_sumOf_5 : decode cX8_sumOf 5 = .ok (.imul, 1) := by decide +kernel
theorem dX8_sumOf_6 : decode cX8_sumOf 6 = .ok (.istore 8, 2) := by decide +kernel
theorem dX8_sumOf_8 : decode cX8_sumOf 8 = .ok (.iload 8, 2) := by decide +kernel
theorem dX8_sumOf_10 : decode cX8_sumOf 10 = .ok (.iconst 4, 1) := by decide +kernel
theorem dX8_sumOf_11 : decode cX8_sumOf 11 = .ok (.iload_n 1, 1) := by decide +kernel
theorem dX8_sumOf_12 : decode cX8_sumOf 12 = .ok (.imul, 1) := by decide +kernel
theorem dX8_sumOf_13 : decode cX8_sumOf 13 = .ok (.aload_n 0, 1) := by decide +kernel
theorem dX8_sumOf_14 : decode cX8_sumOf 14 = .ok (.getfield 37, 3) := by decide +kernel
theorem dX8_sumOf_17 : decode cX8_sumOf 17 = .ok (.iload_n 1, 1) := by decide +kernel
theorem dX8_sumOf_18 : decode cX8_sumOf 18 = .ok (.iaload, 1) := by decide +kernel
theorem dX8_sumOf_19 : decode cX8_sumOf 19 = .ok (.iadd, 1) := by decide +kernel
theorem dX8_sumOf_20 : decode cX8_sumOf 20 = .ok (.if_icmp .ge 127, 3) := by decide +kernel
theorem dX8_sumOf_23 : decode cX8_sumOf 23 = .ok (.aload_n 0, 1) := by decide +kernel
theorem dX8_sumOf_24 : decode cX8_sumOf 24 = .ok (.getfield 43, 3) := by decide +kernel
theorem dX8_sumOf_27 : decode cX8_sumOf 27 = .ok (.iload 8, 2) := by decide +kernel
theorem dX8_sumOf_29 : decode cX8_sumOf 29 = .ok (.iaload, 1) := by decide +kernel
theorem dX8_sumOf_30 : decode cX8_sumOf 30 = .ok (.istore 9, 2) := by decide +kernel
theorem dX8_sumOf_32 : decode cX8_sumOf 32 = .ok (.iload 9, 2) := by decide +kernel
theorem dX8_sumOf_34 : decode cX8_sumOf 34 = .ok (.ifCond .ne 7, 3) := by decide +kernel
theorem dX8_sumOf_37 : decode cX8_sumOf 37 = .ok (.lconst 1, 1) := by decide +kernel
theorem dX8_sumOf_38 : decode cX8_sumOf 38 = .ok (.goto 85, 3) := by decide +kernel
theorem dX8_sumOf_41 : decode cX8_sumOf 41 = .ok (.iload 9, 2) := by decide +kernel
theorem dX8_sumOf_43 : decode cX8_sumOf 43 = .ok (.bipush 104, 2) := by decide +kernel
theorem dX8_sumOf_45 : decode cX8_sumOf 45 = .ok (.if_icmp .ne 8, 3) := by decide +kernel
theorem dX8_sumOf_48 : decode cX8_sumOf 48 = .ok (.iload_n 3, 1) := by decide +kernel
theorem dX8_sumOf_49 : decode cX8_sumOf 49 = .ok (.i2l, 1) := by decide +kernel
theorem dX8_sumOf_50 : decode cX8_sumOf 50 = .ok (.goto 73, 3) := by decide +kernel
theorem dX8_sumOf_53 : decode cX8_sumOf 53 = .ok (.iload 9, 2) := by decide +kernel
theorem dX8_sumOf_55 : decode cX8_sumOf 55 = .ok (.bipush 116, 2) := by decide +kernel
theorem dX8_sumOf_57 : decode cX8_sumOf 57 = .ok (.if_icmp .ne 9, 3) := by decide +kernel
theorem dX8_sumOf_60 : decode cX8_sumOf 60 = .ok (.iload 4, 2) := by decide +kernel
theorem dX8_sumOf_62 : decode cX8_sumOf 62 = .ok (.i2l, 1) := by decide +kernel
theorem dX8_sumOf_63 : decode cX8_sumOf 63 = .ok (.goto 60, 3) := by decide +kernel
theorem dX8_sumOf_66 : decode cX8_sumOf 66 = .ok (.iload 9, 2) := by decide +kernel
theorem dX8_sumOf_68 : decode cX8_sumOf 68 = .ok (.bipush 113, 2) := by decide +kernel
theorem dX8_sumOf_70 : decode cX8_sumOf 70 = .ok (.if_icmp .ne 9, 3) := by decide +kernel
theorem dX8_sumOf_73 : decode cX8_sumOf 73 = .ok (.iload 5, 2) := by decide +kernel
theorem dX8_sumOf_75 : decode cX8_sumOf 75 = .ok (.i2l, 1) := by decide +kernel
theorem dX8_sumOf_76 : decode cX8_sumOf 76 = .ok (.goto 47, 3) := by decide +kernel
theorem dX8_sumOf_79 : decode cX8_sumOf 79 = .ok (.aload_n 0, 1) := by decide +kernel
theorem dX8_sumOf_80 : decode cX8_sumOf 80 = .ok (.getfield 25, 3) := by decide +kernel
theorem dX8_sumOf_83 : decode cX8_sumOf 83 = .ok (.iconst 4, 1) := by decide +kernel
theorem dX8_sumOf_84 : decode cX8_sumOf 84 = .ok (.iload_n 2, 1) := by decide +kernel
theorem dX8_sumOf_85 : decode cX8_sumOf 85 = .ok (.imul, 1) := by decide +kernel
theorem dX8_sumOf_86 : decode cX8_sumOf 86 = .ok (.iload 9, 2) := by decide +kernel
theorem dX8_sumOf_88 : decode cX8_sumOf 88 = .ok (.bipush 119, 2) := by decide +kernel
theorem dX8_sumOf_90 : decode cX8_sumOf 90 = .ok (.if_icmp .ne 7, 3) := by decide +kernel
theorem dX8_sumOf_93 : decode cX8_sumOf 93 = .ok (.iconst 0, 1) := by decide +kernel
theorem dX8_sumOf_94 : decode cX8_sumOf 94 = .ok (.goto 26, 3) := by decide +kernel
theorem dX8_sumOf_97 : decode cX8_sumOf 97 = .ok (.iload 9, 2) := by decide +kernel
theorem dX8_sumOf_99 : decode cX8_sumOf 99 = .ok (.bipush 100, 2) := by decide +kernel
theorem dX8_sumOf_101 : decode cX8_sumOf 101 = .ok (.if_icmp .ne 7, 3) := by decide +kernel
theorem dX8_sumOf_104 : decode cX8_sumOf 104 = .ok (.iconst 1, 1) := by decide +kernel
theorem dX8_sumOf_105 : decode cX8_sumOf 105 = .ok (.goto 15, 3) := by decide +kernel
theorem dX8_sumOf_108 : decode cX8_sumOf 108 = .ok (.iload 9, 2) := by decide +kernel
theorem dX8_sumOf_110 : decode cX8_sumOf 110 = .ok (.bipush 108, 2) := by decide +kernel
theorem dX8_sumOf_112 : decode cX8_sumOf 112 = .ok (.if_icmp .ne 7, 3) := by decide +kernel
theorem dX8_sumOf_115 : decode cX8_sumOf 115 = .ok (.iconst 2, 1) := by decide +kernel
theorem dX8_sumOf_116 : decode cX8_sumOf 116 = .ok (.goto 4, 3) := by decide +kernel
theorem dX8_sumOf_119 : decode cX8_sumOf 119 = .ok (.iconst 3, 1) := by decide +kernel
theorem dX8_sumOf_120 : decode cX8_sumOf 120 = .ok (.iadd, 1) := by decide +kernel
theorem dX8_sumOf_121 : decode cX8_sumOf 121 = .ok (.iaload, 1) := by decide +kernel
theorem dX8_sumOf_122 : decode cX8_sumOf 122 = .ok (.i2l, 1) := by decide +kernel
theorem dX8_sumOf_123 : decode cX8_sumOf 123 = .ok (.lstore 10, 2) := by decide +kernel
theorem dX8_sumOf_125 : decode cX8_sumOf 125 = .ok (.lload 6, 2) := by decide +kernel
theorem dX8_sumOf_127 : decode cX8_sumOf 127 = .ok (.aload_n 0, 1) := by decide +kernel
theorem dX8_sumOf_128 : decode cX8_sumOf 128 = .ok (.getfield 40, 3) := by decide +kernel
theorem dX8_sumOf_131 : decode cX8_sumOf 131 = .ok (.iload 8, 2) := by decide +kernel
theorem dX8_sumOf_133 : decode cX8_sumOf 133 = .ok (.iaload, 1) := by decide +kernel
theorem dX8_sumOf_134 : decode cX8_sumOf 134 = .ok (.i2l, 1) := by decide +kernel
theorem dX8_sumOf_135 : decode cX8_sumOf 135 = .ok (.lload 10, 2) := by decide +kernel
theorem dX8_sumOf_137 : decode cX8_sumOf 137 = .ok (.lmul, 1) := by decide +kernel
theorem dX8_sumOf_138 : decode cX8_sumOf 138 = .ok (.ladd, 1) := by decide +kernel
theorem dX8_sumOf_139 : decode cX8_sumOf 139 = .ok (.lstore 6, 2) := by decide +kernel
theorem dX8_sumOf_141 : decode cX8_sumOf 141 = .ok (.iinc 8 1, 3) := by decide +kernel
theorem dX8_sumOf_144 : decode cX8_sumOf 144 = .ok (.goto (-136), 3) := by decide +kernel
theorem dX8_sumOf_147 : decode cX8_sumOf 147 = .ok (.lload 6, 2) := by decide +kernel
theorem dX8_sumOf_149 : decode cX8_sumOf 149 = .ok (.lreturn, 1) := by decide +kernel
theorem dX8_isIn_0 : decode cX8_isIn 0 = .ok (.iconst 1, 1) := by decide +kernel
theorem dX8_isIn_1 : decode cX8_isIn 1 = .ok (.istore 6, 2) := by decide +kernel
theorem dX8_isIn_3 : decode cX8_isIn 3 = .ok (.iconst 0, 1) := by decide +kernel
theorem dX8_isIn_4 : decode cX8_isIn 4 = .ok (.istore 7, 2) := by decide +kernel
theorem dX8_isIn_6 : decode cX8_isIn 6 = .ok (.iload 7, 2) := by decide +kernel
theorem dX8_isIn_8 : decode cX8_isIn 8 = .ok (.aload_n 0, 1) := by decide +kernel
theorem dX8_isIn_9 : decode cX8_isIn 9 = .ok (.getfield 31, 3) := by decide +kernel
theorem dX8_isIn_12 : decode cX8_isIn 12 = .ok (.iload_n 1, 1) := by decide +kernel
theorem dX8_isIn_13 : decode cX8_isIn 13 = .ok (.iaload, 1) := by decide +kernel
theorem dX8_isIn_14 : decode cX8_isIn 14 = .ok (.if_icmp .ge 127, 3) := by decide +kernel
theorem dX8_isIn_17 : decode cX8_isIn 17 = .ok (.iload 6, 2) := by decide +kernel
theorem dX8_isIn_19 : decode cX8_isIn 19 = .ok (.ifCond .eq 122, 3) := by decide +kernel
theorem dX8_isIn_22 : decode cX8_isIn 22 = .ok (.iconst 5, 1) := by decide +kernel
theorem dX8_isIn_23 : decode cX8_isIn 23 = .ok (.iload_n 1, 1) := by decide +kernel
theorem dX8_isIn_24 : decode cX8_isIn 24 = .ok (.imul, 1) := by decide +kernel
theorem dX8_isIn_25 : decode cX8_isIn 25 = .ok (.iload 7, 2) := by decide +kernel
theorem dX8_isIn_27 : decode cX8_isIn 27 = .ok (.iadd, 1) := by decide +kernel
theorem dX8_isIn_28 : decode cX8_isIn 28 = .ok (.istore 8, 2) := by decide +kernel
theorem dX8_isIn_30 : decode cX8_isIn 30 = .ok (.aload_n 0, 1) := by decide +kernel
theorem dX8_isIn_31 : decode cX8_isIn 31 = .ok (.iconst 2, 1) := by decide +kernel
theorem dX8_isIn_32 : decode cX8_isIn 32 = .ok (.iload 8, 2) := by decide +kernel
theorem dX8_isIn_34 : decode cX8_isIn 34 = .ok (.imul, 1) := by decide +kernel
theorem dX8_isIn_35 : decode cX8_isIn 35 = .ok (.iload_n 2, 1) := by decide +kernel
theorem dX8_isIn_36 : decode cX8_isIn 36 = .ok (.iload_n 3, 1) := by decide +kernel
theorem dX8_isIn_37 : decode cX8_isIn 37 = .ok (.iload 4, 2) := by decide +kernel
theorem dX8_isIn_39 : decode cX8_isIn 39 = .ok (.iload 5, 2) := by decide +kernel
theorem dX8_isIn_41 : decode cX8_isIn 41 = .ok (.invokevirtual 152, 3) := by decide +kernel
theorem dX8_isIn_44 : decode cX8_isIn 44 = .ok (.lstore 9, 2) := by decide +kernel
theorem dX8_isIn_46 : decode cX8_isIn 46 = .ok (.aload_n 0, 1) := by decide +kernel
theorem dX8_isIn_47 : decode cX8_isIn 47 = .ok (.iconst 2, 1) := by decide +kernel
theorem dX8_isIn_48 : decode cX8_isIn 48 = .ok (.iload 8, 2) := by decide +kernel
theorem dX8_isIn_50 : decode cX8_isIn 50 = .ok (.imul, 1) := by decide +kernel
theorem dX8_isIn_51 : decode cX8_isIn 51 = .ok (.iconst 1, 1) := by decide +kernel
theorem dX8_isIn_52 : decode cX8_isIn 52 = .ok (.iadd, 1) := by decide +kernel
theorem dX8_isIn_53 : decode cX8_isIn 53 = .ok (.iload_n 2, 1) := by decide +kernel
theorem dX8_isIn_54 : decode cX8_isIn 54 = .ok (.iload_n 3, 1) := by decide +kernel
theorem dX8_isIn_55 : decode cX8_isIn 55 = .ok (.iload 4, 2) := by decide +kernel
theorem dX8_isIn_57 : decode cX8_isIn 57 = .ok (.iload 5, 2) := by decide +kernel
theorem dX8_isIn_59 : decode cX8_isIn 59 = .ok (.invokevirtual 152, 3) := by decide +kernel
theorem dX8_isIn_62 : decode cX8_isIn 62 = .ok (.lstore 11, 2) := by decide +kernel
theorem dX8_isIn_64 : decode cX8_isIn 64 = .ok (.aload_n 0, 1) := by decide +kernel
theorem dX8_isIn_65 : decode cX8_isIn 65 = .ok (.getfield 34, 3) := by decide +kernel
theorem dX8_isIn_68 : decode cX8_isIn 68 = .ok (.iload 8, 2) := by decide +kernel
theorem dX8_isIn_70 : decode cX8_isIn 70 = .ok (.iaload, 1) := by decide +kernel
theorem dX8_isIn_71 : decode cX8_isIn 71 = .ok (.bipush 60, 2) := by decide +kernel
theorem dX8_isIn_73 : decode cX8_isIn 73 = .ok (.if_icmp .ne 19, 3) := by decide +kernel
theorem dX8_isIn_76 : decode cX8_isIn 76 = .ok (.lload 9, 2) := by decide +kernel
theorem dX8_isIn_78 : decode cX8_isIn 78 = .ok (.lload 11, 2) := by decide +kernel
theorem dX8_isIn_80 : decode cX8_isIn 80 = .ok (.lcmp, 1) := by decide +kernel
theorem dX8_isIn_81 : decode cX8_isIn 81 = .ok (.ifCond .ge 7, 3) := by decide +kernel
theorem dX8_isIn_84 : decode cX8_isIn 84 = .ok (.iconst 1, 1) := by decide +kernel
theorem dX8_isIn_85 : decode cX8_isIn 85 = .ok (.goto 48, 3) := by decide +kernel
theorem dX8_isIn_88 : decode cX8_isIn 88 = .ok (.iconst 0, 1) := by decide +kernel
theorem dX8_isIn_89 : decode cX8_isIn 89 = .ok (.goto 44, 3) := by decide +kernel
theorem dX8_isIn_92 : decode cX8_isIn 92 = .ok (.aload_n 0, 1) := by decide +kernel
theorem dX8_isIn_93 : decode cX8_isIn 93 = .ok (.getfield 34, 3) := by decide +kernel
theorem dX8_isIn_96 : decode cX8_isIn 96 = .ok (.iload 8, 2) := by decide +kernel
theorem dX8_isIn_98 : decode cX8_isIn 98 = .ok (.iaload, 1) := by decide +kernel
theorem dX8_isIn_99 : decode cX8_isIn 99 = .ok (.bipush 62, 2) := by decide +kernel
theorem dX8_isIn_101 : decode cX8_isIn 101 = .ok (.if_icmp .ne 19, 3) := by decide +kernel
theorem dX8_isIn_104 : decode cX8_isIn 104 = .ok (.lload 9, 2) := by decide +kernel
theorem dX8_isIn_106 : decode cX8_isIn 106 = .ok (.lload 11, 2) := by decide +kernel
theorem dX8_isIn_108 : decode cX8_isIn 108 = .ok (.lcmp, 1) := by decide +kernel
theorem dX8_isIn_109 : decode cX8_isIn 109 = .ok (.ifCond .le 7, 3) := by decide +kernel
theorem dX8_isIn_112 : decode cX8_isIn 112 = .ok (.iconst 1, 1) := by decide +kernel
theorem dX8_isIn_113 : decode cX8_isIn 113 = .ok (.goto 20, 3) := by decide +kernel
theorem dX8_isIn_116 : decode cX8_isIn 116 = .ok (.iconst 0, 1) := by decide +kernel
theorem dX8_isIn_117 : decode cX8_isIn 117 = .ok (.goto 16, 3) := by decide +kernel
theorem dX8_isIn_120 : decode cX8_isIn 120 = .ok (.lload 9, 2) := by decide +kernel
theorem dX8_isIn_122 : decode cX8_isIn 122 = .ok (.lload 11, 2) := by decide +kernel
theorem dX8_isIn_124 : decode cX8_isIn 124 = .ok (.lcmp, 1) := by decide +kernel
theorem dX8_isIn_125 : decode cX8_isIn 125 = .ok (.ifCond .ne 7, 3) := by decide +kernel
theorem dX8_isIn_128 : decode cX8_isIn 128 = .ok (.iconst 1, 1) := by decide +kernel
theorem dX8_isIn_129 : decode cX8_isIn 129 = .ok (.goto 4, 3) := by decide +kernel
theorem dX8_isIn_132 : decode cX8_isIn 132 = .ok (.iconst 0, 1) := by decide +kernel
theorem dX8_isIn_133 : decode cX8_isIn 133 = .ok (.istore 6, 2) := by decide +kernel
theorem dX8_isIn_135 : decode cX8_isIn 135 = .ok (.iinc 7 1, 3) := by decide +kernel
theorem dX8_isIn_138 : decode cX8_isIn 138 = .ok (.goto (-132), 3) := by decide +kernel
theorem dX8_isIn_141 : decode cX8_isIn 141 = .ok (.iload 6, 2) := by decide +kernel
theorem dX8_isIn_143 : decode cX8_isIn 143 = .ok (.ireturn, 1) := by decide +kernel
theorem dX8_isWater_0 : decode cX8_isWater 0 = .ok (.iload_n 0, 1) := by decide +kernel
theorem dX8_isWater_1 : decode cX8_isWater 1 = .ok (.i2l, 1) := by decide +kernel
theorem dX8_isWater_2 : decode cX8_isWater 2 = .ok (.lconst 0, 1) := by decide +kernel
theorem dX8_isWater_3 : decode cX8_isWater 3 = .ok (.ldc2_w 156, 3) := by decide +kernel
theorem dX8_isWater_6 : decode cX8_isWater 6 = .ok (.invokestatic 64, 3) := by decide +kernel
theorem dX8_isWater_9 : decode cX8_isWater 9 = .ok (.ireturn, 1) := by decide +kernel
theorem dX8_isCulvert_0 : decode cX8_isCulvert 0 = .ok (.iload_n 1, 1) := by decide +kernel
theorem dX8_isCulvert_1 : decode cX8_isCulvert 1 = .ok (.ifCond .lt 15, 3) := by decide +kernel
theorem dX8_isCulvert_4 : decode cX8_isCulvert 4 = .ok (.iload_n 1, 1) := by decide +kernel
theorem dX8_isCulvert_5 : decode cX8_isCulvert 5 = .ok (.aload_n 0, 1) := by decide +kernel
theorem dX8_isCulvert_6 : decode cX8_isCulvert 6 = .ok (.getfield 113, 3) := by decide +kernel
theorem dX8_isCulvert_9 : decode cX8_isCulvert 9 = .ok (.if_icmp .ge 7, 3) := by decide +kernel
theorem dX8_isCulvert_12 : decode cX8_isCulvert 12 = .ok (.iconst 1, 1) := by decide +kernel
theorem dX8_isCulvert_13 : decode cX8_isCulvert 13 = .ok (.goto 4, 3) := by decide +kernel
theorem dX8_isCulvert_16 : decode cX8_isCulvert 16 = .ok (.iconst 0, 1) := by decide +kernel
theorem dX8_isCulvert_17 : decode cX8_isCulvert 17 = .ok (.ireturn, 1) := by decide +kernel
theorem dX8_state_0 : decode cX8_state 0 = .ok (.aload_n 0, 1) := by decide +kernel
theorem dX8_state_1 : decode cX8_state 1 = .ok (.iload_n 1, 1) := by decide +kernel
theorem dX8_state_2 : decode cX8_state 2 = .ok (.invokevirtual 158, 3) := by decide +kernel
theorem dX8_state_5 : decode cX8_state 5 = .ok (.ifCond .eq 25, 3) := by decide +kernel
theorem dX8_state_8 : decode cX8_state 8 = .ok (.iload_n 2, 1) := by decide +kernel
theorem dX8_state_9 : decode cX8_state 9 = .ok (.invokestatic 161, 3) := by decide +kernel
theorem dX8_state_12 : decode cX8_state 12 = .ok (.ifCond .eq 18, 3) := by decide +kernel
theorem dX8_state_15 : decode cX8_state 15 = .ok (.iload_n 3, 1) := by decide +kernel
theorem dX8_state_16 : decode cX8_state 16 = .ok (.invokestatic 161, 3) := by decide +kernel
theorem dX8_state_19 : decode cX8_state 19 = .ok (.ifCond .eq 11, 3) := by decide +kernel
theorem dX8_state_22 : decode cX8_state 22 = .ok (.iload 4, 2) := by decide +kernel
theorem dX8_state_24 : decode cX8_state 24 = .ok (.invokestatic 161, 3) := by decide +kernel
theorem dX8_state_27 : decode cX8_state 27 = .ok (.ifCond .ne 5, 3) := by decide +kernel
theorem dX8_state_30 : decode cX8_state 30 = .ok (.iconst (-1), 1) := by decide +kernel
theorem dX8_state_31 : decode cX8_state 31 = .ok (.ireturn, 1) := by decide +kernel
theorem dX8_state_32 : decode cX8_state 32 = .ok (.iconst 0, 1) := by decide +kernel
theorem dX8_state_33 : decode cX8_state 33 = .ok (.istore 5, 2) := by decide +kernel
theorem dX8_state_35 : decode cX8_state 35 = .ok (.iload 5, 2) := by decide +kernel
theorem dX8_state_37 : decode cX8_state 37 = .ok (.aload_n 0, 1) := by decide +kernel
theorem dX8_state_38 : decode cX8_state 38 = .ok (.getfield 149, 3) := by decide +kernel
theorem dX8_state_41 : decode cX8_state 41 = .ok (.if_icmp .ge 26, 3) := by decide +kernel
theorem dX8_state_44 : decode cX8_state 44 = .ok (.aload_n 0, 1) := by decide +kernel
theorem dX8_state_45 : decode cX8_state 45 = .ok (.iload 5, 2) := by decide +kernel
theorem dX8_state_47 : decode cX8_state 47 = .ok (.iload_n 1, 1) := by decide +kernel
theorem dX8_state_48 : decode cX8_state 48 = .ok (.iload_n 2, 1) := by decide +kernel
theorem dX8_state_49 : decode cX8_state 49 = .ok (.iload_n 3, 1) := by decide +kernel
theorem dX8_state_50 : decode cX8_state 50 = .ok (.iload 4, 2) := by decide +kernel
theorem dX8_state_52 : decode cX8_state 52 = .ok (.invokevirtual 164, 3) := by decide +kernel
theorem dX8_state_55 : decode cX8_state 55 = .ok (.ifCond .eq 6, 3) := by decide +kernel
theorem dX8_state_58 : decode cX8_state 58 = .ok (.iload 5, 2) := by decide +kernel
theorem dX8_state_60 : decode cX8_state 60 = .ok (.ireturn, 1) := by decide +kernel
theorem dX8_state_61 : decode cX8_state 61 = .ok (.iinc 5 1, 3) := by decide +kernel
theorem dX8_state_64 : decode cX8_state 64 = .ok (.goto (-29), 3) := by decide +kernel
theorem dX8_state_67 : decode cX8_state 67 = .ok (.iconst (-1), 1) := by decide +kernel
theorem dX8_state_68 : decode cX8_state 68 = .ok (.ireturn, 1) := by decide +kernel
theorem dX8_head_0 : decode cX8_head 0 = .ok (.aload_n 0, 1) := by decide +kernel
theorem dX8_head_1 : decode cX8_head 1 = .ok (.iload_n 1, 1) := by decide +kernel
theorem dX8_head_2 : decode cX8_head 2 = .ok (.invokevirtual 158, 3) := by decide +kernel
theorem dX8_head_5 : decode cX8_head 5 = .ok (.ifCond .eq 30, 3) := by decide +kernel
theorem dX8_head_8 : decode cX8_head 8 = .ok (.iload_n 2, 1) := by decide +kernel
theorem dX8_head_9 : decode cX8_head 9 = .ok (.ifCond .lt 26, 3) := by decide +kernel
theorem dX8_head_12 : decode cX8_head 12 = .ok (.iload_n 2, 1) := by decide +kernel
theorem dX8_head_13 : decode cX8_head 13 = .ok (.aload_n 0, 1) := by decide +kernel
theorem dX8_head_14 : decode cX8_head 14 = .ok (.getfield 149, 3) := by decide +kernel
theorem dX8_head_17 : decode cX8_head 17 = .ok (.if_icmp .ge 18, 3) := by decide +kernel
theorem dX8_head_20 : decode cX8_head 20 = .ok (.iload_n 3, 1) := by decide +kernel
theorem dX8_head_21 : decode cX8_head 21 = .ok (.invokestatic 161, 3) := by decide +kernel
theorem dX8_head_24 : decode cX8_head 24 = .ok (.ifCond .eq 11, 3) := by decide +kernel
theorem dX8_head_27 : decode cX8_head 27 = .ok (.iload 4, 2) := by decide +kernel
theorem dX8_head_29 : decode cX8_head 29 = .ok (.invokestatic 161, 3) := by decide +kernel
theorem dX8_head_32 : decode cX8_head 32 = .ok (.ifCond .ne 5, 3) := by decide +kernel
theorem dX8_head_35 : decode cX8_head 35 = .ok (.iconst (-1), 1) := by decide +kernel
theorem dX8_head_36 : decode cX8_head 36 = .ok (.ireturn, 1) := by decide +kernel
theorem dX8_head_37 : decode cX8_head 37 = .ok (.iconst 0, 1) := by decide +kernel
theorem dX8_head_38 : decode cX8_head 38 = .ok (.istore 5, 2) := by decide +kernel
theorem dX8_head_40 : decode cX8_head 40 = .ok (.iload 5, 2) := by decide +kernel
theorem dX8_head_42 : decode cX8_head 42 = .ok (.sipush 20000, 3) := by decide +kernel
theorem dX8_head_45 : decode cX8_head 45 = .ok (.if_icmp .gt 40, 3) := by decide +kernel
theorem dX8_head_48 : decode cX8_head 48 = .ok (.aload_n 0, 1) := by decide +kernel
theorem dX8_head_49 : decode cX8_head 49 = .ok (.iload_n 2, 1) := by decide +kernel
theorem dX8_head_50 : decode cX8_head 50 = .ok (.iload_n 1, 1) := by decide +kernel
theorem dX8_head_51 : decode cX8_head 51 = .ok (.iload 5, 2) := by decide +kernel
theorem dX8_head_53 : decode cX8_head 53 = .ok (.iload_n 3, 1) := by decide +kernel
theorem dX8_head_54 : decode cX8_head 54 = .ok (.iload 4, 2) := by decide +kernel
theorem dX8_head_56 : decode cX8_head 56 = .ok (.invokevirtual 164, 3) := by decide +kernel
theorem dX8_head_59 : decode cX8_head 59 = .ok (.ifCond .eq 20, 3) := by decide +kernel
theorem dX8_head_62 : decode cX8_head 62 = .ok (.aload_n 0, 1) := by decide +kernel
theorem dX8_head_63 : decode cX8_head 63 = .ok (.iload_n 1, 1) := by decide +kernel
theorem dX8_head_64 : decode cX8_head 64 = .ok (.iload 5, 2) := by decide +kernel
theorem dX8_head_66 : decode cX8_head 66 = .ok (.iload_n 3, 1) := by decide +kernel
theorem dX8_head_67 : decode cX8_head 67 = .ok (.iload 4, 2) := by decide +kernel
theorem dX8_head_69 : decode cX8_head 69 = .ok (.invokevirtual 168, 3) := by decide +kernel
theorem dX8_head_72 : decode cX8_head 72 = .ok (.iload_n 2, 1) := by decide +kernel
theorem dX8_head_73 : decode cX8_head 73 = .ok (.if_icmp .ne 6, 3) := by decide +kernel
theorem dX8_head_76 : decode cX8_head 76 = .ok (.iload 5, 2) := by decide +kernel
theorem dX8_head_78 : decode cX8_head 78 = .ok (.ireturn, 1) := by decide +kernel
theorem dX8_head_79 : decode cX8_head 79 = .ok (.iinc 5 1, 3) := by decide +kernel
theorem dX8_head_82 : decode cX8_head 82 = .ok (.goto (-42), 3) := by decide +kernel
theorem dX8_head_85 : decode cX8_head 85 = .ok (.iconst (-1), 1) := by decide +kernel
theorem dX8_head_86 : decode cX8_head 86 = .ok (.ireturn, 1) := by decide +kernel
theorem dX8_day_0 : decode cX8_day 0 = .ok (.lload_n 1, 1) := by decide +kernel
theorem dX8_day_1 : decode cX8_day 1 = .ok (.lconst 0, 1) := by decide +kernel
theorem dX8_day_2 : decode cX8_day 2 = .ok (.ldc2_w 172, 3) := by decide +kernel
theorem dX8_day_5 : decode cX8_day 5 = .ok (.invokestatic 64, 3) := by decide +kernel
theorem dX8_day_8 : decode cX8_day 8 = .ok (.ifCond .eq 13, 3) := by decide +kernel
theorem dX8_day_11 : decode cX8_day 11 = .ok (.aload_n 0, 1) := by decide +kernel
theorem dX8_day_12 : decode cX8_day 12 = .ok (.getfield 174, 3) := by decide +kernel
theorem dX8_day_15 : decode cX8_day 15 = .ok (.sipush 400, 3) := by decide +kernel
theorem dX8_day_18 : decode cX8_day 18 = .ok (.if_icmp .ne 5, 3) := by decide +kernel
theorem dX8_day_21 : decode cX8_day 21 = .ok (.iconst (-1), 1) := by decide +kernel
theorem dX8_day_22 : decode cX8_day 22 = .ok (.ireturn, 1) := by decide +kernel
theorem dX8_day_23 : decode cX8_day 23 = .ok (.aload_n 0, 1) := by decide +kernel
theorem dX8_day_24 : decode cX8_day 24 = .ok (.getfield 46, 3) := by decide +kernel
theorem dX8_day_27 : decode cX8_day 27 = .ok (.aload_n 0, 1) := by decide +kernel
theorem dX8_day_28 : decode cX8_day 28 = .ok (.getfield 174, 3) := by decide +kernel
theorem dX8_day_31 : decode cX8_day 31 = .ok (.lload_n 1, 1) := by decide +kernel
theorem dX8_day_32 : decode cX8_day 32 = .ok (.lastore, 1) := by decide +kernel
theorem dX8_day_33 : decode cX8_day 33 = .ok (.aload_n 0, 1) := by decide +kernel
theorem dX8_day_34 : decode cX8_day 34 = .ok (.dup, 1) := by decide +kernel
theorem dX8_day_35 : decode cX8_day 35 = .ok (.getfield 174, 3) := by decide +kernel
theorem dX8_day_38 : decode cX8_day 38 = .ok (.iconst 1, 1) := by decide +kernel
theorem dX8_day_39 : decode cX8_day 39 = .ok (.iadd, 1) := by decide +kernel
theorem dX8_day_40 : decode cX8_day 40 = .ok (.putfield 174, 3) := by decide +kernel
theorem dX8_day_43 : decode cX8_day 43 = .ok (.aload_n 0, 1) := by decide +kernel
theorem dX8_day_44 : decode cX8_day 44 = .ok (.iconst 0, 1) := by decide +kernel
theorem dX8_day_45 : decode cX8_day 45 = .ok (.putfield 177, 3) := by decide +kernel
theorem dX8_day_48 : decode cX8_day 48 = .ok (.aload_n 0, 1) := by decide +kernel
theorem dX8_day_49 : decode cX8_day 49 = .ok (.getfield 174, 3) := by decide +kernel
theorem dX8_day_52 : decode cX8_day 52 = .ok (.ireturn, 1) := by decide +kernel
theorem dX8_go_0 : decode cX8_go 0 = .ok (.lconst 0, 1) := by decide +kernel
theorem dX8_go_1 : decode cX8_go 1 = .ok (.lstore 5, 2) := by decide +kernel
theorem dX8_go_3 : decode cX8_go 3 = .ok (.iconst 0, 1) := by decide +kernel
theorem dX8_go_4 : decode cX8_go 4 = .ok (.istore 7, 2) := by decide +kernel
theorem dX8_go_6 : decode cX8_go 6 = .ok (.iconst 0, 1) := by decide +kernel
theorem dX8_go_7 : decode cX8_go 7 = .ok (.istore 8, 2) := by decide +kernel
theorem dX8_go_9 : decode cX8_go 9 = .ok (.iload 8, 2) := by decide +kernel
theorem dX8_go_11 : decode cX8_go 11 = .ok (.aload_n 0, 1) := by decide +kernel
theorem dX8_go_12 : decode cX8_go 12 = .ok (.getfield 174, 3) := by decide +kernel
theorem dX8_go_15 : decode cX8_go 15 = .ok (.if_icmp .ge 118, 3) := by decide +kernel
theorem dX8_go_18 : decode cX8_go 18 = .ok (.lload 5, 2) := by decide +kernel
theorem dX8_go_20 : decode cX8_go 20 = .ok (.aload_n 0, 1) := by decide +kernel
theorem dX8_go_21 : decode cX8_go 21 = .ok (.getfield 46, 3) := by decide +kernel
theorem dX8_go_24 : decode cX8_go 24 = .ok (.iload 8, 2) := by decide +kernel
theorem dX8_go_26 : decode cX8_go 26 = .ok (.laload, 1) := by decide +kernel
theorem dX8_go_27 : decode cX8_go 27 = .ok (.ladd, 1) := by decide +kernel
theorem dX8_go_28 : decode cX8_go 28 = .ok (.lstore 5, 2) := by decide +kernel
theorem dX8_go_30 : decode cX8_go 30 = .ok (.aload_n 0, 1) := by decide +kernel
theorem dX8_go_31 : decode cX8_go 31 = .ok (.getfield 53, 3) := by decide +kernel
theorem dX8_go_34 : decode cX8_go 34 = .ok (.iload 8, 2) := by decide +kernel
theorem dX8_go_36 : decode cX8_go 36 = .ok (.lload 5, 2) := by decide +kernel
theorem dX8_go_38 : decode cX8_go 38 = .ok (.lload_n 1, 1) := by decide +kernel
theorem dX8_go_39 : decode cX8_go 39 = .ok (.lcmp, 1) := by decide +kernel
theorem dX8_go_40 : decode cX8_go 40 = .ok (.ifCond .ge 8, 3) := by decide +kernel
theorem dX8_go_43 : decode cX8_go 43 = .ok (.lload 5, 2) := by decide +kernel
theorem dX8_go_45 : decode cX8_go 45 = .ok (.goto 4, 3) := by decide +kernel
theorem dX8_go_48 : decode cX8_go 48 = .ok (.lload_n 1, 1) := by decide +kernel
theorem dX8_go_49 : decode cX8_go 49 = .ok (.lastore, 1) := by decide +kernel
theorem dX8_go_50 : decode cX8_go 50 = .ok (.lload 5, 2) := by decide +kernel
theorem dX8_go_52 : decode cX8_go 52 = .ok (.aload_n 0, 1) := by decide +kernel
theorem dX8_go_53 : decode cX8_go 53 = .ok (.getfield 53, 3) := by decide +kernel
theorem dX8_go_56 : decode cX8_go 56 = .ok (.iload 8, 2) := by decide +kernel
theorem dX8_go_58 : decode cX8_go 58 = .ok (.laload, 1) := by decide +kernel
theorem dX8_go_59 : decode cX8_go 59 = .ok (.lsub, 1) := by decide +kernel
theorem dX8_go_60 : decode cX8_go 60 = .ok (.lstore 5, 2) := by decide +kernel
theorem dX8_go_62 : decode cX8_go 62 = .ok (.aload_n 0, 1) := by decide +kernel
theorem dX8_go_63 : decode cX8_go 63 = .ok (.getfield 56, 3) := by decide +kernel
theorem dX8_go_66 : decode cX8_go 66 = .ok (.iload 8, 2) := by decide +kernel
theorem dX8_go_68 : decode cX8_go 68 = .ok (.lload 5, 2) := by decide +kernel
theorem dX8_go_70 : decode cX8_go 70 = .ok (.lload_n 3, 1) := by decide +kernel
theorem dX8_go_71 : decode cX8_go 71 = .ok (.lcmp, 1) := by decide +kernel
theorem dX8_go_72 : decode cX8_go 72 = .ok (.ifCond .le 10, 3) := by decide +kernel
theorem dX8_go_75 : decode cX8_go 75 = .ok (.lload 5, 2) := by decide +kernel
theorem dX8_go_77 : decode cX8_go 77 = .ok (.lload_n 3, 1) := by decide +kernel
theorem dX8_go_78 : decode cX8_go 78 = .ok (.lsub, 1) := by decide +kernel
theorem dX8_go_79 : decode cX8_go 79 = .ok (.goto 4, 3) := by decide +kernel
theorem dX8_go_82 : decode cX8_go 82 = .ok (.lconst 0, 1) := by decide +kernel
theorem dX8_go_83 : decode cX8_go 83 = .ok (.lastore, 1) := by decide +kernel
theorem dX8_go_84 : decode cX8_go 84 = .ok (.lload 5, 2) := by decide +kernel
theorem dX8_go_86 : decode cX8_go 86 = .ok (.aload_n 0, 1) := by decide +kernel
theorem dX8_go_87 : decode cX8_go 87 = .ok (.getfield 56, 3) := by decide +kernel
theorem dX8_go_90 : decode cX8_go 90 = .ok (.iload 8, 2) := by decide +kernel
theorem dX8_go_92 : decode cX8_go 92 = .ok (.laload, 1) := by decide +kernel
theorem dX8_go_93 : decode cX8_go 93 = .ok (.lsub, 1) := by decide +kernel
theorem dX8_go_94 : decode cX8_go 94 = .ok (.lstore 5, 2) := by decide +kernel
theorem dX8_go_96 : decode cX8_go 96 = .ok (.aload_n 0, 1) := by decide +kernel
theorem dX8_go_97 : decode cX8_go 97 = .ok (.getfield 50, 3) := by decide +kernel
theorem dX8_go_100 : decode cX8_go 100 = .ok (.iload 8, 2) := by decide +kernel
theorem dX8_go_102 : decode cX8_go 102 = .ok (.lload 5, 2) := by decide +kernel
theorem dX8_go_104 : decode cX8_go 104 = .ok (.lastore, 1) := by decide +kernel
theorem dX8_go_105 : decode cX8_go 105 = .ok (.iload 7, 2) := by decide +kernel
theorem dX8_go_107 : decode cX8_go 107 = .ok (.aload_n 0, 1) := by decide +kernel
theorem dX8_go_108 : decode cX8_go 108 = .ok (.getfield 56, 3) := by decide +kernel
theorem dX8_go_111 : decode cX8_go 111 = .ok (.iload 8, 2) := by decide +kernel
theorem dX8_go_113 : decode cX8_go 113 = .ok (.laload, 1) := by decide +kernel
theorem dX8_go_114 : decode cX8_go 114 = .ok (.lconst 0, 1) := by decide +kernel
theorem dX8_go_115 : decode cX8_go 115 = .ok (.lcmp, 1) := by decide +kernel
theorem dX8_go_116 : decode cX8_go 116 = .ok (.ifCond .le 7, 3) := by decide +kernel
theorem dX8_go_119 : decode cX8_go 119 = .ok (.iconst 1, 1) := by decide +kernel
theorem dX8_go_120 : decode cX8_go 120 = .ok (.goto 4, 3) := by decide +kernel
theorem dX8_go_123 : decode cX8_go 123 = .ok (.iconst 0, 1) := by decide +kernel
theorem dX8_go_124 : decode cX8_go 124 = .ok (.iadd, 1) := by decide +kernel
theorem dX8_go_125 : decode cX8_go 125 = .ok (.istore 7, 2) := by decide +kernel
theorem dX8_go_127 : decode cX8_go 127 = .ok (.iinc 8 1, 3) := by decide +kernel
theorem dX8_go_130 : decode cX8_go 130 = .ok (.goto (-121), 3) := by decide +kernel
theorem dX8_go_133 : decode cX8_go 133 = .ok (.iload 7, 2) := by decide +kernel
theorem dX8_go_135 : decode cX8_go 135 = .ok (.ireturn, 1) := by decide +kernel
theorem dX8_run_0 : decode cX8_run 0 = .ok (.lload_n 1, 1) := by decide +kernel
theorem dX8_run_1 : decode cX8_run 1 = .ok (.lconst 0, 1) := by decide +kernel
theorem dX8_run_2 : decode cX8_run 2 = .ok (.ldc2_w 180, 3) := by decide +kernel
theorem dX8_run_5 : decode cX8_run 5 = .ok (.invokestatic 64, 3) := by decide +kernel
theorem dX8_run_8 : decode cX8_run 8 = .ok (.ifCond .eq 14, 3) := by decide +kernel
theorem dX8_run_11 : decode cX8_run 11 = .ok (.lload_n 3, 1) := by decide +kernel
theorem dX8_run_12 : decode cX8_run 12 = .ok (.lconst 0, 1) := by decide +kernel
theorem dX8_run_13 : decode cX8_run 13 = .ok (.ldc2_w 180, 3) := by decide +kernel
theorem dX8_run_16 : decode cX8_run 16 = .ok (.invokestatic 64, 3) := by decide +kernel
theorem dX8_run_19 : decode cX8_run 19 = .ok (.ifCond .ne 5, 3) := by decide +kernel
theorem dX8_run_22 : decode cX8_run 22 = .ok (.iconst (-1), 1) := by decide +kernel
theorem dX8_run_23 : decode cX8_run 23 = .ok (.ireturn, 1) := by decide +kernel
theorem dX8_run_24 : decode cX8_run 24 = .ok (.aload_n 0, 1) := by decide +kernel
theorem dX8_run_25 : decode cX8_run 25 = .ok (.iconst 1, 1) := by decide +kernel
theorem dX8_run_26 : decode cX8_run 26 = .ok (.putfield 177, 3) := by decide +kernel
theorem dX8_run_29 : decode cX8_run 29 = .ok (.aload_n 0, 1) := by decide +kernel
theorem dX8_run_30 : decode cX8_run 30 = .ok (.lload_n 1, 1) := by decide +kernel
theorem dX8_run_31 : decode cX8_run 31 = .ok (.lload_n 3, 1) := by decide +kernel
theorem dX8_run_32 : decode cX8_run 32 = .ok (.invokevirtual 182, 3) := by decide +kernel
theorem dX8_run_35 : decode cX8_run 35 = .ok (.ireturn, 1) := by decide +kernel
theorem dX8_behind_0 : decode cX8_behind 0 = .ok (.aload_n 0, 1) := by decide +kernel
theorem dX8_behind_1 : decode cX8_behind 1 = .ok (.getfield 177, 3) := by decide +kernel
theorem dX8_behind_4 : decode cX8_behind 4 = .ok (.ifCond .eq 15, 3) := by decide +kernel
theorem dX8_behind_7 : decode cX8_behind 7 = .ok (.iload_n 1, 1) := by decide +kernel
theorem dX8_behind_8 : decode cX8_behind 8 = .ok (.ifCond .lt 11, 3) := by decide +kernel
theorem dX8_behind_11 : decode cX8_behind 11 = .ok (.iload_n 1, 1) := by decide +kernel
theorem dX8_behind_12 : decode cX8_behind 12 = .ok (.aload_n 0, 1) := by decide +kernel
theorem dX8_behind_13 : decode cX8_behind 13 = .ok (.getfield 174, 3) := by decide +kernel
theorem dX8_behind_16 : decode cX8_behind 16 = .ok (.if_icmp .lt 7, 3) := by decide +kernel
theorem dX8_behind_19 : decode cX8_behind 19 = .ok (.ldc2_w 90, 3) := by decide +kernel
theorem dX8_behind_22 : decode cX8_behind 22 = .ok (.lreturn, 1) := by decide +kernel
theorem dX8_behind_23 : decode cX8_behind 23 = .ok (.lconst 0, 1) := by decide +kernel
theorem dX8_behind_24 : decode cX8_behind 24 = .ok (.lstore_n 3, 1) := by decide +kernel
theorem dX8_behind_25 : decode cX8_behind 25 = .ok (.iconst 0, 1) := by decide +kernel
theorem dX8_behind_26 : decode cX8_behind 26 = .ok (.istore 5, 2) := by decide +kernel
theorem dX8_behind_28 : decode cX8_behind 28 = .ok (.iload 5, 2) := by decide +kernel
theorem dX8_behind_30 : decode cX8_behind 30 = .ok (.iload_n 1, 1) := by decide +kernel
theorem dX8_behind_31 : decode cX8_behind 31 = .ok (.if_icmp .gt 19, 3) := by decide +kernel
theorem dX8_behind_34 : decode cX8_behind 34 = .ok (.lload_n 3, 1) := by decide +kernel
theorem dX8_behind_35 : decode cX8_behind 35 = .ok (.aload_n 0, 1) := by decide +kernel
theorem dX8_behind_36 : decode cX8_behind 36 = .ok (.getfield 56, 3) := by decide +kernel
theorem dX8_behind_39 : decode cX8_behind 39 = .ok (.iload 5, 2) := by decide +kernel
theorem dX8_behind_41 : decode cX8_behind 41 = .ok (.laload, 1) := by decide +kernel
theorem dX8_behind_42 : decode cX8_behind 42 = .ok (.ladd, 1) := by decide +kernel
theorem dX8_behind_43 : decode cX8_behind 43 = .ok (.lstore_n 3, 1) := by decide +kernel
theorem dX8_behind_44 : decode cX8_behind 44 = .ok (.iinc 5 1, 3) := by decide +kernel
theorem dX8_behind_47 : decode cX8_behind 47 = .ok (.goto (-19), 3) := by decide +kernel
theorem dX8_behind_50 : decode cX8_behind 50 = .ok (.iload_n 2, 1) := by decide +kernel
theorem dX8_behind_51 : decode cX8_behind 51 = .ok (.ifCond .ne 12, 3) := by decide +kernel
theorem dX8_behind_54 : decode cX8_behind 54 = .ok (.aload_n 0, 1) := by decide +kernel
theorem dX8_behind_55 : decode cX8_behind 55 = .ok (.getfield 50, 3) := by decide +kernel
theorem dX8_behind_58 : decode cX8_behind 58 = .ok (.iload_n 1, 1) := by decide +kernel
theorem dX8_behind_59 : decode cX8_behind 59 = .ok (.laload, 1) := by decide +kernel
theorem dX8_behind_60 : decode cX8_behind 60 = .ok (.goto 43, 3) := by decide +kernel
theorem dX8_behind_63 : decode cX8_behind 63 = .ok (.iload_n 2, 1) := by decide +kernel
theorem dX8_behind_64 : decode cX8_behind 64 = .ok (.iconst 1, 1) := by decide +kernel
theorem dX8_behind_65 : decode cX8_behind 65 = .ok (.if_icmp .ne 12, 3) := by decide +kernel
theorem dX8_behind_68 : decode cX8_behind 68 = .ok (.aload_n 0, 1) := by decide +kernel
theorem dX8_behind_69 : decode cX8_behind 69 = .ok (.getfield 53, 3) := by decide +kernel
theorem dX8_behind_72 : decode cX8_behind 72 = .ok (.iload_n 1, 1) := by decide +kernel
theorem dX8_behind_73 : decode cX8_behind 73 = .ok (.laload, 1) := by decide +kernel
theorem dX8_behind_74 : decode cX8_behind 74 = .ok (.goto 29, 3) := by decide +kernel
theorem dX8_behind_77 : decode cX8_behind 77 = .ok (.iload_n 2, 1) := by decide +kernel
theorem dX8_behind_78 : decode cX8_behind 78 = .ok (.iconst 2, 1) := by decide +kernel
theorem dX8_behind_79 : decode cX8_behind 79 = .ok (.if_icmp .ne 12, 3) := by decide +kernel
theorem dX8_behind_82 : decode cX8_behind 82 = .ok (.aload_n 0, 1) := by decide +kernel
theorem dX8_behind_83 : decode cX8_behind 83 = .ok (.getfield 56, 3) := by decide +kernel
theorem dX8_behind_86 : decode cX8_behind 86 = .ok (.iload_n 1, 1) := by decide +kernel
theorem dX8_behind_87 : decode cX8_behind 87 = .ok (.laload, 1) := by decide +kernel
theorem dX8_behind_88 : decode cX8_behind 88 = .ok (.goto 15, 3) := by decide +kernel
theorem dX8_behind_91 : decode cX8_behind 91 = .ok (.iload_n 2, 1) := by decide +kernel
theorem dX8_behind_92 : decode cX8_behind 92 = .ok (.iconst 3, 1) := by decide +kernel
theorem dX8_behind_93 : decode cX8_behind 93 = .ok (.if_icmp .ne 7, 3) := by decide +kernel
theorem dX8_behind_96 : decode cX8_behind 96 = .ok (.lload_n 3, 1) := by decide +kernel
theorem dX8_behind_97 : decode cX8_behind 97 = .ok (.goto 6, 3) := by decide +kernel
theorem dX8_behind_100 : decode cX8_behind 100 = .ok (.ldc2_w 90, 3) := by decide +kernel
theorem dX8_behind_103 : decode cX8_behind 103 = .ok (.lreturn, 1) := by decide +kernel
theorem dX8_room_0 : decode cX8_room 0 = .ok (.lload_n 1, 1) := by decide +kernel
theorem dX8_room_1 : decode cX8_room 1 = .ok (.lconst 0, 1) := by decide +kernel
theorem dX8_room_2 : decode cX8_room 2 = .ok (.ldc2_w 180, 3) := by decide +kernel
theorem dX8_room_5 : decode cX8_room 5 = .ok (.invokestatic 64, 3) := by decide +kernel
theorem dX8_room_8 : decode cX8_room 8 = .ok (.ifCond .eq 15, 3) := by decide +kernel
theorem dX8_room_11 : decode cX8_room 11 = .ok (.iload_n 3, 1) := by decide +kernel
theorem dX8_room_12 : decode cX8_room 12 = .ok (.i2l, 1) := by decide +kernel
theorem dX8_room_13 : decode cX8_room 13 = .ok (.lconst 0, 1) := by decide +kernel
theorem dX8_room_14 : decode cX8_room 14 = .ok (.ldc2_w 186, 3) := by decide +kernel
theorem dX8_room_17 : decode cX8_room 17 = .ok (.invokestatic 64, 3) := by decide +kernel
theorem dX8_room_20 : decode cX8_room 20 = .ok (.ifCond .ne 7, 3) := by decide +kernel
theorem dX8_room_23 : decode cX8_room 23 = .ok (.ldc2_w 90, 3) := by decide +kernel
theorem dX8_room_26 : decode cX8_room 26 = .ok (.lreturn, 1) := by decide +kernel
theorem dX8_room_27 : decode cX8_room 27 = .ok (.aload_n 0, 1) := by decide +kernel
theorem dX8_room_28 : decode cX8_room 28 = .ok (.iconst 0, 1) := by decide +kernel
theorem dX8_room_29 : decode cX8_room 29 = .ok (.putfield 177, 3) := by decide +kernel
theorem dX8_room_32 : decode cX8_room 32 = .ok (.lconst 0, 1) := by decide +kernel
theorem dX8_room_33 : decode cX8_room 33 = .ok (.lstore 4, 2) := by decide +kernel
theorem dX8_room_35 : decode cX8_room 35 = .ok (.ldc2_w 188, 3) := by decide +kernel
theorem dX8_room_38 : decode cX8_room 38 = .ok (.lstore 6, 2) := by decide +kernel
theorem dX8_room_40 : decode cX8_room 40 = .ok (.lload 4, 2) := by decide +kernel
theorem dX8_room_42 : decode cX8_room 42 = .ok (.lload 6, 2) := by decide +kernel
theorem dX8_room_44 : decode cX8_room 44 = .ok (.lcmp, 1) := by decide +kernel
theorem dX8_room_45 : decode cX8_room 45 = .ok (.ifCond .ge 41, 3) := by decide +kernel
theorem dX8_room_48 : decode cX8_room 48 = .ok (.lload 4, 2) := by decide +kernel
theorem dX8_room_50 : decode cX8_room 50 = .ok (.lload 6, 2) := by decide +kernel
theorem dX8_room_52 : decode cX8_room 52 = .ok (.ladd, 1) := by decide +kernel
theorem dX8_room_53 : decode cX8_room 53 = .ok (.ldc2_w 190, 3) := by decide +kernel
theorem dX8_room_56 : decode cX8_room 56 = .ok (.ldiv, 1) := by decide +kernel
theorem dX8_room_57 : decode cX8_room 57 = .ok (.lstore 8, 2) := by decide +kernel
theorem dX8_room_59 : decode cX8_room 59 = .ok (.aload_n 0, 1) := by decide +kernel
theorem dX8_room_60 : decode cX8_room 60 = .ok (.lload_n 1, 1) := by decide +kernel
theorem dX8_room_61 : decode cX8_room 61 = .ok (.lload 8, 2) := by decide +kernel
theorem dX8_room_63 : decode cX8_room 63 = .ok (.invokevirtual 182, 3) := by decide +kernel
theorem dX8_room_66 : decode cX8_room 66 = .ok (.iload_n 3, 1) := by decide +kernel
theorem dX8_room_67 : decode cX8_room 67 = .ok (.if_icmp .gt 10, 3) := by decide +kernel
theorem dX8_room_70 : decode cX8_room 70 = .ok (.lload 8, 2) := by decide +kernel
theorem dX8_room_72 : decode cX8_room 72 = .ok (.lstore 6, 2) := by decide +kernel
theorem dX8_room_74 : decode cX8_room 74 = .ok (.goto 9, 3) := by decide +kernel
theorem dX8_room_77 : decode cX8_room 77 = .ok (.lload 8, 2) := by decide +kernel
theorem dX8_room_79 : decode cX8_room 79 = .ok (.lconst 1, 1) := by decide +kernel
theorem dX8_room_80 : decode cX8_room 80 = .ok (.ladd, 1) := by decide +kernel
theorem dX8_room_81 : decode cX8_room 81 = .ok (.lstore 4, 2) := by decide +kernel
theorem dX8_room_83 : decode cX8_room 83 = .ok (.goto (-43), 3) := by decide +kernel
theorem dX8_room_86 : decode cX8_room 86 = .ok (.lload 4, 2) := by decide +kernel
theorem dX8_room_88 : decode cX8_room 88 = .ok (.lreturn, 1) := by decide +kernel
theorem dX8_way_0 : decode cX8_way 0 = .ok (.iload_n 1, 1) := by decide +kernel
theorem dX8_way_1 : decode cX8_way 1 = .ok (.i2l, 1) := by decide +kernel
theorem dX8_way_2 : decode cX8_way 2 = .ok (.ldc2_w 94, 3) := by decide +kernel
theorem dX8_way_5 : decode cX8_way 5 = .ok (.ldc2_w 70, 3) := by decide +kernel
theorem dX8_way_8 : decode cX8_way 8 = .ok (.invokestatic 64, 3) := by decide +kernel
theorem dX8_way_11 : decode cX8_way 11 = .ok (.ifCond .eq 12, 3) := by decide +kernel
theorem dX8_way_14 : decode cX8_way 14 = .ok (.aload_n 0, 1) := by decide +kernel
theorem dX8_way_15 : decode cX8_way 15 = .ok (.getfield 192, 3) := by decide +kernel
theorem dX8_way_18 : decode cX8_way 18 = .ok (.bipush 50, 2) := by decide +kernel
theorem dX8_way_20 : decode cX8_way 20 = .ok (.if_icmp .ne 5, 3) := by decide +kernel
theorem dX8_way_23 : decode cX8_way 23 = .ok (.iconst (-1), 1) := by decide +kernel
theorem dX8_way_24 : decode cX8_way 24 = .ok (.ireturn, 1) := by decide +kernel
theorem dX8_way_25 : decode cX8_way 25 = .ok (.aload_n 0, 1) := by decide +kernel
theorem dX8_way_26 : decode cX8_way 26 = .ok (.getfield 59, 3) := by decide +kernel
theorem dX8_way_29 : decode cX8_way 29 = .ok (.aload_n 0, 1) := by decide +kernel
theorem dX8_way_30 : decode cX8_way 30 = .ok (.getfield 192, 3) := by decide +kernel
theorem dX8_way_33 : decode cX8_way 33 = .ok (.iload_n 1, 1) := by decide +kernel
theorem dX8_way_34 : decode cX8_way 34 = .ok (.iastore, 1) := by decide +kernel
theorem dX8_way_35 : decode cX8_way 35 = .ok (.aload_n 0, 1) := by decide +kernel
theorem dX8_way_36 : decode cX8_way 36 = .ok (.dup, 1) := by decide +kernel
theorem dX8_way_37 : decode cX8_way 37 = .ok (.getfield 192, 3) := by decide +kernel
theorem dX8_way_40 : decode cX8_way 40 = .ok (.iconst 1, 1) := by decide +kernel
theorem dX8_way_41 : decode cX8_way 41 = .ok (.iadd, 1) := by decide +kernel
theorem dX8_way_42 : decode cX8_way 42 = .ok (.putfield 192, 3) := by decide +kernel
theorem dX8_way_45 : decode cX8_way 45 = .ok (.aload_n 0, 1) := by decide +kernel
theorem dX8_way_46 : decode cX8_way 46 = .ok (.getfield 192, 3) := by decide +kernel
theorem dX8_way_49 : decode cX8_way 49 = .ok (.ireturn, 1) := by decide +kernel
theorem dX8_stops_0 : decode cX8_stops 0 = .ok (.iconst 1, 1) := by decide +kernel
theorem dX8_stops_1 : decode cX8_stops 1 = .ok (.istore_n 1, 1) := by decide +kernel
theorem dX8_stops_2 : decode cX8_stops 2 = .ok (.iload_n 1, 1) := by decide +kernel
theorem dX8_stops_3 : decode cX8_stops 3 = .ok (.aload_n 0, 1) := by decide +kernel
theorem dX8_stops_4 : decode cX8_stops 4 = .ok (.getfield 192, 3) := by decide +kernel
theorem dX8_stops_7 : decode cX8_stops 7 = .ok (.if_icmp .ge 28, 3) := by decide +kernel
theorem dX8_stops_10 : decode cX8_stops 10 = .ok (.aload_n 0, 1) := by decide +kernel
theorem dX8_stops_11 : decode cX8_stops 11 = .ok (.getfield 59, 3) := by decide +kernel
theorem dX8_stops_14 : decode cX8_stops 14 = .ok (.iload_n 1, 1) := by decide +kernel
theorem dX8_stops_15 : decode cX8_stops 15 = .ok (.iaload, 1) := by decide +kernel
theorem dX8_stops_16 : decode cX8_stops 16 = .ok (.aload_n 0, 1) := by decide +kernel
theorem dX8_stops_17 : decode cX8_stops 17 = .ok (.getfield 59, 3) := by decide +kernel
theorem dX8_stops_20 : decode cX8_stops 20 = .ok (.iload_n 1, 1) := by decide +kernel
theorem dX8_stops_21 : decode cX8_stops 21 = .ok (.iconst 1, 1) := by decide +kernel
theorem dX8_stops_22 : decode cX8_stops 22 = .ok (.isub, 1) := by decide +kernel
theorem dX8_stops_23 : decode cX8_stops 23 = .ok (.iaload, 1) := by decide +kernel
theorem dX8_stops_24 : decode cX8_stops 24 = .ok (.if_icmp .lt 5, 3) := by decide +kernel
theorem dX8_stops_27 : decode cX8_stops 27 = .ok (.iload_n 1, 1) := by decide +kernel
theorem dX8_stops_28 : decode cX8_stops 28 = .ok (.ireturn, 1) := by decide +kernel
theorem dX8_stops_29 : decode cX8_stops 29 = .ok (.iinc 1 1, 3) := by decide +kernel
theorem dX8_stops_32 : decode cX8_stops 32 = .ok (.goto (-30), 3) := by decide +kernel
theorem dX8_stops_35 : decode cX8_stops 35 = .ok (.iconst (-1), 1) := by decide +kernel
theorem dX8_stops_36 : decode cX8_stops 36 = .ok (.ireturn, 1) := by decide +kernel
theorem dX8_count_0 : decode cX8_count 0 = .ok (.iload_n 1, 1) := by decide +kernel
theorem dX8_count_1 : decode cX8_count 1 = .ok (.tableswitch 78 0 6 #[43, 48, 53, 58, 63, 68, 73], 43) := by decide +kernel
theorem dX8_count_44 : decode cX8_count 44 = .ok (.aload_n 0, 1) := by decide +kernel
theorem dX8_count_45 : decode cX8_count 45 = .ok (.getfield 72, 3) := by decide +kernel
theorem dX8_count_48 : decode cX8_count 48 = .ok (.ireturn, 1) := by decide +kernel
theorem dX8_count_49 : decode cX8_count 49 = .ok (.aload_n 0, 1) := by decide +kernel
theorem dX8_count_50 : decode cX8_count 50 = .ok (.getfield 96, 3) := by decide +kernel
theorem dX8_count_53 : decode cX8_count 53 = .ok (.ireturn, 1) := by decide +kernel
theorem dX8_count_54 : decode cX8_count 54 = .ok (.aload_n 0, 1) := by decide +kernel
theorem dX8_count_55 : decode cX8_count 55 = .ok (.getfield 113, 3) := by decide +kernel
theorem dX8_count_58 : decode cX8_count 58 = .ok (.ireturn, 1) := by decide +kernel
theorem dX8_count_59 : decode cX8_count 59 = .ok (.aload_n 0, 1) := by decide +kernel
theorem dX8_count_60 : decode cX8_count 60 = .ok (.getfield 149, 3) := by decide +kernel
theorem dX8_count_63 : decode cX8_count 63 = .ok (.ireturn, 1) := by decide +kernel
theorem dX8_count_64 : decode cX8_count 64 = .ok (.aload_n 0, 1) := by decide +kernel
theorem dX8_count_65 : decode cX8_count 65 = .ok (.getfield 174, 3) := by decide +kernel
theorem dX8_count_68 : decode cX8_count 68 = .ok (.ireturn, 1) := by decide +kernel
theorem dX8_count_69 : decode cX8_count 69 = .ok (.aload_n 0, 1) := by decide +kernel
theorem dX8_count_70 : decode cX8_count 70 = .ok (.getfield 192, 3) := by decide +kernel
theorem dX8_count_73 : decode cX8_count 73 = .ok (.ireturn, 1) := by decide +kernel
theorem dX8_count_74 : decode cX8_count 74 = .ok (.aload_n 0, 1) := by decide +kernel
theorem dX8_count_75 : decode cX8_count 75 = .ok (.getfield 120, 3) := by decide +kernel
theorem dX8_count_78 : decode cX8_count 78 = .ok (.ireturn, 1) := by decide +kernel
theorem dX8_count_79 : decode cX8_count 79 = .ok (.iconst (-1), 1) := by decide +kernel
theorem dX8_count_80 : decode cX8_count 80 = .ok (.ireturn, 1) := by decide +kernel
end
section
theorem dL_law_0 : decode cL_law 0 = .ok (.new 7, 3) := by decide +kernel
theorem dL_law_3 : decode cL_law 3 = .ok (.dup, 1) := by decide +kernel
theorem dL_law_4 : decode cL_law 4 = .ok (.invokespecial 9, 3) := by decide +kernel
theorem dL_law_7 : decode cL_law 7 = .ok (.astore_n 1, 1) := by decide +kernel
theorem dL_law_8 : decode cL_law 8 = .ok (.new 10, 3) := by decide +kernel
theorem dL_law_11 : decode cL_law 11 = .ok (.dup, 1) := by decide +kernel
theorem dL_law_12 : decode cL_law 12 = .ok (.invokespecial 12, 3) := by decide +kernel
theorem dL_law_15 : decode cL_law 15 = .ok (.astore_n 2, 1) := by decide +kernel
theorem dL_law_16 : decode cL_law 16 = .ok (.iconst 0, 1) := by decide +kernel
theorem dL_law_17 : decode cL_law 17 = .ok (.istore_n 3, 1) := by decide +kernel
theorem dL_law_18 : decode cL_law 18 = .ok (.iload_n 3, 1) := by decide +kernel
theorem dL_law_19 : decode cL_law 19 = .ok (.aload_n 0, 1) := by decide +kernel
theorem dL_law_20 : decode cL_law 20 = .ok (.arraylength, 1) := by decide +kernel
theorem dL_law_21 : decode cL_law 21 = .ok (.iconst 5, 1) := by decide +kernel
theorem dL_law_22 : decode cL_law 22 = .ok (.isub, 1) := by decide +kernel
theorem dL_law_23 : decode cL_law 23 = .ok (.if_icmp .gt 945, 3) := by decide +kernel
theorem dL_law_26 : decode cL_law 26 = .ok (.aload_n 0, 1) := by decide +kernel
theorem dL_law_27 : decode cL_law 27 = .ok (.iload_n 3, 1) := by decide +kernel
theorem dL_law_28 : decode cL_law 28 = .ok (.iaload, 1) := by decide +kernel
theorem dL_law_29 : decode cL_law 29 = .ok (.bipush 31, 2) := by decide +kernel
theorem dL_law_31 : decode cL_law 31 = .ok (.iand, 1) := by decide +kernel
theorem dL_law_32 : decode cL_law 32 = .ok (.tableswitch 930 0 19 #[96, 139, 183, 226, 299, 332, 355, 379, 432, 485, 508, 521, 574, 627, 680, 773, 807, 871, 894, 907], 96) := by decide +kernel
theorem dL_law_128 : decode cL_law 128 = .ok (.aload_n 1, 1) := by decide +kernel
theorem dL_law_129 : decode cL_law 129 = .ok (.aload_n 0, 1) := by decide +kernel
theorem dL_law_130 : decode cL_law 130 = .ok (.iload_n 3, 1) := by decide +kernel
theorem dL_law_131 : decode cL_law 131 = .ok (.iconst 1, 1) := by decide +kernel
theorem dL_law_132 : decode cL_law 132 = .ok (.iadd, 1) := by decide +kernel
theorem dL_law_133 : decode cL_law 133 = .ok (.iaload, 1) := by decide +kernel
theorem dL_law_134 : decode cL_law 134 = .ok (.aload_n 0, 1) := by decide +kernel
theorem dL_law_135 : decode cL_law 135 = .ok (.iload_n 3, 1) := by decide +kernel
theorem dL_law_136 : decode cL_law 136 = .ok (.iconst 2, 1) := by decide +kernel
theorem dL_law_137 : decode cL_law 137 = .ok (.iadd, 1) := by decide +kernel
theorem dL_law_138 : decode cL_law 138 = .ok (.iaload, 1) := by decide +kernel
theorem dL_law_139 : decode cL_law 139 = .ok (.aload_n 0, 1) := by decide +kernel
theorem dL_law_140 : decode cL_law 140 = .ok (.iload_n 3, 1) := by decide +kernel
theorem dL_law_141 : decode cL_law 141 = .ok (.iconst 3, 1) := by decide +kernel
theorem dL_law_142 : decode cL_law 142 = .ok (.iadd, 1) := by decide +kernel
theorem dL_law_143 : decode cL_law 143 = .ok (.iaload, 1) := by decide +kernel
theorem dL_law_144 : decode cL_law 144 = .ok (.invokevirtual 13, 3) := by decide +kernel
theorem dL_law_147 : decode cL_law 147 = .ok (.aload_n 2, 1) := by decide +kernel
theorem dL_law_148 : decode cL_law 148 = .ok (.aload_n 0, 1) := by decide +kernel
theorem dL_law_149 : decode cL_law 149 = .ok (.iload_n 3, 1) := by decide +kernel
theorem dL_law_150 : decode cL_law 150 = .ok (.iconst 1, 1) := by decide +kernel
theorem dL_law_151 : decode cL_law 151 = .ok (.iadd, 1) := by decide +kernel
theorem dL_law_152 : decode cL_law 152 = .ok (.iaload, 1) := by decide +kernel
theorem dL_law_153 : decode cL_law 153 = .ok (.aload_n 0, 1) := by decide +kernel
theorem dL_law_154 : decode cL_law 154 = .ok (.iload_n 3, 1) := by decide +kernel
theorem dL_law_155 : decode cL_law 155 = .ok (.iconst 2, 1) := by decide +kernel
theorem dL_law_156 : decode cL_law 156 = .ok (.iadd, 1) := by decide +kernel
theorem dL_law_157 : decode cL_law 157 = .ok (.iaload, 1) := by decide +kernel
theorem dL_law_158 : decode cL_law 158 = .ok (.aload_n 0, 1) := by decide +kernel
theorem dL_law_159 : decode cL_law 159 = .ok (.iload_n 3, 1) := by decide +kernel
theorem dL_law_160 : decode cL_law 160 = .ok (.iconst 3, 1) := by decide +kernel
theorem dL_law_161 : decode cL_law 161 = .ok (.iadd, 1) := by decide +kernel
theorem dL_law_162 : decode cL_law 162 = .ok (.iaload, 1) := by decide +kernel
theorem dL_law_163 : decode cL_law 163 = .ok (.invokevirtual 17, 3) := by decide +kernel
theorem dL_law_166 : decode cL_law 166 = .ok (.if_icmp .eq 796, 3) := by decide +kernel
theorem dL_law_169 : decode cL_law 169 = .ok (.iconst 0, 1) := by decide +kernel
theorem dL_law_170 : decode cL_law 170 = .ok (.ireturn, 1) := by decide +kernel
theorem dL_law_171 : decode cL_law 171 = .ok (.aload_n 1, 1) := by decide +kernel
theorem dL_law_172 : decode cL_law 172 = .ok (.aload_n 0, 1) := by decide +kernel
theorem dL_law_173 : decode cL_law 173 = .ok (.iload_n 3, 1) := by decide +kernel
theorem dL_law_174 : decode cL_law 174 = .ok (.iconst 1, 1) := by decide +kernel
theorem dL_law_175 : decode cL_law 175 = .ok (.iadd, 1) := by decide +kernel
theorem dL_law_176 : decode cL_law 176 = .ok (.iaload, 1) := by decide +kernel
theorem dL_law_177 : decode cL_law 177 = .ok (.aload_n 0, 1) := by decide +kernel
theorem dL_law_178 : decode cL_law 178 = .ok (.iload_n 3, 1) := by decide +kernel
theorem dL_law_179 : decode cL_law 179 = .ok (.iconst 2, 1) := by decide +kernel
theorem dL_law_180 : decode cL_law 180 = .ok (.iadd, 1) := by decide +kernel
theorem dL_law_181 : decode cL_law 181 = .ok (.iaload, 1) := by decide +kernel
theorem dL_law_182 : decode cL_law 182 = .ok (.aload_n 0, 1) := by decide +kernel
theorem dL_law_183 : decode cL_law 183 = .ok (.iload_n 3, 1) := by decide +kernel
theorem dL_law_184 : decode cL_law 184 = .ok (.iconst 3, 1) := by decide +kernel
theorem dL_law_185 : decode cL_law 185 = .ok (.iadd, 1) := by decide +kernel
theorem dL_law_186 : decode cL_law 186 = .ok (.iaload, 1) := by decide +kernel
theorem dL_law_187 : decode cL_law 187 = .ok (.invokevirtual 18, 3) := by decide +kernel
theorem dL_law_190 : decode cL_law 190 = .ok (.aload_n 2, 1) := by decide +kernel
theorem dL_law_191 : decode cL_law 191 = .ok (.aload_n 0, 1) := by decide +kernel
theorem dL_law_192 : decode cL_law 192 = .ok (.iload_n 3, 1) := by decide +kernel
theorem dL_law_193 : decode cL_law 193 = .ok (.iconst 1, 1) := by decide +kernel
theorem dL_law_194 : decode cL_law 194 = .ok (.iadd, 1) := by decide +kernel
theorem dL_law_195 : decode cL_law 195 = .ok (.iaload, 1) := by decide +kernel
theorem dL_law_196 : decode cL_law 196 = .ok (.aload_n 0, 1) := by decide +kernel
theorem dL_law_197 : decode cL_law 197 = .ok (.iload_n 3, 1) := by decide +kernel
theorem dL_law_198 : decode cL_law 198 = .ok (.iconst 2, 1) := by decide +kernel
theorem dL_law_199 : decode cL_law 199 = .ok (.iadd, 1) := by decide +kernel
theorem dL_law_200 : decode cL_law 200 = .ok (.iaload, 1) := by decide +kernel
theorem dL_law_201 : decode cL_law 201 = .ok (.aload_n 0, 1) := by decide +kernel
theorem dL_law_202 : decode cL_law 202 = .ok (.iload_n 3, 1) := by decide +kernel
theorem dL_law_203 : decode cL_law 203 = .ok (.iconst 3, 1) := by decide +kernel
theorem dL_law_204 : decode cL_law 204 = .ok (.iadd, 1) := by decide +kernel
theorem dL_law_205 : decode cL_law 205 = .ok (.iaload, 1) := by decide +kernel
theorem dL_law_206 : decode cL_law 206 = .ok (.invokevirtual 22, 3) := by decide +kernel
theorem dL_law_209 : decode cL_law 209 = .ok (.lcmp, 1) := by decide +kernel
theorem dL_law_210 : decode cL_law 210 = .ok (.ifCond .eq 752, 3) := by decide +kernel
theorem dL_law_213 : decode cL_law 213 = .ok (.iconst 0, 1) := by decide +kernel
theorem dL_law_214 : decode cL_law 214 = .ok (.ireturn, 1) := by decide +kernel
theorem dL_law_215 : decode cL_law 215 = .ok (.aload_n 1, 1) := by decide +kernel
theorem dL_law_216 : decode cL_law 216 = .ok (.aload_n 0, 1) := by decide +kernel
theorem dL_law_217 : decode cL_law 217 = .ok (.iload_n 3, 1) := by decide +kernel
theorem dL_law_218 : decode cL_law 218 = .ok (.iconst 1, 1) := by decide +kernel
theorem dL_law_219 : decode cL_law 219 = .ok (.iadd, 1) := by decide +kernel
theorem dL_law_220 : decode cL_law 220 = .ok (.iaload, 1) := by decide +kernel
theorem dL_law_221 : decode cL_law 221 = .ok (.aload_n 0, 1) := by decide +kernel
theorem dL_law_222 : decode cL_law 222 = .ok (.iload_n 3, 1) := by decide +kernel
theorem dL_law_223 : decode cL_law 223 = .ok (.iconst 2, 1) := by decide +kernel
theorem dL_law_224 : decode cL_law 224 = .ok (.iadd, 1) := by decide +kernel
theorem dL_law_225 : decode cL_law 225 = .ok (.iaload, 1) := by decide +kernel
theorem dL_law_226 : decode cL_law 226 = .ok (.aload_n 0, 1) := by decide +kernel
theorem dL_law_227 : decode cL_law 227 = .ok (.iload_n 3, 1) := by decide +kernel
theorem dL_law_228 : decode cL_law 228 = .ok (.iconst 3, 1) := by decide +kernel
theorem dL_law_229 : decode cL_law 229 = .ok (.iadd, 1) := by decide +kernel
theorem dL_law_230 : decode cL_law 230 = .ok (.iaload, 1) := by decide +kernel
theorem dL_law_231 : decode cL_law 231 = .ok (.invokevirtual 23, 3) := by decide +kernel
theorem dL_law_234 : decode cL_law 234 = .ok (.aload_n 2, 1) := by decide +kernel
theorem dL_law_235 : decode cL_law 235 = .ok (.aload_n 0, 1) := by decide +kernel
theorem dL_law_236 : decode cL_law 236 = .ok (.iload_n 3, 1) := by decide +kernel
theorem dL_law_237 : decode cL_law 237 = .ok (.iconst 1, 1) := by decide +kernel
theorem dL_law_238 : decode cL_law 238 = .ok (.iadd, 1) := by decide +kernel
theorem dL_law_239 : decode cL_law 239 = .ok (.iaload, 1) := by decide +kernel
theorem dL_law_240 : decode cL_law 240 = .ok (.aload_n 0, 1) := by decide +kernel
theorem dL_law_241 : decode cL_law 241 = .ok (.iload_n 3, 1) := by decide +kernel
theorem dL_law_242 : decode cL_law 242 = .ok (.iconst 2, 1) := by decide +kernel
theorem dL_law_243 : decode cL_law 243 = .ok (.iadd, 1) := by decide +kernel
theorem dL_law_244 : decode cL_law 244 = .ok (.iaload, 1) := by decide +kernel
theorem dL_law_245 : decode cL_law 245 = .ok (.aload_n 0, 1) := by decide +kernel
theorem dL_law_246 : decode cL_law 246 = .ok (.iload_n 3, 1) := by decide +kernel
theorem dL_law_247 : decode cL_law 247 = .ok (.iconst 3, 1) := by decide +kernel
theorem dL_law_248 : decode cL_law 248 = .ok (.iadd, 1) := by decide +kernel
theorem dL_law_249 : decode cL_law 249 = .ok (.iaload, 1) := by decide +kernel
theorem dL_law_250 : decode cL_law 250 = .ok (.invokevirtual 26, 3) := by decide +kernel
theorem dL_law_253 : decode cL_law 253 = .ok (.if_icmp .eq 709, 3) := by decide +kernel
theorem dL_law_256 : decode cL_law 256 = .ok (.iconst 0, 1) := by decide +kernel
theorem dL_law_257 : decode cL_law 257 = .ok (.ireturn, 1) := by decide +kernel
theorem dL_law_258 : decode cL_law 258 = .ok (.aload_n 1, 1) := by decide +kernel
theorem dL_law_259 : decode cL_law 259 = .ok (.aload_n 0, 1) := by decide +kernel
theorem dL_law_260 : decode cL_law 260 = .ok (.iload_n 3, 1) := by decide +kernel
theorem dL_law_261 : decode cL_law 261 = .ok (.iconst 1, 1) := by decide +kernel
theorem dL_law_262 : decode cL_law 262 = .ok (.iadd, 1) := by decide +kernel
theorem dL_law_263 : decode cL_law 263 = .ok (.iaload, 1) := by decide +kernel
theorem dL_law_264 : decode cL_law 264 = .ok (.aload_n 0, 1) := by decide +kernel
theorem dL_law_265 : decode cL_law 265 = .ok (.iload_n 3, 1) := by decide +kernel
theorem dL_law_266 : decode cL_law 266 = .ok (.iconst 2, 1) := by decide +kernel
theorem dL_law_267 : decode cL_law 267 = .ok (.iadd, 1) := by decide +kernel
theorem dL_law_268 : decode cL_law 268 = .ok (.iaload, 1) := by decide +kernel
theorem dL_law_269 : decode cL_law 269 = .ok (.aload_n 0, 1) := by decide +kernel
theorem dL_law_270 : decode cL_law 270 = .ok (.iload_n 3, 1) := by decide +kernel
theorem dL_law_271 : decode cL_law 271 = .ok (.iconst 3, 1) := by decide +kernel
theorem dL_law_272 : decode cL_law 272 = .ok (.iadd, 1) := by decide +kernel
theorem dL_law_273 : decode cL_law 273 = .ok (.iaload, 1) := by decide +kernel
theorem dL_law_274 : decode cL_law 274 = .ok (.i2l, 1) := by decide +kernel
theorem dL_law_275 : decode cL_law 275 = .ok (.bipush 32, 2) := by decide +kernel
theorem dL_law_277 : decode cL_law 277 = .ok (.lshl, 1) := by decide +kernel
theorem dL_law_278 : decode cL_law 278 = .ok (.aload_n 0, 1) := by decide +kernel
theorem dL_law_279 : decode cL_law 279 = .ok (.iload_n 3, 1) := by decide +kernel
theorem dL_law_280 : decode cL_law 280 = .ok (.iconst 4, 1) := by decide +kernel
theorem dL_law_281 : decode cL_law 281 = .ok (.iadd, 1) := by decide +kernel
theorem dL_law_282 : decode cL_law 282 = .ok (.iaload, 1) := by decide +kernel
theorem dL_law_283 : decode cL_law 283 = .ok (.i2l, 1) := by decide +kernel
theorem dL_law_284 : decode cL_law 284 = .ok (.ldc2_w 27, 3) := by decide +kernel
theorem dL_law_287 : decode cL_law 287 = .ok (.land, 1) := by decide +kernel
theorem dL_law_288 : decode cL_law 288 = .ok (.lor, 1) := by decide +kernel
theorem dL_law_289 : decode cL_law 289 = .ok (.invokevirtual 29, 3) := by decide +kernel
theorem dL_law_292 : decode cL_law 292 = .ok (.aload_n 2, 1) := by decide +kernel
theorem dL_law_293 : decode cL_law 293 = .ok (.aload_n 0, 1) := by decide +kernel
theorem dL_law_294 : decode cL_law 294 = .ok (.iload_n 3, 1) := by decide +kernel
theorem dL_law_295 : decode cL_law 295 = .ok (.iconst 1, 1) := by decide +kernel
theorem dL_law_296 : decode cL_law 296 = .ok (.iadd, 1) := by decide +kernel
theorem dL_law_297 : decode cL_law 297 = .ok (.iaload, 1) := by decide +kernel
theorem dL_law_298 : decode cL_law 298 = .ok (.aload_n 0, 1) := by decide +kernel
theorem dL_law_299 : decode cL_law 299 = .ok (.iload_n 3, 1) := by decide +kernel
theorem dL_law_300 : decode cL_law 300 = .ok (.iconst 2, 1) := by decide +kernel
theorem dL_law_301 : decode cL_law 301 = .ok (.iadd, 1) := by decide +kernel
theorem dL_law_302 : decode cL_law 302 = .ok (.iaload, 1) := by decide +kernel
theorem dL_law_303 : decode cL_law 303 = .ok (.aload_n 0, 1) := by decide +kernel
theorem dL_law_304 : decode cL_law 304 = .ok (.iload_n 3, 1) := by decide +kernel
theorem dL_law_305 : decode cL_law 305 = .ok (.iconst 3, 1) := by decide +kernel
theorem dL_law_306 : decode cL_law 306 = .ok (.iadd, 1) := by decide +kernel
theorem dL_law_307 : decode cL_law 307 = .ok (.iaload, 1) := by decide +kernel
theorem dL_law_308 : decode cL_law 308 = .ok (.i2l, 1) := by decide +kernel
theorem dL_law_309 : decode cL_law 309 = .ok (.bipush 32, 2) := by decide +kernel
theorem dL_law_311 : decode cL_law 311 = .ok (.lshl, 1) := by decide +kernel
theorem dL_law_312 : decode cL_law 312 = .ok (.aload_n 0, 1) := by decide +kernel
theorem dL_law_313 : decode cL_law 313 = .ok (.iload_n 3, 1) := by decide +kernel
theorem dL_law_314 : decode cL_law 314 = .ok (.iconst 4, 1) := by decide +kernel
theorem dL_law_315 : decode cL_law 315 = .ok (.iadd, 1) := by decide +kernel
theorem dL_law_316 : decode cL_law 316 = .ok (.iaload, 1) := by decide +kernel
theorem dL_law_317 : decode cL_law 317 = .ok (.i2l, 1) := by decide +kernel
theorem dL_law_318 : decode cL_law 318 = .ok (.ldc2_w 27, 3) := by decide +kernel
theorem dL_law_321 : decode cL_law 321 = .ok (.land, 1) := by decide +kernel
theorem dL_law_322 : decode cL_law 322 = .ok (.lor, 1) := by decide +kernel
theorem dL_law_323 : decode cL_law 323 = .ok (.invokevirtual 33, 3) := by decide +kernel
theorem dL_law_326 : decode cL_law 326 = .ok (.if_icmp .eq 636, 3) := by decide +kernel
theorem dL_law_329 : decode cL_law 329 = .ok (.iconst 0, 1) := by decide +kernel
theorem dL_law_330 : decode cL_law 330 = .ok (.ireturn, 1) := by decide +kernel
theorem dL_law_331 : decode cL_law 331 = .ok (.aload_n 1, 1) := by decide +kernel
theorem dL_law_332 : decode cL_law 332 = .ok (.aload_n 0, 1) := by decide +kernel
theorem dL_law_333 : decode cL_law 333 = .ok (.iload_n 3, 1) := by decide +kernel
theorem dL_law_334 : decode cL_law 334 = .ok (.iconst 1, 1) := by decide +kernel
theorem dL_law_335 : decode cL_law 335 = .ok (.iadd, 1) := by decide +kernel
theorem dL_law_336 : decode cL_law 336 = .ok (.iaload, 1) := by decide +kernel
theorem dL_law_337 : decode cL_law 337 = .ok (.aload_n 0, 1) := by decide +kernel
theorem dL_law_338 : decode cL_law 338 = .ok (.iload_n 3, 1) := by decide +kernel
theorem dL_law_339 : decode cL_law 339 = .ok (.iconst 2, 1) := by decide +kernel
theorem dL_law_340 : decode cL_law 340 = .ok (.iadd, 1) := by decide +kernel
theorem dL_law_341 : decode cL_law 341 = .ok (.iaload, 1) := by decide +kernel
theorem dL_law_342 : decode cL_law 342 = .ok (.invokevirtual 34, 3) := by decide +kernel
theorem dL_law_345 : decode cL_law 345 = .ok (.aload_n 2, 1) := by decide +kernel
theorem dL_law_346 : decode cL_law 346 = .ok (.aload_n 0, 1) := by decide +kernel
theorem dL_law_347 : decode cL_law 347 = .ok (.iload_n 3, 1) := by decide +kernel
theorem dL_law_348 : decode cL_law 348 = .ok (.iconst 1, 1) := by decide +kernel
theorem dL_law_349 : decode cL_law 349 = .ok (.iadd, 1) := by decide +kernel
theorem dL_law_350 : decode cL_law 350 = .ok (.iaload, 1) := by decide +kernel
theorem dL_law_351 : decode cL_law 351 = .ok (.aload_n 0, 1) := by decide +kernel
theorem dL_law_352 : decode cL_law 352 = .ok (.iload_n 3, 1) := by decide +kernel
theorem dL_law_353 : decode cL_law 353 = .ok (.iconst 2, 1) := by decide +kernel
theorem dL_law_354 : decode cL_law 354 = .ok (.iadd, 1) := by decide +kernel
theorem dL_law_355 : decode cL_law 355 = .ok (.iaload, 1) := by decide +kernel
theorem dL_law_356 : decode cL_law 356 = .ok (.invokevirtual 38, 3) := by decide +kernel
theorem dL_law_359 : decode cL_law 359 = .ok (.if_icmp .eq 603, 3) := by decide +kernel
theorem dL_law_362 : decode cL_law 362 = .ok (.iconst 0, 1) := by decide +kernel
theorem dL_law_363 : decode cL_law 363 = .ok (.ireturn, 1) := by decide +kernel
theorem dL_law_364 : decode cL_law 364 = .ok (.aload_n 1, 1) := by decide +kernel
theorem dL_law_365 : decode cL_law 365 = .ok (.aload_n 0, 1) := by decide +kernel
theorem dL_law_366 : decode cL_law 366 = .ok (.iload_n 3, 1) := by decide +kernel
theorem dL_law_367 : decode cL_law 367 = .ok (.iconst 1, 1) := by decide +kernel
theorem dL_law_368 : decode cL_law 368 = .ok (.iadd, 1) := by decide +kernel
theorem dL_law_369 : decode cL_law 369 = .ok (.iaload, 1) := by decide +kernel
theorem dL_law_370 : decode cL_law 370 = .ok (.invokevirtual 39, 3) := by decide +kernel
theorem dL_law_373 : decode cL_law 373 = .ok (.aload_n 2, 1) := by decide +kernel
theorem dL_law_374 : decode cL_law 374 = .ok (.aload_n 0, 1) := by decide +kernel
theorem dL_law_375 : decode cL_law 375 = .ok (.iload_n 3, 1) := by decide +kernel
theorem dL_law_376 : decode cL_law 376 = .ok (.iconst 1, 1) := by decide +kernel
theorem dL_law_377 : decode cL_law 377 = .ok (.iadd, 1) := by decide +kernel
theorem dL_law_378 : decode cL_law 378 = .ok (.iaload, 1) := by decide +kernel
theorem dL_law_379 : decode cL_law 379 = .ok (.invokevirtual 43, 3) := by decide +kernel
theorem dL_law_382 : decode cL_law 382 = .ok (.if_icmp .eq 580, 3) := by decide +kernel
theorem dL_law_385 : decode cL_law 385 = .ok (.iconst 0, 1) := by decide +kernel
theorem dL_law_386 : decode cL_law 386 = .ok (.ireturn, 1) := by decide +kernel
theorem dL_law_387 : decode cL_law 387 = .ok (.aload_n 1, 1) := by decide +kernel
theorem dL_law_388 : decode cL_law 388 = .ok (.aload_n 0, 1) := by decide +kernel
theorem dL_law_389 : decode cL_law 389 = .ok (.iload_n 3, 1) := by decide +kernel
theorem dL_law_390 : decode cL_law 390 = .ok (.iconst 1, 1) := by decide +kernel
theorem dL_law_391 : decode cL_law 391 = .ok (.iadd, 1) := by decide +kernel
theorem dL_law_392 : decode cL_law 392 = .ok (.iaload, 1) := by decide +kernel
theorem dL_law_393 : decode cL_law 393 = .ok (.invokevirtual 44, 3) := by decide +kernel
theorem dL_law_396 : decode cL_law 396 = .ok (.aload_n 2, 1) := by decide +kernel
theorem dL_law_397 : decode cL_law 397 = .ok (.aload_n 0, 1) := by decide +kernel
theorem dL_law_398 : decode cL_law 398 = .ok (.iload_n 3, 1) := by decide +kernel
theorem dL_law_399 : decode cL_law 399 = .ok (.iconst 1, 1) := by decide +kernel
theorem dL_law_400 : decode cL_law 400 = .ok (.iadd, 1) := by decide +kernel
theorem dL_law_401 : decode cL_law 401 = .ok (.iaload, 1) := by decide +kernel
theorem dL_law_402 : decode cL_law 402 = .ok (.invokevirtual 48, 3) := by decide +kernel
theorem dL_law_405 : decode cL_law 405 = .ok (.lcmp, 1) := by decide +kernel
theorem dL_law_406 : decode cL_law 406 = .ok (.ifCond .eq 556, 3) := by decide +kernel
theorem dL_law_409 : decode cL_law 409 = .ok (.iconst 0, 1) := by decide +kernel
theorem dL_law_410 : decode cL_law 410 = .ok (.ireturn, 1) := by decide +kernel
theorem dL_law_411 : decode cL_law 411 = .ok (.aload_n 1, 1) := by decide +kernel
theorem dL_law_412 : decode cL_law 412 = .ok (.aload_n 0, 1) := by decide +kernel
theorem dL_law_413 : decode cL_law 413 = .ok (.iload_n 3, 1) := by decide +kernel
theorem dL_law_414 : decode cL_law 414 = .ok (.iconst 1, 1) := by decide +kernel
theorem dL_law_415 : decode cL_law 415 = .ok (.iadd, 1) := by decide +kernel
theorem dL_law_416 : decode cL_law 416 = .ok (.iaload, 1) := by decide +kernel
theorem dL_law_417 : decode cL_law 417 = .ok (.i2l, 1) := by decide +kernel
theorem dL_law_418 : decode cL_law 418 = .ok (.bipush 32, 2) := by decide +kernel
theorem dL_law_420 : decode cL_law 420 = .ok (.lshl, 1) := by decide +kernel
theorem dL_law_421 : decode cL_law 421 = .ok (.aload_n 0, 1) := by decide +kernel
theorem dL_law_422 : decode cL_law 422 = .ok (.iload_n 3, 1) := by decide +kernel
theorem dL_law_423 : decode cL_law 423 = .ok (.iconst 2, 1) := by decide +kernel
theorem dL_law_424 : decode cL_law 424 = .ok (.iadd, 1) := by decide +kernel
theorem dL_law_425 : decode cL_law 425 = .ok (.iaload, 1) := by decide +kernel
theorem dL_law_426 : decode cL_law 426 = .ok (.i2l, 1) := by decide +kernel
theorem dL_law_427 : decode cL_law 427 = .ok (.ldc2_w 27, 3) := by decide +kernel
theorem dL_law_430 : decode cL_law 430 = .ok (.land, 1) := by decide +kernel
theorem dL_law_431 : decode cL_law 431 = .ok (.lor, 1) := by decide +kernel
theorem dL_law_432 : decode cL_law 432 = .ok (.invokevirtual 49, 3) := by decide +kernel
theorem dL_law_435 : decode cL_law 435 = .ok (.aload_n 2, 1) := by decide +kernel
theorem dL_law_436 : decode cL_law 436 = .ok (.aload_n 0, 1) := by decide +kernel
theorem dL_law_437 : decode cL_law 437 = .ok (.iload_n 3, 1) := by decide +kernel
theorem dL_law_438 : decode cL_law 438 = .ok (.iconst 1, 1) := by decide +kernel
theorem dL_law_439 : decode cL_law 439 = .ok (.iadd, 1) := by decide +kernel
theorem dL_law_440 : decode cL_law 440 = .ok (.iaload, 1) := by decide +kernel
theorem dL_law_441 : decode cL_law 441 = .ok (.i2l, 1) := by decide +kernel
theorem dL_law_442 : decode cL_law 442 = .ok (.bipush 32, 2) := by decide +kernel
theorem dL_law_444 : decode cL_law 444 = .ok (.lshl, 1) := by decide +kernel
theorem dL_law_445 : decode cL_law 445 = .ok (.aload_n 0, 1) := by decide +kernel
theorem dL_law_446 : decode cL_law 446 = .ok (.iload_n 3, 1) := by decide +kernel
theorem dL_law_447 : decode cL_law 447 = .ok (.iconst 2, 1) := by decide +kernel
theorem dL_law_448 : decode cL_law 448 = .ok (.iadd, 1) := by decide +kernel
theorem dL_law_449 : decode cL_law 449 = .ok (.iaload, 1) := by decide +kernel
theorem dL_law_450 : decode cL_law 450 = .ok (.i2l, 1) := by decide +kernel
theorem dL_law_451 : decode cL_law 451 = .ok (.ldc2_w 27, 3) := by decide +kernel
theorem dL_law_454 : decode cL_law 454 = .ok (.land, 1) := by decide +kernel
theorem dL_law_455 : decode cL_law 455 = .ok (.lor, 1) := by decide +kernel
theorem dL_law_456 : decode cL_law 456 = .ok (.invokevirtual 53, 3) := by decide +kernel
theorem dL_law_459 : decode cL_law 459 = .ok (.if_icmp .eq 503, 3) := by decide +kernel
theorem dL_law_462 : decode cL_law 462 = .ok (.iconst 0, 1) := by decide +kernel
theorem dL_law_463 : decode cL_law 463 = .ok (.ireturn, 1) := by decide +kernel
theorem dL_law_464 : decode cL_law 464 = .ok (.aload_n 1, 1) := by decide +kernel
theorem dL_law_465 : decode cL_law 465 = .ok (.aload_n 0, 1) := by decide +kernel
theorem dL_law_466 : decode cL_law 466 = .ok (.iload_n 3, 1) := by decide +kernel
theorem dL_law_467 : decode cL_law 467 = .ok (.iconst 1, 1) := by decide +kernel
theorem dL_law_468 : decode cL_law 468 = .ok (.iadd, 1) := by decide +kernel
theorem dL_law_469 : decode cL_law 469 = .ok (.iaload, 1) := by decide +kernel
theorem dL_law_470 : decode cL_law 470 = .ok (.aload_n 0, 1) := by decide +kernel
theorem dL_law_471 : decode cL_law 471 = .ok (.iload_n 3, 1) := by decide +kernel
theorem dL_law_472 : decode cL_law 472 = .ok (.iconst 2, 1) := by decide +kernel
theorem dL_law_473 : decode cL_law 473 = .ok (.iadd, 1) := by decide +kernel
theorem dL_law_474 : decode cL_law 474 = .ok (.iaload, 1) := by decide +kernel
theorem dL_law_475 : decode cL_law 475 = .ok (.aload_n 0, 1) := by decide +kernel
theorem dL_law_476 : decode cL_law 476 = .ok (.iload_n 3, 1) := by decide +kernel
theorem dL_law_477 : decode cL_law 477 = .ok (.iconst 3, 1) := by decide +kernel
theorem dL_law_478 : decode cL_law 478 = .ok (.iadd, 1) := by decide +kernel
theorem dL_law_479 : decode cL_law 479 = .ok (.iaload, 1) := by decide +kernel
theorem dL_law_480 : decode cL_law 480 = .ok (.aload_n 0, 1) := by decide +kernel
theorem dL_law_481 : decode cL_law 481 = .ok (.iload_n 3, 1) := by decide +kernel
theorem dL_law_482 : decode cL_law 482 = .ok (.iconst 4, 1) := by decide +kernel
theorem dL_law_483 : decode cL_law 483 = .ok (.iadd, 1) := by decide +kernel
theorem dL_law_484 : decode cL_law 484 = .ok (.iaload, 1) := by decide +kernel
theorem dL_law_485 : decode cL_law 485 = .ok (.invokevirtual 54, 3) := by decide +kernel
theorem dL_law_488 : decode cL_law 488 = .ok (.aload_n 2, 1) := by decide +kernel
theorem dL_law_489 : decode cL_law 489 = .ok (.aload_n 0, 1) := by decide +kernel
theorem dL_law_490 : decode cL_law 490 = .ok (.iload_n 3, 1) := by decide +kernel
theorem dL_law_491 : decode cL_law 491 = .ok (.iconst 1, 1) := by decide +kernel
theorem dL_law_492 : decode cL_law 492 = .ok (.iadd, 1) := by decide +kernel
theorem dL_law_493 : decode cL_law 493 = .ok (.iaload, 1) := by decide +kernel
theorem dL_law_494 : decode cL_law 494 = .ok (.aload_n 0, 1) := by decide +kernel
theorem dL_law_495 : decode cL_law 495 = .ok (.iload_n 3, 1) := by decide +kernel
theorem dL_law_496 : decode cL_law 496 = .ok (.iconst 2, 1) := by decide +kernel
theorem dL_law_497 : decode cL_law 497 = .ok (.iadd, 1) := by decide +kernel
theorem dL_law_498 : decode cL_law 498 = .ok (.iaload, 1) := by decide +kernel
theorem dL_law_499 : decode cL_law 499 = .ok (.aload_n 0, 1) := by decide +kernel
theorem dL_law_500 : decode cL_law 500 = .ok (.iload_n 3, 1) := by decide +kernel
theorem dL_law_501 : decode cL_law 501 = .ok (.iconst 3, 1) := by decide +kernel
theorem dL_law_502 : decode cL_law 502 = .ok (.iadd, 1) := by decide +kernel
theorem dL_law_503 : decode cL_law 503 = .ok (.iaload, 1) := by decide +kernel
theorem dL_law_504 : decode cL_law 504 = .ok (.aload_n 0, 1) := by decide +kernel
theorem dL_law_505 : decode cL_law 505 = .ok (.iload_n 3, 1) := by decide +kernel
theorem dL_law_506 : decode cL_law 506 = .ok (.iconst 4, 1) := by decide +kernel
theorem dL_law_507 : decode cL_law 507 = .ok (.iadd, 1) := by decide +kernel
theorem dL_law_508 : decode cL_law 508 = .ok (.iaload, 1) := by decide +kernel
theorem dL_law_509 : decode cL_law 509 = .ok (.invokevirtual 58, 3) := by decide +kernel
theorem dL_law_512 : decode cL_law 512 = .ok (.if_icmp .eq 450, 3) := by decide +kernel
theorem dL_law_515 : decode cL_law 515 = .ok (.iconst 0, 1) := by decide +kernel
theorem dL_law_516 : decode cL_law 516 = .ok (.ireturn, 1) := by decide +kernel
theorem dL_law_517 : decode cL_law 517 = .ok (.aload_n 1, 1) := by decide +kernel
theorem dL_law_518 : decode cL_law 518 = .ok (.aload_n 0, 1) := by decide +kernel
theorem dL_law_519 : decode cL_law 519 = .ok (.iload_n 3, 1) := by decide +kernel
theorem dL_law_520 : decode cL_law 520 = .ok (.iconst 1, 1) := by decide +kernel
theorem dL_law_521 : decode cL_law 521 = .ok (.iadd, 1) := by decide +kernel
theorem dL_law_522 : decode cL_law 522 = .ok (.iaload, 1) := by decide +kernel
theorem dL_law_523 : decode cL_law 523 = .ok (.invokevirtual 59, 3) := by decide +kernel
theorem dL_law_526 : decode cL_law 526 = .ok (.aload_n 2, 1) := by decide +kernel
theorem dL_law_527 : decode cL_law 527 = .ok (.aload_n 0, 1) := by decide +kernel
theorem dL_law_528 : decode cL_law 528 = .ok (.iload_n 3, 1) := by decide +kernel
theorem dL_law_529 : decode cL_law 529 = .ok (.iconst 1, 1) := by decide +kernel
theorem dL_law_530 : decode cL_law 530 = .ok (.iadd, 1) := by decide +kernel
theorem dL_law_531 : decode cL_law 531 = .ok (.iaload, 1) := by decide +kernel
theorem dL_law_532 : decode cL_law 532 = .ok (.invokevirtual 63, 3) := by decide +kernel
theorem dL_law_535 : decode cL_law 535 = .ok (.if_icmp .eq 427, 3) := by decide +kernel
theorem dL_law_538 : decode cL_law 538 = .ok (.iconst 0, 1) := by decide +kernel
theorem dL_law_539 : decode cL_law 539 = .ok (.ireturn, 1) := by decide +kernel
theorem dL_law_540 : decode cL_law 540 = .ok (.aload_n 1, 1) := by decide +kernel
theorem dL_law_541 : decode cL_law 541 = .ok (.invokevirtual 64, 3) := by decide +kernel
theorem dL_law_544 : decode cL_law 544 = .ok (.aload_n 2, 1) := by decide +kernel
theorem dL_law_545 : decode cL_law 545 = .ok (.invokevirtual 68, 3) := by decide +kernel
theorem dL_law_548 : decode cL_law 548 = .ok (.if_icmp .eq 414, 3) := by decide +kernel
theorem dL_law_551 : decode cL_law 551 = .ok (.iconst 0, 1) := by decide +kernel
theorem dL_law_552 : decode cL_law 552 = .ok (.ireturn, 1) := by decide +kernel
theorem dL_law_553 : decode cL_law 553 = .ok (.aload_n 1, 1) := by decide +kernel
theorem dL_law_554 : decode cL_law 554 = .ok (.aload_n 0, 1) := by decide +kernel
theorem dL_law_555 : decode cL_law 555 = .ok (.iload_n 3, 1) := by decide +kernel
theorem dL_law_556 : decode cL_law 556 = .ok (.iconst 1, 1) := by decide +kernel
theorem dL_law_557 : decode cL_law 557 = .ok (.iadd, 1) := by decide +kernel
theorem dL_law_558 : decode cL_law 558 = .ok (.iaload, 1) := by decide +kernel
theorem dL_law_559 : decode cL_law 559 = .ok (.aload_n 0, 1) := by decide +kernel
theorem dL_law_560 : decode cL_law 560 = .ok (.iload_n 3, 1) := by decide +kernel
theorem dL_law_561 : decode cL_law 561 = .ok (.iconst 2, 1) := by decide +kernel
theorem dL_law_562 : decode cL_law 562 = .ok (.iadd, 1) := by decide +kernel
theorem dL_law_563 : decode cL_law 563 = .ok (.iaload, 1) := by decide +kernel
theorem dL_law_564 : decode cL_law 564 = .ok (.aload_n 0, 1) := by decide +kernel
theorem dL_law_565 : decode cL_law 565 = .ok (.iload_n 3, 1) := by decide +kernel
theorem dL_law_566 : decode cL_law 566 = .ok (.iconst 3, 1) := by decide +kernel
theorem dL_law_567 : decode cL_law 567 = .ok (.iadd, 1) := by decide +kernel
theorem dL_law_568 : decode cL_law 568 = .ok (.iaload, 1) := by decide +kernel
theorem dL_law_569 : decode cL_law 569 = .ok (.aload_n 0, 1) := by decide +kernel
theorem dL_law_570 : decode cL_law 570 = .ok (.iload_n 3, 1) := by decide +kernel
theorem dL_law_571 : decode cL_law 571 = .ok (.iconst 4, 1) := by decide +kernel
theorem dL_law_572 : decode cL_law 572 = .ok (.iadd, 1) := by decide +kernel
theorem dL_law_573 : decode cL_law 573 = .ok (.iaload, 1) := by decide +kernel
theorem dL_law_574 : decode cL_law 574 = .ok (.invokevirtual 69, 3) := by decide +kernel
theorem dL_law_577 : decode cL_law 577 = .ok (.aload_n 2, 1) := by decide +kernel
theorem dL_law_578 : decode cL_law 578 = .ok (.aload_n 0, 1) := by decide +kernel
theorem dL_law_579 : decode cL_law 579 = .ok (.iload_n 3, 1) := by decide +kernel
theorem dL_law_580 : decode cL_law 580 = .ok (.iconst 1, 1) := by decide +kernel
theorem dL_law_581 : decode cL_law 581 = .ok (.iadd, 1) := by decide +kernel
theorem dL_law_582 : decode cL_law 582 = .ok (.iaload, 1) := by decide +kernel
theorem dL_law_583 : decode cL_law 583 = .ok (.aload_n 0, 1) := by decide +kernel
theorem dL_law_584 : decode cL_law 584 = .ok (.iload_n 3, 1) := by decide +kernel
theorem dL_law_585 : decode cL_law 585 = .ok (.iconst 2, 1) := by decide +kernel
theorem dL_law_586 : decode cL_law 586 = .ok (.iadd, 1) := by decide +kernel
theorem dL_law_587 : decode cL_law 587 = .ok (.iaload, 1) := by decide +kernel
theorem dL_law_588 : decode cL_law 588 = .ok (.aload_n 0, 1) := by decide +kernel
theorem dL_law_589 : decode cL_law 589 = .ok (.iload_n 3, 1) := by decide +kernel
theorem dL_law_590 : decode cL_law 590 = .ok (.iconst 3, 1) := by decide +kernel
theorem dL_law_591 : decode cL_law 591 = .ok (.iadd, 1) := by decide +kernel
theorem dL_law_592 : decode cL_law 592 = .ok (.iaload, 1) := by decide +kernel
theorem dL_law_593 : decode cL_law 593 = .ok (.aload_n 0, 1) := by decide +kernel
theorem dL_law_594 : decode cL_law 594 = .ok (.iload_n 3, 1) := by decide +kernel
theorem dL_law_595 : decode cL_law 595 = .ok (.iconst 4, 1) := by decide +kernel
theorem dL_law_596 : decode cL_law 596 = .ok (.iadd, 1) := by decide +kernel
theorem dL_law_597 : decode cL_law 597 = .ok (.iaload, 1) := by decide +kernel
theorem dL_law_598 : decode cL_law 598 = .ok (.invokevirtual 72, 3) := by decide +kernel
theorem dL_law_601 : decode cL_law 601 = .ok (.if_icmp .eq 361, 3) := by decide +kernel
theorem dL_law_604 : decode cL_law 604 = .ok (.iconst 0, 1) := by decide +kernel
theorem dL_law_605 : decode cL_law 605 = .ok (.ireturn, 1) := by decide +kernel
theorem dL_law_606 : decode cL_law 606 = .ok (.aload_n 1, 1) := by decide +kernel
theorem dL_law_607 : decode cL_law 607 = .ok (.aload_n 0, 1) := by decide +kernel
theorem dL_law_608 : decode cL_law 608 = .ok (.iload_n 3, 1) := by decide +kernel
theorem dL_law_609 : decode cL_law 609 = .ok (.iconst 1, 1) := by decide +kernel
theorem dL_law_610 : decode cL_law 610 = .ok (.iadd, 1) := by decide +kernel
theorem dL_law_611 : decode cL_law 611 = .ok (.iaload, 1) := by decide +kernel
theorem dL_law_612 : decode cL_law 612 = .ok (.aload_n 0, 1) := by decide +kernel
theorem dL_law_613 : decode cL_law 613 = .ok (.iload_n 3, 1) := by decide +kernel
theorem dL_law_614 : decode cL_law 614 = .ok (.iconst 2, 1) := by decide +kernel
theorem dL_law_615 : decode cL_law 615 = .ok (.iadd, 1) := by decide +kernel
theorem dL_law_616 : decode cL_law 616 = .ok (.iaload, 1) := by decide +kernel
theorem dL_law_617 : decode cL_law 617 = .ok (.aload_n 0, 1) := by decide +kernel
theorem dL_law_618 : decode cL_law 618 = .ok (.iload_n 3, 1) := by decide +kernel
theorem dL_law_619 : decode cL_law 619 = .ok (.iconst 3, 1) := by decide +kernel
theorem dL_law_620 : decode cL_law 620 = .ok (.iadd, 1) := by decide +kernel
theorem dL_law_621 : decode cL_law 621 = .ok (.iaload, 1) := by decide +kernel
theorem dL_law_622 : decode cL_law 622 = .ok (.aload_n 0, 1) := by decide +kernel
theorem dL_law_623 : decode cL_law 623 = .ok (.iload_n 3, 1) := by decide +kernel
theorem dL_law_624 : decode cL_law 624 = .ok (.iconst 4, 1) := by decide +kernel
theorem dL_law_625 : decode cL_law 625 = .ok (.iadd, 1) := by decide +kernel
theorem dL_law_626 : decode cL_law 626 = .ok (.iaload, 1) := by decide +kernel
theorem dL_law_627 : decode cL_law 627 = .ok (.invokevirtual 73, 3) := by decide +kernel
theorem dL_law_630 : decode cL_law 630 = .ok (.aload_n 2, 1) := by decide +kernel
theorem dL_law_631 : decode cL_law 631 = .ok (.aload_n 0, 1) := by decide +kernel
theorem dL_law_632 : decode cL_law 632 = .ok (.iload_n 3, 1) := by decide +kernel
theorem dL_law_633 : decode cL_law 633 = .ok (.iconst 1, 1) := by decide +kernel
theorem dL_law_634 : decode cL_law 634 = .ok (.iadd, 1) := by decide +kernel
theorem dL_law_635 : decode cL_law 635 = .ok (.iaload, 1) := by decide +kernel
theorem dL_law_636 : decode cL_law 636 = .ok (.aload_n 0, 1) := by decide +kernel
theorem dL_law_637 : decode cL_law 637 = .ok (.iload_n 3, 1) := by decide +kernel
theorem dL_law_638 : decode cL_law 638 = .ok (.iconst 2, 1) := by decide +kernel
theorem dL_law_639 : decode cL_law 639 = .ok (.iadd, 1) := by decide +kernel
theorem dL_law_640 : decode cL_law 640 = .ok (.iaload, 1) := by decide +kernel
theorem dL_law_641 : decode cL_law 641 = .ok (.aload_n 0, 1) := by decide +kernel
theorem dL_law_642 : decode cL_law 642 = .ok (.iload_n 3, 1) := by decide +kernel
theorem dL_law_643 : decode cL_law 643 = .ok (.iconst 3, 1) := by decide +kernel
theorem dL_law_644 : decode cL_law 644 = .ok (.iadd, 1) := by decide +kernel
theorem dL_law_645 : decode cL_law 645 = .ok (.iaload, 1) := by decide +kernel
theorem dL_law_646 : decode cL_law 646 = .ok (.aload_n 0, 1) := by decide +kernel
theorem dL_law_647 : decode cL_law 647 = .ok (.iload_n 3, 1) := by decide +kernel
theorem dL_law_648 : decode cL_law 648 = .ok (.iconst 4, 1) := by decide +kernel
theorem dL_law_649 : decode cL_law 649 = .ok (.iadd, 1) := by decide +kernel
theorem dL_law_650 : decode cL_law 650 = .ok (.iaload, 1) := by decide +kernel
theorem dL_law_651 : decode cL_law 651 = .ok (.invokevirtual 76, 3) := by decide +kernel
theorem dL_law_654 : decode cL_law 654 = .ok (.if_icmp .eq 308, 3) := by decide +kernel
theorem dL_law_657 : decode cL_law 657 = .ok (.iconst 0, 1) := by decide +kernel
theorem dL_law_658 : decode cL_law 658 = .ok (.ireturn, 1) := by decide +kernel
theorem dL_law_659 : decode cL_law 659 = .ok (.aload_n 1, 1) := by decide +kernel
theorem dL_law_660 : decode cL_law 660 = .ok (.aload_n 0, 1) := by decide +kernel
theorem dL_law_661 : decode cL_law 661 = .ok (.iload_n 3, 1) := by decide +kernel
theorem dL_law_662 : decode cL_law 662 = .ok (.iconst 1, 1) := by decide +kernel
theorem dL_law_663 : decode cL_law 663 = .ok (.iadd, 1) := by decide +kernel
theorem dL_law_664 : decode cL_law 664 = .ok (.iaload, 1) := by decide +kernel
theorem dL_law_665 : decode cL_law 665 = .ok (.i2l, 1) := by decide +kernel
theorem dL_law_666 : decode cL_law 666 = .ok (.bipush 32, 2) := by decide +kernel
theorem dL_law_668 : decode cL_law 668 = .ok (.lshl, 1) := by decide +kernel
theorem dL_law_669 : decode cL_law 669 = .ok (.aload_n 0, 1) := by decide +kernel
theorem dL_law_670 : decode cL_law 670 = .ok (.iload_n 3, 1) := by decide +kernel
theorem dL_law_671 : decode cL_law 671 = .ok (.iconst 2, 1) := by decide +kernel
theorem dL_law_672 : decode cL_law 672 = .ok (.iadd, 1) := by decide +kernel
theorem dL_law_673 : decode cL_law 673 = .ok (.iaload, 1) := by decide +kernel
theorem dL_law_674 : decode cL_law 674 = .ok (.i2l, 1) := by decide +kernel
theorem dL_law_675 : decode cL_law 675 = .ok (.ldc2_w 27, 3) := by decide +kernel
theorem dL_law_678 : decode cL_law 678 = .ok (.land, 1) := by decide +kernel
theorem dL_law_679 : decode cL_law 679 = .ok (.lor, 1) := by decide +kernel
theorem dL_law_680 : decode cL_law 680 = .ok (.invokevirtual 77, 3) := by decide +kernel
theorem dL_law_683 : decode cL_law 683 = .ok (.aload_n 2, 1) := by decide +kernel
theorem dL_law_684 : decode cL_law 684 = .ok (.aload_n 0, 1) := by decide +kernel
theorem dL_law_685 : decode cL_law 685 = .ok (.iload_n 3, 1) := by decide +kernel
theorem dL_law_686 : decode cL_law 686 = .ok (.iconst 1, 1) := by decide +kernel
theorem dL_law_687 : decode cL_law 687 = .ok (.iadd, 1) := by decide +kernel
theorem dL_law_688 : decode cL_law 688 = .ok (.iaload, 1) := by decide +kernel
theorem dL_law_689 : decode cL_law 689 = .ok (.i2l, 1) := by decide +kernel
theorem dL_law_690 : decode cL_law 690 = .ok (.bipush 32, 2) := by decide +kernel
theorem dL_law_692 : decode cL_law 692 = .ok (.lshl, 1) := by decide +kernel
theorem dL_law_693 : decode cL_law 693 = .ok (.aload_n 0, 1) := by decide +kernel
theorem dL_law_694 : decode cL_law 694 = .ok (.iload_n 3, 1) := by decide +kernel
theorem dL_law_695 : decode cL_law 695 = .ok (.iconst 2, 1) := by decide +kernel
theorem dL_law_696 : decode cL_law 696 = .ok (.iadd, 1) := by decide +kernel
theorem dL_law_697 : decode cL_law 697 = .ok (.iaload, 1) := by decide +kernel
theorem dL_law_698 : decode cL_law 698 = .ok (.i2l, 1) := by decide +kernel
theorem dL_law_699 : decode cL_law 699 = .ok (.ldc2_w 27, 3) := by decide +kernel
theorem dL_law_702 : decode cL_law 702 = .ok (.land, 1) := by decide +kernel
theorem dL_law_703 : decode cL_law 703 = .ok (.lor, 1) := by decide +kernel
theorem dL_law_704 : decode cL_law 704 = .ok (.invokevirtual 80, 3) := by decide +kernel
theorem dL_law_707 : decode cL_law 707 = .ok (.if_icmp .eq 255, 3) := by decide +kernel
theorem dL_law_710 : decode cL_law 710 = .ok (.iconst 0, 1) := by decide +kernel
theorem dL_law_711 : decode cL_law 711 = .ok (.ireturn, 1) := by decide +kernel
theorem dL_law_712 : decode cL_law 712 = .ok (.aload_n 1, 1) := by decide +kernel
theorem dL_law_713 : decode cL_law 713 = .ok (.aload_n 0, 1) := by decide +kernel
theorem dL_law_714 : decode cL_law 714 = .ok (.iload_n 3, 1) := by decide +kernel
theorem dL_law_715 : decode cL_law 715 = .ok (.iconst 1, 1) := by decide +kernel
theorem dL_law_716 : decode cL_law 716 = .ok (.iadd, 1) := by decide +kernel
theorem dL_law_717 : decode cL_law 717 = .ok (.iaload, 1) := by decide +kernel
theorem dL_law_718 : decode cL_law 718 = .ok (.i2l, 1) := by decide +kernel
theorem dL_law_719 : decode cL_law 719 = .ok (.bipush 32, 2) := by decide +kernel
theorem dL_law_721 : decode cL_law 721 = .ok (.lshl, 1) := by decide +kernel
theorem dL_law_722 : decode cL_law 722 = .ok (.aload_n 0, 1) := by decide +kernel
theorem dL_law_723 : decode cL_law 723 = .ok (.iload_n 3, 1) := by decide +kernel
theorem dL_law_724 : decode cL_law 724 = .ok (.iconst 2, 1) := by decide +kernel
theorem dL_law_725 : decode cL_law 725 = .ok (.iadd, 1) := by decide +kernel
theorem dL_law_726 : decode cL_law 726 = .ok (.iaload, 1) := by decide +kernel
theorem dL_law_727 : decode cL_law 727 = .ok (.i2l, 1) := by decide +kernel
theorem dL_law_728 : decode cL_law 728 = .ok (.ldc2_w 27, 3) := by decide +kernel
theorem dL_law_731 : decode cL_law 731 = .ok (.land, 1) := by decide +kernel
theorem dL_law_732 : decode cL_law 732 = .ok (.lor, 1) := by decide +kernel
theorem dL_law_733 : decode cL_law 733 = .ok (.aload_n 0, 1) := by decide +kernel
theorem dL_law_734 : decode cL_law 734 = .ok (.iload_n 3, 1) := by decide +kernel
theorem dL_law_735 : decode cL_law 735 = .ok (.iconst 3, 1) := by decide +kernel
theorem dL_law_736 : decode cL_law 736 = .ok (.iadd, 1) := by decide +kernel
theorem dL_law_737 : decode cL_law 737 = .ok (.iaload, 1) := by decide +kernel
theorem dL_law_738 : decode cL_law 738 = .ok (.i2l, 1) := by decide +kernel
theorem dL_law_739 : decode cL_law 739 = .ok (.bipush 32, 2) := by decide +kernel
theorem dL_law_741 : decode cL_law 741 = .ok (.lshl, 1) := by decide +kernel
theorem dL_law_742 : decode cL_law 742 = .ok (.aload_n 0, 1) := by decide +kernel
theorem dL_law_743 : decode cL_law 743 = .ok (.iload_n 3, 1) := by decide +kernel
theorem dL_law_744 : decode cL_law 744 = .ok (.iconst 4, 1) := by decide +kernel
theorem dL_law_745 : decode cL_law 745 = .ok (.iadd, 1) := by decide +kernel
theorem dL_law_746 : decode cL_law 746 = .ok (.iaload, 1) := by decide +kernel
theorem dL_law_747 : decode cL_law 747 = .ok (.i2l, 1) := by decide +kernel
theorem dL_law_748 : decode cL_law 748 = .ok (.ldc2_w 27, 3) := by decide +kernel
theorem dL_law_751 : decode cL_law 751 = .ok (.land, 1) := by decide +kernel
theorem dL_law_752 : decode cL_law 752 = .ok (.lor, 1) := by decide +kernel
theorem dL_law_753 : decode cL_law 753 = .ok (.invokevirtual 81, 3) := by decide +kernel
theorem dL_law_756 : decode cL_law 756 = .ok (.aload_n 2, 1) := by decide +kernel
theorem dL_law_757 : decode cL_law 757 = .ok (.aload_n 0, 1) := by decide +kernel
theorem dL_law_758 : decode cL_law 758 = .ok (.iload_n 3, 1) := by decide +kernel
theorem dL_law_759 : decode cL_law 759 = .ok (.iconst 1, 1) := by decide +kernel
theorem dL_law_760 : decode cL_law 760 = .ok (.iadd, 1) := by decide +kernel
theorem dL_law_761 : decode cL_law 761 = .ok (.iaload, 1) := by decide +kernel
theorem dL_law_762 : decode cL_law 762 = .ok (.i2l, 1) := by decide +kernel
theorem dL_law_763 : decode cL_law 763 = .ok (.bipush 32, 2) := by decide +kernel
theorem dL_law_765 : decode cL_law 765 = .ok (.lshl, 1) := by decide +kernel
theorem dL_law_766 : decode cL_law 766 = .ok (.aload_n 0, 1) := by decide +kernel
theorem dL_law_767 : decode cL_law 767 = .ok (.iload_n 3, 1) := by decide +kernel
theorem dL_law_768 : decode cL_law 768 = .ok (.iconst 2, 1) := by decide +kernel
theorem dL_law_769 : decode cL_law 769 = .ok (.iadd, 1) := by decide +kernel
theorem dL_law_770 : decode cL_law 770 = .ok (.iaload, 1) := by decide +kernel
theorem dL_law_771 : decode cL_law 771 = .ok (.i2l, 1) := by decide +kernel
theorem dL_law_772 : decode cL_law 772 = .ok (.ldc2_w 27, 3) := by decide +kernel
theorem dL_law_775 : decode cL_law 775 = .ok (.land, 1) := by decide +kernel
theorem dL_law_776 : decode cL_law 776 = .ok (.lor, 1) := by decide +kernel
theorem dL_law_777 : decode cL_law 777 = .ok (.aload_n 0, 1) := by decide +kernel
theorem dL_law_778 : decode cL_law 778 = .ok (.iload_n 3, 1) := by decide +kernel
theorem dL_law_779 : decode cL_law 779 = .ok (.iconst 3, 1) := by decide +kernel
theorem dL_law_780 : decode cL_law 780 = .ok (.iadd, 1) := by decide +kernel
theorem dL_law_781 : decode cL_law 781 = .ok (.iaload, 1) := by decide +kernel
theorem dL_law_782 : decode cL_law 782 = .ok (.i2l, 1) := by decide +kernel
theorem dL_law_783 : decode cL_law 783 = .ok (.bipush 32, 2) := by decide +kernel
theorem dL_law_785 : decode cL_law 785 = .ok (.lshl, 1) := by decide +kernel
theorem dL_law_786 : decode cL_law 786 = .ok (.aload_n 0, 1) := by decide +kernel
theorem dL_law_787 : decode cL_law 787 = .ok (.iload_n 3, 1) := by decide +kernel
theorem dL_law_788 : decode cL_law 788 = .ok (.iconst 4, 1) := by decide +kernel
theorem dL_law_789 : decode cL_law 789 = .ok (.iadd, 1) := by decide +kernel
theorem dL_law_790 : decode cL_law 790 = .ok (.iaload, 1) := by decide +kernel
theorem dL_law_791 : decode cL_law 791 = .ok (.i2l, 1) := by decide +kernel
theorem dL_law_792 : decode cL_law 792 = .ok (.ldc2_w 27, 3) := by decide +kernel
theorem dL_law_795 : decode cL_law 795 = .ok (.land, 1) := by decide +kernel
theorem dL_law_796 : decode cL_law 796 = .ok (.lor, 1) := by decide +kernel
theorem dL_law_797 : decode cL_law 797 = .ok (.invokevirtual 85, 3) := by decide +kernel
theorem dL_law_800 : decode cL_law 800 = .ok (.if_icmp .eq 162, 3) := by decide +kernel
theorem dL_law_803 : decode cL_law 803 = .ok (.iconst 0, 1) := by decide +kernel
theorem dL_law_804 : decode cL_law 804 = .ok (.ireturn, 1) := by decide +kernel
theorem dL_law_805 : decode cL_law 805 = .ok (.aload_n 1, 1) := by decide +kernel
theorem dL_law_806 : decode cL_law 806 = .ok (.aload_n 0, 1) := by decide +kernel
theorem dL_law_807 : decode cL_law 807 = .ok (.iload_n 3, 1) := by decide +kernel
theorem dL_law_808 : decode cL_law 808 = .ok (.iconst 1, 1) := by decide +kernel
theorem dL_law_809 : decode cL_law 809 = .ok (.iadd, 1) := by decide +kernel
theorem dL_law_810 : decode cL_law 810 = .ok (.iaload, 1) := by decide +kernel
theorem dL_law_811 : decode cL_law 811 = .ok (.aload_n 0, 1) := by decide +kernel
theorem dL_law_812 : decode cL_law 812 = .ok (.iload_n 3, 1) := by decide +kernel
theorem dL_law_813 : decode cL_law 813 = .ok (.iconst 2, 1) := by decide +kernel
theorem dL_law_814 : decode cL_law 814 = .ok (.iadd, 1) := by decide +kernel
theorem dL_law_815 : decode cL_law 815 = .ok (.iaload, 1) := by decide +kernel
theorem dL_law_816 : decode cL_law 816 = .ok (.invokevirtual 86, 3) := by decide +kernel
theorem dL_law_819 : decode cL_law 819 = .ok (.aload_n 2, 1) := by decide +kernel
theorem dL_law_820 : decode cL_law 820 = .ok (.aload_n 0, 1) := by decide +kernel
theorem dL_law_821 : decode cL_law 821 = .ok (.iload_n 3, 1) := by decide +kernel
theorem dL_law_822 : decode cL_law 822 = .ok (.iconst 1, 1) := by decide +kernel
theorem dL_law_823 : decode cL_law 823 = .ok (.iadd, 1) := by decide +kernel
theorem dL_law_824 : decode cL_law 824 = .ok (.iaload, 1) := by decide +kernel
theorem dL_law_825 : decode cL_law 825 = .ok (.aload_n 0, 1) := by decide +kernel
theorem dL_law_826 : decode cL_law 826 = .ok (.iload_n 3, 1) := by decide +kernel
theorem dL_law_827 : decode cL_law 827 = .ok (.iconst 2, 1) := by decide +kernel
theorem dL_law_828 : decode cL_law 828 = .ok (.iadd, 1) := by decide +kernel
theorem dL_law_829 : decode cL_law 829 = .ok (.iaload, 1) := by decide +kernel
theorem dL_law_830 : decode cL_law 830 = .ok (.invokevirtual 90, 3) := by decide +kernel
theorem dL_law_833 : decode cL_law 833 = .ok (.lcmp, 1) := by decide +kernel
theorem dL_law_834 : decode cL_law 834 = .ok (.ifCond .eq 128, 3) := by decide +kernel
theorem dL_law_837 : decode cL_law 837 = .ok (.iconst 0, 1) := by decide +kernel
theorem dL_law_838 : decode cL_law 838 = .ok (.ireturn, 1) := by decide +kernel
theorem dL_law_839 : decode cL_law 839 = .ok (.aload_n 1, 1) := by decide +kernel
theorem dL_law_840 : decode cL_law 840 = .ok (.aload_n 0, 1) := by decide +kernel
theorem dL_law_841 : decode cL_law 841 = .ok (.iload_n 3, 1) := by decide +kernel
theorem dL_law_842 : decode cL_law 842 = .ok (.iconst 1, 1) := by decide +kernel
theorem dL_law_843 : decode cL_law 843 = .ok (.iadd, 1) := by decide +kernel
theorem dL_law_844 : decode cL_law 844 = .ok (.iaload, 1) := by decide +kernel
theorem dL_law_845 : decode cL_law 845 = .ok (.i2l, 1) := by decide +kernel
theorem dL_law_846 : decode cL_law 846 = .ok (.bipush 32, 2) := by decide +kernel
theorem dL_law_848 : decode cL_law 848 = .ok (.lshl, 1) := by decide +kernel
theorem dL_law_849 : decode cL_law 849 = .ok (.aload_n 0, 1) := by decide +kernel
theorem dL_law_850 : decode cL_law 850 = .ok (.iload_n 3, 1) := by decide +kernel
theorem dL_law_851 : decode cL_law 851 = .ok (.iconst 2, 1) := by decide +kernel
theorem dL_law_852 : decode cL_law 852 = .ok (.iadd, 1) := by decide +kernel
theorem dL_law_853 : decode cL_law 853 = .ok (.iaload, 1) := by decide +kernel
theorem dL_law_854 : decode cL_law 854 = .ok (.i2l, 1) := by decide +kernel
theorem dL_law_855 : decode cL_law 855 = .ok (.ldc2_w 27, 3) := by decide +kernel
theorem dL_law_858 : decode cL_law 858 = .ok (.land, 1) := by decide +kernel
theorem dL_law_859 : decode cL_law 859 = .ok (.lor, 1) := by decide +kernel
theorem dL_law_860 : decode cL_law 860 = .ok (.aload_n 0, 1) := by decide +kernel
theorem dL_law_861 : decode cL_law 861 = .ok (.iload_n 3, 1) := by decide +kernel
theorem dL_law_862 : decode cL_law 862 = .ok (.iconst 3, 1) := by decide +kernel
theorem dL_law_863 : decode cL_law 863 = .ok (.iadd, 1) := by decide +kernel
theorem dL_law_864 : decode cL_law 864 = .ok (.iaload, 1) := by decide +kernel
theorem dL_law_865 : decode cL_law 865 = .ok (.invokevirtual 91, 3) := by decide +kernel
theorem dL_law_868 : decode cL_law 868 = .ok (.aload_n 2, 1) := by decide +kernel
theorem dL_law_869 : decode cL_law 869 = .ok (.aload_n 0, 1) := by decide +kernel
theorem dL_law_870 : decode cL_law 870 = .ok (.iload_n 3, 1) := by decide +kernel
theorem dL_law_871 : decode cL_law 871 = .ok (.iconst 1, 1) := by decide +kernel
theorem dL_law_872 : decode cL_law 872 = .ok (.iadd, 1) := by decide +kernel
theorem dL_law_873 : decode cL_law 873 = .ok (.iaload, 1) := by decide +kernel
theorem dL_law_874 : decode cL_law 874 = .ok (.i2l, 1) := by decide +kernel
theorem dL_law_875 : decode cL_law 875 = .ok (.bipush 32, 2) := by decide +kernel
theorem dL_law_877 : decode cL_law 877 = .ok (.lshl, 1) := by decide +kernel
theorem dL_law_878 : decode cL_law 878 = .ok (.aload_n 0, 1) := by decide +kernel
theorem dL_law_879 : decode cL_law 879 = .ok (.iload_n 3, 1) := by decide +kernel
theorem dL_law_880 : decode cL_law 880 = .ok (.iconst 2, 1) := by decide +kernel
theorem dL_law_881 : decode cL_law 881 = .ok (.iadd, 1) := by decide +kernel
theorem dL_law_882 : decode cL_law 882 = .ok (.iaload, 1) := by decide +kernel
theorem dL_law_883 : decode cL_law 883 = .ok (.i2l, 1) := by decide +kernel
theorem dL_law_884 : decode cL_law 884 = .ok (.ldc2_w 27, 3) := by decide +kernel
theorem dL_law_887 : decode cL_law 887 = .ok (.land, 1) := by decide +kernel
theorem dL_law_888 : decode cL_law 888 = .ok (.lor, 1) := by decide +kernel
theorem dL_law_889 : decode cL_law 889 = .ok (.aload_n 0, 1) := by decide +kernel
theorem dL_law_890 : decode cL_law 890 = .ok (.iload_n 3, 1) := by decide +kernel
theorem dL_law_891 : decode cL_law 891 = .ok (.iconst 3, 1) := by decide +kernel
theorem dL_law_892 : decode cL_law 892 = .ok (.iadd, 1) := by decide +kernel
theorem dL_law_893 : decode cL_law 893 = .ok (.iaload, 1) := by decide +kernel
theorem dL_law_894 : decode cL_law 894 = .ok (.invokevirtual 95, 3) := by decide +kernel
theorem dL_law_897 : decode cL_law 897 = .ok (.lcmp, 1) := by decide +kernel
theorem dL_law_898 : decode cL_law 898 = .ok (.ifCond .eq 64, 3) := by decide +kernel
theorem dL_law_901 : decode cL_law 901 = .ok (.iconst 0, 1) := by decide +kernel
theorem dL_law_902 : decode cL_law 902 = .ok (.ireturn, 1) := by decide +kernel
theorem dL_law_903 : decode cL_law 903 = .ok (.aload_n 1, 1) := by decide +kernel
theorem dL_law_904 : decode cL_law 904 = .ok (.aload_n 0, 1) := by decide +kernel
theorem dL_law_905 : decode cL_law 905 = .ok (.iload_n 3, 1) := by decide +kernel
theorem dL_law_906 : decode cL_law 906 = .ok (.iconst 1, 1) := by decide +kernel
theorem dL_law_907 : decode cL_law 907 = .ok (.iadd, 1) := by decide +kernel
theorem dL_law_908 : decode cL_law 908 = .ok (.iaload, 1) := by decide +kernel
theorem dL_law_909 : decode cL_law 909 = .ok (.invokevirtual 96, 3) := by decide +kernel
theorem dL_law_912 : decode cL_law 912 = .ok (.aload_n 2, 1) := by decide +kernel
theorem dL_law_913 : decode cL_law 913 = .ok (.aload_n 0, 1) := by decide +kernel
theorem dL_law_914 : decode cL_law 914 = .ok (.iload_n 3, 1) := by decide +kernel
theorem dL_law_915 : decode cL_law 915 = .ok (.iconst 1, 1) := by decide +kernel
theorem dL_law_916 : decode cL_law 916 = .ok (.iadd, 1) := by decide +kernel
theorem dL_law_917 : decode cL_law 917 = .ok (.iaload, 1) := by decide +kernel
theorem dL_law_918 : decode cL_law 918 = .ok (.invokevirtual 99, 3) := by decide +kernel
theorem dL_law_921 : decode cL_law 921 = .ok (.if_icmp .eq 41, 3) := by decide +kernel
theorem dL_law_924 : decode cL_law 924 = .ok (.iconst 0, 1) := by decide +kernel
theorem dL_law_925 : decode cL_law 925 = .ok (.ireturn, 1) := by decide +kernel
theorem dL_law_926 : decode cL_law 926 = .ok (.aload_n 1, 1) := by decide +kernel
theorem dL_law_927 : decode cL_law 927 = .ok (.invokevirtual 100, 3) := by decide +kernel
theorem dL_law_930 : decode cL_law 930 = .ok (.aload_n 2, 1) := by decide +kernel
theorem dL_law_931 : decode cL_law 931 = .ok (.invokevirtual 103, 3) := by decide +kernel
theorem dL_law_934 : decode cL_law 934 = .ok (.if_icmp .eq 28, 3) := by decide +kernel
theorem dL_law_937 : decode cL_law 937 = .ok (.iconst 0, 1) := by decide +kernel
theorem dL_law_938 : decode cL_law 938 = .ok (.ireturn, 1) := by decide +kernel
theorem dL_law_939 : decode cL_law 939 = .ok (.aload_n 1, 1) := by decide +kernel
theorem dL_law_940 : decode cL_law 940 = .ok (.aload_n 0, 1) := by decide +kernel
theorem dL_law_941 : decode cL_law 941 = .ok (.iload_n 3, 1) := by decide +kernel
theorem dL_law_942 : decode cL_law 942 = .ok (.iconst 1, 1) := by decide +kernel
theorem dL_law_943 : decode cL_law 943 = .ok (.iadd, 1) := by decide +kernel
theorem dL_law_944 : decode cL_law 944 = .ok (.iaload, 1) := by decide +kernel
theorem dL_law_945 : decode cL_law 945 = .ok (.invokevirtual 104, 3) := by decide +kernel
theorem dL_law_948 : decode cL_law 948 = .ok (.aload_n 2, 1) := by decide +kernel
theorem dL_law_949 : decode cL_law 949 = .ok (.aload_n 0, 1) := by decide +kernel
theorem dL_law_950 : decode cL_law 950 = .ok (.iload_n 3, 1) := by decide +kernel
theorem dL_law_951 : decode cL_law 951 = .ok (.iconst 1, 1) := by decide +kernel
theorem dL_law_952 : decode cL_law 952 = .ok (.iadd, 1) := by decide +kernel
theorem dL_law_953 : decode cL_law 953 = .ok (.iaload, 1) := by decide +kernel
theorem dL_law_954 : decode cL_law 954 = .ok (.invokevirtual 107, 3) := by decide +kernel
theorem dL_law_957 : decode cL_law 957 = .ok (.if_icmp .eq 5, 3) := by decide +kernel
theorem dL_law_960 : decode cL_law 960 = .ok (.iconst 0, 1) := by decide +kernel
theorem dL_law_961 : decode cL_law 961 = .ok (.ireturn, 1) := by decide +kernel
theorem dL_law_962 : decode cL_law 962 = .ok (.iinc 3 5, 3) := by decide +kernel
theorem dL_law_965 : decode cL_law 965 = .ok (.goto (-947), 3) := by decide +kernel
theorem dL_law_968 : decode cL_law 968 = .ok (.iconst 1, 1) := by decide +kernel
theorem dL_law_969 : decode cL_law 969 = .ok (.ireturn, 1) := by decide +kernel
end
section
theorem dJ11_isValidCodePoint_9a6ad_0 : decode cJ11_isValidCodePoint_9a6ad 0 = .ok (.iload_n 0, 1) := by decide +kernel
theorem dJ11_isValidCodePoint_9a6ad_1 : decode cJ11_isValidCodePoint_9a6ad 1 = .ok (.bipush 16, 2) := by decide +kernel
theorem dJ11_isValidCodePoint_9a6ad_3 : decode cJ11_isValidCodePoint_9a6ad 3 = .ok (.iushr, 1) := by decide +kernel
theorem dJ11_isValidCodePoint_9a6ad_4 : decode cJ11_isValidCodePoint_9a6ad 4 = .ok (.istore_n 1, 1) := by decide +kernel
theorem dJ11_isValidCodePoint_9a6ad_5 : decode cJ11_isValidCodePoint_9a6ad 5 = .ok (.iload_n 1, 1) := by decide +kernel
theorem dJ11_isValidCodePoint_9a6ad_6 : decode cJ11_isValidCodePoint_9a6ad 6 = .ok (.bipush 17, 2) := by decide +kernel
theorem dJ11_isValidCodePoint_9a6ad_8 : decode cJ11_isValidCodePoint_9a6ad 8 = .ok (.if_icmp .ge 7, 3) := by decide +kernel
theorem dJ11_isValidCodePoint_9a6ad_11 : decode cJ11_isValidCodePoint_9a6ad 11 = .ok (.iconst 1, 1) := by decide +kernel
theorem dJ11_isValidCodePoint_9a6ad_12 : decode cJ11_isValidCodePoint_9a6ad 12 = .ok (.goto 4, 3) := by decide +kernel
theorem dJ11_isValidCodePoint_9a6ad_15 : decode cJ11_isValidCodePoint_9a6ad 15 = .ok (.iconst 0, 1) := by decide +kernel
theorem dJ11_isValidCodePoint_9a6ad_16 : decode cJ11_isValidCodePoint_9a6ad 16 = .ok (.ireturn, 1) := by decide +kernel
theorem dJ11_highSurrogate_5068e_0 : decode cJ11_highSurrogate_5068e 0 = .ok (.iload_n 0, 1) := by decide +kernel
theorem dJ11_highSurrogate_5068e_1 : decode cJ11_highSurrogate_5068e 1 = .ok (.bipush 10, 2) := by decide +kernel
theorem dJ11_highSurrogate_5068e_3 : decode cJ11_highSurrogate_5068e 3 = .ok (.iushr, 1) := by decide +kernel
theorem dJ11_highSurrogate_5068e_4 : decode cJ11_highSurrogate_5068e 4 = .ok (.ldc 110, 2) := by decide +kernel
theorem dJ11_highSurrogate_5068e_6 : decode cJ11_highSurrogate_5068e 6 = .ok (.iadd, 1) := by decide +kernel
theorem dJ11_highSurrogate_5068e_7 : decode cJ11_highSurrogate_5068e 7 = .ok (.i2c, 1) := by decide +kernel
theorem dJ11_highSurrogate_5068e_8 : decode cJ11_highSurrogate_5068e 8 = .ok (.ireturn, 1) := by decide +kernel
theorem dJ11_lowSurrogate_5068e_0 : decode cJ11_lowSurrogate_5068e 0 = .ok (.iload_n 0, 1) := by decide +kernel
theorem dJ11_lowSurrogate_5068e_1 : decode cJ11_lowSurrogate_5068e 1 = .ok (.sipush 1023, 3) := by decide +kernel
theorem dJ11_lowSurrogate_5068e_4 : decode cJ11_lowSurrogate_5068e 4 = .ok (.iand, 1) := by decide +kernel
theorem dJ11_lowSurrogate_5068e_5 : decode cJ11_lowSurrogate_5068e 5 = .ok (.ldc 76, 2) := by decide +kernel
theorem dJ11_lowSurrogate_5068e_7 : decode cJ11_lowSurrogate_5068e 7 = .ok (.iadd, 1) := by decide +kernel
theorem dJ11_lowSurrogate_5068e_8 : decode cJ11_lowSurrogate_5068e 8 = .ok (.i2c, 1) := by decide +kernel
theorem dJ11_lowSurrogate_5068e_9 : decode cJ11_lowSurrogate_5068e 9 = .ok (.ireturn, 1) := by decide +kernel
theorem dJ9_floorDiv_f86c9_0 : decode cJ9_floorDiv_f86c9 0 = .ok (.lload_n 0, 1) := by decide +kernel
theorem dJ9_floorDiv_f86c9_1 : decode cJ9_floorDiv_f86c9 1 = .ok (.lload_n 2, 1) := by decide +kernel
theorem dJ9_floorDiv_f86c9_2 : decode cJ9_floorDiv_f86c9 2 = .ok (.ldiv, 1) := by decide +kernel
theorem dJ9_floorDiv_f86c9_3 : decode cJ9_floorDiv_f86c9 3 = .ok (.lstore 4, 2) := by decide +kernel
theorem dJ9_floorDiv_f86c9_5 : decode cJ9_floorDiv_f86c9 5 = .ok (.lload_n 0, 1) := by decide +kernel
theorem dJ9_floorDiv_f86c9_6 : decode cJ9_floorDiv_f86c9 6 = .ok (.lload_n 2, 1) := by decide +kernel
theorem dJ9_floorDiv_f86c9_7 : decode cJ9_floorDiv_f86c9 7 = .ok (.lxor, 1) := by decide +kernel
theorem dJ9_floorDiv_f86c9_8 : decode cJ9_floorDiv_f86c9 8 = .ok (.lconst 0, 1) := by decide +kernel
theorem dJ9_floorDiv_f86c9_9 : decode cJ9_floorDiv_f86c9 9 = .ok (.lcmp, 1) := by decide +kernel
theorem dJ9_floorDiv_f86c9_10 : decode cJ9_floorDiv_f86c9 10 = .ok (.ifCond .ge 17, 3) := by decide +kernel
theorem dJ9_floorDiv_f86c9_13 : decode cJ9_floorDiv_f86c9 13 = .ok (.lload 4, 2) := by decide +kernel
theorem dJ9_floorDiv_f86c9_15 : decode cJ9_floorDiv_f86c9 15 = .ok (.lload_n 2, 1) := by decide +kernel
theorem dJ9_floorDiv_f86c9_16 : decode cJ9_floorDiv_f86c9 16 = .ok (.lmul, 1) := by decide +kernel
theorem dJ9_floorDiv_f86c9_17 : decode cJ9_floorDiv_f86c9 17 = .ok (.lload_n 0, 1) := by decide +kernel
theorem dJ9_floorDiv_f86c9_18 : decode cJ9_floorDiv_f86c9 18 = .ok (.lcmp, 1) := by decide +kernel
theorem dJ9_floorDiv_f86c9_19 : decode cJ9_floorDiv_f86c9 19 = .ok (.ifCond .eq 8, 3) := by decide +kernel
theorem dJ9_floorDiv_f86c9_22 : decode cJ9_floorDiv_f86c9 22 = .ok (.lload 4, 2) := by decide +kernel
theorem dJ9_floorDiv_f86c9_24 : decode cJ9_floorDiv_f86c9 24 = .ok (.lconst 1, 1) := by decide +kernel
theorem dJ9_floorDiv_f86c9_25 : decode cJ9_floorDiv_f86c9 25 = .ok (.lsub, 1) := by decide +kernel
theorem dJ9_floorDiv_f86c9_26 : decode cJ9_floorDiv_f86c9 26 = .ok (.lreturn, 1) := by decide +kernel
theorem dJ9_floorDiv_f86c9_27 : decode cJ9_floorDiv_f86c9 27 = .ok (.lload 4, 2) := by decide +kernel
theorem dJ9_floorDiv_f86c9_29 : decode cJ9_floorDiv_f86c9 29 = .ok (.lreturn, 1) := by decide +kernel
theorem dJ9_max_7cf53_0 : decode cJ9_max_7cf53 0 = .ok (.iload_n 0, 1) := by decide +kernel
theorem dJ9_max_7cf53_1 : decode cJ9_max_7cf53 1 = .ok (.iload_n 1, 1) := by decide +kernel
theorem dJ9_max_7cf53_2 : decode cJ9_max_7cf53 2 = .ok (.if_icmp .lt 7, 3) := by decide +kernel
theorem dJ9_max_7cf53_5 : decode cJ9_max_7cf53 5 = .ok (.iload_n 0, 1) := by decide +kernel
theorem dJ9_max_7cf53_6 : decode cJ9_max_7cf53 6 = .ok (.goto 4, 3) := by decide +kernel
theorem dJ9_max_7cf53_9 : decode cJ9_max_7cf53 9 = .ok (.iload_n 1, 1) := by decide +kernel
theorem dJ9_max_7cf53_10 : decode cJ9_max_7cf53 10 = .ok (.ireturn, 1) := by decide +kernel
theorem dJ9_max_f86c9_0 : decode cJ9_max_f86c9 0 = .ok (.lload_n 0, 1) := by decide +kernel
theorem dJ9_max_f86c9_1 : decode cJ9_max_f86c9 1 = .ok (.lload_n 2, 1) := by decide +kernel
theorem dJ9_max_f86c9_2 : decode cJ9_max_f86c9 2 = .ok (.lcmp, 1) := by decide +kernel
theorem dJ9_max_f86c9_3 : decode cJ9_max_f86c9 3 = .ok (.ifCond .lt 7, 3) := by decide +kernel
theorem dJ9_max_f86c9_6 : decode cJ9_max_f86c9 6 = .ok (.lload_n 0, 1) := by decide +kernel
theorem dJ9_max_f86c9_7 : decode cJ9_max_f86c9 7 = .ok (.goto 4, 3) := by decide +kernel
theorem dJ9_max_f86c9_10 : decode cJ9_max_f86c9 10 = .ok (.lload_n 2, 1) := by decide +kernel
theorem dJ9_max_f86c9_11 : decode cJ9_max_f86c9 11 = .ok (.lreturn, 1) := by decide +kernel
theorem dJ9_min_7cf53_0 : decode cJ9_min_7cf53 0 = .ok (.iload_n 0, 1) := by decide +kernel
theorem dJ9_min_7cf53_1 : decode cJ9_min_7cf53 1 = .ok (.iload_n 1, 1) := by decide +kernel
theorem dJ9_min_7cf53_2 : decode cJ9_min_7cf53 2 = .ok (.if_icmp .gt 7, 3) := by decide +kernel
theorem dJ9_min_7cf53_5 : decode cJ9_min_7cf53 5 = .ok (.iload_n 0, 1) := by decide +kernel
theorem dJ9_min_7cf53_6 : decode cJ9_min_7cf53 6 = .ok (.goto 4, 3) := by decide +kernel
theorem dJ9_min_7cf53_9 : decode cJ9_min_7cf53 9 = .ok (.iload_n 1, 1) := by decide +kernel
theorem dJ9_min_7cf53_10 : decode cJ9_min_7cf53 10 = .ok (.ireturn, 1) := by decide +kernel
theorem dJ9_min_f86c9_0 : decode cJ9_min_f86c9 0 = .ok (.lload_n 0, 1) := by decide +kernel
theorem dJ9_min_f86c9_1 : decode cJ9_min_f86c9 1 = .ok (.lload_n 2, 1) := by decide +kernel
theorem dJ9_min_f86c9_2 : decode cJ9_min_f86c9 2 = .ok (.lcmp, 1) := by decide +kernel
theorem dJ9_min_f86c9_3 : decode cJ9_min_f86c9 3 = .ok (.ifCond .gt 7, 3) := by decide +kernel
theorem dJ9_min_f86c9_6 : decode cJ9_min_f86c9 6 = .ok (.lload_n 0, 1) := by decide +kernel
theorem dJ9_min_f86c9_7 : decode cJ9_min_f86c9 7 = .ok (.goto 4, 3) := by decide +kernel
theorem dJ9_min_f86c9_10 : decode cJ9_min_f86c9 10 = .ok (.lload_n 2, 1) := by decide +kernel
theorem dJ9_min_f86c9_11 : decode cJ9_min_f86c9 11 = .ok (.lreturn, 1) := by decide +kernel
theorem dJ0_length_8abf5_0 : decode cJ0_length_8abf5 0 = .ok (.aload_n 0, 1) := by decide +kernel
theorem dJ0_length_8abf5_1 : decode cJ0_length_8abf5 1 = .ok (.getfield 9, 3) := by decide +kernel
theorem dJ0_length_8abf5_4 : decode cJ0_length_8abf5 4 = .ok (.arraylength, 1) := by decide +kernel
theorem dJ0_length_8abf5_5 : decode cJ0_length_8abf5 5 = .ok (.aload_n 0, 1) := by decide +kernel
theorem dJ0_length_8abf5_6 : decode cJ0_length_8abf5 6 = .ok (.invokevirtual 335, 3) := by decide +kernel
theorem dJ0_length_8abf5_9 : decode cJ0_length_8abf5 9 = .ok (.ishr, 1) := by decide +kernel
theorem dJ0_length_8abf5_10 : decode cJ0_length_8abf5 10 = .ok (.ireturn, 1) := by decide +kernel
theorem dJ0_indexOf_0f7a4_0 : decode cJ0_indexOf_0f7a4 0 = .ok (.aload_n 0, 1) := by decide +kernel
theorem dJ0_indexOf_0f7a4_1 : decode cJ0_indexOf_0f7a4 1 = .ok (.iload_n 1, 1) := by decide +kernel
theorem dJ0_indexOf_0f7a4_2 : decode cJ0_indexOf_0f7a4 2 = .ok (.iconst 0, 1) := by decide +kernel
theorem dJ0_indexOf_0f7a4_3 : decode cJ0_indexOf_0f7a4 3 = .ok (.invokevirtual 633, 3) := by decide +kernel
theorem dJ0_indexOf_0f7a4_6 : decode cJ0_indexOf_0f7a4 6 = .ok (.ireturn, 1) := by decide +kernel
theorem dJ0_indexOf_7cf53_0 : decode cJ0_indexOf_7cf53 0 = .ok (.aload_n 0, 1) := by decide +kernel
theorem dJ0_indexOf_7cf53_1 : decode cJ0_indexOf_7cf53 1 = .ok (.invokevirtual 492, 3) := by decide +kernel
theorem dJ0_indexOf_7cf53_4 : decode cJ0_indexOf_7cf53 4 = .ok (.ifCond .eq 19, 3) := by decide +kernel
theorem dJ0_indexOf_7cf53_7 : decode cJ0_indexOf_7cf53 7 = .ok (.aload_n 0, 1) := by decide +kernel
theorem dJ0_indexOf_7cf53_8 : decode cJ0_indexOf_7cf53 8 = .ok (.getfield 9, 3) := by decide +kernel
theorem dJ0_indexOf_7cf53_11 : decode cJ0_indexOf_7cf53 11 = .ok (.iload_n 1, 1) := by decide +kernel
theorem dJ0_indexOf_7cf53_12 : decode cJ0_indexOf_7cf53 12 = .ok (.iload_n 2, 1) := by decide +kernel
theorem dJ0_indexOf_7cf53_13 : decode cJ0_indexOf_7cf53 13 = .ok (.aload_n 0, 1) := by decide +kernel
theorem dJ0_indexOf_7cf53_14 : decode cJ0_indexOf_7cf53 14 = .ok (.invokevirtual 505, 3) := by decide +kernel
theorem dJ0_indexOf_7cf53_17 : decode cJ0_indexOf_7cf53 17 = .ok (.invokestatic 637, 3) := by decide +kernel
theorem dJ0_indexOf_7cf53_20 : decode cJ0_indexOf_7cf53 20 = .ok (.goto 16, 3) := by decide +kernel
theorem dJ0_indexOf_7cf53_23 : decode cJ0_indexOf_7cf53 23 = .ok (.aload_n 0, 1) := by decide +kernel
theorem dJ0_indexOf_7cf53_24 : decode cJ0_indexOf_7cf53 24 = .ok (.getfield 9, 3) := by decide +kernel
theorem dJ0_indexOf_7cf53_27 : decode cJ0_indexOf_7cf53 27 = .ok (.iload_n 1, 1) := by decide +kernel
theorem dJ0_indexOf_7cf53_28 : decode cJ0_indexOf_7cf53 28 = .ok (.iload_n 2, 1) := by decide +kernel
theorem dJ0_indexOf_7cf53_29 : decode cJ0_indexOf_7cf53 29 = .ok (.aload_n 0, 1) := by decide +kernel
theorem dJ0_indexOf_7cf53_30 : decode cJ0_indexOf_7cf53 30 = .ok (.invokevirtual 505, 3) := by decide +kernel
theorem dJ0_indexOf_7cf53_33 : decode cJ0_indexOf_7cf53 33 = .ok (.invokestatic 640, 3) := by decide +kernel
theorem dJ0_indexOf_7cf53_36 : decode cJ0_indexOf_7cf53 36 = .ok (.ireturn, 1) := by decide +kernel
theorem dJ0_coder_7d493_0 : decode cJ0_coder_7d493 0 = .ok (.getstatic 38, 3) := by decide +kernel
theorem dJ0_coder_7d493_3 : decode cJ0_coder_7d493 3 = .ok (.ifCond .eq 10, 3) := by decide +kernel
theorem dJ0_coder_7d493_6 : decode cJ0_coder_7d493 6 = .ok (.aload_n 0, 1) := by decide +kernel
theorem dJ0_coder_7d493_7 : decode cJ0_coder_7d493 7 = .ok (.getfield 15, 3) := by decide +kernel
theorem dJ0_coder_7d493_10 : decode cJ0_coder_7d493 10 = .ok (.goto 4, 3) := by decide +kernel
theorem dJ0_coder_7d493_13 : decode cJ0_coder_7d493 13 = .ok (.iconst 1, 1) := by decide +kernel
theorem dJ0_coder_7d493_14 : decode cJ0_coder_7d493 14 = .ok (.ireturn, 1) := by decide +kernel
theorem dJ0_isLatin1_aae02_0 : decode cJ0_isLatin1_aae02 0 = .ok (.getstatic 38, 3) := by decide +kernel
theorem dJ0_isLatin1_aae02_3 : decode cJ0_isLatin1_aae02 3 = .ok (.ifCond .eq 14, 3) := by decide +kernel
theorem dJ0_isLatin1_aae02_6 : decode cJ0_isLatin1_aae02 6 = .ok (.aload_n 0, 1) := by decide +kernel
theorem dJ0_isLatin1_aae02_7 : decode cJ0_isLatin1_aae02 7 = .ok (.getfield 15, 3) := by decide +kernel
theorem dJ0_isLatin1_aae02_10 : decode cJ0_isLatin1_aae02 10 = .ok (.ifCond .ne 7, 3) := by decide +kernel
theorem dJ0_isLatin1_aae02_13 : decode cJ0_isLatin1_aae02 13 = .ok (.iconst 1, 1) := by decide +kernel
theorem dJ0_isLatin1_aae02_14 : decode cJ0_isLatin1_aae02 14 = .ok (.goto 4, 3) := by decide +kernel
theorem dJ0_isLatin1_aae02_17 : decode cJ0_isLatin1_aae02 17 = .ok (.iconst 0, 1) := by decide +kernel
theorem dJ0_isLatin1_aae02_18 : decode cJ0_isLatin1_aae02 18 = .ok (.ireturn, 1) := by decide +kernel
theorem dJ0_checkBoundsBeginEnd_23922_0 : decode cJ0_checkBoundsBeginEnd_23922 0 = .ok (.iload_n 0, 1) := by decide +kernel
theorem dJ0_checkBoundsBeginEnd_23922_1 : decode cJ0_checkBoundsBeginEnd_23922 1 = .ok (.iload_n 1, 1) := by decide +kernel
theorem dJ0_checkBoundsBeginEnd_23922_2 : decode cJ0_checkBoundsBeginEnd_23922 2 = .ok (.iload_n 2, 1) := by decide +kernel
theorem dJ0_checkBoundsBeginEnd_23922_3 : decode cJ0_checkBoundsBeginEnd_23922 3 = .ok (.getstatic 1053, 3) := by decide +kernel
theorem dJ0_checkBoundsBeginEnd_23922_6 : decode cJ0_checkBoundsBeginEnd_23922 6 = .ok (.invokestatic 1062, 3) := by decide +kernel
theorem dJ0_checkBoundsBeginEnd_23922_9 : decode cJ0_checkBoundsBeginEnd_23922 9 = .ok (.pop, 1) := by decide +kernel
theorem dJ0_checkBoundsBeginEnd_23922_10 : decode cJ0_checkBoundsBeginEnd_23922 10 = .ok (.return_, 1) := by decide +kernel
theorem dJ1_canEncode_9a6ad_0 : decode cJ1_canEncode_9a6ad 0 = .ok (.iload_n 0, 1) := by decide +kernel
theorem dJ1_canEncode_9a6ad_1 : decode cJ1_canEncode_9a6ad 1 = .ok (.ifCond .lt 14, 3) := by decide +kernel
theorem dJ1_canEncode_9a6ad_4 : decode cJ1_canEncode_9a6ad 4 = .ok (.iload_n 0, 1) := by decide +kernel
theorem dJ1_canEncode_9a6ad_5 : decode cJ1_canEncode_9a6ad 5 = .ok (.sipush 255, 3) := by decide +kernel
theorem dJ1_canEncode_9a6ad_8 : decode cJ1_canEncode_9a6ad 8 = .ok (.if_icmp .gt 7, 3) := by decide +kernel
theorem dJ1_canEncode_9a6ad_11 : decode cJ1_canEncode_9a6ad 11 = .ok (.iconst 1, 1) := by decide +kernel
theorem dJ1_canEncode_9a6ad_12 : decode cJ1_canEncode_9a6ad 12 = .ok (.goto 4, 3) := by decide +kernel
theorem dJ1_canEncode_9a6ad_15 : decode cJ1_canEncode_9a6ad 15 = .ok (.iconst 0, 1) := by decide +kernel
theorem dJ1_canEncode_9a6ad_16 : decode cJ1_canEncode_9a6ad 16 = .ok (.ireturn, 1) := by decide +kernel
theorem dJ1_indexOf_4cfef_0 : decode cJ1_indexOf_4cfef 0 = .ok (.iload_n 1, 1) := by decide +kernel
theorem dJ1_indexOf_4cfef_1 : decode cJ1_indexOf_4cfef 1 = .ok (.invokestatic 88, 3) := by decide +kernel
theorem dJ1_indexOf_4cfef_4 : decode cJ1_indexOf_4cfef 4 = .ok (.ifCond .ne 5, 3) := by decide +kernel
theorem dJ1_indexOf_4cfef_7 : decode cJ1_indexOf_4cfef 7 = .ok (.iconst (-1), 1) := by decide +kernel
theorem dJ1_indexOf_4cfef_8 : decode cJ1_indexOf_4cfef 8 = .ok (.ireturn, 1) := by decide +kernel
theorem dJ1_indexOf_4cfef_9 : decode cJ1_indexOf_4cfef 9 = .ok (.iload_n 2, 1) := by decide +kernel
theorem dJ1_indexOf_4cfef_10 : decode cJ1_indexOf_4cfef 10 = .ok (.iconst 0, 1) := by decide +kernel
theorem dJ1_indexOf_4cfef_11 : decode cJ1_indexOf_4cfef 11 = .ok (.invokestatic 92, 3) := by decide +kernel
theorem dJ1_indexOf_4cfef_14 : decode cJ1_indexOf_4cfef 14 = .ok (.istore_n 2, 1) := by decide +kernel
theorem dJ1_indexOf_4cfef_15 : decode cJ1_indexOf_4cfef 15 = .ok (.iload_n 3, 1) := by decide +kernel
theorem dJ1_indexOf_4cfef_16 : decode cJ1_indexOf_4cfef 16 = .ok (.aload_n 0, 1) := by decide +kernel
theorem dJ1_indexOf_4cfef_17 : decode cJ1_indexOf_4cfef 17 = .ok (.arraylength, 1) := by decide +kernel
theorem dJ1_indexOf_4cfef_18 : decode cJ1_indexOf_4cfef 18 = .ok (.invokestatic 38, 3) := by decide +kernel
theorem dJ1_indexOf_4cfef_21 : decode cJ1_indexOf_4cfef 21 = .ok (.istore_n 3, 1) := by decide +kernel
theorem dJ1_indexOf_4cfef_22 : decode cJ1_indexOf_4cfef 22 = .ok (.iload_n 2, 1) := by decide +kernel
theorem dJ1_indexOf_4cfef_23 : decode cJ1_indexOf_4cfef 23 = .ok (.iload_n 3, 1) := by decide +kernel
theorem dJ1_indexOf_4cfef_24 : decode cJ1_indexOf_4cfef 24 = .ok (.if_icmp .lt 5, 3) := by decide +kernel
theorem dJ1_indexOf_4cfef_27 : decode cJ1_indexOf_4cfef 27 = .ok (.iconst (-1), 1) := by decide +kernel
theorem dJ1_indexOf_4cfef_28 : decode cJ1_indexOf_4cfef 28 = .ok (.ireturn, 1) := by decide +kernel
theorem dJ1_indexOf_4cfef_29 : decode cJ1_indexOf_4cfef 29 = .ok (.aload_n 0, 1) := by decide +kernel
theorem dJ1_indexOf_4cfef_30 : decode cJ1_indexOf_4cfef 30 = .ok (.iload_n 1, 1) := by decide +kernel
theorem dJ1_indexOf_4cfef_31 : decode cJ1_indexOf_4cfef 31 = .ok (.iload_n 2, 1) := by decide +kernel
theorem dJ1_indexOf_4cfef_32 : decode cJ1_indexOf_4cfef 32 = .ok (.iload_n 3, 1) := by decide +kernel
theorem dJ1_indexOf_4cfef_33 : decode cJ1_indexOf_4cfef 33 = .ok (.invokestatic 95, 3) := by decide +kernel
theorem dJ1_indexOf_4cfef_36 : decode cJ1_indexOf_4cfef 36 = .ok (.ireturn, 1) := by decide +kernel
theorem dJ1_indexOfChar_4cfef_0 : decode cJ1_indexOfChar_4cfef 0 = .ok (.iload_n 1, 1) := by decide +kernel
theorem dJ1_indexOfChar_4cfef_1 : decode cJ1_indexOfChar_4cfef 1 = .ok (.i2b, 1) := by decide +kernel
theorem dJ1_indexOfChar_4cfef_2 : decode cJ1_indexOfChar_4cfef 2 = .ok (.istore 4, 2) := by decide +kernel
theorem dJ1_indexOfChar_4cfef_4 : decode cJ1_indexOfChar_4cfef 4 = .ok (.iload_n 2, 1) := by decide +kernel
theorem dJ1_indexOfChar_4cfef_5 : decode cJ1_indexOfChar_4cfef 5 = .ok (.istore 5, 2) := by decide +kernel
theorem dJ1_indexOfChar_4cfef_7 : decode cJ1_indexOfChar_4cfef 7 = .ok (.iload 5, 2) := by decide +kernel
theorem dJ1_indexOfChar_4cfef_9 : decode cJ1_indexOfChar_4cfef 9 = .ok (.iload_n 3, 1) := by decide +kernel
theorem dJ1_indexOfChar_4cfef_10 : decode cJ1_indexOfChar_4cfef 10 = .ok (.if_icmp .ge 21, 3) := by decide +kernel
theorem dJ1_indexOfChar_4cfef_13 : decode cJ1_indexOfChar_4cfef 13 = .ok (.aload_n 0, 1) := by decide +kernel
theorem dJ1_indexOfChar_4cfef_14 : decode cJ1_indexOfChar_4cfef 14 = .ok (.iload 5, 2) := by decide +kernel
theorem dJ1_indexOfChar_4cfef_16 : decode cJ1_indexOfChar_4cfef 16 = .ok (.baload, 1) := by decide +kernel
theorem dJ1_indexOfChar_4cfef_17 : decode cJ1_indexOfChar_4cfef 17 = .ok (.iload 4, 2) := by decide +kernel
theorem dJ1_indexOfChar_4cfef_19 : decode cJ1_indexOfChar_4cfef 19 = .ok (.if_icmp .ne 6, 3) := by decide +kernel
theorem dJ1_indexOfChar_4cfef_22 : decode cJ1_indexOfChar_4cfef 22 = .ok (.iload 5, 2) := by decide +kernel
theorem dJ1_indexOfChar_4cfef_24 : decode cJ1_indexOfChar_4cfef 24 = .ok (.ireturn, 1) := by decide +kernel
theorem dJ1_indexOfChar_4cfef_25 : decode cJ1_indexOfChar_4cfef 25 = .ok (.iinc 5 1, 3) := by decide +kernel
theorem dJ1_indexOfChar_4cfef_28 : decode cJ1_indexOfChar_4cfef 28 = .ok (.goto (-21), 3) := by decide +kernel
theorem dJ1_indexOfChar_4cfef_31 : decode cJ1_indexOfChar_4cfef 31 = .ok (.iconst (-1), 1) := by decide +kernel
theorem dJ1_indexOfChar_4cfef_32 : decode cJ1_indexOfChar_4cfef 32 = .ok (.ireturn, 1) := by decide +kernel
theorem dJ2_getChar_3b067_0 : decode cJ2_getChar_3b067 0 = .ok (.getstatic 44, 3) := by decide +kernel
theorem dJ2_getChar_3b067_3 : decode cJ2_getChar_3b067 3 = .ok (.ifCond .ne 25, 3) := by decide +kernel
theorem dJ2_getChar_3b067_6 : decode cJ2_getChar_3b067 6 = .ok (.iload_n 1, 1) := by decide +kernel
theorem dJ2_getChar_3b067_7 : decode cJ2_getChar_3b067 7 = .ok (.ifCond .lt 11, 3) := by decide +kernel
theorem dJ2_getChar_3b067_10 : decode cJ2_getChar_3b067 10 = .ok (.iload_n 1, 1) := by decide +kernel
theorem dJ2_getChar_3b067_11 : decode cJ2_getChar_3b067 11 = .ok (.aload_n 0, 1) := by decide +kernel
theorem dJ2_getChar_3b067_12 : decode cJ2_getChar_3b067 12 = .ok (.invokestatic 48, 3) := by decide +kernel
theorem dJ2_getChar_3b067_15 : decode cJ2_getChar_3b067 15 = .ok (.if_icmp .lt 13, 3) := by decide +kernel
theorem dJ2_getChar_3b067_18 : decode cJ2_getChar_3b067 18 = .ok (.new 52, 3) := by decide +kernel
theorem dJ2_getChar_3b067_21 : decode cJ2_getChar_3b067 21 = .ok (.dup, 1) := by decide +kernel
theorem dJ2_getChar_3b067_22 : decode cJ2_getChar_3b067 22 = .ok (.ldc 54, 2) := by decide +kernel
theorem dJ2_getChar_3b067_24 : decode cJ2_getChar_3b067 24 = .ok (.invokespecial 56, 3) := by decide +kernel
theorem dJ2_getChar_3b067_27 : decode cJ2_getChar_3b067 27 = .ok (.athrow, 1) := by decide +kernel
theorem dJ2_getChar_3b067_28 : decode cJ2_getChar_3b067 28 = .ok (.iload_n 1, 1) := by decide +kernel
theorem dJ2_getChar_3b067_29 : decode cJ2_getChar_3b067 29 = .ok (.iconst 1, 1) := by decide +kernel
theorem dJ2_getChar_3b067_30 : decode cJ2_getChar_3b067 30 = .ok (.ishl, 1) := by decide +kernel
theorem dJ2_getChar_3b067_31 : decode cJ2_getChar_3b067 31 = .ok (.istore_n 1, 1) := by decide +kernel
theorem dJ2_getChar_3b067_32 : decode cJ2_getChar_3b067 32 = .ok (.aload_n 0, 1) := by decide +kernel
theorem dJ2_getChar_3b067_33 : decode cJ2_getChar_3b067 33 = .ok (.iload_n 1, 1) := by decide +kernel
theorem dJ2_getChar_3b067_34 : decode cJ2_getChar_3b067 34 = .ok (.iinc 1 1, 3) := by decide +kernel
theorem dJ2_getChar_3b067_37 : decode cJ2_getChar_3b067 37 = .ok (.baload, 1) := by decide +kernel
theorem dJ2_getChar_3b067_38 : decode cJ2_getChar_3b067 38 = .ok (.sipush 255, 3) := by decide +kernel
theorem dJ2_getChar_3b067_41 : decode cJ2_getChar_3b067 41 = .ok (.iand, 1) := by decide +kernel
theorem dJ2_getChar_3b067_42 : decode cJ2_getChar_3b067 42 = .ok (.getstatic 59, 3) := by decide +kernel
theorem dJ2_getChar_3b067_45 : decode cJ2_getChar_3b067 45 = .ok (.ishl, 1) := by decide +kernel
theorem dJ2_getChar_3b067_46 : decode cJ2_getChar_3b067 46 = .ok (.aload_n 0, 1) := by decide +kernel
theorem dJ2_getChar_3b067_47 : decode cJ2_getChar_3b067 47 = .ok (.iload_n 1, 1) := by decide +kernel
theorem dJ2_getChar_3b067_48 : decode cJ2_getChar_3b067 48 = .ok (.baload, 1) := by decide +kernel
theorem dJ2_getChar_3b067_49 : decode cJ2_getChar_3b067 49 = .ok (.sipush 255, 3) := by decide +kernel
theorem dJ2_getChar_3b067_52 : decode cJ2_getChar_3b067 52 = .ok (.iand, 1) := by decide +kernel
theorem dJ2_getChar_3b067_53 : decode cJ2_getChar_3b067 53 = .ok (.getstatic 63, 3) := by decide +kernel
theorem dJ2_getChar_3b067_56 : decode cJ2_getChar_3b067 56 = .ok (.ishl, 1) := by decide +kernel
theorem dJ2_getChar_3b067_57 : decode cJ2_getChar_3b067 57 = .ok (.ior, 1) := by decide +kernel
theorem dJ2_getChar_3b067_58 : decode cJ2_getChar_3b067 58 = .ok (.i2c, 1) := by decide +kernel
theorem dJ2_getChar_3b067_59 : decode cJ2_getChar_3b067 59 = .ok (.ireturn, 1) := by decide +kernel
theorem dJ2_length_9d52b_0 : decode cJ2_length_9d52b 0 = .ok (.aload_n 0, 1) := by decide +kernel
theorem dJ2_length_9d52b_1 : decode cJ2_length_9d52b 1 = .ok (.arraylength, 1) := by decide +kernel
theorem dJ2_length_9d52b_2 : decode cJ2_length_9d52b 2 = .ok (.iconst 1, 1) := by decide +kernel
theorem dJ2_length_9d52b_3 : decode cJ2_length_9d52b 3 = .ok (.ishr, 1) := by decide +kernel
theorem dJ2_length_9d52b_4 : decode cJ2_length_9d52b 4 = .ok (.ireturn, 1) := by decide +kernel
theorem dJ2_indexOf_4cfef_0 : decode cJ2_indexOf_4cfef 0 = .ok (.iload_n 2, 1) := by decide +kernel
theorem dJ2_indexOf_4cfef_1 : decode cJ2_indexOf_4cfef 1 = .ok (.iconst 0, 1) := by decide +kernel
theorem dJ2_indexOf_4cfef_2 : decode cJ2_indexOf_4cfef 2 = .ok (.invokestatic 224, 3) := by decide +kernel
theorem dJ2_indexOf_4cfef_5 : decode cJ2_indexOf_4cfef 5 = .ok (.istore_n 2, 1) := by decide +kernel
theorem dJ2_indexOf_4cfef_6 : decode cJ2_indexOf_4cfef 6 = .ok (.iload_n 3, 1) := by decide +kernel
theorem dJ2_indexOf_4cfef_7 : decode cJ2_indexOf_4cfef 7 = .ok (.aload_n 0, 1) := by decide +kernel
theorem dJ2_indexOf_4cfef_8 : decode cJ2_indexOf_4cfef 8 = .ok (.arraylength, 1) := by decide +kernel
theorem dJ2_indexOf_4cfef_9 : decode cJ2_indexOf_4cfef 9 = .ok (.iconst 1, 1) := by decide +kernel
theorem dJ2_indexOf_4cfef_10 : decode cJ2_indexOf_4cfef 10 = .ok (.ishr, 1) := by decide +kernel
theorem dJ2_indexOf_4cfef_11 : decode cJ2_indexOf_4cfef 11 = .ok (.invokestatic 183, 3) := by decide +kernel
theorem dJ2_indexOf_4cfef_14 : decode cJ2_indexOf_4cfef 14 = .ok (.istore_n 3, 1) := by decide +kernel
theorem dJ2_indexOf_4cfef_15 : decode cJ2_indexOf_4cfef 15 = .ok (.iload_n 2, 1) := by decide +kernel
theorem dJ2_indexOf_4cfef_16 : decode cJ2_indexOf_4cfef 16 = .ok (.iload_n 3, 1) := by decide +kernel
theorem dJ2_indexOf_4cfef_17 : decode cJ2_indexOf_4cfef 17 = .ok (.if_icmp .lt 5, 3) := by decide +kernel
theorem dJ2_indexOf_4cfef_20 : decode cJ2_indexOf_4cfef 20 = .ok (.iconst (-1), 1) := by decide +kernel
theorem dJ2_indexOf_4cfef_21 : decode cJ2_indexOf_4cfef 21 = .ok (.ireturn, 1) := by decide +kernel
theorem dJ2_indexOf_4cfef_22 : decode cJ2_indexOf_4cfef 22 = .ok (.iload_n 1, 1) := by decide +kernel
theorem dJ2_indexOf_4cfef_23 : decode cJ2_indexOf_4cfef 23 = .ok (.ldc 227, 2) := by decide +kernel
theorem dJ2_indexOf_4cfef_25 : decode cJ2_indexOf_4cfef 25 = .ok (.if_icmp .ge 11, 3) := by decide +kernel
theorem dJ2_indexOf_4cfef_28 : decode cJ2_indexOf_4cfef 28 = .ok (.aload_n 0, 1) := by decide +kernel
theorem dJ2_indexOf_4cfef_29 : decode cJ2_indexOf_4cfef 29 = .ok (.iload_n 1, 1) := by decide +kernel
theorem dJ2_indexOf_4cfef_30 : decode cJ2_indexOf_4cfef 30 = .ok (.iload_n 2, 1) := by decide +kernel
theorem dJ2_indexOf_4cfef_31 : decode cJ2_indexOf_4cfef 31 = .ok (.iload_n 3, 1) := by decide +kernel
theorem dJ2_indexOf_4cfef_32 : decode cJ2_indexOf_4cfef 32 = .ok (.invokestatic 228, 3) := by decide +kernel
theorem dJ2_indexOf_4cfef_35 : decode cJ2_indexOf_4cfef 35 = .ok (.ireturn, 1) := by decide +kernel
theorem dJ2_indexOf_4cfef_36 : decode cJ2_indexOf_4cfef 36 = .ok (.aload_n 0, 1) := by decide +kernel
theorem dJ2_indexOf_4cfef_37 : decode cJ2_indexOf_4cfef 37 = .ok (.iload_n 1, 1) := by decide +kernel
theorem dJ2_indexOf_4cfef_38 : decode cJ2_indexOf_4cfef 38 = .ok (.iload_n 2, 1) := by decide +kernel
theorem dJ2_indexOf_4cfef_39 : decode cJ2_indexOf_4cfef 39 = .ok (.iload_n 3, 1) := by decide +kernel
theorem dJ2_indexOf_4cfef_40 : decode cJ2_indexOf_4cfef 40 = .ok (.invokestatic 232, 3) := by decide +kernel
theorem dJ2_indexOf_4cfef_43 : decode cJ2_indexOf_4cfef 43 = .ok (.ireturn, 1) := by decide +kernel
theorem dJ2_indexOfChar_4cfef_0 : decode cJ2_indexOfChar_4cfef 0 = .ok (.iload_n 2, 1) := by decide +kernel
theorem dJ2_indexOfChar_4cfef_1 : decode cJ2_indexOfChar_4cfef 1 = .ok (.iload_n 3, 1) := by decide +kernel
theorem dJ2_indexOfChar_4cfef_2 : decode cJ2_indexOfChar_4cfef 2 = .ok (.aload_n 0, 1) := by decide +kernel
theorem dJ2_indexOfChar_4cfef_3 : decode cJ2_indexOfChar_4cfef 3 = .ok (.invokestatic 96, 3) := by decide +kernel
theorem dJ2_indexOfChar_4cfef_6 : decode cJ2_indexOfChar_4cfef 6 = .ok (.aload_n 0, 1) := by decide +kernel
theorem dJ2_indexOfChar_4cfef_7 : decode cJ2_indexOfChar_4cfef 7 = .ok (.iload_n 1, 1) := by decide +kernel
theorem dJ2_indexOfChar_4cfef_8 : decode cJ2_indexOfChar_4cfef 8 = .ok (.iload_n 2, 1) := by decide +kernel
theorem dJ2_indexOfChar_4cfef_9 : decode cJ2_indexOfChar_4cfef 9 = .ok (.iload_n 3, 1) := by decide +kernel
theorem dJ2_indexOfChar_4cfef_10 : decode cJ2_indexOfChar_4cfef 10 = .ok (.invokestatic 244, 3) := by decide +kernel
theorem dJ2_indexOfChar_4cfef_13 : decode cJ2_indexOfChar_4cfef 13 = .ok (.ireturn, 1) := by decide +kernel
theorem dJ2_indexOfCharUnsafe_4cfef_0 : decode cJ2_indexOfCharUnsafe_4cfef 0 = .ok (.iload_n 2, 1) := by decide +kernel
theorem dJ2_indexOfCharUnsafe_4cfef_1 : decode cJ2_indexOfCharUnsafe_4cfef 1 = .ok (.istore 4, 2) := by decide +kernel
theorem dJ2_indexOfCharUnsafe_4cfef_3 : decode cJ2_indexOfCharUnsafe_4cfef 3 = .ok (.iload 4, 2) := by decide +kernel
theorem dJ2_indexOfCharUnsafe_4cfef_5 : decode cJ2_indexOfCharUnsafe_4cfef 5 = .ok (.iload_n 3, 1) := by decide +kernel
theorem dJ2_indexOfCharUnsafe_4cfef_6 : decode cJ2_indexOfCharUnsafe_4cfef 6 = .ok (.if_icmp .ge 22, 3) := by decide +kernel
theorem dJ2_indexOfCharUnsafe_4cfef_9 : decode cJ2_indexOfCharUnsafe_4cfef 9 = .ok (.aload_n 0, 1) := by decide +kernel
theorem dJ2_indexOfCharUnsafe_4cfef_10 : decode cJ2_indexOfCharUnsafe_4cfef 10 = .ok (.iload 4, 2) := by decide +kernel
theorem dJ2_indexOfCharUnsafe_4cfef_12 : decode cJ2_indexOfCharUnsafe_4cfef 12 = .ok (.invokestatic 71, 3) := by decide +kernel
theorem dJ2_indexOfCharUnsafe_4cfef_15 : decode cJ2_indexOfCharUnsafe_4cfef 15 = .ok (.iload_n 1, 1) := by decide +kernel
theorem dJ2_indexOfCharUnsafe_4cfef_16 : decode cJ2_indexOfCharUnsafe_4cfef 16 = .ok (.if_icmp .ne 6, 3) := by decide +kernel
theorem dJ2_indexOfCharUnsafe_4cfef_19 : decode cJ2_indexOfCharUnsafe_4cfef 19 = .ok (.iload 4, 2) := by decide +kernel
theorem dJ2_indexOfCharUnsafe_4cfef_21 : decode cJ2_indexOfCharUnsafe_4cfef 21 = .ok (.ireturn, 1) := by decide +kernel
theorem dJ2_indexOfCharUnsafe_4cfef_22 : decode cJ2_indexOfCharUnsafe_4cfef 22 = .ok (.iinc 4 1, 3) := by decide +kernel
theorem dJ2_indexOfCharUnsafe_4cfef_25 : decode cJ2_indexOfCharUnsafe_4cfef 25 = .ok (.goto (-22), 3) := by decide +kernel
theorem dJ2_indexOfCharUnsafe_4cfef_28 : decode cJ2_indexOfCharUnsafe_4cfef 28 = .ok (.iconst (-1), 1) := by decide +kernel
theorem dJ2_indexOfCharUnsafe_4cfef_29 : decode cJ2_indexOfCharUnsafe_4cfef 29 = .ok (.ireturn, 1) := by decide +kernel
theorem dJ2_indexOfSupplementary_4cfef_0 : decode cJ2_indexOfSupplementary_4cfef 0 = .ok (.iload_n 1, 1) := by decide +kernel
theorem dJ2_indexOfSupplementary_4cfef_1 : decode cJ2_indexOfSupplementary_4cfef 1 = .ok (.invokestatic 164, 3) := by decide +kernel
theorem dJ2_indexOfSupplementary_4cfef_4 : decode cJ2_indexOfSupplementary_4cfef 4 = .ok (.ifCond .eq 65, 3) := by decide +kernel
theorem dJ2_indexOfSupplementary_4cfef_7 : decode cJ2_indexOfSupplementary_4cfef 7 = .ok (.iload_n 1, 1) := by decide +kernel
theorem dJ2_indexOfSupplementary_4cfef_8 : decode cJ2_indexOfSupplementary_4cfef 8 = .ok (.invokestatic 157, 3) := by decide +kernel
theorem dJ2_indexOfSupplementary_4cfef_11 : decode cJ2_indexOfSupplementary_4cfef 11 = .ok (.istore 4, 2) := by decide +kernel
theorem dJ2_indexOfSupplementary_4cfef_13 : decode cJ2_indexOfSupplementary_4cfef 13 = .ok (.iload_n 1, 1) := by decide +kernel
theorem dJ2_indexOfSupplementary_4cfef_14 : decode cJ2_indexOfSupplementary_4cfef 14 = .ok (.invokestatic 161, 3) := by decide +kernel
theorem dJ2_indexOfSupplementary_4cfef_17 : decode cJ2_indexOfSupplementary_4cfef 17 = .ok (.istore 5, 2) := by decide +kernel
theorem dJ2_indexOfSupplementary_4cfef_19 : decode cJ2_indexOfSupplementary_4cfef 19 = .ok (.iload_n 2, 1) := by decide +kernel
theorem dJ2_indexOfSupplementary_4cfef_20 : decode cJ2_indexOfSupplementary_4cfef 20 = .ok (.iload_n 3, 1) := by decide +kernel
theorem dJ2_indexOfSupplementary_4cfef_21 : decode cJ2_indexOfSupplementary_4cfef 21 = .ok (.aload_n 0, 1) := by decide +kernel
theorem dJ2_indexOfSupplementary_4cfef_22 : decode cJ2_indexOfSupplementary_4cfef 22 = .ok (.invokestatic 96, 3) := by decide +kernel
theorem dJ2_indexOfSupplementary_4cfef_25 : decode cJ2_indexOfSupplementary_4cfef 25 = .ok (.iload_n 2, 1) := by decide +kernel
theorem dJ2_indexOfSupplementary_4cfef_26 : decode cJ2_indexOfSupplementary_4cfef 26 = .ok (.istore 6, 2) := by decide +kernel
theorem dJ2_indexOfSupplementary_4cfef_28 : decode cJ2_indexOfSupplementary_4cfef 28 = .ok (.iload 6, 2) := by decide +kernel
theorem dJ2_indexOfSupplementary_4cfef_30 : decode cJ2_indexOfSupplementary_4cfef 30 = .ok (.iload_n 3, 1) := by decide +kernel
theorem dJ2_indexOfSupplementary_4cfef_31 : decode cJ2_indexOfSupplementary_4cfef 31 = .ok (.iconst 1, 1) := by decide +kernel
theorem dJ2_indexOfSupplementary_4cfef_32 : decode cJ2_indexOfSupplementary_4cfef 32 = .ok (.isub, 1) := by decide +kernel
theorem dJ2_indexOfSupplementary_4cfef_33 : decode cJ2_indexOfSupplementary_4cfef 33 = .ok (.if_icmp .ge 36, 3) := by decide +kernel
theorem dJ2_indexOfSupplementary_4cfef_36 : decode cJ2_indexOfSupplementary_4cfef 36 = .ok (.aload_n 0, 1) := by decide +kernel
theorem dJ2_indexOfSupplementary_4cfef_37 : decode cJ2_indexOfSupplementary_4cfef 37 = .ok (.iload 6, 2) := by decide +kernel
theorem dJ2_indexOfSupplementary_4cfef_39 : decode cJ2_indexOfSupplementary_4cfef 39 = .ok (.invokestatic 71, 3) := by decide +kernel
theorem dJ2_indexOfSupplementary_4cfef_42 : decode cJ2_indexOfSupplementary_4cfef 42 = .ok (.iload 4, 2) := by decide +kernel
theorem dJ2_indexOfSupplementary_4cfef_44 : decode cJ2_indexOfSupplementary_4cfef 44 = .ok (.if_icmp .ne 19, 3) := by decide +kernel
theorem dJ2_indexOfSupplementary_4cfef_47 : decode cJ2_indexOfSupplementary_4cfef 47 = .ok (.aload_n 0, 1) := by decide +kernel
theorem dJ2_indexOfSupplementary_4cfef_48 : decode cJ2_indexOfSupplementary_4cfef 48 = .ok (.iload 6, 2) := by decide +kernel
theorem dJ2_indexOfSupplementary_4cfef_50 : decode cJ2_indexOfSupplementary_4cfef 50 = .ok (.iconst 1, 1) := by decide +kernel
theorem dJ2_indexOfSupplementary_4cfef_51 : decode cJ2_indexOfSupplementary_4cfef 51 = .ok (.iadd, 1) := by decide +kernel
theorem dJ2_indexOfSupplementary_4cfef_52 : decode cJ2_indexOfSupplementary_4cfef 52 = .ok (.invokestatic 71, 3) := by decide +kernel
theorem dJ2_indexOfSupplementary_4cfef_55 : decode cJ2_indexOfSupplementary_4cfef 55 = .ok (.iload 5, 2) := by decide +kernel
theorem dJ2_indexOfSupplementary_4cfef_57 : decode cJ2_indexOfSupplementary_4cfef 57 = .ok (.if_icmp .ne 6, 3) := by decide +kernel
theorem dJ2_indexOfSupplementary_4cfef_60 : decode cJ2_indexOfSupplementary_4cfef 60 = .ok (.iload 6, 2) := by decide +kernel
theorem dJ2_indexOfSupplementary_4cfef_62 : decode cJ2_indexOfSupplementary_4cfef 62 = .ok (.ireturn, 1) := by decide +kernel
theorem dJ2_indexOfSupplementary_4cfef_63 : decode cJ2_indexOfSupplementary_4cfef 63 = .ok (.iinc 6 1, 3) := by decide +kernel
theorem dJ2_indexOfSupplementary_4cfef_66 : decode cJ2_indexOfSupplementary_4cfef 66 = .ok (.goto (-38), 3) := by decide +kernel
theorem dJ2_indexOfSupplementary_4cfef_69 : decode cJ2_indexOfSupplementary_4cfef 69 = .ok (.iconst (-1), 1) := by decide +kernel
theorem dJ2_indexOfSupplementary_4cfef_70 : decode cJ2_indexOfSupplementary_4cfef 70 = .ok (.ireturn, 1) := by decide +kernel
theorem dJ2_checkBoundsBeginEnd_d044e_0 : decode cJ2_checkBoundsBeginEnd_d044e 0 = .ok (.iload_n 0, 1) := by decide +kernel
theorem dJ2_checkBoundsBeginEnd_d044e_1 : decode cJ2_checkBoundsBeginEnd_d044e 1 = .ok (.iload_n 1, 1) := by decide +kernel
theorem dJ2_checkBoundsBeginEnd_d044e_2 : decode cJ2_checkBoundsBeginEnd_d044e 2 = .ok (.aload_n 2, 1) := by decide +kernel
theorem dJ2_checkBoundsBeginEnd_d044e_3 : decode cJ2_checkBoundsBeginEnd_d044e 3 = .ok (.invokestatic 48, 3) := by decide +kernel
theorem dJ2_checkBoundsBeginEnd_d044e_6 : decode cJ2_checkBoundsBeginEnd_d044e 6 = .ok (.invokestatic 241, 3) := by decide +kernel
theorem dJ2_checkBoundsBeginEnd_d044e_9 : decode cJ2_checkBoundsBeginEnd_d044e 9 = .ok (.return_, 1) := by decide +kernel
theorem dJ3_checkFromToIndex_8c36e_0 : decode cJ3_checkFromToIndex_8c36e 0 = .ok (.iload_n 0, 1) := by decide +kernel
theorem dJ3_checkFromToIndex_8c36e_1 : decode cJ3_checkFromToIndex_8c36e 1 = .ok (.ifCond .lt 13, 3) := by decide +kernel
theorem dJ3_checkFromToIndex_8c36e_4 : decode cJ3_checkFromToIndex_8c36e 4 = .ok (.iload_n 0, 1) := by decide +kernel
theorem dJ3_checkFromToIndex_8c36e_5 : decode cJ3_checkFromToIndex_8c36e 5 = .ok (.iload_n 1, 1) := by decide +kernel
theorem dJ3_checkFromToIndex_8c36e_6 : decode cJ3_checkFromToIndex_8c36e 6 = .ok (.if_icmp .gt 8, 3) := by decide +kernel
theorem dJ3_checkFromToIndex_8c36e_9 : decode cJ3_checkFromToIndex_8c36e 9 = .ok (.iload_n 1, 1) := by decide +kernel
theorem dJ3_checkFromToIndex_8c36e_10 : decode cJ3_checkFromToIndex_8c36e 10 = .ok (.iload_n 2, 1) := by decide +kernel
theorem dJ3_checkFromToIndex_8c36e_11 : decode cJ3_checkFromToIndex_8c36e 11 = .ok (.if_icmp .le 11, 3) := by decide +kernel
theorem dJ3_checkFromToIndex_8c36e_14 : decode cJ3_checkFromToIndex_8c36e 14 = .ok (.aload_n 3, 1) := by decide +kernel
theorem dJ3_checkFromToIndex_8c36e_15 : decode cJ3_checkFromToIndex_8c36e 15 = .ok (.iload_n 0, 1) := by decide +kernel
theorem dJ3_checkFromToIndex_8c36e_16 : decode cJ3_checkFromToIndex_8c36e 16 = .ok (.iload_n 1, 1) := by decide +kernel
theorem dJ3_checkFromToIndex_8c36e_17 : decode cJ3_checkFromToIndex_8c36e 17 = .ok (.iload_n 2, 1) := by decide +kernel
theorem dJ3_checkFromToIndex_8c36e_18 : decode cJ3_checkFromToIndex_8c36e 18 = .ok (.invokestatic 99, 3) := by decide +kernel
theorem dJ3_checkFromToIndex_8c36e_21 : decode cJ3_checkFromToIndex_8c36e 21 = .ok (.athrow, 1) := by decide +kernel
theorem dJ3_checkFromToIndex_8c36e_22 : decode cJ3_checkFromToIndex_8c36e 22 = .ok (.iload_n 0, 1) := by decide +kernel
theorem dJ3_checkFromToIndex_8c36e_23 : decode cJ3_checkFromToIndex_8c36e 23 = .ok (.ireturn, 1) := by decide +kernel
end
section
/-! NUMBERS: an int of the machine is jv_i of a whole number, a long jv_l of one -/
def jv_i (n : Int) : Int32 := Int32.ofInt n
def jv_l (n : Int) : Int64 := Int64.ofInt n
theorem jv_i_T {n : Int} (h : -2147483648 ≤ n ∧ n ≤ 2147483647) : (jv_i n).toInt = n := Int32.toInt_ofInt_of_le (by omega) (by omega)
theorem jv_l_T {n : Int} (h : -9223372036854775808 ≤ n ∧ n ≤ 9223372036854775807) : (jv_l n).toInt = n := Int64.toInt_ofInt_of_le (by omega) (by omega)
theorem jv_i_add (a b : Int) : jv_i a + jv_i b = jv_i (a + b) := (Int32.ofInt_add a b).symm
theorem jv_i_sub (a b : Int) : jv_i a - jv_i b = jv_i (a - b) := (Int32.ofInt_sub a b).symm
theorem jv_i_mul (a b : Int) : jv_i a * jv_i b = jv_i (a * b) := (Int32.ofInt_mul a b).symm
theorem jv_i_neg (a : Int) : -jv_i a = jv_i (-a) := (Int32.ofInt_neg a).symm
theorem jv_l_add (a b : Int) : jv_l a + jv_l b = jv_l (a + b) := (Int64.ofInt_add a b).symm
theorem jv_l_sub (a b : Int) : jv_l a - jv_l b = jv_l (a - b) := (Int64.ofInt_sub a b).symm
theorem jv_l_mul (a b : Int) : jv_l a * jv_l b = jv_l (a * b) := (Int64.ofInt_mul a b).symm
theorem jv_l_neg (a : Int) : -jv_l a = jv_l (-a) := (Int64.ofInt_neg a).symm
theorem jv_i_le {a b : Int} (ha : -2147483648 ≤ a ∧ a ≤ 2147483647) (hb : -2147483648 ≤ b ∧ b ≤ 2147483647) : jv_i a ≤ jv_i b ↔ a ≤ b := by
  rw [Int32.le_iff_toInt_le, jv_i_T ha, jv_i_T hb]
theorem jv_i_lt {a b : Int} (ha : -2147483648 ≤ a ∧ a ≤ 2147483647) (hb : -2147483648 ≤ b ∧ b ≤ 2147483647) : jv_i a < jv_i b ↔ a < b := by
  rw [Int32.lt_iff_toInt_lt, jv_i_T ha, jv_i_T hb]
theorem jv_i_eq {a b : Int} (ha : -2147483648 ≤ a ∧ a ≤ 2147483647) (hb : -2147483648 ≤ b ∧ b ≤ 2147483647) : jv_i a = jv_i b ↔ a = b := by
  rw [← Int32.toInt_inj, jv_i_T ha, jv_i_T hb]
theorem jv_l_le {a b : Int} (ha : -9223372036854775808 ≤ a ∧ a ≤ 9223372036854775807) (hb : -9223372036854775808 ≤ b ∧ b ≤ 9223372036854775807) : jv_l a ≤ jv_l b ↔ a ≤ b := by
  rw [Int64.le_iff_toInt_le, jv_l_T ha, jv_l_T hb]
theorem jv_l_lt {a b : Int} (ha : -9223372036854775808 ≤ a ∧ a ≤ 9223372036854775807) (hb : -9223372036854775808 ≤ b ∧ b ≤ 9223372036854775807) : jv_l a < jv_l b ↔ a < b := by
  rw [Int64.lt_iff_toInt_lt, jv_l_T ha, jv_l_T hb]
theorem jv_l_eq {a b : Int} (ha : -9223372036854775808 ≤ a ∧ a ≤ 9223372036854775807) (hb : -9223372036854775808 ≤ b ∧ b ≤ 9223372036854775807) : jv_l a = jv_l b ↔ a = b := by
  rw [← Int64.toInt_inj, jv_l_T ha, jv_l_T hb]
theorem jv_i_l {a : Int} (ha : -2147483648 ≤ a ∧ a ≤ 2147483647) : (jv_i a).toInt64 = jv_l a := Int64.toInt_inj.mp (by rw [Int32.toInt_toInt64, jv_i_T ha, jv_l_T (by omega)])
theorem jv_l_i (a : Int) : (jv_l a).toInt32 = jv_i a := Int64.toInt32_ofInt
/-- every int, every long is one of a number in range -/
theorem jv_i_of (x : Int32) : ∃ a : Int, x = jv_i a ∧ -2147483648 ≤ a ∧ a ≤ 2147483647 := by
  have h1 := x.le_toInt
  have h2 := x.toInt_lt
  have h3 : -2147483648 ≤ x.toInt ∧ x.toInt ≤ 2147483647 := by omega
  exact ⟨x.toInt, Int32.toInt_inj.mp (jv_i_T h3).symm, h3⟩
theorem jv_l_of (x : Int64) : ∃ a : Int, x = jv_l a ∧ -9223372036854775808 ≤ a ∧ a ≤ 9223372036854775807 := by
  have h1 := x.le_toInt
  have h2 := x.toInt_lt
  have h3 : -9223372036854775808 ≤ x.toInt ∧ x.toInt ≤ 9223372036854775807 := by omega
  exact ⟨x.toInt, Int64.toInt_inj.mp (jv_l_T h3).symm, h3⟩
theorem jv_i_div {a b : Int} (ha : 0 ≤ a ∧ a ≤ 2147483647) (hb : 0 < b ∧ b ≤ 2147483647) : jv_i a / jv_i b = jv_i (a / b) := by
  apply Int32.toInt_inj.mp
  have h0 : 0 ≤ a / b := Int.ediv_nonneg ha.1 (by omega)
  have h1 : a / b ≤ a := Int.ediv_le_self _ ha.1
  rw [Int32.toInt_div, jv_i_T (by omega), jv_i_T (by omega), jv_i_T (by omega), Int.tdiv_eq_ediv_of_nonneg ha.1]
  apply Int.bmod_eq_of_le <;> omega
theorem jv_l_div {a b : Int} (ha : 0 ≤ a ∧ a ≤ 9223372036854775807) (hb : 0 < b ∧ b ≤ 9223372036854775807) : jv_l a / jv_l b = jv_l (a / b) := by
  apply Int64.toInt_inj.mp
  have h0 : 0 ≤ a / b := Int.ediv_nonneg ha.1 (by omega)
  have h1 : a / b ≤ a := Int.ediv_le_self _ ha.1
  rw [Int64.toInt_div, jv_l_T (by omega), jv_l_T (by omega), jv_l_T (by omega), Int.tdiv_eq_ediv_of_nonneg ha.1]
  apply Int.bmod_eq_of_le <;> omega
theorem jv_i_ix {a : Int} {n : Nat} (h : 0 ≤ a ∧ a < n) (hn : n < 2147483648) : vp_in (jv_i a) n ∧ (((jv_i a).toNatClampNeg : Nat) : Int) = a := by
  have e : (jv_i a).toInt = a := jv_i_T (by omega)
  refine ⟨vp_in_iff.mpr ⟨by omega, by omega⟩, ?_⟩
  have e2 : (jv_i a).toNatClampNeg = (jv_i a).toInt.toNat := rfl
  rw [e2, e]
  omega
theorem jv_char {a : Int} (h : 0 ≤ a ∧ a < 65536) : ((jv_i a).toUInt32 % 65536).toInt32 = jv_i a := lg_i2c_word (by rw [jv_i_T (by omega)]; exact h.1) (by rw [jv_i_T (by omega)]; exact h.2)
theorem jv_narc {a : Int} (h : 0 ≤ a ∧ a < 65536) : narrow .char (.int (jv_i a)) = .int (jv_i a) := by
  have e := pk_nc (jv_i a)
  rw [jv_char h] at e
  exact e
theorem jv_vnarc {a : Int} (h : 0 ≤ a ∧ a < 65536) : vp_nar .char (jv_i a) = jv_i a := by
  have e := pk_vc (jv_i a)
  rw [jv_char h] at e
  exact e
/-- a list of whole numbers at places -/
def jv_up (f : Int → Int) (k x : Int) : Int → Int := fun j => if j = k then x else f j
theorem jv_up_s (f : Int → Int) (k x : Int) : jv_up f k x k = x := if_pos rfl
theorem jv_up_n (f : Int → Int) {k x j : Int} (h : j ≠ k) : jv_up f k x j = f j := if_neg h
end
section
/-! THE WORLD: cells at places 0, 1, 2 ..; a place is what a reference names; where a place lies in the machine's heap, ad says -/
def jv_T : List Cond := lw_tbl.filter goodWord
def jv_ns : List Cond := [.methodLinkNest RX3 25 yX7_within RX7, .methodLinkNest RX2 39 yX7_within RX7, .methodLinkNest RX0 31 yX7_within RX7, .methodLinkNest RX6 66 yX7_within RX7, .methodLinkNest RX1 52 yX7_within RX7]
theorem jv_ns_in : ∀ w ∈ jv_ns, w ∈ lw_tbl := by decide +kernel
theorem jv_ns_on : ∀ w ∈ jv_ns, w.onTables = true := by decide +kernel
abbrev jv_cl : List vw_C := [(RX0, TX0, 6), (RX1, TX1, 8), (RX2, TX2, 4), (RX3, TX3, 4), (RX4, TX4, 2), (RX5, TX5, 3), (RX6, TX6, 7), (RX7, TX7, 8), (RX8, TX8, 27)]
abbrev jv_G : Type := va_G × (ClassId × ClassId × ClassId × ClassId) × (Nat → Nat)
def jv_V (ad : Nat → Nat) : Value → Value
  | .ref q => .ref (ad q)
  | v => v
theorem jv_V_cat (ad : Nat → Nat) (v : Value) : (jv_V ad v).category = v.category := by cases v <;> rfl
/-- a cell: an array of ints (0), longs (1), chars (2), an array of rows, an object -/
abbrev jv_E : Type := (Nat × Nat × (Int → Int)) ⊕ ((Nat × (Int → Nat)) ⊕ (Nat × List Value))
abbrev jv_ai (n : Nat) (f : Int → Int) : jv_E := .inl (0, n, f)
abbrev jv_al (n : Nat) (f : Int → Int) : jv_E := .inl (1, n, f)
abbrev jv_ac (n : Nat) (f : Int → Int) : jv_E := .inl (2, n, f)
abbrev jv_aq (n : Nat) (g : Int → Nat) : jv_E := .inr (.inl (n, g))
abbrev jv_ob (ci : Nat) (fs : List Value) : jv_E := .inr (.inr (ci, fs))
def jv_tE (G : jv_G) : jv_E → va_E
  | .inl (0, n, f) => .inl (G.2.1.1, n, .inl (fun i => jv_i (f i)))
  | .inl (1, n, f) => .inl (G.2.1.2.1, n, .inr (.inl (fun i => jv_l (f i))))
  | .inl (_, n, f) => .inl (G.2.1.2.2.1, n, .inl (fun i => jv_i (f i)))
  | .inr (.inl (n, g)) => .inl (G.2.1.2.2.2, n, .inr (.inr (.inr (.inr (fun i => some (G.2.2 (g i)))))))
  | .inr (.inr (ci, fs)) => .inr (ci, fs.map (jv_V G.2.2))
def jv_ty (G : jv_G) : List (ClassId × FieldType) := [(G.2.1.1, .int), (G.2.1.2.1, .long), (G.2.1.2.2.1, .char), (G.2.1.2.2.2, .array .int)]
def jv_tr (G : jv_G) (h : List jv_E) : va_W := h.mapIdx (fun i c => (G.2.2 i, jv_tE G c))
theorem jv_tr_at {G : jv_G} {h : List jv_E} {a : Nat} {c : jv_E} (ha : h[a]? = some c) : (jv_tr G h)[a]? = some (G.2.2 a, jv_tE G c) := by
  simp [jv_tr, List.getElem?_mapIdx, ha]
theorem jv_tr_of {G : jv_G} {h : List jv_E} {a : Nat} {q : Nat × va_E} (ha : (jv_tr G h)[a]? = some q) : a < h.length ∧ q.1 = G.2.2 a := by
  simp only [jv_tr, List.getElem?_mapIdx] at ha
  cases hc : h[a]? with
  | none => rw [hc] at ha; cases ha
  | some c =>
    rw [hc] at ha
    cases ha
    exact ⟨(List.getElem?_eq_some_iff.mp hc).1, rfl⟩
theorem jv_tr_set (G : jv_G) (h : List jv_E) (a : Nat) (c : jv_E) : (jv_tr G h).set a (G.2.2 a, jv_tE G c) = jv_tr G (h.set a c) := by
  apply List.ext_getElem?
  intro i
  simp only [jv_tr, List.getElem?_set, List.getElem?_mapIdx, List.length_mapIdx]
  by_cases e : a = i
  · subst e
    by_cases hl : a < h.length <;> simp [hl]
  · simp [e]
/-- which addresses a list of N places takes: apart, and of a kind -/
def jv_D (G : jv_G) (A : Nat → Prop) (N : Nat) : Prop := (∀ i j, i < N → j < N → G.2.2 i = G.2.2 j → i = j) ∧ ∀ i, i < N → A (G.2.2 i)
theorem jv_D_of {G : jv_G} {A : Nat → Prop} {h : List jv_E} (d : jv_D G A h.length) : va_D A (jv_tr G h) := by
  refine ⟨fun i j p q hi hj e => ?_, fun k q hk => ?_⟩
  · obtain ⟨a1, a2⟩ := jv_tr_of hi
    obtain ⟨b1, b2⟩ := jv_tr_of hj
    exact d.1 i j a1 b1 (by rw [← a2, ← b2]; exact e)
  · obtain ⟨a1, a2⟩ := jv_tr_of hk
    rw [a2]
    exact d.2 k a1
theorem jv_D_to {G : jv_G} {A : Nat → Prop} {h : List jv_E} (d : va_D A (jv_tr G h)) : jv_D G A h.length := by
  have key : ∀ i, i < h.length → ∃ e, (jv_tr G h)[i]? = some (G.2.2 i, e) := fun i hi => ⟨_, jv_tr_at (List.getElem?_eq_getElem hi)⟩
  refine ⟨fun i j hi hj e => ?_, fun i hi => ?_⟩
  · obtain ⟨e1, h1⟩ := key i hi
    obtain ⟨e2, h2⟩ := key j hj
    exact d.1 i j _ _ h1 h2 e
  · obtain ⟨e1, h1⟩ := key i hi
    exact d.2 i _ h1
/-- what stands outside the world: words of nest mates, the one text constant -/
def jv_S (A : Nat → Prop) (U : State) (H : Heap) : Prop := ∃ adK adV : Nat → Nat, vk_R RX5 63 "htwdlfq" (adK 0) U ∧ vk_S 1 [7] [[104, 116, 119, 100, 108, 102, 113]] adK adV A U H ∧ va_Z "java/lang/String" "COMPACT_STRINGS" "Z" (.int 1) A U H
def jv_X (A : Nat → Prop) (U : State) (H : Heap) : Prop := (∀ w ∈ jv_ns, va_Nw w U) ∧ jv_S A U H
theorem jv_X_warm {A : Nat → Prop} {s U : State} {H : Heap} (hW : s.WarmedH U.vm) (h : jv_X A s H) : jv_X A U H := by
  obtain ⟨h1, adK, adV, h2, h3, h4⟩ := h
  refine ⟨fun w hw => ?_, adK, adV, h2.warm hW, h3.moved hW.alike, h4.moved hW.alike⟩
  have h5 := h1 w hw
  simp only [jv_ns, List.mem_cons, List.not_mem_nil, or_false] at hw
  rcases hw with rfl | rfl | rfl | rfl | rfl <;> exact va_Nw.warmM hW h5
theorem jv_X_same {A : Nat → Prop} {s U : State} {H : Heap} (hv : U.vm = s.vm) (h : jv_X A s H) : jv_X A U H := by
  obtain ⟨h1, adK, adV, h2, h3, h4⟩ := h
  have ha : s.vm.Alike U.vm := by rw [hv]; exact Vm.Alike.refl _
  exact ⟨fun w hw => va_Nw.same (jv_ns_on w hw) hv.symm (h1 w hw), adK, adV, h2.same hv, h3.moved ha, h4.moved ha⟩
theorem jv_X_kept {A : Nat → Prop} {s : State} {H H1 : Heap} (hq : ∀ a : Nat, a < H.size → ¬ A a → H1[a]? = H[a]?) (h : jv_X A s H) : jv_X A s H1 := by
  obtain ⟨h1, adK, adV, h2, h3, h4⟩ := h
  exact ⟨h1, adK, adV, h2, h3.kept hq, h4.kept hq⟩
theorem jv_X_narrow {A B : Nat → Prop} {s : State} {H : Heap} (hAB : ∀ q, B q → A q) (h : jv_X A s H) : jv_X B s H := by
  obtain ⟨h1, adK, adV, h2, h3, h4⟩ := h
  exact ⟨h1, adK, adV, h2, h3.narrow hAB, h4.narrow hAB⟩
/-- locals: a list of slots, what is known of them -/
def jv_L (ad : Nat → Nat) (ls : Array Slot) (nL : Nat) (L : List (Option Value)) : Prop := ls.size = nL ∧ lv_wf ls ∧ (∀ (i : Nat) (v : Value), L[i]? = some (some v) → ls[i]? = some (.val (jv_V ad v))) ∧ L.length ≤ nL
/-- no long stands just before slot i -/
def jv_ok (L : List (Option Value)) (i : Nat) : Bool := match i with
  | 0 => true
  | j + 1 => match L[j]? with
    | some (some v) => v.category == 1
    | _ => true
def jv_ls (ad : Nat → Nat) (L : List (Option Value)) : List (Nat × Value) := (List.range L.length).filterMap (fun i => match L[i]? with | some (some v) => some (i, jv_V ad v) | _ => none)
theorem jv_ls_mem {ad : Nat → Nat} {L : List (Option Value)} {i : Nat} {v : Value} (h : L[i]? = some (some v)) : (i, jv_V ad v) ∈ jv_ls ad L := by
  refine List.mem_filterMap.mpr ⟨i, List.mem_range.mpr (List.getElem?_eq_some_iff.mp h).1, ?_⟩
  simp only [h]
theorem jv_ls_of {ad : Nat → Nat} {L : List (Option Value)} {q : Nat × Value} (h : q ∈ jv_ls ad L) : ∃ v, L[q.1]? = some (some v) ∧ q.2 = jv_V ad v := by
  obtain ⟨i, -, h1⟩ := List.mem_filterMap.mp h
  cases hi : L[i]? with
  | none => rw [hi] at h1; cases h1
  | some o =>
    cases o with
    | none => rw [hi] at h1; cases h1
    | some v =>
      rw [hi] at h1
      cases h1
      exact ⟨v, hi, rfl⟩
theorem jv_L_has {ad : Nat → Nat} {ls : Array Slot} {nL : Nat} {L : List (Option Value)} (h : jv_L ad ls nL L) : lv_has ls nL (jv_ls ad L) := ⟨h.1, h.2.1, fun q hq => by
  obtain ⟨v, h1, h2⟩ := jv_ls_of hq
  rw [h2]
  exact h.2.2.1 q.1 v h1⟩
theorem jv_L_s1 {ad : Nat → Nat} {ls : Array Slot} {nL i : Nat} {L : List (Option Value)} {v : Value} (hlen : L.length ≤ nL) (ok : jv_ok L i = true) (h : lv_has ls nL ((i, jv_V ad v) :: (jv_ls ad L).filter (fun q => !(q.1 == i) && !(q.1 + 1 == i && q.2.category == 2)))) : jv_L ad ls nL (L.set i (some v)) := by
  refine ⟨h.1, h.2.1, fun j w hj => ?_, by simpa using hlen⟩
  rw [List.getElem?_set] at hj
  by_cases e : i = j
  · subst e
    rw [if_pos rfl] at hj
    by_cases hl : i < L.length
    · rw [if_pos hl] at hj
      cases hj
      exact h.2.2 (i, jv_V ad v) List.mem_cons_self
    · rw [if_neg hl] at hj
      cases hj
  · rw [if_neg e] at hj
    refine h.2.2 (j, jv_V ad w) (List.mem_cons_of_mem _ (List.mem_filter.mpr ⟨jv_ls_mem hj, ?_⟩))
    have e1 : (j == i) = false := by simp; exact fun q => e q.symm
    simp only [e1, Bool.not_false, Bool.true_and, Bool.not_eq_true', Bool.and_eq_false_iff]
    by_cases e2 : j + 1 = i
    · refine Or.inr ?_
      subst e2
      simp only [jv_ok, hj] at ok
      rw [jv_V_cat]
      have : w.category = 1 := by simpa using ok
      simp [this]
    · exact Or.inl (by simpa using e2)
theorem jv_L_s2 {ad : Nat → Nat} {ls : Array Slot} {nL i : Nat} {L : List (Option Value)} {v : Value} (hlen : L.length ≤ nL) (ok : jv_ok L i = true) (h : lv_has ls nL ((i, jv_V ad v) :: (jv_ls ad L).filter (fun q => !(q.1 == i) && (!(q.1 == i + 1) && !(q.1 + 1 == i && q.2.category == 2))))) : jv_L ad ls nL ((L.set (i + 1) none).set i (some v)) := by
  refine ⟨h.1, h.2.1, fun j w hj => ?_, by simpa using hlen⟩
  rw [List.getElem?_set] at hj
  by_cases e : i = j
  · subst e
    rw [if_pos rfl] at hj
    by_cases hl : i < (L.set (i + 1) none).length
    · rw [if_pos hl] at hj
      cases hj
      exact h.2.2 (i, jv_V ad v) List.mem_cons_self
    · rw [if_neg hl] at hj
      cases hj
  · rw [if_neg e, List.getElem?_set] at hj
    by_cases e3 : i + 1 = j
    · subst e3
      rw [if_pos rfl] at hj
      by_cases hl : i + 1 < L.length
      · rw [if_pos hl] at hj; cases hj
      · rw [if_neg hl] at hj; cases hj
    · rw [if_neg e3] at hj
      refine h.2.2 (j, jv_V ad w) (List.mem_cons_of_mem _ (List.mem_filter.mpr ⟨jv_ls_mem hj, ?_⟩))
      have e1 : (j == i) = false := by simp; exact fun q => e q.symm
      have e4 : (j == i + 1) = false := by simp; exact fun q => e3 q.symm
      simp only [e1, e4, Bool.not_false, Bool.true_and, Bool.not_eq_true', Bool.and_eq_false_iff]
      by_cases e2 : j + 1 = i
      · refine Or.inr ?_
        subst e2
        simp only [jv_ok, hj] at ok
        rw [jv_V_cat]
        have : w.category = 1 := by simpa using ok
        simp [this]
      · exact Or.inl (by simpa using e2)
/-- the locals at a method's entry -/
def jv_La : List Value → List (Option Value)
  | [] => []
  | v :: vs => if v.category = 2 then some v :: none :: jv_La vs else some v :: jv_La vs
def jv_L0 (nL : Nat) (vs : List Value) : List (Option Value) := jv_La vs ++ List.replicate (nL - (jv_La vs).length) none
theorem jv_La_mem (ad : Nat → Nat) : ∀ (vs : List Value) (k i : Nat) (v : Value), (jv_La vs)[i]? = some (some v) → (k + i, jv_V ad v) ∈ lv_args k (vs.map (jv_V ad))
  | [], _, i, v, h => by simp [jv_La] at h
  | w :: vs, k, i, v, h => by
    simp only [List.map_cons, lv_args, jv_V_cat]
    by_cases hc : w.category = 2
    · rw [if_pos hc]
      rw [jv_La, if_pos hc] at h
      match i, h with
      | 0, h => cases h; exact List.mem_cons_self
      | 1, h => cases h
      | i + 2, h =>
        have := jv_La_mem ad vs (k + 2) i v h
        rw [show k + (i + 2) = k + 2 + i by omega]
        exact List.mem_cons_of_mem _ this
    · rw [if_neg hc]
      rw [jv_La, if_neg hc] at h
      match i, h with
      | 0, h => cases h; exact List.mem_cons_self
      | i + 1, h =>
        have := jv_La_mem ad vs (k + 1) i v h
        rw [show k + (i + 1) = k + 1 + i by omega]
        exact List.mem_cons_of_mem _ this
theorem jv_L0_has {ad : Nat → Nat} {ls : Array Slot} {nL : Nat} {vs : List Value} (hlen : (jv_La vs).length ≤ nL) (h : lv_has ls nL (lv_args 0 (vs.map (jv_V ad)))) : jv_L ad ls nL (jv_L0 nL vs) := by
  refine ⟨h.1, h.2.1, fun i v hi => ?_, by simp [jv_L0]; omega⟩
  have hi2 : (jv_La vs)[i]? = some (some v) := by
    unfold jv_L0 at hi
    by_cases hl : i < (jv_La vs).length
    · rwa [List.getElem?_append_left hl] at hi
    · rw [List.getElem?_append_right (by omega), List.getElem?_replicate] at hi
      by_cases h2 : i - (jv_La vs).length < nL - (jv_La vs).length
      · rw [if_pos h2] at hi; cases hi
      · rw [if_neg h2] at hi; cases hi
  have := jv_La_mem ad vs 0 i v hi2
  rw [Nat.zero_add] at this
  exact h.2.2 _ this
end
section
/-! THE JUDGEMENT jv_J: the machine, at pc of a method with slots L, operands S and the world h, comes to its end; the contract jv_Ct -/
abbrev jv_M : Type := (Program × Launch × Env × Room × State) × (MethodId × Array Value × List Frame × Method × Code) × (Nat × Nat × (State → Prop)) × (jv_G × (Nat → Prop) × Nat × Nat)
def jv_C (p : Program) (R : Room) (s : State) (m : MethodId) (args : Array Value) (c : Code) (G : jv_G) (A : Nat → Prop) (N nL : Nat) (cc : ByteArray) (own : String) (K cells slots : Nat) : Prop :=
  p.tables.exec = Jvm.exec ∧ c.code = cc ∧ c.maxLocals = nL ∧ s.vm.findClass own = some m.cls ∧ (∀ w ∈ jv_T, w.before args s = true) ∧ va_K G.1 jv_cl (jv_ty G) s ∧ (∀ q, s.heap.size ≤ q → A q) ∧ jv_D G A N ∧ jv_X A s s.heap ∧ (K ≤ R.frames ∧ 40 * K ≤ R.locals) ∧ cells ≤ R.cells ∧ slots ≤ R.slots
def jv_J (X : jv_M) (cc : ByteArray) (own : String) (K pc : Nat) (L : List (Option Value)) (S : List Value) (h : List jv_E) : Prop := match X with
  | ((p, l, e, R, s), (m, args, below, meth, c), (cells, slots, Q), (G, A, N, nL)) => jv_C p R s m args c G A N nL cc own K cells slots → h.length = N → ∀ (H : Heap) (locs : List Loc) (ls : Array Slot), va_P G.1 jv_cl (jv_tr G h) H → va_S A s.heap H locs → jv_L G.2.2 ls nL L → W p l e R s m args below meth c H locs cells slots Q (F0 m pc ls (S.map (jv_V G.2.2)))
def jv_rm (K : Nat) : Room := { frames := K, cells := 0, slots := 0, locals := 40 * K }
def jv_Q (G : jv_G) (A : Nat → Prop) (N : Nat) (post : Option Value → List jv_E → Prop) : Array Value → State → Outcome → State → Prop := fun _ st oc t => (∃ (v : Option Value) (h' : List jv_E), oc = .returned (v.map (jv_V G.2.2)) ∧ post v h' ∧ h'.length = N ∧ va_P G.1 jv_cl (jv_tr G h') t.heap) ∧ va_F A st t
def jv_P (G : jv_G) (sz : Nat) (av : List Value) (h : List jv_E) : Array Value → State → Prop := va_Pc (av.map (jv_V G.2.2)) (fun U => U.heap.size = sz ∧ va_P G.1 jv_cl (jv_tr G h) U.heap ∧ va_K G.1 jv_cl (jv_ty G) U ∧ va_D (fun _ => True) (jv_tr G h) ∧ jv_X (va_A (jv_tr G h) sz) U U.heap)
def jv_Ct (y : MethodName) (cc : ByteArray) (maxL : Nat) (ret : Option FieldType) (K : Nat) (av : List Value) (h : List jv_E) (post : Option Value → List jv_E → Prop) : Prop :=
  ∀ (l : Launch) (G : jv_G) (sz : Nat), Met l y (.code y cc maxL ret :: jv_T) (jv_rm K) (jv_P G sz av h) (jv_Q G (va_A (jv_tr G h) sz) h.length post) 0 0 (va_A (jv_tr G h) sz)
def jv_ret (X : jv_M) (ret : Option FieldType) (post : Option Value → List jv_E → Prop) : Prop := match X with
  | ((_, _, _, _, s), (_, args, below, meth, _), (cells, slots, Q), (G, A, N, _)) => Q = MQ below (jv_Q G A N post) args s 0 0 A ∧ cells = 0 ∧ slots = 0 ∧ meth.sig.returnType = ret ∧ meth.locks = false
theorem jv_sl_len (ad : Nat → Nat) : ∀ vs : List Value, (lg_sl (vs.map (jv_V ad))).length = (jv_La vs).length
  | [] => rfl
  | v :: vs => by
    have ih := jv_sl_len ad vs
    simp only [List.map_cons, lg_sl, List.flatMap_cons, List.length_append, jv_V_cat] at ih ⊢
    by_cases hc : v.category = 2
    · rw [if_pos hc, jv_La, if_pos hc, ih]; simp; omega
    · rw [if_neg hc, jv_La, if_neg hc, ih]; simp; omega
/-- a contract out of the walk of a body -/
theorem jv_entry {y : MethodName} {cc : ByteArray} {maxL : Nat} {ret : Option FieldType} {K : Nat} {av : List Value} {h : List jv_E} {post : Option Value → List jv_E → Prop} {own : String} (hy : plainName y.cls = true) (ho : y.cls = own) (hl : (jv_La av).length ≤ maxL)
    (body : ∀ X : jv_M, jv_ret X ret post → jv_J X cc own K 0 (jv_L0 maxL av) [] h) : jv_Ct y cc maxL ret K av h post := by
  intro l G sz
  refine Met.ofW (cc := cc) (maxL := maxL) (ret := ret) hy rfl ?_
  intro p e s m args below meth c s₁ B hml hv
  obtain ⟨rfl, hsz, hP, hK, hD0, hX⟩ := hv
  have hts := atoms_spec (ws := .code y cc maxL ret :: jv_T) B.pre
  have hown : s.vm.findClass own = some m.cls := by rw [← ho]; exact findClass_of_methodNamed B.named
  subst hsz
  rw [lg_entry_eq]
  have hl' := lv_entry (av.map (jv_V G.2.2)) (n := maxL) (by rw [jv_sl_len]; exact hl)
  have J := body ((p, l, e, jv_rm K, s), (m, (av.map (jv_V G.2.2)).toArray, below, meth, c), (0, 0, MQ below (jv_Q G (va_A (jv_tr G h) s.heap.size) h.length post) (av.map (jv_V G.2.2)).toArray s 0 0 (va_A (jv_tr G h) s.heap.size)), (G, va_A (jv_tr G h) s.heap.size, h.length, maxL)) ⟨rfl, rfl, rfl, B.returns, B.notSynchronized⟩
  exact J ⟨B.exec, B.bytes, hml, hown, fun w hw => hts w (List.mem_cons_of_mem _ hw), hK, fun q hq => Or.inr hq, jv_D_to (hD0.self), hX, ⟨Nat.le_refl _, Nat.le_refl _⟩, Nat.zero_le _, Nat.zero_le _⟩ rfl s.heap [] _ hP va_S.rf (jv_L0_has hl hl')
/-- behind a call -/
theorem jv_goon {p : Program} {l : Launch} {e : Env} {R : Room} {s : State} {m : MethodId} {args : Array Value} {below : List Frame} {meth : Method} {c : Code} {H : Heap} {locs : List Loc} {cells slots : Nat} {Q : State → Prop} {pc : Nat} {ls : Array Slot} {rest st0 : List Value} {a : Array Value} {A0 A1 : Nat → Prop} {G : jv_G} {N : Nat} {post : Option Value → List jv_E → Prop}
    (hr : va_Run p l e R s m args below meth c H locs cells slots 0 0 (F0 m pc ls st0) rest (jv_Q G A1 N post a) A1) (hS : va_S A0 s.heap H locs) (hA : ∀ q, A1 q → A0 q)
    (kk : ∀ (v : Option Value) (h' : List jv_E) (H1 : Heap) (locs1 : List Loc), post v h' → h'.length = N → va_P G.1 jv_cl (jv_tr G h') H1 → va_S A0 s.heap H1 locs1 → W p l e R s m args below meth c H1 locs1 cells slots Q (F0 m (pc + 3) ls ((v.map (jv_V G.2.2)).toList ++ rest))) : W p l e R s m args below meth c H locs cells slots Q (F0 m pc ls st0) := by
  intro T hT X
  obtain ⟨v, st₀, t, T', L, h0, X', hL, e1, e2, ⟨⟨v', h', hv, hp, hn, hP'⟩, hz, hk⟩, st⟩ := hr T hT X
  cases hv
  rw [h0] at hz hk
  obtain ⟨t2, a1, b1⟩ := kk v' h' T'.heap (locs ++ L) hp hn (by rw [e1]; exact hP')
    ⟨Nat.le_trans hS.1 (by rw [e1]; exact hz), fun q h1 h2 => by rw [e1, hk q (Nat.lt_of_lt_of_le h1 hS.1) (fun z => h2 (hA q z))]; exact hS.2.1 q h1 h2, fun q hq => by
      rcases List.mem_append.mp hq with h | h
      · exact hS.2.2 q h
      · exact hA _ (hL q h)⟩ T' rfl X'
  exact ⟨t2, st t2 a1, b1⟩
theorem jv_good {y : MethodName} {bytes : ByteArray} {maxL : Nat} {ret : Option FieldType} (h : Cond.code y bytes maxL ret ∈ jv_T) : GoodIn jv_T (.code y bytes maxL ret :: jv_T) := fun w hw => by
  have hm : w ∈ jv_T := by
    rcases List.mem_cons.mp hw with rfl | q
    · exact h
    · exact q
  exact ⟨hm, good_of_word (List.mem_filter.mp hm).2⟩
theorem jv_blind {G : jv_G} {sz : Nat} {av : List Value} {h : List jv_E} : FrameBlind (jv_P G sz av h) := fun a U g mk q => by
  obtain ⟨q0, q1, qP, qK, qD, qX⟩ := q
  exact ⟨q0, q1, qP, va_K.moved (u := U) (U := U.calling g mk a) (Vm.Alike.refl U.vm) qK, qD, jv_X_same (s := U) (U := U.calling g mk a) rfl qX⟩
theorem jv_pre {p : Program} {R : Room} {s : State} {m : MethodId} {args : Array Value} {c : Code} {G : jv_G} {A : Nat → Prop} {N nL : Nat} {cc : ByteArray} {own : String} {K cells slots : Nat} {H : Heap} {locs : List Loc} {h : List jv_E} {av : List Value} (C : jv_C p R s m args c G A N nL cc own K cells slots) (hN : h.length = N) (hP : va_P G.1 jv_cl (jv_tr G h) H) (hS : va_S A s.heap H locs) :
    (∀ q, va_A (jv_tr G h) H.size q → A q) ∧ ∀ U : State, U.heap = H → s.WarmedH U.vm → jv_P G H.size av h (av.map (jv_V G.2.2)).toArray U := by
  obtain ⟨hx, hb, hml, hown, hts, hK, hA, hD, hX, hR, hR2⟩ := C
  subst hN
  have hF : ∀ q, va_A (jv_tr G h) H.size q → A q := fun q hq => by
    rcases hq with ⟨k, e, hk⟩ | hq
    · exact (jv_D_of hD).2 k _ hk
    · exact hA q (Nat.le_trans hS.1 hq)
  refine ⟨hF, fun U hU hW => ⟨rfl, by rw [hU], by rw [hU]; exact hP, va_K.moved hW.alike hK, (jv_D_of hD).weaken (fun _ _ _ _ => trivial), ?_⟩⟩
  rw [hU]
  exact jv_X_warm hW (jv_X_narrow hF (jv_X_kept hS.2.1 hX))
end
section
theorem jv_iconst {X : jv_M} {cc : ByteArray} {own : String} {K pc : Nat} {L : List (Option Value)} {S : List Value} {h : List jv_E} {n : Int} (d : decode cc pc = .ok (.iconst n, 1)) (kk : jv_J X cc own K (pc + 1) L (.int (jv_i n) :: S) h) : jv_J X cc own K (pc) L (S) h := by
  obtain ⟨⟨p, l, e, R, s⟩, ⟨m, args, below, meth, c⟩, ⟨cells, slots, Q⟩, ⟨G, A, N, nL⟩⟩ := X
  intro C hN H locs ls hP hS hL
  exact lv_iconst C.1 C.2.1 d rfl (kk C hN H locs ls hP hS hL)
theorem jv_bipush {X : jv_M} {cc : ByteArray} {own : String} {K pc : Nat} {L : List (Option Value)} {S : List Value} {h : List jv_E} {n : Int} (d : decode cc pc = .ok (.bipush n, 2)) (kk : jv_J X cc own K (pc + 2) L (.int (jv_i n) :: S) h) (hv : (Int8.ofInt n).toInt32 = jv_i n := by decide) : jv_J X cc own K (pc) L (S) h := by
  obtain ⟨⟨p, l, e, R, s⟩, ⟨m, args, below, meth, c⟩, ⟨cells, slots, Q⟩, ⟨G, A, N, nL⟩⟩ := X
  intro C hN H locs ls hP hS hL
  exact lv_bipush C.1 C.2.1 d hv (kk C hN H locs ls hP hS hL)
theorem jv_sipush {X : jv_M} {cc : ByteArray} {own : String} {K pc : Nat} {L : List (Option Value)} {S : List Value} {h : List jv_E} {n : Int} (d : decode cc pc = .ok (.sipush n, 3)) (kk : jv_J X cc own K (pc + 3) L (.int (jv_i n) :: S) h) (hv : (Int16.ofInt n).toInt32 = jv_i n := by decide) : jv_J X cc own K (pc) L (S) h := by
  obtain ⟨⟨p, l, e, R, s⟩, ⟨m, args, below, meth, c⟩, ⟨cells, slots, Q⟩, ⟨G, A, N, nL⟩⟩ := X
  intro C hN H locs ls hP hS hL
  exact lv_sipush C.1 C.2.1 d hv (kk C hN H locs ls hP hS hL)
theorem jv_lconst {X : jv_M} {cc : ByteArray} {own : String} {K pc : Nat} {L : List (Option Value)} {S : List Value} {h : List jv_E} {n : Fin 2} (z : Int) (d : decode cc pc = .ok (.lconst n, 1)) (kk : jv_J X cc own K (pc + 1) L (.long (jv_l z) :: S) h) (hv : Int64.ofNat (n : Nat) = jv_l z := by decide) : jv_J X cc own K (pc) L (S) h := by
  obtain ⟨⟨p, l, e, R, s⟩, ⟨m, args, below, meth, c⟩, ⟨cells, slots, Q⟩, ⟨G, A, N, nL⟩⟩ := X
  intro C hN H locs ls hP hS hL
  exact lv_lconst C.1 C.2.1 d hv (kk C hN H locs ls hP hS hL)
theorem jv_ldc {X : jv_M} {cc : ByteArray} {own : String} {K pc : Nat} {L : List (Option Value)} {S : List Value} {h : List jv_E} {index : Nat} {z : Int} (d : decode cc pc = .ok (.ldc index, 2)) (hw : Cond.constant own index (jv_i z) ∈ jv_T) (kk : jv_J X cc own K (pc + 2) L (.int (jv_i z) :: S) h) : jv_J X cc own K (pc) L (S) h := by
  obtain ⟨⟨p, l, e, R, s⟩, ⟨m, args, below, meth, c⟩, ⟨cells, slots, Q⟩, ⟨G, A, N, nL⟩⟩ := X
  intro C hN H locs ls hP hS hL
  exact lv_ldc C.1 C.2.1 C.2.2.2.1 (C.2.2.2.2.1 _ hw) d (kk C hN H locs ls hP hS hL)
theorem jv_ldc2 {X : jv_M} {cc : ByteArray} {own : String} {K pc : Nat} {L : List (Option Value)} {S : List Value} {h : List jv_E} {index : Nat} {z : Int} (d : decode cc pc = .ok (.ldc2_w index, 3)) (hw : Cond.constantLong own index (jv_l z) ∈ jv_T) (kk : jv_J X cc own K (pc + 3) L (.long (jv_l z) :: S) h) : jv_J X cc own K (pc) L (S) h := by
  obtain ⟨⟨p, l, e, R, s⟩, ⟨m, args, below, meth, c⟩, ⟨cells, slots, Q⟩, ⟨G, A, N, nL⟩⟩ := X
  intro C hN H locs ls hP hS hL
  exact lv_ldc2 C.1 C.2.1 C.2.2.2.1 (C.2.2.2.2.1 _ hw) d (kk C hN H locs ls hP hS hL)
theorem jv_iload_n {X : jv_M} {cc : ByteArray} {own : String} {K pc : Nat} {L : List (Option Value)} {S : List Value} {h : List jv_E} {k : Fin 4} {x : Int32} (d : decode cc pc = .ok (.iload_n k, 1)) (hl : L[(k : Nat)]? = some (some (.int x))) (kk : jv_J X cc own K (pc + 1) L (.int x :: S) h) : jv_J X cc own K (pc) L (S) h := by
  obtain ⟨⟨p, l, e, R, s⟩, ⟨m, args, below, meth, c⟩, ⟨cells, slots, Q⟩, ⟨G, A, N, nL⟩⟩ := X
  intro C hN H locs ls hP hS hL
  exact lv_iload_n C.1 C.2.1 d rfl (hL.2.2.1 _ _ hl) (kk C hN H locs ls hP hS hL)
theorem jv_iload {X : jv_M} {cc : ByteArray} {own : String} {K pc : Nat} {L : List (Option Value)} {S : List Value} {h : List jv_E} {i : Nat} {x : Int32} (d : decode cc pc = .ok (.iload i, 2)) (hl : L[i]? = some (some (.int x))) (kk : jv_J X cc own K (pc + 2) L (.int x :: S) h) : jv_J X cc own K (pc) L (S) h := by
  obtain ⟨⟨p, l, e, R, s⟩, ⟨m, args, below, meth, c⟩, ⟨cells, slots, Q⟩, ⟨G, A, N, nL⟩⟩ := X
  intro C hN H locs ls hP hS hL
  exact lv_iload C.1 C.2.1 d (hL.2.2.1 _ _ hl) (kk C hN H locs ls hP hS hL)
theorem jv_lload_n {X : jv_M} {cc : ByteArray} {own : String} {K pc : Nat} {L : List (Option Value)} {S : List Value} {h : List jv_E} {k : Fin 4} {x : Int64} (d : decode cc pc = .ok (.lload_n k, 1)) (hl : L[(k : Nat)]? = some (some (.long x))) (kk : jv_J X cc own K (pc + 1) L (.long x :: S) h) : jv_J X cc own K (pc) L (S) h := by
  obtain ⟨⟨p, l, e, R, s⟩, ⟨m, args, below, meth, c⟩, ⟨cells, slots, Q⟩, ⟨G, A, N, nL⟩⟩ := X
  intro C hN H locs ls hP hS hL
  exact lv_lload_n C.1 C.2.1 d rfl (hL.2.2.1 _ _ hl) (kk C hN H locs ls hP hS hL)
theorem jv_lload {X : jv_M} {cc : ByteArray} {own : String} {K pc : Nat} {L : List (Option Value)} {S : List Value} {h : List jv_E} {i : Nat} {x : Int64} (d : decode cc pc = .ok (.lload i, 2)) (hl : L[i]? = some (some (.long x))) (kk : jv_J X cc own K (pc + 2) L (.long x :: S) h) : jv_J X cc own K (pc) L (S) h := by
  obtain ⟨⟨p, l, e, R, s⟩, ⟨m, args, below, meth, c⟩, ⟨cells, slots, Q⟩, ⟨G, A, N, nL⟩⟩ := X
  intro C hN H locs ls hP hS hL
  exact lv_lload C.1 C.2.1 d (hL.2.2.1 _ _ hl) (kk C hN H locs ls hP hS hL)
theorem jv_aload_n {X : jv_M} {cc : ByteArray} {own : String} {K pc : Nat} {L : List (Option Value)} {S : List Value} {h : List jv_E} {k : Fin 4} {x : Nat} (d : decode cc pc = .ok (.aload_n k, 1)) (hl : L[(k : Nat)]? = some (some (.ref x))) (kk : jv_J X cc own K (pc + 1) L (.ref x :: S) h) : jv_J X cc own K (pc) L (S) h := by
  obtain ⟨⟨p, l, e, R, s⟩, ⟨m, args, below, meth, c⟩, ⟨cells, slots, Q⟩, ⟨G, A, N, nL⟩⟩ := X
  intro C hN H locs ls hP hS hL
  exact lv_aload_n C.1 C.2.1 d rfl (hL.2.2.1 _ _ hl) (kk C hN H locs ls hP hS hL)
theorem jv_aload {X : jv_M} {cc : ByteArray} {own : String} {K pc : Nat} {L : List (Option Value)} {S : List Value} {h : List jv_E} {i : Nat} {x : Nat} (d : decode cc pc = .ok (.aload i, 2)) (hl : L[i]? = some (some (.ref x))) (kk : jv_J X cc own K (pc + 2) L (.ref x :: S) h) : jv_J X cc own K (pc) L (S) h := by
  obtain ⟨⟨p, l, e, R, s⟩, ⟨m, args, below, meth, c⟩, ⟨cells, slots, Q⟩, ⟨G, A, N, nL⟩⟩ := X
  intro C hN H locs ls hP hS hL
  exact lv_aload C.1 C.2.1 d (hL.2.2.1 _ _ hl) (kk C hN H locs ls hP hS hL)
theorem jv_istore_n {X : jv_M} {cc : ByteArray} {own : String} {K pc : Nat} {L : List (Option Value)} {S : List Value} {h : List jv_E} {k : Fin 4} {x : Int32} (d : decode cc pc = .ok (.istore_n k, 1)) (ok : jv_ok L (k : Nat) = true) (hn : (k : Nat) < L.length) (kk : jv_J X cc own K (pc + 1) (L.set (k : Nat) (some (.int x))) (S) h) : jv_J X cc own K (pc) L (.int x :: S) h := by
  obtain ⟨⟨p, l, e, R, s⟩, ⟨m, args, below, meth, c⟩, ⟨cells, slots, Q⟩, ⟨G, A, N, nL⟩⟩ := X
  intro C hN H locs ls hP hS hL
  exact lv_istore_n C.1 C.2.1 d rfl (jv_L_has hL) (Nat.lt_of_lt_of_le hn hL.2.2.2) rfl (fun ls hL9 => kk C hN H locs ls hP hS (jv_L_s1 (v := .int x) hL.2.2.2 ok hL9))
theorem jv_istore {X : jv_M} {cc : ByteArray} {own : String} {K pc : Nat} {L : List (Option Value)} {S : List Value} {h : List jv_E} {i : Nat} {x : Int32} (d : decode cc pc = .ok (.istore i, 2)) (ok : jv_ok L i = true) (hn : i < L.length) (kk : jv_J X cc own K (pc + 2) (L.set i (some (.int x))) (S) h) : jv_J X cc own K (pc) L (.int x :: S) h := by
  obtain ⟨⟨p, l, e, R, s⟩, ⟨m, args, below, meth, c⟩, ⟨cells, slots, Q⟩, ⟨G, A, N, nL⟩⟩ := X
  intro C hN H locs ls hP hS hL
  exact lv_istore C.1 C.2.1 d (jv_L_has hL) (Nat.lt_of_lt_of_le hn hL.2.2.2) rfl (fun ls hL9 => kk C hN H locs ls hP hS (jv_L_s1 (v := .int x) hL.2.2.2 ok hL9))
theorem jv_lstore_n {X : jv_M} {cc : ByteArray} {own : String} {K pc : Nat} {L : List (Option Value)} {S : List Value} {h : List jv_E} {k : Fin 4} {x : Int64} (d : decode cc pc = .ok (.lstore_n k, 1)) (ok : jv_ok L (k : Nat) = true) (hn : (k : Nat) + 1 < L.length) (kk : jv_J X cc own K (pc + 1) ((L.set ((k : Nat) + 1) none).set (k : Nat) (some (.long x))) (S) h) : jv_J X cc own K (pc) L (.long x :: S) h := by
  obtain ⟨⟨p, l, e, R, s⟩, ⟨m, args, below, meth, c⟩, ⟨cells, slots, Q⟩, ⟨G, A, N, nL⟩⟩ := X
  intro C hN H locs ls hP hS hL
  exact lv_lstore_n C.1 C.2.1 d rfl (jv_L_has hL) (Nat.lt_of_lt_of_le hn hL.2.2.2) rfl (fun ls hL9 => kk C hN H locs ls hP hS (jv_L_s2 (v := .long x) hL.2.2.2 ok hL9))
theorem jv_lstore {X : jv_M} {cc : ByteArray} {own : String} {K pc : Nat} {L : List (Option Value)} {S : List Value} {h : List jv_E} {i : Nat} {x : Int64} (d : decode cc pc = .ok (.lstore i, 2)) (ok : jv_ok L i = true) (hn : i + 1 < L.length) (kk : jv_J X cc own K (pc + 2) ((L.set (i + 1) none).set i (some (.long x))) (S) h) : jv_J X cc own K (pc) L (.long x :: S) h := by
  obtain ⟨⟨p, l, e, R, s⟩, ⟨m, args, below, meth, c⟩, ⟨cells, slots, Q⟩, ⟨G, A, N, nL⟩⟩ := X
  intro C hN H locs ls hP hS hL
  exact lv_lstore C.1 C.2.1 d (jv_L_has hL) (Nat.lt_of_lt_of_le hn hL.2.2.2) rfl (fun ls hL9 => kk C hN H locs ls hP hS (jv_L_s2 (v := .long x) hL.2.2.2 ok hL9))
theorem jv_astore_n {X : jv_M} {cc : ByteArray} {own : String} {K pc : Nat} {L : List (Option Value)} {S : List Value} {h : List jv_E} {k : Fin 4} {x : Nat} (d : decode cc pc = .ok (.astore_n k, 1)) (ok : jv_ok L (k : Nat) = true) (hn : (k : Nat) < L.length) (kk : jv_J X cc own K (pc + 1) (L.set (k : Nat) (some (.ref x))) (S) h) : jv_J X cc own K (pc) L (.ref x :: S) h := by
  obtain ⟨⟨p, l, e, R, s⟩, ⟨m, args, below, meth, c⟩, ⟨cells, slots, Q⟩, ⟨G, A, N, nL⟩⟩ := X
  intro C hN H locs ls hP hS hL
  exact lv_astore_n C.1 C.2.1 d rfl (jv_L_has hL) (Nat.lt_of_lt_of_le hn hL.2.2.2) rfl (fun ls hL9 => kk C hN H locs ls hP hS (jv_L_s1 (v := .ref x) hL.2.2.2 ok hL9))
theorem jv_astore {X : jv_M} {cc : ByteArray} {own : String} {K pc : Nat} {L : List (Option Value)} {S : List Value} {h : List jv_E} {i : Nat} {x : Nat} (d : decode cc pc = .ok (.astore i, 2)) (ok : jv_ok L i = true) (hn : i < L.length) (kk : jv_J X cc own K (pc + 2) (L.set i (some (.ref x))) (S) h) : jv_J X cc own K (pc) L (.ref x :: S) h := by
  obtain ⟨⟨p, l, e, R, s⟩, ⟨m, args, below, meth, c⟩, ⟨cells, slots, Q⟩, ⟨G, A, N, nL⟩⟩ := X
  intro C hN H locs ls hP hS hL
  exact lv_astore C.1 C.2.1 d (jv_L_has hL) (Nat.lt_of_lt_of_le hn hL.2.2.2) rfl (fun ls hL9 => kk C hN H locs ls hP hS (jv_L_s1 (v := .ref x) hL.2.2.2 ok hL9))
theorem jv_iinc {X : jv_M} {cc : ByteArray} {own : String} {K pc : Nat} {L : List (Option Value)} {S : List Value} {h : List jv_E} {i : Nat} {n a : Int} (d : decode cc pc = .ok (.iinc i n, 3)) (hl : L[i]? = some (some (.int (jv_i a)))) (ok : jv_ok L i = true) (kk : jv_J X cc own K (pc + 3) (L.set i (some (.int (jv_i (a + n))))) (S) h) : jv_J X cc own K (pc) L (S) h := by
  obtain ⟨⟨p, l, e, R, s⟩, ⟨m, args, below, meth, c⟩, ⟨cells, slots, Q⟩, ⟨G, A, N, nL⟩⟩ := X
  intro C hN H locs ls hP hS hL
  have hn : i < L.length := (List.getElem?_eq_some_iff.mp hl).1
  obtain ⟨k, hk⟩ := List.getElem?_of_mem (jv_ls_mem (ad := G.2.2) hl)
  exact lv_iinc C.1 C.2.1 d (jv_L_has hL) hk (v := jv_i (a + n)) (jv_i_add a n) (Nat.lt_of_lt_of_le hn hL.2.2.2) rfl (fun ls hL9 => kk C hN H locs ls hP hS (jv_L_s1 (v := .int (jv_i (a + n))) hL.2.2.2 ok hL9))
theorem jv_iadd {X : jv_M} {cc : ByteArray} {own : String} {K pc : Nat} {L : List (Option Value)} {S : List Value} {h : List jv_E} {a b : Int} (d : decode cc pc = .ok (.iadd, 1)) (kk : jv_J X cc own K (pc + 1) L (.int (jv_i (a + b)) :: S) h) : jv_J X cc own K (pc) L (.int (jv_i b) :: .int (jv_i a) :: S) h := by
  obtain ⟨⟨p, l, e, R, s⟩, ⟨m, args, below, meth, c⟩, ⟨cells, slots, Q⟩, ⟨G, A, N, nL⟩⟩ := X
  intro C hN H locs ls hP hS hL
  exact lv_iadd C.1 C.2.1 d (by rw [jv_i_add]; exact kk C hN H locs ls hP hS hL)
theorem jv_isub {X : jv_M} {cc : ByteArray} {own : String} {K pc : Nat} {L : List (Option Value)} {S : List Value} {h : List jv_E} {a b : Int} (d : decode cc pc = .ok (.isub, 1)) (kk : jv_J X cc own K (pc + 1) L (.int (jv_i (a - b)) :: S) h) : jv_J X cc own K (pc) L (.int (jv_i b) :: .int (jv_i a) :: S) h := by
  obtain ⟨⟨p, l, e, R, s⟩, ⟨m, args, below, meth, c⟩, ⟨cells, slots, Q⟩, ⟨G, A, N, nL⟩⟩ := X
  intro C hN H locs ls hP hS hL
  exact lv_isub C.1 C.2.1 d (by rw [jv_i_sub]; exact kk C hN H locs ls hP hS hL)
theorem jv_imul {X : jv_M} {cc : ByteArray} {own : String} {K pc : Nat} {L : List (Option Value)} {S : List Value} {h : List jv_E} {a b : Int} (d : decode cc pc = .ok (.imul, 1)) (kk : jv_J X cc own K (pc + 1) L (.int (jv_i (a * b)) :: S) h) : jv_J X cc own K (pc) L (.int (jv_i b) :: .int (jv_i a) :: S) h := by
  obtain ⟨⟨p, l, e, R, s⟩, ⟨m, args, below, meth, c⟩, ⟨cells, slots, Q⟩, ⟨G, A, N, nL⟩⟩ := X
  intro C hN H locs ls hP hS hL
  exact lv_imul C.1 C.2.1 d (by rw [jv_i_mul]; exact kk C hN H locs ls hP hS hL)
theorem jv_ladd {X : jv_M} {cc : ByteArray} {own : String} {K pc : Nat} {L : List (Option Value)} {S : List Value} {h : List jv_E} {a b : Int} (d : decode cc pc = .ok (.ladd, 1)) (kk : jv_J X cc own K (pc + 1) L (.long (jv_l (a + b)) :: S) h) : jv_J X cc own K (pc) L (.long (jv_l b) :: .long (jv_l a) :: S) h := by
  obtain ⟨⟨p, l, e, R, s⟩, ⟨m, args, below, meth, c⟩, ⟨cells, slots, Q⟩, ⟨G, A, N, nL⟩⟩ := X
  intro C hN H locs ls hP hS hL
  exact lv_ladd C.1 C.2.1 d (by rw [jv_l_add]; exact kk C hN H locs ls hP hS hL)
theorem jv_lsub {X : jv_M} {cc : ByteArray} {own : String} {K pc : Nat} {L : List (Option Value)} {S : List Value} {h : List jv_E} {a b : Int} (d : decode cc pc = .ok (.lsub, 1)) (kk : jv_J X cc own K (pc + 1) L (.long (jv_l (a - b)) :: S) h) : jv_J X cc own K (pc) L (.long (jv_l b) :: .long (jv_l a) :: S) h := by
  obtain ⟨⟨p, l, e, R, s⟩, ⟨m, args, below, meth, c⟩, ⟨cells, slots, Q⟩, ⟨G, A, N, nL⟩⟩ := X
  intro C hN H locs ls hP hS hL
  exact lv_lsub C.1 C.2.1 d (by rw [jv_l_sub]; exact kk C hN H locs ls hP hS hL)
theorem jv_lmul {X : jv_M} {cc : ByteArray} {own : String} {K pc : Nat} {L : List (Option Value)} {S : List Value} {h : List jv_E} {a b : Int} (d : decode cc pc = .ok (.lmul, 1)) (kk : jv_J X cc own K (pc + 1) L (.long (jv_l (a * b)) :: S) h) : jv_J X cc own K (pc) L (.long (jv_l b) :: .long (jv_l a) :: S) h := by
  obtain ⟨⟨p, l, e, R, s⟩, ⟨m, args, below, meth, c⟩, ⟨cells, slots, Q⟩, ⟨G, A, N, nL⟩⟩ := X
  intro C hN H locs ls hP hS hL
  exact lv_lmul C.1 C.2.1 d (by rw [jv_l_mul]; exact kk C hN H locs ls hP hS hL)
theorem jv_ineg {X : jv_M} {cc : ByteArray} {own : String} {K pc : Nat} {L : List (Option Value)} {S : List Value} {h : List jv_E} {a : Int} (d : decode cc pc = .ok (.ineg, 1)) (kk : jv_J X cc own K (pc + 1) L (.int (jv_i (-a)) :: S) h) : jv_J X cc own K (pc) L (.int (jv_i a) :: S) h := by
  obtain ⟨⟨p, l, e, R, s⟩, ⟨m, args, below, meth, c⟩, ⟨cells, slots, Q⟩, ⟨G, A, N, nL⟩⟩ := X
  intro C hN H locs ls hP hS hL
  exact lv_ineg C.1 C.2.1 d (by rw [jv_i_neg]; exact kk C hN H locs ls hP hS hL)
theorem jv_lneg {X : jv_M} {cc : ByteArray} {own : String} {K pc : Nat} {L : List (Option Value)} {S : List Value} {h : List jv_E} {a : Int} (d : decode cc pc = .ok (.lneg, 1)) (kk : jv_J X cc own K (pc + 1) L (.long (jv_l (-a)) :: S) h) : jv_J X cc own K (pc) L (.long (jv_l a) :: S) h := by
  obtain ⟨⟨p, l, e, R, s⟩, ⟨m, args, below, meth, c⟩, ⟨cells, slots, Q⟩, ⟨G, A, N, nL⟩⟩ := X
  intro C hN H locs ls hP hS hL
  exact lv_lneg C.1 C.2.1 d (by rw [jv_l_neg]; exact kk C hN H locs ls hP hS hL)
theorem jv_idiv {X : jv_M} {cc : ByteArray} {own : String} {K pc : Nat} {L : List (Option Value)} {S : List Value} {h : List jv_E} {a b : Int} (d : decode cc pc = .ok (.idiv, 1)) (kk : jv_J X cc own K (pc + 1) L (.int (jv_i (a / b)) :: S) h) (ha : 0 ≤ a ∧ a ≤ 2147483647 := by omega) (hb : 0 < b ∧ b ≤ 2147483647 := by omega) : jv_J X cc own K (pc) L (.int (jv_i b) :: .int (jv_i a) :: S) h := by
  obtain ⟨⟨p, l, e, R, s⟩, ⟨m, args, below, meth, c⟩, ⟨cells, slots, Q⟩, ⟨G, A, N, nL⟩⟩ := X
  intro C hN H locs ls hP hS hL
  exact lv_idiv C.1 C.2.1 d (fun z => by have z2 := (jv_i_eq (a := b) (b := 0) (by omega) (by omega)).mp z; omega) (by rw [jv_i_div ha hb]; exact kk C hN H locs ls hP hS hL)
theorem jv_ldiv {X : jv_M} {cc : ByteArray} {own : String} {K pc : Nat} {L : List (Option Value)} {S : List Value} {h : List jv_E} {a b : Int} (d : decode cc pc = .ok (.ldiv, 1)) (kk : jv_J X cc own K (pc + 1) L (.long (jv_l (a / b)) :: S) h) (ha : 0 ≤ a ∧ a ≤ 9223372036854775807 := by omega) (hb : 0 < b ∧ b ≤ 9223372036854775807 := by omega) : jv_J X cc own K (pc) L (.long (jv_l b) :: .long (jv_l a) :: S) h := by
  obtain ⟨⟨p, l, e, R, s⟩, ⟨m, args, below, meth, c⟩, ⟨cells, slots, Q⟩, ⟨G, A, N, nL⟩⟩ := X
  intro C hN H locs ls hP hS hL
  exact lv_ldiv C.1 C.2.1 d (fun z => by have z2 := (jv_l_eq (a := b) (b := 0) (by omega) (by omega)).mp z; omega) (by rw [jv_l_div ha hb]; exact kk C hN H locs ls hP hS hL)
theorem jv_i2l {X : jv_M} {cc : ByteArray} {own : String} {K pc : Nat} {L : List (Option Value)} {S : List Value} {h : List jv_E} {a : Int} (d : decode cc pc = .ok (.i2l, 1)) (kk : jv_J X cc own K (pc + 1) L (.long (jv_l a) :: S) h) (ha : -2147483648 ≤ a ∧ a ≤ 2147483647 := by omega) : jv_J X cc own K (pc) L (.int (jv_i a) :: S) h := by
  obtain ⟨⟨p, l, e, R, s⟩, ⟨m, args, below, meth, c⟩, ⟨cells, slots, Q⟩, ⟨G, A, N, nL⟩⟩ := X
  intro C hN H locs ls hP hS hL
  exact lv_i2l C.1 C.2.1 d (jv_i_l ha) (kk C hN H locs ls hP hS hL)
theorem jv_l2i {X : jv_M} {cc : ByteArray} {own : String} {K pc : Nat} {L : List (Option Value)} {S : List Value} {h : List jv_E} {a : Int} (d : decode cc pc = .ok (.l2i, 1)) (kk : jv_J X cc own K (pc + 1) L (.int (jv_i a) :: S) h) : jv_J X cc own K (pc) L (.long (jv_l a) :: S) h := by
  obtain ⟨⟨p, l, e, R, s⟩, ⟨m, args, below, meth, c⟩, ⟨cells, slots, Q⟩, ⟨G, A, N, nL⟩⟩ := X
  intro C hN H locs ls hP hS hL
  exact lv_l2i C.1 C.2.1 d (jv_l_i a) (kk C hN H locs ls hP hS hL)
theorem jv_i2c {X : jv_M} {cc : ByteArray} {own : String} {K pc : Nat} {L : List (Option Value)} {S : List Value} {h : List jv_E} {a : Int} (d : decode cc pc = .ok (.i2c, 1)) (kk : jv_J X cc own K (pc + 1) L (.int (jv_i a) :: S) h) (ha : 0 ≤ a ∧ a < 65536 := by omega) : jv_J X cc own K (pc) L (.int (jv_i a) :: S) h := by
  obtain ⟨⟨p, l, e, R, s⟩, ⟨m, args, below, meth, c⟩, ⟨cells, slots, Q⟩, ⟨G, A, N, nL⟩⟩ := X
  intro C hN H locs ls hP hS hL
  exact lv_i2c C.1 C.2.1 d (jv_char ha) (kk C hN H locs ls hP hS hL)
theorem jv_dup {X : jv_M} {cc : ByteArray} {own : String} {K pc : Nat} {L : List (Option Value)} {S : List Value} {h : List jv_E} {v : Value} (d : decode cc pc = .ok (.dup, 1)) (hv : v.category = 1) (kk : jv_J X cc own K (pc + 1) L (v :: v :: S) h) : jv_J X cc own K (pc) L (v :: S) h := by
  obtain ⟨⟨p, l, e, R, s⟩, ⟨m, args, below, meth, c⟩, ⟨cells, slots, Q⟩, ⟨G, A, N, nL⟩⟩ := X
  intro C hN H locs ls hP hS hL
  exact lv_dup C.1 C.2.1 d (by rw [jv_V_cat]; exact hv) (kk C hN H locs ls hP hS hL)
theorem jv_pop {X : jv_M} {cc : ByteArray} {own : String} {K pc : Nat} {L : List (Option Value)} {S : List Value} {h : List jv_E} {v : Value} (d : decode cc pc = .ok (.pop, 1)) (hv : v.category = 1) (kk : jv_J X cc own K (pc + 1) L (S) h) : jv_J X cc own K (pc) L (v :: S) h := by
  obtain ⟨⟨p, l, e, R, s⟩, ⟨m, args, below, meth, c⟩, ⟨cells, slots, Q⟩, ⟨G, A, N, nL⟩⟩ := X
  intro C hN H locs ls hP hS hL
  exact lv_pop C.1 C.2.1 d (by rw [jv_V_cat]; exact hv) (kk C hN H locs ls hP hS hL)
theorem jv_dup2 {X : jv_M} {cc : ByteArray} {own : String} {K pc : Nat} {L : List (Option Value)} {S : List Value} {h : List jv_E} {v w : Value} (d : decode cc pc = .ok (.dup2, 1)) (hv : v.category = 1) (hw : w.category = 1) (kk : jv_J X cc own K (pc + 1) L (v :: w :: v :: w :: S) h) : jv_J X cc own K (pc) L (v :: w :: S) h := by
  obtain ⟨⟨p, l, e, R, s⟩, ⟨m, args, below, meth, c⟩, ⟨cells, slots, Q⟩, ⟨G, A, N, nL⟩⟩ := X
  intro C hN H locs ls hP hS hL
  exact lv_dup2_11 C.1 C.2.1 d (by rw [jv_V_cat]; exact hv) (by rw [jv_V_cat]; exact hw) (kk C hN H locs ls hP hS hL)
theorem jv_icmp_eq {X : jv_M} {cc : ByteArray} {own : String} {K pc : Nat} {L : List (Option Value)} {S : List Value} {h : List jv_E} {a b : Int} {off : Int} (tgt : Nat) (d : decode cc pc = .ok (.if_icmp .eq off, 3)) (kt : a = b → jv_J X cc own K (tgt) L (S) h) (kf : a ≠ b → jv_J X cc own K (pc + 3) L (S) h) (ha : -2147483648 ≤ a ∧ a ≤ 2147483647 := by omega) (hb : -2147483648 ≤ b ∧ b ≤ 2147483647 := by omega) (ht : (pc : Int) + off = (tgt : Int) := by decide) : jv_J X cc own K (pc) L (.int (jv_i b) :: .int (jv_i a) :: S) h := by
  obtain ⟨⟨p, l, e, R, s⟩, ⟨m, args, below, meth, c⟩, ⟨cells, slots, Q⟩, ⟨G, A, N, nL⟩⟩ := X
  intro C hN H locs ls hP hS hL
  exact lv_icmp_eq C.1 C.2.1 d ht (fun z => kt ((jv_i_eq ha hb).mp z) C hN H locs ls hP hS hL) (fun z => kf (fun q => z ((jv_i_eq ha hb).mpr q)) C hN H locs ls hP hS hL)
theorem jv_if_eq {X : jv_M} {cc : ByteArray} {own : String} {K pc : Nat} {L : List (Option Value)} {S : List Value} {h : List jv_E} {a : Int} {off : Int} (tgt : Nat) (d : decode cc pc = .ok (.ifCond .eq off, 3)) (kt : a = 0 → jv_J X cc own K (tgt) L (S) h) (kf : a ≠ 0 → jv_J X cc own K (pc + 3) L (S) h) (ha : -2147483648 ≤ a ∧ a ≤ 2147483647 := by omega) (ht : (pc : Int) + off = (tgt : Int) := by decide) : jv_J X cc own K (pc) L (.int (jv_i a) :: S) h := by
  obtain ⟨⟨p, l, e, R, s⟩, ⟨m, args, below, meth, c⟩, ⟨cells, slots, Q⟩, ⟨G, A, N, nL⟩⟩ := X
  intro C hN H locs ls hP hS hL
  exact lv_if_eq C.1 C.2.1 d ht (fun z => kt ((jv_i_eq (a := a) (b := 0) ha (by decide)).mp z) C hN H locs ls hP hS hL) (fun z => kf (fun q => z ((jv_i_eq (a := a) (b := 0) ha (by decide)).mpr q)) C hN H locs ls hP hS hL)
theorem jv_lcmp_eq {X : jv_M} {cc : ByteArray} {own : String} {K pc : Nat} {L : List (Option Value)} {S : List Value} {h : List jv_E} {a b : Int} {off : Int} (tgt : Nat) (d : decode cc pc = .ok (.lcmp, 1)) (d2 : decode cc (pc + 1) = .ok (.ifCond .eq off, 3)) (kt : a = b → jv_J X cc own K (tgt) L (S) h) (kf : a ≠ b → jv_J X cc own K (pc + 4) L (S) h) (ha : -9223372036854775808 ≤ a ∧ a ≤ 9223372036854775807 := by omega) (hb : -9223372036854775808 ≤ b ∧ b ≤ 9223372036854775807 := by omega) (ht : ((pc + 1 : Nat) : Int) + off = (tgt : Int) := by decide) : jv_J X cc own K (pc) L (.long (jv_l b) :: .long (jv_l a) :: S) h := by
  obtain ⟨⟨p, l, e, R, s⟩, ⟨m, args, below, meth, c⟩, ⟨cells, slots, Q⟩, ⟨G, A, N, nL⟩⟩ := X
  intro C hN H locs ls hP hS hL
  exact W.lcmp C.1 C.2.1 d (lv_if_eq C.1 C.2.1 d2 ht (fun z => kt ((jv_l_eq ha hb).mp ((lg_cmp_eq _ _).mp z)) C hN H locs ls hP hS hL) (fun z => kf (fun q => z ((lg_cmp_eq _ _).mpr ((jv_l_eq ha hb).mpr q))) C hN H locs ls hP hS hL))
theorem jv_icmp_ne {X : jv_M} {cc : ByteArray} {own : String} {K pc : Nat} {L : List (Option Value)} {S : List Value} {h : List jv_E} {a b : Int} {off : Int} (tgt : Nat) (d : decode cc pc = .ok (.if_icmp .ne off, 3)) (kt : a ≠ b → jv_J X cc own K (tgt) L (S) h) (kf : a = b → jv_J X cc own K (pc + 3) L (S) h) (ha : -2147483648 ≤ a ∧ a ≤ 2147483647 := by omega) (hb : -2147483648 ≤ b ∧ b ≤ 2147483647 := by omega) (ht : (pc : Int) + off = (tgt : Int) := by decide) : jv_J X cc own K (pc) L (.int (jv_i b) :: .int (jv_i a) :: S) h := by
  obtain ⟨⟨p, l, e, R, s⟩, ⟨m, args, below, meth, c⟩, ⟨cells, slots, Q⟩, ⟨G, A, N, nL⟩⟩ := X
  intro C hN H locs ls hP hS hL
  exact lv_icmp_ne C.1 C.2.1 d ht (fun z => kt (fun q => z ((jv_i_eq ha hb).mpr q)) C hN H locs ls hP hS hL) (fun z => kf ((jv_i_eq ha hb).mp z) C hN H locs ls hP hS hL)
theorem jv_if_ne {X : jv_M} {cc : ByteArray} {own : String} {K pc : Nat} {L : List (Option Value)} {S : List Value} {h : List jv_E} {a : Int} {off : Int} (tgt : Nat) (d : decode cc pc = .ok (.ifCond .ne off, 3)) (kt : a ≠ 0 → jv_J X cc own K (tgt) L (S) h) (kf : a = 0 → jv_J X cc own K (pc + 3) L (S) h) (ha : -2147483648 ≤ a ∧ a ≤ 2147483647 := by omega) (ht : (pc : Int) + off = (tgt : Int) := by decide) : jv_J X cc own K (pc) L (.int (jv_i a) :: S) h := by
  obtain ⟨⟨p, l, e, R, s⟩, ⟨m, args, below, meth, c⟩, ⟨cells, slots, Q⟩, ⟨G, A, N, nL⟩⟩ := X
  intro C hN H locs ls hP hS hL
  exact lv_if_ne C.1 C.2.1 d ht (fun z => kt (fun q => z ((jv_i_eq (a := a) (b := 0) ha (by decide)).mpr q)) C hN H locs ls hP hS hL) (fun z => kf ((jv_i_eq (a := a) (b := 0) ha (by decide)).mp z) C hN H locs ls hP hS hL)
theorem jv_lcmp_ne {X : jv_M} {cc : ByteArray} {own : String} {K pc : Nat} {L : List (Option Value)} {S : List Value} {h : List jv_E} {a b : Int} {off : Int} (tgt : Nat) (d : decode cc pc = .ok (.lcmp, 1)) (d2 : decode cc (pc + 1) = .ok (.ifCond .ne off, 3)) (kt : a ≠ b → jv_J X cc own K (tgt) L (S) h) (kf : a = b → jv_J X cc own K (pc + 4) L (S) h) (ha : -9223372036854775808 ≤ a ∧ a ≤ 9223372036854775807 := by omega) (hb : -9223372036854775808 ≤ b ∧ b ≤ 9223372036854775807 := by omega) (ht : ((pc + 1 : Nat) : Int) + off = (tgt : Int) := by decide) : jv_J X cc own K (pc) L (.long (jv_l b) :: .long (jv_l a) :: S) h := by
  obtain ⟨⟨p, l, e, R, s⟩, ⟨m, args, below, meth, c⟩, ⟨cells, slots, Q⟩, ⟨G, A, N, nL⟩⟩ := X
  intro C hN H locs ls hP hS hL
  exact W.lcmp C.1 C.2.1 d (lv_if_ne C.1 C.2.1 d2 ht (fun z => kt (fun q => z ((lg_cmp_eq _ _).mpr ((jv_l_eq ha hb).mpr q))) C hN H locs ls hP hS hL) (fun z => kf ((jv_l_eq ha hb).mp ((lg_cmp_eq _ _).mp z)) C hN H locs ls hP hS hL))
theorem jv_icmp_lt {X : jv_M} {cc : ByteArray} {own : String} {K pc : Nat} {L : List (Option Value)} {S : List Value} {h : List jv_E} {a b : Int} {off : Int} (tgt : Nat) (d : decode cc pc = .ok (.if_icmp .lt off, 3)) (kt : a < b → jv_J X cc own K (tgt) L (S) h) (kf : b ≤ a → jv_J X cc own K (pc + 3) L (S) h) (ha : -2147483648 ≤ a ∧ a ≤ 2147483647 := by omega) (hb : -2147483648 ≤ b ∧ b ≤ 2147483647 := by omega) (ht : (pc : Int) + off = (tgt : Int) := by decide) : jv_J X cc own K (pc) L (.int (jv_i b) :: .int (jv_i a) :: S) h := by
  obtain ⟨⟨p, l, e, R, s⟩, ⟨m, args, below, meth, c⟩, ⟨cells, slots, Q⟩, ⟨G, A, N, nL⟩⟩ := X
  intro C hN H locs ls hP hS hL
  exact lv_icmp_lt C.1 C.2.1 d ht (fun z => kt ((jv_i_lt ha hb).mp z) C hN H locs ls hP hS hL) (fun z => kf (by have q := (not_congr (jv_i_lt ha hb)).mp z; omega) C hN H locs ls hP hS hL)
theorem jv_if_lt {X : jv_M} {cc : ByteArray} {own : String} {K pc : Nat} {L : List (Option Value)} {S : List Value} {h : List jv_E} {a : Int} {off : Int} (tgt : Nat) (d : decode cc pc = .ok (.ifCond .lt off, 3)) (kt : a < 0 → jv_J X cc own K (tgt) L (S) h) (kf : 0 ≤ a → jv_J X cc own K (pc + 3) L (S) h) (ha : -2147483648 ≤ a ∧ a ≤ 2147483647 := by omega) (ht : (pc : Int) + off = (tgt : Int) := by decide) : jv_J X cc own K (pc) L (.int (jv_i a) :: S) h := by
  obtain ⟨⟨p, l, e, R, s⟩, ⟨m, args, below, meth, c⟩, ⟨cells, slots, Q⟩, ⟨G, A, N, nL⟩⟩ := X
  intro C hN H locs ls hP hS hL
  exact lv_if_lt C.1 C.2.1 d ht (fun z => kt ((jv_i_lt (a := a) (b := 0) ha (by decide)).mp z) C hN H locs ls hP hS hL) (fun z => kf (by have q := (not_congr (jv_i_lt (a := a) (b := 0) ha (by decide))).mp z; omega) C hN H locs ls hP hS hL)
theorem jv_lcmp_lt {X : jv_M} {cc : ByteArray} {own : String} {K pc : Nat} {L : List (Option Value)} {S : List Value} {h : List jv_E} {a b : Int} {off : Int} (tgt : Nat) (d : decode cc pc = .ok (.lcmp, 1)) (d2 : decode cc (pc + 1) = .ok (.ifCond .lt off, 3)) (kt : a < b → jv_J X cc own K (tgt) L (S) h) (kf : b ≤ a → jv_J X cc own K (pc + 4) L (S) h) (ha : -9223372036854775808 ≤ a ∧ a ≤ 9223372036854775807 := by omega) (hb : -9223372036854775808 ≤ b ∧ b ≤ 9223372036854775807 := by omega) (ht : ((pc + 1 : Nat) : Int) + off = (tgt : Int) := by decide) : jv_J X cc own K (pc) L (.long (jv_l b) :: .long (jv_l a) :: S) h := by
  obtain ⟨⟨p, l, e, R, s⟩, ⟨m, args, below, meth, c⟩, ⟨cells, slots, Q⟩, ⟨G, A, N, nL⟩⟩ := X
  intro C hN H locs ls hP hS hL
  exact W.lcmp C.1 C.2.1 d (lv_if_lt C.1 C.2.1 d2 ht (fun z => kt ((jv_l_lt ha hb).mp ((lg_cmp_lt _ _).mp z)) C hN H locs ls hP hS hL) (fun z => kf (by have q := (not_congr ((lg_cmp_lt _ _).trans (jv_l_lt ha hb))).mp z; omega) C hN H locs ls hP hS hL))
theorem jv_icmp_ge {X : jv_M} {cc : ByteArray} {own : String} {K pc : Nat} {L : List (Option Value)} {S : List Value} {h : List jv_E} {a b : Int} {off : Int} (tgt : Nat) (d : decode cc pc = .ok (.if_icmp .ge off, 3)) (kt : b ≤ a → jv_J X cc own K (tgt) L (S) h) (kf : a < b → jv_J X cc own K (pc + 3) L (S) h) (ha : -2147483648 ≤ a ∧ a ≤ 2147483647 := by omega) (hb : -2147483648 ≤ b ∧ b ≤ 2147483647 := by omega) (ht : (pc : Int) + off = (tgt : Int) := by decide) : jv_J X cc own K (pc) L (.int (jv_i b) :: .int (jv_i a) :: S) h := by
  obtain ⟨⟨p, l, e, R, s⟩, ⟨m, args, below, meth, c⟩, ⟨cells, slots, Q⟩, ⟨G, A, N, nL⟩⟩ := X
  intro C hN H locs ls hP hS hL
  exact lv_icmp_ge C.1 C.2.1 d ht (fun z => kt ((jv_i_le hb ha).mp z) C hN H locs ls hP hS hL) (fun z => kf (by have q := (not_congr (jv_i_le hb ha)).mp z; omega) C hN H locs ls hP hS hL)
theorem jv_if_ge {X : jv_M} {cc : ByteArray} {own : String} {K pc : Nat} {L : List (Option Value)} {S : List Value} {h : List jv_E} {a : Int} {off : Int} (tgt : Nat) (d : decode cc pc = .ok (.ifCond .ge off, 3)) (kt : 0 ≤ a → jv_J X cc own K (tgt) L (S) h) (kf : a < 0 → jv_J X cc own K (pc + 3) L (S) h) (ha : -2147483648 ≤ a ∧ a ≤ 2147483647 := by omega) (ht : (pc : Int) + off = (tgt : Int) := by decide) : jv_J X cc own K (pc) L (.int (jv_i a) :: S) h := by
  obtain ⟨⟨p, l, e, R, s⟩, ⟨m, args, below, meth, c⟩, ⟨cells, slots, Q⟩, ⟨G, A, N, nL⟩⟩ := X
  intro C hN H locs ls hP hS hL
  exact lv_if_ge C.1 C.2.1 d ht (fun z => kt ((jv_i_le (a := 0) (b := a) (by decide) ha).mp z) C hN H locs ls hP hS hL) (fun z => kf (by have q := (not_congr (jv_i_le (a := 0) (b := a) (by decide) ha)).mp z; omega) C hN H locs ls hP hS hL)
theorem jv_lcmp_ge {X : jv_M} {cc : ByteArray} {own : String} {K pc : Nat} {L : List (Option Value)} {S : List Value} {h : List jv_E} {a b : Int} {off : Int} (tgt : Nat) (d : decode cc pc = .ok (.lcmp, 1)) (d2 : decode cc (pc + 1) = .ok (.ifCond .ge off, 3)) (kt : b ≤ a → jv_J X cc own K (tgt) L (S) h) (kf : a < b → jv_J X cc own K (pc + 4) L (S) h) (ha : -9223372036854775808 ≤ a ∧ a ≤ 9223372036854775807 := by omega) (hb : -9223372036854775808 ≤ b ∧ b ≤ 9223372036854775807 := by omega) (ht : ((pc + 1 : Nat) : Int) + off = (tgt : Int) := by decide) : jv_J X cc own K (pc) L (.long (jv_l b) :: .long (jv_l a) :: S) h := by
  obtain ⟨⟨p, l, e, R, s⟩, ⟨m, args, below, meth, c⟩, ⟨cells, slots, Q⟩, ⟨G, A, N, nL⟩⟩ := X
  intro C hN H locs ls hP hS hL
  exact W.lcmp C.1 C.2.1 d (lv_if_ge C.1 C.2.1 d2 ht (fun z => kt ((jv_l_le hb ha).mp ((lg_cmp_ge _ _).mp z)) C hN H locs ls hP hS hL) (fun z => kf (by have q := (not_congr ((lg_cmp_ge _ _).trans (jv_l_le hb ha))).mp z; omega) C hN H locs ls hP hS hL))
theorem jv_icmp_gt {X : jv_M} {cc : ByteArray} {own : String} {K pc : Nat} {L : List (Option Value)} {S : List Value} {h : List jv_E} {a b : Int} {off : Int} (tgt : Nat) (d : decode cc pc = .ok (.if_icmp .gt off, 3)) (kt : b < a → jv_J X cc own K (tgt) L (S) h) (kf : a ≤ b → jv_J X cc own K (pc + 3) L (S) h) (ha : -2147483648 ≤ a ∧ a ≤ 2147483647 := by omega) (hb : -2147483648 ≤ b ∧ b ≤ 2147483647 := by omega) (ht : (pc : Int) + off = (tgt : Int) := by decide) : jv_J X cc own K (pc) L (.int (jv_i b) :: .int (jv_i a) :: S) h := by
  obtain ⟨⟨p, l, e, R, s⟩, ⟨m, args, below, meth, c⟩, ⟨cells, slots, Q⟩, ⟨G, A, N, nL⟩⟩ := X
  intro C hN H locs ls hP hS hL
  exact lv_icmp_gt C.1 C.2.1 d ht (fun z => kt ((jv_i_lt hb ha).mp z) C hN H locs ls hP hS hL) (fun z => kf (by have q := (not_congr (jv_i_lt hb ha)).mp z; omega) C hN H locs ls hP hS hL)
theorem jv_if_gt {X : jv_M} {cc : ByteArray} {own : String} {K pc : Nat} {L : List (Option Value)} {S : List Value} {h : List jv_E} {a : Int} {off : Int} (tgt : Nat) (d : decode cc pc = .ok (.ifCond .gt off, 3)) (kt : 0 < a → jv_J X cc own K (tgt) L (S) h) (kf : a ≤ 0 → jv_J X cc own K (pc + 3) L (S) h) (ha : -2147483648 ≤ a ∧ a ≤ 2147483647 := by omega) (ht : (pc : Int) + off = (tgt : Int) := by decide) : jv_J X cc own K (pc) L (.int (jv_i a) :: S) h := by
  obtain ⟨⟨p, l, e, R, s⟩, ⟨m, args, below, meth, c⟩, ⟨cells, slots, Q⟩, ⟨G, A, N, nL⟩⟩ := X
  intro C hN H locs ls hP hS hL
  exact lv_if_gt C.1 C.2.1 d ht (fun z => kt ((jv_i_lt (a := 0) (b := a) (by decide) ha).mp z) C hN H locs ls hP hS hL) (fun z => kf (by have q := (not_congr (jv_i_lt (a := 0) (b := a) (by decide) ha)).mp z; omega) C hN H locs ls hP hS hL)
theorem jv_lcmp_gt {X : jv_M} {cc : ByteArray} {own : String} {K pc : Nat} {L : List (Option Value)} {S : List Value} {h : List jv_E} {a b : Int} {off : Int} (tgt : Nat) (d : decode cc pc = .ok (.lcmp, 1)) (d2 : decode cc (pc + 1) = .ok (.ifCond .gt off, 3)) (kt : b < a → jv_J X cc own K (tgt) L (S) h) (kf : a ≤ b → jv_J X cc own K (pc + 4) L (S) h) (ha : -9223372036854775808 ≤ a ∧ a ≤ 9223372036854775807 := by omega) (hb : -9223372036854775808 ≤ b ∧ b ≤ 9223372036854775807 := by omega) (ht : ((pc + 1 : Nat) : Int) + off = (tgt : Int) := by decide) : jv_J X cc own K (pc) L (.long (jv_l b) :: .long (jv_l a) :: S) h := by
  obtain ⟨⟨p, l, e, R, s⟩, ⟨m, args, below, meth, c⟩, ⟨cells, slots, Q⟩, ⟨G, A, N, nL⟩⟩ := X
  intro C hN H locs ls hP hS hL
  exact W.lcmp C.1 C.2.1 d (lv_if_gt C.1 C.2.1 d2 ht (fun z => kt ((jv_l_lt hb ha).mp ((lg_cmp_gt _ _).mp z)) C hN H locs ls hP hS hL) (fun z => kf (by have q := (not_congr ((lg_cmp_gt _ _).trans (jv_l_lt hb ha))).mp z; omega) C hN H locs ls hP hS hL))
theorem jv_icmp_le {X : jv_M} {cc : ByteArray} {own : String} {K pc : Nat} {L : List (Option Value)} {S : List Value} {h : List jv_E} {a b : Int} {off : Int} (tgt : Nat) (d : decode cc pc = .ok (.if_icmp .le off, 3)) (kt : a ≤ b → jv_J X cc own K (tgt) L (S) h) (kf : b < a → jv_J X cc own K (pc + 3) L (S) h) (ha : -2147483648 ≤ a ∧ a ≤ 2147483647 := by omega) (hb : -2147483648 ≤ b ∧ b ≤ 2147483647 := by omega) (ht : (pc : Int) + off = (tgt : Int) := by decide) : jv_J X cc own K (pc) L (.int (jv_i b) :: .int (jv_i a) :: S) h := by
  obtain ⟨⟨p, l, e, R, s⟩, ⟨m, args, below, meth, c⟩, ⟨cells, slots, Q⟩, ⟨G, A, N, nL⟩⟩ := X
  intro C hN H locs ls hP hS hL
  exact lv_icmp_le C.1 C.2.1 d ht (fun z => kt ((jv_i_le ha hb).mp z) C hN H locs ls hP hS hL) (fun z => kf (by have q := (not_congr (jv_i_le ha hb)).mp z; omega) C hN H locs ls hP hS hL)
theorem jv_if_le {X : jv_M} {cc : ByteArray} {own : String} {K pc : Nat} {L : List (Option Value)} {S : List Value} {h : List jv_E} {a : Int} {off : Int} (tgt : Nat) (d : decode cc pc = .ok (.ifCond .le off, 3)) (kt : a ≤ 0 → jv_J X cc own K (tgt) L (S) h) (kf : 0 < a → jv_J X cc own K (pc + 3) L (S) h) (ha : -2147483648 ≤ a ∧ a ≤ 2147483647 := by omega) (ht : (pc : Int) + off = (tgt : Int) := by decide) : jv_J X cc own K (pc) L (.int (jv_i a) :: S) h := by
  obtain ⟨⟨p, l, e, R, s⟩, ⟨m, args, below, meth, c⟩, ⟨cells, slots, Q⟩, ⟨G, A, N, nL⟩⟩ := X
  intro C hN H locs ls hP hS hL
  exact lv_if_le C.1 C.2.1 d ht (fun z => kt ((jv_i_le (a := a) (b := 0) ha (by decide)).mp z) C hN H locs ls hP hS hL) (fun z => kf (by have q := (not_congr (jv_i_le (a := a) (b := 0) ha (by decide))).mp z; omega) C hN H locs ls hP hS hL)
theorem jv_lcmp_le {X : jv_M} {cc : ByteArray} {own : String} {K pc : Nat} {L : List (Option Value)} {S : List Value} {h : List jv_E} {a b : Int} {off : Int} (tgt : Nat) (d : decode cc pc = .ok (.lcmp, 1)) (d2 : decode cc (pc + 1) = .ok (.ifCond .le off, 3)) (kt : a ≤ b → jv_J X cc own K (tgt) L (S) h) (kf : b < a → jv_J X cc own K (pc + 4) L (S) h) (ha : -9223372036854775808 ≤ a ∧ a ≤ 9223372036854775807 := by omega) (hb : -9223372036854775808 ≤ b ∧ b ≤ 9223372036854775807 := by omega) (ht : ((pc + 1 : Nat) : Int) + off = (tgt : Int) := by decide) : jv_J X cc own K (pc) L (.long (jv_l b) :: .long (jv_l a) :: S) h := by
  obtain ⟨⟨p, l, e, R, s⟩, ⟨m, args, below, meth, c⟩, ⟨cells, slots, Q⟩, ⟨G, A, N, nL⟩⟩ := X
  intro C hN H locs ls hP hS hL
  exact W.lcmp C.1 C.2.1 d (lv_if_le C.1 C.2.1 d2 ht (fun z => kt ((jv_l_le ha hb).mp ((lg_cmp_le _ _).mp z)) C hN H locs ls hP hS hL) (fun z => kf (by have q := (not_congr ((lg_cmp_le _ _).trans (jv_l_le ha hb))).mp z; omega) C hN H locs ls hP hS hL))
theorem jv_goto {X : jv_M} {cc : ByteArray} {own : String} {K pc : Nat} {L : List (Option Value)} {S : List Value} {h : List jv_E} {off : Int} (tgt : Nat) (d : decode cc pc = .ok (.goto off, 3)) (kk : jv_J X cc own K (tgt) L (S) h) (ht : (pc : Int) + off = (tgt : Int) := by decide) : jv_J X cc own K (pc) L (S) h := by
  obtain ⟨⟨p, l, e, R, s⟩, ⟨m, args, below, meth, c⟩, ⟨cells, slots, Q⟩, ⟨G, A, N, nL⟩⟩ := X
  intro C hN H locs ls hP hS hL
  exact lv_goto C.1 C.2.1 d ht (kk C hN H locs ls hP hS hL)
theorem jv_tabIn {X : jv_M} {cc : ByteArray} {own : String} {K pc : Nat} {L : List (Option Value)} {S : List Value} {h : List jv_E} {dflt lo hi off a : Int} {offs : Array Int} {len : Nat} (tgt : Nat) (d : decode cc pc = .ok (.tableswitch dflt lo hi offs, len)) (h1 : lo ≤ a) (h2 : a ≤ hi) (ho : offs[(a - lo).toNat]? = some off) (kk : jv_J X cc own K (tgt) L (S) h) (ht : (pc : Int) + off = (tgt : Int) := by decide) (ha : -2147483648 ≤ a ∧ a ≤ 2147483647 := by omega) : jv_J X cc own K (pc) L (.int (jv_i a) :: S) h := by
  obtain ⟨⟨p, l, e, R, s⟩, ⟨m, args, below, meth, c⟩, ⟨cells, slots, Q⟩, ⟨G, A, N, nL⟩⟩ := X
  intro C hN H locs ls hP hS hL
  exact lv_tableIn C.1 C.2.1 d (by rw [jv_i_T ha]; omega) (by rw [jv_i_T ha]; omega) (by rw [jv_i_T ha]; exact ho) ht (kk C hN H locs ls hP hS hL)
theorem jv_tabOut {X : jv_M} {cc : ByteArray} {own : String} {K pc : Nat} {L : List (Option Value)} {S : List Value} {h : List jv_E} {dflt lo hi a : Int} {offs : Array Int} {len : Nat} (tgt : Nat) (d : decode cc pc = .ok (.tableswitch dflt lo hi offs, len)) (h1 : a < lo ∨ hi < a) (kk : jv_J X cc own K (tgt) L (S) h) (ht : (pc : Int) + dflt = (tgt : Int) := by decide) (ha : -2147483648 ≤ a ∧ a ≤ 2147483647 := by omega) : jv_J X cc own K (pc) L (.int (jv_i a) :: S) h := by
  obtain ⟨⟨p, l, e, R, s⟩, ⟨m, args, below, meth, c⟩, ⟨cells, slots, Q⟩, ⟨G, A, N, nL⟩⟩ := X
  intro C hN H locs ls hP hS hL
  exact lv_tableOut C.1 C.2.1 d (by rw [jv_i_T ha]; exact h1) ht (kk C hN H locs ls hP hS hL)
end
section
/-! RULES OF THE WORLD: fields, arrays, calls, returns -/
/-- entry idx of class own names field k of class ci -/
def jv_fl (own : String) (idx ci k : Nat) : Prop := ∃ (C : String) (T : u_T) (N : Nat), jv_cl[ci]? = some (C, T, N) ∧ k < N ∧ Cond.fieldLink own idx (T k).1 (T k).2.1 (T k).2.2.1 ∈ jv_T ∧ ∀ w ∈ u_ws C T N, w ∈ jv_T
def jv_fp (own : String) (idx ci k : Nat) (ty : FieldType) : Prop := ∃ (C : String) (T : u_T) (N : Nat) (ty0 : Nat → FieldType), jv_cl[ci]? = some (C, T, N) ∧ k < N ∧ Cond.fieldLink own idx (T k).1 (T k).2.1 (T k).2.2.1 ∈ jv_T ∧ (∀ w ∈ u_ws C T N, w ∈ jv_T) ∧ (∀ k, k < N → parseFieldDescriptor (T k).2.2.1 = some (ty0 k)) ∧ (∀ a, a < N → ∀ b, b < N → a ≠ b → (T a).2.1 ≠ (T b).2.1) ∧ (T k).2.2.2 = false ∧ parseFieldDescriptor (T k).2.2.1 = some ty
theorem jv_up_i (f : Int → Int) (k x : Int) {n : Nat} (h : (n : Int) = k) : upd (fun i : Nat => jv_i (f i)) n (jv_i x) = fun i : Nat => jv_i (jv_up f k x i) := by
  funext j
  by_cases e : j = n
  · subst e
    simp [upd, jv_up, h]
  · have e2 : (j : Int) ≠ k := fun q => e (by omega)
    simp [upd, jv_up, e, e2]
theorem jv_up_l (f : Int → Int) (k x : Int) {n : Nat} (h : (n : Int) = k) : vp_updL (fun i : Nat => jv_l (f i)) n (jv_l x) = fun i : Nat => jv_l (jv_up f k x i) := by
  funext j
  by_cases e : j = n
  · subst e
    simp [vp_updL, jv_up, h]
  · have e2 : (j : Int) ≠ k := fun q => e (by omega)
    simp [vp_updL, jv_up, e, e2]
section JH
variable {X : jv_M} {cc : ByteArray} {own : String} {K pc : Nat} {L : List (Option Value)} {S : List Value} {h : List jv_E}
theorem jv_getf {idx ci k a : Nat} {fs : List Value} {v : Value} (d : decode cc pc = .ok (.getfield idx, 3)) (hf : jv_fl own idx ci k) (ha : h[a]? = some (jv_ob ci fs)) (hv : fs[k]? = some v) (kk : jv_J X cc own K (pc + 3) L (v :: S) h) : jv_J X cc own K pc L (.ref a :: S) h := by
  obtain ⟨⟨p, l, e, R, s⟩, ⟨m, args, below, meth, c⟩, ⟨cells, slots, Q⟩, ⟨G, A, N, nL⟩⟩ := X
  intro C hN H locs ls hP hS hL
  obtain ⟨Cn, T, Nf, h1, h2, h3, h4⟩ := hf
  exact va_get C.1 C.2.1 C.2.2.2.2.1 h4 C.2.2.2.1 C.2.2.2.2.2.1 hP a (jv_tr_at ha) h1 k h2 (C.2.2.2.2.1 _ h3) (fun _ q => q) (v := jv_V G.2.2 v) (by rw [List.getElem?_map, hv]; rfl) d (kk C hN H locs ls hP hS hL)
theorem jv_putf {idx ci k a : Nat} {fs : List Value} {v : Value} {ty : FieldType} (d : decode cc pc = .ok (.putfield idx, 3)) (hf : jv_fp own idx ci k ty) (ha : h[a]? = some (jv_ob ci fs)) (hl : k < fs.length) (kk : jv_J X cc own K (pc + 3) L S (h.set a (jv_ob ci (fs.set k v)))) (hn : ∀ ad, narrow ty (jv_V ad v) = jv_V ad v := by intro _; rfl) (hfit : ∀ ad, fits ty (jv_V ad v) = true := by intro _; rfl) : jv_J X cc own K pc L (v :: .ref a :: S) h := by
  obtain ⟨⟨p, l, e, R, s⟩, ⟨m, args, below, meth, c⟩, ⟨cells, slots, Q⟩, ⟨G, A, N, nL⟩⟩ := X
  intro C hN H locs ls hP hS hL
  obtain ⟨Cn, T, Nf, ty0, h1, h2, h3, h4, h5, h6, h7, h8⟩ := hf
  subst hN
  refine va_put C.1 C.2.1 C.2.2.2.2.1 h4 ty0 h5 h6 C.2.2.2.1 C.2.2.2.2.2.1 hP (jv_D_of C.2.2.2.2.2.2.2.1) hS a (jv_tr_at ha) h1 k h2 (C.2.2.2.2.1 _ h3) (fun _ q => q) h7 h8 (hn G.2.2) (hfit G.2.2) (by rw [List.length_map]; exact hl) d (fun H1 locs1 hP1 hD1 hS1 => ?_)
  refine kk C (by rw [List.length_set]) H1 locs1 ls ?_ hS1 hL
  rw [← jv_tr_set]
  show va_P _ _ ((jv_tr G h).set a (G.2.2 a, .inr (ci, (fs.set k v).map (jv_V G.2.2)))) H1
  rw [List.map_set]
  exact hP1
theorem jv_iald {a n : Nat} {f : Int → Int} {k : Int} (d : decode cc pc = .ok (.iaload, 1)) (ha : h[a]? = some (jv_ai n f)) (kk : jv_J X cc own K (pc + 1) L (.int (jv_i (f k)) :: S) h) (hk : 0 ≤ k ∧ k < n := by omega) (hn : n < 2147483648 := by decide) : jv_J X cc own K pc L (.int (jv_i k) :: .ref a :: S) h := by
  obtain ⟨⟨p, l, e, R, s⟩, ⟨m, args, below, meth, c⟩, ⟨cells, slots, Q⟩, ⟨G, A, N, nL⟩⟩ := X
  intro C hN H locs ls hP hS hL
  obtain ⟨h1, h2⟩ := jv_i_ix hk hn
  refine va_iald C.1 C.2.1 C.2.2.2.2.2.1 hP a 0 (jv_tr_at ha) rfl h1 d ?_
  have := kk C hN H locs ls hP hS hL
  rw [← h2] at this
  exact this
theorem jv_lald {a n : Nat} {f : Int → Int} {k : Int} (d : decode cc pc = .ok (.laload, 1)) (ha : h[a]? = some (jv_al n f)) (kk : jv_J X cc own K (pc + 1) L (.long (jv_l (f k)) :: S) h) (hk : 0 ≤ k ∧ k < n := by omega) (hn : n < 2147483648 := by decide) : jv_J X cc own K pc L (.int (jv_i k) :: .ref a :: S) h := by
  obtain ⟨⟨p, l, e, R, s⟩, ⟨m, args, below, meth, c⟩, ⟨cells, slots, Q⟩, ⟨G, A, N, nL⟩⟩ := X
  intro C hN H locs ls hP hS hL
  obtain ⟨h1, h2⟩ := jv_i_ix hk hn
  refine va_lald C.1 C.2.1 C.2.2.2.2.2.1 hP a 1 (jv_tr_at ha) rfl h1 d ?_
  have := kk C hN H locs ls hP hS hL
  rw [← h2] at this
  exact this
theorem jv_cald {a n : Nat} {f : Int → Int} {k : Int} (d : decode cc pc = .ok (.caload, 1)) (ha : h[a]? = some (jv_ac n f)) (kk : jv_J X cc own K (pc + 1) L (.int (jv_i (f k)) :: S) h) (hk : 0 ≤ k ∧ k < n := by omega) (hn : n < 2147483648 := by decide) : jv_J X cc own K pc L (.int (jv_i k) :: .ref a :: S) h := by
  obtain ⟨⟨p, l, e, R, s⟩, ⟨m, args, below, meth, c⟩, ⟨cells, slots, Q⟩, ⟨G, A, N, nL⟩⟩ := X
  intro C hN H locs ls hP hS hL
  obtain ⟨h1, h2⟩ := jv_i_ix hk hn
  refine va_cald C.1 C.2.1 C.2.2.2.2.2.1 hP a 2 (jv_tr_at ha) rfl h1 d ?_
  have := kk C hN H locs ls hP hS hL
  rw [← h2] at this
  exact this
theorem jv_aald {a n : Nat} {g : Int → Nat} {k : Int} (d : decode cc pc = .ok (.aaload, 1)) (ha : h[a]? = some (jv_aq n g)) (kk : jv_J X cc own K (pc + 1) L (.ref (g k) :: S) h) (hk : 0 ≤ k ∧ k < n := by omega) (hn : n < 2147483648 := by decide) : jv_J X cc own K pc L (.int (jv_i k) :: .ref a :: S) h := by
  obtain ⟨⟨p, l, e, R, s⟩, ⟨m, args, below, meth, c⟩, ⟨cells, slots, Q⟩, ⟨G, A, N, nL⟩⟩ := X
  intro C hN H locs ls hP hS hL
  obtain ⟨h1, h2⟩ := jv_i_ix hk hn
  have hlt : (jv_i k).toNatClampNeg < n := by omega
  have hT := (C.2.2.2.2.2.1.2 3 (G.2.1.2.2.2, .array .int) rfl).1 n (fun j => va_rf (some (G.2.2 (g j))))
  refine W.aald (v := .ref (G.2.2 (g k))) C.1 C.2.1 (hP a _ (jv_tr_at ha)) hT rfl (fun q => by cases q) (by show ¬ (_ ∨ (arrV _ _ _).slots.size ≤ _); rw [arrV_size]; exact h1) (by show (arrV _ _ _).slots[_]? = _; rw [arrV_read _ _ hlt]; show some (va_rf (some (G.2.2 (g ((jv_i k).toNatClampNeg : Int))))) = _; rw [h2]; rfl) rfl rfl d (kk C hN H locs ls hP hS hL)
theorem jv_iast {a n : Nat} {f : Int → Int} {k x : Int} (d : decode cc pc = .ok (.iastore, 1)) (ha : h[a]? = some (jv_ai n f)) (kk : jv_J X cc own K (pc + 1) L S (h.set a (jv_ai n (jv_up f k x)))) (hk : 0 ≤ k ∧ k < n := by omega) (hn : n < 2147483648 := by decide) : jv_J X cc own K pc L (.int (jv_i x) :: .int (jv_i k) :: .ref a :: S) h := by
  obtain ⟨⟨p, l, e, R, s⟩, ⟨m, args, below, meth, c⟩, ⟨cells, slots, Q⟩, ⟨G, A, N, nL⟩⟩ := X
  intro C hN H locs ls hP hS hL
  obtain ⟨h1, h2⟩ := jv_i_ix hk hn
  subst hN
  refine va_iast C.1 C.2.1 C.2.2.2.2.2.1 hP (jv_D_of C.2.2.2.2.2.2.2.1) hS a 0 (jv_tr_at ha) rfl h1 d (fun H1 locs1 hP1 hD1 hS1 => ?_)
  refine kk C (by rw [List.length_set]) H1 locs1 ls ?_ hS1 hL
  rw [← jv_tr_set]
  rw [jv_up_i f k x h2] at hP1
  exact hP1
theorem jv_last {a n : Nat} {f : Int → Int} {k x : Int} (d : decode cc pc = .ok (.lastore, 1)) (ha : h[a]? = some (jv_al n f)) (kk : jv_J X cc own K (pc + 1) L S (h.set a (jv_al n (jv_up f k x)))) (hk : 0 ≤ k ∧ k < n := by omega) (hn : n < 2147483648 := by decide) : jv_J X cc own K pc L (.long (jv_l x) :: .int (jv_i k) :: .ref a :: S) h := by
  obtain ⟨⟨p, l, e, R, s⟩, ⟨m, args, below, meth, c⟩, ⟨cells, slots, Q⟩, ⟨G, A, N, nL⟩⟩ := X
  intro C hN H locs ls hP hS hL
  obtain ⟨h1, h2⟩ := jv_i_ix hk hn
  subst hN
  refine va_last C.1 C.2.1 C.2.2.2.2.2.1 hP (jv_D_of C.2.2.2.2.2.2.2.1) hS a 1 (jv_tr_at ha) rfl h1 d (fun H1 locs1 hP1 hD1 hS1 => ?_)
  refine kk C (by rw [List.length_set]) H1 locs1 ls ?_ hS1 hL
  rw [← jv_tr_set]
  rw [jv_up_l f k x h2] at hP1
  exact hP1
theorem jv_cast {a n : Nat} {f : Int → Int} {k x : Int} (d : decode cc pc = .ok (.castore, 1)) (ha : h[a]? = some (jv_ac n f)) (kk : jv_J X cc own K (pc + 1) L S (h.set a (jv_ac n (jv_up f k x)))) (hx : 0 ≤ x ∧ x < 65536 := by omega) (hk : 0 ≤ k ∧ k < n := by omega) (hn : n < 2147483648 := by decide) : jv_J X cc own K pc L (.int (jv_i x) :: .int (jv_i k) :: .ref a :: S) h := by
  obtain ⟨⟨p, l, e, R, s⟩, ⟨m, args, below, meth, c⟩, ⟨cells, slots, Q⟩, ⟨G, A, N, nL⟩⟩ := X
  intro C hN H locs ls hP hS hL
  obtain ⟨h1, h2⟩ := jv_i_ix hk hn
  subst hN
  refine va_cast C.1 C.2.1 C.2.2.2.2.2.1 hP (jv_D_of C.2.2.2.2.2.2.2.1) hS a 2 (jv_tr_at ha) rfl h1 d (fun H1 locs1 hP1 hD1 hS1 => ?_)
  refine kk C (by rw [List.length_set]) H1 locs1 ls ?_ hS1 hL
  rw [← jv_tr_set]
  rw [jv_vnarc hx, jv_up_i f k x h2] at hP1
  exact hP1
theorem jv_alen_i {a n : Nat} {f : Int → Int} (d : decode cc pc = .ok (.arraylength, 1)) (ha : h[a]? = some (jv_ai n f)) (kk : jv_J X cc own K (pc + 1) L (.int (jv_i n) :: S) h) : jv_J X cc own K pc L (.ref a :: S) h := by
  obtain ⟨⟨p, l, e, R, s⟩, ⟨m, args, below, meth, c⟩, ⟨cells, slots, Q⟩, ⟨G, A, N, nL⟩⟩ := X
  intro C hN H locs ls hP hS hL
  exact va_alen C.1 C.2.1 C.2.2.2.2.2.1 hP a 0 (jv_tr_at ha) rfl (v := jv_i n) rfl d (kk C hN H locs ls hP hS hL)
theorem jv_alen_c {a n : Nat} {f : Int → Int} (d : decode cc pc = .ok (.arraylength, 1)) (ha : h[a]? = some (jv_ac n f)) (kk : jv_J X cc own K (pc + 1) L (.int (jv_i n) :: S) h) : jv_J X cc own K pc L (.ref a :: S) h := by
  obtain ⟨⟨p, l, e, R, s⟩, ⟨m, args, below, meth, c⟩, ⟨cells, slots, Q⟩, ⟨G, A, N, nL⟩⟩ := X
  intro C hN H locs ls hP hS hL
  exact va_alen C.1 C.2.1 C.2.2.2.2.2.1 hP a 2 (jv_tr_at ha) rfl (v := jv_i n) rfl d (kk C hN H locs ls hP hS hL)
theorem jv_alen_q {a n : Nat} {g : Int → Nat} (d : decode cc pc = .ok (.arraylength, 1)) (ha : h[a]? = some (jv_aq n g)) (kk : jv_J X cc own K (pc + 1) L (.int (jv_i n) :: S) h) : jv_J X cc own K pc L (.ref a :: S) h := by
  obtain ⟨⟨p, l, e, R, s⟩, ⟨m, args, below, meth, c⟩, ⟨cells, slots, Q⟩, ⟨G, A, N, nL⟩⟩ := X
  intro C hN H locs ls hP hS hL
  exact va_alen C.1 C.2.1 C.2.2.2.2.2.1 hP a 3 (jv_tr_at ha) rfl (v := jv_i n) rfl d (kk C hN H locs ls hP hS hL)
/-- calls -/
abbrev jv_mv (own : String) (idx : Nat) (C : String) (y : MethodName) (bytes : ByteArray) (maxL : Nat) (ret : Option FieldType) (n : Nat) : Prop := (Cond.methodLink own idx y ∈ jv_T ∧ Cond.instanceMethod y ∈ jv_T ∧ Cond.selects C y y ∈ jv_T ∧ Cond.initialized C ∈ jv_T ∧ Cond.code y bytes maxL ret ∈ jv_T) ∧ y.cls = C ∧ (C ≠ "java/lang/invoke/MethodHandle" ∧ C ≠ "java/lang/invoke/VarHandle") ∧ (parseMethodDescriptor y.desc).map (fun d => d.parameters.length) = some n ∧ maxL ≤ 21
abbrev jv_ms (own : String) (idx : Nat) (C : String) (y : MethodName) (bytes : ByteArray) (maxL : Nat) (ret : Option FieldType) (n : Nat) : Prop := (Cond.methodLink own idx y ∈ jv_T ∧ Cond.static y ∈ jv_T ∧ Cond.initialized C ∈ jv_T ∧ Cond.code y bytes maxL ret ∈ jv_T) ∧ y.cls = C ∧ (C ≠ "java/lang/invoke/MethodHandle" ∧ C ≠ "java/lang/invoke/VarHandle") ∧ (parseMethodDescriptor y.desc).map (fun d => d.parameters.length) = some n ∧ maxL ≤ 21
abbrev jv_mn (own : String) (idx : Nat) (C host : String) (y : MethodName) (bytes : ByteArray) (maxL : Nat) (ret : Option FieldType) (n : Nat) : Prop := (Cond.methodLinkNest own idx y host ∈ jv_ns ∧ Cond.static y ∈ jv_T ∧ Cond.initialized C ∈ jv_T ∧ Cond.code y bytes maxL ret ∈ jv_T) ∧ y.cls = C ∧ (C ≠ "java/lang/invoke/MethodHandle" ∧ C ≠ "java/lang/invoke/VarHandle") ∧ (parseMethodDescriptor y.desc).map (fun d => d.parameters.length) = some n ∧ maxL ≤ 21
theorem jv_cat (ad : Nat → Nat) (S : List Value) : ((S.map (jv_V ad)).map fun v => v.category) = S.map fun v => v.category := by
  rw [List.map_map]
  exact List.map_congr_left (fun v _ => jv_V_cat ad v)
theorem jv_st (ad : Nat → Nat) (v : Option Value) (S : List Value) : (v.map (jv_V ad)).toList ++ S.map (jv_V ad) = (v.toList ++ S).map (jv_V ad) := by cases v <;> simp
theorem jv_callV {idx n k a ci maxL : Nat} {C0 : String} {y : MethodName} {bytes : ByteArray} {ret : Option FieldType} {fs As st : List Value} {post : Option Value → List jv_E → Prop} (d : decode cc pc = .ok (.invokevirtual idx, 3)) (hw : jv_mv own idx C0 y bytes maxL ret n) (hc : jv_Ct y bytes maxL ret k (.ref a :: As) h post) (ha : h[a]? = some (jv_ob ci fs)) (hci : (jv_cl[ci]?).map (fun q => q.1) = some C0) (hn : As.length = n) (hst : As.reverse ++ .ref a :: S = st)
    (kk : ∀ (v : Option Value) (h' : List jv_E), post v h' → jv_J X cc own K (pc + 3) L (v.toList ++ S) h') (hk : k + 1 ≤ K := by omega) (hS8 : (S.map fun v => v.category).sum ≤ 8 := by exact Nat.le_of_ble_eq_true rfl) : jv_J X cc own K pc L st h := by
  subst hst
  obtain ⟨⟨p, l, e, R, s⟩, ⟨m, args, below, meth, c⟩, ⟨cells, slots, Q⟩, ⟨G, A, N, nL⟩⟩ := X
  intro C hN H locs ls hP hS hL
  obtain ⟨⟨w1, w2, w3, w4, w5⟩, w6, w7, w8, w9⟩ := hw
  obtain ⟨hF, hU⟩ := jv_pre (av := (.ref a :: As)) C hN hP hS
  have C9 := C
  obtain ⟨hx, hb, hml, hown, hts, hK, hA, hD, hX, hR, hR2⟩ := C9
  obtain ⟨q, hq⟩ : ∃ q, jv_cl[ci]? = some q := by
    cases hz : jv_cl[ci]? with
    | none => rw [hz] at hci; cases hci
    | some q => exact ⟨q, rfl⟩
  have hq1 : q.1 = C0 := by rw [hq] at hci; exact Option.some.inj hci
  have hrec := va_recv hK hP hq (jv_tr_at ha)
  rw [hq1] at hrec
  have cw : CallW R s args own C0 idx y bytes maxL ret (.code y bytes maxL ret :: jv_T) (jv_rm k) 0 0 n := ⟨callB_of n hts (jv_good w5) rfl rfl rfl (by rw [w6]; exact hts _ w4) (hts _ w1) (by rw [w6]; exact ⟨w7.1, w7.2, w8⟩) ⟨Nat.le_trans hk hR.1, by show 8 + (maxL + 11) + 40 * k ≤ R.locals; have := hR.2; omega⟩, hts _ w2, hts _ w3⟩
  have hr := va_runV (cells := cells) (slots := slots) (locs := locs) (e := e) (below := below) (meth := meth) (g := F0 m pc ls ((As.reverse ++ .ref a :: S).map (jv_V G.2.2))) (As := As.map (jv_V G.2.2)) (rest := S.map (jv_V G.2.2)) (b := G.2.2 a) ⟨hx, hb, hml, hown, hts⟩ (hc l G H.size) cw ⟨jv_blind, hrec, hU⟩ rfl (by rw [List.length_map]; exact hn) hL.1 (by show List.map _ _ = _; rw [List.map_append, List.map_reverse]; rfl) (lv_room (by rw [jv_cat]; exact hS8)) d ⟨hR2.1, hR2.2⟩
  refine jv_goon hr hS hF (fun v h' H1 locs1 hp hl hP1 hS1 => ?_)
  rw [jv_st]
  exact kk v h' hp C (hl.trans hN) H1 locs1 ls hP1 hS1 hL
theorem jv_callS {idx n k maxL : Nat} {C0 : String} {y : MethodName} {bytes : ByteArray} {ret : Option FieldType} {As st : List Value} {post : Option Value → List jv_E → Prop} (d : decode cc pc = .ok (.invokestatic idx, 3)) (hw : jv_ms own idx C0 y bytes maxL ret n) (hc : jv_Ct y bytes maxL ret k As h post) (hn : As.length = n) (hst : As.reverse ++ S = st)
    (kk : ∀ (v : Option Value) (h' : List jv_E), post v h' → jv_J X cc own K (pc + 3) L (v.toList ++ S) h') (hk : k + 1 ≤ K := by omega) (hS8 : (S.map fun v => v.category).sum ≤ 8 := by exact Nat.le_of_ble_eq_true rfl) : jv_J X cc own K pc L st h := by
  subst hst
  obtain ⟨⟨p, l, e, R, s⟩, ⟨m, args, below, meth, c⟩, ⟨cells, slots, Q⟩, ⟨G, A, N, nL⟩⟩ := X
  intro C hN H locs ls hP hS hL
  obtain ⟨⟨w1, w2, w4, w5⟩, w6, w7, w8, w9⟩ := hw
  obtain ⟨hF, hU⟩ := jv_pre (av := As) C hN hP hS
  have C9 := C
  obtain ⟨hx, hb, hml, hown, hts, hK, hA, hD, hX, hR, hR2⟩ := C9
  have cw : CallB R s args own idx y bytes maxL ret (.code y bytes maxL ret :: jv_T) (jv_rm k) 0 0 n ∧ (Cond.static y).before args s = true := ⟨callB_of n hts (jv_good w5) rfl rfl rfl (by rw [w6]; exact hts _ w4) (hts _ w1) (by rw [w6]; exact ⟨w7.1, w7.2, w8⟩) ⟨Nat.le_trans hk hR.1, by show 8 + (maxL + 11) + 40 * k ≤ R.locals; have := hR.2; omega⟩, hts _ w2⟩
  have hr := va_runS (cells := cells) (slots := slots) (locs := locs) (e := e) (below := below) (meth := meth) (g := F0 m pc ls ((As.reverse ++ S).map (jv_V G.2.2))) (As := As.map (jv_V G.2.2)) (rest := S.map (jv_V G.2.2)) ⟨hx, hb, hml, hown, hts⟩ (hc l G H.size) cw ⟨jv_blind, hU⟩ rfl (by rw [List.length_map]; exact hn) hL.1 (by show List.map _ _ = _; rw [List.map_append, List.map_reverse]) (lv_room (by rw [jv_cat]; exact hS8)) d ⟨hR2.1, hR2.2⟩
  refine jv_goon hr hS hF (fun v h' H1 locs1 hp hl hP1 hS1 => ?_)
  rw [jv_st]
  exact kk v h' hp C (hl.trans hN) H1 locs1 ls hP1 hS1 hL
theorem jv_callN {idx n k maxL : Nat} {C0 host : String} {y : MethodName} {bytes : ByteArray} {ret : Option FieldType} {As st : List Value} {post : Option Value → List jv_E → Prop} (d : decode cc pc = .ok (.invokestatic idx, 3)) (hw : jv_mn own idx C0 host y bytes maxL ret n) (hc : jv_Ct y bytes maxL ret k As h post) (hn : As.length = n) (hst : As.reverse ++ S = st)
    (kk : ∀ (v : Option Value) (h' : List jv_E), post v h' → jv_J X cc own K (pc + 3) L (v.toList ++ S) h') (hk : k + 1 ≤ K := by omega) (hS8 : (S.map fun v => v.category).sum ≤ 8 := by exact Nat.le_of_ble_eq_true rfl) : jv_J X cc own K pc L st h := by
  subst hst
  obtain ⟨⟨p, l, e, R, s⟩, ⟨m, args, below, meth, c⟩, ⟨cells, slots, Q⟩, ⟨G, A, N, nL⟩⟩ := X
  intro C hN H locs ls hP hS hL
  obtain ⟨⟨w1, w2, w4, w5⟩, w6, w7, w8, w9⟩ := hw
  obtain ⟨hF, hU⟩ := jv_pre (av := As) C hN hP hS
  have C9 := C
  obtain ⟨hx, hb, hml, hown, hts, hK, hA, hD, hX, hR, hR2⟩ := C9
  have cw : va_CN R s args own idx y host bytes maxL ret (.code y bytes maxL ret :: jv_T) (jv_rm k) 0 0 n ∧ (Cond.static y).before args s = true ∧ True := ⟨va_cnB n hts (jv_good w5) rfl rfl rfl (hX.1 _ w1) (by rw [w6]; exact hts _ w4) (by rw [w6]; exact ⟨w7.1, w7.2, w8⟩) ⟨Nat.le_trans hk hR.1, by show 8 + (maxL + 11) + 40 * k ≤ R.locals; have := hR.2; omega⟩, hts _ w2, trivial⟩
  have hr := va_runSN (cells := cells) (slots := slots) (locs := locs) (e := e) (below := below) (meth := meth) (g := F0 m pc ls ((As.reverse ++ S).map (jv_V G.2.2))) (As := As.map (jv_V G.2.2)) (rest := S.map (jv_V G.2.2)) ⟨hx, hb, hml, hown, hts⟩ (hc l G H.size) cw ⟨jv_blind, hU⟩ rfl (by rw [List.length_map]; exact hn) hL.1 (by show List.map _ _ = _; rw [List.map_append, List.map_reverse]) (lv_room (by rw [jv_cat]; exact hS8)) d ⟨hR2.1, hR2.2⟩
  refine jv_goon hr hS hF (fun v h' H1 locs1 hp hl hP1 hS1 => ?_)
  rw [jv_st]
  exact kk v h' hp C (hl.trans hN) H1 locs1 ls hP1 hS1 hL
/-- returns -/
theorem jv_iret {ty : FieldType} {x : Int32} {post : Option Value → List jv_E → Prop} (d : decode cc pc = .ok (.ireturn, 1)) (hq : jv_ret X (some ty) post) (hp : post (some (.int x)) h) (hn : narrow ty (.int x) = .int x := by rfl) : jv_J X cc own K pc L [.int x] h := by
  obtain ⟨⟨p, l, e, R, s⟩, ⟨m, args, below, meth, c⟩, ⟨cells, slots, Q⟩, ⟨G, A, N, nL⟩⟩ := X
  intro C hN H locs ls hP hS hL
  obtain ⟨q1, q2, q3, q4, q5⟩ := hq
  subst q1; subst q2; subst q3
  exact W.zret C.1 C.2.1 q4 hn (fun t ht hW => ⟨⟨some (.int x), h, rfl, hp, hN, by rw [ht]; exact hP⟩, hS.F ht⟩) hS.2.2 d q5
theorem jv_lret {x : Int64} {post : Option Value → List jv_E → Prop} (d : decode cc pc = .ok (.lreturn, 1)) (hq : jv_ret X (some .long) post) (hp : post (some (.long x)) h) : jv_J X cc own K pc L [.long x] h := by
  obtain ⟨⟨p, l, e, R, s⟩, ⟨m, args, below, meth, c⟩, ⟨cells, slots, Q⟩, ⟨G, A, N, nL⟩⟩ := X
  intro C hN H locs ls hP hS hL
  obtain ⟨q1, q2, q3, q4, q5⟩ := hq
  subst q1; subst q2; subst q3
  exact W.lret C.1 C.2.1 q4 (fun t ht hW => ⟨⟨some (.long x), h, rfl, hp, hN, by rw [ht]; exact hP⟩, hS.F ht⟩) hS.2.2 d q5
theorem jv_aret {a : Nat} {t0 : FieldType} {post : Option Value → List jv_E → Prop} (d : decode cc pc = .ok (.areturn, 1)) (hq : jv_ret X (some (.array t0)) post) (hp : post (some (.ref a)) h) : jv_J X cc own K pc L [.ref a] h := by
  obtain ⟨⟨p, l, e, R, s⟩, ⟨m, args, below, meth, c⟩, ⟨cells, slots, Q⟩, ⟨G, A, N, nL⟩⟩ := X
  intro C hN H locs ls hP hS hL
  obtain ⟨q1, q2, q3, q4, q5⟩ := hq
  subst q1; subst q2; subst q3
  exact W.aret (v := .ref (G.2.2 a)) C.1 C.2.1 q4 (Or.inr ⟨t0, rfl⟩) (Or.inr ⟨_, rfl⟩) (fun t ht hW => ⟨⟨some (.ref a), h, rfl, hp, hN, by rw [ht]; exact hP⟩, hS.F ht⟩) hS.2.2 d q5
theorem jv_vret {post : Option Value → List jv_E → Prop} (d : decode cc pc = .ok (.return_, 1)) (hq : jv_ret X none post) (hp : post none h) : jv_J X cc own K pc L [] h := by
  obtain ⟨⟨p, l, e, R, s⟩, ⟨m, args, below, meth, c⟩, ⟨cells, slots, Q⟩, ⟨G, A, N, nL⟩⟩ := X
  intro C hN H locs ls hP hS hL
  obtain ⟨q1, q2, q3, q4, q5⟩ := hq
  subst q1; subst q2; subst q3
  exact W.vret C.1 C.2.1 q4 (fun t ht hW => ⟨⟨none, h, rfl, hp, hN, by rw [ht]; exact hP⟩, hS.F ht⟩) hS.2.2 d q5
/-- fewer slots known -/
theorem jv_less {L' : List (Option Value)} (hlen : L'.length = L.length) (hs : ∀ (i : Nat) (v : Value), L'[i]? = some (some v) → L[i]? = some (some v)) (kk : jv_J X cc own K pc L' S h) : jv_J X cc own K pc L S h := by
  obtain ⟨⟨p, l, e, R, s⟩, ⟨m, args, below, meth, c⟩, ⟨cells, slots, Q⟩, ⟨G, A, N, nL⟩⟩ := X
  intro C hN H locs ls hP hS hL
  exact kk C hN H locs ls hP hS ⟨hL.1, hL.2.1, fun i v q => hL.2.2.1 i v (hs i v q), by rw [hlen]; exact hL.2.2.2⟩
end JH
end
section
theorem jt_X0 : ∀ w ∈ u_ws RX0 TX0 6, w ∈ jv_T := by decide +kernel
theorem jt_X1 : ∀ w ∈ u_ws RX1 TX1 8, w ∈ jv_T := by decide +kernel
theorem jt_X2 : ∀ w ∈ u_ws RX2 TX2 4, w ∈ jv_T := by decide +kernel
theorem jt_X3 : ∀ w ∈ u_ws RX3 TX3 4, w ∈ jv_T := by decide +kernel
theorem jt_X4 : ∀ w ∈ u_ws RX4 TX4 2, w ∈ jv_T := by decide +kernel
theorem jt_X5 : ∀ w ∈ u_ws RX5 TX5 3, w ∈ jv_T := by decide +kernel
theorem jt_X6 : ∀ w ∈ u_ws RX6 TX6 7, w ∈ jv_T := by decide +kernel
theorem jt_X7 : ∀ w ∈ u_ws RX7 TX7 8, w ∈ jv_T := by decide +kernel
theorem jt_X8 : ∀ w ∈ u_ws RX8 TX8 27, w ∈ jv_T := by decide +kernel
theorem jf_X3_9 : jv_fl RX3 9 3 0 := ⟨RX3, TX3, 4, rfl, by decide, by decide +kernel, jt_X3⟩
theorem jf_X3_15 : jv_fl RX3 15 3 1 := ⟨RX3, TX3, 4, rfl, by decide, by decide +kernel, jt_X3⟩
theorem jf_X3_18 : jv_fl RX3 18 3 2 := ⟨RX3, TX3, 4, rfl, by decide, by decide +kernel, jt_X3⟩
theorem jf_X3_21 : jv_fl RX3 21 3 3 := ⟨RX3, TX3, 4, rfl, by decide, by decide +kernel, jt_X3⟩
theorem jp_X3_21 : jv_fp RX3 21 3 3 .int := ⟨RX3, TX3, 4, tyX3, rfl, by decide, by decide +kernel, jt_X3, tyX3_ok, nmX3, rfl, by decide +kernel⟩
theorem jf_X2_9 : jv_fl RX2 9 2 0 := ⟨RX2, TX2, 4, rfl, by decide, by decide +kernel, jt_X2⟩
theorem jf_X2_15 : jv_fl RX2 15 2 1 := ⟨RX2, TX2, 4, rfl, by decide, by decide +kernel, jt_X2⟩
theorem jf_X2_18 : jv_fl RX2 18 2 2 := ⟨RX2, TX2, 4, rfl, by decide, by decide +kernel, jt_X2⟩
theorem jf_X2_22 : jv_fl RX2 22 2 3 := ⟨RX2, TX2, 4, rfl, by decide, by decide +kernel, jt_X2⟩
theorem jp_X2_22 : jv_fp RX2 22 2 3 .int := ⟨RX2, TX2, 4, tyX2, rfl, by decide, by decide +kernel, jt_X2, tyX2_ok, nmX2, rfl, by decide +kernel⟩
theorem jf_X0_9 : jv_fl RX0 9 0 0 := ⟨RX0, TX0, 6, rfl, by decide, by decide +kernel, jt_X0⟩
theorem jf_X0_15 : jv_fl RX0 15 0 1 := ⟨RX0, TX0, 6, rfl, by decide, by decide +kernel, jt_X0⟩
theorem jf_X0_18 : jv_fl RX0 18 0 2 := ⟨RX0, TX0, 6, rfl, by decide, by decide +kernel, jt_X0⟩
theorem jf_X0_21 : jv_fl RX0 21 0 3 := ⟨RX0, TX0, 6, rfl, by decide, by decide +kernel, jt_X0⟩
theorem jf_X0_24 : jv_fl RX0 24 0 4 := ⟨RX0, TX0, 6, rfl, by decide, by decide +kernel, jt_X0⟩
theorem jf_X0_27 : jv_fl RX0 27 0 5 := ⟨RX0, TX0, 6, rfl, by decide, by decide +kernel, jt_X0⟩
theorem jp_X0_27 : jv_fp RX0 27 0 5 .int := ⟨RX0, TX0, 6, tyX0, rfl, by decide, by decide +kernel, jt_X0, tyX0_ok, nmX0, rfl, by decide +kernel⟩
theorem jf_X5_9 : jv_fl RX5 9 5 0 := ⟨RX5, TX5, 3, rfl, by decide, by decide +kernel, jt_X5⟩
theorem jf_X5_15 : jv_fl RX5 15 5 1 := ⟨RX5, TX5, 3, rfl, by decide, by decide +kernel, jt_X5⟩
theorem jp_X5_15 : jv_fp RX5 15 5 1 .int := ⟨RX5, TX5, 3, tyX5, rfl, by decide, by decide +kernel, jt_X5, tyX5_ok, nmX5, rfl, by decide +kernel⟩
theorem jf_X5_19 : jv_fl RX5 19 5 2 := ⟨RX5, TX5, 3, rfl, by decide, by decide +kernel, jt_X5⟩
theorem jp_X5_19 : jv_fp RX5 19 5 2 .int := ⟨RX5, TX5, 3, tyX5, rfl, by decide, by decide +kernel, jt_X5, tyX5_ok, nmX5, rfl, by decide +kernel⟩
theorem jf_X6_9 : jv_fl RX6 9 6 0 := ⟨RX6, TX6, 7, rfl, by decide, by decide +kernel, jt_X6⟩
theorem jf_X6_15 : jv_fl RX6 15 6 1 := ⟨RX6, TX6, 7, rfl, by decide, by decide +kernel, jt_X6⟩
theorem jf_X6_21 : jv_fl RX6 21 6 2 := ⟨RX6, TX6, 7, rfl, by decide, by decide +kernel, jt_X6⟩
theorem jf_X6_24 : jv_fl RX6 24 6 3 := ⟨RX6, TX6, 7, rfl, by decide, by decide +kernel, jt_X6⟩
theorem jf_X6_28 : jv_fl RX6 28 6 4 := ⟨RX6, TX6, 7, rfl, by decide, by decide +kernel, jt_X6⟩
theorem jf_X6_31 : jv_fl RX6 31 6 5 := ⟨RX6, TX6, 7, rfl, by decide, by decide +kernel, jt_X6⟩
theorem jp_X6_31 : jv_fp RX6 31 6 5 .int := ⟨RX6, TX6, 7, tyX6, rfl, by decide, by decide +kernel, jt_X6, tyX6_ok, nmX6, rfl, by decide +kernel⟩
theorem jf_X6_35 : jv_fl RX6 35 6 6 := ⟨RX6, TX6, 7, rfl, by decide, by decide +kernel, jt_X6⟩
theorem jp_X6_35 : jv_fp RX6 35 6 6 .int := ⟨RX6, TX6, 7, tyX6, rfl, by decide, by decide +kernel, jt_X6, tyX6_ok, nmX6, rfl, by decide +kernel⟩
theorem jf_X1_9 : jv_fl RX1 9 1 0 := ⟨RX1, TX1, 8, rfl, by decide, by decide +kernel, jt_X1⟩
theorem jf_X1_15 : jv_fl RX1 15 1 1 := ⟨RX1, TX1, 8, rfl, by decide, by decide +kernel, jt_X1⟩
theorem jf_X1_18 : jv_fl RX1 18 1 2 := ⟨RX1, TX1, 8, rfl, by decide, by decide +kernel, jt_X1⟩
theorem jf_X1_21 : jv_fl RX1 21 1 3 := ⟨RX1, TX1, 8, rfl, by decide, by decide +kernel, jt_X1⟩
theorem jf_X1_24 : jv_fl RX1 24 1 4 := ⟨RX1, TX1, 8, rfl, by decide, by decide +kernel, jt_X1⟩
theorem jf_X1_27 : jv_fl RX1 27 1 5 := ⟨RX1, TX1, 8, rfl, by decide, by decide +kernel, jt_X1⟩
theorem jp_X1_27 : jv_fp RX1 27 1 5 .int := ⟨RX1, TX1, 8, tyX1, rfl, by decide, by decide +kernel, jt_X1, tyX1_ok, nmX1, rfl, by decide +kernel⟩
theorem jf_X1_31 : jv_fl RX1 31 1 6 := ⟨RX1, TX1, 8, rfl, by decide, by decide +kernel, jt_X1⟩
theorem jp_X1_31 : jv_fp RX1 31 1 6 .long := ⟨RX1, TX1, 8, tyX1, rfl, by decide, by decide +kernel, jt_X1, tyX1_ok, nmX1, rfl, by decide +kernel⟩
theorem jf_X1_35 : jv_fl RX1 35 1 7 := ⟨RX1, TX1, 8, rfl, by decide, by decide +kernel, jt_X1⟩
theorem jp_X1_35 : jv_fp RX1 35 1 7 .boolean := ⟨RX1, TX1, 8, tyX1, rfl, by decide, by decide +kernel, jt_X1, tyX1_ok, nmX1, rfl, by decide +kernel⟩
theorem jf_X4_9 : jv_fl RX4 9 4 0 := ⟨RX4, TX4, 2, rfl, by decide, by decide +kernel, jt_X4⟩
theorem jf_X4_15 : jv_fl RX4 15 4 1 := ⟨RX4, TX4, 2, rfl, by decide, by decide +kernel, jt_X4⟩
theorem jp_X4_15 : jv_fp RX4 15 4 1 .int := ⟨RX4, TX4, 2, tyX4, rfl, by decide, by decide +kernel, jt_X4, tyX4_ok, nmX4, rfl, by decide +kernel⟩
theorem jf_X7_10 : jv_fl RX7 10 7 0 := ⟨RX7, TX7, 8, rfl, by decide, by decide +kernel, jt_X7⟩
theorem jf_X7_19 : jv_fl RX7 19 7 1 := ⟨RX7, TX7, 8, rfl, by decide, by decide +kernel, jt_X7⟩
theorem jf_X7_26 : jv_fl RX7 26 7 2 := ⟨RX7, TX7, 8, rfl, by decide, by decide +kernel, jt_X7⟩
theorem jf_X7_33 : jv_fl RX7 33 7 3 := ⟨RX7, TX7, 8, rfl, by decide, by decide +kernel, jt_X7⟩
theorem jf_X7_40 : jv_fl RX7 40 7 4 := ⟨RX7, TX7, 8, rfl, by decide, by decide +kernel, jt_X7⟩
theorem jp_X7_40 : jv_fp RX7 40 7 4 (.object "BasinSizes$StateRows") := ⟨RX7, TX7, 8, tyX7, rfl, by decide, by decide +kernel, jt_X7, tyX7_ok, nmX7, rfl, by decide +kernel⟩
theorem jf_X7_44 : jv_fl RX7 44 7 5 := ⟨RX7, TX7, 8, rfl, by decide, by decide +kernel, jt_X7⟩
theorem jp_X7_44 : jv_fp RX7 44 7 5 (.object "BasinSizes$StateRows") := ⟨RX7, TX7, 8, tyX7, rfl, by decide, by decide +kernel, jt_X7, tyX7_ok, nmX7, rfl, by decide +kernel⟩
theorem jf_X7_50 : jv_fl RX7 50 7 6 := ⟨RX7, TX7, 8, rfl, by decide, by decide +kernel, jt_X7⟩
theorem jf_X7_57 : jv_fl RX7 57 7 7 := ⟨RX7, TX7, 8, rfl, by decide, by decide +kernel, jt_X7⟩
theorem jf_X8_72 : jv_fl RX8 72 8 0 := ⟨RX8, TX8, 27, rfl, by decide, by decide +kernel, jt_X8⟩
theorem jp_X8_72 : jv_fp RX8 72 8 0 .int := ⟨RX8, TX8, 27, tyX8, rfl, by decide, by decide +kernel, jt_X8, tyX8_ok, nmX8, rfl, by decide +kernel⟩
theorem jf_X8_7 : jv_fl RX8 7 8 1 := ⟨RX8, TX8, 27, rfl, by decide, by decide +kernel, jt_X8⟩
theorem jf_X8_13 : jv_fl RX8 13 8 2 := ⟨RX8, TX8, 27, rfl, by decide, by decide +kernel, jt_X8⟩
theorem jf_X8_16 : jv_fl RX8 16 8 3 := ⟨RX8, TX8, 27, rfl, by decide, by decide +kernel, jt_X8⟩
theorem jf_X8_96 : jv_fl RX8 96 8 4 := ⟨RX8, TX8, 27, rfl, by decide, by decide +kernel, jt_X8⟩
theorem jp_X8_96 : jv_fp RX8 96 8 4 .int := ⟨RX8, TX8, 27, tyX8, rfl, by decide, by decide +kernel, jt_X8, tyX8_ok, nmX8, rfl, by decide +kernel⟩
theorem jf_X8_19 : jv_fl RX8 19 8 5 := ⟨RX8, TX8, 27, rfl, by decide, by decide +kernel, jt_X8⟩
theorem jf_X8_22 : jv_fl RX8 22 8 6 := ⟨RX8, TX8, 27, rfl, by decide, by decide +kernel, jt_X8⟩
theorem jf_X8_113 : jv_fl RX8 113 8 7 := ⟨RX8, TX8, 27, rfl, by decide, by decide +kernel, jt_X8⟩
theorem jp_X8_113 : jv_fp RX8 113 8 7 .int := ⟨RX8, TX8, 27, tyX8, rfl, by decide, by decide +kernel, jt_X8, tyX8_ok, nmX8, rfl, by decide +kernel⟩
theorem jf_X8_25 : jv_fl RX8 25 8 8 := ⟨RX8, TX8, 27, rfl, by decide, by decide +kernel, jt_X8⟩
theorem jf_X8_120 : jv_fl RX8 120 8 9 := ⟨RX8, TX8, 27, rfl, by decide, by decide +kernel, jt_X8⟩
theorem jp_X8_120 : jv_fp RX8 120 8 9 .int := ⟨RX8, TX8, 27, tyX8, rfl, by decide, by decide +kernel, jt_X8, tyX8_ok, nmX8, rfl, by decide +kernel⟩
theorem jf_X8_28 : jv_fl RX8 28 8 10 := ⟨RX8, TX8, 27, rfl, by decide, by decide +kernel, jt_X8⟩
theorem jf_X8_149 : jv_fl RX8 149 8 11 := ⟨RX8, TX8, 27, rfl, by decide, by decide +kernel, jt_X8⟩
theorem jp_X8_149 : jv_fp RX8 149 8 11 .int := ⟨RX8, TX8, 27, tyX8, rfl, by decide, by decide +kernel, jt_X8, tyX8_ok, nmX8, rfl, by decide +kernel⟩
theorem jf_X8_31 : jv_fl RX8 31 8 12 := ⟨RX8, TX8, 27, rfl, by decide, by decide +kernel, jt_X8⟩
theorem jf_X8_34 : jv_fl RX8 34 8 13 := ⟨RX8, TX8, 27, rfl, by decide, by decide +kernel, jt_X8⟩
theorem jf_X8_37 : jv_fl RX8 37 8 14 := ⟨RX8, TX8, 27, rfl, by decide, by decide +kernel, jt_X8⟩
theorem jf_X8_40 : jv_fl RX8 40 8 15 := ⟨RX8, TX8, 27, rfl, by decide, by decide +kernel, jt_X8⟩
theorem jf_X8_43 : jv_fl RX8 43 8 16 := ⟨RX8, TX8, 27, rfl, by decide, by decide +kernel, jt_X8⟩
theorem jf_X8_123 : jv_fl RX8 123 8 17 := ⟨RX8, TX8, 27, rfl, by decide, by decide +kernel, jt_X8⟩
theorem jp_X8_123 : jv_fp RX8 123 8 17 .int := ⟨RX8, TX8, 27, tyX8, rfl, by decide, by decide +kernel, jt_X8, tyX8_ok, nmX8, rfl, by decide +kernel⟩
theorem jf_X8_130 : jv_fl RX8 130 8 18 := ⟨RX8, TX8, 27, rfl, by decide, by decide +kernel, jt_X8⟩
theorem jp_X8_130 : jv_fp RX8 130 8 18 .boolean := ⟨RX8, TX8, 27, tyX8, rfl, by decide, by decide +kernel, jt_X8, tyX8_ok, nmX8, rfl, by decide +kernel⟩
theorem jf_X8_174 : jv_fl RX8 174 8 19 := ⟨RX8, TX8, 27, rfl, by decide, by decide +kernel, jt_X8⟩
theorem jp_X8_174 : jv_fp RX8 174 8 19 .int := ⟨RX8, TX8, 27, tyX8, rfl, by decide, by decide +kernel, jt_X8, tyX8_ok, nmX8, rfl, by decide +kernel⟩
theorem jf_X8_46 : jv_fl RX8 46 8 20 := ⟨RX8, TX8, 27, rfl, by decide, by decide +kernel, jt_X8⟩
theorem jf_X8_177 : jv_fl RX8 177 8 21 := ⟨RX8, TX8, 27, rfl, by decide, by decide +kernel, jt_X8⟩
theorem jp_X8_177 : jv_fp RX8 177 8 21 .boolean := ⟨RX8, TX8, 27, tyX8, rfl, by decide, by decide +kernel, jt_X8, tyX8_ok, nmX8, rfl, by decide +kernel⟩
theorem jf_X8_50 : jv_fl RX8 50 8 22 := ⟨RX8, TX8, 27, rfl, by decide, by decide +kernel, jt_X8⟩
theorem jf_X8_53 : jv_fl RX8 53 8 23 := ⟨RX8, TX8, 27, rfl, by decide, by decide +kernel, jt_X8⟩
theorem jf_X8_56 : jv_fl RX8 56 8 24 := ⟨RX8, TX8, 27, rfl, by decide, by decide +kernel, jt_X8⟩
theorem jf_X8_192 : jv_fl RX8 192 8 25 := ⟨RX8, TX8, 27, rfl, by decide, by decide +kernel, jt_X8⟩
theorem jp_X8_192 : jv_fp RX8 192 8 25 .int := ⟨RX8, TX8, 27, tyX8, rfl, by decide, by decide +kernel, jt_X8, tyX8_ok, nmX8, rfl, by decide +kernel⟩
theorem jf_X8_59 : jv_fl RX8 59 8 26 := ⟨RX8, TX8, 27, rfl, by decide, by decide +kernel, jt_X8⟩
theorem jm_L_13 : jv_mv RL 13 RX7 yX7_rain cX7_rain 4 (some .int) 3 := by decide +kernel
theorem jm_X7_63 : jv_ms RX7 63 RX7 yX7_within cX7_within 6 (some .boolean) 3 := by decide +kernel
theorem jm_X7_71 : jv_mv RX7 71 RX3 yX3_add cX3_add 7 (some .int) 3 := by decide +kernel
theorem jm_X3_29 : jv_mv RX3 29 RX3 yX3_mayFollow cX3_mayFollow 6 (some .boolean) 3 := by decide +kernel
theorem jm_L_18 : jv_mv RL 18 RX7 yX7_volume cX7_volume 5 (some .long) 3 := by decide +kernel
theorem jm_X7_75 : jv_mv RX7 75 RX7 yX7_neediestRain cX7_neediestRain 4 (some .int) 3 := by decide +kernel
theorem jm_X7_198 : jv_mv RX7 198 RX3 yX3_neediest cX3_neediest 10 (some .int) 3 := by decide +kernel
theorem jm_X3_45 : jv_mv RX3 45 RX3 yX3_need cX3_need 4 (some .long) 3 := by decide +kernel
theorem jm_X3_33 : jv_mv RX3 33 RX3 yX3_comes cX3_comes 3 (some .long) 2 := by decide +kernel
theorem jm_X3_37 : jv_mv RX3 37 RX3 yX3_secondsOf cX3_secondsOf 2 (some .long) 1 := by decide +kernel
theorem jm_X7_80 : jv_mv RX7 80 RX3 yX3_need cX3_need 4 (some .long) 3 := by decide +kernel
theorem jm_X7_84 : jv_ms RX7 84 RJ9 yJ9_max_f86c9 cJ9_max_f86c9 4 (some .long) 2 := by decide +kernel
theorem jm_L_23 : jv_mv RL 23 RX7 yX7_by cX7_by 5 (some .int) 3 := by decide +kernel
theorem jm_X7_90 : jv_mv RX7 90 RX3 yX3_minutesOf cX3_minutesOf 2 (some .int) 1 := by decide +kernel
theorem jm_X3_25 : jv_mn RX3 25 RX7 RX7 yX7_within cX7_within 6 (some .boolean) 3 := by decide +kernel
theorem jm_L_29 : jv_mv RL 29 RX7 yX7_outflow cX7_outflow 7 (some .int) 3 := by decide +kernel
theorem jm_X7_98 : jv_mv RX7 98 RX3 yX3_leastOutflow cX3_leastOutflow 8 (some .long) 3 := by decide +kernel
theorem jm_X3_51 : jv_mv RX3 51 RX3 yX3_leastOutflowFor cX3_leastOutflowFor 9 (some .long) 3 := by decide +kernel
theorem jm_X3_55 : jv_ms RX3 55 RJ9 yJ9_max_f86c9 cJ9_max_f86c9 4 (some .long) 2 := by decide +kernel
theorem jm_L_34 : jv_mv RL 34 RX7 yX7_level cX7_level 3 (some .int) 2 := by decide +kernel
theorem jm_X7_104 : jv_mv RX7 104 RX2 yX2_add cX2_add 6 (some .int) 2 := by decide +kernel
theorem jm_X2_26 : jv_ms RX2 26 RX2 yX2_between cX2_between 6 (some .long) 3 := by decide +kernel
theorem jm_L_39 : jv_mv RL 39 RX7 yX7_area cX7_area 2 (some .int) 1 := by decide +kernel
theorem jm_X7_107 : jv_mv RX7 107 RX2 yX2_reaches cX2_reaches 2 (some .boolean) 1 := by decide +kernel
theorem jm_X7_111 : jv_mv RX7 111 RX2 yX2_areaAt cX2_areaAt 8 (some .int) 1 := by decide +kernel
theorem jm_X2_32 : jv_mv RX2 32 RX2 yX2_lastUpTo cX2_lastUpTo 4 (some .int) 1 := by decide +kernel
theorem jm_L_44 : jv_mv RL 44 RX7 yX7_content cX7_content 2 (some .long) 1 := by decide +kernel
theorem jm_X7_114 : jv_mv RX7 114 RX2 yX2_contentAt cX2_contentAt 3 (some .long) 1 := by decide +kernel
theorem jm_X2_36 : jv_mv RX2 36 RX2 yX2_areaAt cX2_areaAt 8 (some .int) 1 := by decide +kernel
theorem jm_L_49 : jv_mv RL 49 RX7 yX7_fill cX7_fill 3 (some .int) 1 := by decide +kernel
theorem jm_X7_118 : jv_mv RX7 118 RX2 yX2_levelOf cX2_levelOf 7 (some .int) 1 := by decide +kernel
theorem jm_X2_39 : jv_mn RX2 39 RX7 RX7 yX7_within cX7_within 6 (some .boolean) 3 := by decide +kernel
theorem jm_X2_44 : jv_mv RX2 44 RX2 yX2_contentAt cX2_contentAt 3 (some .long) 1 := by decide +kernel
theorem jm_L_54 : jv_mv RL 54 RX7 yX7_culvert cX7_culvert 5 (some .int) 4 := by decide +kernel
theorem jm_X7_122 : jv_mv RX7 122 RX0 yX0_add cX0_add 5 (some .int) 4 := by decide +kernel
theorem jm_L_59 : jv_mv RL 59 RX7 yX7_unit cX7_unit 2 (some .boolean) 1 := by decide +kernel
theorem jm_X7_129 : jv_mv RX7 129 RX5 yX5_collect cX5_collect 2 (some .boolean) 1 := by decide +kernel
theorem jm_L_64 : jv_mv RL 64 RX7 yX7_states cX7_states 4 (some .int) 0 := by decide +kernel
theorem jm_X7_133 : jv_mv RX7 133 RX5 yX5_readStates cX5_readStates 4 (some .boolean) 1 := by decide +kernel
theorem jm_X5_22 : jv_mv RX5 22 RX6 yX6_clear cX6_clear 1 none 0 := by decide +kernel
theorem jm_X5_27 : jv_mv RX5 27 RX5 yX5_readTests cX5_readTests 3 (some .boolean) 1 := by decide +kernel
theorem jm_X5_42 : jv_mv RX5 42 RX5 yX5_readTest cX5_readTest 3 (some .boolean) 1 := by decide +kernel
theorem jm_X5_45 : jv_mv RX5 45 RX6 yX6_beginTest cX6_beginTest 2 none 0 := by decide +kernel
theorem jm_X5_48 : jv_mv RX5 48 RX5 yX5_readSum cX5_readSum 6 (some .boolean) 2 := by decide +kernel
theorem jm_X5_56 : jv_mv RX5 56 RX5 yX5_readTerm cX5_readTerm 8 (some .boolean) 2 := by decide +kernel
theorem jm_X5_34 : jv_mv RX5 34 RX5 yX5_toNextSign cX5_toNextSign 1 (some .char) 0 := by decide +kernel
theorem jm_X5_59 : jv_mv RX5 59 RX5 yX5_readNumber cX5_readNumber 5 (some .int) 0 := by decide +kernel
theorem jm_X5_65 : jv_mv RX5 65 RJ0 yJ0_indexOf_0f7a4 cJ0_indexOf_0f7a4 2 (some .int) 1 := by decide +kernel
theorem jm_J0_633 : jv_mv RJ0 633 RJ0 yJ0_indexOf_7cf53 cJ0_indexOf_7cf53 3 (some .int) 2 := by decide +kernel
theorem jm_J0_492 : jv_mv RJ0 492 RJ0 yJ0_isLatin1_aae02 cJ0_isLatin1_aae02 1 (some .boolean) 0 := by decide +kernel
theorem jm_J0_505 : jv_mv RJ0 505 RJ0 yJ0_length_8abf5 cJ0_length_8abf5 1 (some .int) 0 := by decide +kernel
theorem jm_J0_335 : jv_mv RJ0 335 RJ0 yJ0_coder_7d493 cJ0_coder_7d493 1 (some .byte) 0 := by decide +kernel
theorem jm_J0_637 : jv_ms RJ0 637 RJ1 yJ1_indexOf_4cfef cJ1_indexOf_4cfef 4 (some .int) 4 := by decide +kernel
theorem jm_J1_88 : jv_ms RJ1 88 RJ1 yJ1_canEncode_9a6ad cJ1_canEncode_9a6ad 1 (some .boolean) 1 := by decide +kernel
theorem jm_J1_92 : jv_ms RJ1 92 RJ9 yJ9_max_7cf53 cJ9_max_7cf53 2 (some .int) 2 := by decide +kernel
theorem jm_J1_38 : jv_ms RJ1 38 RJ9 yJ9_min_7cf53 cJ9_min_7cf53 2 (some .int) 2 := by decide +kernel
theorem jm_J1_95 : jv_ms RJ1 95 RJ1 yJ1_indexOfChar_4cfef cJ1_indexOfChar_4cfef 6 (some .int) 4 := by decide +kernel
theorem jm_J0_640 : jv_ms RJ0 640 RJ2 yJ2_indexOf_4cfef cJ2_indexOf_4cfef 4 (some .int) 4 := by decide +kernel
theorem jm_J2_224 : jv_ms RJ2 224 RJ9 yJ9_max_7cf53 cJ9_max_7cf53 2 (some .int) 2 := by decide +kernel
theorem jm_J2_183 : jv_ms RJ2 183 RJ9 yJ9_min_7cf53 cJ9_min_7cf53 2 (some .int) 2 := by decide +kernel
theorem jm_J2_228 : jv_ms RJ2 228 RJ2 yJ2_indexOfChar_4cfef cJ2_indexOfChar_4cfef 4 (some .int) 4 := by decide +kernel
theorem jm_J2_96 : jv_ms RJ2 96 RJ2 yJ2_checkBoundsBeginEnd_d044e cJ2_checkBoundsBeginEnd_d044e 3 none 3 := by decide +kernel
theorem jm_J2_48 : jv_ms RJ2 48 RJ2 yJ2_length_9d52b cJ2_length_9d52b 1 (some .int) 1 := by decide +kernel
theorem jm_J2_241 : jv_ms RJ2 241 RJ0 yJ0_checkBoundsBeginEnd_23922 cJ0_checkBoundsBeginEnd_23922 3 none 3 := by decide +kernel
theorem jm_J0_1062 : jv_ms RJ0 1062 RJ3 yJ3_checkFromToIndex_8c36e cJ3_checkFromToIndex_8c36e 4 (some .int) 4 := by decide +kernel
theorem jm_J2_244 : jv_ms RJ2 244 RJ2 yJ2_indexOfCharUnsafe_4cfef cJ2_indexOfCharUnsafe_4cfef 5 (some .int) 4 := by decide +kernel
theorem jm_J2_71 : jv_ms RJ2 71 RJ2 yJ2_getChar_3b067 cJ2_getChar_3b067 2 (some .char) 2 := by decide +kernel
theorem jm_J2_232 : jv_ms RJ2 232 RJ2 yJ2_indexOfSupplementary_4cfef cJ2_indexOfSupplementary_4cfef 7 (some .int) 4 := by decide +kernel
theorem jm_J2_164 : jv_ms RJ2 164 RJ11 yJ11_isValidCodePoint_9a6ad cJ11_isValidCodePoint_9a6ad 2 (some .boolean) 1 := by decide +kernel
theorem jm_J2_157 : jv_ms RJ2 157 RJ11 yJ11_highSurrogate_5068e cJ11_highSurrogate_5068e 1 (some .char) 1 := by decide +kernel
theorem jm_J2_161 : jv_ms RJ2 161 RJ11 yJ11_lowSurrogate_5068e cJ11_lowSurrogate_5068e 1 (some .char) 1 := by decide +kernel
theorem jm_X5_71 : jv_mv RX5 71 RX6 yX6_addTerm cX6_addTerm 3 none 2 := by decide +kernel
theorem jm_X5_38 : jv_mv RX5 38 RX5 yX5_standAtOneTooMany cX5_standAtOneTooMany 1 (some .boolean) 0 := by decide +kernel
theorem jm_X5_52 : jv_mv RX5 52 RX6 yX6_endTest cX6_endTest 2 none 1 := by decide +kernel
theorem jm_X5_31 : jv_mv RX5 31 RX6 yX6_endState cX6_endState 1 none 0 := by decide +kernel
theorem jm_X7_137 : jv_mv RX7 137 RX6 yX6_size cX6_size 1 (some .int) 0 := by decide +kernel
theorem jm_X7_141 : jv_mv RX7 141 RX5 yX5_position cX5_position 1 (some .int) 0 := by decide +kernel
theorem jm_X7_144 : jv_mv RX7 144 RX5 yX5_clear cX5_clear 1 none 0 := by decide +kernel
theorem jm_L_69 : jv_mv RL 69 RX7 yX7_state cX7_state 5 (some .int) 4 := by decide +kernel
theorem jm_X7_147 : jv_mv RX7 147 RX0 yX0_has cX0_has 2 (some .boolean) 1 := by decide +kernel
theorem jm_X0_31 : jv_mn RX0 31 RX7 RX7 yX7_within cX7_within 6 (some .boolean) 3 := by decide +kernel
theorem jm_X7_150 : jv_ms RX7 150 RX7 yX7_isWaterOrFlow cX7_isWaterOrFlow 1 (some .boolean) 1 := by decide +kernel
theorem jm_X7_153 : jv_mv RX7 153 RX0 yX0_valuesFor cX0_valuesFor 4 (some (.array .int)) 3 := by decide +kernel
theorem jm_X0_35 : jv_mv RX0 35 RX0 yX0_has cX0_has 2 (some .boolean) 1 := by decide +kernel
theorem jm_X7_157 : jv_mv RX7 157 RX6 yX6_findSpans cX6_findSpans 4 none 1 := by decide +kernel
theorem jm_X6_40 : jv_mv RX6 40 RX6 yX6_narrowByTest cX6_narrowByTest 11 none 3 := by decide +kernel
theorem jm_X6_46 : jv_mv RX6 46 RX6 yX6_narrow cX6_narrow 6 none 3 := by decide +kernel
theorem jm_X6_50 : jv_ms RX6 50 RJ9 yJ9_floorDiv_f86c9 cJ9_floorDiv_f86c9 6 (some .long) 2 := by decide +kernel
theorem jm_X6_56 : jv_ms RX6 56 RJ9 yJ9_min_f86c9 cJ9_min_f86c9 4 (some .long) 2 := by decide +kernel
theorem jm_X6_59 : jv_ms RX6 59 RJ9 yJ9_max_f86c9 cJ9_max_f86c9 4 (some .long) 2 := by decide +kernel
theorem jm_X7_161 : jv_mv RX7 161 RX6 yX6_firstAt cX6_firstAt 3 (some .int) 1 := by decide +kernel
theorem jm_X6_62 : jv_mv RX6 62 RX6 yX6_spans cX6_spans 4 (some .boolean) 2 := by decide +kernel
theorem jm_L_73 : jv_mv RL 73 RX7 yX7_head cX7_head 5 (some .int) 4 := by decide +kernel
theorem jm_X7_164 : jv_mv RX7 164 RX6 yX6_leastHead cX6_leastHead 6 (some .int) 1 := by decide +kernel
theorem jm_X6_66 : jv_mn RX6 66 RX7 RX7 yX7_within cX7_within 6 (some .boolean) 3 := by decide +kernel
theorem jm_L_77 : jv_mv RL 77 RX7 yX7_day cX7_day 3 (some .int) 1 := by decide +kernel
theorem jm_X7_169 : jv_mv RX7 169 RX1 yX1_add cX1_add 3 (some .int) 1 := by decide +kernel
theorem jm_L_81 : jv_mv RL 81 RX7 yX7_run cX7_run 5 (some .int) 2 := by decide +kernel
theorem jm_X7_173 : jv_mv RX7 173 RX1 yX1_keepRun cX1_keepRun 5 (some .int) 2 := by decide +kernel
theorem jm_X1_39 : jv_mv RX1 39 RX1 yX1_goThrough cX1_goThrough 11 (some .int) 2 := by decide +kernel
theorem jm_X1_43 : jv_ms RX1 43 RJ9 yJ9_min_f86c9 cJ9_min_f86c9 4 (some .long) 2 := by decide +kernel
theorem jm_X1_49 : jv_ms RX1 49 RJ9 yJ9_max_f86c9 cJ9_max_f86c9 4 (some .long) 2 := by decide +kernel
theorem jm_L_86 : jv_mv RL 86 RX7 yX7_behind cX7_behind 3 (some .long) 2 := by decide +kernel
theorem jm_X7_177 : jv_mv RX7 177 RX1 yX1_recall cX1_recall 3 (some .long) 2 := by decide +kernel
theorem jm_X1_52 : jv_mn RX1 52 RX7 RX7 yX7_within cX7_within 6 (some .boolean) 3 := by decide +kernel
theorem jm_L_91 : jv_mv RL 91 RX7 yX7_room cX7_room 4 (some .long) 2 := by decide +kernel
theorem jm_X7_183 : jv_mv RX7 183 RX1 yX1_leastRoom cX1_leastRoom 11 (some .long) 2 := by decide +kernel
theorem jm_L_96 : jv_mv RL 96 RX7 yX7_way cX7_way 2 (some .int) 1 := by decide +kernel
theorem jm_X7_187 : jv_mv RX7 187 RX4 yX4_add cX4_add 2 (some .int) 1 := by decide +kernel
theorem jm_L_100 : jv_mv RL 100 RX7 yX7_stops cX7_stops 1 (some .int) 0 := by decide +kernel
theorem jm_X7_189 : jv_mv RX7 189 RX4 yX4_firstNotBelow cX4_firstNotBelow 2 (some .int) 0 := by decide +kernel
theorem jm_L_104 : jv_mv RL 104 RX7 yX7_count cX7_count 2 (some .int) 1 := by decide +kernel
theorem jm_X7_192 : jv_mv RX7 192 RX3 yX3_size cX3_size 1 (some .int) 0 := by decide +kernel
theorem jm_X7_193 : jv_mv RX7 193 RX2 yX2_size cX2_size 1 (some .int) 0 := by decide +kernel
theorem jm_X7_194 : jv_mv RX7 194 RX0 yX0_size cX0_size 1 (some .int) 0 := by decide +kernel
theorem jm_X7_195 : jv_mv RX7 195 RX1 yX1_size cX1_size 1 (some .int) 0 := by decide +kernel
theorem jm_X7_196 : jv_mv RX7 196 RX4 yX4_size cX4_size 1 (some .int) 0 := by decide +kernel
theorem jm_X7_197 : jv_mv RX7 197 RX5 yX5_size cX5_size 1 (some .int) 0 := by decide +kernel
theorem jm_L_17 : jv_mv RL 17 RX8 yX8_rain cX8_rain 7 (some .int) 3 := by decide +kernel
theorem jm_X8_64 : jv_ms RX8 64 RX8 yX8_in cX8_in 6 (some .boolean) 3 := by decide +kernel
theorem jm_L_22 : jv_mv RL 22 RX8 yX8_volume cX8_volume 7 (some .long) 3 := by decide +kernel
theorem jm_X8_86 : jv_mv RX8 86 RX8 yX8_worst cX8_worst 6 (some .int) 3 := by decide +kernel
theorem jm_X8_78 : jv_mv RX8 78 RX8 yX8_need cX8_need 4 (some .long) 3 := by decide +kernel
theorem jm_L_26 : jv_mv RL 26 RX8 yX8_by cX8_by 5 (some .int) 3 := by decide +kernel
theorem jm_L_33 : jv_mv RL 33 RX8 yX8_outflow cX8_outflow 14 (some .int) 3 := by decide +kernel
theorem jm_L_38 : jv_mv RL 38 RX8 yX8_level cX8_level 3 (some .int) 2 := by decide +kernel
theorem jm_L_43 : jv_mv RL 43 RX8 yX8_area cX8_area 4 (some .int) 1 := by decide +kernel
theorem jm_X8_99 : jv_mv RX8 99 RX8 yX8_below cX8_below 3 (some .int) 1 := by decide +kernel
theorem jm_L_48 : jv_mv RL 48 RX8 yX8_content cX8_content 6 (some .long) 1 := by decide +kernel
theorem jm_X8_105 : jv_mv RX8 105 RX8 yX8_area cX8_area 4 (some .int) 1 := by decide +kernel
theorem jm_L_53 : jv_mv RL 53 RX8 yX8_fill cX8_fill 6 (some .int) 1 := by decide +kernel
theorem jm_X8_108 : jv_mv RX8 108 RX8 yX8_content cX8_content 6 (some .long) 1 := by decide +kernel
theorem jm_L_58 : jv_mv RL 58 RX8 yX8_culvert cX8_culvert 5 (some .int) 4 := by decide +kernel
theorem jm_L_63 : jv_mv RL 63 RX8 yX8_unit cX8_unit 2 (some .boolean) 1 := by decide +kernel
theorem jm_L_68 : jv_mv RL 68 RX8 yX8_states cX8_states 4 (some .int) 0 := by decide +kernel
theorem jm_X8_126 : jv_mv RX8 126 RX8 yX8_look cX8_look 1 (some .int) 0 := by decide +kernel
theorem jm_X8_146 : jv_mv RX8 146 RX8 yX8_readState cX8_readState 6 none 1 := by decide +kernel
theorem jm_X8_142 : jv_mv RX8 142 RX8 yX8_readSum cX8_readSum 5 none 1 := by decide +kernel
theorem jm_X8_138 : jv_mv RX8 138 RX8 yX8_readTerm cX8_readTerm 8 none 2 := by decide +kernel
theorem jm_X8_134 : jv_ms RX8 134 RX8 yX8_isLetter cX8_isLetter 1 (some .boolean) 1 := by decide +kernel
theorem jm_L_72 : jv_mv RL 72 RX8 yX8_state cX8_state 6 (some .int) 4 := by decide +kernel
theorem jm_X8_158 : jv_mv RX8 158 RX8 yX8_isCulvert cX8_isCulvert 2 (some .boolean) 1 := by decide +kernel
theorem jm_X8_161 : jv_ms RX8 161 RX8 yX8_isWater cX8_isWater 1 (some .boolean) 1 := by decide +kernel
theorem jm_X8_164 : jv_mv RX8 164 RX8 yX8_isIn cX8_isIn 13 (some .boolean) 5 := by decide +kernel
theorem jm_X8_152 : jv_mv RX8 152 RX8 yX8_sumOf cX8_sumOf 12 (some .long) 5 := by decide +kernel
theorem jm_L_76 : jv_mv RL 76 RX8 yX8_head cX8_head 6 (some .int) 4 := by decide +kernel
theorem jm_X8_168 : jv_mv RX8 168 RX8 yX8_state cX8_state 6 (some .int) 4 := by decide +kernel
theorem jm_L_80 : jv_mv RL 80 RX8 yX8_day cX8_day 3 (some .int) 1 := by decide +kernel
theorem jm_L_85 : jv_mv RL 85 RX8 yX8_run cX8_run 5 (some .int) 2 := by decide +kernel
theorem jm_X8_182 : jv_mv RX8 182 RX8 yX8_go cX8_go 9 (some .int) 2 := by decide +kernel
theorem jm_L_90 : jv_mv RL 90 RX8 yX8_behind cX8_behind 6 (some .long) 2 := by decide +kernel
theorem jm_L_95 : jv_mv RL 95 RX8 yX8_room cX8_room 10 (some .long) 2 := by decide +kernel
theorem jm_L_99 : jv_mv RL 99 RX8 yX8_way cX8_way 2 (some .int) 1 := by decide +kernel
theorem jm_L_103 : jv_mv RL 103 RX8 yX8_stops cX8_stops 2 (some .int) 0 := by decide +kernel
theorem jm_L_107 : jv_mv RL 107 RX8 yX8_count cX8_count 2 (some .int) 1 := by decide +kernel
theorem jk_X7_61 : Cond.constantLong RX7 61 (jv_l (1000)) ∈ jv_T := by decide +kernel
theorem jk_X7_67 : Cond.constantLong RX7 67 (jv_l (10000)) ∈ jv_T := by decide +kernel
theorem jk_X7_69 : Cond.constantLong RX7 69 (jv_l (100000)) ∈ jv_T := by decide +kernel
theorem jk_X7_94 : Cond.constantLong RX7 94 (jv_l (1000000)) ∈ jv_T := by decide +kernel
theorem jk_X3_41 : Cond.constantLong RX3 41 (jv_l (10)) ∈ jv_T := by decide +kernel
theorem jk_X3_43 : Cond.constantLong RX3 43 (jv_l (60)) ∈ jv_T := by decide +kernel
theorem jk_X7_78 : Cond.constantLong RX7 78 (jv_l (-1)) ∈ jv_T := by decide +kernel
theorem jk_X7_96 : Cond.constantLong RX7 96 (jv_l (1125899906842624)) ∈ jv_T := by decide +kernel
theorem jk_X3_49 : Cond.constantLong RX3 49 (jv_l (-1)) ∈ jv_T := by decide +kernel
theorem jk_X7_102 : Cond.constantLong RX7 102 (jv_l (-100000)) ∈ jv_T := by decide +kernel
theorem jk_X2_30 : Cond.constantLong RX2 30 (jv_l (5)) ∈ jv_T := by decide +kernel
theorem jk_X2_43 : Cond.constant RX2 43 (jv_i (-1000000)) ∈ jv_T := by decide +kernel
theorem jk_X7_125 : Cond.constantLong RX7 125 (jv_l (32)) ∈ jv_T := by decide +kernel
theorem jk_X7_127 : Cond.constantLong RX7 127 (jv_l (126)) ∈ jv_T := by decide +kernel
theorem jk_J2_227 : Cond.constant RJ2 227 (jv_i (65536)) ∈ jv_T := by decide +kernel
theorem jk_J11_110 : Cond.constant RJ11 110 (jv_i (55232)) ∈ jv_T := by decide +kernel
theorem jk_J11_76 : Cond.constant RJ11 76 (jv_i (56320)) ∈ jv_T := by decide +kernel
theorem jk_X7_201 : Cond.constantLong RX7 201 (jv_l (20000)) ∈ jv_T := by decide +kernel
theorem jk_X6_38 : Cond.constantLong RX6 38 (jv_l (20000)) ∈ jv_T := by decide +kernel
theorem jk_X6_44 : Cond.constantLong RX6 44 (jv_l (-1)) ∈ jv_T := by decide +kernel
theorem jk_X7_167 : Cond.constantLong RX7 167 (jv_l (1000000000000)) ∈ jv_T := by decide +kernel
theorem jk_X7_171 : Cond.constantLong RX7 171 (jv_l (1000000000000000)) ∈ jv_T := by decide +kernel
theorem jk_X1_56 : Cond.constantLong RX1 56 (jv_l (-1)) ∈ jv_T := by decide +kernel
theorem jk_X7_181 : Cond.constantLong RX7 181 (jv_l (400)) ∈ jv_T := by decide +kernel
theorem jk_X1_58 : Cond.constantLong RX1 58 (jv_l (2)) ∈ jv_T := by decide +kernel
theorem jk_X8_62 : Cond.constantLong RX8 62 (jv_l (1000)) ∈ jv_T := by decide +kernel
theorem jk_X8_68 : Cond.constantLong RX8 68 (jv_l (10000)) ∈ jv_T := by decide +kernel
theorem jk_X8_70 : Cond.constantLong RX8 70 (jv_l (100000)) ∈ jv_T := by decide +kernel
theorem jk_X8_76 : Cond.constantLong RX8 76 (jv_l (1000000)) ∈ jv_T := by decide +kernel
theorem jk_X8_82 : Cond.constantLong RX8 82 (jv_l (10)) ∈ jv_T := by decide +kernel
theorem jk_X8_84 : Cond.constantLong RX8 84 (jv_l (60)) ∈ jv_T := by decide +kernel
theorem jk_X8_90 : Cond.constantLong RX8 90 (jv_l (-1)) ∈ jv_T := by decide +kernel
theorem jk_X8_92 : Cond.constantLong RX8 92 (jv_l (1125899906842624)) ∈ jv_T := by decide +kernel
theorem jk_X8_94 : Cond.constantLong RX8 94 (jv_l (-100000)) ∈ jv_T := by decide +kernel
theorem jk_X8_103 : Cond.constantLong RX8 103 (jv_l (5)) ∈ jv_T := by decide +kernel
theorem jk_X8_112 : Cond.constant RX8 112 (jv_i (-1000000)) ∈ jv_T := by decide +kernel
theorem jk_X8_116 : Cond.constantLong RX8 116 (jv_l (32)) ∈ jv_T := by decide +kernel
theorem jk_X8_118 : Cond.constantLong RX8 118 (jv_l (126)) ∈ jv_T := by decide +kernel
theorem jk_X8_156 : Cond.constantLong RX8 156 (jv_l (20000)) ∈ jv_T := by decide +kernel
theorem jk_X8_172 : Cond.constantLong RX8 172 (jv_l (1000000000000)) ∈ jv_T := by decide +kernel
theorem jk_X8_180 : Cond.constantLong RX8 180 (jv_l (1000000000000000)) ∈ jv_T := by decide +kernel
theorem jk_X8_186 : Cond.constantLong RX8 186 (jv_l (400)) ∈ jv_T := by decide +kernel
theorem jk_X8_188 : Cond.constantLong RX8 188 (jv_l (400000000000000)) ∈ jv_T := by decide +kernel
theorem jk_X8_190 : Cond.constantLong RX8 190 (jv_l (2)) ∈ jv_T := by decide +kernel
theorem jk_L_27 : Cond.constantLong RL 27 (jv_l (4294967295)) ∈ jv_T := by decide +kernel
end
section
/-! HEAP FACTS, then the safe way -/
theorem jv_h1 {h : List jv_E} {a b : Nat} {c e : jv_E} (hne : a ≠ b) (hh : h[a]? = some c) : (h.set b e)[a]? = some c := by
  rw [List.getElem?_set_ne (Ne.symm hne)]
  exact hh
theorem jv_h0 {h : List jv_E} {a : Nat} {e : jv_E} (hh : ∃ c, h[a]? = some c) : (h.set a e)[a]? = some e := by
  obtain ⟨c, hc⟩ := hh
  exact List.getElem?_set_self (List.getElem?_eq_some_iff.mp hc).1
theorem jv_hs {h : List jv_E} {a b : Nat} {e : jv_E} (hh : ∃ c, h[a]? = some c) : ∃ c, (h.set b e)[a]? = some c := by
  by_cases q : a = b
  · subst q
    exact ⟨_, jv_h0 hh⟩
  · obtain ⟨c, hc⟩ := hh
    exact ⟨c, jv_h1 q hc⟩
/-- nothing but places lo .. hi differs -/
def jv_fr (lo hi : Nat) (h h' : List jv_E) : Prop := ∀ i, i < lo ∨ hi < i → h'[i]? = h[i]?
theorem jv_fr_rf {lo hi : Nat} {h : List jv_E} : jv_fr lo hi h h := fun _ _ => rfl
theorem jv_fr_set {lo hi a : Nat} {h h' : List jv_E} {c : jv_E} (ha : lo ≤ a ∧ a ≤ hi) (q : jv_fr lo hi h h') : jv_fr lo hi h (h'.set a c) := fun i hi => by
  rw [List.getElem?_set_ne (by omega)]
  exact q i hi
/-- the safe way: n places, their levels f -/
def jw_W (h : List jv_E) (n : Int) (f : Int → Int) : Prop := h[95]? = some (jv_ob 4 [.ref 96, .int (jv_i n)]) ∧ h[96]? = some (jv_ai 50 f)
theorem ct_X4_size {h : List jv_E} {n : Int} {f : Int → Int} (K : Nat) {post : Option Value → List jv_E → Prop} (w : jw_W h n f) (hp : post (some (.int (jv_i n))) h) : jv_Ct yX4_size cX4_size 1 (some .int) K [.ref 95] h post := by
  obtain ⟨w1, w2⟩ := w
  refine jv_entry (own := RX4) (by decide) rfl (Nat.le_of_ble_eq_true rfl) (fun X hq => ?_)
  refine jv_aload_n dX4_size_0 rfl ?_
  refine jv_getf dX4_size_1 jf_X4_15 (by repeat' (first | assumption | exact ⟨_, by assumption⟩ | refine jv_h1 (by omega) ?_ | refine jv_h0 ?_ | refine jv_hs ?_)) (by exact rfl) ?_
  exact jv_iret dX4_size_4 hq hp
theorem ct_X4_add {h : List jv_E} {n x : Int} {f : Int → Int} (K : Nat) {post : Option Value → List jv_E → Prop} (w : jw_W h n f) (hn : 0 ≤ n ∧ n ≤ 50) (hp1 : n < 50 → ∀ h', jw_W h' (n + 1) (jv_up f n x) → jv_fr 95 96 h h' → post (some (.int (jv_i (n + 1)))) h') (hp2 : 50 ≤ n → post (some (.int (jv_i (-1)))) h) : jv_Ct yX4_add cX4_add 2 (some .int) K [.ref 95, .int (jv_i x)] h post := by
  obtain ⟨w1, w2⟩ := w
  refine jv_entry (own := RX4) (by decide) rfl (Nat.le_of_ble_eq_true rfl) (fun X hq => ?_)
  refine jv_aload_n dX4_add_0 rfl ?_
  refine jv_getf dX4_add_1 jf_X4_15 (by repeat' (first | assumption | exact ⟨_, by assumption⟩ | refine jv_h1 (by omega) ?_ | refine jv_h0 ?_ | refine jv_hs ?_)) (by exact rfl) ?_
  refine jv_bipush dX4_add_4 ?_
  refine jv_icmp_lt 11 dX4_add_6 (fun c6 => ?_) (fun c6 => ?_)
  · refine jv_aload_n dX4_add_11 rfl ?_
    refine jv_getf dX4_add_12 jf_X4_9 (by repeat' (first | assumption | exact ⟨_, by assumption⟩ | refine jv_h1 (by omega) ?_ | refine jv_h0 ?_ | refine jv_hs ?_)) (by exact rfl) ?_
    refine jv_aload_n dX4_add_15 rfl ?_
    refine jv_getf dX4_add_16 jf_X4_15 (by repeat' (first | assumption | exact ⟨_, by assumption⟩ | refine jv_h1 (by omega) ?_ | refine jv_h0 ?_ | refine jv_hs ?_)) (by exact rfl) ?_
    refine jv_iload_n dX4_add_19 rfl ?_
    refine jv_iast dX4_add_20 (by repeat' (first | assumption | exact ⟨_, by assumption⟩ | refine jv_h1 (by omega) ?_ | refine jv_h0 ?_ | refine jv_hs ?_)) ?_
    refine jv_aload_n dX4_add_21 rfl ?_
    refine jv_dup dX4_add_22 rfl ?_
    refine jv_getf dX4_add_23 jf_X4_15 (by repeat' (first | assumption | exact ⟨_, by assumption⟩ | refine jv_h1 (by omega) ?_ | refine jv_h0 ?_ | refine jv_hs ?_)) (by exact rfl) ?_
    refine jv_iconst dX4_add_26 ?_
    refine jv_iadd dX4_add_27 ?_
    refine jv_putf dX4_add_28 jp_X4_15 (by repeat' (first | assumption | exact ⟨_, by assumption⟩ | refine jv_h1 (by omega) ?_ | refine jv_h0 ?_ | refine jv_hs ?_)) (by exact Nat.le_of_ble_eq_true rfl) ?_
    refine jv_aload_n dX4_add_31 rfl ?_
    refine jv_getf dX4_add_32 jf_X4_15 (by repeat' (first | assumption | exact ⟨_, by assumption⟩ | refine jv_h1 (by omega) ?_ | refine jv_h0 ?_ | refine jv_hs ?_)) (by exact rfl) ?_
    exact jv_iret dX4_add_35 hq (hp1 c6 _ ⟨(by repeat' (first | assumption | exact ⟨_, by assumption⟩ | refine jv_h1 (by omega) ?_ | refine jv_h0 ?_ | refine jv_hs ?_)), (by repeat' (first | assumption | exact ⟨_, by assumption⟩ | refine jv_h1 (by omega) ?_ | refine jv_h0 ?_ | refine jv_hs ?_))⟩ (jv_fr_set (by omega) (jv_fr_set (by omega) jv_fr_rf)))
  · refine jv_iconst dX4_add_9 ?_
    exact jv_iret dX4_add_10 hq (hp2 c6)
/-- the first place k of i .. n - 1 that does not lie below the one before it -/
def jq_st (f : Int → Int) (n : Int) : Nat → Int → Int
  | 0, _ => -1
  | k + 1, i => if n ≤ i then -1 else if f (i - 1) ≤ f i then i else jq_st f n k (i + 1)
theorem ct_X4_firstNotBelow {h : List jv_E} {n : Int} {f : Int → Int} (K : Nat) {post : Option Value → List jv_E → Prop} (w : jw_W h n f) (hn : 0 ≤ n ∧ n ≤ 50) (hf : ∀ i, -100000 ≤ f i ∧ f i ≤ 100000) (hp : post (some (.int (jv_i (jq_st f n 50 1)))) h) : jv_Ct yX4_firstNotBelow cX4_firstNotBelow 2 (some .int) K [.ref 95] h post := by
  obtain ⟨w1, w2⟩ := w
  refine jv_entry (own := RX4) (by decide) rfl (Nat.le_of_ble_eq_true rfl) (fun X hq => ?_)
  have step : ∀ i : Int, 1 ≤ i → i ≤ 51 → (n ≤ i → post (some (.int (jv_i (-1)))) h) → (i < n → f (i - 1) ≤ f i → post (some (.int (jv_i i))) h) → (i < n → ¬ f (i - 1) ≤ f i → jv_J X cX4_firstNotBelow RX4 K 2 [some (.ref 95), some (.int (jv_i (i + 1)))] [] h) → jv_J X cX4_firstNotBelow RX4 K 2 [some (.ref 95), some (.int (jv_i i))] [] h := by
    intro i h1 h2 p1 p2 p3
    refine jv_iload_n dX4_firstNotBelow_2 rfl ?_
    refine jv_aload_n dX4_firstNotBelow_3 rfl ?_
    refine jv_getf dX4_firstNotBelow_4 jf_X4_15 (by repeat' (first | assumption | exact ⟨_, by assumption⟩ | refine jv_h1 (by omega) ?_ | refine jv_h0 ?_ | refine jv_hs ?_)) (by exact rfl) ?_
    refine jv_icmp_ge 35 dX4_firstNotBelow_7 (fun c7 => ?_) (fun c7 => ?_)
    · refine jv_iconst dX4_firstNotBelow_35 ?_
      exact jv_iret dX4_firstNotBelow_36 hq (p1 c7)
    · refine jv_aload_n dX4_firstNotBelow_10 rfl ?_
      refine jv_getf dX4_firstNotBelow_11 jf_X4_9 (by repeat' (first | assumption | exact ⟨_, by assumption⟩ | refine jv_h1 (by omega) ?_ | refine jv_h0 ?_ | refine jv_hs ?_)) (by exact rfl) ?_
      refine jv_iload_n dX4_firstNotBelow_14 rfl ?_
      refine jv_iald dX4_firstNotBelow_15 (by repeat' (first | assumption | exact ⟨_, by assumption⟩ | refine jv_h1 (by omega) ?_ | refine jv_h0 ?_ | refine jv_hs ?_)) ?_
      refine jv_aload_n dX4_firstNotBelow_16 rfl ?_
      refine jv_getf dX4_firstNotBelow_17 jf_X4_9 (by repeat' (first | assumption | exact ⟨_, by assumption⟩ | refine jv_h1 (by omega) ?_ | refine jv_h0 ?_ | refine jv_hs ?_)) (by exact rfl) ?_
      refine jv_iload_n dX4_firstNotBelow_20 rfl ?_
      refine jv_iconst dX4_firstNotBelow_21 ?_
      refine jv_isub dX4_firstNotBelow_22 ?_
      refine jv_iald dX4_firstNotBelow_23 (by repeat' (first | assumption | exact ⟨_, by assumption⟩ | refine jv_h1 (by omega) ?_ | refine jv_h0 ?_ | refine jv_hs ?_)) ?_
      have q1 := hf i
      have q2 := hf (i - 1)
      refine jv_icmp_lt 29 dX4_firstNotBelow_24 (fun c24 => ?_) (fun c24 => ?_)
      · refine jv_iinc dX4_firstNotBelow_29 rfl rfl ?_
        refine jv_goto 2 dX4_firstNotBelow_32 ?_
        exact p3 c7 (by omega)
      · refine jv_iload_n dX4_firstNotBelow_27 rfl ?_
        exact jv_iret dX4_firstNotBelow_28 hq (p2 c7 c24)
  have loop : ∀ (k : Nat) (i : Int), 1 ≤ i → n ≤ i + k → i ≤ 51 → post (some (.int (jv_i (jq_st f n k i)))) h → jv_J X cX4_firstNotBelow RX4 K 2 [some (.ref 95), some (.int (jv_i i))] [] h := by
    intro k
    induction k with
    | zero => exact fun i h1 h2 h3 hp => step i h1 h3 (fun _ => hp) (fun q => by omega) (fun q => by omega)
    | succ k ih =>
      intro i h1 h2 h3 hp
      rw [jq_st] at hp
      refine step i h1 h3 (fun q => by rwa [if_pos q] at hp) (fun q q2 => by rwa [if_neg (by omega), if_pos q2] at hp) (fun q q2 => ih (i + 1) (by omega) (by omega) (by omega) (by rwa [if_neg (by omega), if_neg q2] at hp))
  refine jv_iconst dX4_firstNotBelow_0 ?_
  refine jv_istore_n dX4_firstNotBelow_1 rfl (Nat.le_of_ble_eq_true rfl) ?_
  exact loop 50 1 (by omega) (by omega) (by omega) hp
end
section
/-! CALLS, with the operands as they stand -/
section JC
variable {X : jv_M} {cc : ByteArray} {own : String} {K pc : Nat} {L : List (Option Value)} {h : List jv_E}
theorem jv_cS {idx n k maxL : Nat} {C0 : String} {y : MethodName} {bytes : ByteArray} {ret : Option FieldType} {st : List Value} (d : decode cc pc = .ok (.invokestatic idx, 3)) (hw : jv_ms own idx C0 y bytes maxL ret n) (hc : jv_Ct y bytes maxL ret k (st.take n).reverse h (fun v h' => jv_J X cc own K (pc + 3) L (v.toList ++ st.drop n) h')) (hn : (st.take n).length = n := by rfl) (hk : k + 1 ≤ K := by omega) (hS8 : ((st.drop n).map fun v => v.category).sum ≤ 8 := by exact Nat.le_of_ble_eq_true rfl) : jv_J X cc own K pc L st h :=
  jv_callS d hw hc (by rw [List.length_reverse]; exact hn) (by rw [List.reverse_reverse, List.take_append_drop]) (fun _ _ hp => hp) hk hS8
theorem jv_cN {idx n k maxL : Nat} {C0 host : String} {y : MethodName} {bytes : ByteArray} {ret : Option FieldType} {st : List Value} (d : decode cc pc = .ok (.invokestatic idx, 3)) (hw : jv_mn own idx C0 host y bytes maxL ret n) (hc : jv_Ct y bytes maxL ret k (st.take n).reverse h (fun v h' => jv_J X cc own K (pc + 3) L (v.toList ++ st.drop n) h')) (hn : (st.take n).length = n := by rfl) (hk : k + 1 ≤ K := by omega) (hS8 : ((st.drop n).map fun v => v.category).sum ≤ 8 := by exact Nat.le_of_ble_eq_true rfl) : jv_J X cc own K pc L st h :=
  jv_callN d hw hc (by rw [List.length_reverse]; exact hn) (by rw [List.reverse_reverse, List.take_append_drop]) (fun _ _ hp => hp) hk hS8
theorem jv_cV {idx n k a ci maxL : Nat} {C0 : String} {y : MethodName} {bytes : ByteArray} {ret : Option FieldType} {fs st : List Value} (d : decode cc pc = .ok (.invokevirtual idx, 3)) (hw : jv_mv own idx C0 y bytes maxL ret n) (hs : st[n]? = some (.ref a)) (ha : h[a]? = some (jv_ob ci fs)) (hci : (jv_cl[ci]?).map (fun q => q.1) = some C0) (hc : jv_Ct y bytes maxL ret k (.ref a :: (st.take n).reverse) h (fun v h' => jv_J X cc own K (pc + 3) L (v.toList ++ st.drop (n + 1)) h')) (hk : k + 1 ≤ K := by omega) (hS8 : ((st.drop (n + 1)).map fun v => v.category).sum ≤ 8 := by exact Nat.le_of_ble_eq_true rfl) : jv_J X cc own K pc L st h := by
  have hl : n < st.length := (List.getElem?_eq_some_iff.mp hs).1
  refine jv_callV (As := (st.take n).reverse) (S := st.drop (n + 1)) d hw hc ha hci (by rw [List.length_reverse, List.length_take]; omega) ?_ (fun _ _ hp => hp) hk hS8
  rw [List.reverse_reverse]
  have e : st.drop n = .ref a :: st.drop (n + 1) := by
    rw [List.drop_eq_getElem_cons hl]
    congr 1
    exact (List.getElem?_eq_some_iff.mp hs).2
  rw [← e, List.take_append_drop]
def jv_le : List (Option Value) → List (Option Value) → Prop
  | [], [] => True
  | none :: a, _ :: b => jv_le a b
  | some v :: a, o :: b => o = some v ∧ jv_le a b
  | _, _ => False
theorem jv_le_len : ∀ (a b : List (Option Value)), jv_le a b → a.length = b.length ∧ ∀ (i : Nat) (v : Value), a[i]? = some (some v) → b[i]? = some (some v)
  | [], [], _ => ⟨rfl, fun i v h => by simp at h⟩
  | none :: a, o :: b, h => by
    obtain ⟨h1, h2⟩ := jv_le_len a b h
    refine ⟨by simp [h1], fun i v hv => ?_⟩
    cases i with
    | zero => simp at hv
    | succ i => exact h2 i v hv
  | some w :: a, o :: b, h => by
    obtain ⟨h0, h⟩ := h
    obtain ⟨h1, h2⟩ := jv_le_len a b h
    refine ⟨by simp [h1], fun i v hv => ?_⟩
    cases i with
    | zero => rw [h0]; exact hv
    | succ i => exact h2 i v hv
  | [], _ :: _, h => h.elim
  | none :: _, [], h => h.elim
  | some _ :: _, [], h => h.elim
theorem jv_les {L' : List (Option Value)} {S : List Value} (hl : jv_le L' L) (kk : jv_J X cc own K pc L' S h) : jv_J X cc own K pc L S h := jv_less (jv_le_len _ _ hl).1 (jv_le_len _ _ hl).2 kk
end JC
/-- the same for a member of the JDK -/
theorem jv_entryF {y : MethodName} {cc : ByteArray} {maxL : Nat} {ret : Option FieldType} {K : Nat} {av : List Value} {h : List jv_E} {post : Option Value → List jv_E → Prop} {own : String} (hy : plainFor y = true) (ho : y.cls = own) (hl : (jv_La av).length ≤ maxL)
    (body : ∀ X : jv_M, jv_ret X ret post → jv_J X cc own K 0 (jv_L0 maxL av) [] h) : jv_Ct y cc maxL ret K av h post := by
  intro l G sz
  refine va_MetF (cc := cc) (maxL := maxL) (ret := ret) hy rfl ?_
  intro p e s m args below meth c s₁ B hml hv
  obtain ⟨rfl, hsz, hP, hK, hD0, hX⟩ := hv
  have hts := atoms_spec (ws := .code y cc maxL ret :: jv_T) B.pre
  have hown : s.vm.findClass own = some m.cls := by rw [← ho]; exact findClass_of_methodNamed B.named
  subst hsz
  rw [lg_entry_eq]
  have hl' := lv_entry (av.map (jv_V G.2.2)) (n := maxL) (by rw [jv_sl_len]; exact hl)
  have J := body ((p, l, e, jv_rm K, s), (m, (av.map (jv_V G.2.2)).toArray, below, meth, c), (0, 0, MQ below (jv_Q G (va_A (jv_tr G h) s.heap.size) h.length post) (av.map (jv_V G.2.2)).toArray s 0 0 (va_A (jv_tr G h) s.heap.size)), (G, va_A (jv_tr G h) s.heap.size, h.length, maxL)) ⟨rfl, rfl, rfl, B.returns, B.notSynchronized⟩
  exact J ⟨B.exec, B.bytes, hml, hown, fun w hw => hts w (List.mem_cons_of_mem _ hw), hK, fun q hq => Or.inr hq, jv_D_to (hD0.self), hX, ⟨Nat.le_refl _, Nat.le_refl _⟩, Nat.zero_le _, Nat.zero_le _⟩ rfl s.heap [] _ hP va_S.rf (jv_L0_has hl hl')
/-- BasinSizes.within -/
theorem ct_X7_within {h : List jv_E} {x a b : Int} (K : Nat) {post : Option Value → List jv_E → Prop} (hp : ∀ r : Int, (a ≤ x ∧ x ≤ b → r = 1) → (¬ (a ≤ x ∧ x ≤ b) → r = 0) → 0 ≤ r ∧ r ≤ 1 → post (some (.int (jv_i r))) h) (hx : -9223372036854775808 ≤ x ∧ x ≤ 9223372036854775807 := by omega) (ha : -9223372036854775808 ≤ a ∧ a ≤ 9223372036854775807 := by omega) (hb : -9223372036854775808 ≤ b ∧ b ≤ 9223372036854775807 := by omega) : jv_Ct yX7_within cX7_within 6 (some .boolean) K [.long (jv_l x), .long (jv_l a), .long (jv_l b)] h post := by
  refine jv_entry (own := RX7) (by decide) rfl (Nat.le_of_ble_eq_true rfl) (fun X hq => ?_)
  refine jv_lload_n dX7_within_0 rfl ?_
  refine jv_lload_n dX7_within_1 rfl ?_
  refine jv_lcmp_gt 17 dX7_within_2 dX7_within_3 (fun c2 => ?_) (fun c2 => ?_)
  · refine jv_iconst dX7_within_17 ?_
    exact jv_iret dX7_within_18 hq (hp _ (by omega) (by omega) (by omega)) (by first | rfl | decide)
  · refine jv_lload_n dX7_within_6 rfl ?_
    refine jv_lload dX7_within_7 rfl ?_
    refine jv_lcmp_gt 17 dX7_within_9 dX7_within_10 (fun c9 => ?_) (fun c9 => ?_)
    · refine jv_iconst dX7_within_17 ?_
      exact jv_iret dX7_within_18 hq (hp _ (by omega) (by omega) (by omega)) (by first | rfl | decide)
    · refine jv_iconst dX7_within_13 ?_
      refine jv_goto 18 dX7_within_14 ?_
      exact jv_iret dX7_within_18 hq (hp _ (by omega) (by omega) (by omega)) (by first | rfl | decide)
/-- Math.max, Math.min -/
theorem ct_J9_max {h : List jv_E} {a b : Int} (K : Nat) {post : Option Value → List jv_E → Prop} (hp : ∀ r : Int, a ≤ r ∧ b ≤ r ∧ (r = a ∨ r = b) → post (some (.long (jv_l r))) h) (ha : -9223372036854775808 ≤ a ∧ a ≤ 9223372036854775807 := by omega) (hb : -9223372036854775808 ≤ b ∧ b ≤ 9223372036854775807 := by omega) : jv_Ct yJ9_max_f86c9 cJ9_max_f86c9 4 (some .long) K [.long (jv_l a), .long (jv_l b)] h post := by
  refine jv_entryF (own := RJ9) (by decide +kernel) rfl (Nat.le_of_ble_eq_true rfl) (fun X hq => ?_)
  refine jv_lload_n dJ9_max_f86c9_0 rfl ?_
  refine jv_lload_n dJ9_max_f86c9_1 rfl ?_
  refine jv_lcmp_lt 10 dJ9_max_f86c9_2 dJ9_max_f86c9_3 (fun c2 => ?_) (fun c2 => ?_)
  · refine jv_lload_n dJ9_max_f86c9_10 rfl ?_
    exact jv_lret dJ9_max_f86c9_11 hq (hp _ (by omega))
  · refine jv_lload_n dJ9_max_f86c9_6 rfl ?_
    refine jv_goto 11 dJ9_max_f86c9_7 ?_
    exact jv_lret dJ9_max_f86c9_11 hq (hp _ (by omega))
theorem ct_J9_min {h : List jv_E} {a b : Int} (K : Nat) {post : Option Value → List jv_E → Prop} (hp : ∀ r : Int, r ≤ a ∧ r ≤ b ∧ (r = a ∨ r = b) → post (some (.long (jv_l r))) h) (ha : -9223372036854775808 ≤ a ∧ a ≤ 9223372036854775807 := by omega) (hb : -9223372036854775808 ≤ b ∧ b ≤ 9223372036854775807 := by omega) : jv_Ct yJ9_min_f86c9 cJ9_min_f86c9 4 (some .long) K [.long (jv_l a), .long (jv_l b)] h post := by
  refine jv_entryF (own := RJ9) (by decide +kernel) rfl (Nat.le_of_ble_eq_true rfl) (fun X hq => ?_)
  refine jv_lload_n dJ9_min_f86c9_0 rfl ?_
  refine jv_lload_n dJ9_min_f86c9_1 rfl ?_
  refine jv_lcmp_gt 10 dJ9_min_f86c9_2 dJ9_min_f86c9_3 (fun c2 => ?_) (fun c2 => ?_)
  · refine jv_lload_n dJ9_min_f86c9_10 rfl ?_
    exact jv_lret dJ9_min_f86c9_11 hq (hp _ (by omega))
  · refine jv_lload_n dJ9_min_f86c9_6 rfl ?_
    refine jv_goto 11 dJ9_min_f86c9_7 ?_
    exact jv_lret dJ9_min_f86c9_11 hq (hp _ (by omega))
end
section
/-! RAINS (RainRows): n rains, years ys, minutes ms, depths ds -/
def jw_R (h : List jv_E) (n : Nat) (ys ms ds : Int → Int) : Prop := h[1]? = some (jv_ob 3 [.ref 2, .ref 3, .ref 4, .int (jv_i n)]) ∧ h[2]? = some (jv_ai 40 ys) ∧ h[3]? = some (jv_ai 40 ms) ∧ h[4]? = some (jv_ai 40 ds)
def jq_R (n : Nat) (ys ms ds : Int → Int) : Prop := n ≤ 40 ∧ ∀ i, (0 ≤ ys i ∧ ys i ≤ 1000) ∧ (0 ≤ ms i ∧ ms i ≤ 10000) ∧ (0 ≤ ds i ∧ ds i ≤ 100000)
theorem jq_mul {a b A B : Int} (ha : 0 ≤ a ∧ a ≤ A) (hb : 0 ≤ b ∧ b ≤ B) : 0 ≤ a * b ∧ a * b ≤ A * B := ⟨Int.mul_nonneg ha.1 hb.1, Int.mul_le_mul ha.2 hb.2 hb.1 (Int.le_trans ha.1 ha.2)⟩
/-- what a basin needs -/
def jq_cm (ds : Int → Int) (ar i : Int) : Int := ds i * ar / 10
def jq_nd (ms ds : Int → Int) (ar ou i : Int) : Int := jq_cm ds ar i - ou * (60 * ms i)
def jq_cnt (ys : Int → Int) (y : Int) : Nat → Int
  | 0 => 0
  | k + 1 => if ys k = y then jq_cnt ys y k + 1 else jq_cnt ys y k
def jq_lst (ys : Int → Int) (y : Int) : Nat → Int
  | 0 => -1
  | k + 1 => if ys k = y then k else jq_lst ys y k
def jq_bst (ys : Int → Int) (g : Int → Int) (y : Int) : Nat → Int
  | 0 => -1
  | k + 1 => if ys k = y ∧ (jq_bst ys g y k = -1 ∨ g (jq_bst ys g y k) < g k) then k else jq_bst ys g y k
theorem jq_cnt_in (ys : Int → Int) (y : Int) : ∀ k : Nat, 0 ≤ jq_cnt ys y k ∧ jq_cnt ys y k ≤ k
  | 0 => by simp [jq_cnt]
  | k + 1 => by
    have := jq_cnt_in ys y k
    rw [jq_cnt]
    split <;> omega
theorem jq_lst_in (ys : Int → Int) (y : Int) : ∀ k : Nat, -1 ≤ jq_lst ys y k ∧ jq_lst ys y k < k
  | 0 => by simp [jq_lst]
  | k + 1 => by
    have := jq_lst_in ys y k
    rw [jq_lst]
    split <;> omega
theorem jq_bst_in (ys g : Int → Int) (y : Int) : ∀ k : Nat, -1 ≤ jq_bst ys g y k ∧ jq_bst ys g y k < k
  | 0 => by simp [jq_bst]
  | k + 1 => by
    have := jq_bst_in ys g y k
    rw [jq_bst]
    split <;> omega
section RN
variable {h : List jv_E} {n : Nat} {ys ms ds : Int → Int} {post : Option Value → List jv_E → Prop}
theorem ct_X3_size (K : Nat) (w : jw_R h n ys ms ds) (hp : post (some (.int (jv_i n))) h) : jv_Ct yX3_size cX3_size 1 (some .int) K [.ref 1] h post := by
  obtain ⟨w1, w2, w3, w4⟩ := w
  refine jv_entry (own := RX3) (by decide) rfl (Nat.le_of_ble_eq_true rfl) (fun X hq => ?_)
  refine jv_aload_n dX3_size_0 rfl ?_
  refine jv_getf dX3_size_1 jf_X3_21 (by repeat' (first | assumption | exact ⟨_, by assumption⟩ | refine jv_h1 (by omega) ?_ | refine jv_h0 ?_ | refine jv_hs ?_)) (by exact rfl) ?_
  exact jv_iret dX3_size_4 hq (hp) (by first | rfl | decide)
theorem ct_X3_minutesOf {i : Int} (K : Nat) (w : jw_R h n ys ms ds) (hn : n ≤ 40) (hi : 0 ≤ i ∧ i < n) (hp : post (some (.int (jv_i (ms i)))) h) : jv_Ct yX3_minutesOf cX3_minutesOf 2 (some .int) (K + 1) [.ref 1, .int (jv_i i)] h post := by
  obtain ⟨w1, w2, w3, w4⟩ := w
  refine jv_entry (own := RX3) (by decide) rfl (Nat.le_of_ble_eq_true rfl) (fun X hq => ?_)
  refine jv_iload_n dX3_minutesOf_0 rfl ?_
  refine jv_i2l dX3_minutesOf_1 ?_
  refine jv_lconst 0 dX3_minutesOf_2 ?_
  refine jv_aload_n dX3_minutesOf_3 rfl ?_
  refine jv_getf dX3_minutesOf_4 jf_X3_21 (by repeat' (first | assumption | exact ⟨_, by assumption⟩ | refine jv_h1 (by omega) ?_ | refine jv_h0 ?_ | refine jv_hs ?_)) (by exact rfl) ?_
  refine jv_iconst dX3_minutesOf_7 ?_
  refine jv_isub dX3_minutesOf_8 ?_
  refine jv_i2l dX3_minutesOf_9 ?_
  refine jv_cN dX3_minutesOf_10 jm_X3_25 (ct_X7_within K (fun r q1 q2 q3 => ?_))
  refine jv_if_eq 25 dX3_minutesOf_13 (fun c13 => ?_) (fun c13 => ?_)
  · omega
  · refine jv_aload_n dX3_minutesOf_16 rfl ?_
    refine jv_getf dX3_minutesOf_17 jf_X3_15 (by repeat' (first | assumption | exact ⟨_, by assumption⟩ | refine jv_h1 (by omega) ?_ | refine jv_h0 ?_ | refine jv_hs ?_)) (by exact rfl) ?_
    refine jv_iload_n dX3_minutesOf_20 rfl ?_
    refine jv_iald dX3_minutesOf_21 (by repeat' (first | assumption | exact ⟨_, by assumption⟩ | refine jv_h1 (by omega) ?_ | refine jv_h0 ?_ | refine jv_hs ?_)) ?_
    refine jv_goto 26 dX3_minutesOf_22 ?_
    exact jv_iret dX3_minutesOf_26 hq (hp) (by first | rfl | decide)
theorem ct_X3_comes {i ar : Int} (K : Nat) (w : jw_R h n ys ms ds) (hR : jq_R n ys ms ds) (hi : 0 ≤ i ∧ i < n) (ha : 0 ≤ ar ∧ ar ≤ 1000000) (hp : post (some (.long (jv_l (jq_cm ds ar i)))) h) : jv_Ct yX3_comes cX3_comes 3 (some .long) K [.ref 1, .int (jv_i i), .int (jv_i ar)] h post := by
  obtain ⟨w1, w2, w3, w4⟩ := w
  have hn := hR.1
  have hd := (hR.2 i).2.2
  have hm := jq_mul hd ha
  refine jv_entry (own := RX3) (by decide) rfl (Nat.le_of_ble_eq_true rfl) (fun X hq => ?_)
  refine jv_aload_n dX3_comes_0 rfl ?_
  refine jv_getf dX3_comes_1 jf_X3_18 (by repeat' (first | assumption | exact ⟨_, by assumption⟩ | refine jv_h1 (by omega) ?_ | refine jv_h0 ?_ | refine jv_hs ?_)) (by exact rfl) ?_
  refine jv_iload_n dX3_comes_4 rfl ?_
  refine jv_iald dX3_comes_5 (by repeat' (first | assumption | exact ⟨_, by assumption⟩ | refine jv_h1 (by omega) ?_ | refine jv_h0 ?_ | refine jv_hs ?_)) ?_
  refine jv_i2l dX3_comes_6 ?_
  refine jv_iload_n dX3_comes_7 rfl ?_
  refine jv_i2l dX3_comes_8 ?_
  refine jv_lmul dX3_comes_9 ?_
  refine jv_ldc2 dX3_comes_10 jk_X3_41 ?_
  refine jv_ldiv dX3_comes_13 ?_
  exact jv_lret dX3_comes_14 hq (hp)
theorem ct_X3_secondsOf {i : Int} (K : Nat) (w : jw_R h n ys ms ds) (hR : jq_R n ys ms ds) (hi : 0 ≤ i ∧ i < n) (hp : post (some (.long (jv_l (60 * ms i)))) h) : jv_Ct yX3_secondsOf cX3_secondsOf 2 (some .long) K [.ref 1, .int (jv_i i)] h post := by
  obtain ⟨w1, w2, w3, w4⟩ := w
  have hn := hR.1
  have hd := (hR.2 i).2.1
  refine jv_entry (own := RX3) (by decide) rfl (Nat.le_of_ble_eq_true rfl) (fun X hq => ?_)
  refine jv_ldc2 dX3_secondsOf_0 jk_X3_43 ?_
  refine jv_aload_n dX3_secondsOf_3 rfl ?_
  refine jv_getf dX3_secondsOf_4 jf_X3_15 (by repeat' (first | assumption | exact ⟨_, by assumption⟩ | refine jv_h1 (by omega) ?_ | refine jv_h0 ?_ | refine jv_hs ?_)) (by exact rfl) ?_
  refine jv_iload_n dX3_secondsOf_7 rfl ?_
  refine jv_iald dX3_secondsOf_8 (by repeat' (first | assumption | exact ⟨_, by assumption⟩ | refine jv_h1 (by omega) ?_ | refine jv_h0 ?_ | refine jv_hs ?_)) ?_
  refine jv_i2l dX3_secondsOf_9 ?_
  refine jv_lmul dX3_secondsOf_10 ?_
  exact jv_lret dX3_secondsOf_11 hq (hp)
theorem ct_X3_need {i ar ou : Int} (K : Nat) (w : jw_R h n ys ms ds) (hR : jq_R n ys ms ds) (hi : 0 ≤ i ∧ i < n) (ha : 0 ≤ ar ∧ ar ≤ 1000000) (ho : 0 ≤ ou ∧ ou ≤ 100000) (hp : post (some (.long (jv_l (jq_nd ms ds ar ou i)))) h) : jv_Ct yX3_need cX3_need 4 (some .long) (K + 1) [.ref 1, .int (jv_i i), .int (jv_i ar), .int (jv_i ou)] h post := by
  have w9 := w
  obtain ⟨w1, w2, w3, w4⟩ := w
  refine jv_entry (own := RX3) (by decide) rfl (Nat.le_of_ble_eq_true rfl) (fun X hq => ?_)
  refine jv_aload_n dX3_need_0 rfl ?_
  refine jv_iload_n dX3_need_1 rfl ?_
  refine jv_iload_n dX3_need_2 rfl ?_
  refine jv_cV dX3_need_3 jm_X3_33 rfl (by repeat' (first | assumption | exact ⟨_, by assumption⟩ | refine jv_h1 (by omega) ?_ | refine jv_h0 ?_ | refine jv_hs ?_)) rfl (ct_X3_comes K w9 hR hi ha ?_)
  refine jv_iload_n dX3_need_6 rfl ?_
  refine jv_i2l dX3_need_7 ?_
  refine jv_aload_n dX3_need_8 rfl ?_
  refine jv_iload_n dX3_need_9 rfl ?_
  refine jv_cV dX3_need_10 jm_X3_37 rfl (by repeat' (first | assumption | exact ⟨_, by assumption⟩ | refine jv_h1 (by omega) ?_ | refine jv_h0 ?_ | refine jv_hs ?_)) rfl (ct_X3_secondsOf K w9 hR hi ?_)
  refine jv_lmul dX3_need_13 ?_
  refine jv_lsub dX3_need_14 ?_
  exact jv_lret dX3_need_15 hq (hp)
theorem ct_X3_mayFollow {i mi de : Int} (K : Nat) (w : jw_R h n ys ms ds) (hR : jq_R n ys ms ds) (hi : 0 ≤ i ∧ i < n) (hm : 1 ≤ mi ∧ mi ≤ 10000) (hd : 1 ≤ de ∧ de ≤ 100000) (hp : ∀ r : Int, (ms i < mi ∧ ds i < de ∧ de * ms i ≤ ds i * mi → r = 1) → (¬ (ms i < mi ∧ ds i < de ∧ de * ms i ≤ ds i * mi) → r = 0) → 0 ≤ r ∧ r ≤ 1 → post (some (.int (jv_i r))) h) : jv_Ct yX3_mayFollow cX3_mayFollow 6 (some .boolean) K [.ref 1, .int (jv_i i), .int (jv_i mi), .int (jv_i de)] h post := by
  obtain ⟨w1, w2, w3, w4⟩ := w
  have hn := hR.1
  obtain ⟨-, b1, b2⟩ := hR.2 i
  have m1 := jq_mul (a := de) (b := ms i) (A := 100000) (B := 10000) (by omega) b1
  have m2 := jq_mul (a := ds i) (b := mi) (A := 100000) (B := 10000) b2 (by omega)
  generalize e1 : de * ms i = u1 at *
  generalize e2 : ds i * mi = u2 at *
  refine jv_entry (own := RX3) (by decide) rfl (Nat.le_of_ble_eq_true rfl) (fun X hq => ?_)
  refine jv_iload_n dX3_mayFollow_0 rfl ?_
  refine jv_aload_n dX3_mayFollow_1 rfl ?_
  refine jv_getf dX3_mayFollow_2 jf_X3_15 (by repeat' (first | assumption | exact ⟨_, by assumption⟩ | refine jv_h1 (by omega) ?_ | refine jv_h0 ?_ | refine jv_hs ?_)) (by exact rfl) ?_
  refine jv_iload_n dX3_mayFollow_5 rfl ?_
  refine jv_iald dX3_mayFollow_6 (by repeat' (first | assumption | exact ⟨_, by assumption⟩ | refine jv_h1 (by omega) ?_ | refine jv_h0 ?_ | refine jv_hs ?_)) ?_
  refine jv_icmp_le 24 dX3_mayFollow_7 (fun c7 => ?_) (fun c7 => ?_)
  · refine jv_iconst dX3_mayFollow_24 ?_
    refine jv_istore dX3_mayFollow_25 rfl (Nat.le_of_ble_eq_true rfl) ?_
    refine jv_iload_n dX3_mayFollow_27 rfl ?_
    refine jv_i2l dX3_mayFollow_28 ?_
    refine jv_aload_n dX3_mayFollow_29 rfl ?_
    refine jv_getf dX3_mayFollow_30 jf_X3_15 (by repeat' (first | assumption | exact ⟨_, by assumption⟩ | refine jv_h1 (by omega) ?_ | refine jv_h0 ?_ | refine jv_hs ?_)) (by exact rfl) ?_
    refine jv_iload_n dX3_mayFollow_33 rfl ?_
    refine jv_iald dX3_mayFollow_34 (by repeat' (first | assumption | exact ⟨_, by assumption⟩ | refine jv_h1 (by omega) ?_ | refine jv_h0 ?_ | refine jv_hs ?_)) ?_
    refine jv_i2l dX3_mayFollow_35 ?_
    refine jv_lmul dX3_mayFollow_36 ?_
    refine jv_aload_n dX3_mayFollow_37 rfl ?_
    refine jv_getf dX3_mayFollow_38 jf_X3_18 (by repeat' (first | assumption | exact ⟨_, by assumption⟩ | refine jv_h1 (by omega) ?_ | refine jv_h0 ?_ | refine jv_hs ?_)) (by exact rfl) ?_
    refine jv_iload_n dX3_mayFollow_41 rfl ?_
    refine jv_iald dX3_mayFollow_42 (by repeat' (first | assumption | exact ⟨_, by assumption⟩ | refine jv_h1 (by omega) ?_ | refine jv_h0 ?_ | refine jv_hs ?_)) ?_
    refine jv_i2l dX3_mayFollow_43 ?_
    refine jv_iload_n dX3_mayFollow_44 rfl ?_
    refine jv_i2l dX3_mayFollow_45 ?_
    refine jv_lmul dX3_mayFollow_46 ?_
    rw [e1, e2]
    refine jv_lcmp_le 55 dX3_mayFollow_47 dX3_mayFollow_48 (fun c47 => ?_) (fun c47 => ?_)
    · refine jv_iconst dX3_mayFollow_55 ?_
      refine jv_istore dX3_mayFollow_56 rfl (Nat.le_of_ble_eq_true rfl) ?_
      refine jv_iload dX3_mayFollow_58 rfl ?_
      refine jv_if_eq 72 dX3_mayFollow_60 (fun c60 => ?_) (fun c60 => ?_)
      · refine jv_iconst dX3_mayFollow_72 ?_
        exact jv_iret dX3_mayFollow_73 hq (hp _ (by omega) (by omega) (by omega)) (by first | rfl | decide)
      · refine jv_iload dX3_mayFollow_63 rfl ?_
        refine jv_if_ne 72 dX3_mayFollow_65 (fun c65 => ?_) (fun c65 => ?_)
        · refine jv_iconst dX3_mayFollow_72 ?_
          exact jv_iret dX3_mayFollow_73 hq (hp _ (by omega) (by omega) (by omega)) (by first | rfl | decide)
        · refine jv_iconst dX3_mayFollow_68 ?_
          refine jv_goto 73 dX3_mayFollow_69 ?_
          exact jv_iret dX3_mayFollow_73 hq (hp _ (by omega) (by omega) (by omega)) (by first | rfl | decide)
    · refine jv_iconst dX3_mayFollow_51 ?_
      refine jv_goto 56 dX3_mayFollow_52 ?_
      refine jv_istore dX3_mayFollow_56 rfl (Nat.le_of_ble_eq_true rfl) ?_
      refine jv_iload dX3_mayFollow_58 rfl ?_
      refine jv_if_eq 72 dX3_mayFollow_60 (fun c60 => ?_) (fun c60 => ?_)
      · refine jv_iconst dX3_mayFollow_72 ?_
        exact jv_iret dX3_mayFollow_73 hq (hp _ (by omega) (by omega) (by omega)) (by first | rfl | decide)
      · refine jv_iload dX3_mayFollow_63 rfl ?_
        refine jv_if_ne 72 dX3_mayFollow_65 (fun c65 => ?_) (fun c65 => ?_)
        · refine jv_iconst dX3_mayFollow_72 ?_
          exact jv_iret dX3_mayFollow_73 hq (hp _ (by omega) (by omega) (by omega)) (by first | rfl | decide)
        · refine jv_iconst dX3_mayFollow_68 ?_
          refine jv_goto 73 dX3_mayFollow_69 ?_
          exact jv_iret dX3_mayFollow_73 hq (hp _ (by omega) (by omega) (by omega)) (by first | rfl | decide)
  · refine jv_iload_n dX3_mayFollow_10 rfl ?_
    refine jv_aload_n dX3_mayFollow_11 rfl ?_
    refine jv_getf dX3_mayFollow_12 jf_X3_18 (by repeat' (first | assumption | exact ⟨_, by assumption⟩ | refine jv_h1 (by omega) ?_ | refine jv_h0 ?_ | refine jv_hs ?_)) (by exact rfl) ?_
    refine jv_iload_n dX3_mayFollow_15 rfl ?_
    refine jv_iald dX3_mayFollow_16 (by repeat' (first | assumption | exact ⟨_, by assumption⟩ | refine jv_h1 (by omega) ?_ | refine jv_h0 ?_ | refine jv_hs ?_)) ?_
    refine jv_icmp_le 24 dX3_mayFollow_17 (fun c17 => ?_) (fun c17 => ?_)
    · refine jv_iconst dX3_mayFollow_24 ?_
      refine jv_istore dX3_mayFollow_25 rfl (Nat.le_of_ble_eq_true rfl) ?_
      refine jv_iload_n dX3_mayFollow_27 rfl ?_
      refine jv_i2l dX3_mayFollow_28 ?_
      refine jv_aload_n dX3_mayFollow_29 rfl ?_
      refine jv_getf dX3_mayFollow_30 jf_X3_15 (by repeat' (first | assumption | exact ⟨_, by assumption⟩ | refine jv_h1 (by omega) ?_ | refine jv_h0 ?_ | refine jv_hs ?_)) (by exact rfl) ?_
      refine jv_iload_n dX3_mayFollow_33 rfl ?_
      refine jv_iald dX3_mayFollow_34 (by repeat' (first | assumption | exact ⟨_, by assumption⟩ | refine jv_h1 (by omega) ?_ | refine jv_h0 ?_ | refine jv_hs ?_)) ?_
      refine jv_i2l dX3_mayFollow_35 ?_
      refine jv_lmul dX3_mayFollow_36 ?_
      refine jv_aload_n dX3_mayFollow_37 rfl ?_
      refine jv_getf dX3_mayFollow_38 jf_X3_18 (by repeat' (first | assumption | exact ⟨_, by assumption⟩ | refine jv_h1 (by omega) ?_ | refine jv_h0 ?_ | refine jv_hs ?_)) (by exact rfl) ?_
      refine jv_iload_n dX3_mayFollow_41 rfl ?_
      refine jv_iald dX3_mayFollow_42 (by repeat' (first | assumption | exact ⟨_, by assumption⟩ | refine jv_h1 (by omega) ?_ | refine jv_h0 ?_ | refine jv_hs ?_)) ?_
      refine jv_i2l dX3_mayFollow_43 ?_
      refine jv_iload_n dX3_mayFollow_44 rfl ?_
      refine jv_i2l dX3_mayFollow_45 ?_
      refine jv_lmul dX3_mayFollow_46 ?_
      rw [e1, e2]
      refine jv_lcmp_le 55 dX3_mayFollow_47 dX3_mayFollow_48 (fun c47 => ?_) (fun c47 => ?_)
      · refine jv_iconst dX3_mayFollow_55 ?_
        refine jv_istore dX3_mayFollow_56 rfl (Nat.le_of_ble_eq_true rfl) ?_
        refine jv_iload dX3_mayFollow_58 rfl ?_
        refine jv_if_eq 72 dX3_mayFollow_60 (fun c60 => ?_) (fun c60 => ?_)
        · refine jv_iconst dX3_mayFollow_72 ?_
          exact jv_iret dX3_mayFollow_73 hq (hp _ (by omega) (by omega) (by omega)) (by first | rfl | decide)
        · refine jv_iload dX3_mayFollow_63 rfl ?_
          refine jv_if_ne 72 dX3_mayFollow_65 (fun c65 => ?_) (fun c65 => ?_)
          · refine jv_iconst dX3_mayFollow_72 ?_
            exact jv_iret dX3_mayFollow_73 hq (hp _ (by omega) (by omega) (by omega)) (by first | rfl | decide)
          · refine jv_iconst dX3_mayFollow_68 ?_
            refine jv_goto 73 dX3_mayFollow_69 ?_
            exact jv_iret dX3_mayFollow_73 hq (hp _ (by omega) (by omega) (by omega)) (by first | rfl | decide)
      · refine jv_iconst dX3_mayFollow_51 ?_
        refine jv_goto 56 dX3_mayFollow_52 ?_
        refine jv_istore dX3_mayFollow_56 rfl (Nat.le_of_ble_eq_true rfl) ?_
        refine jv_iload dX3_mayFollow_58 rfl ?_
        refine jv_if_eq 72 dX3_mayFollow_60 (fun c60 => ?_) (fun c60 => ?_)
        · refine jv_iconst dX3_mayFollow_72 ?_
          exact jv_iret dX3_mayFollow_73 hq (hp _ (by omega) (by omega) (by omega)) (by first | rfl | decide)
        · refine jv_iload dX3_mayFollow_63 rfl ?_
          refine jv_if_ne 72 dX3_mayFollow_65 (fun c65 => ?_) (fun c65 => ?_)
          · refine jv_iconst dX3_mayFollow_72 ?_
            exact jv_iret dX3_mayFollow_73 hq (hp _ (by omega) (by omega) (by omega)) (by first | rfl | decide)
          · refine jv_iconst dX3_mayFollow_68 ?_
            refine jv_goto 73 dX3_mayFollow_69 ?_
            exact jv_iret dX3_mayFollow_73 hq (hp _ (by omega) (by omega) (by omega)) (by first | rfl | decide)
    · refine jv_iconst dX3_mayFollow_20 ?_
      refine jv_goto 25 dX3_mayFollow_21 ?_
      refine jv_istore dX3_mayFollow_25 rfl (Nat.le_of_ble_eq_true rfl) ?_
      refine jv_iload_n dX3_mayFollow_27 rfl ?_
      refine jv_i2l dX3_mayFollow_28 ?_
      refine jv_aload_n dX3_mayFollow_29 rfl ?_
      refine jv_getf dX3_mayFollow_30 jf_X3_15 (by repeat' (first | assumption | exact ⟨_, by assumption⟩ | refine jv_h1 (by omega) ?_ | refine jv_h0 ?_ | refine jv_hs ?_)) (by exact rfl) ?_
      refine jv_iload_n dX3_mayFollow_33 rfl ?_
      refine jv_iald dX3_mayFollow_34 (by repeat' (first | assumption | exact ⟨_, by assumption⟩ | refine jv_h1 (by omega) ?_ | refine jv_h0 ?_ | refine jv_hs ?_)) ?_
      refine jv_i2l dX3_mayFollow_35 ?_
      refine jv_lmul dX3_mayFollow_36 ?_
      refine jv_aload_n dX3_mayFollow_37 rfl ?_
      refine jv_getf dX3_mayFollow_38 jf_X3_18 (by repeat' (first | assumption | exact ⟨_, by assumption⟩ | refine jv_h1 (by omega) ?_ | refine jv_h0 ?_ | refine jv_hs ?_)) (by exact rfl) ?_
      refine jv_iload_n dX3_mayFollow_41 rfl ?_
      refine jv_iald dX3_mayFollow_42 (by repeat' (first | assumption | exact ⟨_, by assumption⟩ | refine jv_h1 (by omega) ?_ | refine jv_h0 ?_ | refine jv_hs ?_)) ?_
      refine jv_i2l dX3_mayFollow_43 ?_
      refine jv_iload_n dX3_mayFollow_44 rfl ?_
      refine jv_i2l dX3_mayFollow_45 ?_
      refine jv_lmul dX3_mayFollow_46 ?_
      rw [e1, e2]
      refine jv_lcmp_le 55 dX3_mayFollow_47 dX3_mayFollow_48 (fun c47 => ?_) (fun c47 => ?_)
      · refine jv_iconst dX3_mayFollow_55 ?_
        refine jv_istore dX3_mayFollow_56 rfl (Nat.le_of_ble_eq_true rfl) ?_
        refine jv_iload dX3_mayFollow_58 rfl ?_
        refine jv_if_eq 72 dX3_mayFollow_60 (fun c60 => ?_) (fun c60 => ?_)
        · refine jv_iconst dX3_mayFollow_72 ?_
          exact jv_iret dX3_mayFollow_73 hq (hp _ (by omega) (by omega) (by omega)) (by first | rfl | decide)
        · refine jv_iload dX3_mayFollow_63 rfl ?_
          refine jv_if_ne 72 dX3_mayFollow_65 (fun c65 => ?_) (fun c65 => ?_)
          · refine jv_iconst dX3_mayFollow_72 ?_
            exact jv_iret dX3_mayFollow_73 hq (hp _ (by omega) (by omega) (by omega)) (by first | rfl | decide)
          · refine jv_iconst dX3_mayFollow_68 ?_
            refine jv_goto 73 dX3_mayFollow_69 ?_
            exact jv_iret dX3_mayFollow_73 hq (hp _ (by omega) (by omega) (by omega)) (by first | rfl | decide)
      · refine jv_iconst dX3_mayFollow_51 ?_
        refine jv_goto 56 dX3_mayFollow_52 ?_
        refine jv_istore dX3_mayFollow_56 rfl (Nat.le_of_ble_eq_true rfl) ?_
        refine jv_iload dX3_mayFollow_58 rfl ?_
        refine jv_if_eq 72 dX3_mayFollow_60 (fun c60 => ?_) (fun c60 => ?_)
        · refine jv_iconst dX3_mayFollow_72 ?_
          exact jv_iret dX3_mayFollow_73 hq (hp _ (by omega) (by omega) (by omega)) (by first | rfl | decide)
        · refine jv_iload dX3_mayFollow_63 rfl ?_
          refine jv_if_ne 72 dX3_mayFollow_65 (fun c65 => ?_) (fun c65 => ?_)
          · refine jv_iconst dX3_mayFollow_72 ?_
            exact jv_iret dX3_mayFollow_73 hq (hp _ (by omega) (by omega) (by omega)) (by first | rfl | decide)
          · refine jv_iconst dX3_mayFollow_68 ?_
            refine jv_goto 73 dX3_mayFollow_69 ?_
            exact jv_iret dX3_mayFollow_73 hq (hp _ (by omega) (by omega) (by omega)) (by first | rfl | decide)
end RN
end
section
/-! RAINS, second part -/
theorem jq_cm_in {n : Nat} {ys ms ds : Int → Int} (hR : jq_R n ys ms ds) {ar : Int} (ha : 0 ≤ ar ∧ ar ≤ 1000000) (i : Int) : 0 ≤ jq_cm ds ar i ∧ jq_cm ds ar i ≤ 10000000000 := by
  have hm := jq_mul (hR.2 i).2.2 ha
  unfold jq_cm
  generalize ds i * ar = u at hm
  omega
theorem jq_nd_in {n : Nat} {ys ms ds : Int → Int} (hR : jq_R n ys ms ds) {ar ou : Int} (ha : 0 ≤ ar ∧ ar ≤ 1000000) (ho : 0 ≤ ou ∧ ou ≤ 100000) (i : Int) : -60000000000 ≤ jq_nd ms ds ar ou i ∧ jq_nd ms ds ar ou i ≤ 10000000000 := by
  have h1 := jq_cm_in hR ha i
  have h2 := jq_mul ho (show 0 ≤ 60 * ms i ∧ 60 * ms i ≤ 600000 by have := (hR.2 i).2.1; omega)
  unfold jq_nd
  omega
/-- the least outflow for one rain -/
def jq_lf (ms ds : Int → Int) (ar ro i : Int) : Int := if jq_cm ds ar i - ro ≤ 0 ∨ 60 * ms i ≤ 0 then 0 else (jq_cm ds ar i - ro + 60 * ms i - 1) / (60 * ms i)
theorem jq_lf_in {n : Nat} {ys ms ds : Int → Int} (hR : jq_R n ys ms ds) {ar ro : Int} (ha : 0 ≤ ar ∧ ar ≤ 1000000) (hr : 0 ≤ ro) (i : Int) : 0 ≤ jq_lf ms ds ar ro i ∧ jq_lf ms ds ar ro i ≤ 20000000000 := by
  have h1 := jq_cm_in hR ha i
  have h2 := (hR.2 i).2.1
  unfold jq_lf
  split
  · omega
  · have h3 : 0 ≤ jq_cm ds ar i - ro + 60 * ms i - 1 := by omega
    have h4 := Int.ediv_nonneg h3 (show 0 ≤ 60 * ms i by omega)
    have h5 := Int.ediv_le_self (60 * ms i) h3
    omega
def jq_lo (ys : Int → Int) (g : Int → Int) (y : Int) : Nat → Int
  | 0 => -1
  | k + 1 => if ys k = y then max (jq_lo ys g y k) (g k) else jq_lo ys g y k
theorem jq_lo_in {ys g : Int → Int} {y : Int} (hg : ∀ i, 0 ≤ g i ∧ g i ≤ 20000000000) : ∀ k : Nat, -1 ≤ jq_lo ys g y k ∧ jq_lo ys g y k ≤ 20000000000
  | 0 => by simp [jq_lo]
  | k + 1 => by
    have h1 := jq_lo_in (ys := ys) (y := y) hg k
    have h2 := hg k
    rw [jq_lo]
    split <;> omega
section RN2
variable {h : List jv_E} {n : Nat} {ys ms ds : Int → Int} {post : Option Value → List jv_E → Prop}
theorem ct_X3_neediest {y ar ou : Int} (K : Nat) (w : jw_R h n ys ms ds) (hR : jq_R n ys ms ds) (hy : -2147483648 ≤ y ∧ y ≤ 2147483647) (ha : 0 ≤ ar ∧ ar ≤ 1000000) (ho : 0 ≤ ou ∧ ou ≤ 100000) (hp : post (some (.int (jv_i (jq_bst ys (jq_nd ms ds ar ou) y n)))) h) : jv_Ct yX3_neediest cX3_neediest 10 (some .int) (K + 2) [.ref 1, .int (jv_i y), .int (jv_i ar), .int (jv_i ou)] h post := by
  have w9 := w
  obtain ⟨w1, w2, w3, w4⟩ := w
  have hn := hR.1
  refine jv_entry (own := RX3) (by decide) rfl (Nat.le_of_ble_eq_true rfl) (fun X hq => ?_)
  have step : ∀ (i : Nat) (b m : Int), i ≤ n → -1 ≤ b ∧ b < i → (-60000000000 ≤ m ∧ m ≤ 10000000000) → (b ≠ -1 → m = jq_nd ms ds ar ou b) → (i = n → post (some (.int (jv_i b))) h) → (∀ b' m', i < n → (-60000000000 ≤ m' ∧ m' ≤ 10000000000) → (b' ≠ -1 → m' = jq_nd ms ds ar ou b') → b' = (if ys i = y ∧ (b = -1 ∨ jq_nd ms ds ar ou b < jq_nd ms ds ar ou i) then (i : Int) else b) → jv_J X cX3_neediest RX3 (K + 2) 9 [some (.ref 1), some (.int (jv_i y)), some (.int (jv_i ar)), some (.int (jv_i ou)), some (.int (jv_i b')), some (.long (jv_l m')), none, some (.int (jv_i (i + 1))), none, none] [] h) → jv_J X cX3_neediest RX3 (K + 2) 9 [some (.ref 1), some (.int (jv_i y)), some (.int (jv_i ar)), some (.int (jv_i ou)), some (.int (jv_i b)), some (.long (jv_l m)), none, some (.int (jv_i i)), none, none] [] h := by
    intro i b m hi hb hm hbm p1 p2
    have r1 := (hR.2 i).1
    have r2 := jq_nd_in hR ha ho i
    refine jv_iload dX3_neediest_9 rfl ?_
    refine jv_aload_n dX3_neediest_11 rfl ?_
    refine jv_getf dX3_neediest_12 jf_X3_21 (by repeat' (first | assumption | exact ⟨_, by assumption⟩ | refine jv_h1 (by omega) ?_ | refine jv_h0 ?_ | refine jv_hs ?_)) (by exact rfl) ?_
    refine jv_icmp_ge 70 dX3_neediest_15 (fun c15 => ?_) (fun c15 => ?_)
    · refine jv_iload dX3_neediest_70 rfl ?_
      exact jv_iret dX3_neediest_72 hq (p1 (by omega)) (by first | rfl | decide)
    · refine jv_aload_n dX3_neediest_18 rfl ?_
      refine jv_getf dX3_neediest_19 jf_X3_9 (by repeat' (first | assumption | exact ⟨_, by assumption⟩ | refine jv_h1 (by omega) ?_ | refine jv_h0 ?_ | refine jv_hs ?_)) (by exact rfl) ?_
      refine jv_iload dX3_neediest_22 rfl ?_
      refine jv_iald dX3_neediest_24 (by repeat' (first | assumption | exact ⟨_, by assumption⟩ | refine jv_h1 (by omega) ?_ | refine jv_h0 ?_ | refine jv_hs ?_)) ?_
      refine jv_iload_n dX3_neediest_25 rfl ?_
      refine jv_icmp_eq 32 dX3_neediest_26 (fun c26 => ?_) (fun c26 => ?_)
      · refine jv_aload_n dX3_neediest_32 rfl ?_
        refine jv_iload dX3_neediest_33 rfl ?_
        refine jv_iload_n dX3_neediest_35 rfl ?_
        refine jv_iload_n dX3_neediest_36 rfl ?_
        refine jv_cV dX3_neediest_37 jm_X3_45 rfl (by repeat' (first | assumption | exact ⟨_, by assumption⟩ | refine jv_h1 (by omega) ?_ | refine jv_h0 ?_ | refine jv_hs ?_)) rfl (ct_X3_need (i := i) K w9 hR (by omega) ha ho ?_)
        refine jv_lstore dX3_neediest_40 rfl (Nat.le_of_ble_eq_true rfl) ?_
        refine jv_iload dX3_neediest_42 rfl ?_
        refine jv_iconst dX3_neediest_44 ?_
        refine jv_icmp_eq 56 dX3_neediest_45 (fun c45 => ?_) (fun c45 => ?_)
        · refine jv_iload dX3_neediest_56 rfl ?_
          refine jv_istore dX3_neediest_58 rfl (Nat.le_of_ble_eq_true rfl) ?_
          refine jv_lload dX3_neediest_60 rfl ?_
          refine jv_lstore dX3_neediest_62 rfl (Nat.le_of_ble_eq_true rfl) ?_
          refine jv_iinc dX3_neediest_64 rfl rfl ?_
          refine jv_goto 9 dX3_neediest_67 ?_
          exact jv_les (by repeat' (first | exact True.intro | exact rfl | apply And.intro)) (p2 i _ (by omega) r2 (fun _ => rfl) (by rw [if_pos ⟨c26, Or.inl c45⟩]))
        · refine jv_lload dX3_neediest_48 rfl ?_
          refine jv_lload dX3_neediest_50 rfl ?_
          refine jv_lcmp_le 64 dX3_neediest_52 dX3_neediest_53 (fun c52 => ?_) (fun c52 => ?_)
          · refine jv_iinc dX3_neediest_64 rfl rfl ?_
            refine jv_goto 9 dX3_neediest_67 ?_
            exact jv_les (by repeat' (first | exact True.intro | exact rfl | apply And.intro)) (p2 b m (by omega) hm hbm (by rw [if_neg (fun q => by rcases q.2 with z | z; exact c45 z; rw [← hbm c45] at z; omega)]))
          · refine jv_iload dX3_neediest_56 rfl ?_
            refine jv_istore dX3_neediest_58 rfl (Nat.le_of_ble_eq_true rfl) ?_
            refine jv_lload dX3_neediest_60 rfl ?_
            refine jv_lstore dX3_neediest_62 rfl (Nat.le_of_ble_eq_true rfl) ?_
            refine jv_iinc dX3_neediest_64 rfl rfl ?_
            refine jv_goto 9 dX3_neediest_67 ?_
            exact jv_les (by repeat' (first | exact True.intro | exact rfl | apply And.intro)) (p2 i _ (by omega) r2 (fun _ => rfl) (by rw [if_pos ⟨c26, Or.inr (by rw [← hbm c45]; omega)⟩]))
      · refine jv_goto 64 dX3_neediest_29 ?_
        refine jv_iinc dX3_neediest_64 rfl rfl ?_
        refine jv_goto 9 dX3_neediest_67 ?_
        exact jv_les (by repeat' (first | exact True.intro | exact rfl | apply And.intro)) (p2 b m (by omega) hm hbm (by rw [if_neg (fun q => c26 q.1)]))
  have loop : ∀ (k i : Nat) (b m : Int), i + k = n → b = jq_bst ys (jq_nd ms ds ar ou) y i → (-60000000000 ≤ m ∧ m ≤ 10000000000) → (b ≠ -1 → m = jq_nd ms ds ar ou b) → jv_J X cX3_neediest RX3 (K + 2) 9 [some (.ref 1), some (.int (jv_i y)), some (.int (jv_i ar)), some (.int (jv_i ou)), some (.int (jv_i b)), some (.long (jv_l m)), none, some (.int (jv_i i)), none, none] [] h := by
    intro k
    induction k with
    | zero =>
      intro i b m e eb hm hbm
      have := jq_bst_in ys (jq_nd ms ds ar ou) y i
      refine step i b m (by omega) (by omega) hm hbm (fun q => ?_) (fun b' m' q => by omega)
      rw [eb, q]
      exact hp
    | succ k ih =>
      intro i b m e eb hm hbm
      have := jq_bst_in ys (jq_nd ms ds ar ou) y i
      refine step i b m (by omega) (by omega) hm hbm (fun q => by omega) (fun b' m' q hm' hbm' e' => ?_)
      exact ih (i + 1) b' m' (by omega) (by rw [e', jq_bst, ← eb]) hm' hbm'
  refine jv_iconst dX3_neediest_0 ?_
  refine jv_istore dX3_neediest_1 rfl (Nat.le_of_ble_eq_true rfl) ?_
  refine jv_lconst 0 dX3_neediest_3 ?_
  refine jv_lstore dX3_neediest_4 rfl (Nat.le_of_ble_eq_true rfl) ?_
  refine jv_iconst dX3_neediest_6 ?_
  refine jv_istore dX3_neediest_7 rfl (Nat.le_of_ble_eq_true rfl) ?_
  exact loop n 0 (-1) 0 (by omega) rfl (by omega) (fun q => absurd rfl q)
theorem ct_X3_leastOutflowFor {i ar ro : Int} (K : Nat) (w : jw_R h n ys ms ds) (hR : jq_R n ys ms ds) (hi : 0 ≤ i ∧ i < n) (ha : 0 ≤ ar ∧ ar ≤ 1000000) (hr : 0 ≤ ro ∧ ro ≤ 1125899906842624) (hp : post (some (.long (jv_l (jq_lf ms ds ar ro i)))) h) : jv_Ct yX3_leastOutflowFor cX3_leastOutflowFor 9 (some .long) (K + 1) [.ref 1, .int (jv_i i), .int (jv_i ar), .long (jv_l ro)] h post := by
  have w9 := w
  obtain ⟨w1, w2, w3, w4⟩ := w
  have r1 := jq_cm_in hR ha i
  have r2 := (hR.2 i).2.1
  refine jv_entry (own := RX3) (by decide) rfl (Nat.le_of_ble_eq_true rfl) (fun X hq => ?_)
  refine jv_aload_n dX3_leastOutflowFor_0 rfl ?_
  refine jv_iload_n dX3_leastOutflowFor_1 rfl ?_
  refine jv_iload_n dX3_leastOutflowFor_2 rfl ?_
  refine jv_cV dX3_leastOutflowFor_3 jm_X3_33 rfl (by repeat' (first | assumption | exact ⟨_, by assumption⟩ | refine jv_h1 (by omega) ?_ | refine jv_h0 ?_ | refine jv_hs ?_)) rfl (ct_X3_comes K w9 hR hi ha ?_)
  refine jv_lload_n dX3_leastOutflowFor_6 rfl ?_
  refine jv_lsub dX3_leastOutflowFor_7 ?_
  refine jv_lstore dX3_leastOutflowFor_8 rfl (Nat.le_of_ble_eq_true rfl) ?_
  refine jv_aload_n dX3_leastOutflowFor_10 rfl ?_
  refine jv_iload_n dX3_leastOutflowFor_11 rfl ?_
  refine jv_cV dX3_leastOutflowFor_12 jm_X3_37 rfl (by repeat' (first | assumption | exact ⟨_, by assumption⟩ | refine jv_h1 (by omega) ?_ | refine jv_h0 ?_ | refine jv_hs ?_)) rfl (ct_X3_secondsOf K w9 hR hi ?_)
  refine jv_lstore dX3_leastOutflowFor_15 rfl (Nat.le_of_ble_eq_true rfl) ?_
  refine jv_lload dX3_leastOutflowFor_17 rfl ?_
  refine jv_lconst 0 dX3_leastOutflowFor_19 ?_
  refine jv_lcmp_le 31 dX3_leastOutflowFor_20 dX3_leastOutflowFor_21 (fun c20 => ?_) (fun c20 => ?_)
  · refine jv_lconst 0 dX3_leastOutflowFor_31 ?_
    exact jv_lret dX3_leastOutflowFor_32 hq (by rw [jq_lf, if_pos (by omega)] at hp; exact hp)
  · refine jv_lload dX3_leastOutflowFor_24 rfl ?_
    refine jv_lconst 0 dX3_leastOutflowFor_26 ?_
    refine jv_lcmp_gt 33 dX3_leastOutflowFor_27 dX3_leastOutflowFor_28 (fun c27 => ?_) (fun c27 => ?_)
    · refine jv_lload dX3_leastOutflowFor_33 rfl ?_
      refine jv_lload dX3_leastOutflowFor_35 rfl ?_
      refine jv_ladd dX3_leastOutflowFor_37 ?_
      refine jv_lconst 1 dX3_leastOutflowFor_38 ?_
      refine jv_lsub dX3_leastOutflowFor_39 ?_
      refine jv_lload dX3_leastOutflowFor_40 rfl ?_
      refine jv_ldiv dX3_leastOutflowFor_42 ?_
      exact jv_lret dX3_leastOutflowFor_43 hq (by rw [jq_lf, if_neg (by omega)] at hp; exact hp)
    · refine jv_lconst 0 dX3_leastOutflowFor_31 ?_
      exact jv_lret dX3_leastOutflowFor_32 hq (by rw [jq_lf, if_pos (by omega)] at hp; exact hp)
theorem ct_X3_leastOutflow {y ar ro : Int} (K : Nat) (w : jw_R h n ys ms ds) (hR : jq_R n ys ms ds) (hy : -2147483648 ≤ y ∧ y ≤ 2147483647) (ha : 0 ≤ ar ∧ ar ≤ 1000000) (hr : 0 ≤ ro ∧ ro ≤ 1125899906842624) (hp : post (some (.long (jv_l (jq_lo ys (jq_lf ms ds ar ro) y n)))) h) : jv_Ct yX3_leastOutflow cX3_leastOutflow 8 (some .long) (K + 2) [.ref 1, .int (jv_i y), .int (jv_i ar), .long (jv_l ro)] h post := by
  have w9 := w
  obtain ⟨w1, w2, w3, w4⟩ := w
  have hn := hR.1
  refine jv_entry (own := RX3) (by decide) rfl (Nat.le_of_ble_eq_true rfl) (fun X hq => ?_)
  have step : ∀ (i : Nat) (b : Int), i ≤ n → (-1 ≤ b ∧ b ≤ 20000000000) → (i = n → post (some (.long (jv_l b))) h) → (∀ b', i < n → b' = (if ys i = y then max b (jq_lf ms ds ar ro i) else b) → jv_J X cX3_leastOutflow RX3 (K + 2) 8 [some (.ref 1), some (.int (jv_i y)), some (.int (jv_i ar)), some (.long (jv_l ro)), none, some (.long (jv_l b')), none, some (.int (jv_i (i + 1)))] [] h) → jv_J X cX3_leastOutflow RX3 (K + 2) 8 [some (.ref 1), some (.int (jv_i y)), some (.int (jv_i ar)), some (.long (jv_l ro)), none, some (.long (jv_l b)), none, some (.int (jv_i i))] [] h := by
    intro i b hi hb p1 p2
    have r1 := (hR.2 i).1
    have r2 := jq_lf_in hR ha hr.1 i
    refine jv_iload dX3_leastOutflow_8 rfl ?_
    refine jv_aload_n dX3_leastOutflow_10 rfl ?_
    refine jv_getf dX3_leastOutflow_11 jf_X3_21 (by repeat' (first | assumption | exact ⟨_, by assumption⟩ | refine jv_h1 (by omega) ?_ | refine jv_h0 ?_ | refine jv_hs ?_)) (by exact rfl) ?_
    refine jv_icmp_ge 49 dX3_leastOutflow_14 (fun c14 => ?_) (fun c14 => ?_)
    · refine jv_lload dX3_leastOutflow_49 rfl ?_
      exact jv_lret dX3_leastOutflow_51 hq (p1 (by omega))
    · refine jv_aload_n dX3_leastOutflow_17 rfl ?_
      refine jv_getf dX3_leastOutflow_18 jf_X3_9 (by repeat' (first | assumption | exact ⟨_, by assumption⟩ | refine jv_h1 (by omega) ?_ | refine jv_h0 ?_ | refine jv_hs ?_)) (by exact rfl) ?_
      refine jv_iload dX3_leastOutflow_21 rfl ?_
      refine jv_iald dX3_leastOutflow_23 (by repeat' (first | assumption | exact ⟨_, by assumption⟩ | refine jv_h1 (by omega) ?_ | refine jv_h0 ?_ | refine jv_hs ?_)) ?_
      refine jv_iload_n dX3_leastOutflow_24 rfl ?_
      refine jv_icmp_ne 43 dX3_leastOutflow_25 (fun c25 => ?_) (fun c25 => ?_)
      · refine jv_iinc dX3_leastOutflow_43 rfl rfl ?_
        refine jv_goto 8 dX3_leastOutflow_46 ?_
        exact p2 _ (by omega) (by rw [if_neg c25])
      · refine jv_lload dX3_leastOutflow_28 rfl ?_
        refine jv_aload_n dX3_leastOutflow_30 rfl ?_
        refine jv_iload dX3_leastOutflow_31 rfl ?_
        refine jv_iload_n dX3_leastOutflow_33 rfl ?_
        refine jv_lload_n dX3_leastOutflow_34 rfl ?_
        refine jv_cV dX3_leastOutflow_35 jm_X3_51 rfl (by repeat' (first | assumption | exact ⟨_, by assumption⟩ | refine jv_h1 (by omega) ?_ | refine jv_h0 ?_ | refine jv_hs ?_)) rfl (ct_X3_leastOutflowFor (i := i) K w9 hR (by omega) ha hr ?_)
        refine jv_cS dX3_leastOutflow_38 jm_X3_55 (ct_J9_max K (fun r q => ?_))
        refine jv_lstore dX3_leastOutflow_41 rfl (Nat.le_of_ble_eq_true rfl) ?_
        refine jv_iinc dX3_leastOutflow_43 rfl rfl ?_
        refine jv_goto 8 dX3_leastOutflow_46 ?_
        exact p2 _ (by omega) (by rw [if_pos c25]; omega)
  have loop : ∀ (k i : Nat) (b : Int), i + k = n → b = jq_lo ys (jq_lf ms ds ar ro) y i → jv_J X cX3_leastOutflow RX3 (K + 2) 8 [some (.ref 1), some (.int (jv_i y)), some (.int (jv_i ar)), some (.long (jv_l ro)), none, some (.long (jv_l b)), none, some (.int (jv_i i))] [] h := by
    intro k
    induction k with
    | zero =>
      intro i b e eb
      have := jq_lo_in (ys := ys) (y := y) (jq_lf_in hR ha hr.1) i
      refine step i b (by omega) (by omega) (fun q => ?_) (fun b' q => by omega)
      rw [eb, q]
      exact hp
    | succ k ih =>
      intro i b e eb
      have := jq_lo_in (ys := ys) (y := y) (jq_lf_in hR ha hr.1) i
      refine step i b (by omega) (by omega) (fun q => by omega) (fun b' q e' => ?_)
      exact ih (i + 1) b' (by omega) (by rw [e', jq_lo, ← eb])
  refine jv_ldc2 dX3_leastOutflow_0 jk_X3_49 ?_
  refine jv_lstore dX3_leastOutflow_3 rfl (Nat.le_of_ble_eq_true rfl) ?_
  refine jv_iconst dX3_leastOutflow_5 ?_
  refine jv_istore dX3_leastOutflow_6 rfl (Nat.le_of_ble_eq_true rfl) ?_
  exact loop n 0 (-1) (by omega) rfl
/-- what lets a rain in -/
def jq_ok (n : Nat) (ys ms ds : Int → Int) (y mi de : Int) : Prop := n < 40 ∧ (jq_lst ys y n = -1 ∨ (ms (jq_lst ys y n) < mi ∧ ds (jq_lst ys y n) < de ∧ de * ms (jq_lst ys y n) ≤ ds (jq_lst ys y n) * mi))
theorem ct_X3_add {y mi de : Int} (K : Nat) (w : jw_R h n ys ms ds) (hR : jq_R n ys ms ds) (hy : 1 ≤ y ∧ y ≤ 1000) (hm : 1 ≤ mi ∧ mi ≤ 10000) (hd : 1 ≤ de ∧ de ≤ 100000) (hp1 : jq_ok n ys ms ds y mi de → ∀ h', jw_R h' (n + 1) (jv_up ys n y) (jv_up ms n mi) (jv_up ds n de) → jv_fr 1 4 h h' → post (some (.int (jv_i (jq_cnt ys y n + 1)))) h') (hp2 : ¬ jq_ok n ys ms ds y mi de → post (some (.int (jv_i (-1)))) h) : jv_Ct yX3_add cX3_add 7 (some .int) (K + 1) [.ref 1, .int (jv_i y), .int (jv_i mi), .int (jv_i de)] h post := by
  have w9 := w
  obtain ⟨w1, w2, w3, w4⟩ := w
  have hn := hR.1
  unfold jq_ok at hp1 hp2
  refine jv_entry (own := RX3) (by decide) rfl (Nat.le_of_ble_eq_true rfl) (fun X hq => ?_)
  have fin : n < 40 → jv_J X cX3_add RX3 (K + 1) 53 [some (.ref 1), some (.int (jv_i y)), some (.int (jv_i mi)), some (.int (jv_i de)), some (.int (jv_i (jq_cnt ys y n))), some (.int (jv_i (jq_lst ys y n))), some (.int (jv_i n))] [] h := by
    intro hn4
    have r1 := jq_lst_in ys y n
    have r2 := jq_cnt_in ys y n
    generalize jq_lst ys y n = la at *
    generalize jq_cnt ys y n = ct at *
    have tail : (la = -1 ∨ (ms la < mi ∧ ds la < de ∧ de * ms la ≤ ds la * mi)) → jv_J X cX3_add RX3 (K + 1) 72 [some (.ref 1), some (.int (jv_i y)), some (.int (jv_i mi)), some (.int (jv_i de)), some (.int (jv_i ct)), some (.int (jv_i la)), some (.int (jv_i n))] [] h := by
      intro hok
      refine jv_aload_n dX3_add_72 rfl ?_
      refine jv_getf dX3_add_73 jf_X3_9 (by repeat' (first | assumption | exact ⟨_, by assumption⟩ | refine jv_h1 (by omega) ?_ | refine jv_h0 ?_ | refine jv_hs ?_)) (by exact rfl) ?_
      refine jv_aload_n dX3_add_76 rfl ?_
      refine jv_getf dX3_add_77 jf_X3_21 (by repeat' (first | assumption | exact ⟨_, by assumption⟩ | refine jv_h1 (by omega) ?_ | refine jv_h0 ?_ | refine jv_hs ?_)) (by exact rfl) ?_
      refine jv_iload_n dX3_add_80 rfl ?_
      refine jv_iast dX3_add_81 (by repeat' (first | assumption | exact ⟨_, by assumption⟩ | refine jv_h1 (by omega) ?_ | refine jv_h0 ?_ | refine jv_hs ?_)) ?_
      refine jv_aload_n dX3_add_82 rfl ?_
      refine jv_getf dX3_add_83 jf_X3_15 (by repeat' (first | assumption | exact ⟨_, by assumption⟩ | refine jv_h1 (by omega) ?_ | refine jv_h0 ?_ | refine jv_hs ?_)) (by exact rfl) ?_
      refine jv_aload_n dX3_add_86 rfl ?_
      refine jv_getf dX3_add_87 jf_X3_21 (by repeat' (first | assumption | exact ⟨_, by assumption⟩ | refine jv_h1 (by omega) ?_ | refine jv_h0 ?_ | refine jv_hs ?_)) (by exact rfl) ?_
      refine jv_iload_n dX3_add_90 rfl ?_
      refine jv_iast dX3_add_91 (by repeat' (first | assumption | exact ⟨_, by assumption⟩ | refine jv_h1 (by omega) ?_ | refine jv_h0 ?_ | refine jv_hs ?_)) ?_
      refine jv_aload_n dX3_add_92 rfl ?_
      refine jv_getf dX3_add_93 jf_X3_18 (by repeat' (first | assumption | exact ⟨_, by assumption⟩ | refine jv_h1 (by omega) ?_ | refine jv_h0 ?_ | refine jv_hs ?_)) (by exact rfl) ?_
      refine jv_aload_n dX3_add_96 rfl ?_
      refine jv_getf dX3_add_97 jf_X3_21 (by repeat' (first | assumption | exact ⟨_, by assumption⟩ | refine jv_h1 (by omega) ?_ | refine jv_h0 ?_ | refine jv_hs ?_)) (by exact rfl) ?_
      refine jv_iload_n dX3_add_100 rfl ?_
      refine jv_iast dX3_add_101 (by repeat' (first | assumption | exact ⟨_, by assumption⟩ | refine jv_h1 (by omega) ?_ | refine jv_h0 ?_ | refine jv_hs ?_)) ?_
      refine jv_aload_n dX3_add_102 rfl ?_
      refine jv_dup dX3_add_103 rfl ?_
      refine jv_getf dX3_add_104 jf_X3_21 (by repeat' (first | assumption | exact ⟨_, by assumption⟩ | refine jv_h1 (by omega) ?_ | refine jv_h0 ?_ | refine jv_hs ?_)) (by exact rfl) ?_
      refine jv_iconst dX3_add_107 ?_
      refine jv_iadd dX3_add_108 ?_
      refine jv_putf dX3_add_109 jp_X3_21 (by repeat' (first | assumption | exact ⟨_, by assumption⟩ | refine jv_h1 (by omega) ?_ | refine jv_h0 ?_ | refine jv_hs ?_)) (by exact Nat.le_of_ble_eq_true rfl) ?_
      refine jv_iload dX3_add_112 rfl ?_
      refine jv_iconst dX3_add_114 ?_
      refine jv_iadd dX3_add_115 ?_
      exact jv_iret dX3_add_116 hq (hp1 ⟨hn4, hok⟩ _ ⟨(by repeat' (first | assumption | exact ⟨_, by assumption⟩ | refine jv_h1 (by omega) ?_ | refine jv_h0 ?_ | refine jv_hs ?_)), (by repeat' (first | assumption | exact ⟨_, by assumption⟩ | refine jv_h1 (by omega) ?_ | refine jv_h0 ?_ | refine jv_hs ?_)), (by repeat' (first | assumption | exact ⟨_, by assumption⟩ | refine jv_h1 (by omega) ?_ | refine jv_h0 ?_ | refine jv_hs ?_)), (by repeat' (first | assumption | exact ⟨_, by assumption⟩ | refine jv_h1 (by omega) ?_ | refine jv_h0 ?_ | refine jv_hs ?_))⟩ (jv_fr_set (by omega) (jv_fr_set (by omega) (jv_fr_set (by omega) (jv_fr_set (by omega) jv_fr_rf))))) (by first | rfl | decide)
    refine jv_iload dX3_add_53 rfl ?_
    refine jv_iconst dX3_add_55 ?_
    refine jv_icmp_eq 72 dX3_add_56 (fun c56 => ?_) (fun c56 => ?_)
    · exact tail (Or.inl c56)
    · refine jv_aload_n dX3_add_59 rfl ?_
      refine jv_iload dX3_add_60 rfl ?_
      refine jv_iload_n dX3_add_62 rfl ?_
      refine jv_iload_n dX3_add_63 rfl ?_
      refine jv_cV dX3_add_64 jm_X3_29 rfl (by repeat' (first | assumption | exact ⟨_, by assumption⟩ | refine jv_h1 (by omega) ?_ | refine jv_h0 ?_ | refine jv_hs ?_)) rfl (ct_X3_mayFollow (i := la) K w9 hR (by omega) hm hd (fun r q1 q2 q3 => ?_))
      refine jv_if_ne 72 dX3_add_67 (fun c67 => ?_) (fun c67 => ?_)
      · exact tail (Or.inr (by rcases Classical.em (ms la < mi ∧ ds la < de ∧ de * ms la ≤ ds la * mi) with z | z; exact z; exact absurd (q2 z) c67))
      · refine jv_iconst dX3_add_70 ?_
        exact jv_iret dX3_add_71 hq (hp2 (fun z => by rcases z.2 with z | z; exact c56 z; have := q1 z; omega))
  have step : ∀ (i : Nat) (a b : Int), n < 40 → i ≤ n → (0 ≤ a ∧ a ≤ i) → (-1 ≤ b ∧ b < i) → (i = n → jv_J X cX3_add RX3 (K + 1) 53 [some (.ref 1), some (.int (jv_i y)), some (.int (jv_i mi)), some (.int (jv_i de)), some (.int (jv_i a)), some (.int (jv_i b)), some (.int (jv_i i))] [] h) → (∀ a' b', i < n → a' = (if ys i = y then a + 1 else a) → b' = (if ys i = y then (i : Int) else b) → jv_J X cX3_add RX3 (K + 1) 20 [some (.ref 1), some (.int (jv_i y)), some (.int (jv_i mi)), some (.int (jv_i de)), some (.int (jv_i a')), some (.int (jv_i b')), some (.int (jv_i (i + 1)))] [] h) → jv_J X cX3_add RX3 (K + 1) 20 [some (.ref 1), some (.int (jv_i y)), some (.int (jv_i mi)), some (.int (jv_i de)), some (.int (jv_i a)), some (.int (jv_i b)), some (.int (jv_i i))] [] h := by
    intro i a b hn4 hi ha hb p1 p2
    have r1 := (hR.2 i).1
    refine jv_iload dX3_add_20 rfl ?_
    refine jv_aload_n dX3_add_22 rfl ?_
    refine jv_getf dX3_add_23 jf_X3_21 (by repeat' (first | assumption | exact ⟨_, by assumption⟩ | refine jv_h1 (by omega) ?_ | refine jv_h0 ?_ | refine jv_hs ?_)) (by exact rfl) ?_
    refine jv_icmp_ge 53 dX3_add_26 (fun c26 => ?_) (fun c26 => ?_)
    · exact p1 (by omega)
    · refine jv_aload_n dX3_add_29 rfl ?_
      refine jv_getf dX3_add_30 jf_X3_9 (by repeat' (first | assumption | exact ⟨_, by assumption⟩ | refine jv_h1 (by omega) ?_ | refine jv_h0 ?_ | refine jv_hs ?_)) (by exact rfl) ?_
      refine jv_iload dX3_add_33 rfl ?_
      refine jv_iald dX3_add_35 (by repeat' (first | assumption | exact ⟨_, by assumption⟩ | refine jv_h1 (by omega) ?_ | refine jv_h0 ?_ | refine jv_hs ?_)) ?_
      refine jv_iload_n dX3_add_36 rfl ?_
      refine jv_icmp_ne 47 dX3_add_37 (fun c37 => ?_) (fun c37 => ?_)
      · refine jv_iinc dX3_add_47 rfl rfl ?_
        refine jv_goto 20 dX3_add_50 ?_
        exact p2 _ _ (by omega) (by rw [if_neg c37]) (by rw [if_neg c37])
      · refine jv_iinc dX3_add_40 rfl rfl ?_
        refine jv_iload dX3_add_43 rfl ?_
        refine jv_istore dX3_add_45 rfl (Nat.le_of_ble_eq_true rfl) ?_
        refine jv_iinc dX3_add_47 rfl rfl ?_
        refine jv_goto 20 dX3_add_50 ?_
        exact p2 _ _ (by omega) (by rw [if_pos c37]) (by rw [if_pos c37])
  have loop : ∀ (k i : Nat) (a b : Int), n < 40 → i + k = n → a = jq_cnt ys y i → b = jq_lst ys y i → jv_J X cX3_add RX3 (K + 1) 20 [some (.ref 1), some (.int (jv_i y)), some (.int (jv_i mi)), some (.int (jv_i de)), some (.int (jv_i a)), some (.int (jv_i b)), some (.int (jv_i i))] [] h := by
    intro k
    induction k with
    | zero =>
      intro i a b hn4 e ea eb
      have r1 := jq_lst_in ys y i
      have r2 := jq_cnt_in ys y i
      refine step i a b hn4 (by omega) (by omega) (by omega) (fun q => ?_) (fun a' b' q => by omega)
      rw [ea, eb, q]
      exact fin hn4
    | succ k ih =>
      intro i a b hn4 e ea eb
      have r1 := jq_lst_in ys y i
      have r2 := jq_cnt_in ys y i
      refine step i a b hn4 (by omega) (by omega) (by omega) (fun q => by omega) (fun a' b' q e1 e2 => ?_)
      exact ih (i + 1) a' b' hn4 (by omega) (by rw [e1, jq_cnt, ← ea]) (by rw [e2, jq_lst, ← eb])
  refine jv_aload_n dX3_add_0 rfl ?_
  refine jv_getf dX3_add_1 jf_X3_21 (by repeat' (first | assumption | exact ⟨_, by assumption⟩ | refine jv_h1 (by omega) ?_ | refine jv_h0 ?_ | refine jv_hs ?_)) (by exact rfl) ?_
  refine jv_bipush dX3_add_4 ?_
  refine jv_icmp_lt 11 dX3_add_6 (fun c6 => ?_) (fun c6 => ?_)
  · refine jv_iconst dX3_add_11 ?_
    refine jv_istore dX3_add_12 rfl (Nat.le_of_ble_eq_true rfl) ?_
    refine jv_iconst dX3_add_14 ?_
    refine jv_istore dX3_add_15 rfl (Nat.le_of_ble_eq_true rfl) ?_
    refine jv_iconst dX3_add_17 ?_
    refine jv_istore dX3_add_18 rfl (Nat.le_of_ble_eq_true rfl) ?_
    exact loop n 0 0 (-1) (by omega) (by omega) rfl rfl
  · refine jv_iconst dX3_add_9 ?_
    exact jv_iret dX3_add_10 hq (hp2 (fun z => by omega))
end RN2
end
section
/-! THE FACE'S RAINS, and the reference's -/
def jq_rg (x : Int) : Prop := -2147483648 ≤ x ∧ x ≤ 2147483647
def jv_fs (P : List Nat) (h h' : List jv_E) : Prop := ∀ i, i ∉ P → h'[i]? = h[i]?
theorem jv_fs_rf {P : List Nat} {h : List jv_E} : jv_fs P h h := fun _ _ => rfl
theorem jv_fs_set {P : List Nat} {a : Nat} {h h' : List jv_E} {c : jv_E} (ha : a ∈ P) (q : jv_fs P h h') : jv_fs P h (h'.set a c) := fun i hi => by
  rw [List.getElem?_set_ne (show a ≠ i from fun e => hi (e ▸ ha))]
  exact q i hi
/-- the object of the face: told and draft at places t and d -/
def jw_B (h : List jv_E) (t d : Nat) : Prop := h[0]? = some (jv_ob 7 [.ref 1, .ref 5, .ref 9, .ref 15, .ref t, .ref d, .ref 89, .ref 95])
def jq_okR (n : Nat) (ys ms ds : Int → Int) (y mi de : Int) : Prop := (1 ≤ y ∧ y ≤ 1000) ∧ (1 ≤ mi ∧ mi ≤ 10000) ∧ (1 ≤ de ∧ de ≤ 100000) ∧ jq_ok n ys ms ds y mi de
def jq_wst (n : Nat) (ys ms ds : Int → Int) (y ar ou : Int) : Int := if (0 ≤ ar ∧ ar ≤ 1000000) ∧ (0 ≤ ou ∧ ou ≤ 100000) then jq_bst ys (jq_nd ms ds ar ou) y n else -1
def jq_vol (n : Nat) (ys ms ds : Int → Int) (y ar ou : Int) : Int := if jq_wst n ys ms ds y ar ou = -1 then -1 else max 0 (jq_nd ms ds ar ou (jq_wst n ys ms ds y ar ou))
def jq_by (n : Nat) (ys ms ds : Int → Int) (y ar ou : Int) : Int := if jq_wst n ys ms ds y ar ou = -1 then -1 else ms (jq_wst n ys ms ds y ar ou)
def jq_out (n : Nat) (ys ms ds : Int → Int) (y ar ro : Int) : Int := if (0 ≤ ar ∧ ar ≤ 1000000) ∧ (0 ≤ ro ∧ ro ≤ 1125899906842624) ∧ (0 ≤ jq_lo ys (jq_lf ms ds ar ro) y n ∧ jq_lo ys (jq_lf ms ds ar ro) y n ≤ 100000) then jq_lo ys (jq_lf ms ds ar ro) y n else -1
theorem jq_wst_in {n : Nat} {ys ms ds : Int → Int} {y ar ou : Int} : jq_wst n ys ms ds y ar ou = -1 ∨ (((0 ≤ ar ∧ ar ≤ 1000000) ∧ (0 ≤ ou ∧ ou ≤ 100000)) ∧ 0 ≤ jq_wst n ys ms ds y ar ou ∧ jq_wst n ys ms ds y ar ou < n) := by
  unfold jq_wst
  split
  · have := jq_bst_in ys (jq_nd ms ds ar ou) y n
    omega
  · exact Or.inl rfl
section RN3
variable {h : List jv_E} {n t d : Nat} {ys ms ds : Int → Int} {post : Option Value → List jv_E → Prop}
theorem ct_X7_rain {y mi de : Int} (K : Nat) (b : jw_B h t d) (w : jw_R h n ys ms ds) (hR : jq_R n ys ms ds) (hy : jq_rg y) (hm : jq_rg mi) (hd : jq_rg de) (hp1 : jq_okR n ys ms ds y mi de → ∀ h', jw_R h' (n + 1) (jv_up ys n y) (jv_up ms n mi) (jv_up ds n de) → jv_fr 1 4 h h' → post (some (.int (jv_i (jq_cnt ys y n + 1)))) h') (hp2 : ¬ jq_okR n ys ms ds y mi de → post (some (.int (jv_i (-1)))) h) : jv_Ct yX7_rain cX7_rain 4 (some .int) (K + 2) [.ref 0, .int (jv_i y), .int (jv_i mi), .int (jv_i de)] h post := by
  have b0 := b
  unfold jw_B at b
  have w1 := w.1
  unfold jq_rg at hy hm hd
  refine jv_entry (own := RX7) (by decide) rfl (Nat.le_of_ble_eq_true rfl) (fun X hq => ?_)
  refine jv_iload_n dX7_rain_0 rfl ?_
  refine jv_i2l dX7_rain_1 ?_
  refine jv_lconst 1 dX7_rain_2 ?_
  refine jv_ldc2 dX7_rain_3 jk_X7_61 ?_
  refine jv_cS dX7_rain_6 jm_X7_63 (ct_X7_within K (fun r1 q11 q12 q13 => ?_))
  refine jv_if_eq 36 dX7_rain_9 (fun c9 => ?_) (fun c9 => ?_)
  · refine jv_iconst dX7_rain_36 ?_
    exact jv_iret dX7_rain_37 hq (hp2 (fun z => by have z1 := z.1; have z2 := z.2.1; have z3 := z.2.2.1; omega))
  · refine jv_iload_n dX7_rain_12 rfl ?_
    refine jv_i2l dX7_rain_13 ?_
    refine jv_lconst 1 dX7_rain_14 ?_
    refine jv_ldc2 dX7_rain_15 jk_X7_67 ?_
    refine jv_cS dX7_rain_18 jm_X7_63 (ct_X7_within K (fun r2 q21 q22 q23 => ?_))
    refine jv_if_eq 36 dX7_rain_21 (fun c21 => ?_) (fun c21 => ?_)
    · refine jv_iconst dX7_rain_36 ?_
      exact jv_iret dX7_rain_37 hq (hp2 (fun z => by have z1 := z.1; have z2 := z.2.1; have z3 := z.2.2.1; omega))
    · refine jv_iload_n dX7_rain_24 rfl ?_
      refine jv_i2l dX7_rain_25 ?_
      refine jv_lconst 1 dX7_rain_26 ?_
      refine jv_ldc2 dX7_rain_27 jk_X7_69 ?_
      refine jv_cS dX7_rain_30 jm_X7_63 (ct_X7_within K (fun r3 q31 q32 q33 => ?_))
      refine jv_if_ne 38 dX7_rain_33 (fun c33 => ?_) (fun c33 => ?_)
      · refine jv_aload_n dX7_rain_38 rfl ?_
        refine jv_getf dX7_rain_39 jf_X7_10 (by repeat' (first | assumption | exact ⟨_, by assumption⟩ | refine jv_h1 (by omega) ?_ | refine jv_h0 ?_ | refine jv_hs ?_)) (by exact rfl) ?_
        refine jv_iload_n dX7_rain_42 rfl ?_
        refine jv_iload_n dX7_rain_43 rfl ?_
        refine jv_iload_n dX7_rain_44 rfl ?_
        refine jv_cV dX7_rain_45 jm_X7_71 rfl (by repeat' (first | assumption | exact ⟨_, by assumption⟩ | refine jv_h1 (by omega) ?_ | refine jv_h0 ?_ | refine jv_hs ?_)) rfl (ct_X3_add K w hR (by omega) (by omega) (by omega) (fun q h' w' fr => ?_) (fun q => ?_))
        · exact jv_iret dX7_rain_48 hq (hp1 ⟨by omega, by omega, by omega, q⟩ h' w' fr)
        · exact jv_iret dX7_rain_48 hq (hp2 (fun z => q z.2.2.2))
      · refine jv_iconst dX7_rain_36 ?_
        exact jv_iret dX7_rain_37 hq (hp2 (fun z => by have z1 := z.1; have z2 := z.2.1; have z3 := z.2.2.1; omega))
theorem ct_X7_neediestRain {y ar ou : Int} (K : Nat) (b : jw_B h t d) (w : jw_R h n ys ms ds) (hR : jq_R n ys ms ds) (hy : jq_rg y) (ha : jq_rg ar) (ho : jq_rg ou) (hp : post (some (.int (jv_i (jq_wst n ys ms ds y ar ou)))) h) : jv_Ct yX7_neediestRain cX7_neediestRain 4 (some .int) (K + 3) [.ref 0, .int (jv_i y), .int (jv_i ar), .int (jv_i ou)] h post := by
  unfold jw_B at b
  have w1 := w.1
  unfold jq_rg at hy ha ho
  refine jv_entry (own := RX7) (by decide) rfl (Nat.le_of_ble_eq_true rfl) (fun X hq => ?_)
  refine jv_iload_n dX7_neediestRain_0 rfl ?_
  refine jv_i2l dX7_neediestRain_1 ?_
  refine jv_lconst 0 dX7_neediestRain_2 ?_
  refine jv_ldc2 dX7_neediestRain_3 jk_X7_94 ?_
  refine jv_cS dX7_neediestRain_6 jm_X7_63 (ct_X7_within K (fun r1 q11 q12 q13 => ?_))
  refine jv_if_eq 24 dX7_neediestRain_9 (fun c9 => ?_) (fun c9 => ?_)
  · refine jv_iconst dX7_neediestRain_24 ?_
    exact jv_iret dX7_neediestRain_25 hq (by rw [jq_wst, if_neg (by omega)] at hp; exact hp)
  · refine jv_iload_n dX7_neediestRain_12 rfl ?_
    refine jv_i2l dX7_neediestRain_13 ?_
    refine jv_lconst 0 dX7_neediestRain_14 ?_
    refine jv_ldc2 dX7_neediestRain_15 jk_X7_69 ?_
    refine jv_cS dX7_neediestRain_18 jm_X7_63 (ct_X7_within K (fun r2 q21 q22 q23 => ?_))
    refine jv_if_ne 26 dX7_neediestRain_21 (fun c21 => ?_) (fun c21 => ?_)
    · refine jv_aload_n dX7_neediestRain_26 rfl ?_
      refine jv_getf dX7_neediestRain_27 jf_X7_10 (by repeat' (first | assumption | exact ⟨_, by assumption⟩ | refine jv_h1 (by omega) ?_ | refine jv_h0 ?_ | refine jv_hs ?_)) (by exact rfl) ?_
      refine jv_iload_n dX7_neediestRain_30 rfl ?_
      refine jv_iload_n dX7_neediestRain_31 rfl ?_
      refine jv_iload_n dX7_neediestRain_32 rfl ?_
      refine jv_cV dX7_neediestRain_33 jm_X7_198 rfl (by repeat' (first | assumption | exact ⟨_, by assumption⟩ | refine jv_h1 (by omega) ?_ | refine jv_h0 ?_ | refine jv_hs ?_)) rfl (ct_X3_neediest K w hR hy (by omega) (by omega) ?_)
      exact jv_iret dX7_neediestRain_36 hq (by rw [jq_wst, if_pos (by omega)] at hp; exact hp)
    · refine jv_iconst dX7_neediestRain_24 ?_
      exact jv_iret dX7_neediestRain_25 hq (by rw [jq_wst, if_neg (by omega)] at hp; exact hp)
theorem ct_X7_volume {y ar ou : Int} (K : Nat) (b : jw_B h t d) (w : jw_R h n ys ms ds) (hR : jq_R n ys ms ds) (hy : jq_rg y) (ha : jq_rg ar) (ho : jq_rg ou) (hp : post (some (.long (jv_l (jq_vol n ys ms ds y ar ou)))) h) : jv_Ct yX7_volume cX7_volume 5 (some .long) (K + 4) [.ref 0, .int (jv_i y), .int (jv_i ar), .int (jv_i ou)] h post := by
  have b0 := b
  unfold jw_B at b
  have w1 := w.1
  have hn := hR.1
  have r9 := jq_wst_in (n := n) (ys := ys) (ms := ms) (ds := ds) (y := y) (ar := ar) (ou := ou)
  refine jv_entry (own := RX7) (by decide) rfl (Nat.le_of_ble_eq_true rfl) (fun X hq => ?_)
  refine jv_aload_n dX7_volume_0 rfl ?_
  refine jv_iload_n dX7_volume_1 rfl ?_
  refine jv_iload_n dX7_volume_2 rfl ?_
  refine jv_iload_n dX7_volume_3 rfl ?_
  refine jv_cV dX7_volume_4 jm_X7_75 rfl (by repeat' (first | assumption | exact ⟨_, by assumption⟩ | refine jv_h1 (by omega) ?_ | refine jv_h0 ?_ | refine jv_hs ?_)) rfl (ct_X7_neediestRain K b0 w hR hy ha ho ?_)
  refine jv_istore dX7_volume_7 rfl (Nat.le_of_ble_eq_true rfl) ?_
  refine jv_iload dX7_volume_9 rfl ?_
  refine jv_iconst dX7_volume_11 ?_
  refine jv_icmp_ne 21 dX7_volume_12 (fun c12 => ?_) (fun c12 => ?_)
  · refine jv_lconst 0 dX7_volume_21 ?_
    refine jv_aload_n dX7_volume_22 rfl ?_
    refine jv_getf dX7_volume_23 jf_X7_10 (by repeat' (first | assumption | exact ⟨_, by assumption⟩ | refine jv_h1 (by omega) ?_ | refine jv_h0 ?_ | refine jv_hs ?_)) (by exact rfl) ?_
    refine jv_iload dX7_volume_26 rfl ?_
    refine jv_iload_n dX7_volume_28 rfl ?_
    refine jv_iload_n dX7_volume_29 rfl ?_
    refine jv_cV dX7_volume_30 jm_X7_80 rfl (by repeat' (first | assumption | exact ⟨_, by assumption⟩ | refine jv_h1 (by omega) ?_ | refine jv_h0 ?_ | refine jv_hs ?_)) rfl (ct_X3_need K w hR (by omega) (by omega) (by omega) ?_)
    have r8 := jq_nd_in hR (ar := ar) (ou := ou) (by omega) (by omega) (jq_wst n ys ms ds y ar ou)
    refine jv_cS dX7_volume_33 jm_X7_84 (ct_J9_max K (fun r q => ?_))
    exact jv_lret dX7_volume_36 hq (by rw [jq_vol, if_neg c12] at hp; rw [show r = max 0 (jq_nd ms ds ar ou (jq_wst n ys ms ds y ar ou)) by omega]; exact hp)
  · refine jv_ldc2 dX7_volume_15 jk_X7_78 ?_
    refine jv_goto 36 dX7_volume_18 ?_
    exact jv_lret dX7_volume_36 hq (by rw [jq_vol, if_pos c12] at hp; exact hp)
theorem ct_X7_by {y ar ou : Int} (K : Nat) (b : jw_B h t d) (w : jw_R h n ys ms ds) (hR : jq_R n ys ms ds) (hy : jq_rg y) (ha : jq_rg ar) (ho : jq_rg ou) (hp : post (some (.int (jv_i (jq_by n ys ms ds y ar ou)))) h) : jv_Ct yX7_by cX7_by 5 (some .int) (K + 4) [.ref 0, .int (jv_i y), .int (jv_i ar), .int (jv_i ou)] h post := by
  have b0 := b
  unfold jw_B at b
  have w1 := w.1
  have hn := hR.1
  have r9 := jq_wst_in (n := n) (ys := ys) (ms := ms) (ds := ds) (y := y) (ar := ar) (ou := ou)
  refine jv_entry (own := RX7) (by decide) rfl (Nat.le_of_ble_eq_true rfl) (fun X hq => ?_)
  refine jv_aload_n dX7_by_0 rfl ?_
  refine jv_iload_n dX7_by_1 rfl ?_
  refine jv_iload_n dX7_by_2 rfl ?_
  refine jv_iload_n dX7_by_3 rfl ?_
  refine jv_cV dX7_by_4 jm_X7_75 rfl (by repeat' (first | assumption | exact ⟨_, by assumption⟩ | refine jv_h1 (by omega) ?_ | refine jv_h0 ?_ | refine jv_hs ?_)) rfl (ct_X7_neediestRain K b0 w hR hy ha ho ?_)
  refine jv_istore dX7_by_7 rfl (Nat.le_of_ble_eq_true rfl) ?_
  refine jv_iload dX7_by_9 rfl ?_
  refine jv_iconst dX7_by_11 ?_
  refine jv_icmp_ne 19 dX7_by_12 (fun c12 => ?_) (fun c12 => ?_)
  · refine jv_aload_n dX7_by_19 rfl ?_
    refine jv_getf dX7_by_20 jf_X7_10 (by repeat' (first | assumption | exact ⟨_, by assumption⟩ | refine jv_h1 (by omega) ?_ | refine jv_h0 ?_ | refine jv_hs ?_)) (by exact rfl) ?_
    refine jv_iload dX7_by_23 rfl ?_
    refine jv_cV dX7_by_25 jm_X7_90 rfl (by repeat' (first | assumption | exact ⟨_, by assumption⟩ | refine jv_h1 (by omega) ?_ | refine jv_h0 ?_ | refine jv_hs ?_)) rfl (ct_X3_minutesOf K w hn (by omega) ?_)
    exact jv_iret dX7_by_28 hq (by rw [jq_by, if_neg c12] at hp; exact hp)
  · refine jv_iconst dX7_by_15 ?_
    refine jv_goto 28 dX7_by_16 ?_
    exact jv_iret dX7_by_28 hq (by rw [jq_by, if_pos c12] at hp; exact hp)
theorem ct_X7_outflow {y ar ro : Int} (K : Nat) (b : jw_B h t d) (w : jw_R h n ys ms ds) (hR : jq_R n ys ms ds) (hy : jq_rg y) (ha : jq_rg ar) (hr : -9223372036854775808 ≤ ro ∧ ro ≤ 9223372036854775807) (hp : post (some (.int (jv_i (jq_out n ys ms ds y ar ro)))) h) : jv_Ct yX7_outflow cX7_outflow 7 (some .int) (K + 3) [.ref 0, .int (jv_i y), .int (jv_i ar), .long (jv_l ro)] h post := by
  have b0 := b
  unfold jw_B at b
  have w1 := w.1
  unfold jq_rg at hy ha
  refine jv_entry (own := RX7) (by decide) rfl (Nat.le_of_ble_eq_true rfl) (fun X hq => ?_)
  refine jv_iload_n dX7_outflow_0 rfl ?_
  refine jv_i2l dX7_outflow_1 ?_
  refine jv_lconst 0 dX7_outflow_2 ?_
  refine jv_ldc2 dX7_outflow_3 jk_X7_94 ?_
  refine jv_cS dX7_outflow_6 jm_X7_63 (ct_X7_within K (fun r1 q11 q12 q13 => ?_))
  refine jv_if_eq 23 dX7_outflow_9 (fun c9 => ?_) (fun c9 => ?_)
  · refine jv_iconst dX7_outflow_23 ?_
    exact jv_iret dX7_outflow_24 hq (by rw [jq_out, if_neg (by omega)] at hp; exact hp)
  · refine jv_lload_n dX7_outflow_12 rfl ?_
    refine jv_lconst 0 dX7_outflow_13 ?_
    refine jv_ldc2 dX7_outflow_14 jk_X7_96 ?_
    refine jv_cS dX7_outflow_17 jm_X7_63 (ct_X7_within K (fun r2 q21 q22 q23 => ?_))
    refine jv_if_ne 25 dX7_outflow_20 (fun c20 => ?_) (fun c20 => ?_)
    · refine jv_aload_n dX7_outflow_25 rfl ?_
      refine jv_getf dX7_outflow_26 jf_X7_10 (by repeat' (first | assumption | exact ⟨_, by assumption⟩ | refine jv_h1 (by omega) ?_ | refine jv_h0 ?_ | refine jv_hs ?_)) (by exact rfl) ?_
      refine jv_iload_n dX7_outflow_29 rfl ?_
      refine jv_iload_n dX7_outflow_30 rfl ?_
      refine jv_lload_n dX7_outflow_31 rfl ?_
      refine jv_cV dX7_outflow_32 jm_X7_98 rfl (by repeat' (first | assumption | exact ⟨_, by assumption⟩ | refine jv_h1 (by omega) ?_ | refine jv_h0 ?_ | refine jv_hs ?_)) rfl (ct_X3_leastOutflow K w hR hy (by omega) (by omega) ?_)
      refine jv_lstore dX7_outflow_35 rfl (Nat.le_of_ble_eq_true rfl) ?_
      refine jv_lload dX7_outflow_37 rfl ?_
      refine jv_lconst 0 dX7_outflow_39 ?_
      refine jv_ldc2 dX7_outflow_40 jk_X7_69 ?_
      have r9 := jq_lo_in (ys := ys) (y := y) (jq_lf_in hR (ar := ar) (ro := ro) (by omega) (by omega)) n
      refine jv_cS dX7_outflow_43 jm_X7_63 (ct_X7_within K (fun r3 q31 q32 q33 => ?_))
      refine jv_if_eq 55 dX7_outflow_46 (fun c46 => ?_) (fun c46 => ?_)
      · refine jv_iconst dX7_outflow_55 ?_
        exact jv_iret dX7_outflow_56 hq (by rw [jq_out, if_neg (by omega)] at hp; exact hp)
      · refine jv_lload dX7_outflow_49 rfl ?_
        refine jv_l2i dX7_outflow_51 ?_
        refine jv_goto 56 dX7_outflow_52 ?_
        exact jv_iret dX7_outflow_56 hq (by rw [jq_out, if_pos (by omega)] at hp; exact hp)
    · refine jv_iconst dX7_outflow_23 ?_
      exact jv_iret dX7_outflow_24 hq (by rw [jq_out, if_neg (by omega)] at hp; exact hp)
end RN3
/-! the reference: its object, its rains -/
def jw_O (h : List jv_E) (r lv cu si st at_ wr da ra wa : Int) : Prop := h[97]? = some (jv_ob 8 [.int (jv_i r), .ref 98, .ref 99, .ref 100, .int (jv_i lv), .ref 101, .ref 102, .int (jv_i cu), .ref 103, .int (jv_i si), .ref 104, .int (jv_i st), .ref 105, .ref 106, .ref 107, .ref 108, .ref 109, .int (jv_i at_), .int (jv_i wr), .int (jv_i da), .ref 110, .int (jv_i ra), .ref 111, .ref 112, .ref 113, .int (jv_i wa), .ref 114])
def jw_MR (h : List jv_E) (ys ms ds : Int → Int) : Prop := h[98]? = some (jv_ai 40 ys) ∧ h[99]? = some (jv_ai 40 ms) ∧ h[100]? = some (jv_ai 40 ds)
def jq_lo0 (ys : Int → Int) (g : Int → Int) (y : Int) : Nat → Int
  | 0 => 0
  | k + 1 => if ys k = y then max (jq_lo0 ys g y k) (g k) else jq_lo0 ys g y k
theorem jq_lo0_in {ys g : Int → Int} {y : Int} (hg : ∀ i, 0 ≤ g i ∧ g i ≤ 20000000000) : ∀ k : Nat, 0 ≤ jq_lo0 ys g y k ∧ jq_lo0 ys g y k ≤ 20000000000
  | 0 => by simp [jq_lo0]
  | k + 1 => by
    have h1 := jq_lo0_in (ys := ys) (y := y) hg k
    have h2 := hg k
    rw [jq_lo0]
    split <;> omega
theorem jq_lo_eq {ys g g2 : Int → Int} {y : Int} (hg : ∀ i, 0 ≤ g i ∧ g i ≤ 20000000000) : ∀ k : Nat, (jq_bst ys g2 y k = -1 → jq_lo ys g y k = -1) ∧ (jq_bst ys g2 y k ≠ -1 → jq_lo ys g y k = jq_lo0 ys g y k)
  | 0 => by simp [jq_bst, jq_lo]
  | k + 1 => by
    obtain ⟨h1, h2⟩ := jq_lo_eq (ys := ys) (g2 := g2) (y := y) hg k
    have h3 := hg k
    have h4 := jq_lo0_in (ys := ys) (y := y) hg k
    have h5 := jq_bst_in ys g2 y k
    rw [jq_bst, jq_lo, jq_lo0]
    by_cases e : ys k = y
    · rw [if_pos e, if_pos e]
      by_cases e2 : jq_bst ys g2 y k = -1
      · rw [if_pos ⟨e, Or.inl e2⟩]
        have := h1 e2
        refine ⟨fun q => by omega, fun _ => ?_⟩
        have h6 : jq_lo0 ys g y k = 0 := by
          clear h3 h4 h5 h2
          have z : ∀ j : Nat, jq_bst ys g2 y j = -1 → jq_lo0 ys g y j = 0 := by
            intro j
            induction j with
            | zero => intro _; rfl
            | succ j ih =>
              intro q
              have h5 := jq_bst_in ys g2 y j
              rw [jq_bst] at q
              rw [jq_lo0]
              by_cases e3 : ys j = y
              · by_cases e4 : jq_bst ys g2 y j = -1
                · rw [if_pos ⟨e3, Or.inl e4⟩] at q; omega
                · split at q <;> omega
              · rw [if_neg (fun w => e3 w.1)] at q
                rw [if_neg e3]
                exact ih q
          exact z k e2
        omega
      · have := h2 e2
        split <;> refine ⟨fun q => by omega, fun _ => by omega⟩
    · rw [if_neg e, if_neg e, if_neg (fun w => e w.1)]
      exact ⟨h1, h2⟩
section MR
variable {h : List jv_E} {n : Nat} {lv cu si st at_ wr da ra wa : Int} {ys ms ds : Int → Int} {post : Option Value → List jv_E → Prop}
theorem ct_X8_in {x a b : Int} (K : Nat) (hp : ∀ r : Int, (a ≤ x ∧ x ≤ b → r = 1) → (¬ (a ≤ x ∧ x ≤ b) → r = 0) → 0 ≤ r ∧ r ≤ 1 → post (some (.int (jv_i r))) h) (hx : -9223372036854775808 ≤ x ∧ x ≤ 9223372036854775807 := by omega) (ha : -9223372036854775808 ≤ a ∧ a ≤ 9223372036854775807 := by omega) (hb : -9223372036854775808 ≤ b ∧ b ≤ 9223372036854775807 := by omega) : jv_Ct yX8_in cX8_in 6 (some .boolean) K [.long (jv_l x), .long (jv_l a), .long (jv_l b)] h post := by
  refine jv_entry (own := RX8) (by decide) rfl (Nat.le_of_ble_eq_true rfl) (fun X hq => ?_)
  refine jv_lload_n dX8_in_0 rfl ?_
  refine jv_lload_n dX8_in_1 rfl ?_
  refine jv_lcmp_lt 17 dX8_in_2 dX8_in_3 (fun c2 => ?_) (fun c2 => ?_)
  · refine jv_iconst dX8_in_17 ?_
    exact jv_iret dX8_in_18 hq (hp _ (by omega) (by omega) (by omega)) (by first | rfl | decide)
  · refine jv_lload_n dX8_in_6 rfl ?_
    refine jv_lload dX8_in_7 rfl ?_
    refine jv_lcmp_gt 17 dX8_in_9 dX8_in_10 (fun c9 => ?_) (fun c9 => ?_)
    · refine jv_iconst dX8_in_17 ?_
      exact jv_iret dX8_in_18 hq (hp _ (by omega) (by omega) (by omega)) (by first | rfl | decide)
    · refine jv_iconst dX8_in_13 ?_
      refine jv_goto 18 dX8_in_14 ?_
      exact jv_iret dX8_in_18 hq (hp _ (by omega) (by omega) (by omega)) (by first | rfl | decide)
theorem ct_X8_need {i ar ou : Int} (K : Nat) (o : jw_O h n lv cu si st at_ wr da ra wa) (w : jw_MR h ys ms ds) (hR : jq_R n ys ms ds) (hi : 0 ≤ i ∧ i < n) (ha : 0 ≤ ar ∧ ar ≤ 1000000) (ho : 0 ≤ ou ∧ ou ≤ 100000) (hp : post (some (.long (jv_l (jq_nd ms ds ar ou i)))) h) : jv_Ct yX8_need cX8_need 4 (some .long) K [.ref 97, .int (jv_i i), .int (jv_i ar), .int (jv_i ou)] h post := by
  unfold jw_O at o
  obtain ⟨w1, w2, w3⟩ := w
  have hn := hR.1
  obtain ⟨-, r1, r2⟩ := hR.2 i
  have m1 := jq_mul r2 ha
  have e : jq_nd ms ds ar ou i = ds i * ar / 10 - 60 * ou * ms i := by
    unfold jq_nd jq_cm
    rw [Int.mul_comm 60 ou, Int.mul_assoc]
  rw [e] at hp
  refine jv_entry (own := RX8) (by decide) rfl (Nat.le_of_ble_eq_true rfl) (fun X hq => ?_)
  refine jv_aload_n dX8_need_0 rfl ?_
  refine jv_getf dX8_need_1 jf_X8_16 (by repeat' (first | assumption | exact ⟨_, by assumption⟩ | refine jv_h1 (by omega) ?_ | refine jv_h0 ?_ | refine jv_hs ?_)) (by exact rfl) ?_
  refine jv_iload_n dX8_need_4 rfl ?_
  refine jv_iald dX8_need_5 (by repeat' (first | assumption | exact ⟨_, by assumption⟩ | refine jv_h1 (by omega) ?_ | refine jv_h0 ?_ | refine jv_hs ?_)) ?_
  refine jv_i2l dX8_need_6 ?_
  refine jv_iload_n dX8_need_7 rfl ?_
  refine jv_i2l dX8_need_8 ?_
  refine jv_lmul dX8_need_9 ?_
  refine jv_ldc2 dX8_need_10 jk_X8_82 ?_
  refine jv_ldiv dX8_need_13 ?_
  refine jv_ldc2 dX8_need_14 jk_X8_84 ?_
  refine jv_iload_n dX8_need_17 rfl ?_
  refine jv_i2l dX8_need_18 ?_
  refine jv_lmul dX8_need_19 ?_
  refine jv_aload_n dX8_need_20 rfl ?_
  refine jv_getf dX8_need_21 jf_X8_13 (by repeat' (first | assumption | exact ⟨_, by assumption⟩ | refine jv_h1 (by omega) ?_ | refine jv_h0 ?_ | refine jv_hs ?_)) (by exact rfl) ?_
  refine jv_iload_n dX8_need_24 rfl ?_
  refine jv_iald dX8_need_25 (by repeat' (first | assumption | exact ⟨_, by assumption⟩ | refine jv_h1 (by omega) ?_ | refine jv_h0 ?_ | refine jv_hs ?_)) ?_
  refine jv_i2l dX8_need_26 ?_
  refine jv_lmul dX8_need_27 ?_
  refine jv_lsub dX8_need_28 ?_
  exact jv_lret dX8_need_29 hq (hp)
theorem ct_X8_worst {y ar ou : Int} (K : Nat) (o : jw_O h n lv cu si st at_ wr da ra wa) (w : jw_MR h ys ms ds) (hR : jq_R n ys ms ds) (hy : jq_rg y) (ha : jq_rg ar) (ho : jq_rg ou) (hp : post (some (.int (jv_i (jq_wst n ys ms ds y ar ou)))) h) : jv_Ct yX8_worst cX8_worst 6 (some .int) (K + 1) [.ref 97, .int (jv_i y), .int (jv_i ar), .int (jv_i ou)] h post := by
  have o9 := o
  have w9 := w
  unfold jw_O at o
  obtain ⟨w1, w2, w3⟩ := w
  have hn := hR.1
  unfold jq_rg at hy ha ho
  refine jv_entry (own := RX8) (by decide) rfl (Nat.le_of_ble_eq_true rfl) (fun X hq => ?_)
  have step : ∀ (i : Nat) (b : Int), (0 ≤ ar ∧ ar ≤ 1000000) → (0 ≤ ou ∧ ou ≤ 100000) → i ≤ n → -1 ≤ b ∧ b < i → (i = n → post (some (.int (jv_i b))) h) → (∀ b', i < n → b' = (if ys i = y ∧ (b = -1 ∨ jq_nd ms ds ar ou b < jq_nd ms ds ar ou i) then (i : Int) else b) → jv_J X cX8_worst RX8 (K + 1) 32 [some (.ref 97), some (.int (jv_i y)), some (.int (jv_i ar)), some (.int (jv_i ou)), some (.int (jv_i b')), some (.int (jv_i (i + 1)))] [] h) → jv_J X cX8_worst RX8 (K + 1) 32 [some (.ref 97), some (.int (jv_i y)), some (.int (jv_i ar)), some (.int (jv_i ou)), some (.int (jv_i b)), some (.int (jv_i i))] [] h := by
    intro i b ha ho hi hb p1 p2
    have r1 := (hR.2 i).1
    have r2 := jq_nd_in hR ha ho i
    have r3 := jq_nd_in hR ha ho b
    refine jv_iload dX8_worst_32 rfl ?_
    refine jv_aload_n dX8_worst_34 rfl ?_
    refine jv_getf dX8_worst_35 jf_X8_72 (by repeat' (first | assumption | exact ⟨_, by assumption⟩ | refine jv_h1 (by omega) ?_ | refine jv_h0 ?_ | refine jv_hs ?_)) (by exact rfl) ?_
    refine jv_icmp_ge 88 dX8_worst_38 (fun c38 => ?_) (fun c38 => ?_)
    · refine jv_iload dX8_worst_88 rfl ?_
      exact jv_iret dX8_worst_90 hq (p1 (by omega)) (by first | rfl | decide)
    · refine jv_aload_n dX8_worst_41 rfl ?_
      refine jv_getf dX8_worst_42 jf_X8_7 (by repeat' (first | assumption | exact ⟨_, by assumption⟩ | refine jv_h1 (by omega) ?_ | refine jv_h0 ?_ | refine jv_hs ?_)) (by exact rfl) ?_
      refine jv_iload dX8_worst_45 rfl ?_
      refine jv_iald dX8_worst_47 (by repeat' (first | assumption | exact ⟨_, by assumption⟩ | refine jv_h1 (by omega) ?_ | refine jv_h0 ?_ | refine jv_hs ?_)) ?_
      refine jv_iload_n dX8_worst_48 rfl ?_
      refine jv_icmp_ne 82 dX8_worst_49 (fun c49 => ?_) (fun c49 => ?_)
      · refine jv_iinc dX8_worst_82 rfl rfl ?_
        refine jv_goto 32 dX8_worst_85 ?_
        exact p2 _ (by omega) (by rw [if_neg (fun q => c49 q.1)])
      · refine jv_iload dX8_worst_52 rfl ?_
        refine jv_iconst dX8_worst_54 ?_
        refine jv_icmp_eq 78 dX8_worst_55 (fun c55 => ?_) (fun c55 => ?_)
        · refine jv_iload dX8_worst_78 rfl ?_
          refine jv_istore dX8_worst_80 rfl (Nat.le_of_ble_eq_true rfl) ?_
          refine jv_iinc dX8_worst_82 rfl rfl ?_
          refine jv_goto 32 dX8_worst_85 ?_
          exact p2 _ (by omega) (by rw [if_pos ⟨c49, Or.inl c55⟩])
        · refine jv_aload_n dX8_worst_58 rfl ?_
          refine jv_iload dX8_worst_59 rfl ?_
          refine jv_iload_n dX8_worst_61 rfl ?_
          refine jv_iload_n dX8_worst_62 rfl ?_
          refine jv_cV dX8_worst_63 jm_X8_78 rfl (by repeat' (first | assumption | exact ⟨_, by assumption⟩ | refine jv_h1 (by omega) ?_ | refine jv_h0 ?_ | refine jv_hs ?_)) rfl (ct_X8_need (i := i) K o9 w9 hR (by omega) ha ho ?_)
          refine jv_aload_n dX8_worst_66 rfl ?_
          refine jv_iload dX8_worst_67 rfl ?_
          refine jv_iload_n dX8_worst_69 rfl ?_
          refine jv_iload_n dX8_worst_70 rfl ?_
          refine jv_cV dX8_worst_71 jm_X8_78 rfl (by repeat' (first | assumption | exact ⟨_, by assumption⟩ | refine jv_h1 (by omega) ?_ | refine jv_h0 ?_ | refine jv_hs ?_)) rfl (ct_X8_need (i := b) K o9 w9 hR (by omega) ha ho ?_)
          refine jv_lcmp_le 82 dX8_worst_74 dX8_worst_75 (fun c74 => ?_) (fun c74 => ?_)
          · refine jv_iinc dX8_worst_82 rfl rfl ?_
            refine jv_goto 32 dX8_worst_85 ?_
            exact p2 _ (by omega) (by rw [if_neg (fun q => by rcases q.2 with z | z; exact c55 z; omega)])
          · refine jv_iload dX8_worst_78 rfl ?_
            refine jv_istore dX8_worst_80 rfl (Nat.le_of_ble_eq_true rfl) ?_
            refine jv_iinc dX8_worst_82 rfl rfl ?_
            refine jv_goto 32 dX8_worst_85 ?_
            exact p2 _ (by omega) (by rw [if_pos ⟨c49, Or.inr c74⟩])
  have loop : ∀ (k i : Nat) (b : Int), (0 ≤ ar ∧ ar ≤ 1000000) → (0 ≤ ou ∧ ou ≤ 100000) → i + k = n → b = jq_bst ys (jq_nd ms ds ar ou) y i → jv_J X cX8_worst RX8 (K + 1) 32 [some (.ref 97), some (.int (jv_i y)), some (.int (jv_i ar)), some (.int (jv_i ou)), some (.int (jv_i b)), some (.int (jv_i i))] [] h := by
    intro k
    induction k with
    | zero =>
      intro i b ha ho e eb
      have := jq_bst_in ys (jq_nd ms ds ar ou) y i
      refine step i b ha ho (by omega) (by omega) (fun q => ?_) (fun b' q => by omega)
      rw [eb, q]
      rw [jq_wst, if_pos ⟨ha, ho⟩] at hp
      exact hp
    | succ k ih =>
      intro i b ha ho e eb
      have := jq_bst_in ys (jq_nd ms ds ar ou) y i
      refine step i b ha ho (by omega) (by omega) (fun q => by omega) (fun b' q e' => ?_)
      exact ih (i + 1) b' ha ho (by omega) (by rw [e', jq_bst, ← eb])
  refine jv_iconst dX8_worst_0 ?_
  refine jv_istore dX8_worst_1 rfl (Nat.le_of_ble_eq_true rfl) ?_
  refine jv_iload_n dX8_worst_3 rfl ?_
  refine jv_i2l dX8_worst_4 ?_
  refine jv_lconst 0 dX8_worst_5 ?_
  refine jv_ldc2 dX8_worst_6 jk_X8_76 ?_
  refine jv_cS dX8_worst_9 jm_X8_64 (ct_X8_in K (fun r1 q11 q12 q13 => ?_))
  refine jv_if_eq 27 dX8_worst_12 (fun c12 => ?_) (fun c12 => ?_)
  · refine jv_iconst dX8_worst_27 ?_
    exact jv_iret dX8_worst_28 hq (by rw [jq_wst, if_neg (by omega)] at hp; exact hp)
  · refine jv_iload_n dX8_worst_15 rfl ?_
    refine jv_i2l dX8_worst_16 ?_
    refine jv_lconst 0 dX8_worst_17 ?_
    refine jv_ldc2 dX8_worst_18 jk_X8_70 ?_
    refine jv_cS dX8_worst_21 jm_X8_64 (ct_X8_in K (fun r2 q21 q22 q23 => ?_))
    refine jv_if_ne 29 dX8_worst_24 (fun c24 => ?_) (fun c24 => ?_)
    · refine jv_iconst dX8_worst_29 ?_
      refine jv_istore dX8_worst_30 rfl (Nat.le_of_ble_eq_true rfl) ?_
      exact loop n 0 (-1) (by omega) (by omega) (by omega) rfl
    · refine jv_iconst dX8_worst_27 ?_
      exact jv_iret dX8_worst_28 hq (by rw [jq_wst, if_neg (by omega)] at hp; exact hp)
theorem ct_X8_volume {y ar ou : Int} (K : Nat) (o : jw_O h n lv cu si st at_ wr da ra wa) (w : jw_MR h ys ms ds) (hR : jq_R n ys ms ds) (hy : jq_rg y) (ha : jq_rg ar) (ho : jq_rg ou) (hp : post (some (.long (jv_l (jq_vol n ys ms ds y ar ou)))) h) : jv_Ct yX8_volume cX8_volume 7 (some .long) (K + 2) [.ref 97, .int (jv_i y), .int (jv_i ar), .int (jv_i ou)] h post := by
  have o9 := o
  unfold jw_O at o
  have hn := hR.1
  have r9 := jq_wst_in (n := n) (ys := ys) (ms := ms) (ds := ds) (y := y) (ar := ar) (ou := ou)
  refine jv_entry (own := RX8) (by decide) rfl (Nat.le_of_ble_eq_true rfl) (fun X hq => ?_)
  refine jv_aload_n dX8_volume_0 rfl ?_
  refine jv_iload_n dX8_volume_1 rfl ?_
  refine jv_iload_n dX8_volume_2 rfl ?_
  refine jv_iload_n dX8_volume_3 rfl ?_
  refine jv_cV dX8_volume_4 jm_X8_86 rfl (by repeat' (first | assumption | exact ⟨_, by assumption⟩ | refine jv_h1 (by omega) ?_ | refine jv_h0 ?_ | refine jv_hs ?_)) rfl (ct_X8_worst K o9 w hR hy ha ho ?_)
  refine jv_istore dX8_volume_7 rfl (Nat.le_of_ble_eq_true rfl) ?_
  refine jv_iload dX8_volume_9 rfl ?_
  refine jv_iconst dX8_volume_11 ?_
  refine jv_icmp_ne 19 dX8_volume_12 (fun c12 => ?_) (fun c12 => ?_)
  · refine jv_aload_n dX8_volume_19 rfl ?_
    refine jv_iload dX8_volume_20 rfl ?_
    refine jv_iload_n dX8_volume_22 rfl ?_
    refine jv_iload_n dX8_volume_23 rfl ?_
    refine jv_cV dX8_volume_24 jm_X8_78 rfl (by repeat' (first | assumption | exact ⟨_, by assumption⟩ | refine jv_h1 (by omega) ?_ | refine jv_h0 ?_ | refine jv_hs ?_)) rfl (ct_X8_need K o9 w hR (by omega) (by omega) (by omega) ?_)
    refine jv_lstore dX8_volume_27 rfl (Nat.le_of_ble_eq_true rfl) ?_
    refine jv_lload dX8_volume_29 rfl ?_
    refine jv_lconst 0 dX8_volume_31 ?_
    have r8 := jq_nd_in hR (ar := ar) (ou := ou) (by omega) (by omega) (jq_wst n ys ms ds y ar ou)
    rw [jq_vol, if_neg c12] at hp
    generalize jq_nd ms ds ar ou (jq_wst n ys ms ds y ar ou) = nd at *
    refine jv_lcmp_ge 40 dX8_volume_32 dX8_volume_33 (fun c32 => ?_) (fun c32 => ?_)
    · refine jv_lload dX8_volume_40 rfl ?_
      exact jv_lret dX8_volume_42 hq (by rw [show max 0 nd = nd by omega] at hp; exact hp)
    · refine jv_lconst 0 dX8_volume_36 ?_
      refine jv_goto 42 dX8_volume_37 ?_
      exact jv_lret dX8_volume_42 hq (by rw [show max 0 nd = 0 by omega] at hp; exact hp)
  · refine jv_ldc2 dX8_volume_15 jk_X8_90 ?_
    exact jv_lret dX8_volume_18 hq (by rw [jq_vol, if_pos c12] at hp; exact hp)
theorem ct_X8_by {y ar ou : Int} (K : Nat) (o : jw_O h n lv cu si st at_ wr da ra wa) (w : jw_MR h ys ms ds) (hR : jq_R n ys ms ds) (hy : jq_rg y) (ha : jq_rg ar) (ho : jq_rg ou) (hp : post (some (.int (jv_i (jq_by n ys ms ds y ar ou)))) h) : jv_Ct yX8_by cX8_by 5 (some .int) (K + 2) [.ref 97, .int (jv_i y), .int (jv_i ar), .int (jv_i ou)] h post := by
  have o9 := o
  unfold jw_O at o
  have hn := hR.1
  have w9 := w
  obtain ⟨w1, w2, w3⟩ := w
  have r9 := jq_wst_in (n := n) (ys := ys) (ms := ms) (ds := ds) (y := y) (ar := ar) (ou := ou)
  refine jv_entry (own := RX8) (by decide) rfl (Nat.le_of_ble_eq_true rfl) (fun X hq => ?_)
  refine jv_aload_n dX8_by_0 rfl ?_
  refine jv_iload_n dX8_by_1 rfl ?_
  refine jv_iload_n dX8_by_2 rfl ?_
  refine jv_iload_n dX8_by_3 rfl ?_
  refine jv_cV dX8_by_4 jm_X8_86 rfl (by repeat' (first | assumption | exact ⟨_, by assumption⟩ | refine jv_h1 (by omega) ?_ | refine jv_h0 ?_ | refine jv_hs ?_)) rfl (ct_X8_worst K o9 w9 hR hy ha ho ?_)
  refine jv_istore dX8_by_7 rfl (Nat.le_of_ble_eq_true rfl) ?_
  refine jv_iload dX8_by_9 rfl ?_
  refine jv_iconst dX8_by_11 ?_
  refine jv_icmp_ne 19 dX8_by_12 (fun c12 => ?_) (fun c12 => ?_)
  · refine jv_aload_n dX8_by_19 rfl ?_
    refine jv_getf dX8_by_20 jf_X8_13 (by repeat' (first | assumption | exact ⟨_, by assumption⟩ | refine jv_h1 (by omega) ?_ | refine jv_h0 ?_ | refine jv_hs ?_)) (by exact rfl) ?_
    refine jv_iload dX8_by_23 rfl ?_
    refine jv_iald dX8_by_25 (by repeat' (first | assumption | exact ⟨_, by assumption⟩ | refine jv_h1 (by omega) ?_ | refine jv_h0 ?_ | refine jv_hs ?_)) ?_
    exact jv_iret dX8_by_26 hq (by rw [jq_by, if_neg c12] at hp; exact hp)
  · refine jv_iconst dX8_by_15 ?_
    refine jv_goto 26 dX8_by_16 ?_
    exact jv_iret dX8_by_26 hq (by rw [jq_by, if_pos c12] at hp; exact hp)
end MR
end
section
/-! the reference's rain and outflow -/
section MR2
variable {h : List jv_E} {n : Nat} {lv cu si st at_ wr da ra wa : Int} {ys ms ds : Int → Int} {post : Option Value → List jv_E → Prop}
theorem ct_X8_rain {y mi de : Int} (K : Nat) (o : jw_O h n lv cu si st at_ wr da ra wa) (w : jw_MR h ys ms ds) (hR : jq_R n ys ms ds) (hy : jq_rg y) (hm : jq_rg mi) (hd : jq_rg de) (hp1 : jq_okR n ys ms ds y mi de → ∀ h', jw_O h' (n + 1) lv cu si st at_ wr da ra wa → jw_MR h' (jv_up ys n y) (jv_up ms n mi) (jv_up ds n de) → jv_fs [97, 98, 99, 100] h h' → post (some (.int (jv_i (jq_cnt ys y n + 1)))) h') (hp2 : ¬ jq_okR n ys ms ds y mi de → post (some (.int (jv_i (-1)))) h) : jv_Ct yX8_rain cX8_rain 7 (some .int) (K + 1) [.ref 97, .int (jv_i y), .int (jv_i mi), .int (jv_i de)] h post := by
  unfold jw_O at o
  obtain ⟨w1, w2, w3⟩ := w
  have hn := hR.1
  unfold jq_rg at hy hm hd
  unfold jq_okR jq_ok at hp1 hp2
  refine jv_entry (own := RX8) (by decide) rfl (Nat.le_of_ble_eq_true rfl) (fun X hq => ?_)
  have fin : n < 40 → (1 ≤ y ∧ y ≤ 1000) → (1 ≤ mi ∧ mi ≤ 10000) → (1 ≤ de ∧ de ≤ 100000) → jv_J X cX8_rain RX8 (K + 1) 89 [some (.ref 97), some (.int (jv_i y)), some (.int (jv_i mi)), some (.int (jv_i de)), some (.int (jv_i (jq_cnt ys y n))), some (.int (jv_i (jq_lst ys y n))), some (.int (jv_i n))] [] h := by
    intro hn4 g1 g2 g3
    have r1 := jq_lst_in ys y n
    have r2 := jq_cnt_in ys y n
    generalize jq_lst ys y n = la at *
    generalize jq_cnt ys y n = ct at *
    have tail : (la = -1 ∨ (ms la < mi ∧ ds la < de ∧ de * ms la ≤ ds la * mi)) → jv_J X cX8_rain RX8 (K + 1) 144 [some (.ref 97), some (.int (jv_i y)), some (.int (jv_i mi)), some (.int (jv_i de)), some (.int (jv_i ct)), some (.int (jv_i la)), some (.int (jv_i n))] [] h := by
      intro hok
      refine jv_aload_n dX8_rain_144 rfl ?_
      refine jv_getf dX8_rain_145 jf_X8_7 (by repeat' (first | assumption | exact ⟨_, by assumption⟩ | refine jv_h1 (by omega) ?_ | refine jv_h0 ?_ | refine jv_hs ?_)) (by exact rfl) ?_
      refine jv_aload_n dX8_rain_148 rfl ?_
      refine jv_getf dX8_rain_149 jf_X8_72 (by repeat' (first | assumption | exact ⟨_, by assumption⟩ | refine jv_h1 (by omega) ?_ | refine jv_h0 ?_ | refine jv_hs ?_)) (by exact rfl) ?_
      refine jv_iload_n dX8_rain_152 rfl ?_
      refine jv_iast dX8_rain_153 (by repeat' (first | assumption | exact ⟨_, by assumption⟩ | refine jv_h1 (by omega) ?_ | refine jv_h0 ?_ | refine jv_hs ?_)) ?_
      refine jv_aload_n dX8_rain_154 rfl ?_
      refine jv_getf dX8_rain_155 jf_X8_13 (by repeat' (first | assumption | exact ⟨_, by assumption⟩ | refine jv_h1 (by omega) ?_ | refine jv_h0 ?_ | refine jv_hs ?_)) (by exact rfl) ?_
      refine jv_aload_n dX8_rain_158 rfl ?_
      refine jv_getf dX8_rain_159 jf_X8_72 (by repeat' (first | assumption | exact ⟨_, by assumption⟩ | refine jv_h1 (by omega) ?_ | refine jv_h0 ?_ | refine jv_hs ?_)) (by exact rfl) ?_
      refine jv_iload_n dX8_rain_162 rfl ?_
      refine jv_iast dX8_rain_163 (by repeat' (first | assumption | exact ⟨_, by assumption⟩ | refine jv_h1 (by omega) ?_ | refine jv_h0 ?_ | refine jv_hs ?_)) ?_
      refine jv_aload_n dX8_rain_164 rfl ?_
      refine jv_getf dX8_rain_165 jf_X8_16 (by repeat' (first | assumption | exact ⟨_, by assumption⟩ | refine jv_h1 (by omega) ?_ | refine jv_h0 ?_ | refine jv_hs ?_)) (by exact rfl) ?_
      refine jv_aload_n dX8_rain_168 rfl ?_
      refine jv_getf dX8_rain_169 jf_X8_72 (by repeat' (first | assumption | exact ⟨_, by assumption⟩ | refine jv_h1 (by omega) ?_ | refine jv_h0 ?_ | refine jv_hs ?_)) (by exact rfl) ?_
      refine jv_iload_n dX8_rain_172 rfl ?_
      refine jv_iast dX8_rain_173 (by repeat' (first | assumption | exact ⟨_, by assumption⟩ | refine jv_h1 (by omega) ?_ | refine jv_h0 ?_ | refine jv_hs ?_)) ?_
      refine jv_aload_n dX8_rain_174 rfl ?_
      refine jv_dup dX8_rain_175 rfl ?_
      refine jv_getf dX8_rain_176 jf_X8_72 (by repeat' (first | assumption | exact ⟨_, by assumption⟩ | refine jv_h1 (by omega) ?_ | refine jv_h0 ?_ | refine jv_hs ?_)) (by exact rfl) ?_
      refine jv_iconst dX8_rain_179 ?_
      refine jv_iadd dX8_rain_180 ?_
      refine jv_putf dX8_rain_181 jp_X8_72 (by repeat' (first | assumption | exact ⟨_, by assumption⟩ | refine jv_h1 (by omega) ?_ | refine jv_h0 ?_ | refine jv_hs ?_)) (by exact Nat.le_of_ble_eq_true rfl) ?_
      refine jv_iload dX8_rain_184 rfl ?_
      refine jv_iconst dX8_rain_186 ?_
      refine jv_iadd dX8_rain_187 ?_
      exact jv_iret dX8_rain_188 hq (hp1 ⟨g1, g2, g3, hn4, hok⟩ _ (by repeat' (first | assumption | exact ⟨_, by assumption⟩ | refine jv_h1 (by omega) ?_ | refine jv_h0 ?_ | refine jv_hs ?_)) ⟨(by repeat' (first | assumption | exact ⟨_, by assumption⟩ | refine jv_h1 (by omega) ?_ | refine jv_h0 ?_ | refine jv_hs ?_)), (by repeat' (first | assumption | exact ⟨_, by assumption⟩ | refine jv_h1 (by omega) ?_ | refine jv_h0 ?_ | refine jv_hs ?_)), (by repeat' (first | assumption | exact ⟨_, by assumption⟩ | refine jv_h1 (by omega) ?_ | refine jv_h0 ?_ | refine jv_hs ?_))⟩ (jv_fs_set (by decide) (jv_fs_set (by decide) (jv_fs_set (by decide) (jv_fs_set (by decide) jv_fs_rf))))) (by first | rfl | decide)
    have s1 := (hR.2 la).2.1
    have s2 := (hR.2 la).2.2
    have m1 := jq_mul (a := de) (b := ms la) (A := 100000) (B := 10000) (by omega) s1
    have m2 := jq_mul (a := ds la) (b := mi) (A := 100000) (B := 10000) s2 (by omega)
    generalize e1 : de * ms la = u1 at *
    generalize e2 : ds la * mi = u2 at *
    refine jv_iload dX8_rain_89 rfl ?_
    refine jv_if_lt 144 dX8_rain_91 (fun c91 => ?_) (fun c91 => ?_)
    · exact tail (by omega)
    · refine jv_iload_n dX8_rain_94 rfl ?_
      refine jv_aload_n dX8_rain_95 rfl ?_
      refine jv_getf dX8_rain_96 jf_X8_13 (by repeat' (first | assumption | exact ⟨_, by assumption⟩ | refine jv_h1 (by omega) ?_ | refine jv_h0 ?_ | refine jv_hs ?_)) (by exact rfl) ?_
      refine jv_iload dX8_rain_99 rfl ?_
      refine jv_iald dX8_rain_101 (by repeat' (first | assumption | exact ⟨_, by assumption⟩ | refine jv_h1 (by omega) ?_ | refine jv_h0 ?_ | refine jv_hs ?_)) ?_
      refine jv_icmp_le 142 dX8_rain_102 (fun c102 => ?_) (fun c102 => ?_)
      · refine jv_iconst dX8_rain_142 ?_
        exact jv_iret dX8_rain_143 hq (hp2 (fun z => by have := z.2.2.2.2; omega))
      · refine jv_iload_n dX8_rain_105 rfl ?_
        refine jv_aload_n dX8_rain_106 rfl ?_
        refine jv_getf dX8_rain_107 jf_X8_16 (by repeat' (first | assumption | exact ⟨_, by assumption⟩ | refine jv_h1 (by omega) ?_ | refine jv_h0 ?_ | refine jv_hs ?_)) (by exact rfl) ?_
        refine jv_iload dX8_rain_110 rfl ?_
        refine jv_iald dX8_rain_112 (by repeat' (first | assumption | exact ⟨_, by assumption⟩ | refine jv_h1 (by omega) ?_ | refine jv_h0 ?_ | refine jv_hs ?_)) ?_
        refine jv_icmp_le 142 dX8_rain_113 (fun c113 => ?_) (fun c113 => ?_)
        · refine jv_iconst dX8_rain_142 ?_
          exact jv_iret dX8_rain_143 hq (hp2 (fun z => by have := z.2.2.2.2; omega))
        · refine jv_iload_n dX8_rain_116 rfl ?_
          refine jv_i2l dX8_rain_117 ?_
          refine jv_aload_n dX8_rain_118 rfl ?_
          refine jv_getf dX8_rain_119 jf_X8_13 (by repeat' (first | assumption | exact ⟨_, by assumption⟩ | refine jv_h1 (by omega) ?_ | refine jv_h0 ?_ | refine jv_hs ?_)) (by exact rfl) ?_
          refine jv_iload dX8_rain_122 rfl ?_
          refine jv_iald dX8_rain_124 (by repeat' (first | assumption | exact ⟨_, by assumption⟩ | refine jv_h1 (by omega) ?_ | refine jv_h0 ?_ | refine jv_hs ?_)) ?_
          refine jv_i2l dX8_rain_125 ?_
          refine jv_lmul dX8_rain_126 ?_
          refine jv_aload_n dX8_rain_127 rfl ?_
          refine jv_getf dX8_rain_128 jf_X8_16 (by repeat' (first | assumption | exact ⟨_, by assumption⟩ | refine jv_h1 (by omega) ?_ | refine jv_h0 ?_ | refine jv_hs ?_)) (by exact rfl) ?_
          refine jv_iload dX8_rain_131 rfl ?_
          refine jv_iald dX8_rain_133 (by repeat' (first | assumption | exact ⟨_, by assumption⟩ | refine jv_h1 (by omega) ?_ | refine jv_h0 ?_ | refine jv_hs ?_)) ?_
          refine jv_i2l dX8_rain_134 ?_
          refine jv_iload_n dX8_rain_135 rfl ?_
          refine jv_i2l dX8_rain_136 ?_
          refine jv_lmul dX8_rain_137 ?_
          rw [e1, e2]
          refine jv_lcmp_le 144 dX8_rain_138 dX8_rain_139 (fun c138 => ?_) (fun c138 => ?_)
          · exact tail (by omega)
          · refine jv_iconst dX8_rain_142 ?_
            exact jv_iret dX8_rain_143 hq (hp2 (fun z => by have := z.2.2.2.2; omega))
  have step : ∀ (i : Nat) (a b : Int), n < 40 → (1 ≤ y ∧ y ≤ 1000) → i ≤ n → (0 ≤ a ∧ a ≤ i) → (-1 ≤ b ∧ b < i) → (i = n → jv_J X cX8_rain RX8 (K + 1) 89 [some (.ref 97), some (.int (jv_i y)), some (.int (jv_i mi)), some (.int (jv_i de)), some (.int (jv_i a)), some (.int (jv_i b)), some (.int (jv_i i))] [] h) → (∀ a' b', i < n → a' = (if ys i = y then a + 1 else a) → b' = (if ys i = y then (i : Int) else b) → jv_J X cX8_rain RX8 (K + 1) 56 [some (.ref 97), some (.int (jv_i y)), some (.int (jv_i mi)), some (.int (jv_i de)), some (.int (jv_i a')), some (.int (jv_i b')), some (.int (jv_i (i + 1)))] [] h) → jv_J X cX8_rain RX8 (K + 1) 56 [some (.ref 97), some (.int (jv_i y)), some (.int (jv_i mi)), some (.int (jv_i de)), some (.int (jv_i a)), some (.int (jv_i b)), some (.int (jv_i i))] [] h := by
    intro i a b hn4 g1 hi ha hb p1 p2
    have r1 := (hR.2 i).1
    refine jv_iload dX8_rain_56 rfl ?_
    refine jv_aload_n dX8_rain_58 rfl ?_
    refine jv_getf dX8_rain_59 jf_X8_72 (by repeat' (first | assumption | exact ⟨_, by assumption⟩ | refine jv_h1 (by omega) ?_ | refine jv_h0 ?_ | refine jv_hs ?_)) (by exact rfl) ?_
    refine jv_icmp_ge 89 dX8_rain_62 (fun c62 => ?_) (fun c62 => ?_)
    · exact p1 (by omega)
    · refine jv_aload_n dX8_rain_65 rfl ?_
      refine jv_getf dX8_rain_66 jf_X8_7 (by repeat' (first | assumption | exact ⟨_, by assumption⟩ | refine jv_h1 (by omega) ?_ | refine jv_h0 ?_ | refine jv_hs ?_)) (by exact rfl) ?_
      refine jv_iload dX8_rain_69 rfl ?_
      refine jv_iald dX8_rain_71 (by repeat' (first | assumption | exact ⟨_, by assumption⟩ | refine jv_h1 (by omega) ?_ | refine jv_h0 ?_ | refine jv_hs ?_)) ?_
      refine jv_iload_n dX8_rain_72 rfl ?_
      refine jv_icmp_ne 83 dX8_rain_73 (fun c73 => ?_) (fun c73 => ?_)
      · refine jv_iinc dX8_rain_83 rfl rfl ?_
        refine jv_goto 56 dX8_rain_86 ?_
        exact p2 _ _ (by omega) (by rw [if_neg c73]) (by rw [if_neg c73])
      · refine jv_iinc dX8_rain_76 rfl rfl ?_
        refine jv_iload dX8_rain_79 rfl ?_
        refine jv_istore dX8_rain_81 rfl (Nat.le_of_ble_eq_true rfl) ?_
        refine jv_iinc dX8_rain_83 rfl rfl ?_
        refine jv_goto 56 dX8_rain_86 ?_
        exact p2 _ _ (by omega) (by rw [if_pos c73]) (by rw [if_pos c73])
  have loop : ∀ (k i : Nat) (a b : Int), n < 40 → (1 ≤ y ∧ y ≤ 1000) → (1 ≤ mi ∧ mi ≤ 10000) → (1 ≤ de ∧ de ≤ 100000) → i + k = n → a = jq_cnt ys y i → b = jq_lst ys y i → jv_J X cX8_rain RX8 (K + 1) 56 [some (.ref 97), some (.int (jv_i y)), some (.int (jv_i mi)), some (.int (jv_i de)), some (.int (jv_i a)), some (.int (jv_i b)), some (.int (jv_i i))] [] h := by
    intro k
    induction k with
    | zero =>
      intro i a b hn4 g1 g2 g3 e ea eb
      have r1 := jq_lst_in ys y i
      have r2 := jq_cnt_in ys y i
      refine step i a b hn4 g1 (by omega) (by omega) (by omega) (fun q => ?_) (fun a' b' q => by omega)
      rw [ea, eb, q]
      exact fin hn4 g1 g2 g3
    | succ k ih =>
      intro i a b hn4 g1 g2 g3 e ea eb
      have r1 := jq_lst_in ys y i
      have r2 := jq_cnt_in ys y i
      refine step i a b hn4 g1 (by omega) (by omega) (by omega) (fun q => by omega) (fun a' b' q e1 e2 => ?_)
      exact ih (i + 1) a' b' hn4 g1 g2 g3 (by omega) (by rw [e1, jq_cnt, ← ea]) (by rw [e2, jq_lst, ← eb])
  refine jv_iload_n dX8_rain_0 rfl ?_
  refine jv_i2l dX8_rain_1 ?_
  refine jv_lconst 1 dX8_rain_2 ?_
  refine jv_ldc2 dX8_rain_3 jk_X8_62 ?_
  refine jv_cS dX8_rain_6 jm_X8_64 (ct_X8_in K (fun r1 q11 q12 q13 => ?_))
  refine jv_if_eq 45 dX8_rain_9 (fun c9 => ?_) (fun c9 => ?_)
  · refine jv_iconst dX8_rain_45 ?_
    exact jv_iret dX8_rain_46 hq (hp2 (fun z => by have z1 := z.1; have z2 := z.2.1; have z3 := z.2.2.1; have z4 := z.2.2.2.1; omega))
  · refine jv_iload_n dX8_rain_12 rfl ?_
    refine jv_i2l dX8_rain_13 ?_
    refine jv_lconst 1 dX8_rain_14 ?_
    refine jv_ldc2 dX8_rain_15 jk_X8_68 ?_
    refine jv_cS dX8_rain_18 jm_X8_64 (ct_X8_in K (fun r2 q21 q22 q23 => ?_))
    refine jv_if_eq 45 dX8_rain_21 (fun c21 => ?_) (fun c21 => ?_)
    · refine jv_iconst dX8_rain_45 ?_
      exact jv_iret dX8_rain_46 hq (hp2 (fun z => by have z1 := z.1; have z2 := z.2.1; have z3 := z.2.2.1; have z4 := z.2.2.2.1; omega))
    · refine jv_iload_n dX8_rain_24 rfl ?_
      refine jv_i2l dX8_rain_25 ?_
      refine jv_lconst 1 dX8_rain_26 ?_
      refine jv_ldc2 dX8_rain_27 jk_X8_70 ?_
      refine jv_cS dX8_rain_30 jm_X8_64 (ct_X8_in K (fun r3 q31 q32 q33 => ?_))
      refine jv_if_eq 45 dX8_rain_33 (fun c33 => ?_) (fun c33 => ?_)
      · refine jv_iconst dX8_rain_45 ?_
        exact jv_iret dX8_rain_46 hq (hp2 (fun z => by have z1 := z.1; have z2 := z.2.1; have z3 := z.2.2.1; have z4 := z.2.2.2.1; omega))
      · refine jv_aload_n dX8_rain_36 rfl ?_
        refine jv_getf dX8_rain_37 jf_X8_72 (by repeat' (first | assumption | exact ⟨_, by assumption⟩ | refine jv_h1 (by omega) ?_ | refine jv_h0 ?_ | refine jv_hs ?_)) (by exact rfl) ?_
        refine jv_bipush dX8_rain_40 ?_
        refine jv_icmp_ne 47 dX8_rain_42 (fun c42 => ?_) (fun c42 => ?_)
        · refine jv_iconst dX8_rain_47 ?_
          refine jv_istore dX8_rain_48 rfl (Nat.le_of_ble_eq_true rfl) ?_
          refine jv_iconst dX8_rain_50 ?_
          refine jv_istore dX8_rain_51 rfl (Nat.le_of_ble_eq_true rfl) ?_
          refine jv_iconst dX8_rain_53 ?_
          refine jv_istore dX8_rain_54 rfl (Nat.le_of_ble_eq_true rfl) ?_
          exact loop n 0 0 (-1) (by omega) (by omega) (by omega) (by omega) (by omega) rfl rfl
        · refine jv_iconst dX8_rain_45 ?_
          exact jv_iret dX8_rain_46 hq (hp2 (fun z => by have z1 := z.1; have z2 := z.2.1; have z3 := z.2.2.1; have z4 := z.2.2.2.1; omega))
theorem ct_X8_outflow {y ar ro : Int} (K : Nat) (o : jw_O h n lv cu si st at_ wr da ra wa) (w : jw_MR h ys ms ds) (hR : jq_R n ys ms ds) (hpos : ∀ i : Int, 0 ≤ i → i < n → 1 ≤ ms i) (hy : jq_rg y) (ha : jq_rg ar) (hr : -9223372036854775808 ≤ ro ∧ ro ≤ 9223372036854775807) (hp : post (some (.int (jv_i (jq_out n ys ms ds y ar ro)))) h) : jv_Ct yX8_outflow cX8_outflow 14 (some .int) (K + 2) [.ref 97, .int (jv_i y), .int (jv_i ar), .long (jv_l ro)] h post := by
  have o9 := o
  have w9 := w
  unfold jw_O at o
  obtain ⟨w1, w2, w3⟩ := w
  have hn := hR.1
  have e0 : ∀ i, jq_nd ms ds ar 0 i = jq_cm ds ar i := fun i => by simp [jq_nd]
  have r9 := jq_wst_in (n := n) (ys := ys) (ms := ms) (ds := ds) (y := y) (ar := ar) (ou := 0)
  have bad : jq_wst n ys ms ds y ar 0 = -1 ∨ ¬ (0 ≤ ro ∧ ro ≤ 1125899906842624) → jq_out n ys ms ds y ar ro = -1 := by
    intro q
    unfold jq_out
    rw [if_neg]
    rintro ⟨q1, q2, q3⟩
    rcases q with q | q
    · rw [jq_wst, if_pos ⟨q1, by omega⟩] at q
      have := (jq_lo_eq (jq_lf_in hR q1 q2.1) n).1 q
      omega
    · exact q q2
  have good : (0 ≤ ar ∧ ar ≤ 1000000) → jq_wst n ys ms ds y ar 0 ≠ -1 → (0 ≤ ro ∧ ro ≤ 1125899906842624) → jq_out n ys ms ds y ar ro = (if jq_lo0 ys (jq_lf ms ds ar ro) y n ≤ 100000 then jq_lo0 ys (jq_lf ms ds ar ro) y n else -1) := by
    intro q1 q2 q3
    rw [jq_wst, if_pos ⟨q1, by omega⟩] at q2
    have z1 := (jq_lo_eq (jq_lf_in hR q1 q3.1) n).2 q2
    have z2 := jq_lo0_in (ys := ys) (y := y) (jq_lf_in hR q1 q3.1) n
    unfold jq_out
    rw [z1]
    by_cases q4 : jq_lo0 ys (jq_lf ms ds ar ro) y n ≤ 100000
    · rw [if_pos ⟨q1, q3, z2.1, q4⟩, if_pos q4]
    · rw [if_neg (fun z => q4 z.2.2.2), if_neg q4]
  unfold jq_rg at hy ha
  refine jv_entry (own := RX8) (by decide) rfl (Nat.le_of_ble_eq_true rfl) (fun X hq => ?_)
  have step : ∀ (i : Nat) (b : Int), (0 ≤ ar ∧ ar ≤ 1000000) → (0 ≤ ro ∧ ro ≤ 1125899906842624) → i ≤ n → (0 ≤ b ∧ b ≤ 20000000000) → (i = n → post (some (.int (jv_i (if b ≤ 100000 then b else -1)))) h) → (∀ b', i < n → b' = (if ys i = y then max b (jq_lf ms ds ar ro i) else b) → jv_J X cX8_outflow RX8 (K + 2) 30 [some (.ref 97), some (.int (jv_i y)), some (.int (jv_i ar)), some (.long (jv_l ro)), none, some (.long (jv_l b')), none, some (.int (jv_i (i + 1))), none, none, none, none, none, none] [] h) → jv_J X cX8_outflow RX8 (K + 2) 30 [some (.ref 97), some (.int (jv_i y)), some (.int (jv_i ar)), some (.long (jv_l ro)), none, some (.long (jv_l b)), none, some (.int (jv_i i)), none, none, none, none, none, none] [] h := by
    intro i b ha hr hi hb p1 p2
    have r1 := (hR.2 i).1
    have r2 := jq_cm_in hR ha i
    have r3 := jq_lf_in hR ha hr.1 i
    have r4 := (hR.2 i).2.1
    refine jv_iload dX8_outflow_30 rfl ?_
    refine jv_aload_n dX8_outflow_32 rfl ?_
    refine jv_getf dX8_outflow_33 jf_X8_72 (by repeat' (first | assumption | exact ⟨_, by assumption⟩ | refine jv_h1 (by omega) ?_ | refine jv_h0 ?_ | refine jv_hs ?_)) (by exact rfl) ?_
    refine jv_icmp_ge 122 dX8_outflow_36 (fun c36 => ?_) (fun c36 => ?_)
    · refine jv_lload dX8_outflow_122 rfl ?_
      refine jv_ldc2 dX8_outflow_124 jk_X8_70 ?_
      refine jv_lcmp_le 135 dX8_outflow_127 dX8_outflow_128 (fun c127 => ?_) (fun c127 => ?_)
      · refine jv_lload dX8_outflow_135 rfl ?_
        refine jv_l2i dX8_outflow_137 ?_
        exact jv_iret dX8_outflow_138 hq (by have := p1 (by omega); rw [if_pos c127] at this; exact this)
      · refine jv_iconst dX8_outflow_131 ?_
        refine jv_goto 138 dX8_outflow_132 ?_
        exact jv_iret dX8_outflow_138 hq (by have := p1 (by omega); rw [if_neg (by omega)] at this; exact this)
    · have r5 := hpos i (by omega) (by omega)
      unfold jq_lf at p2 r3
      refine jv_aload_n dX8_outflow_39 rfl ?_
      refine jv_getf dX8_outflow_40 jf_X8_7 (by repeat' (first | assumption | exact ⟨_, by assumption⟩ | refine jv_h1 (by omega) ?_ | refine jv_h0 ?_ | refine jv_hs ?_)) (by exact rfl) ?_
      refine jv_iload dX8_outflow_43 rfl ?_
      refine jv_iald dX8_outflow_45 (by repeat' (first | assumption | exact ⟨_, by assumption⟩ | refine jv_h1 (by omega) ?_ | refine jv_h0 ?_ | refine jv_hs ?_)) ?_
      refine jv_iload_n dX8_outflow_46 rfl ?_
      refine jv_icmp_ne 116 dX8_outflow_47 (fun c47 => ?_) (fun c47 => ?_)
      · refine jv_iinc dX8_outflow_116 rfl rfl ?_
        refine jv_goto 30 dX8_outflow_119 ?_
        exact p2 _ (by omega) (by rw [if_neg c47])
      · refine jv_aload_n dX8_outflow_50 rfl ?_
        refine jv_iload dX8_outflow_51 rfl ?_
        refine jv_iload_n dX8_outflow_53 rfl ?_
        refine jv_iconst dX8_outflow_54 ?_
        refine jv_cV dX8_outflow_55 jm_X8_78 rfl (by repeat' (first | assumption | exact ⟨_, by assumption⟩ | refine jv_h1 (by omega) ?_ | refine jv_h0 ?_ | refine jv_hs ?_)) rfl (ct_X8_need (i := i) (K + 1) o9 w9 hR (by omega) ha (by omega) ?_)
        rw [e0]
        refine jv_lload_n dX8_outflow_58 rfl ?_
        refine jv_lsub dX8_outflow_59 ?_
        refine jv_lstore dX8_outflow_60 rfl (Nat.le_of_ble_eq_true rfl) ?_
        refine jv_ldc2 dX8_outflow_62 jk_X8_84 ?_
        refine jv_aload_n dX8_outflow_65 rfl ?_
        refine jv_getf dX8_outflow_66 jf_X8_13 (by repeat' (first | assumption | exact ⟨_, by assumption⟩ | refine jv_h1 (by omega) ?_ | refine jv_h0 ?_ | refine jv_hs ?_)) (by exact rfl) ?_
        refine jv_iload dX8_outflow_69 rfl ?_
        refine jv_iald dX8_outflow_71 (by repeat' (first | assumption | exact ⟨_, by assumption⟩ | refine jv_h1 (by omega) ?_ | refine jv_h0 ?_ | refine jv_hs ?_)) ?_
        refine jv_i2l dX8_outflow_72 ?_
        refine jv_lmul dX8_outflow_73 ?_
        refine jv_lstore dX8_outflow_74 rfl (Nat.le_of_ble_eq_true rfl) ?_
        refine jv_lload dX8_outflow_76 rfl ?_
        refine jv_lconst 0 dX8_outflow_78 ?_
        refine jv_lcmp_gt 87 dX8_outflow_79 dX8_outflow_80 (fun c79 => ?_) (fun c79 => ?_)
        · refine jv_lload dX8_outflow_87 rfl ?_
          refine jv_lload dX8_outflow_89 rfl ?_
          refine jv_ladd dX8_outflow_91 ?_
          refine jv_lconst 1 dX8_outflow_92 ?_
          refine jv_lsub dX8_outflow_93 ?_
          refine jv_lload dX8_outflow_94 rfl ?_
          refine jv_ldiv dX8_outflow_96 ?_
          refine jv_lstore dX8_outflow_97 rfl (Nat.le_of_ble_eq_true rfl) ?_
          rw [if_pos c47] at p2
          rw [if_neg (by omega)] at p2 r3
          generalize (jq_cm ds ar i - ro + 60 * ms i - 1) / (60 * ms i) = fl at *
          refine jv_lload dX8_outflow_99 rfl ?_
          refine jv_lload dX8_outflow_101 rfl ?_
          refine jv_lcmp_le 112 dX8_outflow_103 dX8_outflow_104 (fun c103 => ?_) (fun c103 => ?_)
          · refine jv_lload dX8_outflow_112 rfl ?_
            refine jv_lstore dX8_outflow_114 rfl (Nat.le_of_ble_eq_true rfl) ?_
            refine jv_iinc dX8_outflow_116 rfl rfl ?_
            refine jv_goto 30 dX8_outflow_119 ?_
            exact jv_les (by repeat' (first | exact True.intro | exact rfl | apply And.intro)) (p2 _ (by omega) (by omega))
          · refine jv_lload dX8_outflow_107 rfl ?_
            refine jv_goto 114 dX8_outflow_109 ?_
            refine jv_lstore dX8_outflow_114 rfl (Nat.le_of_ble_eq_true rfl) ?_
            refine jv_iinc dX8_outflow_116 rfl rfl ?_
            refine jv_goto 30 dX8_outflow_119 ?_
            exact jv_les (by repeat' (first | exact True.intro | exact rfl | apply And.intro)) (p2 _ (by omega) (by omega))
        · refine jv_lconst 0 dX8_outflow_83 ?_
          refine jv_goto 97 dX8_outflow_84 ?_
          refine jv_lstore dX8_outflow_97 rfl (Nat.le_of_ble_eq_true rfl) ?_
          rw [if_pos c47] at p2
          rw [if_pos (by omega)] at p2 r3
          refine jv_lload dX8_outflow_99 rfl ?_
          refine jv_lload dX8_outflow_101 rfl ?_
          refine jv_lcmp_le 112 dX8_outflow_103 dX8_outflow_104 (fun c103 => ?_) (fun c103 => ?_)
          · refine jv_lload dX8_outflow_112 rfl ?_
            refine jv_lstore dX8_outflow_114 rfl (Nat.le_of_ble_eq_true rfl) ?_
            refine jv_iinc dX8_outflow_116 rfl rfl ?_
            refine jv_goto 30 dX8_outflow_119 ?_
            exact jv_les (by repeat' (first | exact True.intro | exact rfl | apply And.intro)) (p2 _ (by omega) (by omega))
          · refine jv_lload dX8_outflow_107 rfl ?_
            refine jv_goto 114 dX8_outflow_109 ?_
            refine jv_lstore dX8_outflow_114 rfl (Nat.le_of_ble_eq_true rfl) ?_
            refine jv_iinc dX8_outflow_116 rfl rfl ?_
            refine jv_goto 30 dX8_outflow_119 ?_
            exact absurd c103 (by omega)
  have loop : ∀ (k i : Nat) (b : Int), (0 ≤ ar ∧ ar ≤ 1000000) → (0 ≤ ro ∧ ro ≤ 1125899906842624) → jq_wst n ys ms ds y ar 0 ≠ -1 → i + k = n → b = jq_lo0 ys (jq_lf ms ds ar ro) y i → jv_J X cX8_outflow RX8 (K + 2) 30 [some (.ref 97), some (.int (jv_i y)), some (.int (jv_i ar)), some (.long (jv_l ro)), none, some (.long (jv_l b)), none, some (.int (jv_i i)), none, none, none, none, none, none] [] h := by
    intro k
    induction k with
    | zero =>
      intro i b ha hr hw e eb
      have := jq_lo0_in (ys := ys) (y := y) (jq_lf_in hR ha hr.1) i
      refine step i b ha hr (by omega) (by omega) (fun q => ?_) (fun b' q => by omega)
      rw [eb, q, ← good ha hw hr]
      exact hp
    | succ k ih =>
      intro i b ha hr hw e eb
      have := jq_lo0_in (ys := ys) (y := y) (jq_lf_in hR ha hr.1) i
      refine step i b ha hr (by omega) (by omega) (fun q => by omega) (fun b' q e' => ?_)
      exact ih (i + 1) b' ha hr hw (by omega) (by rw [e', jq_lo0, ← eb])
  refine jv_aload_n dX8_outflow_0 rfl ?_
  refine jv_iload_n dX8_outflow_1 rfl ?_
  refine jv_iload_n dX8_outflow_2 rfl ?_
  refine jv_iconst dX8_outflow_3 ?_
  refine jv_cV dX8_outflow_4 jm_X8_86 rfl (by repeat' (first | assumption | exact ⟨_, by assumption⟩ | refine jv_h1 (by omega) ?_ | refine jv_h0 ?_ | refine jv_hs ?_)) rfl (ct_X8_worst K o9 w9 hR hy ha (by unfold jq_rg; omega) ?_)
  refine jv_iconst dX8_outflow_7 ?_
  refine jv_icmp_eq 22 dX8_outflow_8 (fun c8 => ?_) (fun c8 => ?_)
  · refine jv_iconst dX8_outflow_22 ?_
    exact jv_iret dX8_outflow_23 hq (by rw [bad (by omega)] at hp; exact hp)
  · refine jv_lload_n dX8_outflow_11 rfl ?_
    refine jv_lconst 0 dX8_outflow_12 ?_
    refine jv_ldc2 dX8_outflow_13 jk_X8_92 ?_
    refine jv_cS dX8_outflow_16 jm_X8_64 (ct_X8_in K (fun r1 q11 q12 q13 => ?_))
    refine jv_if_ne 24 dX8_outflow_19 (fun c19 => ?_) (fun c19 => ?_)
    · refine jv_lconst 0 dX8_outflow_24 ?_
      refine jv_lstore dX8_outflow_25 rfl (Nat.le_of_ble_eq_true rfl) ?_
      refine jv_iconst dX8_outflow_27 ?_
      refine jv_istore dX8_outflow_28 rfl (Nat.le_of_ble_eq_true rfl) ?_
      exact loop n 0 0 (by omega) (by omega) c8 (by omega) rfl
    · refine jv_iconst dX8_outflow_22 ?_
      exact jv_iret dX8_outflow_23 hq (by rw [bad (by omega)] at hp; exact hp)
end MR2
end
section
/-! THE POND: n levels lv, areas ar, contents co -/
def jw_P (h : List jv_E) (n : Nat) (lv ar co : Int → Int) : Prop := h[5]? = some (jv_ob 2 [.ref 6, .ref 7, .ref 8, .int (jv_i n)]) ∧ h[6]? = some (jv_ai 20 lv) ∧ h[7]? = some (jv_ai 20 ar) ∧ h[8]? = some (jv_al 20 co)
def jq_P (n : Nat) (lv ar co : Int → Int) : Prop := n ≤ 20 ∧ (∀ i, (-100000 ≤ lv i ∧ lv i ≤ 100000) ∧ (0 ≤ ar i ∧ ar i ≤ 1000000)) ∧ (∀ i : Int, 0 ≤ i → i + 1 < n → lv i < lv (i + 1) ∧ ar i ≤ ar (i + 1) ∧ co (i + 1) = co i + (ar i + ar (i + 1)) * (lv (i + 1) - lv i) * 5) ∧ (0 < n → co 0 = 0)
def jq_lu (lv : Int → Int) (mm : Int) : Nat → Int
  | 0 => 0
  | k + 1 => if 1 ≤ (k : Int) ∧ lv k ≤ mm then k else jq_lu lv mm k
theorem jq_lu_ch (lv : Int → Int) (mm : Int) : ∀ k : Nat, (0 ≤ jq_lu lv mm k ∧ (jq_lu lv mm k < k ∨ jq_lu lv mm k = 0)) ∧ (jq_lu lv mm k = 0 ∨ lv (jq_lu lv mm k) ≤ mm) ∧ ∀ j : Int, jq_lu lv mm k < j → j < k → mm < lv j
  | 0 => ⟨by simp [jq_lu], Or.inl rfl, fun j h1 h2 => by simp [jq_lu] at h1; omega⟩
  | k + 1 => by
    obtain ⟨h1, h2, h3⟩ := jq_lu_ch lv mm k
    rw [jq_lu]
    split
    · next q => exact ⟨by omega, Or.inr q.2, fun j z1 z2 => by omega⟩
    · next q =>
      refine ⟨by omega, h2, fun j z1 z2 => ?_⟩
      by_cases e : j = k
      · subst e
        by_cases e2 : 1 ≤ (k : Int)
        · have : ¬ lv k ≤ mm := fun z => q ⟨e2, z⟩
          omega
        · omega
      · exact h3 j z1 (by omega)
theorem jq_srt {n : Nat} {lv ar co : Int → Int} (hP : jq_P n lv ar co) : ∀ (m : Nat) (i : Int), 0 ≤ i → i + 1 + m < n → lv i < lv (i + 1 + m)
  | 0, i, h0, h1 => by
    have := (hP.2.2.1 i h0 (by omega)).1
    simpa using this
  | m + 1, i, h0, h1 => by
    have h2 := jq_srt hP m i h0 (by omega)
    have h3 := (hP.2.2.1 (i + 1 + m) (by omega) (by omega)).1
    have e : i + 1 + ((m + 1 : Nat) : Int) = i + 1 + m + 1 := by omega
    rw [e]
    omega
theorem jq_srt2 {n : Nat} {lv ar co : Int → Int} (hP : jq_P n lv ar co) {i j : Int} (h0 : 0 ≤ i) (h1 : i < j) (h2 : j < n) : lv i < lv j := by
  have := jq_srt hP (j - i - 1).toNat i h0 (by omega)
  rwa [show i + 1 + ((j - i - 1).toNat : Int) = j by omega] at this
theorem jq_lu_un {n : Nat} {lv ar co : Int → Int} (hP : jq_P n lv ar co) {mm k : Int} (h0 : 0 ≤ k ∧ k < n) (h1 : k = 0 ∨ lv k ≤ mm) (h2 : k + 1 < n → mm < lv (k + 1)) : jq_lu lv mm n = k := by
  obtain ⟨g1, g2, g3⟩ := jq_lu_ch lv mm n
  rcases Int.lt_trichotomy (jq_lu lv mm n) k with q | q | q
  · have := g3 k q h0.2
    omega
  · exact q
  · have z1 := h2 (by omega)
    rcases g2 with z | z
    · omega
    · by_cases e : jq_lu lv mm n = k + 1
      · rw [e] at z; omega
      · have := jq_srt2 hP (i := k + 1) (j := jq_lu lv mm n) (by omega) (by omega) (by omega)
        omega
theorem jq_q {D m d : Int} (hD : 0 ≤ D) (hm : 0 ≤ m) (hd : m ≤ d) (h0 : 0 < d) : 0 ≤ D * m / d ∧ D * m / d ≤ D := ⟨Int.ediv_nonneg (Int.mul_nonneg hD hm) (by omega), Int.ediv_le_of_le_mul h0 (Int.mul_le_mul_of_nonneg_left hd hD)⟩
def jq_aa (n : Nat) (lv ar : Int → Int) (mm : Int) : Int := if n ≤ jq_lu lv mm n + 1 then ar (jq_lu lv mm n) else ar (jq_lu lv mm n) + (ar (jq_lu lv mm n + 1) - ar (jq_lu lv mm n)) * (mm - lv (jq_lu lv mm n)) / (lv (jq_lu lv mm n + 1) - lv (jq_lu lv mm n))
def jq_cc (n : Nat) (lv ar co : Int → Int) (mm : Int) : Int := co (jq_lu lv mm n) + (ar (jq_lu lv mm n) + jq_aa n lv ar mm) * (mm - lv (jq_lu lv mm n)) * 5
def jq_re (n : Nat) (lv : Int → Int) (mm : Int) : Prop := 1 ≤ n ∧ lv 0 ≤ mm ∧ mm ≤ lv (n - 1)
/-- where a level lies -/
theorem jq_lu_at {n : Nat} {lv ar co : Int → Int} (hP : jq_P n lv ar co) {mm : Int} (hr : jq_re n lv mm) : (0 ≤ jq_lu lv mm n ∧ jq_lu lv mm n < n) ∧ lv (jq_lu lv mm n) ≤ mm ∧ (jq_lu lv mm n + 1 < n → mm < lv (jq_lu lv mm n + 1)) := by
  obtain ⟨g1, g2, g3⟩ := jq_lu_ch lv mm n
  obtain ⟨r1, r2, r3⟩ := hr
  refine ⟨by omega, ?_, fun q => g3 _ (by omega) q⟩
  rcases g2 with z | z
  · rw [z]; exact r2
  · exact z
theorem jq_aa_in {n : Nat} {lv ar co : Int → Int} (hP : jq_P n lv ar co) {mm : Int} (hr : jq_re n lv mm) : 0 ≤ jq_aa n lv ar mm ∧ jq_aa n lv ar mm ≤ 1000000 := by
  obtain ⟨g1, g2, g3⟩ := jq_lu_at hP hr
  have a1 := (hP.2.1 (jq_lu lv mm n)).2
  have a2 := (hP.2.1 (jq_lu lv mm n + 1)).2
  unfold jq_aa
  split
  · exact a1
  · have b1 := hP.2.2.1 (jq_lu lv mm n) g1.1 (by omega)
    have b2 := jq_q (D := ar (jq_lu lv mm n + 1) - ar (jq_lu lv mm n)) (m := mm - lv (jq_lu lv mm n)) (d := lv (jq_lu lv mm n + 1) - lv (jq_lu lv mm n)) (by omega) (by omega) (by have := g3 (by omega); omega) (by omega)
    omega
theorem jq_bt {a b d : Int} (ha : 0 ≤ a ∧ a ≤ 1000000) (hb : 0 ≤ b ∧ b ≤ 1000000) (hd : 0 ≤ d ∧ d ≤ 200000) : 0 ≤ (a + b) * d * 5 ∧ (a + b) * d * 5 ≤ 2000000000000 := by
  have := jq_mul (a := a + b) (b := d) (A := 2000000) (B := 200000) (by omega) hd
  omega
theorem jq_co_in {n : Nat} {lv ar co : Int → Int} (hP : jq_P n lv ar co) : ∀ i : Nat, i < n → 0 ≤ co i ∧ co i ≤ i * 2000000000000
  | 0, h => by
    have := hP.2.2.2 h
    simp [this]
  | i + 1, h => by
    have h1 := jq_co_in hP i (by omega)
    obtain ⟨h2, h3, h4⟩ := hP.2.2.1 i (by omega) (by omega)
    have h5 := hP.2.1 i
    have h6 := hP.2.1 (i + 1)
    have h7 := jq_bt (a := ar i) (b := ar (i + 1)) (d := lv (i + 1) - lv i) h5.2 h6.2 (by omega)
    rw [show ((i + 1 : Nat) : Int) = (i : Int) + 1 by omega, h4]
    omega
theorem jq_cc_in {n : Nat} {lv ar co : Int → Int} (hP : jq_P n lv ar co) {mm : Int} (hr : jq_re n lv mm) : 0 ≤ jq_cc n lv ar co mm ∧ jq_cc n lv ar co mm ≤ 42000000000000 := by
  obtain ⟨g1, g2, g3⟩ := jq_lu_at hP hr
  have a1 := hP.2.1 (jq_lu lv mm n)
  have a2 := jq_aa_in hP hr
  have a3 := hP.2.1 (n - 1)
  have a4 := hP.2.1 0
  have a5 := hP.1
  have h1 := jq_co_in hP (jq_lu lv mm n).toNat (by omega)
  rw [show ((jq_lu lv mm n).toNat : Int) = jq_lu lv mm n by omega] at h1
  have h7 := jq_bt (a := ar (jq_lu lv mm n)) (b := jq_aa n lv ar mm) (d := mm - lv (jq_lu lv mm n)) a1.2 a2 (by have := hr.2.1; have := hr.2.2; omega)
  unfold jq_cc
  omega
def jq_bs (g : Int → Int) (w : Int) : Nat → Int → Int → Int
  | 0, a, _ => a
  | k + 1, a, b => if a < b then (if g (a + (b - a + 1) / 2) ≤ w then jq_bs g w k (a + (b - a + 1) / 2) b else jq_bs g w k a (a + (b - a + 1) / 2 - 1)) else a
def jq_fil (n : Nat) (lv ar co : Int → Int) (w : Int) : Int := if n = 0 ∨ ¬ (0 ≤ w ∧ w ≤ co (n - 1)) then -1000000 else jq_bs (jq_cc n lv ar co) w 20 (lv 0) (lv (n - 1))
def jq_okP (n : Nat) (lv ar : Int → Int) (mm a : Int) : Prop := (-100000 ≤ mm ∧ mm ≤ 100000) ∧ (0 ≤ a ∧ a ≤ 1000000) ∧ n < 20 ∧ (n = 0 ∨ (lv (n - 1) < mm ∧ ar (n - 1) ≤ a))
def jq_nc (n : Nat) (lv ar co : Int → Int) (mm a : Int) : Int := if n = 0 then 0 else co (n - 1) + (ar (n - 1) + a) * (mm - lv (n - 1)) * 5
section PN
variable {h : List jv_E} {n : Nat} {lv ar co : Int → Int} {post : Option Value → List jv_E → Prop}
theorem ct_X2_size (K : Nat) (w : jw_P h n lv ar co) (hp : post (some (.int (jv_i n))) h) : jv_Ct yX2_size cX2_size 1 (some .int) K [.ref 5] h post := by
  obtain ⟨w1, w2, w3, w4⟩ := w
  refine jv_entry (own := RX2) (by decide) rfl (Nat.le_of_ble_eq_true rfl) (fun X hq => ?_)
  refine jv_aload_n dX2_size_0 rfl ?_
  refine jv_getf dX2_size_1 jf_X2_22 (by repeat' (first | assumption | exact ⟨_, by assumption⟩ | refine jv_h1 (by omega) ?_ | refine jv_h0 ?_ | refine jv_hs ?_)) (by exact rfl) ?_
  exact jv_iret dX2_size_4 hq (hp) (by first | rfl | decide)
theorem ct_X2_between {a b d : Int} (K : Nat) (hp : post (some (.long (jv_l ((a + b) * d * 5)))) h) : jv_Ct yX2_between cX2_between 6 (some .long) K [.long (jv_l a), .long (jv_l b), .long (jv_l d)] h post := by
  refine jv_entry (own := RX2) (by decide) rfl (Nat.le_of_ble_eq_true rfl) (fun X hq => ?_)
  refine jv_lload_n dX2_between_0 rfl ?_
  refine jv_lload_n dX2_between_1 rfl ?_
  refine jv_ladd dX2_between_2 ?_
  refine jv_lload dX2_between_3 rfl ?_
  refine jv_lmul dX2_between_5 ?_
  refine jv_ldc2 dX2_between_6 jk_X2_30 ?_
  refine jv_lmul dX2_between_9 ?_
  exact jv_lret dX2_between_10 hq (hp)
theorem ct_X2_reaches {mm : Int} (K : Nat) (w : jw_P h n lv ar co) (hP : jq_P n lv ar co) (hm : jq_rg mm) (hp : ∀ r : Int, (jq_re n lv mm → r = 1) → (¬ jq_re n lv mm → r = 0) → 0 ≤ r ∧ r ≤ 1 → post (some (.int (jv_i r))) h) : jv_Ct yX2_reaches cX2_reaches 2 (some .boolean) K [.ref 5, .int (jv_i mm)] h post := by
  obtain ⟨w1, w2, w3, w4⟩ := w
  have hn := hP.1
  have a1 := (hP.2.1 0).1
  have a2 := (hP.2.1 (n - 1)).1
  unfold jq_rg at hm
  unfold jq_re at hp
  refine jv_entry (own := RX2) (by decide) rfl (Nat.le_of_ble_eq_true rfl) (fun X hq => ?_)
  refine jv_aload_n dX2_reaches_0 rfl ?_
  refine jv_getf dX2_reaches_1 jf_X2_22 (by repeat' (first | assumption | exact ⟨_, by assumption⟩ | refine jv_h1 (by omega) ?_ | refine jv_h0 ?_ | refine jv_hs ?_)) (by exact rfl) ?_
  refine jv_if_le 36 dX2_reaches_4 (fun c4 => ?_) (fun c4 => ?_)
  · refine jv_iconst dX2_reaches_36 ?_
    exact jv_iret dX2_reaches_37 hq (hp _ (by omega) (by omega) (by omega)) (by first | rfl | decide)
  · refine jv_aload_n dX2_reaches_7 rfl ?_
    refine jv_getf dX2_reaches_8 jf_X2_9 (by repeat' (first | assumption | exact ⟨_, by assumption⟩ | refine jv_h1 (by omega) ?_ | refine jv_h0 ?_ | refine jv_hs ?_)) (by exact rfl) ?_
    refine jv_iconst dX2_reaches_11 ?_
    refine jv_iald dX2_reaches_12 (by repeat' (first | assumption | exact ⟨_, by assumption⟩ | refine jv_h1 (by omega) ?_ | refine jv_h0 ?_ | refine jv_hs ?_)) ?_
    refine jv_iload_n dX2_reaches_13 rfl ?_
    refine jv_icmp_gt 36 dX2_reaches_14 (fun c14 => ?_) (fun c14 => ?_)
    · refine jv_iconst dX2_reaches_36 ?_
      exact jv_iret dX2_reaches_37 hq (hp _ (by omega) (by omega) (by omega)) (by first | rfl | decide)
    · refine jv_iload_n dX2_reaches_17 rfl ?_
      refine jv_aload_n dX2_reaches_18 rfl ?_
      refine jv_getf dX2_reaches_19 jf_X2_9 (by repeat' (first | assumption | exact ⟨_, by assumption⟩ | refine jv_h1 (by omega) ?_ | refine jv_h0 ?_ | refine jv_hs ?_)) (by exact rfl) ?_
      refine jv_aload_n dX2_reaches_22 rfl ?_
      refine jv_getf dX2_reaches_23 jf_X2_22 (by repeat' (first | assumption | exact ⟨_, by assumption⟩ | refine jv_h1 (by omega) ?_ | refine jv_h0 ?_ | refine jv_hs ?_)) (by exact rfl) ?_
      refine jv_iconst dX2_reaches_26 ?_
      refine jv_isub dX2_reaches_27 ?_
      refine jv_iald dX2_reaches_28 (by repeat' (first | assumption | exact ⟨_, by assumption⟩ | refine jv_h1 (by omega) ?_ | refine jv_h0 ?_ | refine jv_hs ?_)) ?_
      refine jv_icmp_gt 36 dX2_reaches_29 (fun c29 => ?_) (fun c29 => ?_)
      · refine jv_iconst dX2_reaches_36 ?_
        exact jv_iret dX2_reaches_37 hq (hp _ (by omega) (by omega) (by omega)) (by first | rfl | decide)
      · refine jv_iconst dX2_reaches_32 ?_
        refine jv_goto 37 dX2_reaches_33 ?_
        exact jv_iret dX2_reaches_37 hq (hp _ (by omega) (by omega) (by omega)) (by first | rfl | decide)
theorem ct_X2_lastUpTo {mm : Int} (K : Nat) (w : jw_P h n lv ar co) (hP : jq_P n lv ar co) (hn1 : 1 ≤ n) (hm : jq_rg mm) (hp : post (some (.int (jv_i (jq_lu lv mm n)))) h) : jv_Ct yX2_lastUpTo cX2_lastUpTo 4 (some .int) K [.ref 5, .int (jv_i mm)] h post := by
  obtain ⟨w1, w2, w3, w4⟩ := w
  have hn := hP.1
  unfold jq_rg at hm
  refine jv_entry (own := RX2) (by decide) rfl (Nat.le_of_ble_eq_true rfl) (fun X hq => ?_)
  have step : ∀ (i : Nat) (b : Int), 1 ≤ i → i ≤ n → (i = n → post (some (.int (jv_i b))) h) → (∀ b', i < n → b' = (if 1 ≤ (i : Int) ∧ lv i ≤ mm then (i : Int) else b) → jv_J X cX2_lastUpTo RX2 K 4 [some (.ref 5), some (.int (jv_i mm)), some (.int (jv_i b')), some (.int (jv_i (i + 1)))] [] h) → jv_J X cX2_lastUpTo RX2 K 4 [some (.ref 5), some (.int (jv_i mm)), some (.int (jv_i b)), some (.int (jv_i i))] [] h := by
    intro i b h1 hi p1 p2
    have r1 := (hP.2.1 i).1
    refine jv_iload_n dX2_lastUpTo_4 rfl ?_
    refine jv_aload_n dX2_lastUpTo_5 rfl ?_
    refine jv_getf dX2_lastUpTo_6 jf_X2_22 (by repeat' (first | assumption | exact ⟨_, by assumption⟩ | refine jv_h1 (by omega) ?_ | refine jv_h0 ?_ | refine jv_hs ?_)) (by exact rfl) ?_
    refine jv_icmp_ge 30 dX2_lastUpTo_9 (fun c9 => ?_) (fun c9 => ?_)
    · refine jv_iload_n dX2_lastUpTo_30 rfl ?_
      exact jv_iret dX2_lastUpTo_31 hq (p1 (by omega)) (by first | rfl | decide)
    · refine jv_aload_n dX2_lastUpTo_12 rfl ?_
      refine jv_getf dX2_lastUpTo_13 jf_X2_9 (by repeat' (first | assumption | exact ⟨_, by assumption⟩ | refine jv_h1 (by omega) ?_ | refine jv_h0 ?_ | refine jv_hs ?_)) (by exact rfl) ?_
      refine jv_iload_n dX2_lastUpTo_16 rfl ?_
      refine jv_iald dX2_lastUpTo_17 (by repeat' (first | assumption | exact ⟨_, by assumption⟩ | refine jv_h1 (by omega) ?_ | refine jv_h0 ?_ | refine jv_hs ?_)) ?_
      refine jv_iload_n dX2_lastUpTo_18 rfl ?_
      refine jv_icmp_gt 24 dX2_lastUpTo_19 (fun c19 => ?_) (fun c19 => ?_)
      · refine jv_iinc dX2_lastUpTo_24 rfl rfl ?_
        refine jv_goto 4 dX2_lastUpTo_27 ?_
        exact p2 _ (by omega) (by rw [if_neg (by omega)])
      · refine jv_iload_n dX2_lastUpTo_22 rfl ?_
        refine jv_istore_n dX2_lastUpTo_23 rfl (Nat.le_of_ble_eq_true rfl) ?_
        refine jv_iinc dX2_lastUpTo_24 rfl rfl ?_
        refine jv_goto 4 dX2_lastUpTo_27 ?_
        exact p2 _ (by omega) (by rw [if_pos (by omega)])
  have loop : ∀ (k i : Nat) (b : Int), 1 ≤ i → i + k = n → b = jq_lu lv mm i → jv_J X cX2_lastUpTo RX2 K 4 [some (.ref 5), some (.int (jv_i mm)), some (.int (jv_i b)), some (.int (jv_i i))] [] h := by
    intro k
    induction k with
    | zero =>
      intro i b h1 e eb
      refine step i b h1 (by omega) (fun q => ?_) (fun b' q => by omega)
      rw [eb, q]
      exact hp
    | succ k ih =>
      intro i b h1 e eb
      refine step i b h1 (by omega) (fun q => by omega) (fun b' q e' => ?_)
      exact ih (i + 1) b' (by omega) (by omega) (by rw [e', jq_lu, ← eb])
  refine jv_iconst dX2_lastUpTo_0 ?_
  refine jv_istore_n dX2_lastUpTo_1 rfl (Nat.le_of_ble_eq_true rfl) ?_
  refine jv_iconst dX2_lastUpTo_2 ?_
  refine jv_istore_n dX2_lastUpTo_3 rfl (Nat.le_of_ble_eq_true rfl) ?_
  exact loop (n - 1) 1 0 (by omega) (by omega) (by simp [jq_lu])
theorem ct_X2_areaAt {mm : Int} (K : Nat) (w : jw_P h n lv ar co) (hP : jq_P n lv ar co) (hr : jq_re n lv mm) (hm : jq_rg mm) (hp : post (some (.int (jv_i (jq_aa n lv ar mm)))) h) : jv_Ct yX2_areaAt cX2_areaAt 8 (some .int) (K + 1) [.ref 5, .int (jv_i mm)] h post := by
  have w9 := w
  obtain ⟨w1, w2, w3, w4⟩ := w
  have hn := hP.1
  obtain ⟨g1, g2, g3⟩ := jq_lu_at hP hr
  have s0 := hP.2.2.1 (jq_lu lv mm n) g1.1
  have a1 := hP.2.1 (jq_lu lv mm n)
  have a2 := hP.2.1 (jq_lu lv mm n + 1)
  unfold jq_aa at hp
  have hm2 := hm
  unfold jq_rg at hm
  refine jv_entry (own := RX2) (by decide) rfl (Nat.le_of_ble_eq_true rfl) (fun X hq => ?_)
  refine jv_aload_n dX2_areaAt_0 rfl ?_
  refine jv_iload_n dX2_areaAt_1 rfl ?_
  refine jv_cV dX2_areaAt_2 jm_X2_32 rfl (by repeat' (first | assumption | exact ⟨_, by assumption⟩ | refine jv_h1 (by omega) ?_ | refine jv_h0 ?_ | refine jv_hs ?_)) rfl (ct_X2_lastUpTo K w9 hP hr.1 hm2 ?_)
  generalize jq_lu lv mm n = k at *
  refine jv_istore_n dX2_areaAt_5 rfl (Nat.le_of_ble_eq_true rfl) ?_
  refine jv_iload_n dX2_areaAt_6 rfl ?_
  refine jv_iconst dX2_areaAt_7 ?_
  refine jv_iadd dX2_areaAt_8 ?_
  refine jv_istore_n dX2_areaAt_9 rfl (Nat.le_of_ble_eq_true rfl) ?_
  refine jv_iload_n dX2_areaAt_10 rfl ?_
  refine jv_aload_n dX2_areaAt_11 rfl ?_
  refine jv_getf dX2_areaAt_12 jf_X2_22 (by repeat' (first | assumption | exact ⟨_, by assumption⟩ | refine jv_h1 (by omega) ?_ | refine jv_h0 ?_ | refine jv_hs ?_)) (by exact rfl) ?_
  refine jv_icmp_lt 25 dX2_areaAt_15 (fun c15 => ?_) (fun c15 => ?_)
  · refine jv_aload_n dX2_areaAt_25 rfl ?_
    refine jv_getf dX2_areaAt_26 jf_X2_9 (by repeat' (first | assumption | exact ⟨_, by assumption⟩ | refine jv_h1 (by omega) ?_ | refine jv_h0 ?_ | refine jv_hs ?_)) (by exact rfl) ?_
    refine jv_iload_n dX2_areaAt_29 rfl ?_
    refine jv_iald dX2_areaAt_30 (by repeat' (first | assumption | exact ⟨_, by assumption⟩ | refine jv_h1 (by omega) ?_ | refine jv_h0 ?_ | refine jv_hs ?_)) ?_
    refine jv_i2l dX2_areaAt_31 ?_
    refine jv_aload_n dX2_areaAt_32 rfl ?_
    refine jv_getf dX2_areaAt_33 jf_X2_9 (by repeat' (first | assumption | exact ⟨_, by assumption⟩ | refine jv_h1 (by omega) ?_ | refine jv_h0 ?_ | refine jv_hs ?_)) (by exact rfl) ?_
    refine jv_iload_n dX2_areaAt_36 rfl ?_
    refine jv_iald dX2_areaAt_37 (by repeat' (first | assumption | exact ⟨_, by assumption⟩ | refine jv_h1 (by omega) ?_ | refine jv_h0 ?_ | refine jv_hs ?_)) ?_
    refine jv_i2l dX2_areaAt_38 ?_
    refine jv_lsub dX2_areaAt_39 ?_
    refine jv_lstore dX2_areaAt_40 rfl (Nat.le_of_ble_eq_true rfl) ?_
    refine jv_lload dX2_areaAt_42 rfl ?_
    refine jv_lconst 0 dX2_areaAt_44 ?_
    refine jv_lcmp_gt 56 dX2_areaAt_45 dX2_areaAt_46 (fun c45 => ?_) (fun c45 => ?_)
    · refine jv_aload_n dX2_areaAt_56 rfl ?_
      refine jv_getf dX2_areaAt_57 jf_X2_15 (by repeat' (first | assumption | exact ⟨_, by assumption⟩ | refine jv_h1 (by omega) ?_ | refine jv_h0 ?_ | refine jv_hs ?_)) (by exact rfl) ?_
      refine jv_iload_n dX2_areaAt_60 rfl ?_
      refine jv_iald dX2_areaAt_61 (by repeat' (first | assumption | exact ⟨_, by assumption⟩ | refine jv_h1 (by omega) ?_ | refine jv_h0 ?_ | refine jv_hs ?_)) ?_
      refine jv_i2l dX2_areaAt_62 ?_
      refine jv_aload_n dX2_areaAt_63 rfl ?_
      refine jv_getf dX2_areaAt_64 jf_X2_15 (by repeat' (first | assumption | exact ⟨_, by assumption⟩ | refine jv_h1 (by omega) ?_ | refine jv_h0 ?_ | refine jv_hs ?_)) (by exact rfl) ?_
      refine jv_iload_n dX2_areaAt_67 rfl ?_
      refine jv_iald dX2_areaAt_68 (by repeat' (first | assumption | exact ⟨_, by assumption⟩ | refine jv_h1 (by omega) ?_ | refine jv_h0 ?_ | refine jv_hs ?_)) ?_
      refine jv_i2l dX2_areaAt_69 ?_
      refine jv_lsub dX2_areaAt_70 ?_
      refine jv_lstore dX2_areaAt_71 rfl (Nat.le_of_ble_eq_true rfl) ?_
      refine jv_aload_n dX2_areaAt_73 rfl ?_
      refine jv_getf dX2_areaAt_74 jf_X2_15 (by repeat' (first | assumption | exact ⟨_, by assumption⟩ | refine jv_h1 (by omega) ?_ | refine jv_h0 ?_ | refine jv_hs ?_)) (by exact rfl) ?_
      refine jv_iload_n dX2_areaAt_77 rfl ?_
      refine jv_iald dX2_areaAt_78 (by repeat' (first | assumption | exact ⟨_, by assumption⟩ | refine jv_h1 (by omega) ?_ | refine jv_h0 ?_ | refine jv_hs ?_)) ?_
      refine jv_lload dX2_areaAt_79 rfl ?_
      refine jv_iload_n dX2_areaAt_81 rfl ?_
      refine jv_aload_n dX2_areaAt_82 rfl ?_
      refine jv_getf dX2_areaAt_83 jf_X2_9 (by repeat' (first | assumption | exact ⟨_, by assumption⟩ | refine jv_h1 (by omega) ?_ | refine jv_h0 ?_ | refine jv_hs ?_)) (by exact rfl) ?_
      refine jv_iload_n dX2_areaAt_86 rfl ?_
      refine jv_iald dX2_areaAt_87 (by repeat' (first | assumption | exact ⟨_, by assumption⟩ | refine jv_h1 (by omega) ?_ | refine jv_h0 ?_ | refine jv_hs ?_)) ?_
      refine jv_isub dX2_areaAt_88 ?_
      refine jv_i2l dX2_areaAt_89 ?_
      refine jv_lmul dX2_areaAt_90 ?_
      refine jv_lload dX2_areaAt_91 rfl ?_
      have m1 := jq_mul (a := ar (k + 1) - ar k) (b := mm - lv k) (A := 1000000) (B := 200000) (by have := (s0 (by omega)).2.1; omega) (by have := g3 (by omega); omega)
      refine jv_ldiv dX2_areaAt_93 ?_
      refine jv_l2i dX2_areaAt_94 ?_
      refine jv_iadd dX2_areaAt_95 ?_
      exact jv_iret dX2_areaAt_96 hq (by rw [if_neg (by omega)] at hp; exact hp)
    · exact absurd (s0 (by omega)).1 (by omega)
  · refine jv_aload_n dX2_areaAt_18 rfl ?_
    refine jv_getf dX2_areaAt_19 jf_X2_15 (by repeat' (first | assumption | exact ⟨_, by assumption⟩ | refine jv_h1 (by omega) ?_ | refine jv_h0 ?_ | refine jv_hs ?_)) (by exact rfl) ?_
    refine jv_iload_n dX2_areaAt_22 rfl ?_
    refine jv_iald dX2_areaAt_23 (by repeat' (first | assumption | exact ⟨_, by assumption⟩ | refine jv_h1 (by omega) ?_ | refine jv_h0 ?_ | refine jv_hs ?_)) ?_
    exact jv_iret dX2_areaAt_24 hq (by rw [if_pos (by omega)] at hp; exact hp)
theorem ct_X2_contentAt {mm : Int} (K : Nat) (w : jw_P h n lv ar co) (hP : jq_P n lv ar co) (hr : jq_re n lv mm) (hm : jq_rg mm) (hp : post (some (.long (jv_l (jq_cc n lv ar co mm)))) h) : jv_Ct yX2_contentAt cX2_contentAt 3 (some .long) (K + 2) [.ref 5, .int (jv_i mm)] h post := by
  have w9 := w
  obtain ⟨w1, w2, w3, w4⟩ := w
  have hn := hP.1
  obtain ⟨g1, g2, g3⟩ := jq_lu_at hP hr
  have a1 := hP.2.1 (jq_lu lv mm n)
  have a3 := jq_aa_in hP hr
  have hr9 := hr
  obtain ⟨z1, z2, z3⟩ := hr9
  have a4 := hP.2.1 0
  have a5 := hP.2.1 (n - 1)
  unfold jq_cc at hp
  have hm2 := hm
  unfold jq_rg at hm
  refine jv_entry (own := RX2) (by decide) rfl (Nat.le_of_ble_eq_true rfl) (fun X hq => ?_)
  refine jv_aload_n dX2_contentAt_0 rfl ?_
  refine jv_iload_n dX2_contentAt_1 rfl ?_
  refine jv_cV dX2_contentAt_2 jm_X2_32 rfl (by repeat' (first | assumption | exact ⟨_, by assumption⟩ | refine jv_h1 (by omega) ?_ | refine jv_h0 ?_ | refine jv_hs ?_)) rfl (ct_X2_lastUpTo K w9 hP hr.1 hm2 ?_)
  refine jv_istore_n dX2_contentAt_5 rfl (Nat.le_of_ble_eq_true rfl) ?_
  refine jv_aload_n dX2_contentAt_6 rfl ?_
  refine jv_getf dX2_contentAt_7 jf_X2_18 (by repeat' (first | assumption | exact ⟨_, by assumption⟩ | refine jv_h1 (by omega) ?_ | refine jv_h0 ?_ | refine jv_hs ?_)) (by exact rfl) ?_
  refine jv_iload_n dX2_contentAt_10 rfl ?_
  refine jv_lald dX2_contentAt_11 (by repeat' (first | assumption | exact ⟨_, by assumption⟩ | refine jv_h1 (by omega) ?_ | refine jv_h0 ?_ | refine jv_hs ?_)) ?_
  refine jv_aload_n dX2_contentAt_12 rfl ?_
  refine jv_getf dX2_contentAt_13 jf_X2_15 (by repeat' (first | assumption | exact ⟨_, by assumption⟩ | refine jv_h1 (by omega) ?_ | refine jv_h0 ?_ | refine jv_hs ?_)) (by exact rfl) ?_
  refine jv_iload_n dX2_contentAt_16 rfl ?_
  refine jv_iald dX2_contentAt_17 (by repeat' (first | assumption | exact ⟨_, by assumption⟩ | refine jv_h1 (by omega) ?_ | refine jv_h0 ?_ | refine jv_hs ?_)) ?_
  refine jv_i2l dX2_contentAt_18 ?_
  refine jv_aload_n dX2_contentAt_19 rfl ?_
  refine jv_iload_n dX2_contentAt_20 rfl ?_
  refine jv_cV dX2_contentAt_21 jm_X2_36 rfl (by repeat' (first | assumption | exact ⟨_, by assumption⟩ | refine jv_h1 (by omega) ?_ | refine jv_h0 ?_ | refine jv_hs ?_)) rfl (ct_X2_areaAt K w9 hP hr hm2 ?_)
  refine jv_i2l dX2_contentAt_24 ?_
  refine jv_iload_n dX2_contentAt_25 rfl ?_
  refine jv_aload_n dX2_contentAt_26 rfl ?_
  refine jv_getf dX2_contentAt_27 jf_X2_9 (by repeat' (first | assumption | exact ⟨_, by assumption⟩ | refine jv_h1 (by omega) ?_ | refine jv_h0 ?_ | refine jv_hs ?_)) (by exact rfl) ?_
  refine jv_iload_n dX2_contentAt_30 rfl ?_
  refine jv_iald dX2_contentAt_31 (by repeat' (first | assumption | exact ⟨_, by assumption⟩ | refine jv_h1 (by omega) ?_ | refine jv_h0 ?_ | refine jv_hs ?_)) ?_
  refine jv_isub dX2_contentAt_32 ?_
  refine jv_i2l dX2_contentAt_33 ?_
  refine jv_cS dX2_contentAt_34 jm_X2_26 (ct_X2_between K ?_)
  refine jv_ladd dX2_contentAt_37 ?_
  exact jv_lret dX2_contentAt_38 hq (hp)
theorem ct_X2_levelOf {wa : Int} (K : Nat) (w : jw_P h n lv ar co) (hP : jq_P n lv ar co) (hw : -9223372036854775808 ≤ wa ∧ wa ≤ 9223372036854775807) (hp : post (some (.int (jv_i (jq_fil n lv ar co wa)))) h) : jv_Ct yX2_levelOf cX2_levelOf 7 (some .int) (K + 3) [.ref 5, .long (jv_l wa)] h post := by
  have w9 := w
  obtain ⟨w1, w2, w3, w4⟩ := w
  have hn := hP.1
  have a4 := (hP.2.1 0).1
  have a5 := (hP.2.1 (n - 1)).1
  refine jv_entry (own := RX2) (by decide) rfl (Nat.le_of_ble_eq_true rfl) (fun X hq => ?_)
  have step : ∀ (i : Nat) (a b : Int), i ≤ 20 → 1 ≤ n → lv 0 ≤ a → b ≤ lv (n - 1) → a ≤ b → (20 ≤ i ∨ b ≤ a → post (some (.int (jv_i a))) h) → (i < 20 → a < b → jq_cc n lv ar co (a + (b - a + 1) / 2) ≤ wa → jv_J X cX2_levelOf RX2 (K + 3) 52 [some (.ref 5), some (.long (jv_l wa)), none, some (.int (jv_i (a + (b - a + 1) / 2))), some (.int (jv_i b)), some (.int (jv_i (i + 1))), none] [] h) → (i < 20 → a < b → ¬ jq_cc n lv ar co (a + (b - a + 1) / 2) ≤ wa → jv_J X cX2_levelOf RX2 (K + 3) 52 [some (.ref 5), some (.long (jv_l wa)), none, some (.int (jv_i a)), some (.int (jv_i (a + (b - a + 1) / 2 - 1))), some (.int (jv_i (i + 1))), none] [] h) → jv_J X cX2_levelOf RX2 (K + 3) 52 [some (.ref 5), some (.long (jv_l wa)), none, some (.int (jv_i a)), some (.int (jv_i b)), some (.int (jv_i i)), none] [] h := by
    intro i a b h1 h2 h3 h4 h5 p1 p2 p3
    refine jv_iload dX2_levelOf_52 rfl ?_
    refine jv_bipush dX2_levelOf_54 ?_
    refine jv_icmp_ge 106 dX2_levelOf_56 (fun c56 => ?_) (fun c56 => ?_)
    · refine jv_iload_n dX2_levelOf_106 rfl ?_
      exact jv_iret dX2_levelOf_107 hq (p1 (by omega)) (by first | rfl | decide)
    · refine jv_iload_n dX2_levelOf_59 rfl ?_
      refine jv_iload dX2_levelOf_60 rfl ?_
      refine jv_icmp_ge 106 dX2_levelOf_62 (fun c62 => ?_) (fun c62 => ?_)
      · refine jv_iload_n dX2_levelOf_106 rfl ?_
        exact jv_iret dX2_levelOf_107 hq (p1 (by omega)) (by first | rfl | decide)
      · refine jv_iload_n dX2_levelOf_65 rfl ?_
        refine jv_iload dX2_levelOf_66 rfl ?_
        refine jv_iload_n dX2_levelOf_68 rfl ?_
        refine jv_isub dX2_levelOf_69 ?_
        refine jv_iconst dX2_levelOf_70 ?_
        refine jv_iadd dX2_levelOf_71 ?_
        refine jv_iconst dX2_levelOf_72 ?_
        refine jv_idiv dX2_levelOf_73 ?_
        refine jv_iadd dX2_levelOf_74 ?_
        refine jv_istore dX2_levelOf_75 rfl (Nat.le_of_ble_eq_true rfl) ?_
        refine jv_aload_n dX2_levelOf_77 rfl ?_
        refine jv_iload dX2_levelOf_78 rfl ?_
        have re : jq_re n lv (a + (b - a + 1) / 2) := ⟨h2, by omega, by omega⟩
        have ci := jq_cc_in hP re
        refine jv_cV dX2_levelOf_80 jm_X2_44 rfl (by repeat' (first | assumption | exact ⟨_, by assumption⟩ | refine jv_h1 (by omega) ?_ | refine jv_h0 ?_ | refine jv_hs ?_)) rfl (ct_X2_contentAt K w9 hP re (by unfold jq_rg; omega) ?_)
        refine jv_lload_n dX2_levelOf_83 rfl ?_
        refine jv_lcmp_gt 94 dX2_levelOf_84 dX2_levelOf_85 (fun c84 => ?_) (fun c84 => ?_)
        · refine jv_iload dX2_levelOf_94 rfl ?_
          refine jv_iconst dX2_levelOf_96 ?_
          refine jv_isub dX2_levelOf_97 ?_
          refine jv_istore dX2_levelOf_98 rfl (Nat.le_of_ble_eq_true rfl) ?_
          refine jv_iinc dX2_levelOf_100 rfl rfl ?_
          refine jv_goto 52 dX2_levelOf_103 ?_
          exact jv_les (by repeat' (first | exact True.intro | exact rfl | apply And.intro)) (p3 (by omega) (by omega) (by omega))
        · refine jv_iload dX2_levelOf_88 rfl ?_
          refine jv_istore_n dX2_levelOf_90 rfl (Nat.le_of_ble_eq_true rfl) ?_
          refine jv_goto 100 dX2_levelOf_91 ?_
          refine jv_iinc dX2_levelOf_100 rfl rfl ?_
          refine jv_goto 52 dX2_levelOf_103 ?_
          exact jv_les (by repeat' (first | exact True.intro | exact rfl | apply And.intro)) (p2 (by omega) (by omega) (by omega))
  have loop : ∀ (k i : Nat) (a b : Int), i + k = 20 → 1 ≤ n → lv 0 ≤ a → b ≤ lv (n - 1) → a ≤ b → post (some (.int (jv_i (jq_bs (jq_cc n lv ar co) wa k a b)))) h → jv_J X cX2_levelOf RX2 (K + 3) 52 [some (.ref 5), some (.long (jv_l wa)), none, some (.int (jv_i a)), some (.int (jv_i b)), some (.int (jv_i i)), none] [] h := by
    intro k
    induction k with
    | zero =>
      intro i a b e h2 h3 h4 h5 hp
      exact step i a b (by omega) h2 h3 h4 h5 (fun _ => hp) (fun q => by omega) (fun q => by omega)
    | succ k ih =>
      intro i a b e h2 h3 h4 h5 hp
      rw [jq_bs] at hp
      refine step i a b (by omega) h2 h3 h4 h5 (fun q => by rwa [if_neg (by omega)] at hp) (fun q1 q2 q3 => ?_) (fun q1 q2 q3 => ?_)
      · exact ih (i + 1) _ b (by omega) h2 (by omega) h4 (by omega) (by rwa [if_pos q2, if_pos q3] at hp)
      · exact ih (i + 1) a _ (by omega) h2 h3 (by omega) (by omega) (by rwa [if_pos q2, if_neg q3] at hp)
  unfold jq_fil at hp
  have z0 : 1 ≤ n → 0 ≤ co (n - 1) ∧ co (n - 1) ≤ 40000000000000 := fun q => by
    have := jq_co_in hP (n - 1) (by omega)
    rw [show ((n - 1 : Nat) : Int) = (n : Int) - 1 by omega] at this
    omega
  have z9 : 1 ≤ n → lv 0 ≤ lv (n - 1) := fun q => by
    by_cases e : n = 1
    · subst e; exact Int.le_refl _
    · exact Int.le_of_lt (jq_srt2 hP (by omega) (by omega) (by omega))
  refine jv_aload_n dX2_levelOf_0 rfl ?_
  refine jv_getf dX2_levelOf_1 jf_X2_22 (by repeat' (first | assumption | exact ⟨_, by assumption⟩ | refine jv_h1 (by omega) ?_ | refine jv_h0 ?_ | refine jv_hs ?_)) (by exact rfl) ?_
  refine jv_if_eq 26 dX2_levelOf_4 (fun c4 => ?_) (fun c4 => ?_)
  · refine jv_ldc dX2_levelOf_26 jk_X2_43 ?_
    exact jv_iret dX2_levelOf_28 hq (by rw [if_pos (by omega)] at hp; exact hp)
  · refine jv_lload_n dX2_levelOf_7 rfl ?_
    refine jv_lconst 0 dX2_levelOf_8 ?_
    refine jv_aload_n dX2_levelOf_9 rfl ?_
    refine jv_getf dX2_levelOf_10 jf_X2_18 (by repeat' (first | assumption | exact ⟨_, by assumption⟩ | refine jv_h1 (by omega) ?_ | refine jv_h0 ?_ | refine jv_hs ?_)) (by exact rfl) ?_
    refine jv_aload_n dX2_levelOf_13 rfl ?_
    refine jv_getf dX2_levelOf_14 jf_X2_22 (by repeat' (first | assumption | exact ⟨_, by assumption⟩ | refine jv_h1 (by omega) ?_ | refine jv_h0 ?_ | refine jv_hs ?_)) (by exact rfl) ?_
    refine jv_iconst dX2_levelOf_17 ?_
    refine jv_isub dX2_levelOf_18 ?_
    refine jv_lald dX2_levelOf_19 (by repeat' (first | assumption | exact ⟨_, by assumption⟩ | refine jv_h1 (by omega) ?_ | refine jv_h0 ?_ | refine jv_hs ?_)) ?_
    have z1 := z0 (by omega)
    refine jv_cN dX2_levelOf_20 jm_X2_39 (ct_X7_within K (fun r1 q11 q12 q13 => ?_))
    refine jv_if_ne 29 dX2_levelOf_23 (fun c23 => ?_) (fun c23 => ?_)
    · refine jv_aload_n dX2_levelOf_29 rfl ?_
      refine jv_getf dX2_levelOf_30 jf_X2_9 (by repeat' (first | assumption | exact ⟨_, by assumption⟩ | refine jv_h1 (by omega) ?_ | refine jv_h0 ?_ | refine jv_hs ?_)) (by exact rfl) ?_
      refine jv_iconst dX2_levelOf_33 ?_
      refine jv_iald dX2_levelOf_34 (by repeat' (first | assumption | exact ⟨_, by assumption⟩ | refine jv_h1 (by omega) ?_ | refine jv_h0 ?_ | refine jv_hs ?_)) ?_
      refine jv_istore_n dX2_levelOf_35 rfl (Nat.le_of_ble_eq_true rfl) ?_
      refine jv_aload_n dX2_levelOf_36 rfl ?_
      refine jv_getf dX2_levelOf_37 jf_X2_9 (by repeat' (first | assumption | exact ⟨_, by assumption⟩ | refine jv_h1 (by omega) ?_ | refine jv_h0 ?_ | refine jv_hs ?_)) (by exact rfl) ?_
      refine jv_aload_n dX2_levelOf_40 rfl ?_
      refine jv_getf dX2_levelOf_41 jf_X2_22 (by repeat' (first | assumption | exact ⟨_, by assumption⟩ | refine jv_h1 (by omega) ?_ | refine jv_h0 ?_ | refine jv_hs ?_)) (by exact rfl) ?_
      refine jv_iconst dX2_levelOf_44 ?_
      refine jv_isub dX2_levelOf_45 ?_
      refine jv_iald dX2_levelOf_46 (by repeat' (first | assumption | exact ⟨_, by assumption⟩ | refine jv_h1 (by omega) ?_ | refine jv_h0 ?_ | refine jv_hs ?_)) ?_
      refine jv_istore dX2_levelOf_47 rfl (Nat.le_of_ble_eq_true rfl) ?_
      refine jv_iconst dX2_levelOf_49 ?_
      refine jv_istore dX2_levelOf_50 rfl (Nat.le_of_ble_eq_true rfl) ?_
      exact loop 20 0 _ _ (by omega) (by omega) (by omega) (by omega) (z9 (by omega)) (by rw [if_neg (by omega)] at hp; exact hp)
    · refine jv_ldc dX2_levelOf_26 jk_X2_43 ?_
      exact jv_iret dX2_levelOf_28 hq (by rw [if_pos (by omega)] at hp; exact hp)
theorem ct_X2_add {mm a : Int} (K : Nat) (w : jw_P h n lv ar co) (hP : jq_P n lv ar co) (hm : -100000 ≤ mm ∧ mm ≤ 100000) (ha : 0 ≤ a ∧ a ≤ 1000000) (hp1 : jq_okP n lv ar mm a → ∀ h', jw_P h' (n + 1) (jv_up lv n mm) (jv_up ar n a) (jv_up co n (jq_nc n lv ar co mm a)) → jv_fr 5 8 h h' → post (some (.int (jv_i (n + 1)))) h') (hp2 : ¬ jq_okP n lv ar mm a → post (some (.int (jv_i (-1)))) h) : jv_Ct yX2_add cX2_add 6 (some .int) (K + 1) [.ref 5, .int (jv_i mm), .int (jv_i a)] h post := by
  obtain ⟨w1, w2, w3, w4⟩ := w
  have hn := hP.1
  have a1 := hP.2.1 (n - 1)
  unfold jq_okP at hp1 hp2
  refine jv_entry (own := RX2) (by decide) rfl (Nat.le_of_ble_eq_true rfl) (fun X hq => ?_)
  have tail : ∀ x : Option Value, n < 20 → (n = 0 ∨ (lv (n - 1) < mm ∧ ar (n - 1) ≤ a)) → jv_J X cX2_add RX2 (K + 1) 84 [some (.ref 5), some (.int (jv_i mm)), some (.int (jv_i a)), some (.long (jv_l (jq_nc n lv ar co mm a))), none, x] [] h := by
    intro x h1 h2
    refine jv_aload_n dX2_add_84 rfl ?_
    refine jv_getf dX2_add_85 jf_X2_9 (by repeat' (first | assumption | exact ⟨_, by assumption⟩ | refine jv_h1 (by omega) ?_ | refine jv_h0 ?_ | refine jv_hs ?_)) (by exact rfl) ?_
    refine jv_aload_n dX2_add_88 rfl ?_
    refine jv_getf dX2_add_89 jf_X2_22 (by repeat' (first | assumption | exact ⟨_, by assumption⟩ | refine jv_h1 (by omega) ?_ | refine jv_h0 ?_ | refine jv_hs ?_)) (by exact rfl) ?_
    refine jv_iload_n dX2_add_92 rfl ?_
    refine jv_iast dX2_add_93 (by repeat' (first | assumption | exact ⟨_, by assumption⟩ | refine jv_h1 (by omega) ?_ | refine jv_h0 ?_ | refine jv_hs ?_)) ?_
    refine jv_aload_n dX2_add_94 rfl ?_
    refine jv_getf dX2_add_95 jf_X2_15 (by repeat' (first | assumption | exact ⟨_, by assumption⟩ | refine jv_h1 (by omega) ?_ | refine jv_h0 ?_ | refine jv_hs ?_)) (by exact rfl) ?_
    refine jv_aload_n dX2_add_98 rfl ?_
    refine jv_getf dX2_add_99 jf_X2_22 (by repeat' (first | assumption | exact ⟨_, by assumption⟩ | refine jv_h1 (by omega) ?_ | refine jv_h0 ?_ | refine jv_hs ?_)) (by exact rfl) ?_
    refine jv_iload_n dX2_add_102 rfl ?_
    refine jv_iast dX2_add_103 (by repeat' (first | assumption | exact ⟨_, by assumption⟩ | refine jv_h1 (by omega) ?_ | refine jv_h0 ?_ | refine jv_hs ?_)) ?_
    refine jv_aload_n dX2_add_104 rfl ?_
    refine jv_getf dX2_add_105 jf_X2_18 (by repeat' (first | assumption | exact ⟨_, by assumption⟩ | refine jv_h1 (by omega) ?_ | refine jv_h0 ?_ | refine jv_hs ?_)) (by exact rfl) ?_
    refine jv_aload_n dX2_add_108 rfl ?_
    refine jv_getf dX2_add_109 jf_X2_22 (by repeat' (first | assumption | exact ⟨_, by assumption⟩ | refine jv_h1 (by omega) ?_ | refine jv_h0 ?_ | refine jv_hs ?_)) (by exact rfl) ?_
    refine jv_lload_n dX2_add_112 rfl ?_
    refine jv_last dX2_add_113 (by repeat' (first | assumption | exact ⟨_, by assumption⟩ | refine jv_h1 (by omega) ?_ | refine jv_h0 ?_ | refine jv_hs ?_)) ?_
    refine jv_aload_n dX2_add_114 rfl ?_
    refine jv_dup dX2_add_115 rfl ?_
    refine jv_getf dX2_add_116 jf_X2_22 (by repeat' (first | assumption | exact ⟨_, by assumption⟩ | refine jv_h1 (by omega) ?_ | refine jv_h0 ?_ | refine jv_hs ?_)) (by exact rfl) ?_
    refine jv_iconst dX2_add_119 ?_
    refine jv_iadd dX2_add_120 ?_
    refine jv_putf dX2_add_121 jp_X2_22 (by repeat' (first | assumption | exact ⟨_, by assumption⟩ | refine jv_h1 (by omega) ?_ | refine jv_h0 ?_ | refine jv_hs ?_)) (by exact Nat.le_of_ble_eq_true rfl) ?_
    refine jv_aload_n dX2_add_124 rfl ?_
    refine jv_getf dX2_add_125 jf_X2_22 (by repeat' (first | assumption | exact ⟨_, by assumption⟩ | refine jv_h1 (by omega) ?_ | refine jv_h0 ?_ | refine jv_hs ?_)) (by exact rfl) ?_
    exact jv_iret dX2_add_128 hq (hp1 ⟨hm, ha, h1, h2⟩ _ ⟨(by repeat' (first | assumption | exact ⟨_, by assumption⟩ | refine jv_h1 (by omega) ?_ | refine jv_h0 ?_ | refine jv_hs ?_)), (by repeat' (first | assumption | exact ⟨_, by assumption⟩ | refine jv_h1 (by omega) ?_ | refine jv_h0 ?_ | refine jv_hs ?_)), (by repeat' (first | assumption | exact ⟨_, by assumption⟩ | refine jv_h1 (by omega) ?_ | refine jv_h0 ?_ | refine jv_hs ?_)), (by repeat' (first | assumption | exact ⟨_, by assumption⟩ | refine jv_h1 (by omega) ?_ | refine jv_h0 ?_ | refine jv_hs ?_))⟩ (jv_fr_set (by omega) (jv_fr_set (by omega) (jv_fr_set (by omega) (jv_fr_set (by omega) jv_fr_rf))))) (by first | rfl | decide)
  refine jv_aload_n dX2_add_0 rfl ?_
  refine jv_getf dX2_add_1 jf_X2_22 (by repeat' (first | assumption | exact ⟨_, by assumption⟩ | refine jv_h1 (by omega) ?_ | refine jv_h0 ?_ | refine jv_hs ?_)) (by exact rfl) ?_
  refine jv_bipush dX2_add_4 ?_
  refine jv_icmp_lt 11 dX2_add_6 (fun c6 => ?_) (fun c6 => ?_)
  · refine jv_lconst 0 dX2_add_11 ?_
    refine jv_lstore_n dX2_add_12 rfl (Nat.le_of_ble_eq_true rfl) ?_
    refine jv_aload_n dX2_add_13 rfl ?_
    refine jv_getf dX2_add_14 jf_X2_22 (by repeat' (first | assumption | exact ⟨_, by assumption⟩ | refine jv_h1 (by omega) ?_ | refine jv_h0 ?_ | refine jv_hs ?_)) (by exact rfl) ?_
    refine jv_if_le 84 dX2_add_17 (fun c17 => ?_) (fun c17 => ?_)
    · have := tail none (by omega) (Or.inl (by omega))
      rw [jq_nc, if_pos (by omega)] at this
      exact this
    · refine jv_aload_n dX2_add_20 rfl ?_
      refine jv_getf dX2_add_21 jf_X2_22 (by repeat' (first | assumption | exact ⟨_, by assumption⟩ | refine jv_h1 (by omega) ?_ | refine jv_h0 ?_ | refine jv_hs ?_)) (by exact rfl) ?_
      refine jv_iconst dX2_add_24 ?_
      refine jv_isub dX2_add_25 ?_
      refine jv_istore dX2_add_26 rfl (Nat.le_of_ble_eq_true rfl) ?_
      refine jv_iload_n dX2_add_28 rfl ?_
      refine jv_aload_n dX2_add_29 rfl ?_
      refine jv_getf dX2_add_30 jf_X2_9 (by repeat' (first | assumption | exact ⟨_, by assumption⟩ | refine jv_h1 (by omega) ?_ | refine jv_h0 ?_ | refine jv_hs ?_)) (by exact rfl) ?_
      refine jv_iload dX2_add_33 rfl ?_
      refine jv_iald dX2_add_35 (by repeat' (first | assumption | exact ⟨_, by assumption⟩ | refine jv_h1 (by omega) ?_ | refine jv_h0 ?_ | refine jv_hs ?_)) ?_
      refine jv_icmp_le 50 dX2_add_36 (fun c36 => ?_) (fun c36 => ?_)
      · refine jv_iconst dX2_add_50 ?_
        exact jv_iret dX2_add_51 hq (hp2 (fun z => by omega))
      · refine jv_iload_n dX2_add_39 rfl ?_
        refine jv_aload_n dX2_add_40 rfl ?_
        refine jv_getf dX2_add_41 jf_X2_15 (by repeat' (first | assumption | exact ⟨_, by assumption⟩ | refine jv_h1 (by omega) ?_ | refine jv_h0 ?_ | refine jv_hs ?_)) (by exact rfl) ?_
        refine jv_iload dX2_add_44 rfl ?_
        refine jv_iald dX2_add_46 (by repeat' (first | assumption | exact ⟨_, by assumption⟩ | refine jv_h1 (by omega) ?_ | refine jv_h0 ?_ | refine jv_hs ?_)) ?_
        refine jv_icmp_ge 52 dX2_add_47 (fun c47 => ?_) (fun c47 => ?_)
        · refine jv_aload_n dX2_add_52 rfl ?_
          refine jv_getf dX2_add_53 jf_X2_18 (by repeat' (first | assumption | exact ⟨_, by assumption⟩ | refine jv_h1 (by omega) ?_ | refine jv_h0 ?_ | refine jv_hs ?_)) (by exact rfl) ?_
          refine jv_iload dX2_add_56 rfl ?_
          refine jv_lald dX2_add_58 (by repeat' (first | assumption | exact ⟨_, by assumption⟩ | refine jv_h1 (by omega) ?_ | refine jv_h0 ?_ | refine jv_hs ?_)) ?_
          refine jv_aload_n dX2_add_59 rfl ?_
          refine jv_getf dX2_add_60 jf_X2_15 (by repeat' (first | assumption | exact ⟨_, by assumption⟩ | refine jv_h1 (by omega) ?_ | refine jv_h0 ?_ | refine jv_hs ?_)) (by exact rfl) ?_
          refine jv_iload dX2_add_63 rfl ?_
          refine jv_iald dX2_add_65 (by repeat' (first | assumption | exact ⟨_, by assumption⟩ | refine jv_h1 (by omega) ?_ | refine jv_h0 ?_ | refine jv_hs ?_)) ?_
          refine jv_i2l dX2_add_66 ?_
          refine jv_iload_n dX2_add_67 rfl ?_
          refine jv_i2l dX2_add_68 ?_
          refine jv_iload_n dX2_add_69 rfl ?_
          refine jv_aload_n dX2_add_70 rfl ?_
          refine jv_getf dX2_add_71 jf_X2_9 (by repeat' (first | assumption | exact ⟨_, by assumption⟩ | refine jv_h1 (by omega) ?_ | refine jv_h0 ?_ | refine jv_hs ?_)) (by exact rfl) ?_
          refine jv_iload dX2_add_74 rfl ?_
          refine jv_iald dX2_add_76 (by repeat' (first | assumption | exact ⟨_, by assumption⟩ | refine jv_h1 (by omega) ?_ | refine jv_h0 ?_ | refine jv_hs ?_)) ?_
          refine jv_isub dX2_add_77 ?_
          refine jv_i2l dX2_add_78 ?_
          refine jv_cS dX2_add_79 jm_X2_26 (ct_X2_between K ?_)
          refine jv_ladd dX2_add_82 ?_
          refine jv_lstore_n dX2_add_83 rfl (Nat.le_of_ble_eq_true rfl) ?_
          have := tail (some (.int (jv_i (n - 1)))) (by omega) (Or.inr (by omega))
          rw [jq_nc, if_neg (by omega)] at this
          exact this
        · refine jv_iconst dX2_add_50 ?_
          exact jv_iret dX2_add_51 hq (hp2 (fun z => by omega))
  · refine jv_iconst dX2_add_9 ?_
    exact jv_iret dX2_add_10 hq (hp2 (fun z => by omega))
end PN
end
section
/-! THE FACE'S POND, and the reference's -/
theorem jq_cc_top {n : Nat} {lv ar co : Int → Int} (hP : jq_P n lv ar co) (h1 : 1 ≤ n) : jq_cc n lv ar co (lv (n - 1)) = co (n - 1) := by
  have e : jq_lu lv (lv (n - 1)) n = n - 1 := jq_lu_un hP (by omega) (Or.inr (Int.le_refl _)) (fun q => by omega)
  unfold jq_cc
  rw [e]
  simp
theorem jq_lv9 {n : Nat} {lv ar co : Int → Int} (hP : jq_P n lv ar co) (q : 1 ≤ n) : lv 0 ≤ lv (n - 1) := by
  by_cases e : n = 1
  · subst e; exact Int.le_refl _
  · exact Int.le_of_lt (jq_srt2 hP (by omega) (by omega) (by omega))
def jw_MP (h : List jv_E) (lv ar : Int → Int) : Prop := h[101]? = some (jv_ai 20 lv) ∧ h[102]? = some (jv_ai 20 ar)
section PF
variable {h : List jv_E} {n t d : Nat} {lv ar co : Int → Int} {post : Option Value → List jv_E → Prop}
theorem ct_X7_level {mm a : Int} (K : Nat) (b : jw_B h t d) (w : jw_P h n lv ar co) (hP : jq_P n lv ar co) (hm : jq_rg mm) (ha : jq_rg a) (hp1 : jq_okP n lv ar mm a → ∀ h', jw_P h' (n + 1) (jv_up lv n mm) (jv_up ar n a) (jv_up co n (jq_nc n lv ar co mm a)) → jv_fr 5 8 h h' → post (some (.int (jv_i (n + 1)))) h') (hp2 : ¬ jq_okP n lv ar mm a → post (some (.int (jv_i (-1)))) h) : jv_Ct yX7_level cX7_level 3 (some .int) (K + 2) [.ref 0, .int (jv_i mm), .int (jv_i a)] h post := by
  unfold jw_B at b
  have w1 := w.1
  unfold jq_rg at hm ha
  refine jv_entry (own := RX7) (by decide) rfl (Nat.le_of_ble_eq_true rfl) (fun X hq => ?_)
  refine jv_iload_n dX7_level_0 rfl ?_
  refine jv_i2l dX7_level_1 ?_
  refine jv_ldc2 dX7_level_2 jk_X7_102 ?_
  refine jv_ldc2 dX7_level_5 jk_X7_69 ?_
  refine jv_cS dX7_level_8 jm_X7_63 (ct_X7_within K (fun r1 q11 q12 q13 => ?_))
  refine jv_if_eq 26 dX7_level_11 (fun c11 => ?_) (fun c11 => ?_)
  · refine jv_iconst dX7_level_26 ?_
    exact jv_iret dX7_level_27 hq (hp2 (fun z => by have z1 := z.1; have z2 := z.2.1; omega))
  · refine jv_iload_n dX7_level_14 rfl ?_
    refine jv_i2l dX7_level_15 ?_
    refine jv_lconst 0 dX7_level_16 ?_
    refine jv_ldc2 dX7_level_17 jk_X7_94 ?_
    refine jv_cS dX7_level_20 jm_X7_63 (ct_X7_within K (fun r2 q21 q22 q23 => ?_))
    refine jv_if_ne 28 dX7_level_23 (fun c23 => ?_) (fun c23 => ?_)
    · refine jv_aload_n dX7_level_28 rfl ?_
      refine jv_getf dX7_level_29 jf_X7_19 (by repeat' (first | assumption | exact ⟨_, by assumption⟩ | refine jv_h1 (by omega) ?_ | refine jv_h0 ?_ | refine jv_hs ?_)) (by exact rfl) ?_
      refine jv_iload_n dX7_level_32 rfl ?_
      refine jv_iload_n dX7_level_33 rfl ?_
      refine jv_cV dX7_level_34 jm_X7_104 rfl (by repeat' (first | assumption | exact ⟨_, by assumption⟩ | refine jv_h1 (by omega) ?_ | refine jv_h0 ?_ | refine jv_hs ?_)) rfl (ct_X2_add K w hP (by omega) (by omega) (fun q h' w' fr => ?_) (fun q => ?_))
      · exact jv_iret dX7_level_37 hq (hp1 q h' w' fr)
      · exact jv_iret dX7_level_37 hq (hp2 q)
    · refine jv_iconst dX7_level_26 ?_
      exact jv_iret dX7_level_27 hq (hp2 (fun z => by have z1 := z.1; have z2 := z.2.1; omega))
theorem ct_X7_area {mm : Int} (K : Nat) (b : jw_B h t d) (w : jw_P h n lv ar co) (hP : jq_P n lv ar co) (hm : jq_rg mm) (hp : ∀ r : Int, (jq_re n lv mm → r = jq_aa n lv ar mm) → (¬ jq_re n lv mm → r = -1) → post (some (.int (jv_i r))) h) : jv_Ct yX7_area cX7_area 2 (some .int) (K + 2) [.ref 0, .int (jv_i mm)] h post := by
  unfold jw_B at b
  have w1 := w.1
  refine jv_entry (own := RX7) (by decide) rfl (Nat.le_of_ble_eq_true rfl) (fun X hq => ?_)
  refine jv_aload_n dX7_area_0 rfl ?_
  refine jv_getf dX7_area_1 jf_X7_19 (by repeat' (first | assumption | exact ⟨_, by assumption⟩ | refine jv_h1 (by omega) ?_ | refine jv_h0 ?_ | refine jv_hs ?_)) (by exact rfl) ?_
  refine jv_iload_n dX7_area_4 rfl ?_
  refine jv_cV dX7_area_5 jm_X7_107 rfl (by repeat' (first | assumption | exact ⟨_, by assumption⟩ | refine jv_h1 (by omega) ?_ | refine jv_h0 ?_ | refine jv_hs ?_)) rfl (ct_X2_reaches K w hP hm (fun r q1 q2 q3 => ?_))
  refine jv_if_eq 22 dX7_area_8 (fun c8 => ?_) (fun c8 => ?_)
  · refine jv_iconst dX7_area_22 ?_
    exact jv_iret dX7_area_23 hq (hp _ (fun z => by have := q1 z; omega) (fun _ => rfl))
  · refine jv_aload_n dX7_area_11 rfl ?_
    refine jv_getf dX7_area_12 jf_X7_19 (by repeat' (first | assumption | exact ⟨_, by assumption⟩ | refine jv_h1 (by omega) ?_ | refine jv_h0 ?_ | refine jv_hs ?_)) (by exact rfl) ?_
    refine jv_iload_n dX7_area_15 rfl ?_
    have re : jq_re n lv mm := Classical.byContradiction (fun z => c8 (q2 z))
    refine jv_cV dX7_area_16 jm_X7_111 rfl (by repeat' (first | assumption | exact ⟨_, by assumption⟩ | refine jv_h1 (by omega) ?_ | refine jv_h0 ?_ | refine jv_hs ?_)) rfl (ct_X2_areaAt K w hP re hm ?_)
    refine jv_goto 23 dX7_area_19 ?_
    exact jv_iret dX7_area_23 hq (hp _ (fun _ => rfl) (fun z => absurd re z))
theorem ct_X7_content {mm : Int} (K : Nat) (b : jw_B h t d) (w : jw_P h n lv ar co) (hP : jq_P n lv ar co) (hm : jq_rg mm) (hp : ∀ r : Int, (jq_re n lv mm → r = jq_cc n lv ar co mm) → (¬ jq_re n lv mm → r = -1) → post (some (.long (jv_l r))) h) : jv_Ct yX7_content cX7_content 2 (some .long) (K + 3) [.ref 0, .int (jv_i mm)] h post := by
  unfold jw_B at b
  have w1 := w.1
  refine jv_entry (own := RX7) (by decide) rfl (Nat.le_of_ble_eq_true rfl) (fun X hq => ?_)
  refine jv_aload_n dX7_content_0 rfl ?_
  refine jv_getf dX7_content_1 jf_X7_19 (by repeat' (first | assumption | exact ⟨_, by assumption⟩ | refine jv_h1 (by omega) ?_ | refine jv_h0 ?_ | refine jv_hs ?_)) (by exact rfl) ?_
  refine jv_iload_n dX7_content_4 rfl ?_
  refine jv_cV dX7_content_5 jm_X7_107 rfl (by repeat' (first | assumption | exact ⟨_, by assumption⟩ | refine jv_h1 (by omega) ?_ | refine jv_h0 ?_ | refine jv_hs ?_)) rfl (ct_X2_reaches K w hP hm (fun r q1 q2 q3 => ?_))
  refine jv_if_eq 22 dX7_content_8 (fun c8 => ?_) (fun c8 => ?_)
  · refine jv_ldc2 dX7_content_22 jk_X7_78 ?_
    exact jv_lret dX7_content_25 hq (hp _ (fun z => by have := q1 z; omega) (fun _ => rfl))
  · refine jv_aload_n dX7_content_11 rfl ?_
    refine jv_getf dX7_content_12 jf_X7_19 (by repeat' (first | assumption | exact ⟨_, by assumption⟩ | refine jv_h1 (by omega) ?_ | refine jv_h0 ?_ | refine jv_hs ?_)) (by exact rfl) ?_
    refine jv_iload_n dX7_content_15 rfl ?_
    have re : jq_re n lv mm := Classical.byContradiction (fun z => c8 (q2 z))
    refine jv_cV dX7_content_16 jm_X7_114 rfl (by repeat' (first | assumption | exact ⟨_, by assumption⟩ | refine jv_h1 (by omega) ?_ | refine jv_h0 ?_ | refine jv_hs ?_)) rfl (ct_X2_contentAt K w hP re hm ?_)
    refine jv_goto 25 dX7_content_19 ?_
    exact jv_lret dX7_content_25 hq (hp _ (fun _ => rfl) (fun z => absurd re z))
theorem ct_X7_fill {wa : Int} (K : Nat) (b : jw_B h t d) (w : jw_P h n lv ar co) (hP : jq_P n lv ar co) (hw : -9223372036854775808 ≤ wa ∧ wa ≤ 9223372036854775807) (hp : post (some (.int (jv_i (jq_fil n lv ar co wa)))) h) : jv_Ct yX7_fill cX7_fill 3 (some .int) (K + 4) [.ref 0, .long (jv_l wa)] h post := by
  unfold jw_B at b
  have w1 := w.1
  refine jv_entry (own := RX7) (by decide) rfl (Nat.le_of_ble_eq_true rfl) (fun X hq => ?_)
  refine jv_aload_n dX7_fill_0 rfl ?_
  refine jv_getf dX7_fill_1 jf_X7_19 (by repeat' (first | assumption | exact ⟨_, by assumption⟩ | refine jv_h1 (by omega) ?_ | refine jv_h0 ?_ | refine jv_hs ?_)) (by exact rfl) ?_
  refine jv_lload_n dX7_fill_4 rfl ?_
  refine jv_cV dX7_fill_5 jm_X7_118 rfl (by repeat' (first | assumption | exact ⟨_, by assumption⟩ | refine jv_h1 (by omega) ?_ | refine jv_h0 ?_ | refine jv_hs ?_)) rfl (ct_X2_levelOf K w hP hw ?_)
  exact jv_iret dX7_fill_8 hq (hp) (by first | rfl | decide)
end PF
section MP
variable {h : List jv_E} {n : Nat} {rr cu si st at_ wr da ra wa : Int} {lv ar co : Int → Int} {post : Option Value → List jv_E → Prop}
theorem ct_X8_level {mm a : Int} (K : Nat) (o : jw_O h rr n cu si st at_ wr da ra wa) (w : jw_MP h lv ar) (hP : jq_P n lv ar co) (hm : jq_rg mm) (ha : jq_rg a) (hp1 : jq_okP n lv ar mm a → ∀ h', jw_O h' rr (n + 1) cu si st at_ wr da ra wa → jw_MP h' (jv_up lv n mm) (jv_up ar n a) → jv_fs [97, 101, 102] h h' → post (some (.int (jv_i (n + 1)))) h') (hp2 : ¬ jq_okP n lv ar mm a → post (some (.int (jv_i (-1)))) h) : jv_Ct yX8_level cX8_level 3 (some .int) (K + 1) [.ref 97, .int (jv_i mm), .int (jv_i a)] h post := by
  unfold jw_O at o
  obtain ⟨w1, w2⟩ := w
  have hn := hP.1
  have a1 := hP.2.1 (n - 1)
  unfold jq_rg at hm ha
  unfold jq_okP at hp1 hp2
  refine jv_entry (own := RX8) (by decide) rfl (Nat.le_of_ble_eq_true rfl) (fun X hq => ?_)
  refine jv_iload_n dX8_level_0 rfl ?_
  refine jv_i2l dX8_level_1 ?_
  refine jv_ldc2 dX8_level_2 jk_X8_94 ?_
  refine jv_ldc2 dX8_level_5 jk_X8_70 ?_
  refine jv_cS dX8_level_8 jm_X8_64 (ct_X8_in K (fun r1 q11 q12 q13 => ?_))
  refine jv_if_eq 35 dX8_level_11 (fun c11 => ?_) (fun c11 => ?_)
  · refine jv_iconst dX8_level_35 ?_
    exact jv_iret dX8_level_36 hq (hp2 (fun z => by omega))
  · refine jv_iload_n dX8_level_14 rfl ?_
    refine jv_i2l dX8_level_15 ?_
    refine jv_lconst 0 dX8_level_16 ?_
    refine jv_ldc2 dX8_level_17 jk_X8_76 ?_
    refine jv_cS dX8_level_20 jm_X8_64 (ct_X8_in K (fun r2 q21 q22 q23 => ?_))
    refine jv_if_eq 35 dX8_level_23 (fun c23 => ?_) (fun c23 => ?_)
    · refine jv_iconst dX8_level_35 ?_
      exact jv_iret dX8_level_36 hq (hp2 (fun z => by omega))
    · refine jv_aload_n dX8_level_26 rfl ?_
      refine jv_getf dX8_level_27 jf_X8_96 (by repeat' (first | assumption | exact ⟨_, by assumption⟩ | refine jv_h1 (by omega) ?_ | refine jv_h0 ?_ | refine jv_hs ?_)) (by exact rfl) ?_
      refine jv_bipush dX8_level_30 ?_
      refine jv_icmp_ne 37 dX8_level_32 (fun c32 => ?_) (fun c32 => ?_)
      · refine jv_aload_n dX8_level_37 rfl ?_
        refine jv_getf dX8_level_38 jf_X8_96 (by repeat' (first | assumption | exact ⟨_, by assumption⟩ | refine jv_h1 (by omega) ?_ | refine jv_h0 ?_ | refine jv_hs ?_)) (by exact rfl) ?_
        refine jv_if_le 76 dX8_level_41 (fun c41 => ?_) (fun c41 => ?_)
        · refine jv_aload_n dX8_level_76 rfl ?_
          refine jv_getf dX8_level_77 jf_X8_19 (by repeat' (first | assumption | exact ⟨_, by assumption⟩ | refine jv_h1 (by omega) ?_ | refine jv_h0 ?_ | refine jv_hs ?_)) (by exact rfl) ?_
          refine jv_aload_n dX8_level_80 rfl ?_
          refine jv_getf dX8_level_81 jf_X8_96 (by repeat' (first | assumption | exact ⟨_, by assumption⟩ | refine jv_h1 (by omega) ?_ | refine jv_h0 ?_ | refine jv_hs ?_)) (by exact rfl) ?_
          refine jv_iload_n dX8_level_84 rfl ?_
          refine jv_iast dX8_level_85 (by repeat' (first | assumption | exact ⟨_, by assumption⟩ | refine jv_h1 (by omega) ?_ | refine jv_h0 ?_ | refine jv_hs ?_)) ?_
          refine jv_aload_n dX8_level_86 rfl ?_
          refine jv_getf dX8_level_87 jf_X8_22 (by repeat' (first | assumption | exact ⟨_, by assumption⟩ | refine jv_h1 (by omega) ?_ | refine jv_h0 ?_ | refine jv_hs ?_)) (by exact rfl) ?_
          refine jv_aload_n dX8_level_90 rfl ?_
          refine jv_getf dX8_level_91 jf_X8_96 (by repeat' (first | assumption | exact ⟨_, by assumption⟩ | refine jv_h1 (by omega) ?_ | refine jv_h0 ?_ | refine jv_hs ?_)) (by exact rfl) ?_
          refine jv_iload_n dX8_level_94 rfl ?_
          refine jv_iast dX8_level_95 (by repeat' (first | assumption | exact ⟨_, by assumption⟩ | refine jv_h1 (by omega) ?_ | refine jv_h0 ?_ | refine jv_hs ?_)) ?_
          refine jv_aload_n dX8_level_96 rfl ?_
          refine jv_dup dX8_level_97 rfl ?_
          refine jv_getf dX8_level_98 jf_X8_96 (by repeat' (first | assumption | exact ⟨_, by assumption⟩ | refine jv_h1 (by omega) ?_ | refine jv_h0 ?_ | refine jv_hs ?_)) (by exact rfl) ?_
          refine jv_iconst dX8_level_101 ?_
          refine jv_iadd dX8_level_102 ?_
          refine jv_putf dX8_level_103 jp_X8_96 (by repeat' (first | assumption | exact ⟨_, by assumption⟩ | refine jv_h1 (by omega) ?_ | refine jv_h0 ?_ | refine jv_hs ?_)) (by exact Nat.le_of_ble_eq_true rfl) ?_
          refine jv_aload_n dX8_level_106 rfl ?_
          refine jv_getf dX8_level_107 jf_X8_96 (by repeat' (first | assumption | exact ⟨_, by assumption⟩ | refine jv_h1 (by omega) ?_ | refine jv_h0 ?_ | refine jv_hs ?_)) (by exact rfl) ?_
          exact jv_iret dX8_level_110 hq (hp1 (by omega) _ (by repeat' (first | assumption | exact ⟨_, by assumption⟩ | refine jv_h1 (by omega) ?_ | refine jv_h0 ?_ | refine jv_hs ?_)) ⟨(by repeat' (first | assumption | exact ⟨_, by assumption⟩ | refine jv_h1 (by omega) ?_ | refine jv_h0 ?_ | refine jv_hs ?_)), (by repeat' (first | assumption | exact ⟨_, by assumption⟩ | refine jv_h1 (by omega) ?_ | refine jv_h0 ?_ | refine jv_hs ?_))⟩ (jv_fs_set (by decide) (jv_fs_set (by decide) (jv_fs_set (by decide) jv_fs_rf)))) (by first | rfl | decide)
        · refine jv_iload_n dX8_level_44 rfl ?_
          refine jv_aload_n dX8_level_45 rfl ?_
          refine jv_getf dX8_level_46 jf_X8_19 (by repeat' (first | assumption | exact ⟨_, by assumption⟩ | refine jv_h1 (by omega) ?_ | refine jv_h0 ?_ | refine jv_hs ?_)) (by exact rfl) ?_
          refine jv_aload_n dX8_level_49 rfl ?_
          refine jv_getf dX8_level_50 jf_X8_96 (by repeat' (first | assumption | exact ⟨_, by assumption⟩ | refine jv_h1 (by omega) ?_ | refine jv_h0 ?_ | refine jv_hs ?_)) (by exact rfl) ?_
          refine jv_iconst dX8_level_53 ?_
          refine jv_isub dX8_level_54 ?_
          refine jv_iald dX8_level_55 (by repeat' (first | assumption | exact ⟨_, by assumption⟩ | refine jv_h1 (by omega) ?_ | refine jv_h0 ?_ | refine jv_hs ?_)) ?_
          refine jv_icmp_le 74 dX8_level_56 (fun c56 => ?_) (fun c56 => ?_)
          · refine jv_iconst dX8_level_74 ?_
            exact jv_iret dX8_level_75 hq (hp2 (fun z => by omega))
          · refine jv_iload_n dX8_level_59 rfl ?_
            refine jv_aload_n dX8_level_60 rfl ?_
            refine jv_getf dX8_level_61 jf_X8_22 (by repeat' (first | assumption | exact ⟨_, by assumption⟩ | refine jv_h1 (by omega) ?_ | refine jv_h0 ?_ | refine jv_hs ?_)) (by exact rfl) ?_
            refine jv_aload_n dX8_level_64 rfl ?_
            refine jv_getf dX8_level_65 jf_X8_96 (by repeat' (first | assumption | exact ⟨_, by assumption⟩ | refine jv_h1 (by omega) ?_ | refine jv_h0 ?_ | refine jv_hs ?_)) (by exact rfl) ?_
            refine jv_iconst dX8_level_68 ?_
            refine jv_isub dX8_level_69 ?_
            refine jv_iald dX8_level_70 (by repeat' (first | assumption | exact ⟨_, by assumption⟩ | refine jv_h1 (by omega) ?_ | refine jv_h0 ?_ | refine jv_hs ?_)) ?_
            refine jv_icmp_ge 76 dX8_level_71 (fun c71 => ?_) (fun c71 => ?_)
            · refine jv_aload_n dX8_level_76 rfl ?_
              refine jv_getf dX8_level_77 jf_X8_19 (by repeat' (first | assumption | exact ⟨_, by assumption⟩ | refine jv_h1 (by omega) ?_ | refine jv_h0 ?_ | refine jv_hs ?_)) (by exact rfl) ?_
              refine jv_aload_n dX8_level_80 rfl ?_
              refine jv_getf dX8_level_81 jf_X8_96 (by repeat' (first | assumption | exact ⟨_, by assumption⟩ | refine jv_h1 (by omega) ?_ | refine jv_h0 ?_ | refine jv_hs ?_)) (by exact rfl) ?_
              refine jv_iload_n dX8_level_84 rfl ?_
              refine jv_iast dX8_level_85 (by repeat' (first | assumption | exact ⟨_, by assumption⟩ | refine jv_h1 (by omega) ?_ | refine jv_h0 ?_ | refine jv_hs ?_)) ?_
              refine jv_aload_n dX8_level_86 rfl ?_
              refine jv_getf dX8_level_87 jf_X8_22 (by repeat' (first | assumption | exact ⟨_, by assumption⟩ | refine jv_h1 (by omega) ?_ | refine jv_h0 ?_ | refine jv_hs ?_)) (by exact rfl) ?_
              refine jv_aload_n dX8_level_90 rfl ?_
              refine jv_getf dX8_level_91 jf_X8_96 (by repeat' (first | assumption | exact ⟨_, by assumption⟩ | refine jv_h1 (by omega) ?_ | refine jv_h0 ?_ | refine jv_hs ?_)) (by exact rfl) ?_
              refine jv_iload_n dX8_level_94 rfl ?_
              refine jv_iast dX8_level_95 (by repeat' (first | assumption | exact ⟨_, by assumption⟩ | refine jv_h1 (by omega) ?_ | refine jv_h0 ?_ | refine jv_hs ?_)) ?_
              refine jv_aload_n dX8_level_96 rfl ?_
              refine jv_dup dX8_level_97 rfl ?_
              refine jv_getf dX8_level_98 jf_X8_96 (by repeat' (first | assumption | exact ⟨_, by assumption⟩ | refine jv_h1 (by omega) ?_ | refine jv_h0 ?_ | refine jv_hs ?_)) (by exact rfl) ?_
              refine jv_iconst dX8_level_101 ?_
              refine jv_iadd dX8_level_102 ?_
              refine jv_putf dX8_level_103 jp_X8_96 (by repeat' (first | assumption | exact ⟨_, by assumption⟩ | refine jv_h1 (by omega) ?_ | refine jv_h0 ?_ | refine jv_hs ?_)) (by exact Nat.le_of_ble_eq_true rfl) ?_
              refine jv_aload_n dX8_level_106 rfl ?_
              refine jv_getf dX8_level_107 jf_X8_96 (by repeat' (first | assumption | exact ⟨_, by assumption⟩ | refine jv_h1 (by omega) ?_ | refine jv_h0 ?_ | refine jv_hs ?_)) (by exact rfl) ?_
              exact jv_iret dX8_level_110 hq (hp1 (by omega) _ (by repeat' (first | assumption | exact ⟨_, by assumption⟩ | refine jv_h1 (by omega) ?_ | refine jv_h0 ?_ | refine jv_hs ?_)) ⟨(by repeat' (first | assumption | exact ⟨_, by assumption⟩ | refine jv_h1 (by omega) ?_ | refine jv_h0 ?_ | refine jv_hs ?_)), (by repeat' (first | assumption | exact ⟨_, by assumption⟩ | refine jv_h1 (by omega) ?_ | refine jv_h0 ?_ | refine jv_hs ?_))⟩ (jv_fs_set (by decide) (jv_fs_set (by decide) (jv_fs_set (by decide) jv_fs_rf)))) (by first | rfl | decide)
            · refine jv_iconst dX8_level_74 ?_
              exact jv_iret dX8_level_75 hq (hp2 (fun z => by omega))
      · refine jv_iconst dX8_level_35 ?_
        exact jv_iret dX8_level_36 hq (hp2 (fun z => by omega))
theorem ct_X8_below {mm : Int} (K : Nat) (o : jw_O h rr n cu si st at_ wr da ra wa) (w : jw_MP h lv ar) (hP : jq_P n lv ar co) (hm : jq_rg mm) (hp1 : jq_re n lv mm → post (some (.int (jv_i (jq_lu lv mm n)))) h) (hp2 : ¬ jq_re n lv mm → post (some (.int (jv_i (-1)))) h) : jv_Ct yX8_below cX8_below 3 (some .int) K [.ref 97, .int (jv_i mm)] h post := by
  unfold jw_O at o
  obtain ⟨w1, w2⟩ := w
  have hn := hP.1
  have a1 := (hP.2.1 0).1
  have a2 := (hP.2.1 (n - 1)).1
  unfold jq_rg at hm
  unfold jq_re at hp1 hp2
  refine jv_entry (own := RX8) (by decide) rfl (Nat.le_of_ble_eq_true rfl) (fun X hq => ?_)
  have loop : ∀ (f : Nat) (k : Int), (1 ≤ n ∧ lv 0 ≤ mm ∧ mm ≤ lv (n - 1)) → 0 ≤ k → k < n → n ≤ k + f → (k = 0 ∨ lv k ≤ mm) → jv_J X cX8_below RX8 K 36 [some (.ref 97), some (.int (jv_i mm)), some (.int (jv_i k))] [] h := by
    intro f
    induction f with
    | zero => intro k hr h0 h1 h2; omega
    | succ f ih =>
      intro k hr h0 h1 h2 h3
      have r1 := (hP.2.1 (k + 1)).1
      refine jv_iload_n dX8_below_36 rfl ?_
      refine jv_iconst dX8_below_37 ?_
      refine jv_iadd dX8_below_38 ?_
      refine jv_aload_n dX8_below_39 rfl ?_
      refine jv_getf dX8_below_40 jf_X8_96 (by repeat' (first | assumption | exact ⟨_, by assumption⟩ | refine jv_h1 (by omega) ?_ | refine jv_h0 ?_ | refine jv_hs ?_)) (by exact rfl) ?_
      refine jv_icmp_ge 64 dX8_below_43 (fun c43 => ?_) (fun c43 => ?_)
      · refine jv_iload_n dX8_below_64 rfl ?_
        exact jv_iret dX8_below_65 hq (by have := hp1 hr; rw [jq_lu_un hP ⟨h0, h1⟩ h3 (by omega)] at this; exact this)
      · refine jv_aload_n dX8_below_46 rfl ?_
        refine jv_getf dX8_below_47 jf_X8_19 (by repeat' (first | assumption | exact ⟨_, by assumption⟩ | refine jv_h1 (by omega) ?_ | refine jv_h0 ?_ | refine jv_hs ?_)) (by exact rfl) ?_
        refine jv_iload_n dX8_below_50 rfl ?_
        refine jv_iconst dX8_below_51 ?_
        refine jv_iadd dX8_below_52 ?_
        refine jv_iald dX8_below_53 (by repeat' (first | assumption | exact ⟨_, by assumption⟩ | refine jv_h1 (by omega) ?_ | refine jv_h0 ?_ | refine jv_hs ?_)) ?_
        refine jv_iload_n dX8_below_54 rfl ?_
        refine jv_icmp_gt 64 dX8_below_55 (fun c55 => ?_) (fun c55 => ?_)
        · refine jv_iload_n dX8_below_64 rfl ?_
          exact jv_iret dX8_below_65 hq (by have := hp1 hr; rw [jq_lu_un hP ⟨h0, h1⟩ h3 (fun _ => c55)] at this; exact this)
        · refine jv_iinc dX8_below_58 rfl rfl ?_
          refine jv_goto 36 dX8_below_61 ?_
          exact ih (k + 1) hr (by omega) (by omega) (by omega) (Or.inr c55)
  refine jv_aload_n dX8_below_0 rfl ?_
  refine jv_getf dX8_below_1 jf_X8_96 (by repeat' (first | assumption | exact ⟨_, by assumption⟩ | refine jv_h1 (by omega) ?_ | refine jv_h0 ?_ | refine jv_hs ?_)) (by exact rfl) ?_
  refine jv_if_eq 32 dX8_below_4 (fun c4 => ?_) (fun c4 => ?_)
  · refine jv_iconst dX8_below_32 ?_
    exact jv_iret dX8_below_33 hq (hp2 (by omega))
  · refine jv_iload_n dX8_below_7 rfl ?_
    refine jv_aload_n dX8_below_8 rfl ?_
    refine jv_getf dX8_below_9 jf_X8_19 (by repeat' (first | assumption | exact ⟨_, by assumption⟩ | refine jv_h1 (by omega) ?_ | refine jv_h0 ?_ | refine jv_hs ?_)) (by exact rfl) ?_
    refine jv_iconst dX8_below_12 ?_
    refine jv_iald dX8_below_13 (by repeat' (first | assumption | exact ⟨_, by assumption⟩ | refine jv_h1 (by omega) ?_ | refine jv_h0 ?_ | refine jv_hs ?_)) ?_
    refine jv_icmp_lt 32 dX8_below_14 (fun c14 => ?_) (fun c14 => ?_)
    · refine jv_iconst dX8_below_32 ?_
      exact jv_iret dX8_below_33 hq (hp2 (by omega))
    · refine jv_iload_n dX8_below_17 rfl ?_
      refine jv_aload_n dX8_below_18 rfl ?_
      refine jv_getf dX8_below_19 jf_X8_19 (by repeat' (first | assumption | exact ⟨_, by assumption⟩ | refine jv_h1 (by omega) ?_ | refine jv_h0 ?_ | refine jv_hs ?_)) (by exact rfl) ?_
      refine jv_aload_n dX8_below_22 rfl ?_
      refine jv_getf dX8_below_23 jf_X8_96 (by repeat' (first | assumption | exact ⟨_, by assumption⟩ | refine jv_h1 (by omega) ?_ | refine jv_h0 ?_ | refine jv_hs ?_)) (by exact rfl) ?_
      refine jv_iconst dX8_below_26 ?_
      refine jv_isub dX8_below_27 ?_
      refine jv_iald dX8_below_28 (by repeat' (first | assumption | exact ⟨_, by assumption⟩ | refine jv_h1 (by omega) ?_ | refine jv_h0 ?_ | refine jv_hs ?_)) ?_
      refine jv_icmp_le 34 dX8_below_29 (fun c29 => ?_) (fun c29 => ?_)
      · refine jv_iconst dX8_below_34 ?_
        refine jv_istore_n dX8_below_35 rfl (Nat.le_of_ble_eq_true rfl) ?_
        exact loop n 0 (by omega) (by omega) (by omega) (by omega) (Or.inl rfl)
      · refine jv_iconst dX8_below_32 ?_
        exact jv_iret dX8_below_33 hq (hp2 (by omega))
theorem ct_X8_area {mm : Int} (K : Nat) (o : jw_O h rr n cu si st at_ wr da ra wa) (w : jw_MP h lv ar) (hP : jq_P n lv ar co) (hm : jq_rg mm) (hp : ∀ r : Int, (jq_re n lv mm → r = jq_aa n lv ar mm) → (¬ jq_re n lv mm → r = -1) → post (some (.int (jv_i r))) h) : jv_Ct yX8_area cX8_area 4 (some .int) (K + 1) [.ref 97, .int (jv_i mm)] h post := by
  have o9 := o
  have w9 := w
  unfold jw_O at o
  obtain ⟨w1, w2⟩ := w
  have hn := hP.1
  have hm2 := hm
  unfold jq_rg at hm
  refine jv_entry (own := RX8) (by decide) rfl (Nat.le_of_ble_eq_true rfl) (fun X hq => ?_)
  refine jv_aload_n dX8_area_0 rfl ?_
  refine jv_iload_n dX8_area_1 rfl ?_
  refine jv_cV dX8_area_2 jm_X8_99 rfl (by repeat' (first | assumption | exact ⟨_, by assumption⟩ | refine jv_h1 (by omega) ?_ | refine jv_h0 ?_ | refine jv_hs ?_)) rfl (ct_X8_below K o9 w9 hP hm2 (fun hr => ?_) (fun hr => ?_))
  · obtain ⟨g1, g2, g3⟩ := jq_lu_at hP hr
    have s0 := hP.2.2.1 (jq_lu lv mm n) g1.1
    have a1 := hP.2.1 (jq_lu lv mm n)
    have a2 := hP.2.1 (jq_lu lv mm n + 1)
    have hp := fun r q => hp r q (fun z => absurd hr z)
    have z3 := hr.2.2
    have a5 := (hP.2.1 (n - 1)).1
    unfold jq_aa at hp
    generalize jq_lu lv mm n = k at *
    refine jv_istore_n dX8_area_5 rfl (Nat.le_of_ble_eq_true rfl) ?_
    refine jv_iload_n dX8_area_6 rfl ?_
    refine jv_iconst dX8_area_7 ?_
    refine jv_icmp_ne 13 dX8_area_8 (fun c8 => ?_) (fun c8 => ?_)
    · refine jv_iload_n dX8_area_13 rfl ?_
      refine jv_aload_n dX8_area_14 rfl ?_
      refine jv_getf dX8_area_15 jf_X8_19 (by repeat' (first | assumption | exact ⟨_, by assumption⟩ | refine jv_h1 (by omega) ?_ | refine jv_h0 ?_ | refine jv_hs ?_)) (by exact rfl) ?_
      refine jv_iload_n dX8_area_18 rfl ?_
      refine jv_iald dX8_area_19 (by repeat' (first | assumption | exact ⟨_, by assumption⟩ | refine jv_h1 (by omega) ?_ | refine jv_h0 ?_ | refine jv_hs ?_)) ?_
      refine jv_isub dX8_area_20 ?_
      refine jv_istore_n dX8_area_21 rfl (Nat.le_of_ble_eq_true rfl) ?_
      refine jv_iload_n dX8_area_22 rfl ?_
      refine jv_if_ne 35 dX8_area_23 (fun c23 => ?_) (fun c23 => ?_)
      · have lt : k + 1 < n := by
          rcases (show k + 1 < n ∨ n ≤ k + 1 by omega) with z | z
          · exact z
          · have e : k = n - 1 := by omega
            rw [← e] at z3
            omega
        have s1 := s0 lt
        have m1 := jq_mul (a := ar (k + 1) - ar k) (b := mm - lv k) (A := 1000000) (B := 200000) (by omega) (by have := g3 lt; omega)
        refine jv_aload_n dX8_area_35 rfl ?_
        refine jv_getf dX8_area_36 jf_X8_22 (by repeat' (first | assumption | exact ⟨_, by assumption⟩ | refine jv_h1 (by omega) ?_ | refine jv_h0 ?_ | refine jv_hs ?_)) (by exact rfl) ?_
        refine jv_iload_n dX8_area_39 rfl ?_
        refine jv_iald dX8_area_40 (by repeat' (first | assumption | exact ⟨_, by assumption⟩ | refine jv_h1 (by omega) ?_ | refine jv_h0 ?_ | refine jv_hs ?_)) ?_
        refine jv_aload_n dX8_area_41 rfl ?_
        refine jv_getf dX8_area_42 jf_X8_22 (by repeat' (first | assumption | exact ⟨_, by assumption⟩ | refine jv_h1 (by omega) ?_ | refine jv_h0 ?_ | refine jv_hs ?_)) (by exact rfl) ?_
        refine jv_iload_n dX8_area_45 rfl ?_
        refine jv_iconst dX8_area_46 ?_
        refine jv_iadd dX8_area_47 ?_
        refine jv_iald dX8_area_48 (by repeat' (first | assumption | exact ⟨_, by assumption⟩ | refine jv_h1 (by omega) ?_ | refine jv_h0 ?_ | refine jv_hs ?_)) ?_
        refine jv_aload_n dX8_area_49 rfl ?_
        refine jv_getf dX8_area_50 jf_X8_22 (by repeat' (first | assumption | exact ⟨_, by assumption⟩ | refine jv_h1 (by omega) ?_ | refine jv_h0 ?_ | refine jv_hs ?_)) (by exact rfl) ?_
        refine jv_iload_n dX8_area_53 rfl ?_
        refine jv_iald dX8_area_54 (by repeat' (first | assumption | exact ⟨_, by assumption⟩ | refine jv_h1 (by omega) ?_ | refine jv_h0 ?_ | refine jv_hs ?_)) ?_
        refine jv_isub dX8_area_55 ?_
        refine jv_i2l dX8_area_56 ?_
        refine jv_iload_n dX8_area_57 rfl ?_
        refine jv_i2l dX8_area_58 ?_
        refine jv_lmul dX8_area_59 ?_
        refine jv_aload_n dX8_area_60 rfl ?_
        refine jv_getf dX8_area_61 jf_X8_19 (by repeat' (first | assumption | exact ⟨_, by assumption⟩ | refine jv_h1 (by omega) ?_ | refine jv_h0 ?_ | refine jv_hs ?_)) (by exact rfl) ?_
        refine jv_iload_n dX8_area_64 rfl ?_
        refine jv_iconst dX8_area_65 ?_
        refine jv_iadd dX8_area_66 ?_
        refine jv_iald dX8_area_67 (by repeat' (first | assumption | exact ⟨_, by assumption⟩ | refine jv_h1 (by omega) ?_ | refine jv_h0 ?_ | refine jv_hs ?_)) ?_
        refine jv_aload_n dX8_area_68 rfl ?_
        refine jv_getf dX8_area_69 jf_X8_19 (by repeat' (first | assumption | exact ⟨_, by assumption⟩ | refine jv_h1 (by omega) ?_ | refine jv_h0 ?_ | refine jv_hs ?_)) (by exact rfl) ?_
        refine jv_iload_n dX8_area_72 rfl ?_
        refine jv_iald dX8_area_73 (by repeat' (first | assumption | exact ⟨_, by assumption⟩ | refine jv_h1 (by omega) ?_ | refine jv_h0 ?_ | refine jv_hs ?_)) ?_
        refine jv_isub dX8_area_74 ?_
        refine jv_i2l dX8_area_75 ?_
        refine jv_ldiv dX8_area_76 ?_
        refine jv_l2i dX8_area_77 ?_
        refine jv_iadd dX8_area_78 ?_
        exact jv_iret dX8_area_79 hq (hp _ (fun _ => by rw [if_neg (by omega)]))
      · refine jv_aload_n dX8_area_26 rfl ?_
        refine jv_getf dX8_area_27 jf_X8_22 (by repeat' (first | assumption | exact ⟨_, by assumption⟩ | refine jv_h1 (by omega) ?_ | refine jv_h0 ?_ | refine jv_hs ?_)) (by exact rfl) ?_
        refine jv_iload_n dX8_area_30 rfl ?_
        refine jv_iald dX8_area_31 (by repeat' (first | assumption | exact ⟨_, by assumption⟩ | refine jv_h1 (by omega) ?_ | refine jv_h0 ?_ | refine jv_hs ?_)) ?_
        refine jv_goto 79 dX8_area_32 ?_
        exact jv_iret dX8_area_79 hq (hp _ (fun _ => by
        split
        · rfl
        · rw [show mm - lv k = 0 by omega, Int.mul_zero, Int.zero_ediv, Int.add_zero]))
    · exact absurd c8 (by omega)
  · refine jv_istore_n dX8_area_5 rfl (Nat.le_of_ble_eq_true rfl) ?_
    refine jv_iload_n dX8_area_6 rfl ?_
    refine jv_iconst dX8_area_7 ?_
    refine jv_icmp_ne 13 dX8_area_8 (fun c8 => absurd rfl c8) (fun c8 => ?_)
    refine jv_iconst dX8_area_11 ?_
    exact jv_iret dX8_area_12 hq (hp _ (fun z => absurd z hr) (fun _ => rfl))
theorem ct_X8_content {mm : Int} (K : Nat) (o : jw_O h rr n cu si st at_ wr da ra wa) (w : jw_MP h lv ar) (hP : jq_P n lv ar co) (hm : jq_rg mm) (hp : ∀ r : Int, (jq_re n lv mm → r = jq_cc n lv ar co mm) → (¬ jq_re n lv mm → r = -1) → post (some (.long (jv_l r))) h) : jv_Ct yX8_content cX8_content 6 (some .long) (K + 2) [.ref 97, .int (jv_i mm)] h post := by
  have o9 := o
  have w9 := w
  unfold jw_O at o
  obtain ⟨w1, w2⟩ := w
  have hn := hP.1
  have hm2 := hm
  unfold jq_rg at hm
  have m5 : ∀ a b : Int, 5 * a * b = a * b * 5 := fun a b => by rw [Int.mul_assoc, Int.mul_comm]
  refine jv_entry (own := RX8) (by decide) rfl (Nat.le_of_ble_eq_true rfl) (fun X hq => ?_)
  have loop : ∀ (f : Nat) (i : Int), jq_re n lv mm → 0 ≤ i → jq_lu lv mm n = i + f → jv_J X cX8_content RX8 (K + 2) 20 [some (.ref 97), some (.int (jv_i mm)), some (.int (jv_i (jq_lu lv mm n))), some (.long (jv_l (co i))), none, some (.int (jv_i i))] [] h := by
    intro f
    induction f with
    | zero =>
      intro i hr h0 h1
      obtain ⟨g1, g2, g3⟩ := jq_lu_at hP hr
      have b1 := jq_aa_in hP hr
      have hp := hp (jq_cc n lv ar co mm) (fun _ => rfl) (fun z => absurd hr z)
      unfold jq_cc at hp
      rw [← m5] at hp
      have e : i = jq_lu lv mm n := by omega
      rw [e]
      have a1 := hP.2.1 (jq_lu lv mm n)
      have a3 := (hP.2.1 (n - 1)).1
      have a4 := hr.2.2
      refine jv_iload dX8_content_20 rfl ?_
      refine jv_iload_n dX8_content_22 rfl ?_
      refine jv_icmp_ge 76 dX8_content_23 (fun c23 => ?_) (fun c23 => ?_)
      · refine jv_lload_n dX8_content_76 rfl ?_
        refine jv_ldc2 dX8_content_77 jk_X8_103 ?_
        refine jv_aload_n dX8_content_80 rfl ?_
        refine jv_getf dX8_content_81 jf_X8_22 (by repeat' (first | assumption | exact ⟨_, by assumption⟩ | refine jv_h1 (by omega) ?_ | refine jv_h0 ?_ | refine jv_hs ?_)) (by exact rfl) ?_
        refine jv_iload_n dX8_content_84 rfl ?_
        refine jv_iald dX8_content_85 (by repeat' (first | assumption | exact ⟨_, by assumption⟩ | refine jv_h1 (by omega) ?_ | refine jv_h0 ?_ | refine jv_hs ?_)) ?_
        refine jv_aload_n dX8_content_86 rfl ?_
        refine jv_iload_n dX8_content_87 rfl ?_
        refine jv_cV dX8_content_88 jm_X8_105 rfl (by repeat' (first | assumption | exact ⟨_, by assumption⟩ | refine jv_h1 (by omega) ?_ | refine jv_h0 ?_ | refine jv_hs ?_)) rfl (ct_X8_area K o9 w9 hP hm2 (fun r q1 q2 => ?_))
        rw [q1 hr]
        refine jv_iadd dX8_content_91 ?_
        refine jv_i2l dX8_content_92 ?_
        refine jv_lmul dX8_content_93 ?_
        refine jv_iload_n dX8_content_94 rfl ?_
        refine jv_aload_n dX8_content_95 rfl ?_
        refine jv_getf dX8_content_96 jf_X8_19 (by repeat' (first | assumption | exact ⟨_, by assumption⟩ | refine jv_h1 (by omega) ?_ | refine jv_h0 ?_ | refine jv_hs ?_)) (by exact rfl) ?_
        refine jv_iload_n dX8_content_99 rfl ?_
        refine jv_iald dX8_content_100 (by repeat' (first | assumption | exact ⟨_, by assumption⟩ | refine jv_h1 (by omega) ?_ | refine jv_h0 ?_ | refine jv_hs ?_)) ?_
        refine jv_isub dX8_content_101 ?_
        refine jv_i2l dX8_content_102 ?_
        refine jv_lmul dX8_content_103 ?_
        refine jv_ladd dX8_content_104 ?_
        exact jv_lret dX8_content_105 hq (hp)
      · exact absurd c23 (by omega)
    | succ f ih =>
      intro i hr h0 h1
      obtain ⟨g1, g2, g3⟩ := jq_lu_at hP hr
      have a1 := hP.2.1 i
      have a2 := hP.2.1 (i + 1)
      have s0 := hP.2.2.1 i h0 (by omega)
      have nx := ih (i + 1) hr (by omega) (by omega)
      rw [s0.2.2, ← m5] at nx
      refine jv_iload dX8_content_20 rfl ?_
      refine jv_iload_n dX8_content_22 rfl ?_
      refine jv_icmp_ge 76 dX8_content_23 (fun c23 => ?_) (fun c23 => ?_)
      · exact absurd c23 (by omega)
      · refine jv_lload_n dX8_content_26 rfl ?_
        refine jv_ldc2 dX8_content_27 jk_X8_103 ?_
        refine jv_aload_n dX8_content_30 rfl ?_
        refine jv_getf dX8_content_31 jf_X8_22 (by repeat' (first | assumption | exact ⟨_, by assumption⟩ | refine jv_h1 (by omega) ?_ | refine jv_h0 ?_ | refine jv_hs ?_)) (by exact rfl) ?_
        refine jv_iload dX8_content_34 rfl ?_
        refine jv_iald dX8_content_36 (by repeat' (first | assumption | exact ⟨_, by assumption⟩ | refine jv_h1 (by omega) ?_ | refine jv_h0 ?_ | refine jv_hs ?_)) ?_
        refine jv_aload_n dX8_content_37 rfl ?_
        refine jv_getf dX8_content_38 jf_X8_22 (by repeat' (first | assumption | exact ⟨_, by assumption⟩ | refine jv_h1 (by omega) ?_ | refine jv_h0 ?_ | refine jv_hs ?_)) (by exact rfl) ?_
        refine jv_iload dX8_content_41 rfl ?_
        refine jv_iconst dX8_content_43 ?_
        refine jv_iadd dX8_content_44 ?_
        refine jv_iald dX8_content_45 (by repeat' (first | assumption | exact ⟨_, by assumption⟩ | refine jv_h1 (by omega) ?_ | refine jv_h0 ?_ | refine jv_hs ?_)) ?_
        refine jv_iadd dX8_content_46 ?_
        refine jv_i2l dX8_content_47 ?_
        refine jv_lmul dX8_content_48 ?_
        refine jv_aload_n dX8_content_49 rfl ?_
        refine jv_getf dX8_content_50 jf_X8_19 (by repeat' (first | assumption | exact ⟨_, by assumption⟩ | refine jv_h1 (by omega) ?_ | refine jv_h0 ?_ | refine jv_hs ?_)) (by exact rfl) ?_
        refine jv_iload dX8_content_53 rfl ?_
        refine jv_iconst dX8_content_55 ?_
        refine jv_iadd dX8_content_56 ?_
        refine jv_iald dX8_content_57 (by repeat' (first | assumption | exact ⟨_, by assumption⟩ | refine jv_h1 (by omega) ?_ | refine jv_h0 ?_ | refine jv_hs ?_)) ?_
        refine jv_aload_n dX8_content_58 rfl ?_
        refine jv_getf dX8_content_59 jf_X8_19 (by repeat' (first | assumption | exact ⟨_, by assumption⟩ | refine jv_h1 (by omega) ?_ | refine jv_h0 ?_ | refine jv_hs ?_)) (by exact rfl) ?_
        refine jv_iload dX8_content_62 rfl ?_
        refine jv_iald dX8_content_64 (by repeat' (first | assumption | exact ⟨_, by assumption⟩ | refine jv_h1 (by omega) ?_ | refine jv_h0 ?_ | refine jv_hs ?_)) ?_
        refine jv_isub dX8_content_65 ?_
        refine jv_i2l dX8_content_66 ?_
        refine jv_lmul dX8_content_67 ?_
        refine jv_ladd dX8_content_68 ?_
        refine jv_lstore_n dX8_content_69 rfl (Nat.le_of_ble_eq_true rfl) ?_
        refine jv_iinc dX8_content_70 rfl rfl ?_
        refine jv_goto 20 dX8_content_73 ?_
        exact nx
  refine jv_aload_n dX8_content_0 rfl ?_
  refine jv_iload_n dX8_content_1 rfl ?_
  refine jv_cV dX8_content_2 jm_X8_99 rfl (by repeat' (first | assumption | exact ⟨_, by assumption⟩ | refine jv_h1 (by omega) ?_ | refine jv_h0 ?_ | refine jv_hs ?_)) rfl (ct_X8_below (K + 1) o9 w9 hP hm2 (fun hr => ?_) (fun hr => ?_))
  · have e0 : co 0 = 0 := hP.2.2.2 (by have := hr.1; omega)
    obtain ⟨g1, g2, g3⟩ := jq_lu_at hP hr
    have lp := loop (jq_lu lv mm n).toNat 0 hr (by omega) (by omega)
    rw [e0] at lp
    refine jv_istore_n dX8_content_5 rfl (Nat.le_of_ble_eq_true rfl) ?_
    refine jv_iload_n dX8_content_6 rfl ?_
    refine jv_iconst dX8_content_7 ?_
    refine jv_icmp_ne 15 dX8_content_8 (fun c8 => ?_) (fun c8 => absurd c8 (by omega))
    refine jv_lconst 0 dX8_content_15 ?_
    refine jv_lstore_n dX8_content_16 rfl (Nat.le_of_ble_eq_true rfl) ?_
    refine jv_iconst dX8_content_17 ?_
    refine jv_istore dX8_content_18 rfl (Nat.le_of_ble_eq_true rfl) ?_
    exact lp
  · refine jv_istore_n dX8_content_5 rfl (Nat.le_of_ble_eq_true rfl) ?_
    refine jv_iload_n dX8_content_6 rfl ?_
    refine jv_iconst dX8_content_7 ?_
    refine jv_icmp_ne 15 dX8_content_8 (fun c8 => absurd rfl c8) (fun c8 => ?_)
    refine jv_ldc2 dX8_content_11 jk_X8_90 ?_
    exact jv_lret dX8_content_14 hq (hp _ (fun z => absurd z hr) (fun _ => rfl))
theorem ct_X8_fill {wt : Int} (K : Nat) (o : jw_O h rr n cu si st at_ wr da ra wa) (w : jw_MP h lv ar) (hP : jq_P n lv ar co) (hw : -9223372036854775808 ≤ wt ∧ wt ≤ 9223372036854775807) (hp : post (some (.int (jv_i (jq_fil n lv ar co wt)))) h) : jv_Ct yX8_fill cX8_fill 6 (some .int) (K + 3) [.ref 97, .long (jv_l wt)] h post := by
  have o9 := o
  have w9 := w
  unfold jw_O at o
  obtain ⟨w1, w2⟩ := w
  have hn := hP.1
  have a4 := (hP.2.1 0).1
  have a5 := (hP.2.1 (n - 1)).1
  refine jv_entry (own := RX8) (by decide) rfl (Nat.le_of_ble_eq_true rfl) (fun X hq => ?_)
  have loop : ∀ (k : Nat) (a b : Int), 1 ≤ n → lv 0 ≤ a → b ≤ lv (n - 1) → a ≤ b → b - a < 2 ^ k → post (some (.int (jv_i (jq_bs (jq_cc n lv ar co) wt k a b)))) h → jv_J X cX8_fill RX8 (K + 3) 56 [some (.ref 97), some (.long (jv_l wt)), none, some (.int (jv_i a)), some (.int (jv_i b)), none] [] h := by
    intro k
    induction k with
    | zero =>
      intro a b h2 h3 h4 h5 h6 hp
      have h7 : b - a < 1 := by simpa using h6
      refine jv_iload_n dX8_fill_56 rfl ?_
      refine jv_iload dX8_fill_57 rfl ?_
      refine jv_icmp_ge 100 dX8_fill_59 (fun c59 => ?_) (fun c59 => ?_)
      · refine jv_iload_n dX8_fill_100 rfl ?_
        exact jv_iret dX8_fill_101 hq (hp) (by first | rfl | decide)
      · exact absurd c59 (by omega)
    | succ k ih =>
      intro a b h2 h3 h4 h5 h6 hp
      rw [jq_bs] at hp
      have h7 : b - a < 2 * 2 ^ k := by rw [Int.pow_succ] at h6; omega
      generalize (2 : Int) ^ k = p at *
      refine jv_iload_n dX8_fill_56 rfl ?_
      refine jv_iload dX8_fill_57 rfl ?_
      refine jv_icmp_ge 100 dX8_fill_59 (fun c59 => ?_) (fun c59 => ?_)
      · refine jv_iload_n dX8_fill_100 rfl ?_
        exact jv_iret dX8_fill_101 hq (by rwa [if_neg (by omega)] at hp) (by first | rfl | decide)
      · refine jv_iload_n dX8_fill_62 rfl ?_
        refine jv_iload dX8_fill_63 rfl ?_
        refine jv_iload_n dX8_fill_65 rfl ?_
        refine jv_isub dX8_fill_66 ?_
        refine jv_iconst dX8_fill_67 ?_
        refine jv_iadd dX8_fill_68 ?_
        refine jv_iconst dX8_fill_69 ?_
        refine jv_idiv dX8_fill_70 ?_
        refine jv_iadd dX8_fill_71 ?_
        refine jv_istore dX8_fill_72 rfl (Nat.le_of_ble_eq_true rfl) ?_
        refine jv_aload_n dX8_fill_74 rfl ?_
        refine jv_iload dX8_fill_75 rfl ?_
        have re : jq_re n lv (a + (b - a + 1) / 2) := ⟨h2, by omega, by omega⟩
        have ci := jq_cc_in hP re
        refine jv_cV dX8_fill_77 jm_X8_108 rfl (by repeat' (first | assumption | exact ⟨_, by assumption⟩ | refine jv_h1 (by omega) ?_ | refine jv_h0 ?_ | refine jv_hs ?_)) rfl (ct_X8_content K o9 w9 hP (by unfold jq_rg; omega) (fun r q1 q2 => ?_))
        rw [q1 re]
        refine jv_lload_n dX8_fill_80 rfl ?_
        refine jv_lcmp_gt 91 dX8_fill_81 dX8_fill_82 (fun c81 => ?_) (fun c81 => ?_)
        · refine jv_iload dX8_fill_91 rfl ?_
          refine jv_iconst dX8_fill_93 ?_
          refine jv_isub dX8_fill_94 ?_
          refine jv_istore dX8_fill_95 rfl (Nat.le_of_ble_eq_true rfl) ?_
          refine jv_goto 56 dX8_fill_97 ?_
          exact jv_les (by repeat' (first | exact True.intro | exact rfl | apply And.intro)) (ih a _ h2 h3 (by omega) (by omega) (by omega) (by rwa [if_pos c59, if_neg (by omega)] at hp))
        · refine jv_iload dX8_fill_85 rfl ?_
          refine jv_istore_n dX8_fill_87 rfl (Nat.le_of_ble_eq_true rfl) ?_
          refine jv_goto 97 dX8_fill_88 ?_
          refine jv_goto 56 dX8_fill_97 ?_
          exact jv_les (by repeat' (first | exact True.intro | exact rfl | apply And.intro)) (ih _ b h2 (by omega) h4 (by omega) (by omega) (by rwa [if_pos c59, if_pos (by omega)] at hp))
  unfold jq_fil at hp
  have z0 : 1 ≤ n → 0 ≤ co (n - 1) ∧ co (n - 1) ≤ 40000000000000 := fun q => by
    have := jq_co_in hP (n - 1) (by omega)
    rw [show ((n - 1 : Nat) : Int) = (n : Int) - 1 by omega] at this
    omega
  refine jv_aload_n dX8_fill_0 rfl ?_
  refine jv_getf dX8_fill_1 jf_X8_96 (by repeat' (first | assumption | exact ⟨_, by assumption⟩ | refine jv_h1 (by omega) ?_ | refine jv_h0 ?_ | refine jv_hs ?_)) (by exact rfl) ?_
  refine jv_if_eq 33 dX8_fill_4 (fun c4 => ?_) (fun c4 => ?_)
  · refine jv_ldc dX8_fill_33 jk_X8_112 ?_
    exact jv_iret dX8_fill_35 hq (by rw [if_pos (by omega)] at hp; exact hp)
  · refine jv_lload_n dX8_fill_7 rfl ?_
    refine jv_lconst 0 dX8_fill_8 ?_
    refine jv_lcmp_lt 33 dX8_fill_9 dX8_fill_10 (fun c9 => ?_) (fun c9 => ?_)
    · refine jv_ldc dX8_fill_33 jk_X8_112 ?_
      exact jv_iret dX8_fill_35 hq (by rw [if_pos (by omega)] at hp; exact hp)
    · refine jv_lload_n dX8_fill_13 rfl ?_
      refine jv_aload_n dX8_fill_14 rfl ?_
      refine jv_aload_n dX8_fill_15 rfl ?_
      refine jv_getf dX8_fill_16 jf_X8_19 (by repeat' (first | assumption | exact ⟨_, by assumption⟩ | refine jv_h1 (by omega) ?_ | refine jv_h0 ?_ | refine jv_hs ?_)) (by exact rfl) ?_
      refine jv_aload_n dX8_fill_19 rfl ?_
      refine jv_getf dX8_fill_20 jf_X8_96 (by repeat' (first | assumption | exact ⟨_, by assumption⟩ | refine jv_h1 (by omega) ?_ | refine jv_h0 ?_ | refine jv_hs ?_)) (by exact rfl) ?_
      refine jv_iconst dX8_fill_23 ?_
      refine jv_isub dX8_fill_24 ?_
      refine jv_iald dX8_fill_25 (by repeat' (first | assumption | exact ⟨_, by assumption⟩ | refine jv_h1 (by omega) ?_ | refine jv_h0 ?_ | refine jv_hs ?_)) ?_
      have z1 := z0 (by omega)
      have z9 := jq_lv9 hP (by omega)
      refine jv_cV dX8_fill_26 jm_X8_108 rfl (by repeat' (first | assumption | exact ⟨_, by assumption⟩ | refine jv_h1 (by omega) ?_ | refine jv_h0 ?_ | refine jv_hs ?_)) rfl (ct_X8_content K o9 w9 hP (by unfold jq_rg; omega) (fun r q1 q2 => ?_))
      rw [q1 ⟨by omega, z9, Int.le_refl _⟩, jq_cc_top hP (by omega)]
      refine jv_lcmp_le 36 dX8_fill_29 dX8_fill_30 (fun c29 => ?_) (fun c29 => ?_)
      · refine jv_aload_n dX8_fill_36 rfl ?_
        refine jv_getf dX8_fill_37 jf_X8_19 (by repeat' (first | assumption | exact ⟨_, by assumption⟩ | refine jv_h1 (by omega) ?_ | refine jv_h0 ?_ | refine jv_hs ?_)) (by exact rfl) ?_
        refine jv_iconst dX8_fill_40 ?_
        refine jv_iald dX8_fill_41 (by repeat' (first | assumption | exact ⟨_, by assumption⟩ | refine jv_h1 (by omega) ?_ | refine jv_h0 ?_ | refine jv_hs ?_)) ?_
        refine jv_istore_n dX8_fill_42 rfl (Nat.le_of_ble_eq_true rfl) ?_
        refine jv_aload_n dX8_fill_43 rfl ?_
        refine jv_getf dX8_fill_44 jf_X8_19 (by repeat' (first | assumption | exact ⟨_, by assumption⟩ | refine jv_h1 (by omega) ?_ | refine jv_h0 ?_ | refine jv_hs ?_)) (by exact rfl) ?_
        refine jv_aload_n dX8_fill_47 rfl ?_
        refine jv_getf dX8_fill_48 jf_X8_96 (by repeat' (first | assumption | exact ⟨_, by assumption⟩ | refine jv_h1 (by omega) ?_ | refine jv_h0 ?_ | refine jv_hs ?_)) (by exact rfl) ?_
        refine jv_iconst dX8_fill_51 ?_
        refine jv_isub dX8_fill_52 ?_
        refine jv_iald dX8_fill_53 (by repeat' (first | assumption | exact ⟨_, by assumption⟩ | refine jv_h1 (by omega) ?_ | refine jv_h0 ?_ | refine jv_hs ?_)) ?_
        refine jv_istore dX8_fill_54 rfl (Nat.le_of_ble_eq_true rfl) ?_
        exact loop 20 _ _ (by omega) (by omega) (by omega) z9 (by omega) (by rw [if_neg (by omega)] at hp; exact hp)
      · refine jv_ldc dX8_fill_33 jk_X8_112 ?_
        exact jv_iret dX8_fill_35 hq (by rw [if_pos (by omega)] at hp; exact hp)
end MP
end
section
/-! THE WAY: the face's and the reference's -/
def jq_okW (n mm : Int) : Prop := (-100000 ≤ mm ∧ mm ≤ 100000) ∧ n < 50
section WY
variable {h : List jv_E} {t d : Nat} {n : Int} {f : Int → Int} {post : Option Value → List jv_E → Prop}
theorem ct_X7_way {mm : Int} (K : Nat) (b : jw_B h t d) (w : jw_W h n f) (hn : 0 ≤ n ∧ n ≤ 50) (hm : jq_rg mm) (hp1 : jq_okW n mm → ∀ h', jw_W h' (n + 1) (jv_up f n mm) → jv_fr 95 96 h h' → post (some (.int (jv_i (n + 1)))) h') (hp2 : ¬ jq_okW n mm → post (some (.int (jv_i (-1)))) h) : jv_Ct yX7_way cX7_way 2 (some .int) (K + 1) [.ref 0, .int (jv_i mm)] h post := by
  unfold jw_B at b
  have w1 := w.1
  unfold jq_rg at hm
  unfold jq_okW at hp1 hp2
  refine jv_entry (own := RX7) (by decide) rfl (Nat.le_of_ble_eq_true rfl) (fun X hq => ?_)
  refine jv_iload_n dX7_way_0 rfl ?_
  refine jv_i2l dX7_way_1 ?_
  refine jv_ldc2 dX7_way_2 jk_X7_102 ?_
  refine jv_ldc2 dX7_way_5 jk_X7_69 ?_
  refine jv_cS dX7_way_8 jm_X7_63 (ct_X7_within K (fun r1 q11 q12 q13 => ?_))
  refine jv_if_eq 25 dX7_way_11 (fun c11 => ?_) (fun c11 => ?_)
  · refine jv_iconst dX7_way_25 ?_
    exact jv_iret dX7_way_26 hq (hp2 (by omega)) (by first | rfl | decide)
  · refine jv_aload_n dX7_way_14 rfl ?_
    refine jv_getf dX7_way_15 jf_X7_57 (by repeat' (first | assumption | exact ⟨_, by assumption⟩ | refine jv_h1 (by omega) ?_ | refine jv_h0 ?_ | refine jv_hs ?_)) (by exact rfl) ?_
    refine jv_iload_n dX7_way_18 rfl ?_
    refine jv_cV dX7_way_19 jm_X7_187 rfl (by repeat' (first | assumption | exact ⟨_, by assumption⟩ | refine jv_h1 (by omega) ?_ | refine jv_h0 ?_ | refine jv_hs ?_)) rfl (ct_X4_add K w hn (fun q h' w' fr => ?_) (fun q => ?_))
    · refine jv_goto 26 dX7_way_22 ?_
      exact jv_iret dX7_way_26 hq (hp1 (by omega) h' w' fr)
    · refine jv_goto 26 dX7_way_22 ?_
      exact jv_iret dX7_way_26 hq (hp2 (by omega))
theorem ct_X7_stops (K : Nat) (b : jw_B h t d) (w : jw_W h n f) (hn : 0 ≤ n ∧ n ≤ 50) (hf : ∀ i, -100000 ≤ f i ∧ f i ≤ 100000) (hp : post (some (.int (jv_i (jq_st f n 50 1)))) h) : jv_Ct yX7_stops cX7_stops 1 (some .int) (K + 1) [.ref 0] h post := by
  unfold jw_B at b
  have w1 := w.1
  refine jv_entry (own := RX7) (by decide) rfl (Nat.le_of_ble_eq_true rfl) (fun X hq => ?_)
  refine jv_aload_n dX7_stops_0 rfl ?_
  refine jv_getf dX7_stops_1 jf_X7_57 (by repeat' (first | assumption | exact ⟨_, by assumption⟩ | refine jv_h1 (by omega) ?_ | refine jv_h0 ?_ | refine jv_hs ?_)) (by exact rfl) ?_
  refine jv_cV dX7_stops_4 jm_X7_189 rfl (by repeat' (first | assumption | exact ⟨_, by assumption⟩ | refine jv_h1 (by omega) ?_ | refine jv_h0 ?_ | refine jv_hs ?_)) rfl (ct_X4_firstNotBelow K w hn hf ?_)
  exact jv_iret dX7_stops_7 hq (hp) (by first | rfl | decide)
end WY
section MW
variable {h : List jv_E} {rr lv cu si st at_ wr da ra n : Int} {f : Int → Int} {post : Option Value → List jv_E → Prop}
theorem ct_X8_way {mm : Int} (K : Nat) (o : jw_O h rr lv cu si st at_ wr da ra n) (w : h[114]? = some (jv_ai 50 f)) (hn : 0 ≤ n ∧ n ≤ 50) (hm : jq_rg mm) (hp1 : jq_okW n mm → ∀ h', jw_O h' rr lv cu si st at_ wr da ra (n + 1) → h'[114]? = some (jv_ai 50 (jv_up f n mm)) → jv_fs [97, 114] h h' → post (some (.int (jv_i (n + 1)))) h') (hp2 : ¬ jq_okW n mm → post (some (.int (jv_i (-1)))) h) : jv_Ct yX8_way cX8_way 2 (some .int) (K + 1) [.ref 97, .int (jv_i mm)] h post := by
  unfold jw_O at o
  unfold jq_rg at hm
  unfold jq_okW at hp1 hp2
  refine jv_entry (own := RX8) (by decide) rfl (Nat.le_of_ble_eq_true rfl) (fun X hq => ?_)
  refine jv_iload_n dX8_way_0 rfl ?_
  refine jv_i2l dX8_way_1 ?_
  refine jv_ldc2 dX8_way_2 jk_X8_94 ?_
  refine jv_ldc2 dX8_way_5 jk_X8_70 ?_
  refine jv_cS dX8_way_8 jm_X8_64 (ct_X8_in K (fun r1 q11 q12 q13 => ?_))
  refine jv_if_eq 23 dX8_way_11 (fun c11 => ?_) (fun c11 => ?_)
  · refine jv_iconst dX8_way_23 ?_
    exact jv_iret dX8_way_24 hq (hp2 (by omega))
  · refine jv_aload_n dX8_way_14 rfl ?_
    refine jv_getf dX8_way_15 jf_X8_192 (by repeat' (first | assumption | exact ⟨_, by assumption⟩ | refine jv_h1 (by omega) ?_ | refine jv_h0 ?_ | refine jv_hs ?_)) (by exact rfl) ?_
    refine jv_bipush dX8_way_18 ?_
    refine jv_icmp_ne 25 dX8_way_20 (fun c20 => ?_) (fun c20 => ?_)
    · refine jv_aload_n dX8_way_25 rfl ?_
      refine jv_getf dX8_way_26 jf_X8_59 (by repeat' (first | assumption | exact ⟨_, by assumption⟩ | refine jv_h1 (by omega) ?_ | refine jv_h0 ?_ | refine jv_hs ?_)) (by exact rfl) ?_
      refine jv_aload_n dX8_way_29 rfl ?_
      refine jv_getf dX8_way_30 jf_X8_192 (by repeat' (first | assumption | exact ⟨_, by assumption⟩ | refine jv_h1 (by omega) ?_ | refine jv_h0 ?_ | refine jv_hs ?_)) (by exact rfl) ?_
      refine jv_iload_n dX8_way_33 rfl ?_
      refine jv_iast dX8_way_34 (by repeat' (first | assumption | exact ⟨_, by assumption⟩ | refine jv_h1 (by omega) ?_ | refine jv_h0 ?_ | refine jv_hs ?_)) ?_
      refine jv_aload_n dX8_way_35 rfl ?_
      refine jv_dup dX8_way_36 rfl ?_
      refine jv_getf dX8_way_37 jf_X8_192 (by repeat' (first | assumption | exact ⟨_, by assumption⟩ | refine jv_h1 (by omega) ?_ | refine jv_h0 ?_ | refine jv_hs ?_)) (by exact rfl) ?_
      refine jv_iconst dX8_way_40 ?_
      refine jv_iadd dX8_way_41 ?_
      refine jv_putf dX8_way_42 jp_X8_192 (by repeat' (first | assumption | exact ⟨_, by assumption⟩ | refine jv_h1 (by omega) ?_ | refine jv_h0 ?_ | refine jv_hs ?_)) (by exact Nat.le_of_ble_eq_true rfl) ?_
      refine jv_aload_n dX8_way_45 rfl ?_
      refine jv_getf dX8_way_46 jf_X8_192 (by repeat' (first | assumption | exact ⟨_, by assumption⟩ | refine jv_h1 (by omega) ?_ | refine jv_h0 ?_ | refine jv_hs ?_)) (by exact rfl) ?_
      exact jv_iret dX8_way_49 hq (hp1 (by omega) _ (by repeat' (first | assumption | exact ⟨_, by assumption⟩ | refine jv_h1 (by omega) ?_ | refine jv_h0 ?_ | refine jv_hs ?_)) (by repeat' (first | assumption | exact ⟨_, by assumption⟩ | refine jv_h1 (by omega) ?_ | refine jv_h0 ?_ | refine jv_hs ?_)) (jv_fs_set (by decide) (jv_fs_set (by decide) jv_fs_rf))) (by first | rfl | decide)
    · refine jv_iconst dX8_way_23 ?_
      exact jv_iret dX8_way_24 hq (hp2 (by omega))
theorem ct_X8_stops (K : Nat) (o : jw_O h rr lv cu si st at_ wr da ra n) (w : h[114]? = some (jv_ai 50 f)) (hn : 0 ≤ n ∧ n ≤ 50) (hf : ∀ i, -100000 ≤ f i ∧ f i ≤ 100000) (hp : post (some (.int (jv_i (jq_st f n 50 1)))) h) : jv_Ct yX8_stops cX8_stops 2 (some .int) K [.ref 97] h post := by
  unfold jw_O at o
  refine jv_entry (own := RX8) (by decide) rfl (Nat.le_of_ble_eq_true rfl) (fun X hq => ?_)
  have loop : ∀ (k : Nat) (i : Int), 1 ≤ i → n ≤ i + k → i ≤ 51 → post (some (.int (jv_i (jq_st f n k i)))) h → jv_J X cX8_stops RX8 K 2 [some (.ref 97), some (.int (jv_i i))] [] h := by
    intro k
    induction k with
    | zero =>
      intro i h1 h2 h3 hp
      refine jv_iload_n dX8_stops_2 rfl ?_
      refine jv_aload_n dX8_stops_3 rfl ?_
      refine jv_getf dX8_stops_4 jf_X8_192 (by repeat' (first | assumption | exact ⟨_, by assumption⟩ | refine jv_h1 (by omega) ?_ | refine jv_h0 ?_ | refine jv_hs ?_)) (by exact rfl) ?_
      refine jv_icmp_ge 35 dX8_stops_7 (fun c7 => ?_) (fun c7 => ?_)
      · refine jv_iconst dX8_stops_35 ?_
        exact jv_iret dX8_stops_36 hq (hp) (by first | rfl | decide)
      · exact absurd c7 (by omega)
    | succ k ih =>
      intro i h1 h2 h3 hp
      rw [jq_st] at hp
      have q1 := hf i
      have q2 := hf (i - 1)
      refine jv_iload_n dX8_stops_2 rfl ?_
      refine jv_aload_n dX8_stops_3 rfl ?_
      refine jv_getf dX8_stops_4 jf_X8_192 (by repeat' (first | assumption | exact ⟨_, by assumption⟩ | refine jv_h1 (by omega) ?_ | refine jv_h0 ?_ | refine jv_hs ?_)) (by exact rfl) ?_
      refine jv_icmp_ge 35 dX8_stops_7 (fun c7 => ?_) (fun c7 => ?_)
      · refine jv_iconst dX8_stops_35 ?_
        exact jv_iret dX8_stops_36 hq (by rwa [if_pos c7] at hp)
      · refine jv_aload_n dX8_stops_10 rfl ?_
        refine jv_getf dX8_stops_11 jf_X8_59 (by repeat' (first | assumption | exact ⟨_, by assumption⟩ | refine jv_h1 (by omega) ?_ | refine jv_h0 ?_ | refine jv_hs ?_)) (by exact rfl) ?_
        refine jv_iload_n dX8_stops_14 rfl ?_
        refine jv_iald dX8_stops_15 (by repeat' (first | assumption | exact ⟨_, by assumption⟩ | refine jv_h1 (by omega) ?_ | refine jv_h0 ?_ | refine jv_hs ?_)) ?_
        refine jv_aload_n dX8_stops_16 rfl ?_
        refine jv_getf dX8_stops_17 jf_X8_59 (by repeat' (first | assumption | exact ⟨_, by assumption⟩ | refine jv_h1 (by omega) ?_ | refine jv_h0 ?_ | refine jv_hs ?_)) (by exact rfl) ?_
        refine jv_iload_n dX8_stops_20 rfl ?_
        refine jv_iconst dX8_stops_21 ?_
        refine jv_isub dX8_stops_22 ?_
        refine jv_iald dX8_stops_23 (by repeat' (first | assumption | exact ⟨_, by assumption⟩ | refine jv_h1 (by omega) ?_ | refine jv_h0 ?_ | refine jv_hs ?_)) ?_
        refine jv_icmp_lt 29 dX8_stops_24 (fun c24 => ?_) (fun c24 => ?_)
        · refine jv_iinc dX8_stops_29 rfl rfl ?_
          refine jv_goto 2 dX8_stops_32 ?_
          exact ih (i + 1) (by omega) (by omega) (by omega) (by rwa [if_neg (by omega), if_neg (by omega)] at hp)
        · refine jv_iload_n dX8_stops_27 rfl ?_
          exact jv_iret dX8_stops_28 hq (by rwa [if_neg (by omega), if_pos c24] at hp)
  refine jv_iconst dX8_stops_0 ?_
  refine jv_istore_n dX8_stops_1 rfl (Nat.le_of_ble_eq_true rfl) ?_
  exact loop 50 1 (by omega) (by omega) (by omega) hp
end MW
end
section
/-! DAYS: n days cm; a run's rows: held he, gone go, above ab, so far so -/
theorem jv_bn {a : Int} (h : a = 0 ∨ a = 1) : ∀ ad : Nat → Nat, narrow .boolean (jv_V ad (.int (jv_i a))) = jv_V ad (.int (jv_i a)) := fun ad => by
  rcases h with rfl | rfl
  · show narrow .boolean (.int (jv_i 0)) = .int (jv_i 0)
    decide
  · show narrow .boolean (.int (jv_i 1)) = .int (jv_i 1)
    decide
theorem jv_bf {a : Int} (h : a = 0 ∨ a = 1) : ∀ ad : Nat → Nat, fits .boolean (jv_V ad (.int (jv_i a))) = true := fun ad => by
  rcases h with rfl | rfl
  · show fits .boolean (.int (jv_i 0)) = true
    decide
  · show fits .boolean (.int (jv_i 1)) = true
    decide
theorem jv_tl {X : jv_M} {cc : ByteArray} {own : String} {K pc : Nat} {L : List (Option Value)} {S : List Value} {h : List jv_E} {a b : Int} (e : a = b) (kk : jv_J X cc own K pc L (.long (jv_l b) :: S) h) : jv_J X cc own K pc L (.long (jv_l a) :: S) h := by rw [e]; exact kk
def jq_wt (cm : Int → Int) (ou ro : Int) : Nat → Int
  | 0 => 0
  | i + 1 => jq_wt cm ou ro i + cm i - min (jq_wt cm ou ro i + cm i) ou - max 0 (jq_wt cm ou ro i + cm i - min (jq_wt cm ou ro i + cm i) ou - ro)
def jq_gn (cm : Int → Int) (ou ro : Int) (i : Nat) : Int := min (jq_wt cm ou ro i + cm i) ou
def jq_av (cm : Int → Int) (ou ro : Int) (i : Nat) : Int := max 0 (jq_wt cm ou ro i + cm i - min (jq_wt cm ou ro i + cm i) ou - ro)
def jq_so (cm : Int → Int) (ou ro : Int) : Nat → Int
  | 0 => 0
  | i + 1 => jq_so cm ou ro i + jq_av cm ou ro i
def jq_ct (cm : Int → Int) (ou ro : Int) : Nat → Int
  | 0 => 0
  | i + 1 => if 0 < jq_av cm ou ro i then jq_ct cm ou ro i + 1 else jq_ct cm ou ro i
def jq_sm (f : Int → Int) : Nat → Int
  | 0 => 0
  | i + 1 => jq_sm f i + f i
theorem jq_wt_s (cm : Int → Int) (ou ro : Int) (i : Nat) : jq_wt cm ou ro (i + 1) = jq_wt cm ou ro i + cm i - jq_gn cm ou ro i - jq_av cm ou ro i := rfl
theorem jq_wt_in {cm : Int → Int} {ou ro : Int} (hc : ∀ i, 0 ≤ cm i ∧ cm i ≤ 1000000000000) (ho : 0 ≤ ou) (hr : 0 ≤ ro) : ∀ i : Nat, 0 ≤ jq_wt cm ou ro i ∧ jq_wt cm ou ro i ≤ i * 1000000000000
  | 0 => by simp [jq_wt]
  | i + 1 => by
    have h1 := jq_wt_in hc ho hr i
    have h2 := hc i
    rw [jq_wt]
    omega
theorem jq_ct_in (cm : Int → Int) (ou ro : Int) : ∀ i : Nat, 0 ≤ jq_ct cm ou ro i ∧ jq_ct cm ou ro i ≤ i
  | 0 => by simp [jq_ct]
  | i + 1 => by
    have h1 := jq_ct_in cm ou ro i
    rw [jq_ct]
    split <;> omega
/-- a greater room never has more days that overflow -/
theorem jq_ct_mono {cm : Int → Int} {ou r r' : Int} (hr : r ≤ r') : ∀ i : Nat, (0 ≤ jq_wt cm ou r' i - jq_wt cm ou r i ∧ jq_wt cm ou r' i - jq_wt cm ou r i ≤ r' - r) ∧ jq_ct cm ou r' i ≤ jq_ct cm ou r i
  | 0 => by simp [jq_wt, jq_ct]; omega
  | i + 1 => by
    obtain ⟨h1, h2⟩ := jq_ct_mono (cm := cm) (ou := ou) hr i
    have e1 : jq_av cm ou r' i = max 0 (jq_wt cm ou r' i + cm i - min (jq_wt cm ou r' i + cm i) ou - r') := rfl
    have e2 : jq_av cm ou r i = max 0 (jq_wt cm ou r i + cm i - min (jq_wt cm ou r i + cm i) ou - r) := rfl
    refine ⟨by rw [jq_wt, jq_wt]; omega, ?_⟩
    rw [jq_ct, jq_ct]
    split <;> split <;> omega
theorem jq_sm_le {cm : Int → Int} (hc : ∀ i, 0 ≤ cm i ∧ cm i ≤ 1000000000000) : ∀ i : Nat, 0 ≤ jq_sm cm i ∧ jq_sm cm i ≤ i * 1000000000000
  | 0 => by simp [jq_sm]
  | i + 1 => by
    have h1 := jq_sm_le hc i
    have h2 := hc i
    rw [jq_sm]
    omega
theorem jq_ct_all {cm : Int → Int} {ou al : Int} (hc : ∀ i, 0 ≤ cm i ∧ cm i ≤ 1000000000000) (ho : 0 ≤ ou) : ∀ i : Nat, jq_sm cm i ≤ al → (0 ≤ jq_wt cm ou al i ∧ jq_wt cm ou al i ≤ jq_sm cm i) ∧ jq_ct cm ou al i = 0
  | 0, _ => by simp [jq_wt, jq_sm, jq_ct]
  | i + 1, h => by
    have h2 := hc i
    rw [jq_sm] at h
    obtain ⟨h3, h4⟩ := jq_ct_all hc ho i (al := al) (by omega)
    have e1 : jq_av cm ou al i = max 0 (jq_wt cm ou al i + cm i - min (jq_wt cm ou al i + cm i) ou - al) := rfl
    refine ⟨by rw [jq_wt, jq_sm]; omega, ?_⟩
    rw [jq_ct, if_neg (by omega), h4]
def jw_D (h : List jv_E) (n : Nat) (cm he go ab so : Int → Int) (al hr : Int) : Prop := h[89]? = some (jv_ob 1 [.ref 90, .ref 91, .ref 92, .ref 93, .ref 94, .int (jv_i n), .long (jv_l al), .int (jv_i hr)]) ∧ h[90]? = some (jv_al 400 cm) ∧ h[91]? = some (jv_al 400 he) ∧ h[92]? = some (jv_al 400 go) ∧ h[93]? = some (jv_al 400 ab) ∧ h[94]? = some (jv_al 400 so)
def jq_D (n : Nat) (cm : Int → Int) (al : Int) : Prop := n ≤ 400 ∧ (∀ i, 0 ≤ cm i ∧ cm i ≤ 1000000000000) ∧ al = jq_sm cm n
def jq_run (n : Nat) (cm : Int → Int) (ou ro : Int) (he go ab so : Int → Int) : Prop := ∀ j : Nat, j < n → he j = jq_wt cm ou ro (j + 1) ∧ go j = jq_gn cm ou ro j ∧ ab j = jq_av cm ou ro j ∧ so j = jq_so cm ou ro (j + 1)
theorem jq_run_s {i : Nat} {cm he go ab so : Int → Int} {ou ro : Int} (h : jq_run i cm ou ro he go ab so) : jq_run (i + 1) cm ou ro (jv_up he i (jq_wt cm ou ro (i + 1))) (jv_up go i (jq_gn cm ou ro i)) (jv_up ab i (jq_av cm ou ro i)) (jv_up so i (jq_so cm ou ro (i + 1))) := fun j hj => by
  by_cases e : j = i
  · subst e
    simp [jv_up]
  · have e2 : (j : Int) ≠ i := by omega
    obtain ⟨h1, h2, h3, h4⟩ := h j (by omega)
    simp [jv_up, e2, h1, h2, h3, h4]
def jq_rc (n : Nat) (hr : Int) (he go ab so : Int → Int) (dy wh : Int) : Int := if hr = 0 ∨ ¬ (0 ≤ dy ∧ dy < n) then -1 else if wh = 0 then he dy else if wh = 1 then go dy else if wh = 2 then ab dy else if wh = 3 then so dy else -1
section DY
variable {h : List jv_E} {n : Nat} {cm he go ab so : Int → Int} {al hr : Int} {post : Option Value → List jv_E → Prop}
theorem ct_X1_size (K : Nat) (w : jw_D h n cm he go ab so al hr) (hp : post (some (.int (jv_i n))) h) : jv_Ct yX1_size cX1_size 1 (some .int) K [.ref 89] h post := by
  obtain ⟨w1, w2, w3, w4, w5, w6⟩ := w
  refine jv_entry (own := RX1) (by decide) rfl (Nat.le_of_ble_eq_true rfl) (fun X hq => ?_)
  refine jv_aload_n dX1_size_0 rfl ?_
  refine jv_getf dX1_size_1 jf_X1_27 (by repeat' (first | assumption | exact ⟨_, by assumption⟩ | refine jv_h1 (by omega) ?_ | refine jv_h0 ?_ | refine jv_hs ?_)) (by exact rfl) ?_
  exact jv_iret dX1_size_4 hq (hp) (by first | rfl | decide)
theorem ct_X1_add {wt : Int} (K : Nat) (w : jw_D h n cm he go ab so al hr) (hD : jq_D n cm al) (hp1 : n < 400 → ∀ h', jw_D h' (n + 1) (jv_up cm n wt) he go ab so (al + wt) 0 → jv_fr 89 94 h h' → post (some (.int (jv_i (n + 1)))) h') (hp2 : ¬ n < 400 → post (some (.int (jv_i (-1)))) h) : jv_Ct yX1_add cX1_add 3 (some .int) K [.ref 89, .long (jv_l wt)] h post := by
  obtain ⟨w1, w2, w3, w4, w5, w6⟩ := w
  have hn := hD.1
  refine jv_entry (own := RX1) (by decide) rfl (Nat.le_of_ble_eq_true rfl) (fun X hq => ?_)
  refine jv_aload_n dX1_add_0 rfl ?_
  refine jv_getf dX1_add_1 jf_X1_27 (by repeat' (first | assumption | exact ⟨_, by assumption⟩ | refine jv_h1 (by omega) ?_ | refine jv_h0 ?_ | refine jv_hs ?_)) (by exact rfl) ?_
  refine jv_sipush dX1_add_4 ?_
  refine jv_icmp_lt 12 dX1_add_7 (fun c7 => ?_) (fun c7 => ?_)
  · refine jv_aload_n dX1_add_12 rfl ?_
    refine jv_getf dX1_add_13 jf_X1_9 (by repeat' (first | assumption | exact ⟨_, by assumption⟩ | refine jv_h1 (by omega) ?_ | refine jv_h0 ?_ | refine jv_hs ?_)) (by exact rfl) ?_
    refine jv_aload_n dX1_add_16 rfl ?_
    refine jv_getf dX1_add_17 jf_X1_27 (by repeat' (first | assumption | exact ⟨_, by assumption⟩ | refine jv_h1 (by omega) ?_ | refine jv_h0 ?_ | refine jv_hs ?_)) (by exact rfl) ?_
    refine jv_lload_n dX1_add_20 rfl ?_
    refine jv_last dX1_add_21 (by repeat' (first | assumption | exact ⟨_, by assumption⟩ | refine jv_h1 (by omega) ?_ | refine jv_h0 ?_ | refine jv_hs ?_)) ?_
    refine jv_aload_n dX1_add_22 rfl ?_
    refine jv_dup dX1_add_23 rfl ?_
    refine jv_getf dX1_add_24 jf_X1_31 (by repeat' (first | assumption | exact ⟨_, by assumption⟩ | refine jv_h1 (by omega) ?_ | refine jv_h0 ?_ | refine jv_hs ?_)) (by exact rfl) ?_
    refine jv_lload_n dX1_add_27 rfl ?_
    refine jv_ladd dX1_add_28 ?_
    refine jv_putf dX1_add_29 jp_X1_31 (by repeat' (first | assumption | exact ⟨_, by assumption⟩ | refine jv_h1 (by omega) ?_ | refine jv_h0 ?_ | refine jv_hs ?_)) (by exact Nat.le_of_ble_eq_true rfl) ?_
    refine jv_aload_n dX1_add_32 rfl ?_
    refine jv_dup dX1_add_33 rfl ?_
    refine jv_getf dX1_add_34 jf_X1_27 (by repeat' (first | assumption | exact ⟨_, by assumption⟩ | refine jv_h1 (by omega) ?_ | refine jv_h0 ?_ | refine jv_hs ?_)) (by exact rfl) ?_
    refine jv_iconst dX1_add_37 ?_
    refine jv_iadd dX1_add_38 ?_
    refine jv_putf dX1_add_39 jp_X1_27 (by repeat' (first | assumption | exact ⟨_, by assumption⟩ | refine jv_h1 (by omega) ?_ | refine jv_h0 ?_ | refine jv_hs ?_)) (by exact Nat.le_of_ble_eq_true rfl) ?_
    refine jv_aload_n dX1_add_42 rfl ?_
    refine jv_iconst dX1_add_43 ?_
    refine jv_putf dX1_add_44 jp_X1_35 (by repeat' (first | assumption | exact ⟨_, by assumption⟩ | refine jv_h1 (by omega) ?_ | refine jv_h0 ?_ | refine jv_hs ?_)) (by exact Nat.le_of_ble_eq_true rfl) ?_ (jv_bn (by omega)) (jv_bf (by omega))
    refine jv_aload_n dX1_add_47 rfl ?_
    refine jv_getf dX1_add_48 jf_X1_27 (by repeat' (first | assumption | exact ⟨_, by assumption⟩ | refine jv_h1 (by omega) ?_ | refine jv_h0 ?_ | refine jv_hs ?_)) (by exact rfl) ?_
    exact jv_iret dX1_add_51 hq (hp1 (by omega) _ ⟨(by repeat' (first | assumption | exact ⟨_, by assumption⟩ | refine jv_h1 (by omega) ?_ | refine jv_h0 ?_ | refine jv_hs ?_)), (by repeat' (first | assumption | exact ⟨_, by assumption⟩ | refine jv_h1 (by omega) ?_ | refine jv_h0 ?_ | refine jv_hs ?_)), (by repeat' (first | assumption | exact ⟨_, by assumption⟩ | refine jv_h1 (by omega) ?_ | refine jv_h0 ?_ | refine jv_hs ?_)), (by repeat' (first | assumption | exact ⟨_, by assumption⟩ | refine jv_h1 (by omega) ?_ | refine jv_h0 ?_ | refine jv_hs ?_)), (by repeat' (first | assumption | exact ⟨_, by assumption⟩ | refine jv_h1 (by omega) ?_ | refine jv_h0 ?_ | refine jv_hs ?_)), (by repeat' (first | assumption | exact ⟨_, by assumption⟩ | refine jv_h1 (by omega) ?_ | refine jv_h0 ?_ | refine jv_hs ?_))⟩ (jv_fr_set (by omega) (jv_fr_set (by omega) (jv_fr_set (by omega) (jv_fr_set (by omega) jv_fr_rf))))) (by first | rfl | decide)
  · refine jv_iconst dX1_add_10 ?_
    exact jv_iret dX1_add_11 hq (hp2 (by omega))
theorem ct_X1_goThrough {ou ro : Int} (K : Nat) (w : jw_D h n cm he go ab so al hr) (hD : jq_D n cm al) (ho : 0 ≤ ou ∧ ou ≤ 1000000000000000) (hr0 : 0 ≤ ro ∧ ro ≤ 1000000000000000) (hp : ∀ h' he' go' ab' so', jw_D h' n cm he' go' ab' so' al hr → jq_run n cm ou ro he' go' ab' so' → jv_fr 89 94 h h' → post (some (.int (jv_i (jq_ct cm ou ro n)))) h') : jv_Ct yX1_goThrough cX1_goThrough 11 (some .int) (K + 1) [.ref 89, .long (jv_l ou), .long (jv_l ro)] h post := by
  have hn := hD.1
  refine jv_entry (own := RX1) (by decide) rfl (Nat.le_of_ble_eq_true rfl) (fun X hq => ?_)
  have loop : ∀ (k i : Nat) (h1 : List jv_E) (he go ab so : Int → Int), i + k = n → jw_D h1 n cm he go ab so al hr → jq_run i cm ou ro he go ab so → jv_fr 89 94 h h1 → jv_J X cX1_goThrough RX1 (K + 1) 12 [some (.ref 89), some (.long (jv_l ou)), none, some (.long (jv_l ro)), none, some (.long (jv_l (jq_wt cm ou ro i))), none, some (.long (jv_l (jq_so cm ou ro i))), none, some (.int (jv_i (jq_ct cm ou ro i))), some (.int (jv_i i))] [] h1 := by
    intro k
    induction k with
    | zero =>
      intro i h1 he go ab so e w f fr
      have w9 := w
      obtain ⟨w1, w2, w3, w4, w5, w6⟩ := w
      have e2 : i = n := by omega
      subst e2
      refine jv_iload dX1_goThrough_12 rfl ?_
      refine jv_aload_n dX1_goThrough_14 rfl ?_
      refine jv_getf dX1_goThrough_15 jf_X1_27 (by repeat' (first | assumption | exact ⟨_, by assumption⟩ | refine jv_h1 (by omega) ?_ | refine jv_h0 ?_ | refine jv_hs ?_)) (by exact rfl) ?_
      refine jv_icmp_ge 136 dX1_goThrough_18 (fun c18 => ?_) (fun c18 => ?_)
      · refine jv_iload dX1_goThrough_136 rfl ?_
        exact jv_iret dX1_goThrough_138 hq (hp h1 he go ab so w9 f fr) (by first | rfl | decide)
      · exact absurd c18 (by omega)
    | succ k ih =>
      intro i h1 he go ab so e w f fr
      obtain ⟨w1, w2, w3, w4, w5, w6⟩ := w
      have b1 := jq_wt_in hD.2.1 ho.1 hr0.1 i
      have b2 := hD.2.1 i
      have b3 := jq_ct_in cm ou ro i
      have e5 : jq_gn cm ou ro i = min (jq_wt cm ou ro i + cm i) ou := rfl
      have e6 : jq_av cm ou ro i = max 0 (jq_wt cm ou ro i + cm i - min (jq_wt cm ou ro i + cm i) ou - ro) := rfl
      have e2 : jq_so cm ou ro (i + 1) = jq_so cm ou ro i + jq_av cm ou ro i := rfl
      have f2 := jq_run_s f
      refine jv_iload dX1_goThrough_12 rfl ?_
      refine jv_aload_n dX1_goThrough_14 rfl ?_
      refine jv_getf dX1_goThrough_15 jf_X1_27 (by repeat' (first | assumption | exact ⟨_, by assumption⟩ | refine jv_h1 (by omega) ?_ | refine jv_h0 ?_ | refine jv_hs ?_)) (by exact rfl) ?_
      refine jv_icmp_ge 136 dX1_goThrough_18 (fun c18 => ?_) (fun c18 => ?_)
      · exact absurd c18 (by omega)
      · refine jv_lload dX1_goThrough_21 rfl ?_
        refine jv_aload_n dX1_goThrough_23 rfl ?_
        refine jv_getf dX1_goThrough_24 jf_X1_9 (by repeat' (first | assumption | exact ⟨_, by assumption⟩ | refine jv_h1 (by omega) ?_ | refine jv_h0 ?_ | refine jv_hs ?_)) (by exact rfl) ?_
        refine jv_iload dX1_goThrough_27 rfl ?_
        refine jv_lald dX1_goThrough_29 (by repeat' (first | assumption | exact ⟨_, by assumption⟩ | refine jv_h1 (by omega) ?_ | refine jv_h0 ?_ | refine jv_hs ?_)) ?_
        refine jv_ladd dX1_goThrough_30 ?_
        refine jv_lstore dX1_goThrough_31 rfl (Nat.le_of_ble_eq_true rfl) ?_
        refine jv_aload_n dX1_goThrough_33 rfl ?_
        refine jv_getf dX1_goThrough_34 jf_X1_18 (by repeat' (first | assumption | exact ⟨_, by assumption⟩ | refine jv_h1 (by omega) ?_ | refine jv_h0 ?_ | refine jv_hs ?_)) (by exact rfl) ?_
        refine jv_iload dX1_goThrough_37 rfl ?_
        refine jv_lload dX1_goThrough_39 rfl ?_
        refine jv_lload_n dX1_goThrough_41 rfl ?_
        refine jv_cS dX1_goThrough_42 jm_X1_43 (ct_J9_min K (fun r q => ?_))
        obtain rfl : r = jq_gn cm ou ro i := by omega
        refine jv_last dX1_goThrough_45 (by repeat' (first | assumption | exact ⟨_, by assumption⟩ | refine jv_h1 (by omega) ?_ | refine jv_h0 ?_ | refine jv_hs ?_)) ?_
        refine jv_lload dX1_goThrough_46 rfl ?_
        refine jv_aload_n dX1_goThrough_48 rfl ?_
        refine jv_getf dX1_goThrough_49 jf_X1_18 (by repeat' (first | assumption | exact ⟨_, by assumption⟩ | refine jv_h1 (by omega) ?_ | refine jv_h0 ?_ | refine jv_hs ?_)) (by exact rfl) ?_
        refine jv_iload dX1_goThrough_52 rfl ?_
        refine jv_lald dX1_goThrough_54 (by repeat' (first | assumption | exact ⟨_, by assumption⟩ | refine jv_h1 (by omega) ?_ | refine jv_h0 ?_ | refine jv_hs ?_)) ?_
        rw [jv_up_s]
        refine jv_lsub dX1_goThrough_55 ?_
        refine jv_lstore dX1_goThrough_56 rfl (Nat.le_of_ble_eq_true rfl) ?_
        refine jv_aload_n dX1_goThrough_58 rfl ?_
        refine jv_getf dX1_goThrough_59 jf_X1_21 (by repeat' (first | assumption | exact ⟨_, by assumption⟩ | refine jv_h1 (by omega) ?_ | refine jv_h0 ?_ | refine jv_hs ?_)) (by exact rfl) ?_
        refine jv_iload dX1_goThrough_62 rfl ?_
        refine jv_lconst 0 dX1_goThrough_64 ?_
        refine jv_lload dX1_goThrough_65 rfl ?_
        refine jv_lload_n dX1_goThrough_67 rfl ?_
        refine jv_lsub dX1_goThrough_68 ?_
        refine jv_cS dX1_goThrough_69 jm_X1_49 (ct_J9_max K (fun r q => ?_))
        obtain rfl : r = jq_av cm ou ro i := by omega
        refine jv_last dX1_goThrough_72 (by repeat' (first | assumption | exact ⟨_, by assumption⟩ | refine jv_h1 (by omega) ?_ | refine jv_h0 ?_ | refine jv_hs ?_)) ?_
        refine jv_lload dX1_goThrough_73 rfl ?_
        refine jv_aload_n dX1_goThrough_75 rfl ?_
        refine jv_getf dX1_goThrough_76 jf_X1_21 (by repeat' (first | assumption | exact ⟨_, by assumption⟩ | refine jv_h1 (by omega) ?_ | refine jv_h0 ?_ | refine jv_hs ?_)) (by exact rfl) ?_
        refine jv_iload dX1_goThrough_79 rfl ?_
        refine jv_lald dX1_goThrough_81 (by repeat' (first | assumption | exact ⟨_, by assumption⟩ | refine jv_h1 (by omega) ?_ | refine jv_h0 ?_ | refine jv_hs ?_)) ?_
        rw [jv_up_s]
        refine jv_lsub dX1_goThrough_82 ?_
        refine jv_lstore dX1_goThrough_83 rfl (Nat.le_of_ble_eq_true rfl) ?_
        rw [← jq_wt_s]
        refine jv_aload_n dX1_goThrough_85 rfl ?_
        refine jv_getf dX1_goThrough_86 jf_X1_15 (by repeat' (first | assumption | exact ⟨_, by assumption⟩ | refine jv_h1 (by omega) ?_ | refine jv_h0 ?_ | refine jv_hs ?_)) (by exact rfl) ?_
        refine jv_iload dX1_goThrough_89 rfl ?_
        refine jv_lload dX1_goThrough_91 rfl ?_
        refine jv_last dX1_goThrough_93 (by repeat' (first | assumption | exact ⟨_, by assumption⟩ | refine jv_h1 (by omega) ?_ | refine jv_h0 ?_ | refine jv_hs ?_)) ?_
        refine jv_lload dX1_goThrough_94 rfl ?_
        refine jv_aload_n dX1_goThrough_96 rfl ?_
        refine jv_getf dX1_goThrough_97 jf_X1_21 (by repeat' (first | assumption | exact ⟨_, by assumption⟩ | refine jv_h1 (by omega) ?_ | refine jv_h0 ?_ | refine jv_hs ?_)) (by exact rfl) ?_
        refine jv_iload dX1_goThrough_100 rfl ?_
        refine jv_lald dX1_goThrough_102 (by repeat' (first | assumption | exact ⟨_, by assumption⟩ | refine jv_h1 (by omega) ?_ | refine jv_h0 ?_ | refine jv_hs ?_)) ?_
        rw [jv_up_s]
        refine jv_ladd dX1_goThrough_103 ?_
        refine jv_lstore dX1_goThrough_104 rfl (Nat.le_of_ble_eq_true rfl) ?_
        rw [← e2]
        refine jv_aload_n dX1_goThrough_106 rfl ?_
        refine jv_getf dX1_goThrough_107 jf_X1_24 (by repeat' (first | assumption | exact ⟨_, by assumption⟩ | refine jv_h1 (by omega) ?_ | refine jv_h0 ?_ | refine jv_hs ?_)) (by exact rfl) ?_
        refine jv_iload dX1_goThrough_110 rfl ?_
        refine jv_lload dX1_goThrough_112 rfl ?_
        refine jv_last dX1_goThrough_114 (by repeat' (first | assumption | exact ⟨_, by assumption⟩ | refine jv_h1 (by omega) ?_ | refine jv_h0 ?_ | refine jv_hs ?_)) ?_
        refine jv_aload_n dX1_goThrough_115 rfl ?_
        refine jv_getf dX1_goThrough_116 jf_X1_21 (by repeat' (first | assumption | exact ⟨_, by assumption⟩ | refine jv_h1 (by omega) ?_ | refine jv_h0 ?_ | refine jv_hs ?_)) (by exact rfl) ?_
        refine jv_iload dX1_goThrough_119 rfl ?_
        refine jv_lald dX1_goThrough_121 (by repeat' (first | assumption | exact ⟨_, by assumption⟩ | refine jv_h1 (by omega) ?_ | refine jv_h0 ?_ | refine jv_hs ?_)) ?_
        rw [jv_up_s]
        refine jv_lconst 0 dX1_goThrough_122 ?_
        refine jv_lcmp_le 130 dX1_goThrough_123 dX1_goThrough_124 (fun c123 => ?_) (fun c123 => ?_)
        · refine jv_iinc dX1_goThrough_130 rfl rfl ?_
          refine jv_goto 12 dX1_goThrough_133 ?_
          have e3 : jq_ct cm ou ro (i + 1) = jq_ct cm ou ro i := by rw [jq_ct, if_neg (by omega)]
          have nx := fun h1 w fr => ih (i + 1) h1 _ _ _ _ (by omega) w f2 fr
          rw [e3] at nx
          exact nx _ ⟨(by repeat' (first | assumption | exact ⟨_, by assumption⟩ | refine jv_h1 (by omega) ?_ | refine jv_h0 ?_ | refine jv_hs ?_)), (by repeat' (first | assumption | exact ⟨_, by assumption⟩ | refine jv_h1 (by omega) ?_ | refine jv_h0 ?_ | refine jv_hs ?_)), (by repeat' (first | assumption | exact ⟨_, by assumption⟩ | refine jv_h1 (by omega) ?_ | refine jv_h0 ?_ | refine jv_hs ?_)), (by repeat' (first | assumption | exact ⟨_, by assumption⟩ | refine jv_h1 (by omega) ?_ | refine jv_h0 ?_ | refine jv_hs ?_)), (by repeat' (first | assumption | exact ⟨_, by assumption⟩ | refine jv_h1 (by omega) ?_ | refine jv_h0 ?_ | refine jv_hs ?_)), (by repeat' (first | assumption | exact ⟨_, by assumption⟩ | refine jv_h1 (by omega) ?_ | refine jv_h0 ?_ | refine jv_hs ?_))⟩ (jv_fr_set (by omega) (jv_fr_set (by omega) (jv_fr_set (by omega) (jv_fr_set (by omega) fr))))
        · refine jv_iinc dX1_goThrough_127 rfl rfl ?_
          refine jv_iinc dX1_goThrough_130 rfl rfl ?_
          refine jv_goto 12 dX1_goThrough_133 ?_
          have e3 : jq_ct cm ou ro (i + 1) = jq_ct cm ou ro i + 1 := by rw [jq_ct, if_pos c123]
          have nx := fun h1 w fr => ih (i + 1) h1 _ _ _ _ (by omega) w f2 fr
          rw [e3] at nx
          exact nx _ ⟨(by repeat' (first | assumption | exact ⟨_, by assumption⟩ | refine jv_h1 (by omega) ?_ | refine jv_h0 ?_ | refine jv_hs ?_)), (by repeat' (first | assumption | exact ⟨_, by assumption⟩ | refine jv_h1 (by omega) ?_ | refine jv_h0 ?_ | refine jv_hs ?_)), (by repeat' (first | assumption | exact ⟨_, by assumption⟩ | refine jv_h1 (by omega) ?_ | refine jv_h0 ?_ | refine jv_hs ?_)), (by repeat' (first | assumption | exact ⟨_, by assumption⟩ | refine jv_h1 (by omega) ?_ | refine jv_h0 ?_ | refine jv_hs ?_)), (by repeat' (first | assumption | exact ⟨_, by assumption⟩ | refine jv_h1 (by omega) ?_ | refine jv_h0 ?_ | refine jv_hs ?_)), (by repeat' (first | assumption | exact ⟨_, by assumption⟩ | refine jv_h1 (by omega) ?_ | refine jv_h0 ?_ | refine jv_hs ?_))⟩ (jv_fr_set (by omega) (jv_fr_set (by omega) (jv_fr_set (by omega) (jv_fr_set (by omega) fr))))
  refine jv_lconst 0 dX1_goThrough_0 ?_
  refine jv_lstore dX1_goThrough_1 rfl (Nat.le_of_ble_eq_true rfl) ?_
  refine jv_lconst 0 dX1_goThrough_3 ?_
  refine jv_lstore dX1_goThrough_4 rfl (Nat.le_of_ble_eq_true rfl) ?_
  refine jv_iconst dX1_goThrough_6 ?_
  refine jv_istore dX1_goThrough_7 rfl (Nat.le_of_ble_eq_true rfl) ?_
  refine jv_iconst dX1_goThrough_9 ?_
  refine jv_istore dX1_goThrough_10 rfl (Nat.le_of_ble_eq_true rfl) ?_
  exact loop n 0 h he go ab so (by omega) w (fun j hj => by omega) jv_fr_rf
theorem jv_fr_tr {lo hi : Nat} {a b c : List jv_E} (h1 : jv_fr lo hi a b) (h2 : jv_fr lo hi b c) : jv_fr lo hi a c := fun i q => (h2 i q).trans (h1 i q)
theorem ct_X1_keepRun {ou ro : Int} (K : Nat) (w : jw_D h n cm he go ab so al hr) (hD : jq_D n cm al) (ho : 0 ≤ ou ∧ ou ≤ 1000000000000000) (hr0 : 0 ≤ ro ∧ ro ≤ 1000000000000000) (hp : ∀ h' he' go' ab' so', jw_D h' n cm he' go' ab' so' al 1 → jq_run n cm ou ro he' go' ab' so' → jv_fr 89 94 h h' → post (some (.int (jv_i (jq_ct cm ou ro n)))) h') : jv_Ct yX1_keepRun cX1_keepRun 5 (some .int) (K + 2) [.ref 89, .long (jv_l ou), .long (jv_l ro)] h post := by
  obtain ⟨w1, w2, w3, w4, w5, w6⟩ := w
  refine jv_entry (own := RX1) (by decide) rfl (Nat.le_of_ble_eq_true rfl) (fun X hq => ?_)
  refine jv_aload_n dX1_keepRun_0 rfl ?_
  refine jv_iconst dX1_keepRun_1 ?_
  refine jv_putf dX1_keepRun_2 jp_X1_35 (by repeat' (first | assumption | exact ⟨_, by assumption⟩ | refine jv_h1 (by omega) ?_ | refine jv_h0 ?_ | refine jv_hs ?_)) (by exact Nat.le_of_ble_eq_true rfl) ?_ (jv_bn (by omega)) (jv_bf (by omega))
  refine jv_aload_n dX1_keepRun_5 rfl ?_
  refine jv_lload_n dX1_keepRun_6 rfl ?_
  refine jv_lload_n dX1_keepRun_7 rfl ?_
  refine jv_cV dX1_keepRun_8 jm_X1_39 rfl (by repeat' (first | assumption | exact ⟨_, by assumption⟩ | refine jv_h1 (by omega) ?_ | refine jv_h0 ?_ | refine jv_hs ?_)) rfl (ct_X1_goThrough (hr := 1) K ⟨(by repeat' (first | assumption | exact ⟨_, by assumption⟩ | refine jv_h1 (by omega) ?_ | refine jv_h0 ?_ | refine jv_hs ?_)), (by repeat' (first | assumption | exact ⟨_, by assumption⟩ | refine jv_h1 (by omega) ?_ | refine jv_h0 ?_ | refine jv_hs ?_)), (by repeat' (first | assumption | exact ⟨_, by assumption⟩ | refine jv_h1 (by omega) ?_ | refine jv_h0 ?_ | refine jv_hs ?_)), (by repeat' (first | assumption | exact ⟨_, by assumption⟩ | refine jv_h1 (by omega) ?_ | refine jv_h0 ?_ | refine jv_hs ?_)), (by repeat' (first | assumption | exact ⟨_, by assumption⟩ | refine jv_h1 (by omega) ?_ | refine jv_h0 ?_ | refine jv_hs ?_)), (by repeat' (first | assumption | exact ⟨_, by assumption⟩ | refine jv_h1 (by omega) ?_ | refine jv_h0 ?_ | refine jv_hs ?_))⟩ hD ho hr0 (fun h' he' go' ab' so' w' f' fr' => ?_))
  exact jv_iret dX1_keepRun_11 hq (hp h' he' go' ab' so' w' f' (jv_fr_tr (jv_fr_set (by omega) jv_fr_rf) fr')) (by first | rfl | decide)
theorem ct_X1_recall {dy wh : Int} (K : Nat) (w : jw_D h n cm he go ab so al hr) (hD : jq_D n cm al) (hr1 : 0 ≤ hr ∧ hr ≤ 1) (hd : jq_rg dy) (hw : jq_rg wh) (hp : post (some (.long (jv_l (jq_rc n hr he go ab so dy wh)))) h) : jv_Ct yX1_recall cX1_recall 3 (some .long) (K + 1) [.ref 89, .int (jv_i dy), .int (jv_i wh)] h post := by
  obtain ⟨w1, w2, w3, w4, w5, w6⟩ := w
  have hn := hD.1
  unfold jq_rg at hd hw
  unfold jq_rc at hp
  refine jv_entry (own := RX1) (by decide) rfl (Nat.le_of_ble_eq_true rfl) (fun X hq => ?_)
  refine jv_aload_n dX1_recall_0 rfl ?_
  refine jv_getf dX1_recall_1 jf_X1_35 (by repeat' (first | assumption | exact ⟨_, by assumption⟩ | refine jv_h1 (by omega) ?_ | refine jv_h0 ?_ | refine jv_hs ?_)) (by exact rfl) ?_
  refine jv_if_eq 23 dX1_recall_4 (fun c4 => ?_) (fun c4 => ?_)
  · refine jv_ldc2 dX1_recall_23 jk_X1_56 ?_
    exact jv_lret dX1_recall_26 hq (by rw [if_pos (by omega)] at hp; exact hp)
  · refine jv_iload_n dX1_recall_7 rfl ?_
    refine jv_i2l dX1_recall_8 ?_
    refine jv_lconst 0 dX1_recall_9 ?_
    refine jv_aload_n dX1_recall_10 rfl ?_
    refine jv_getf dX1_recall_11 jf_X1_27 (by repeat' (first | assumption | exact ⟨_, by assumption⟩ | refine jv_h1 (by omega) ?_ | refine jv_h0 ?_ | refine jv_hs ?_)) (by exact rfl) ?_
    refine jv_iconst dX1_recall_14 ?_
    refine jv_isub dX1_recall_15 ?_
    refine jv_i2l dX1_recall_16 ?_
    refine jv_cN dX1_recall_17 jm_X1_52 (ct_X7_within K (fun r1 q11 q12 q13 => ?_))
    refine jv_if_ne 27 dX1_recall_20 (fun c20 => ?_) (fun c20 => ?_)
    · refine jv_iload_n dX1_recall_27 rfl ?_
      rw [if_neg (by omega)] at hp
      by_cases e0 : wh = 0
      · subst e0
        refine jv_tabIn 60 dX1_recall_28 (by decide) (by decide) rfl ?_
        refine jv_aload_n dX1_recall_60 rfl ?_
        refine jv_getf dX1_recall_61 jf_X1_15 (by repeat' (first | assumption | exact ⟨_, by assumption⟩ | refine jv_h1 (by omega) ?_ | refine jv_h0 ?_ | refine jv_hs ?_)) (by exact rfl) ?_
        refine jv_iload_n dX1_recall_64 rfl ?_
        refine jv_lald dX1_recall_65 (by repeat' (first | assumption | exact ⟨_, by assumption⟩ | refine jv_h1 (by omega) ?_ | refine jv_h0 ?_ | refine jv_hs ?_)) ?_
        exact jv_lret dX1_recall_66 hq hp
      rw [if_neg e0] at hp
      by_cases e1 : wh = 1
      · subst e1
        refine jv_tabIn 67 dX1_recall_28 (by decide) (by decide) rfl ?_
        refine jv_aload_n dX1_recall_67 rfl ?_
        refine jv_getf dX1_recall_68 jf_X1_18 (by repeat' (first | assumption | exact ⟨_, by assumption⟩ | refine jv_h1 (by omega) ?_ | refine jv_h0 ?_ | refine jv_hs ?_)) (by exact rfl) ?_
        refine jv_iload_n dX1_recall_71 rfl ?_
        refine jv_lald dX1_recall_72 (by repeat' (first | assumption | exact ⟨_, by assumption⟩ | refine jv_h1 (by omega) ?_ | refine jv_h0 ?_ | refine jv_hs ?_)) ?_
        exact jv_lret dX1_recall_73 hq hp
      rw [if_neg e1] at hp
      by_cases e2 : wh = 2
      · subst e2
        refine jv_tabIn 74 dX1_recall_28 (by decide) (by decide) rfl ?_
        refine jv_aload_n dX1_recall_74 rfl ?_
        refine jv_getf dX1_recall_75 jf_X1_21 (by repeat' (first | assumption | exact ⟨_, by assumption⟩ | refine jv_h1 (by omega) ?_ | refine jv_h0 ?_ | refine jv_hs ?_)) (by exact rfl) ?_
        refine jv_iload_n dX1_recall_78 rfl ?_
        refine jv_lald dX1_recall_79 (by repeat' (first | assumption | exact ⟨_, by assumption⟩ | refine jv_h1 (by omega) ?_ | refine jv_h0 ?_ | refine jv_hs ?_)) ?_
        exact jv_lret dX1_recall_80 hq hp
      rw [if_neg e2] at hp
      by_cases e3 : wh = 3
      · subst e3
        refine jv_tabIn 81 dX1_recall_28 (by decide) (by decide) rfl ?_
        refine jv_aload_n dX1_recall_81 rfl ?_
        refine jv_getf dX1_recall_82 jf_X1_24 (by repeat' (first | assumption | exact ⟨_, by assumption⟩ | refine jv_h1 (by omega) ?_ | refine jv_h0 ?_ | refine jv_hs ?_)) (by exact rfl) ?_
        refine jv_iload_n dX1_recall_85 rfl ?_
        refine jv_lald dX1_recall_86 (by repeat' (first | assumption | exact ⟨_, by assumption⟩ | refine jv_h1 (by omega) ?_ | refine jv_h0 ?_ | refine jv_hs ?_)) ?_
        exact jv_lret dX1_recall_87 hq hp
      rw [if_neg e3] at hp
      refine jv_tabOut 88 dX1_recall_28 (by omega) ?_
      refine jv_ldc2 dX1_recall_88 jk_X1_56 ?_
      exact jv_lret dX1_recall_91 hq hp
    · refine jv_ldc2 dX1_recall_23 jk_X1_56 ?_
      exact jv_lret dX1_recall_26 hq (by rw [if_pos (by omega)] at hp; exact hp)
theorem ct_X1_leastRoom {ou mo : Int} (K : Nat) (w : jw_D h n cm he go ab so al hr) (hD : jq_D n cm al) (ho : 0 ≤ ou ∧ ou ≤ 1000000000000000) (hm : 0 ≤ mo ∧ mo ≤ 400) (hp : ∀ r h' he' go' ab' so', jw_D h' n cm he' go' ab' so' al 0 → (0 ≤ r ∧ jq_ct cm ou r n ≤ mo ∧ ∀ r', 0 ≤ r' → r' < r → mo < jq_ct cm ou r' n) → jv_fr 89 94 h h' → post (some (.long (jv_l r))) h') : jv_Ct yX1_leastRoom cX1_leastRoom 11 (some .long) (K + 2) [.ref 89, .long (jv_l ou), .int (jv_i mo)] h post := by
  have hn := hD.1
  have z1 := jq_sm_le hD.2.1 n
  rw [← hD.2.2] at z1
  refine jv_entry (own := RX1) (by decide) rfl (Nat.le_of_ble_eq_true rfl) (fun X hq => ?_)
  have loop : ∀ (k i : Nat) (a b : Int) (h1 : List jv_E) (he go ab so : Int → Int), i + k = 60 → jw_D h1 n cm he go ab so al 0 → jv_fr 89 94 h h1 → 0 ≤ a → a ≤ b → b ≤ al → b - a < 2 ^ k → jq_ct cm ou b n ≤ mo → (∀ r', 0 ≤ r' → r' < a → mo < jq_ct cm ou r' n) → jv_J X cX1_leastRoom RX1 (K + 2) 17 [some (.ref 89), some (.long (jv_l ou)), none, some (.int (jv_i mo)), some (.long (jv_l a)), none, some (.long (jv_l b)), none, some (.int (jv_i i)), none, none] [] h1 := by
    intro k
    induction k with
    | zero =>
      intro i a b h1 he go ab so e w fr p1 p2 p3 p4 p5 p6
      have p7 : b - a < 1 := by simpa using p4
      obtain rfl : a = b := by omega
      refine jv_iload dX1_leastRoom_17 rfl ?_
      refine jv_bipush dX1_leastRoom_19 ?_
      refine jv_icmp_ge 76 dX1_leastRoom_21 (fun c21 => ?_) (fun c21 => ?_)
      · refine jv_lload dX1_leastRoom_76 rfl ?_
        exact jv_lret dX1_leastRoom_78 hq (hp _ _ he go ab so w ⟨p1, p5, p6⟩ fr)
      · exact absurd c21 (by omega)
    | succ k ih =>
      intro i a b h1 he go ab so e w fr p1 p2 p3 p4 p5 p6
      have w9 := w
      obtain ⟨w1, w2, w3, w4, w5, w6⟩ := w
      have p7 : b - a < 2 * 2 ^ k := by rw [Int.pow_succ] at p4; omega
      generalize (2 : Int) ^ k = p at *
      refine jv_iload dX1_leastRoom_17 rfl ?_
      refine jv_bipush dX1_leastRoom_19 ?_
      refine jv_icmp_ge 76 dX1_leastRoom_21 (fun c21 => ?_) (fun c21 => ?_)
      · refine jv_lload dX1_leastRoom_76 rfl ?_
        exact absurd c21 (by omega)
      · refine jv_lload dX1_leastRoom_24 rfl ?_
        refine jv_lload dX1_leastRoom_26 rfl ?_
        refine jv_lcmp_ge 76 dX1_leastRoom_28 dX1_leastRoom_29 (fun c28 => ?_) (fun c28 => ?_)
        · refine jv_lload dX1_leastRoom_76 rfl ?_
          obtain rfl : a = b := by omega
          exact jv_lret dX1_leastRoom_78 hq (hp _ _ he go ab so w9 ⟨p1, p5, p6⟩ fr)
        · refine jv_lload dX1_leastRoom_32 rfl ?_
          refine jv_lload dX1_leastRoom_34 rfl ?_
          refine jv_lload dX1_leastRoom_36 rfl ?_
          refine jv_lsub dX1_leastRoom_38 ?_
          refine jv_ldc2 dX1_leastRoom_39 jk_X1_58 ?_
          refine jv_ldiv dX1_leastRoom_42 ?_
          refine jv_ladd dX1_leastRoom_43 ?_
          refine jv_lstore dX1_leastRoom_44 rfl (Nat.le_of_ble_eq_true rfl) ?_
          refine jv_aload_n dX1_leastRoom_46 rfl ?_
          refine jv_lload_n dX1_leastRoom_47 rfl ?_
          refine jv_lload dX1_leastRoom_48 rfl ?_
          have q0 := jq_ct_in cm ou (a + (b - a) / 2) n
          refine jv_cV dX1_leastRoom_50 jm_X1_39 rfl (by repeat' (first | assumption | exact ⟨_, by assumption⟩ | refine jv_h1 (by omega) ?_ | refine jv_h0 ?_ | refine jv_hs ?_)) rfl (ct_X1_goThrough K w9 hD ho (by omega) (fun h' he' go' ab' so' w' f' fr' => ?_))
          refine jv_iload_n dX1_leastRoom_53 rfl ?_
          refine jv_icmp_gt 64 dX1_leastRoom_54 (fun c54 => ?_) (fun c54 => ?_)
          · refine jv_lload dX1_leastRoom_64 rfl ?_
            refine jv_lconst 1 dX1_leastRoom_66 ?_
            refine jv_ladd dX1_leastRoom_67 ?_
            refine jv_lstore dX1_leastRoom_68 rfl (Nat.le_of_ble_eq_true rfl) ?_
            refine jv_iinc dX1_leastRoom_70 rfl rfl ?_
            refine jv_goto 17 dX1_leastRoom_73 ?_
            refine jv_les ?_ (ih (i + 1) (a + (b - a) / 2 + 1) b h' he' go' ab' so' (by omega) w' (jv_fr_tr fr fr') (by omega) (by omega) p3 (by omega) p5 (fun r' z1 z2 => by have := (jq_ct_mono (cm := cm) (ou := ou) (r := r') (r' := a + (b - a) / 2) (by omega) n).2; omega))
            exact (by repeat' (first | exact True.intro | exact rfl | apply And.intro))
          · refine jv_lload dX1_leastRoom_57 rfl ?_
            refine jv_lstore dX1_leastRoom_59 rfl (Nat.le_of_ble_eq_true rfl) ?_
            refine jv_goto 70 dX1_leastRoom_61 ?_
            refine jv_iinc dX1_leastRoom_70 rfl rfl ?_
            refine jv_goto 17 dX1_leastRoom_73 ?_
            refine jv_les ?_ (ih (i + 1) a (a + (b - a) / 2) h' he' go' ab' so' (by omega) w' (jv_fr_tr fr fr') p1 (by omega) (by omega) (by omega) c54 p6)
            exact (by repeat' (first | exact True.intro | exact rfl | apply And.intro))
  obtain ⟨w1, w2, w3, w4, w5, w6⟩ := w
  refine jv_aload_n dX1_leastRoom_0 rfl ?_
  refine jv_iconst dX1_leastRoom_1 ?_
  refine jv_putf dX1_leastRoom_2 jp_X1_35 (by repeat' (first | assumption | exact ⟨_, by assumption⟩ | refine jv_h1 (by omega) ?_ | refine jv_h0 ?_ | refine jv_hs ?_)) (by exact Nat.le_of_ble_eq_true rfl) ?_ (jv_bn (by omega)) (jv_bf (by omega))
  refine jv_lconst 0 dX1_leastRoom_5 ?_
  refine jv_lstore dX1_leastRoom_6 rfl (Nat.le_of_ble_eq_true rfl) ?_
  refine jv_aload_n dX1_leastRoom_8 rfl ?_
  refine jv_getf dX1_leastRoom_9 jf_X1_31 (by repeat' (first | assumption | exact ⟨_, by assumption⟩ | refine jv_h1 (by omega) ?_ | refine jv_h0 ?_ | refine jv_hs ?_)) (by exact rfl) ?_
  refine jv_lstore dX1_leastRoom_12 rfl (Nat.le_of_ble_eq_true rfl) ?_
  refine jv_iconst dX1_leastRoom_14 ?_
  refine jv_istore dX1_leastRoom_15 rfl (Nat.le_of_ble_eq_true rfl) ?_
  exact loop 60 0 0 al _ he go ab so (by omega) ⟨(by repeat' (first | assumption | exact ⟨_, by assumption⟩ | refine jv_h1 (by omega) ?_ | refine jv_h0 ?_ | refine jv_hs ?_)), (by repeat' (first | assumption | exact ⟨_, by assumption⟩ | refine jv_h1 (by omega) ?_ | refine jv_h0 ?_ | refine jv_hs ?_)), (by repeat' (first | assumption | exact ⟨_, by assumption⟩ | refine jv_h1 (by omega) ?_ | refine jv_h0 ?_ | refine jv_hs ?_)), (by repeat' (first | assumption | exact ⟨_, by assumption⟩ | refine jv_h1 (by omega) ?_ | refine jv_h0 ?_ | refine jv_hs ?_)), (by repeat' (first | assumption | exact ⟨_, by assumption⟩ | refine jv_h1 (by omega) ?_ | refine jv_h0 ?_ | refine jv_hs ?_)), (by repeat' (first | assumption | exact ⟨_, by assumption⟩ | refine jv_h1 (by omega) ?_ | refine jv_h0 ?_ | refine jv_hs ?_))⟩ (jv_fr_set (by omega) jv_fr_rf) (by omega) (by omega) (by omega) (by omega) (by rw [(jq_ct_all hD.2.1 ho.1 n (by rw [hD.2.2]; exact Int.le_refl _)).2]; omega) (fun r' z1 z2 => by omega)
end DY
end
section
/-! THE FACE'S DAYS -/
def jq_lr (n : Nat) (cm : Int → Int) (ou mo r : Int) : Prop := 0 ≤ r ∧ jq_ct cm ou r n ≤ mo ∧ ∀ r', 0 ≤ r' → r' < r → mo < jq_ct cm ou r' n
theorem jq_lr_un {n : Nat} {cm : Int → Int} {ou mo r s : Int} (h1 : jq_lr n cm ou mo r) (h2 : jq_lr n cm ou mo s) : r = s := by
  rcases Int.lt_trichotomy r s with q | q | q
  · have := h2.2.2 r h1.1 q; have := h1.2.1; omega
  · exact q
  · have := h1.2.2 s h2.1 q; have := h2.2.1; omega
def jq_lg (x : Int) : Prop := -9223372036854775808 ≤ x ∧ x ≤ 9223372036854775807
def jq_w15 (x : Int) : Prop := 0 ≤ x ∧ x ≤ 1000000000000000
section DF
variable {h : List jv_E} {n t d : Nat} {cm he go ab so : Int → Int} {al hr : Int} {post : Option Value → List jv_E → Prop}
theorem ct_X7_day {wt : Int} (K : Nat) (b : jw_B h t d) (w : jw_D h n cm he go ab so al hr) (hD : jq_D n cm al) (hw : jq_lg wt) (hp1 : (0 ≤ wt ∧ wt ≤ 1000000000000) ∧ n < 400 → ∀ h', jw_D h' (n + 1) (jv_up cm n wt) he go ab so (al + wt) 0 → jv_fr 89 94 h h' → post (some (.int (jv_i (n + 1)))) h') (hp2 : ¬ ((0 ≤ wt ∧ wt ≤ 1000000000000) ∧ n < 400) → post (some (.int (jv_i (-1)))) h) : jv_Ct yX7_day cX7_day 3 (some .int) (K + 1) [.ref 0, .long (jv_l wt)] h post := by
  unfold jw_B at b
  have w1 := w.1
  unfold jq_lg at hw
  refine jv_entry (own := RX7) (by decide) rfl (Nat.le_of_ble_eq_true rfl) (fun X hq => ?_)
  refine jv_lload_n dX7_day_0 rfl ?_
  refine jv_lconst 0 dX7_day_1 ?_
  refine jv_ldc2 dX7_day_2 jk_X7_167 ?_
  refine jv_cS dX7_day_5 jm_X7_63 (ct_X7_within K (fun r1 q11 q12 q13 => ?_))
  refine jv_if_eq 22 dX7_day_8 (fun c8 => ?_) (fun c8 => ?_)
  · refine jv_iconst dX7_day_22 ?_
    exact jv_iret dX7_day_23 hq (hp2 (by omega)) (by first | rfl | decide)
  · refine jv_aload_n dX7_day_11 rfl ?_
    refine jv_getf dX7_day_12 jf_X7_50 (by repeat' (first | assumption | exact ⟨_, by assumption⟩ | refine jv_h1 (by decide) ?_ | refine jv_h0 ?_ | refine jv_h1 (by omega) ?_ | refine jv_hs ?_)) (by exact rfl) ?_
    refine jv_lload_n dX7_day_15 rfl ?_
    refine jv_cV dX7_day_16 jm_X7_169 rfl (by repeat' (first | assumption | exact ⟨_, by assumption⟩ | refine jv_h1 (by decide) ?_ | refine jv_h0 ?_ | refine jv_h1 (by omega) ?_ | refine jv_hs ?_)) rfl (ct_X1_add K w hD (fun q h' w' fr => ?_) (fun q => ?_))
    · refine jv_goto 23 dX7_day_19 ?_
      exact jv_iret dX7_day_23 hq (hp1 (by omega) h' w' fr)
    · refine jv_goto 23 dX7_day_19 ?_
      exact jv_iret dX7_day_23 hq (hp2 (by omega))
theorem ct_X7_run {ou ro : Int} (K : Nat) (b : jw_B h t d) (w : jw_D h n cm he go ab so al hr) (hD : jq_D n cm al) (ho : jq_lg ou) (hr0 : jq_lg ro) (hp1 : jq_w15 ou ∧ jq_w15 ro → ∀ h' he' go' ab' so', jw_D h' n cm he' go' ab' so' al 1 → jq_run n cm ou ro he' go' ab' so' → jv_fr 89 94 h h' → post (some (.int (jv_i (jq_ct cm ou ro n)))) h') (hp2 : ¬ (jq_w15 ou ∧ jq_w15 ro) → post (some (.int (jv_i (-1)))) h) : jv_Ct yX7_run cX7_run 5 (some .int) (K + 3) [.ref 0, .long (jv_l ou), .long (jv_l ro)] h post := by
  unfold jw_B at b
  have w1 := w.1
  unfold jq_lg at ho hr0
  unfold jq_w15 at hp1 hp2
  refine jv_entry (own := RX7) (by decide) rfl (Nat.le_of_ble_eq_true rfl) (fun X hq => ?_)
  refine jv_lload_n dX7_run_0 rfl ?_
  refine jv_lconst 0 dX7_run_1 ?_
  refine jv_ldc2 dX7_run_2 jk_X7_171 ?_
  refine jv_cS dX7_run_5 jm_X7_63 (ct_X7_within K (fun r1 q11 q12 q13 => ?_))
  refine jv_if_eq 22 dX7_run_8 (fun c8 => ?_) (fun c8 => ?_)
  · refine jv_iconst dX7_run_22 ?_
    exact jv_iret dX7_run_23 hq (hp2 (by omega))
  · refine jv_lload_n dX7_run_11 rfl ?_
    refine jv_lconst 0 dX7_run_12 ?_
    refine jv_ldc2 dX7_run_13 jk_X7_171 ?_
    refine jv_cS dX7_run_16 jm_X7_63 (ct_X7_within K (fun r2 q21 q22 q23 => ?_))
    refine jv_if_ne 24 dX7_run_19 (fun c19 => ?_) (fun c19 => ?_)
    · refine jv_aload_n dX7_run_24 rfl ?_
      refine jv_getf dX7_run_25 jf_X7_50 (by repeat' (first | assumption | exact ⟨_, by assumption⟩ | refine jv_h1 (by decide) ?_ | refine jv_h0 ?_ | refine jv_h1 (by omega) ?_ | refine jv_hs ?_)) (by exact rfl) ?_
      refine jv_lload_n dX7_run_28 rfl ?_
      refine jv_lload_n dX7_run_29 rfl ?_
      refine jv_cV dX7_run_30 jm_X7_173 rfl (by repeat' (first | assumption | exact ⟨_, by assumption⟩ | refine jv_h1 (by decide) ?_ | refine jv_h0 ?_ | refine jv_h1 (by omega) ?_ | refine jv_hs ?_)) rfl (ct_X1_keepRun K w hD (by omega) (by omega) (fun h' he' go' ab' so' w' f' fr' => ?_))
      exact jv_iret dX7_run_33 hq (hp1 (by omega) h' he' go' ab' so' w' f' fr') (by first | rfl | decide)
    · refine jv_iconst dX7_run_22 ?_
      exact jv_iret dX7_run_23 hq (hp2 (by omega))
theorem ct_X7_behind {dy wh : Int} (K : Nat) (b : jw_B h t d) (w : jw_D h n cm he go ab so al hr) (hD : jq_D n cm al) (hr1 : 0 ≤ hr ∧ hr ≤ 1) (hd : jq_rg dy) (hw : jq_rg wh) (hp : post (some (.long (jv_l (jq_rc n hr he go ab so dy wh)))) h) : jv_Ct yX7_behind cX7_behind 3 (some .long) (K + 2) [.ref 0, .int (jv_i dy), .int (jv_i wh)] h post := by
  unfold jw_B at b
  have w1 := w.1
  refine jv_entry (own := RX7) (by decide) rfl (Nat.le_of_ble_eq_true rfl) (fun X hq => ?_)
  refine jv_aload_n dX7_behind_0 rfl ?_
  refine jv_getf dX7_behind_1 jf_X7_50 (by repeat' (first | assumption | exact ⟨_, by assumption⟩ | refine jv_h1 (by decide) ?_ | refine jv_h0 ?_ | refine jv_h1 (by omega) ?_ | refine jv_hs ?_)) (by exact rfl) ?_
  refine jv_iload_n dX7_behind_4 rfl ?_
  refine jv_iload_n dX7_behind_5 rfl ?_
  refine jv_cV dX7_behind_6 jm_X7_177 rfl (by repeat' (first | assumption | exact ⟨_, by assumption⟩ | refine jv_h1 (by decide) ?_ | refine jv_h0 ?_ | refine jv_h1 (by omega) ?_ | refine jv_hs ?_)) rfl (ct_X1_recall K w hD hr1 hd hw ?_)
  exact jv_lret dX7_behind_9 hq (hp)
theorem ct_X7_room {ou mo : Int} (K : Nat) (b : jw_B h t d) (w : jw_D h n cm he go ab so al hr) (hD : jq_D n cm al) (ho : jq_lg ou) (hm : jq_rg mo) (hp1 : jq_w15 ou ∧ (0 ≤ mo ∧ mo ≤ 400) → ∀ r h' he' go' ab' so', jw_D h' n cm he' go' ab' so' al 0 → jq_lr n cm ou mo r → jv_fr 89 94 h h' → post (some (.long (jv_l r))) h') (hp2 : ¬ (jq_w15 ou ∧ (0 ≤ mo ∧ mo ≤ 400)) → post (some (.long (jv_l (-1)))) h) : jv_Ct yX7_room cX7_room 4 (some .long) (K + 3) [.ref 0, .long (jv_l ou), .int (jv_i mo)] h post := by
  unfold jw_B at b
  have w1 := w.1
  unfold jq_lg at ho
  unfold jq_rg at hm
  unfold jq_w15 at hp1 hp2
  refine jv_entry (own := RX7) (by decide) rfl (Nat.le_of_ble_eq_true rfl) (fun X hq => ?_)
  refine jv_lload_n dX7_room_0 rfl ?_
  refine jv_lconst 0 dX7_room_1 ?_
  refine jv_ldc2 dX7_room_2 jk_X7_171 ?_
  refine jv_cS dX7_room_5 jm_X7_63 (ct_X7_within K (fun r1 q11 q12 q13 => ?_))
  refine jv_if_eq 23 dX7_room_8 (fun c8 => ?_) (fun c8 => ?_)
  · refine jv_ldc2 dX7_room_23 jk_X7_78 ?_
    exact jv_lret dX7_room_26 hq (hp2 (by omega))
  · refine jv_iload_n dX7_room_11 rfl ?_
    refine jv_i2l dX7_room_12 ?_
    refine jv_lconst 0 dX7_room_13 ?_
    refine jv_ldc2 dX7_room_14 jk_X7_181 ?_
    refine jv_cS dX7_room_17 jm_X7_63 (ct_X7_within K (fun r2 q21 q22 q23 => ?_))
    refine jv_if_ne 27 dX7_room_20 (fun c20 => ?_) (fun c20 => ?_)
    · refine jv_aload_n dX7_room_27 rfl ?_
      refine jv_getf dX7_room_28 jf_X7_50 (by repeat' (first | assumption | exact ⟨_, by assumption⟩ | refine jv_h1 (by decide) ?_ | refine jv_h0 ?_ | refine jv_h1 (by omega) ?_ | refine jv_hs ?_)) (by exact rfl) ?_
      refine jv_lload_n dX7_room_31 rfl ?_
      refine jv_iload_n dX7_room_32 rfl ?_
      refine jv_cV dX7_room_33 jm_X7_183 rfl (by repeat' (first | assumption | exact ⟨_, by assumption⟩ | refine jv_h1 (by decide) ?_ | refine jv_h0 ?_ | refine jv_h1 (by omega) ?_ | refine jv_hs ?_)) rfl (ct_X1_leastRoom K w hD (by omega) (by omega) (fun r h' he' go' ab' so' w' f' fr' => ?_))
      exact jv_lret dX7_room_36 hq (hp1 (by omega) r h' he' go' ab' so' w' f' fr')
    · refine jv_ldc2 dX7_room_23 jk_X7_78 ?_
      exact jv_lret dX7_room_26 hq (hp2 (by omega))
end DF
/-! the reference's days: comes 110, holds 111, went 112, over 113 -/
def jw_MD (h : List jv_E) (cm ho we ov : Int → Int) : Prop := h[110]? = some (jv_al 400 cm) ∧ h[111]? = some (jv_al 400 ho) ∧ h[112]? = some (jv_al 400 we) ∧ h[113]? = some (jv_al 400 ov)
def jq_mrun (n : Nat) (cm : Int → Int) (ou ro : Int) (ho we ov : Int → Int) : Prop := ∀ j : Nat, j < n → ho j = jq_wt cm ou ro (j + 1) ∧ we j = jq_gn cm ou ro j ∧ ov j = jq_av cm ou ro j
theorem jq_mrun_s {i : Nat} {cm ho we ov : Int → Int} {ou ro : Int} (h : jq_mrun i cm ou ro ho we ov) : jq_mrun (i + 1) cm ou ro (jv_up ho i (jq_wt cm ou ro (i + 1))) (jv_up we i (jq_gn cm ou ro i)) (jv_up ov i (jq_av cm ou ro i)) := fun j hj => by
  by_cases e : j = i
  · subst e
    simp [jv_up]
  · have e2 : (j : Int) ≠ i := by omega
    obtain ⟨h1, h2, h3⟩ := h j (by omega)
    simp [jv_up, e2, h1, h2, h3]
theorem jv_fs_tr {P : List Nat} {a b c : List jv_E} (h1 : jv_fs P a b) (h2 : jv_fs P b c) : jv_fs P a c := fun i q => (h2 i q).trans (h1 i q)
section MD
variable {h : List jv_E} {n : Nat} {rr lv cu si st at_ wr ra wa : Int} {cm ho we ov : Int → Int} {al : Int} {post : Option Value → List jv_E → Prop}
theorem ct_X8_day {wt : Int} (K : Nat) (o : jw_O h rr lv cu si st at_ wr n ra wa) (w : jw_MD h cm ho we ov) (hD : jq_D n cm al) (hw : jq_lg wt) (hp1 : (0 ≤ wt ∧ wt ≤ 1000000000000) ∧ n < 400 → ∀ h', jw_O h' rr lv cu si st at_ wr (n + 1) 0 wa → jw_MD h' (jv_up cm n wt) ho we ov → jv_fs [97, 110, 111, 112, 113] h h' → post (some (.int (jv_i (n + 1)))) h') (hp2 : ¬ ((0 ≤ wt ∧ wt ≤ 1000000000000) ∧ n < 400) → post (some (.int (jv_i (-1)))) h) : jv_Ct yX8_day cX8_day 3 (some .int) (K + 1) [.ref 97, .long (jv_l wt)] h post := by
  unfold jw_O at o
  obtain ⟨w1, w2, w3, w4⟩ := w
  have hn := hD.1
  unfold jq_lg at hw
  refine jv_entry (own := RX8) (by decide) rfl (Nat.le_of_ble_eq_true rfl) (fun X hq => ?_)
  refine jv_lload_n dX8_day_0 rfl ?_
  refine jv_lconst 0 dX8_day_1 ?_
  refine jv_ldc2 dX8_day_2 jk_X8_172 ?_
  refine jv_cS dX8_day_5 jm_X8_64 (ct_X8_in K (fun r1 q11 q12 q13 => ?_))
  refine jv_if_eq 21 dX8_day_8 (fun c8 => ?_) (fun c8 => ?_)
  · refine jv_iconst dX8_day_21 ?_
    exact jv_iret dX8_day_22 hq (hp2 (by omega))
  · refine jv_aload_n dX8_day_11 rfl ?_
    refine jv_getf dX8_day_12 jf_X8_174 (by repeat' (first | assumption | exact ⟨_, by assumption⟩ | refine jv_h1 (by decide) ?_ | refine jv_h0 ?_ | refine jv_h1 (by omega) ?_ | refine jv_hs ?_)) (by exact rfl) ?_
    refine jv_sipush dX8_day_15 ?_
    refine jv_icmp_ne 23 dX8_day_18 (fun c18 => ?_) (fun c18 => ?_)
    · refine jv_aload_n dX8_day_23 rfl ?_
      refine jv_getf dX8_day_24 jf_X8_46 (by repeat' (first | assumption | exact ⟨_, by assumption⟩ | refine jv_h1 (by decide) ?_ | refine jv_h0 ?_ | refine jv_h1 (by omega) ?_ | refine jv_hs ?_)) (by exact rfl) ?_
      refine jv_aload_n dX8_day_27 rfl ?_
      refine jv_getf dX8_day_28 jf_X8_174 (by repeat' (first | assumption | exact ⟨_, by assumption⟩ | refine jv_h1 (by decide) ?_ | refine jv_h0 ?_ | refine jv_h1 (by omega) ?_ | refine jv_hs ?_)) (by exact rfl) ?_
      refine jv_lload_n dX8_day_31 rfl ?_
      refine jv_last dX8_day_32 (by repeat' (first | assumption | exact ⟨_, by assumption⟩ | refine jv_h1 (by decide) ?_ | refine jv_h0 ?_ | refine jv_h1 (by omega) ?_ | refine jv_hs ?_)) ?_
      refine jv_aload_n dX8_day_33 rfl ?_
      refine jv_dup dX8_day_34 rfl ?_
      refine jv_getf dX8_day_35 jf_X8_174 (by repeat' (first | assumption | exact ⟨_, by assumption⟩ | refine jv_h1 (by decide) ?_ | refine jv_h0 ?_ | refine jv_h1 (by omega) ?_ | refine jv_hs ?_)) (by exact rfl) ?_
      refine jv_iconst dX8_day_38 ?_
      refine jv_iadd dX8_day_39 ?_
      refine jv_putf dX8_day_40 jp_X8_174 (by repeat' (first | assumption | exact ⟨_, by assumption⟩ | refine jv_h1 (by decide) ?_ | refine jv_h0 ?_ | refine jv_h1 (by omega) ?_ | refine jv_hs ?_)) (by exact Nat.le_of_ble_eq_true rfl) ?_
      refine jv_aload_n dX8_day_43 rfl ?_
      refine jv_iconst dX8_day_44 ?_
      refine jv_putf dX8_day_45 jp_X8_177 (by repeat' (first | assumption | exact ⟨_, by assumption⟩ | refine jv_h1 (by decide) ?_ | refine jv_h0 ?_ | refine jv_h1 (by omega) ?_ | refine jv_hs ?_)) (by exact Nat.le_of_ble_eq_true rfl) ?_ (jv_bn (by omega)) (jv_bf (by omega))
      refine jv_aload_n dX8_day_48 rfl ?_
      refine jv_getf dX8_day_49 jf_X8_174 (by repeat' (first | assumption | exact ⟨_, by assumption⟩ | refine jv_h1 (by decide) ?_ | refine jv_h0 ?_ | refine jv_h1 (by omega) ?_ | refine jv_hs ?_)) (by exact rfl) ?_
      exact jv_iret dX8_day_52 hq (hp1 (by omega) _ (by repeat' (first | assumption | exact ⟨_, by assumption⟩ | refine jv_h1 (by decide) ?_ | refine jv_h0 ?_ | refine jv_h1 (by omega) ?_ | refine jv_hs ?_)) ⟨(by repeat' (first | assumption | exact ⟨_, by assumption⟩ | refine jv_h1 (by decide) ?_ | refine jv_h0 ?_ | refine jv_h1 (by omega) ?_ | refine jv_hs ?_)), (by repeat' (first | assumption | exact ⟨_, by assumption⟩ | refine jv_h1 (by decide) ?_ | refine jv_h0 ?_ | refine jv_h1 (by omega) ?_ | refine jv_hs ?_)), (by repeat' (first | assumption | exact ⟨_, by assumption⟩ | refine jv_h1 (by decide) ?_ | refine jv_h0 ?_ | refine jv_h1 (by omega) ?_ | refine jv_hs ?_)), (by repeat' (first | assumption | exact ⟨_, by assumption⟩ | refine jv_h1 (by decide) ?_ | refine jv_h0 ?_ | refine jv_h1 (by omega) ?_ | refine jv_hs ?_))⟩ (jv_fs_set (by decide) (jv_fs_set (by decide) (jv_fs_set (by decide) jv_fs_rf)))) (by first | rfl | decide)
    · refine jv_iconst dX8_day_21 ?_
      exact jv_iret dX8_day_22 hq (hp2 (by omega))
theorem ct_X8_go {ou ro : Int} (K : Nat) (o : jw_O h rr lv cu si st at_ wr n ra wa) (w : jw_MD h cm ho we ov) (hD : jq_D n cm al) (ho0 : 0 ≤ ou ∧ ou ≤ 1000000000000000) (hr0 : 0 ≤ ro ∧ ro ≤ 1000000000000000) (hp : ∀ h' ho' we' ov', jw_O h' rr lv cu si st at_ wr n ra wa → jw_MD h' cm ho' we' ov' → jq_mrun n cm ou ro ho' we' ov' → jv_fs [97, 110, 111, 112, 113] h h' → post (some (.int (jv_i (jq_ct cm ou ro n)))) h') : jv_Ct yX8_go cX8_go 9 (some .int) K [.ref 97, .long (jv_l ou), .long (jv_l ro)] h post := by
  have hn := hD.1
  refine jv_entry (own := RX8) (by decide) rfl (Nat.le_of_ble_eq_true rfl) (fun X hq => ?_)
  have loop : ∀ (k i : Nat) (h1 : List jv_E) (ho we ov : Int → Int), i + k = n → jw_O h1 rr lv cu si st at_ wr n ra wa → jw_MD h1 cm ho we ov → jq_mrun i cm ou ro ho we ov → jv_fs [97, 110, 111, 112, 113] h h1 → jv_J X cX8_go RX8 K 9 [some (.ref 97), some (.long (jv_l ou)), none, some (.long (jv_l ro)), none, some (.long (jv_l (jq_wt cm ou ro i))), none, some (.int (jv_i (jq_ct cm ou ro i))), some (.int (jv_i i))] [] h1 := by
    intro k
    induction k with
    | zero =>
      intro i h1 ho we ov e o w f fr
      have o9 := o
      unfold jw_O at o
      have e2 : i = n := by omega
      subst e2
      refine jv_iload dX8_go_9 rfl ?_
      refine jv_aload_n dX8_go_11 rfl ?_
      refine jv_getf dX8_go_12 jf_X8_174 (by repeat' (first | assumption | exact ⟨_, by assumption⟩ | refine jv_h1 (by decide) ?_ | refine jv_h0 ?_ | refine jv_h1 (by omega) ?_ | refine jv_hs ?_)) (by exact rfl) ?_
      refine jv_icmp_ge 133 dX8_go_15 (fun c15 => ?_) (fun c15 => ?_)
      · refine jv_iload dX8_go_133 rfl ?_
        exact jv_iret dX8_go_135 hq (hp h1 ho we ov o9 w f fr) (by first | rfl | decide)
      · exact absurd c15 (by omega)
    | succ k ih =>
      intro i h1 ho we ov e o w f fr
      unfold jw_O at o
      obtain ⟨w1, w2, w3, w4⟩ := w
      have b1 := jq_wt_in hD.2.1 ho0.1 hr0.1 i
      have b2 := hD.2.1 i
      have b3 := jq_ct_in cm ou ro i
      have e5 : jq_gn cm ou ro i = min (jq_wt cm ou ro i + cm i) ou := rfl
      have e6 : jq_av cm ou ro i = max 0 (jq_wt cm ou ro i + cm i - min (jq_wt cm ou ro i + cm i) ou - ro) := rfl
      have f2 := jq_mrun_s f
      refine jv_iload dX8_go_9 rfl ?_
      refine jv_aload_n dX8_go_11 rfl ?_
      refine jv_getf dX8_go_12 jf_X8_174 (by repeat' (first | assumption | exact ⟨_, by assumption⟩ | refine jv_h1 (by decide) ?_ | refine jv_h0 ?_ | refine jv_h1 (by omega) ?_ | refine jv_hs ?_)) (by exact rfl) ?_
      refine jv_icmp_ge 133 dX8_go_15 (fun c15 => ?_) (fun c15 => ?_)
      · exact absurd c15 (by omega)
      · refine jv_lload dX8_go_18 rfl ?_
        refine jv_aload_n dX8_go_20 rfl ?_
        refine jv_getf dX8_go_21 jf_X8_46 (by repeat' (first | assumption | exact ⟨_, by assumption⟩ | refine jv_h1 (by decide) ?_ | refine jv_h0 ?_ | refine jv_h1 (by omega) ?_ | refine jv_hs ?_)) (by exact rfl) ?_
        refine jv_iload dX8_go_24 rfl ?_
        refine jv_lald dX8_go_26 (by repeat' (first | assumption | exact ⟨_, by assumption⟩ | refine jv_h1 (by decide) ?_ | refine jv_h0 ?_ | refine jv_h1 (by omega) ?_ | refine jv_hs ?_)) ?_
        refine jv_ladd dX8_go_27 ?_
        refine jv_lstore dX8_go_28 rfl (Nat.le_of_ble_eq_true rfl) ?_
        refine jv_aload_n dX8_go_30 rfl ?_
        refine jv_getf dX8_go_31 jf_X8_53 (by repeat' (first | assumption | exact ⟨_, by assumption⟩ | refine jv_h1 (by decide) ?_ | refine jv_h0 ?_ | refine jv_h1 (by omega) ?_ | refine jv_hs ?_)) (by exact rfl) ?_
        refine jv_iload dX8_go_34 rfl ?_
        refine jv_lload dX8_go_36 rfl ?_
        refine jv_lload_n dX8_go_38 rfl ?_
        refine jv_lcmp_ge 48 dX8_go_39 dX8_go_40 (fun c39 => ?_) (fun c39 => ?_)
        · refine jv_lload_n dX8_go_48 rfl ?_
          refine jv_tl (b := jq_gn cm ou ro i) (by omega) ?_
          refine jv_last dX8_go_49 (by repeat' (first | assumption | exact ⟨_, by assumption⟩ | refine jv_h1 (by decide) ?_ | refine jv_h0 ?_ | refine jv_h1 (by omega) ?_ | refine jv_hs ?_)) ?_
          refine jv_lload dX8_go_50 rfl ?_
          refine jv_aload_n dX8_go_52 rfl ?_
          refine jv_getf dX8_go_53 jf_X8_53 (by repeat' (first | assumption | exact ⟨_, by assumption⟩ | refine jv_h1 (by decide) ?_ | refine jv_h0 ?_ | refine jv_h1 (by omega) ?_ | refine jv_hs ?_)) (by exact rfl) ?_
          refine jv_iload dX8_go_56 rfl ?_
          refine jv_lald dX8_go_58 (by repeat' (first | assumption | exact ⟨_, by assumption⟩ | refine jv_h1 (by decide) ?_ | refine jv_h0 ?_ | refine jv_h1 (by omega) ?_ | refine jv_hs ?_)) ?_
          rw [jv_up_s]
          refine jv_lsub dX8_go_59 ?_
          refine jv_lstore dX8_go_60 rfl (Nat.le_of_ble_eq_true rfl) ?_
          refine jv_aload_n dX8_go_62 rfl ?_
          refine jv_getf dX8_go_63 jf_X8_56 (by repeat' (first | assumption | exact ⟨_, by assumption⟩ | refine jv_h1 (by decide) ?_ | refine jv_h0 ?_ | refine jv_h1 (by omega) ?_ | refine jv_hs ?_)) (by exact rfl) ?_
          refine jv_iload dX8_go_66 rfl ?_
          refine jv_lload dX8_go_68 rfl ?_
          refine jv_lload_n dX8_go_70 rfl ?_
          refine jv_lcmp_le 82 dX8_go_71 dX8_go_72 (fun c71 => ?_) (fun c71 => ?_)
          · refine jv_lconst 0 dX8_go_82 ?_
            refine jv_tl (b := jq_av cm ou ro i) (by omega) ?_
            refine jv_last dX8_go_83 (by repeat' (first | assumption | exact ⟨_, by assumption⟩ | refine jv_h1 (by decide) ?_ | refine jv_h0 ?_ | refine jv_h1 (by omega) ?_ | refine jv_hs ?_)) ?_
            refine jv_lload dX8_go_84 rfl ?_
            refine jv_aload_n dX8_go_86 rfl ?_
            refine jv_getf dX8_go_87 jf_X8_56 (by repeat' (first | assumption | exact ⟨_, by assumption⟩ | refine jv_h1 (by decide) ?_ | refine jv_h0 ?_ | refine jv_h1 (by omega) ?_ | refine jv_hs ?_)) (by exact rfl) ?_
            refine jv_iload dX8_go_90 rfl ?_
            refine jv_lald dX8_go_92 (by repeat' (first | assumption | exact ⟨_, by assumption⟩ | refine jv_h1 (by decide) ?_ | refine jv_h0 ?_ | refine jv_h1 (by omega) ?_ | refine jv_hs ?_)) ?_
            rw [jv_up_s]
            refine jv_lsub dX8_go_93 ?_
            refine jv_lstore dX8_go_94 rfl (Nat.le_of_ble_eq_true rfl) ?_
            rw [← jq_wt_s]
            refine jv_aload_n dX8_go_96 rfl ?_
            refine jv_getf dX8_go_97 jf_X8_50 (by repeat' (first | assumption | exact ⟨_, by assumption⟩ | refine jv_h1 (by decide) ?_ | refine jv_h0 ?_ | refine jv_h1 (by omega) ?_ | refine jv_hs ?_)) (by exact rfl) ?_
            refine jv_iload dX8_go_100 rfl ?_
            refine jv_lload dX8_go_102 rfl ?_
            refine jv_last dX8_go_104 (by repeat' (first | assumption | exact ⟨_, by assumption⟩ | refine jv_h1 (by decide) ?_ | refine jv_h0 ?_ | refine jv_h1 (by omega) ?_ | refine jv_hs ?_)) ?_
            refine jv_iload dX8_go_105 rfl ?_
            refine jv_aload_n dX8_go_107 rfl ?_
            refine jv_getf dX8_go_108 jf_X8_56 (by repeat' (first | assumption | exact ⟨_, by assumption⟩ | refine jv_h1 (by decide) ?_ | refine jv_h0 ?_ | refine jv_h1 (by omega) ?_ | refine jv_hs ?_)) (by exact rfl) ?_
            refine jv_iload dX8_go_111 rfl ?_
            refine jv_lald dX8_go_113 (by repeat' (first | assumption | exact ⟨_, by assumption⟩ | refine jv_h1 (by decide) ?_ | refine jv_h0 ?_ | refine jv_h1 (by omega) ?_ | refine jv_hs ?_)) ?_
            rw [jv_up_s]
            refine jv_lconst 0 dX8_go_114 ?_
            refine jv_lcmp_le 123 dX8_go_115 dX8_go_116 (fun c115 => ?_) (fun c115 => ?_)
            · refine jv_iconst dX8_go_123 ?_
              refine jv_iadd dX8_go_124 ?_
              refine jv_istore dX8_go_125 rfl (Nat.le_of_ble_eq_true rfl) ?_
              refine jv_iinc dX8_go_127 rfl rfl ?_
              refine jv_goto 9 dX8_go_130 ?_
              have e3 : jq_ct cm ou ro (i + 1) = jq_ct cm ou ro i + 0 := by rw [jq_ct, if_neg (by omega), Int.add_zero]
              have nx := fun h1 o w fr => ih (i + 1) h1 _ _ _ (by omega) o w f2 fr
              rw [e3] at nx
              exact nx _ (by repeat' (first | assumption | exact ⟨_, by assumption⟩ | refine jv_h1 (by decide) ?_ | refine jv_h0 ?_ | refine jv_h1 (by omega) ?_ | refine jv_hs ?_)) ⟨(by repeat' (first | assumption | exact ⟨_, by assumption⟩ | refine jv_h1 (by decide) ?_ | refine jv_h0 ?_ | refine jv_h1 (by omega) ?_ | refine jv_hs ?_)), (by repeat' (first | assumption | exact ⟨_, by assumption⟩ | refine jv_h1 (by decide) ?_ | refine jv_h0 ?_ | refine jv_h1 (by omega) ?_ | refine jv_hs ?_)), (by repeat' (first | assumption | exact ⟨_, by assumption⟩ | refine jv_h1 (by decide) ?_ | refine jv_h0 ?_ | refine jv_h1 (by omega) ?_ | refine jv_hs ?_)), (by repeat' (first | assumption | exact ⟨_, by assumption⟩ | refine jv_h1 (by decide) ?_ | refine jv_h0 ?_ | refine jv_h1 (by omega) ?_ | refine jv_hs ?_))⟩ (jv_fs_set (by decide) (jv_fs_set (by decide) (jv_fs_set (by decide) fr)))
            · refine jv_iconst dX8_go_119 ?_
              refine jv_goto 124 dX8_go_120 ?_
              refine jv_iadd dX8_go_124 ?_
              refine jv_istore dX8_go_125 rfl (Nat.le_of_ble_eq_true rfl) ?_
              refine jv_iinc dX8_go_127 rfl rfl ?_
              refine jv_goto 9 dX8_go_130 ?_
              exact absurd c115 (by omega)
          · refine jv_lload dX8_go_75 rfl ?_
            refine jv_lload_n dX8_go_77 rfl ?_
            refine jv_lsub dX8_go_78 ?_
            refine jv_goto 83 dX8_go_79 ?_
            refine jv_tl (b := jq_av cm ou ro i) (by omega) ?_
            refine jv_last dX8_go_83 (by repeat' (first | assumption | exact ⟨_, by assumption⟩ | refine jv_h1 (by decide) ?_ | refine jv_h0 ?_ | refine jv_h1 (by omega) ?_ | refine jv_hs ?_)) ?_
            refine jv_lload dX8_go_84 rfl ?_
            refine jv_aload_n dX8_go_86 rfl ?_
            refine jv_getf dX8_go_87 jf_X8_56 (by repeat' (first | assumption | exact ⟨_, by assumption⟩ | refine jv_h1 (by decide) ?_ | refine jv_h0 ?_ | refine jv_h1 (by omega) ?_ | refine jv_hs ?_)) (by exact rfl) ?_
            refine jv_iload dX8_go_90 rfl ?_
            refine jv_lald dX8_go_92 (by repeat' (first | assumption | exact ⟨_, by assumption⟩ | refine jv_h1 (by decide) ?_ | refine jv_h0 ?_ | refine jv_h1 (by omega) ?_ | refine jv_hs ?_)) ?_
            rw [jv_up_s]
            refine jv_lsub dX8_go_93 ?_
            refine jv_lstore dX8_go_94 rfl (Nat.le_of_ble_eq_true rfl) ?_
            rw [← jq_wt_s]
            refine jv_aload_n dX8_go_96 rfl ?_
            refine jv_getf dX8_go_97 jf_X8_50 (by repeat' (first | assumption | exact ⟨_, by assumption⟩ | refine jv_h1 (by decide) ?_ | refine jv_h0 ?_ | refine jv_h1 (by omega) ?_ | refine jv_hs ?_)) (by exact rfl) ?_
            refine jv_iload dX8_go_100 rfl ?_
            refine jv_lload dX8_go_102 rfl ?_
            refine jv_last dX8_go_104 (by repeat' (first | assumption | exact ⟨_, by assumption⟩ | refine jv_h1 (by decide) ?_ | refine jv_h0 ?_ | refine jv_h1 (by omega) ?_ | refine jv_hs ?_)) ?_
            refine jv_iload dX8_go_105 rfl ?_
            refine jv_aload_n dX8_go_107 rfl ?_
            refine jv_getf dX8_go_108 jf_X8_56 (by repeat' (first | assumption | exact ⟨_, by assumption⟩ | refine jv_h1 (by decide) ?_ | refine jv_h0 ?_ | refine jv_h1 (by omega) ?_ | refine jv_hs ?_)) (by exact rfl) ?_
            refine jv_iload dX8_go_111 rfl ?_
            refine jv_lald dX8_go_113 (by repeat' (first | assumption | exact ⟨_, by assumption⟩ | refine jv_h1 (by decide) ?_ | refine jv_h0 ?_ | refine jv_h1 (by omega) ?_ | refine jv_hs ?_)) ?_
            rw [jv_up_s]
            refine jv_lconst 0 dX8_go_114 ?_
            refine jv_lcmp_le 123 dX8_go_115 dX8_go_116 (fun c115 => ?_) (fun c115 => ?_)
            · refine jv_iconst dX8_go_123 ?_
              refine jv_iadd dX8_go_124 ?_
              refine jv_istore dX8_go_125 rfl (Nat.le_of_ble_eq_true rfl) ?_
              refine jv_iinc dX8_go_127 rfl rfl ?_
              refine jv_goto 9 dX8_go_130 ?_
              exact absurd c115 (by omega)
            · refine jv_iconst dX8_go_119 ?_
              refine jv_goto 124 dX8_go_120 ?_
              refine jv_iadd dX8_go_124 ?_
              refine jv_istore dX8_go_125 rfl (Nat.le_of_ble_eq_true rfl) ?_
              refine jv_iinc dX8_go_127 rfl rfl ?_
              refine jv_goto 9 dX8_go_130 ?_
              have e3 : jq_ct cm ou ro (i + 1) = jq_ct cm ou ro i + 1 := by rw [jq_ct, if_pos c115]
              have nx := fun h1 o w fr => ih (i + 1) h1 _ _ _ (by omega) o w f2 fr
              rw [e3] at nx
              exact nx _ (by repeat' (first | assumption | exact ⟨_, by assumption⟩ | refine jv_h1 (by decide) ?_ | refine jv_h0 ?_ | refine jv_h1 (by omega) ?_ | refine jv_hs ?_)) ⟨(by repeat' (first | assumption | exact ⟨_, by assumption⟩ | refine jv_h1 (by decide) ?_ | refine jv_h0 ?_ | refine jv_h1 (by omega) ?_ | refine jv_hs ?_)), (by repeat' (first | assumption | exact ⟨_, by assumption⟩ | refine jv_h1 (by decide) ?_ | refine jv_h0 ?_ | refine jv_h1 (by omega) ?_ | refine jv_hs ?_)), (by repeat' (first | assumption | exact ⟨_, by assumption⟩ | refine jv_h1 (by decide) ?_ | refine jv_h0 ?_ | refine jv_h1 (by omega) ?_ | refine jv_hs ?_)), (by repeat' (first | assumption | exact ⟨_, by assumption⟩ | refine jv_h1 (by decide) ?_ | refine jv_h0 ?_ | refine jv_h1 (by omega) ?_ | refine jv_hs ?_))⟩ (jv_fs_set (by decide) (jv_fs_set (by decide) (jv_fs_set (by decide) fr)))
        · refine jv_lload dX8_go_43 rfl ?_
          refine jv_goto 49 dX8_go_45 ?_
          refine jv_tl (b := jq_gn cm ou ro i) (by omega) ?_
          refine jv_last dX8_go_49 (by repeat' (first | assumption | exact ⟨_, by assumption⟩ | refine jv_h1 (by decide) ?_ | refine jv_h0 ?_ | refine jv_h1 (by omega) ?_ | refine jv_hs ?_)) ?_
          refine jv_lload dX8_go_50 rfl ?_
          refine jv_aload_n dX8_go_52 rfl ?_
          refine jv_getf dX8_go_53 jf_X8_53 (by repeat' (first | assumption | exact ⟨_, by assumption⟩ | refine jv_h1 (by decide) ?_ | refine jv_h0 ?_ | refine jv_h1 (by omega) ?_ | refine jv_hs ?_)) (by exact rfl) ?_
          refine jv_iload dX8_go_56 rfl ?_
          refine jv_lald dX8_go_58 (by repeat' (first | assumption | exact ⟨_, by assumption⟩ | refine jv_h1 (by decide) ?_ | refine jv_h0 ?_ | refine jv_h1 (by omega) ?_ | refine jv_hs ?_)) ?_
          rw [jv_up_s]
          refine jv_lsub dX8_go_59 ?_
          refine jv_lstore dX8_go_60 rfl (Nat.le_of_ble_eq_true rfl) ?_
          refine jv_aload_n dX8_go_62 rfl ?_
          refine jv_getf dX8_go_63 jf_X8_56 (by repeat' (first | assumption | exact ⟨_, by assumption⟩ | refine jv_h1 (by decide) ?_ | refine jv_h0 ?_ | refine jv_h1 (by omega) ?_ | refine jv_hs ?_)) (by exact rfl) ?_
          refine jv_iload dX8_go_66 rfl ?_
          refine jv_lload dX8_go_68 rfl ?_
          refine jv_lload_n dX8_go_70 rfl ?_
          refine jv_lcmp_le 82 dX8_go_71 dX8_go_72 (fun c71 => ?_) (fun c71 => ?_)
          · refine jv_lconst 0 dX8_go_82 ?_
            refine jv_tl (b := jq_av cm ou ro i) (by omega) ?_
            refine jv_last dX8_go_83 (by repeat' (first | assumption | exact ⟨_, by assumption⟩ | refine jv_h1 (by decide) ?_ | refine jv_h0 ?_ | refine jv_h1 (by omega) ?_ | refine jv_hs ?_)) ?_
            refine jv_lload dX8_go_84 rfl ?_
            refine jv_aload_n dX8_go_86 rfl ?_
            refine jv_getf dX8_go_87 jf_X8_56 (by repeat' (first | assumption | exact ⟨_, by assumption⟩ | refine jv_h1 (by decide) ?_ | refine jv_h0 ?_ | refine jv_h1 (by omega) ?_ | refine jv_hs ?_)) (by exact rfl) ?_
            refine jv_iload dX8_go_90 rfl ?_
            refine jv_lald dX8_go_92 (by repeat' (first | assumption | exact ⟨_, by assumption⟩ | refine jv_h1 (by decide) ?_ | refine jv_h0 ?_ | refine jv_h1 (by omega) ?_ | refine jv_hs ?_)) ?_
            rw [jv_up_s]
            refine jv_lsub dX8_go_93 ?_
            refine jv_lstore dX8_go_94 rfl (Nat.le_of_ble_eq_true rfl) ?_
            rw [← jq_wt_s]
            refine jv_aload_n dX8_go_96 rfl ?_
            refine jv_getf dX8_go_97 jf_X8_50 (by repeat' (first | assumption | exact ⟨_, by assumption⟩ | refine jv_h1 (by decide) ?_ | refine jv_h0 ?_ | refine jv_h1 (by omega) ?_ | refine jv_hs ?_)) (by exact rfl) ?_
            refine jv_iload dX8_go_100 rfl ?_
            refine jv_lload dX8_go_102 rfl ?_
            refine jv_last dX8_go_104 (by repeat' (first | assumption | exact ⟨_, by assumption⟩ | refine jv_h1 (by decide) ?_ | refine jv_h0 ?_ | refine jv_h1 (by omega) ?_ | refine jv_hs ?_)) ?_
            refine jv_iload dX8_go_105 rfl ?_
            refine jv_aload_n dX8_go_107 rfl ?_
            refine jv_getf dX8_go_108 jf_X8_56 (by repeat' (first | assumption | exact ⟨_, by assumption⟩ | refine jv_h1 (by decide) ?_ | refine jv_h0 ?_ | refine jv_h1 (by omega) ?_ | refine jv_hs ?_)) (by exact rfl) ?_
            refine jv_iload dX8_go_111 rfl ?_
            refine jv_lald dX8_go_113 (by repeat' (first | assumption | exact ⟨_, by assumption⟩ | refine jv_h1 (by decide) ?_ | refine jv_h0 ?_ | refine jv_h1 (by omega) ?_ | refine jv_hs ?_)) ?_
            rw [jv_up_s]
            refine jv_lconst 0 dX8_go_114 ?_
            refine jv_lcmp_le 123 dX8_go_115 dX8_go_116 (fun c115 => ?_) (fun c115 => ?_)
            · refine jv_iconst dX8_go_123 ?_
              refine jv_iadd dX8_go_124 ?_
              refine jv_istore dX8_go_125 rfl (Nat.le_of_ble_eq_true rfl) ?_
              refine jv_iinc dX8_go_127 rfl rfl ?_
              refine jv_goto 9 dX8_go_130 ?_
              have e3 : jq_ct cm ou ro (i + 1) = jq_ct cm ou ro i + 0 := by rw [jq_ct, if_neg (by omega), Int.add_zero]
              have nx := fun h1 o w fr => ih (i + 1) h1 _ _ _ (by omega) o w f2 fr
              rw [e3] at nx
              exact nx _ (by repeat' (first | assumption | exact ⟨_, by assumption⟩ | refine jv_h1 (by decide) ?_ | refine jv_h0 ?_ | refine jv_h1 (by omega) ?_ | refine jv_hs ?_)) ⟨(by repeat' (first | assumption | exact ⟨_, by assumption⟩ | refine jv_h1 (by decide) ?_ | refine jv_h0 ?_ | refine jv_h1 (by omega) ?_ | refine jv_hs ?_)), (by repeat' (first | assumption | exact ⟨_, by assumption⟩ | refine jv_h1 (by decide) ?_ | refine jv_h0 ?_ | refine jv_h1 (by omega) ?_ | refine jv_hs ?_)), (by repeat' (first | assumption | exact ⟨_, by assumption⟩ | refine jv_h1 (by decide) ?_ | refine jv_h0 ?_ | refine jv_h1 (by omega) ?_ | refine jv_hs ?_)), (by repeat' (first | assumption | exact ⟨_, by assumption⟩ | refine jv_h1 (by decide) ?_ | refine jv_h0 ?_ | refine jv_h1 (by omega) ?_ | refine jv_hs ?_))⟩ (jv_fs_set (by decide) (jv_fs_set (by decide) (jv_fs_set (by decide) fr)))
            · refine jv_iconst dX8_go_119 ?_
              refine jv_goto 124 dX8_go_120 ?_
              refine jv_iadd dX8_go_124 ?_
              refine jv_istore dX8_go_125 rfl (Nat.le_of_ble_eq_true rfl) ?_
              refine jv_iinc dX8_go_127 rfl rfl ?_
              refine jv_goto 9 dX8_go_130 ?_
              exact absurd c115 (by omega)
          · refine jv_lload dX8_go_75 rfl ?_
            refine jv_lload_n dX8_go_77 rfl ?_
            refine jv_lsub dX8_go_78 ?_
            refine jv_goto 83 dX8_go_79 ?_
            refine jv_tl (b := jq_av cm ou ro i) (by omega) ?_
            refine jv_last dX8_go_83 (by repeat' (first | assumption | exact ⟨_, by assumption⟩ | refine jv_h1 (by decide) ?_ | refine jv_h0 ?_ | refine jv_h1 (by omega) ?_ | refine jv_hs ?_)) ?_
            refine jv_lload dX8_go_84 rfl ?_
            refine jv_aload_n dX8_go_86 rfl ?_
            refine jv_getf dX8_go_87 jf_X8_56 (by repeat' (first | assumption | exact ⟨_, by assumption⟩ | refine jv_h1 (by decide) ?_ | refine jv_h0 ?_ | refine jv_h1 (by omega) ?_ | refine jv_hs ?_)) (by exact rfl) ?_
            refine jv_iload dX8_go_90 rfl ?_
            refine jv_lald dX8_go_92 (by repeat' (first | assumption | exact ⟨_, by assumption⟩ | refine jv_h1 (by decide) ?_ | refine jv_h0 ?_ | refine jv_h1 (by omega) ?_ | refine jv_hs ?_)) ?_
            rw [jv_up_s]
            refine jv_lsub dX8_go_93 ?_
            refine jv_lstore dX8_go_94 rfl (Nat.le_of_ble_eq_true rfl) ?_
            rw [← jq_wt_s]
            refine jv_aload_n dX8_go_96 rfl ?_
            refine jv_getf dX8_go_97 jf_X8_50 (by repeat' (first | assumption | exact ⟨_, by assumption⟩ | refine jv_h1 (by decide) ?_ | refine jv_h0 ?_ | refine jv_h1 (by omega) ?_ | refine jv_hs ?_)) (by exact rfl) ?_
            refine jv_iload dX8_go_100 rfl ?_
            refine jv_lload dX8_go_102 rfl ?_
            refine jv_last dX8_go_104 (by repeat' (first | assumption | exact ⟨_, by assumption⟩ | refine jv_h1 (by decide) ?_ | refine jv_h0 ?_ | refine jv_h1 (by omega) ?_ | refine jv_hs ?_)) ?_
            refine jv_iload dX8_go_105 rfl ?_
            refine jv_aload_n dX8_go_107 rfl ?_
            refine jv_getf dX8_go_108 jf_X8_56 (by repeat' (first | assumption | exact ⟨_, by assumption⟩ | refine jv_h1 (by decide) ?_ | refine jv_h0 ?_ | refine jv_h1 (by omega) ?_ | refine jv_hs ?_)) (by exact rfl) ?_
            refine jv_iload dX8_go_111 rfl ?_
            refine jv_lald dX8_go_113 (by repeat' (first | assumption | exact ⟨_, by assumption⟩ | refine jv_h1 (by decide) ?_ | refine jv_h0 ?_ | refine jv_h1 (by omega) ?_ | refine jv_hs ?_)) ?_
            rw [jv_up_s]
            refine jv_lconst 0 dX8_go_114 ?_
            refine jv_lcmp_le 123 dX8_go_115 dX8_go_116 (fun c115 => ?_) (fun c115 => ?_)
            · refine jv_iconst dX8_go_123 ?_
              refine jv_iadd dX8_go_124 ?_
              refine jv_istore dX8_go_125 rfl (Nat.le_of_ble_eq_true rfl) ?_
              refine jv_iinc dX8_go_127 rfl rfl ?_
              refine jv_goto 9 dX8_go_130 ?_
              exact absurd c115 (by omega)
            · refine jv_iconst dX8_go_119 ?_
              refine jv_goto 124 dX8_go_120 ?_
              refine jv_iadd dX8_go_124 ?_
              refine jv_istore dX8_go_125 rfl (Nat.le_of_ble_eq_true rfl) ?_
              refine jv_iinc dX8_go_127 rfl rfl ?_
              refine jv_goto 9 dX8_go_130 ?_
              have e3 : jq_ct cm ou ro (i + 1) = jq_ct cm ou ro i + 1 := by rw [jq_ct, if_pos c115]
              have nx := fun h1 o w fr => ih (i + 1) h1 _ _ _ (by omega) o w f2 fr
              rw [e3] at nx
              exact nx _ (by repeat' (first | assumption | exact ⟨_, by assumption⟩ | refine jv_h1 (by decide) ?_ | refine jv_h0 ?_ | refine jv_h1 (by omega) ?_ | refine jv_hs ?_)) ⟨(by repeat' (first | assumption | exact ⟨_, by assumption⟩ | refine jv_h1 (by decide) ?_ | refine jv_h0 ?_ | refine jv_h1 (by omega) ?_ | refine jv_hs ?_)), (by repeat' (first | assumption | exact ⟨_, by assumption⟩ | refine jv_h1 (by decide) ?_ | refine jv_h0 ?_ | refine jv_h1 (by omega) ?_ | refine jv_hs ?_)), (by repeat' (first | assumption | exact ⟨_, by assumption⟩ | refine jv_h1 (by decide) ?_ | refine jv_h0 ?_ | refine jv_h1 (by omega) ?_ | refine jv_hs ?_)), (by repeat' (first | assumption | exact ⟨_, by assumption⟩ | refine jv_h1 (by decide) ?_ | refine jv_h0 ?_ | refine jv_h1 (by omega) ?_ | refine jv_hs ?_))⟩ (jv_fs_set (by decide) (jv_fs_set (by decide) (jv_fs_set (by decide) fr)))
  refine jv_lconst 0 dX8_go_0 ?_
  refine jv_lstore dX8_go_1 rfl (Nat.le_of_ble_eq_true rfl) ?_
  refine jv_iconst dX8_go_3 ?_
  refine jv_istore dX8_go_4 rfl (Nat.le_of_ble_eq_true rfl) ?_
  refine jv_iconst dX8_go_6 ?_
  refine jv_istore dX8_go_7 rfl (Nat.le_of_ble_eq_true rfl) ?_
  exact loop n 0 h ho we ov (by omega) o w (fun j hj => by omega) jv_fs_rf
theorem ct_X8_run {ou ro : Int} (K : Nat) (o : jw_O h rr lv cu si st at_ wr n ra wa) (w : jw_MD h cm ho we ov) (hD : jq_D n cm al) (ho0 : jq_lg ou) (hr0 : jq_lg ro) (hp1 : jq_w15 ou ∧ jq_w15 ro → ∀ h' ho' we' ov', jw_O h' rr lv cu si st at_ wr n 1 wa → jw_MD h' cm ho' we' ov' → jq_mrun n cm ou ro ho' we' ov' → jv_fs [97, 110, 111, 112, 113] h h' → post (some (.int (jv_i (jq_ct cm ou ro n)))) h') (hp2 : ¬ (jq_w15 ou ∧ jq_w15 ro) → post (some (.int (jv_i (-1)))) h) : jv_Ct yX8_run cX8_run 5 (some .int) (K + 1) [.ref 97, .long (jv_l ou), .long (jv_l ro)] h post := by
  unfold jw_O at o
  obtain ⟨w1, w2, w3, w4⟩ := w
  unfold jq_lg at ho0 hr0
  unfold jq_w15 at hp1 hp2
  refine jv_entry (own := RX8) (by decide) rfl (Nat.le_of_ble_eq_true rfl) (fun X hq => ?_)
  refine jv_lload_n dX8_run_0 rfl ?_
  refine jv_lconst 0 dX8_run_1 ?_
  refine jv_ldc2 dX8_run_2 jk_X8_180 ?_
  refine jv_cS dX8_run_5 jm_X8_64 (ct_X8_in K (fun r1 q11 q12 q13 => ?_))
  refine jv_if_eq 22 dX8_run_8 (fun c8 => ?_) (fun c8 => ?_)
  · refine jv_iconst dX8_run_22 ?_
    exact jv_iret dX8_run_23 hq (hp2 (by omega))
  · refine jv_lload_n dX8_run_11 rfl ?_
    refine jv_lconst 0 dX8_run_12 ?_
    refine jv_ldc2 dX8_run_13 jk_X8_180 ?_
    refine jv_cS dX8_run_16 jm_X8_64 (ct_X8_in K (fun r2 q21 q22 q23 => ?_))
    refine jv_if_ne 24 dX8_run_19 (fun c19 => ?_) (fun c19 => ?_)
    · refine jv_aload_n dX8_run_24 rfl ?_
      refine jv_iconst dX8_run_25 ?_
      refine jv_putf dX8_run_26 jp_X8_177 (by repeat' (first | assumption | exact ⟨_, by assumption⟩ | refine jv_h1 (by decide) ?_ | refine jv_h0 ?_ | refine jv_h1 (by omega) ?_ | refine jv_hs ?_)) (by exact Nat.le_of_ble_eq_true rfl) ?_ (jv_bn (by omega)) (jv_bf (by omega))
      refine jv_aload_n dX8_run_29 rfl ?_
      refine jv_lload_n dX8_run_30 rfl ?_
      refine jv_lload_n dX8_run_31 rfl ?_
      refine jv_cV dX8_run_32 jm_X8_182 rfl (by repeat' (first | assumption | exact ⟨_, by assumption⟩ | refine jv_h1 (by decide) ?_ | refine jv_h0 ?_ | refine jv_h1 (by omega) ?_ | refine jv_hs ?_)) rfl (ct_X8_go (n := n) (ra := 1) (rr := rr) (lv := lv) (cu := cu) (si := si) (st := st) (at_ := at_) (wr := wr) (wa := wa) (cm := cm) (ho := ho) (we := we) (ov := ov) K (by repeat' (first | assumption | exact ⟨_, by assumption⟩ | refine jv_h1 (by decide) ?_ | refine jv_h0 ?_ | refine jv_h1 (by omega) ?_ | refine jv_hs ?_)) ⟨(by repeat' (first | assumption | exact ⟨_, by assumption⟩ | refine jv_h1 (by decide) ?_ | refine jv_h0 ?_ | refine jv_h1 (by omega) ?_ | refine jv_hs ?_)), (by repeat' (first | assumption | exact ⟨_, by assumption⟩ | refine jv_h1 (by decide) ?_ | refine jv_h0 ?_ | refine jv_h1 (by omega) ?_ | refine jv_hs ?_)), (by repeat' (first | assumption | exact ⟨_, by assumption⟩ | refine jv_h1 (by decide) ?_ | refine jv_h0 ?_ | refine jv_h1 (by omega) ?_ | refine jv_hs ?_)), (by repeat' (first | assumption | exact ⟨_, by assumption⟩ | refine jv_h1 (by decide) ?_ | refine jv_h0 ?_ | refine jv_h1 (by omega) ?_ | refine jv_hs ?_))⟩ hD (by omega) (by omega) (fun h' ho' we' ov' o' w' f' fr' => ?_))
      exact jv_iret dX8_run_35 hq (hp1 (by omega) h' ho' we' ov' o' w' f' (jv_fs_tr (jv_fs_set (by decide) jv_fs_rf) fr')) (by first | rfl | decide)
    · refine jv_iconst dX8_run_22 ?_
      exact jv_iret dX8_run_23 hq (hp2 (by omega))
theorem ct_X8_behind {dy wh : Int} (K : Nat) (o : jw_O h rr lv cu si st at_ wr n ra wa) (w : jw_MD h cm ho we ov) (hD : jq_D n cm al) (hr1 : 0 ≤ ra ∧ ra ≤ 1) (hd : jq_rg dy) (hw : jq_rg wh) (hp : post (some (.long (jv_l (jq_rc n ra ho we ov (fun j => jq_sm ov (j.toNat + 1)) dy wh)))) h) : jv_Ct yX8_behind cX8_behind 6 (some .long) K [.ref 97, .int (jv_i dy), .int (jv_i wh)] h post := by
  unfold jw_O at o
  obtain ⟨w1, w2, w3, w4⟩ := w
  have hn := hD.1
  unfold jq_rg at hd hw
  unfold jq_rc at hp
  refine jv_entry (own := RX8) (by decide) rfl (Nat.le_of_ble_eq_true rfl) (fun X hq => ?_)
  have fin : ra ≠ 0 → 0 ≤ dy → dy < n → jv_J X cX8_behind RX8 K 50 [some (.ref 97), some (.int (jv_i dy)), some (.int (jv_i wh)), some (.long (jv_l (jq_sm ov (dy.toNat + 1)))), none, some (.int (jv_i ((dy.toNat + 1 : Nat) : Int)))] [] h := by
    intro g1 g2 g3
    rw [if_neg (by omega)] at hp
    refine jv_iload_n dX8_behind_50 rfl ?_
    refine jv_if_ne 63 dX8_behind_51 (fun c51 => ?_) (fun c51 => ?_)
    · refine jv_iload_n dX8_behind_63 rfl ?_
      refine jv_iconst dX8_behind_64 ?_
      refine jv_icmp_ne 77 dX8_behind_65 (fun c65 => ?_) (fun c65 => ?_)
      · refine jv_iload_n dX8_behind_77 rfl ?_
        refine jv_iconst dX8_behind_78 ?_
        refine jv_icmp_ne 91 dX8_behind_79 (fun c79 => ?_) (fun c79 => ?_)
        · refine jv_iload_n dX8_behind_91 rfl ?_
          refine jv_iconst dX8_behind_92 ?_
          refine jv_icmp_ne 100 dX8_behind_93 (fun c93 => ?_) (fun c93 => ?_)
          · refine jv_ldc2 dX8_behind_100 jk_X8_90 ?_
            exact jv_lret dX8_behind_103 hq (by rw [if_neg c51, if_neg c65, if_neg c79, if_neg c93] at hp; exact hp)
          · refine jv_lload_n dX8_behind_96 rfl ?_
            refine jv_goto 103 dX8_behind_97 ?_
            exact jv_lret dX8_behind_103 hq (by rw [if_neg c51, if_neg c65, if_neg c79, if_pos c93] at hp; exact hp)
        · refine jv_aload_n dX8_behind_82 rfl ?_
          refine jv_getf dX8_behind_83 jf_X8_56 (by repeat' (first | assumption | exact ⟨_, by assumption⟩ | refine jv_h1 (by decide) ?_ | refine jv_h0 ?_ | refine jv_h1 (by omega) ?_ | refine jv_hs ?_)) (by exact rfl) ?_
          refine jv_iload_n dX8_behind_86 rfl ?_
          refine jv_lald dX8_behind_87 (by repeat' (first | assumption | exact ⟨_, by assumption⟩ | refine jv_h1 (by decide) ?_ | refine jv_h0 ?_ | refine jv_h1 (by omega) ?_ | refine jv_hs ?_)) ?_
          refine jv_goto 103 dX8_behind_88 ?_
          exact jv_lret dX8_behind_103 hq (by rw [if_neg c51, if_neg c65, if_pos c79] at hp; exact hp)
      · refine jv_aload_n dX8_behind_68 rfl ?_
        refine jv_getf dX8_behind_69 jf_X8_53 (by repeat' (first | assumption | exact ⟨_, by assumption⟩ | refine jv_h1 (by decide) ?_ | refine jv_h0 ?_ | refine jv_h1 (by omega) ?_ | refine jv_hs ?_)) (by exact rfl) ?_
        refine jv_iload_n dX8_behind_72 rfl ?_
        refine jv_lald dX8_behind_73 (by repeat' (first | assumption | exact ⟨_, by assumption⟩ | refine jv_h1 (by decide) ?_ | refine jv_h0 ?_ | refine jv_h1 (by omega) ?_ | refine jv_hs ?_)) ?_
        refine jv_goto 103 dX8_behind_74 ?_
        exact jv_lret dX8_behind_103 hq (by rw [if_neg c51, if_pos c65] at hp; exact hp)
    · refine jv_aload_n dX8_behind_54 rfl ?_
      refine jv_getf dX8_behind_55 jf_X8_50 (by repeat' (first | assumption | exact ⟨_, by assumption⟩ | refine jv_h1 (by decide) ?_ | refine jv_h0 ?_ | refine jv_h1 (by omega) ?_ | refine jv_hs ?_)) (by exact rfl) ?_
      refine jv_iload_n dX8_behind_58 rfl ?_
      refine jv_lald dX8_behind_59 (by repeat' (first | assumption | exact ⟨_, by assumption⟩ | refine jv_h1 (by decide) ?_ | refine jv_h0 ?_ | refine jv_h1 (by omega) ?_ | refine jv_hs ?_)) ?_
      refine jv_goto 103 dX8_behind_60 ?_
      exact jv_lret dX8_behind_103 hq (by rw [if_pos c51] at hp; exact hp)
  have loop : ∀ (k i : Nat), ra ≠ 0 → 0 ≤ dy → dy < n → i + k = dy.toNat + 1 → jv_J X cX8_behind RX8 K 28 [some (.ref 97), some (.int (jv_i dy)), some (.int (jv_i wh)), some (.long (jv_l (jq_sm ov i))), none, some (.int (jv_i i))] [] h := by
    intro k
    induction k with
    | zero =>
      intro i g1 g2 g3 e
      have e2 : i = dy.toNat + 1 := by omega
      subst e2
      have ff := fin g1 g2 g3
      refine jv_iload dX8_behind_28 rfl ?_
      refine jv_iload_n dX8_behind_30 rfl ?_
      refine jv_icmp_gt 50 dX8_behind_31 (fun c31 => ?_) (fun c31 => ?_)
      · exact ff
      · exact absurd c31 (by omega)
    | succ k ih =>
      intro i g1 g2 g3 e
      have nx := ih (i + 1) g1 g2 g3 (by omega)
      rw [show jq_sm ov (i + 1) = jq_sm ov i + ov i from rfl] at nx
      refine jv_iload dX8_behind_28 rfl ?_
      refine jv_iload_n dX8_behind_30 rfl ?_
      refine jv_icmp_gt 50 dX8_behind_31 (fun c31 => ?_) (fun c31 => ?_)
      · exact absurd c31 (by omega)
      · refine jv_lload_n dX8_behind_34 rfl ?_
        refine jv_aload_n dX8_behind_35 rfl ?_
        refine jv_getf dX8_behind_36 jf_X8_56 (by repeat' (first | assumption | exact ⟨_, by assumption⟩ | refine jv_h1 (by decide) ?_ | refine jv_h0 ?_ | refine jv_h1 (by omega) ?_ | refine jv_hs ?_)) (by exact rfl) ?_
        refine jv_iload dX8_behind_39 rfl ?_
        refine jv_lald dX8_behind_41 (by repeat' (first | assumption | exact ⟨_, by assumption⟩ | refine jv_h1 (by decide) ?_ | refine jv_h0 ?_ | refine jv_h1 (by omega) ?_ | refine jv_hs ?_)) ?_
        refine jv_ladd dX8_behind_42 ?_
        refine jv_lstore_n dX8_behind_43 rfl (Nat.le_of_ble_eq_true rfl) ?_
        refine jv_iinc dX8_behind_44 rfl rfl ?_
        refine jv_goto 28 dX8_behind_47 ?_
        exact nx
  refine jv_aload_n dX8_behind_0 rfl ?_
  refine jv_getf dX8_behind_1 jf_X8_177 (by repeat' (first | assumption | exact ⟨_, by assumption⟩ | refine jv_h1 (by decide) ?_ | refine jv_h0 ?_ | refine jv_h1 (by omega) ?_ | refine jv_hs ?_)) (by exact rfl) ?_
  refine jv_if_eq 19 dX8_behind_4 (fun c4 => ?_) (fun c4 => ?_)
  · refine jv_ldc2 dX8_behind_19 jk_X8_90 ?_
    exact jv_lret dX8_behind_22 hq (by rw [if_pos (by omega)] at hp; exact hp)
  · refine jv_iload_n dX8_behind_7 rfl ?_
    refine jv_if_lt 19 dX8_behind_8 (fun c8 => ?_) (fun c8 => ?_)
    · refine jv_ldc2 dX8_behind_19 jk_X8_90 ?_
      exact jv_lret dX8_behind_22 hq (by rw [if_pos (by omega)] at hp; exact hp)
    · refine jv_iload_n dX8_behind_11 rfl ?_
      refine jv_aload_n dX8_behind_12 rfl ?_
      refine jv_getf dX8_behind_13 jf_X8_174 (by repeat' (first | assumption | exact ⟨_, by assumption⟩ | refine jv_h1 (by decide) ?_ | refine jv_h0 ?_ | refine jv_h1 (by omega) ?_ | refine jv_hs ?_)) (by exact rfl) ?_
      refine jv_icmp_lt 23 dX8_behind_16 (fun c16 => ?_) (fun c16 => ?_)
      · refine jv_lconst 0 dX8_behind_23 ?_
        refine jv_lstore_n dX8_behind_24 rfl (Nat.le_of_ble_eq_true rfl) ?_
        refine jv_iconst dX8_behind_25 ?_
        refine jv_istore dX8_behind_26 rfl (Nat.le_of_ble_eq_true rfl) ?_
        exact loop (dy.toNat + 1) 0 c4 (by omega) (by omega) (by omega)
      · refine jv_ldc2 dX8_behind_19 jk_X8_90 ?_
        exact jv_lret dX8_behind_22 hq (by rw [if_pos (by omega)] at hp; exact hp)
theorem ct_X8_room {ou mo : Int} (K : Nat) (o : jw_O h rr lv cu si st at_ wr n ra wa) (w : jw_MD h cm ho we ov) (hD : jq_D n cm al) (ho0 : jq_lg ou) (hm : jq_rg mo) (hp1 : jq_w15 ou ∧ (0 ≤ mo ∧ mo ≤ 400) → ∀ r h' ho' we' ov', jw_O h' rr lv cu si st at_ wr n 0 wa → jw_MD h' cm ho' we' ov' → jq_lr n cm ou mo r → jv_fs [97, 110, 111, 112, 113] h h' → post (some (.long (jv_l r))) h') (hp2 : ¬ (jq_w15 ou ∧ (0 ≤ mo ∧ mo ≤ 400)) → post (some (.long (jv_l (-1)))) h) : jv_Ct yX8_room cX8_room 10 (some .long) (K + 1) [.ref 97, .long (jv_l ou), .int (jv_i mo)] h post := by
  have hn := hD.1
  have z1 := jq_sm_le hD.2.1 n
  unfold jq_lg at ho0
  unfold jq_rg at hm
  unfold jq_w15 at hp1 hp2
  refine jv_entry (own := RX8) (by decide) rfl (Nat.le_of_ble_eq_true rfl) (fun X hq => ?_)
  have loop : ∀ (k : Nat) (a b : Int) (h1 : List jv_E) (ho we ov : Int → Int), (0 ≤ ou ∧ ou ≤ 1000000000000000) → (0 ≤ mo ∧ mo ≤ 400) → jw_O h1 rr lv cu si st at_ wr n 0 wa → jw_MD h1 cm ho we ov → jv_fs [97, 110, 111, 112, 113] h h1 → 0 ≤ a → a ≤ b → b ≤ 400000000000000 → b - a < 2 ^ k → jq_ct cm ou b n ≤ mo → (∀ r', 0 ≤ r' → r' < a → mo < jq_ct cm ou r' n) → jv_J X cX8_room RX8 (K + 1) 40 [some (.ref 97), some (.long (jv_l ou)), none, some (.int (jv_i mo)), some (.long (jv_l a)), none, some (.long (jv_l b)), none, none, none] [] h1 := by
    intro k
    induction k with
    | zero =>
      intro a b h1 ho we ov g1 g2 o w fr p1 p2 p3 p4 p5 p6
      have p7 : b - a < 1 := by simpa using p4
      obtain rfl : a = b := by omega
      refine jv_lload dX8_room_40 rfl ?_
      refine jv_lload dX8_room_42 rfl ?_
      refine jv_lcmp_ge 86 dX8_room_44 dX8_room_45 (fun c44 => ?_) (fun c44 => ?_)
      · refine jv_lload dX8_room_86 rfl ?_
        exact jv_lret dX8_room_88 hq (hp1 ⟨g1, g2⟩ _ _ ho we ov o w ⟨p1, p5, p6⟩ fr)
      · exact absurd c44 (by omega)
    | succ k ih =>
      intro a b h1 ho we ov g1 g2 o w fr p1 p2 p3 p4 p5 p6
      have o9 := o
      unfold jw_O at o
      have p7 : b - a < 2 * 2 ^ k := by rw [Int.pow_succ] at p4; omega
      generalize (2 : Int) ^ k = p at *
      refine jv_lload dX8_room_40 rfl ?_
      refine jv_lload dX8_room_42 rfl ?_
      refine jv_lcmp_ge 86 dX8_room_44 dX8_room_45 (fun c44 => ?_) (fun c44 => ?_)
      · refine jv_lload dX8_room_86 rfl ?_
        obtain rfl : a = b := by omega
        exact jv_lret dX8_room_88 hq (hp1 ⟨g1, g2⟩ _ _ ho we ov o9 w ⟨p1, p5, p6⟩ fr)
      · refine jv_lload dX8_room_48 rfl ?_
        refine jv_lload dX8_room_50 rfl ?_
        refine jv_ladd dX8_room_52 ?_
        refine jv_ldc2 dX8_room_53 jk_X8_190 ?_
        refine jv_ldiv dX8_room_56 ?_
        refine jv_lstore dX8_room_57 rfl (Nat.le_of_ble_eq_true rfl) ?_
        refine jv_aload_n dX8_room_59 rfl ?_
        refine jv_lload_n dX8_room_60 rfl ?_
        refine jv_lload dX8_room_61 rfl ?_
        have q0 := jq_ct_in cm ou ((a + b) / 2) n
        refine jv_cV dX8_room_63 jm_X8_182 rfl (by repeat' (first | assumption | exact ⟨_, by assumption⟩ | refine jv_h1 (by decide) ?_ | refine jv_h0 ?_ | refine jv_h1 (by omega) ?_ | refine jv_hs ?_)) rfl (ct_X8_go K o9 w hD g1 (by omega) (fun h' ho' we' ov' o' w' f' fr' => ?_))
        refine jv_iload_n dX8_room_66 rfl ?_
        refine jv_icmp_gt 77 dX8_room_67 (fun c67 => ?_) (fun c67 => ?_)
        · refine jv_lload dX8_room_77 rfl ?_
          refine jv_lconst 1 dX8_room_79 ?_
          refine jv_ladd dX8_room_80 ?_
          refine jv_lstore dX8_room_81 rfl (Nat.le_of_ble_eq_true rfl) ?_
          refine jv_goto 40 dX8_room_83 ?_
          refine jv_les ?_ (ih ((a + b) / 2 + 1) b h' ho' we' ov' g1 g2 o' w' (jv_fs_tr fr fr') (by omega) (by omega) p3 (by omega) p5 (fun r' z1 z2 => by have := (jq_ct_mono (cm := cm) (ou := ou) (r := r') (r' := (a + b) / 2) (by omega) n).2; omega))
          exact (by repeat' (first | exact True.intro | exact rfl | apply And.intro))
        · refine jv_lload dX8_room_70 rfl ?_
          refine jv_lstore dX8_room_72 rfl (Nat.le_of_ble_eq_true rfl) ?_
          refine jv_goto 83 dX8_room_74 ?_
          refine jv_goto 40 dX8_room_83 ?_
          refine jv_les ?_ (ih a ((a + b) / 2) h' ho' we' ov' g1 g2 o' w' (jv_fs_tr fr fr') p1 (by omega) (by omega) (by omega) c67 p6)
          exact (by repeat' (first | exact True.intro | exact rfl | apply And.intro))
  unfold jw_O at o
  obtain ⟨w1, w2, w3, w4⟩ := w
  refine jv_lload_n dX8_room_0 rfl ?_
  refine jv_lconst 0 dX8_room_1 ?_
  refine jv_ldc2 dX8_room_2 jk_X8_180 ?_
  refine jv_cS dX8_room_5 jm_X8_64 (ct_X8_in K (fun r1 q11 q12 q13 => ?_))
  refine jv_if_eq 23 dX8_room_8 (fun c8 => ?_) (fun c8 => ?_)
  · refine jv_ldc2 dX8_room_23 jk_X8_90 ?_
    exact jv_lret dX8_room_26 hq (hp2 (by omega))
  · refine jv_iload_n dX8_room_11 rfl ?_
    refine jv_i2l dX8_room_12 ?_
    refine jv_lconst 0 dX8_room_13 ?_
    refine jv_ldc2 dX8_room_14 jk_X8_186 ?_
    refine jv_cS dX8_room_17 jm_X8_64 (ct_X8_in K (fun r2 q21 q22 q23 => ?_))
    refine jv_if_ne 27 dX8_room_20 (fun c20 => ?_) (fun c20 => ?_)
    · refine jv_aload_n dX8_room_27 rfl ?_
      refine jv_iconst dX8_room_28 ?_
      refine jv_putf dX8_room_29 jp_X8_177 (by repeat' (first | assumption | exact ⟨_, by assumption⟩ | refine jv_h1 (by decide) ?_ | refine jv_h0 ?_ | refine jv_h1 (by omega) ?_ | refine jv_hs ?_)) (by exact Nat.le_of_ble_eq_true rfl) ?_ (jv_bn (by omega)) (jv_bf (by omega))
      refine jv_lconst 0 dX8_room_32 ?_
      refine jv_lstore dX8_room_33 rfl (Nat.le_of_ble_eq_true rfl) ?_
      refine jv_ldc2 dX8_room_35 jk_X8_188 ?_
      refine jv_lstore dX8_room_38 rfl (Nat.le_of_ble_eq_true rfl) ?_
      exact loop 60 0 400000000000000 _ ho we ov (by omega) (by omega) (by repeat' (first | assumption | exact ⟨_, by assumption⟩ | refine jv_h1 (by decide) ?_ | refine jv_h0 ?_ | refine jv_h1 (by omega) ?_ | refine jv_hs ?_)) ⟨(by repeat' (first | assumption | exact ⟨_, by assumption⟩ | refine jv_h1 (by decide) ?_ | refine jv_h0 ?_ | refine jv_h1 (by omega) ?_ | refine jv_hs ?_)), (by repeat' (first | assumption | exact ⟨_, by assumption⟩ | refine jv_h1 (by decide) ?_ | refine jv_h0 ?_ | refine jv_h1 (by omega) ?_ | refine jv_hs ?_)), (by repeat' (first | assumption | exact ⟨_, by assumption⟩ | refine jv_h1 (by decide) ?_ | refine jv_h0 ?_ | refine jv_h1 (by omega) ?_ | refine jv_hs ?_)), (by repeat' (first | assumption | exact ⟨_, by assumption⟩ | refine jv_h1 (by decide) ?_ | refine jv_h0 ?_ | refine jv_h1 (by omega) ?_ | refine jv_hs ?_))⟩ (jv_fs_set (by decide) jv_fs_rf) (by omega) (by omega) (by omega) (by omega) (by rw [(jq_ct_all (al := 400000000000000) hD.2.1 (by omega) n (by omega)).2]; omega) (fun r' z1 z2 => by omega)
    · refine jv_ldc2 dX8_room_23 jk_X8_90 ?_
      exact jv_lret dX8_room_26 hq (hp2 (by omega))
end MD
end
section
/-! CULVERTS -/
def jw_C (h : List jv_E) (n : Nat) (wi he le fa va : Int → Int) : Prop := h[9]? = some (jv_ob 0 [.ref 10, .ref 11, .ref 12, .ref 13, .ref 14, .int (jv_i n)]) ∧ h[10]? = some (jv_ai 8 wi) ∧ h[11]? = some (jv_ai 8 he) ∧ h[12]? = some (jv_ai 8 le) ∧ h[13]? = some (jv_ai 8 fa) ∧ h[14]? = some (jv_ai 8 va)
def jq_C (n : Nat) (wi he le fa : Int → Int) : Prop := n ≤ 8 ∧ ∀ i, (0 ≤ wi i ∧ wi i ≤ 10000) ∧ (0 ≤ he i ∧ he i ≤ 10000) ∧ (0 ≤ le i ∧ le i ≤ 100000) ∧ (0 ≤ fa i ∧ fa i ≤ 10000)
def jq_okC (n : Nat) (a b c d : Int) : Prop := (1 ≤ a ∧ a ≤ 10000) ∧ (1 ≤ b ∧ b ≤ 10000) ∧ (1 ≤ c ∧ c ≤ 100000) ∧ (0 ≤ d ∧ d ≤ 10000) ∧ n < 8
section CL
variable {h : List jv_E} {n t0 d0 : Nat} {wi he le fa va : Int → Int} {post : Option Value → List jv_E → Prop}
theorem ct_X0_size (K : Nat) (w : jw_C h n wi he le fa va) (hp : post (some (.int (jv_i n))) h) : jv_Ct yX0_size cX0_size 1 (some .int) K [.ref 9] h post := by
  obtain ⟨w1, w2, w3, w4, w5, w6⟩ := w
  refine jv_entry (own := RX0) (by decide) rfl (Nat.le_of_ble_eq_true rfl) (fun X hq => ?_)
  refine jv_aload_n dX0_size_0 rfl ?_
  refine jv_getf dX0_size_1 jf_X0_27 (by repeat' (first | assumption | exact ⟨_, by assumption⟩ | refine jv_h1 (by decide) ?_ | refine jv_h0 ?_ | refine jv_h1 (by omega) ?_ | refine jv_hs ?_)) (by exact rfl) ?_
  exact jv_iret dX0_size_4 hq (hp) (by first | rfl | decide)
theorem ct_X0_has {c : Int} (K : Nat) (w : jw_C h n wi he le fa va) (hn : n ≤ 8) (hc : jq_rg c) (hp : ∀ r : Int, (0 ≤ c ∧ c < n → r = 1) → (¬ (0 ≤ c ∧ c < n) → r = 0) → 0 ≤ r ∧ r ≤ 1 → post (some (.int (jv_i r))) h) : jv_Ct yX0_has cX0_has 2 (some .boolean) (K + 1) [.ref 9, .int (jv_i c)] h post := by
  obtain ⟨w1, w2, w3, w4, w5, w6⟩ := w
  unfold jq_rg at hc
  refine jv_entry (own := RX0) (by decide) rfl (Nat.le_of_ble_eq_true rfl) (fun X hq => ?_)
  refine jv_iload_n dX0_has_0 rfl ?_
  refine jv_i2l dX0_has_1 ?_
  refine jv_lconst 0 dX0_has_2 ?_
  refine jv_aload_n dX0_has_3 rfl ?_
  refine jv_getf dX0_has_4 jf_X0_27 (by repeat' (first | assumption | exact ⟨_, by assumption⟩ | refine jv_h1 (by decide) ?_ | refine jv_h0 ?_ | refine jv_h1 (by omega) ?_ | refine jv_hs ?_)) (by exact rfl) ?_
  refine jv_iconst dX0_has_7 ?_
  refine jv_isub dX0_has_8 ?_
  refine jv_i2l dX0_has_9 ?_
  refine jv_cN dX0_has_10 jm_X0_31 (ct_X7_within K (fun r q1 q2 q3 => ?_))
  rcases (show r = 0 ∨ r = 1 by omega) with rfl | rfl
  · exact jv_iret dX0_has_13 hq (hp _ (by omega) (by omega) (by omega)) (by decide)
  · exact jv_iret dX0_has_13 hq (hp _ (by omega) (by omega) (by omega)) (by decide)
theorem ct_X0_add {a b c d : Int} (K : Nat) (w : jw_C h n wi he le fa va) (hn : n ≤ 8) (hp1 : n < 8 → ∀ h', jw_C h' (n + 1) (jv_up wi n a) (jv_up he n b) (jv_up le n c) (jv_up fa n d) va → jv_fr 9 14 h h' → post (some (.int (jv_i n))) h') (hp2 : ¬ n < 8 → post (some (.int (jv_i (-1)))) h) : jv_Ct yX0_add cX0_add 5 (some .int) K [.ref 9, .int (jv_i a), .int (jv_i b), .int (jv_i c), .int (jv_i d)] h post := by
  obtain ⟨w1, w2, w3, w4, w5, w6⟩ := w
  refine jv_entry (own := RX0) (by decide) rfl (Nat.le_of_ble_eq_true rfl) (fun X hq => ?_)
  refine jv_aload_n dX0_add_0 rfl ?_
  refine jv_getf dX0_add_1 jf_X0_27 (by repeat' (first | assumption | exact ⟨_, by assumption⟩ | refine jv_h1 (by decide) ?_ | refine jv_h0 ?_ | refine jv_h1 (by omega) ?_ | refine jv_hs ?_)) (by exact rfl) ?_
  refine jv_bipush dX0_add_4 ?_
  refine jv_icmp_lt 11 dX0_add_6 (fun c6 => ?_) (fun c6 => ?_)
  · refine jv_aload_n dX0_add_11 rfl ?_
    refine jv_getf dX0_add_12 jf_X0_9 (by repeat' (first | assumption | exact ⟨_, by assumption⟩ | refine jv_h1 (by decide) ?_ | refine jv_h0 ?_ | refine jv_h1 (by omega) ?_ | refine jv_hs ?_)) (by exact rfl) ?_
    refine jv_aload_n dX0_add_15 rfl ?_
    refine jv_getf dX0_add_16 jf_X0_27 (by repeat' (first | assumption | exact ⟨_, by assumption⟩ | refine jv_h1 (by decide) ?_ | refine jv_h0 ?_ | refine jv_h1 (by omega) ?_ | refine jv_hs ?_)) (by exact rfl) ?_
    refine jv_iload_n dX0_add_19 rfl ?_
    refine jv_iast dX0_add_20 (by repeat' (first | assumption | exact ⟨_, by assumption⟩ | refine jv_h1 (by decide) ?_ | refine jv_h0 ?_ | refine jv_h1 (by omega) ?_ | refine jv_hs ?_)) ?_
    refine jv_aload_n dX0_add_21 rfl ?_
    refine jv_getf dX0_add_22 jf_X0_15 (by repeat' (first | assumption | exact ⟨_, by assumption⟩ | refine jv_h1 (by decide) ?_ | refine jv_h0 ?_ | refine jv_h1 (by omega) ?_ | refine jv_hs ?_)) (by exact rfl) ?_
    refine jv_aload_n dX0_add_25 rfl ?_
    refine jv_getf dX0_add_26 jf_X0_27 (by repeat' (first | assumption | exact ⟨_, by assumption⟩ | refine jv_h1 (by decide) ?_ | refine jv_h0 ?_ | refine jv_h1 (by omega) ?_ | refine jv_hs ?_)) (by exact rfl) ?_
    refine jv_iload_n dX0_add_29 rfl ?_
    refine jv_iast dX0_add_30 (by repeat' (first | assumption | exact ⟨_, by assumption⟩ | refine jv_h1 (by decide) ?_ | refine jv_h0 ?_ | refine jv_h1 (by omega) ?_ | refine jv_hs ?_)) ?_
    refine jv_aload_n dX0_add_31 rfl ?_
    refine jv_getf dX0_add_32 jf_X0_18 (by repeat' (first | assumption | exact ⟨_, by assumption⟩ | refine jv_h1 (by decide) ?_ | refine jv_h0 ?_ | refine jv_h1 (by omega) ?_ | refine jv_hs ?_)) (by exact rfl) ?_
    refine jv_aload_n dX0_add_35 rfl ?_
    refine jv_getf dX0_add_36 jf_X0_27 (by repeat' (first | assumption | exact ⟨_, by assumption⟩ | refine jv_h1 (by decide) ?_ | refine jv_h0 ?_ | refine jv_h1 (by omega) ?_ | refine jv_hs ?_)) (by exact rfl) ?_
    refine jv_iload_n dX0_add_39 rfl ?_
    refine jv_iast dX0_add_40 (by repeat' (first | assumption | exact ⟨_, by assumption⟩ | refine jv_h1 (by decide) ?_ | refine jv_h0 ?_ | refine jv_h1 (by omega) ?_ | refine jv_hs ?_)) ?_
    refine jv_aload_n dX0_add_41 rfl ?_
    refine jv_getf dX0_add_42 jf_X0_21 (by repeat' (first | assumption | exact ⟨_, by assumption⟩ | refine jv_h1 (by decide) ?_ | refine jv_h0 ?_ | refine jv_h1 (by omega) ?_ | refine jv_hs ?_)) (by exact rfl) ?_
    refine jv_aload_n dX0_add_45 rfl ?_
    refine jv_getf dX0_add_46 jf_X0_27 (by repeat' (first | assumption | exact ⟨_, by assumption⟩ | refine jv_h1 (by decide) ?_ | refine jv_h0 ?_ | refine jv_h1 (by omega) ?_ | refine jv_hs ?_)) (by exact rfl) ?_
    refine jv_iload dX0_add_49 rfl ?_
    refine jv_iast dX0_add_51 (by repeat' (first | assumption | exact ⟨_, by assumption⟩ | refine jv_h1 (by decide) ?_ | refine jv_h0 ?_ | refine jv_h1 (by omega) ?_ | refine jv_hs ?_)) ?_
    refine jv_aload_n dX0_add_52 rfl ?_
    refine jv_dup dX0_add_53 rfl ?_
    refine jv_getf dX0_add_54 jf_X0_27 (by repeat' (first | assumption | exact ⟨_, by assumption⟩ | refine jv_h1 (by decide) ?_ | refine jv_h0 ?_ | refine jv_h1 (by omega) ?_ | refine jv_hs ?_)) (by exact rfl) ?_
    refine jv_iconst dX0_add_57 ?_
    refine jv_iadd dX0_add_58 ?_
    refine jv_putf dX0_add_59 jp_X0_27 (by repeat' (first | assumption | exact ⟨_, by assumption⟩ | refine jv_h1 (by decide) ?_ | refine jv_h0 ?_ | refine jv_h1 (by omega) ?_ | refine jv_hs ?_)) (by exact Nat.le_of_ble_eq_true rfl) ?_
    refine jv_aload_n dX0_add_62 rfl ?_
    refine jv_getf dX0_add_63 jf_X0_27 (by repeat' (first | assumption | exact ⟨_, by assumption⟩ | refine jv_h1 (by decide) ?_ | refine jv_h0 ?_ | refine jv_h1 (by omega) ?_ | refine jv_hs ?_)) (by exact rfl) ?_
    refine jv_iconst dX0_add_66 ?_
    refine jv_isub dX0_add_67 ?_
    rw [show (n : Int) + 1 - 1 = n by omega]
    exact jv_iret dX0_add_68 hq (hp1 (by omega) _ ⟨(by repeat' (first | assumption | exact ⟨_, by assumption⟩ | refine jv_h1 (by decide) ?_ | refine jv_h0 ?_ | refine jv_h1 (by omega) ?_ | refine jv_hs ?_)), (by repeat' (first | assumption | exact ⟨_, by assumption⟩ | refine jv_h1 (by decide) ?_ | refine jv_h0 ?_ | refine jv_h1 (by omega) ?_ | refine jv_hs ?_)), (by repeat' (first | assumption | exact ⟨_, by assumption⟩ | refine jv_h1 (by decide) ?_ | refine jv_h0 ?_ | refine jv_h1 (by omega) ?_ | refine jv_hs ?_)), (by repeat' (first | assumption | exact ⟨_, by assumption⟩ | refine jv_h1 (by decide) ?_ | refine jv_h0 ?_ | refine jv_h1 (by omega) ?_ | refine jv_hs ?_)), (by repeat' (first | assumption | exact ⟨_, by assumption⟩ | refine jv_h1 (by decide) ?_ | refine jv_h0 ?_ | refine jv_h1 (by omega) ?_ | refine jv_hs ?_)), (by repeat' (first | assumption | exact ⟨_, by assumption⟩ | refine jv_h1 (by decide) ?_ | refine jv_h0 ?_ | refine jv_h1 (by omega) ?_ | refine jv_hs ?_))⟩ (jv_fr_set (by omega) (jv_fr_set (by omega) (jv_fr_set (by omega) (jv_fr_set (by omega) (jv_fr_set (by omega) jv_fr_rf)))))) (by first | rfl | decide)
  · refine jv_iconst dX0_add_9 ?_
    exact jv_iret dX0_add_10 hq (hp2 (by omega))
/-- what the columns but that of h hold -/
def jq_va (va wi he le fa : Int → Int) (c t q : Int) : Prop := va 1 = t ∧ va 2 = wi c ∧ va 3 = he c ∧ va 4 = le c ∧ va 5 = fa c ∧ va 6 = q ∧ va 7 = 1
theorem ct_X0_valuesFor {c t q : Int} (K : Nat) (w : jw_C h n wi he le fa va) (hn : n ≤ 8) (hc : 0 ≤ c ∧ c < n) (hp : ∀ h' va', jq_va va' wi he le fa c t q → jw_C h' n wi he le fa va' → jv_fr 9 14 h h' → post (some (.ref 14)) h') : jv_Ct yX0_valuesFor cX0_valuesFor 4 (some (.array .int)) (K + 2) [.ref 9, .int (jv_i c), .int (jv_i t), .int (jv_i q)] h post := by
  obtain ⟨w1, w2, w3, w4, w5, w6⟩ := w
  refine jv_entry (own := RX0) (by decide) rfl (Nat.le_of_ble_eq_true rfl) (fun X hq => ?_)
  refine jv_aload_n dX0_valuesFor_0 rfl ?_
  refine jv_getf dX0_valuesFor_1 jf_X0_24 (by repeat' (first | assumption | exact ⟨_, by assumption⟩ | refine jv_h1 (by decide) ?_ | refine jv_h0 ?_ | refine jv_h1 (by omega) ?_ | refine jv_hs ?_)) (by exact rfl) ?_
  refine jv_iconst dX0_valuesFor_4 ?_
  refine jv_iload_n dX0_valuesFor_5 rfl ?_
  refine jv_iast dX0_valuesFor_6 (by repeat' (first | assumption | exact ⟨_, by assumption⟩ | refine jv_h1 (by decide) ?_ | refine jv_h0 ?_ | refine jv_h1 (by omega) ?_ | refine jv_hs ?_)) ?_
  refine jv_aload_n dX0_valuesFor_7 rfl ?_
  refine jv_getf dX0_valuesFor_8 jf_X0_24 (by repeat' (first | assumption | exact ⟨_, by assumption⟩ | refine jv_h1 (by decide) ?_ | refine jv_h0 ?_ | refine jv_h1 (by omega) ?_ | refine jv_hs ?_)) (by exact rfl) ?_
  refine jv_bipush dX0_valuesFor_11 ?_
  refine jv_iload_n dX0_valuesFor_13 rfl ?_
  refine jv_iast dX0_valuesFor_14 (by repeat' (first | assumption | exact ⟨_, by assumption⟩ | refine jv_h1 (by decide) ?_ | refine jv_h0 ?_ | refine jv_h1 (by omega) ?_ | refine jv_hs ?_)) ?_
  refine jv_aload_n dX0_valuesFor_15 rfl ?_
  refine jv_getf dX0_valuesFor_16 jf_X0_24 (by repeat' (first | assumption | exact ⟨_, by assumption⟩ | refine jv_h1 (by decide) ?_ | refine jv_h0 ?_ | refine jv_h1 (by omega) ?_ | refine jv_hs ?_)) (by exact rfl) ?_
  refine jv_bipush dX0_valuesFor_19 ?_
  refine jv_iconst dX0_valuesFor_21 ?_
  refine jv_iast dX0_valuesFor_22 (by repeat' (first | assumption | exact ⟨_, by assumption⟩ | refine jv_h1 (by decide) ?_ | refine jv_h0 ?_ | refine jv_h1 (by omega) ?_ | refine jv_hs ?_)) ?_
  refine jv_aload_n dX0_valuesFor_23 rfl ?_
  refine jv_iload_n dX0_valuesFor_24 rfl ?_
  refine jv_cV dX0_valuesFor_25 jm_X0_35 rfl (by repeat' (first | assumption | exact ⟨_, by assumption⟩ | refine jv_h1 (by decide) ?_ | refine jv_h0 ?_ | refine jv_h1 (by omega) ?_ | refine jv_hs ?_)) rfl (ct_X0_has (n := n) (wi := wi) (he := he) (le := le) (fa := fa) (va := jv_up (jv_up (jv_up va 1 t) 6 q) 7 1) K ⟨(by repeat' (first | assumption | exact ⟨_, by assumption⟩ | refine jv_h1 (by decide) ?_ | refine jv_h0 ?_ | refine jv_h1 (by omega) ?_ | refine jv_hs ?_)), (by repeat' (first | assumption | exact ⟨_, by assumption⟩ | refine jv_h1 (by decide) ?_ | refine jv_h0 ?_ | refine jv_h1 (by omega) ?_ | refine jv_hs ?_)), (by repeat' (first | assumption | exact ⟨_, by assumption⟩ | refine jv_h1 (by decide) ?_ | refine jv_h0 ?_ | refine jv_h1 (by omega) ?_ | refine jv_hs ?_)), (by repeat' (first | assumption | exact ⟨_, by assumption⟩ | refine jv_h1 (by decide) ?_ | refine jv_h0 ?_ | refine jv_h1 (by omega) ?_ | refine jv_hs ?_)), (by repeat' (first | assumption | exact ⟨_, by assumption⟩ | refine jv_h1 (by decide) ?_ | refine jv_h0 ?_ | refine jv_h1 (by omega) ?_ | refine jv_hs ?_)), (by repeat' (first | assumption | exact ⟨_, by assumption⟩ | refine jv_h1 (by decide) ?_ | refine jv_h0 ?_ | refine jv_h1 (by omega) ?_ | refine jv_hs ?_))⟩ hn (by unfold jq_rg; omega) (fun r q1 q2 q3 => ?_))
  refine jv_if_eq 79 dX0_valuesFor_28 (fun c28 => ?_) (fun c28 => ?_)
  · exact absurd c28 (by omega)
  · refine jv_aload_n dX0_valuesFor_31 rfl ?_
    refine jv_getf dX0_valuesFor_32 jf_X0_24 (by repeat' (first | assumption | exact ⟨_, by assumption⟩ | refine jv_h1 (by decide) ?_ | refine jv_h0 ?_ | refine jv_h1 (by omega) ?_ | refine jv_hs ?_)) (by exact rfl) ?_
    refine jv_iconst dX0_valuesFor_35 ?_
    refine jv_aload_n dX0_valuesFor_36 rfl ?_
    refine jv_getf dX0_valuesFor_37 jf_X0_9 (by repeat' (first | assumption | exact ⟨_, by assumption⟩ | refine jv_h1 (by decide) ?_ | refine jv_h0 ?_ | refine jv_h1 (by omega) ?_ | refine jv_hs ?_)) (by exact rfl) ?_
    refine jv_iload_n dX0_valuesFor_40 rfl ?_
    refine jv_iald dX0_valuesFor_41 (by repeat' (first | assumption | exact ⟨_, by assumption⟩ | refine jv_h1 (by decide) ?_ | refine jv_h0 ?_ | refine jv_h1 (by omega) ?_ | refine jv_hs ?_)) ?_
    refine jv_iast dX0_valuesFor_42 (by repeat' (first | assumption | exact ⟨_, by assumption⟩ | refine jv_h1 (by decide) ?_ | refine jv_h0 ?_ | refine jv_h1 (by omega) ?_ | refine jv_hs ?_)) ?_
    refine jv_aload_n dX0_valuesFor_43 rfl ?_
    refine jv_getf dX0_valuesFor_44 jf_X0_24 (by repeat' (first | assumption | exact ⟨_, by assumption⟩ | refine jv_h1 (by decide) ?_ | refine jv_h0 ?_ | refine jv_h1 (by omega) ?_ | refine jv_hs ?_)) (by exact rfl) ?_
    refine jv_iconst dX0_valuesFor_47 ?_
    refine jv_aload_n dX0_valuesFor_48 rfl ?_
    refine jv_getf dX0_valuesFor_49 jf_X0_15 (by repeat' (first | assumption | exact ⟨_, by assumption⟩ | refine jv_h1 (by decide) ?_ | refine jv_h0 ?_ | refine jv_h1 (by omega) ?_ | refine jv_hs ?_)) (by exact rfl) ?_
    refine jv_iload_n dX0_valuesFor_52 rfl ?_
    refine jv_iald dX0_valuesFor_53 (by repeat' (first | assumption | exact ⟨_, by assumption⟩ | refine jv_h1 (by decide) ?_ | refine jv_h0 ?_ | refine jv_h1 (by omega) ?_ | refine jv_hs ?_)) ?_
    refine jv_iast dX0_valuesFor_54 (by repeat' (first | assumption | exact ⟨_, by assumption⟩ | refine jv_h1 (by decide) ?_ | refine jv_h0 ?_ | refine jv_h1 (by omega) ?_ | refine jv_hs ?_)) ?_
    refine jv_aload_n dX0_valuesFor_55 rfl ?_
    refine jv_getf dX0_valuesFor_56 jf_X0_24 (by repeat' (first | assumption | exact ⟨_, by assumption⟩ | refine jv_h1 (by decide) ?_ | refine jv_h0 ?_ | refine jv_h1 (by omega) ?_ | refine jv_hs ?_)) (by exact rfl) ?_
    refine jv_iconst dX0_valuesFor_59 ?_
    refine jv_aload_n dX0_valuesFor_60 rfl ?_
    refine jv_getf dX0_valuesFor_61 jf_X0_18 (by repeat' (first | assumption | exact ⟨_, by assumption⟩ | refine jv_h1 (by decide) ?_ | refine jv_h0 ?_ | refine jv_h1 (by omega) ?_ | refine jv_hs ?_)) (by exact rfl) ?_
    refine jv_iload_n dX0_valuesFor_64 rfl ?_
    refine jv_iald dX0_valuesFor_65 (by repeat' (first | assumption | exact ⟨_, by assumption⟩ | refine jv_h1 (by decide) ?_ | refine jv_h0 ?_ | refine jv_h1 (by omega) ?_ | refine jv_hs ?_)) ?_
    refine jv_iast dX0_valuesFor_66 (by repeat' (first | assumption | exact ⟨_, by assumption⟩ | refine jv_h1 (by decide) ?_ | refine jv_h0 ?_ | refine jv_h1 (by omega) ?_ | refine jv_hs ?_)) ?_
    refine jv_aload_n dX0_valuesFor_67 rfl ?_
    refine jv_getf dX0_valuesFor_68 jf_X0_24 (by repeat' (first | assumption | exact ⟨_, by assumption⟩ | refine jv_h1 (by decide) ?_ | refine jv_h0 ?_ | refine jv_h1 (by omega) ?_ | refine jv_hs ?_)) (by exact rfl) ?_
    refine jv_iconst dX0_valuesFor_71 ?_
    refine jv_aload_n dX0_valuesFor_72 rfl ?_
    refine jv_getf dX0_valuesFor_73 jf_X0_21 (by repeat' (first | assumption | exact ⟨_, by assumption⟩ | refine jv_h1 (by decide) ?_ | refine jv_h0 ?_ | refine jv_h1 (by omega) ?_ | refine jv_hs ?_)) (by exact rfl) ?_
    refine jv_iload_n dX0_valuesFor_76 rfl ?_
    refine jv_iald dX0_valuesFor_77 (by repeat' (first | assumption | exact ⟨_, by assumption⟩ | refine jv_h1 (by decide) ?_ | refine jv_h0 ?_ | refine jv_h1 (by omega) ?_ | refine jv_hs ?_)) ?_
    refine jv_iast dX0_valuesFor_78 (by repeat' (first | assumption | exact ⟨_, by assumption⟩ | refine jv_h1 (by decide) ?_ | refine jv_h0 ?_ | refine jv_h1 (by omega) ?_ | refine jv_hs ?_)) ?_
    refine jv_aload_n dX0_valuesFor_79 rfl ?_
    refine jv_getf dX0_valuesFor_80 jf_X0_24 (by repeat' (first | assumption | exact ⟨_, by assumption⟩ | refine jv_h1 (by decide) ?_ | refine jv_h0 ?_ | refine jv_h1 (by omega) ?_ | refine jv_hs ?_)) (by exact rfl) ?_
    refine jv_aret dX0_valuesFor_83 hq (hp _ _ ?_ ⟨(by repeat' (first | assumption | exact ⟨_, by assumption⟩ | refine jv_h1 (by decide) ?_ | refine jv_h0 ?_ | refine jv_h1 (by omega) ?_ | refine jv_hs ?_)), (by repeat' (first | assumption | exact ⟨_, by assumption⟩ | refine jv_h1 (by decide) ?_ | refine jv_h0 ?_ | refine jv_h1 (by omega) ?_ | refine jv_hs ?_)), (by repeat' (first | assumption | exact ⟨_, by assumption⟩ | refine jv_h1 (by decide) ?_ | refine jv_h0 ?_ | refine jv_h1 (by omega) ?_ | refine jv_hs ?_)), (by repeat' (first | assumption | exact ⟨_, by assumption⟩ | refine jv_h1 (by decide) ?_ | refine jv_h0 ?_ | refine jv_h1 (by omega) ?_ | refine jv_hs ?_)), (by repeat' (first | assumption | exact ⟨_, by assumption⟩ | refine jv_h1 (by decide) ?_ | refine jv_h0 ?_ | refine jv_h1 (by omega) ?_ | refine jv_hs ?_)), (by repeat' (first | assumption | exact ⟨_, by assumption⟩ | refine jv_h1 (by decide) ?_ | refine jv_h0 ?_ | refine jv_h1 (by omega) ?_ | refine jv_hs ?_))⟩ (jv_fr_set (by omega) (jv_fr_set (by omega) (jv_fr_set (by omega) (jv_fr_set (by omega) (jv_fr_set (by omega) (jv_fr_set (by omega) (jv_fr_set (by omega) jv_fr_rf))))))))
    simp [jq_va, jv_up]
theorem ct_X7_culvert {a b c d : Int} (K : Nat) (bb : jw_B h t0 d0) (w : jw_C h n wi he le fa va) (hn : n ≤ 8) (ha : jq_rg a) (hb : jq_rg b) (hc : jq_rg c) (hd : jq_rg d) (hp1 : jq_okC n a b c d → ∀ h', jw_C h' (n + 1) (jv_up wi n a) (jv_up he n b) (jv_up le n c) (jv_up fa n d) va → jv_fr 9 14 h h' → post (some (.int (jv_i n))) h') (hp2 : ¬ jq_okC n a b c d → post (some (.int (jv_i (-1)))) h) : jv_Ct yX7_culvert cX7_culvert 5 (some .int) (K + 1) [.ref 0, .int (jv_i a), .int (jv_i b), .int (jv_i c), .int (jv_i d)] h post := by
  unfold jw_B at bb
  have w1 := w.1
  unfold jq_rg at ha hb hc hd
  unfold jq_okC at hp1 hp2
  refine jv_entry (own := RX7) (by decide) rfl (Nat.le_of_ble_eq_true rfl) (fun X hq => ?_)
  refine jv_iload_n dX7_culvert_0 rfl ?_
  refine jv_i2l dX7_culvert_1 ?_
  refine jv_lconst 1 dX7_culvert_2 ?_
  refine jv_ldc2 dX7_culvert_3 jk_X7_67 ?_
  refine jv_cS dX7_culvert_6 jm_X7_63 (ct_X7_within K (fun r1 q11 q12 q13 => ?_))
  refine jv_if_eq 49 dX7_culvert_9 (fun c9 => ?_) (fun c9 => ?_)
  · refine jv_iconst dX7_culvert_49 ?_
    exact jv_iret dX7_culvert_50 hq (hp2 (by omega))
  · refine jv_iload_n dX7_culvert_12 rfl ?_
    refine jv_i2l dX7_culvert_13 ?_
    refine jv_lconst 1 dX7_culvert_14 ?_
    refine jv_ldc2 dX7_culvert_15 jk_X7_67 ?_
    refine jv_cS dX7_culvert_18 jm_X7_63 (ct_X7_within K (fun r2 q21 q22 q23 => ?_))
    refine jv_if_eq 49 dX7_culvert_21 (fun c21 => ?_) (fun c21 => ?_)
    · refine jv_iconst dX7_culvert_49 ?_
      exact jv_iret dX7_culvert_50 hq (hp2 (by omega))
    · refine jv_iload_n dX7_culvert_24 rfl ?_
      refine jv_i2l dX7_culvert_25 ?_
      refine jv_lconst 1 dX7_culvert_26 ?_
      refine jv_ldc2 dX7_culvert_27 jk_X7_69 ?_
      refine jv_cS dX7_culvert_30 jm_X7_63 (ct_X7_within K (fun r3 q31 q32 q33 => ?_))
      refine jv_if_eq 49 dX7_culvert_33 (fun c33 => ?_) (fun c33 => ?_)
      · refine jv_iconst dX7_culvert_49 ?_
        exact jv_iret dX7_culvert_50 hq (hp2 (by omega))
      · refine jv_iload dX7_culvert_36 rfl ?_
        refine jv_i2l dX7_culvert_38 ?_
        refine jv_lconst 0 dX7_culvert_39 ?_
        refine jv_ldc2 dX7_culvert_40 jk_X7_67 ?_
        refine jv_cS dX7_culvert_43 jm_X7_63 (ct_X7_within K (fun r4 q41 q42 q43 => ?_))
        refine jv_if_ne 51 dX7_culvert_46 (fun c46 => ?_) (fun c46 => ?_)
        · refine jv_aload_n dX7_culvert_51 rfl ?_
          refine jv_getf dX7_culvert_52 jf_X7_26 (by repeat' (first | assumption | exact ⟨_, by assumption⟩ | refine jv_h1 (by decide) ?_ | refine jv_h0 ?_ | refine jv_h1 (by omega) ?_ | refine jv_hs ?_)) (by exact rfl) ?_
          refine jv_iload_n dX7_culvert_55 rfl ?_
          refine jv_iload_n dX7_culvert_56 rfl ?_
          refine jv_iload_n dX7_culvert_57 rfl ?_
          refine jv_iload dX7_culvert_58 rfl ?_
          refine jv_cV dX7_culvert_60 jm_X7_122 rfl (by repeat' (first | assumption | exact ⟨_, by assumption⟩ | refine jv_h1 (by decide) ?_ | refine jv_h0 ?_ | refine jv_h1 (by omega) ?_ | refine jv_hs ?_)) rfl (ct_X0_add K w hn (fun q h' w' fr => ?_) (fun q => ?_))
          · exact jv_iret dX7_culvert_63 hq (hp1 (by omega) h' w' fr)
          · exact jv_iret dX7_culvert_63 hq (hp2 (by omega))
        · refine jv_iconst dX7_culvert_49 ?_
          exact jv_iret dX7_culvert_50 hq (hp2 (by omega))
theorem ct_X7_isWaterOrFlow {x : Int} (K : Nat) (hx : jq_rg x) (hp : ∀ r : Int, (0 ≤ x ∧ x ≤ 20000 → r = 1) → (¬ (0 ≤ x ∧ x ≤ 20000) → r = 0) → 0 ≤ r ∧ r ≤ 1 → post (some (.int (jv_i r))) h) : jv_Ct yX7_isWaterOrFlow cX7_isWaterOrFlow 1 (some .boolean) (K + 1) [.int (jv_i x)] h post := by
  unfold jq_rg at hx
  refine jv_entry (own := RX7) (by decide) rfl (Nat.le_of_ble_eq_true rfl) (fun X hq => ?_)
  refine jv_iload_n dX7_isWaterOrFlow_0 rfl ?_
  refine jv_i2l dX7_isWaterOrFlow_1 ?_
  refine jv_lconst 0 dX7_isWaterOrFlow_2 ?_
  refine jv_ldc2 dX7_isWaterOrFlow_3 jk_X7_201 ?_
  refine jv_cS dX7_isWaterOrFlow_6 jm_X7_63 (ct_X7_within K (fun r q1 q2 q3 => ?_))
  rcases (show r = 0 ∨ r = 1 by omega) with rfl | rfl
  · exact jv_iret dX7_isWaterOrFlow_9 hq (hp _ (by omega) (by omega) (by omega)) (by decide)
  · exact jv_iret dX7_isWaterOrFlow_9 hq (hp _ (by omega) (by omega) (by omega)) (by decide)
end CL
section MC
variable {h : List jv_E} {n : Nat} {rr lv si st at_ wr da ra wa : Int} {me : Int → Int} {post : Option Value → List jv_E → Prop}
theorem ct_X8_culvert {a b c d : Int} (K : Nat) (o : jw_O h rr lv n si st at_ wr da ra wa) (w : h[103]? = some (jv_ai 32 me)) (hn : n ≤ 8) (ha : jq_rg a) (hb : jq_rg b) (hc : jq_rg c) (hd : jq_rg d) (hp1 : jq_okC n a b c d → ∀ h', jw_O h' rr lv (n + 1) si st at_ wr da ra wa → h'[103]? = some (jv_ai 32 (jv_up (jv_up (jv_up (jv_up me (4 * n) a) (4 * n + 1) b) (4 * n + 2) c) (4 * n + 3) d)) → jv_fs [97, 103] h h' → post (some (.int (jv_i n))) h') (hp2 : ¬ jq_okC n a b c d → post (some (.int (jv_i (-1)))) h) : jv_Ct yX8_culvert cX8_culvert 5 (some .int) (K + 1) [.ref 97, .int (jv_i a), .int (jv_i b), .int (jv_i c), .int (jv_i d)] h post := by
  unfold jw_O at o
  unfold jq_rg at ha hb hc hd
  unfold jq_okC at hp1 hp2
  refine jv_entry (own := RX8) (by decide) rfl (Nat.le_of_ble_eq_true rfl) (fun X hq => ?_)
  refine jv_iload_n dX8_culvert_0 rfl ?_
  refine jv_i2l dX8_culvert_1 ?_
  refine jv_lconst 1 dX8_culvert_2 ?_
  refine jv_ldc2 dX8_culvert_3 jk_X8_68 ?_
  refine jv_cS dX8_culvert_6 jm_X8_64 (ct_X8_in K (fun r1 q11 q12 q13 => ?_))
  refine jv_if_eq 58 dX8_culvert_9 (fun c9 => ?_) (fun c9 => ?_)
  · refine jv_iconst dX8_culvert_58 ?_
    exact jv_iret dX8_culvert_59 hq (hp2 (by omega))
  · refine jv_iload_n dX8_culvert_12 rfl ?_
    refine jv_i2l dX8_culvert_13 ?_
    refine jv_lconst 1 dX8_culvert_14 ?_
    refine jv_ldc2 dX8_culvert_15 jk_X8_68 ?_
    refine jv_cS dX8_culvert_18 jm_X8_64 (ct_X8_in K (fun r2 q21 q22 q23 => ?_))
    refine jv_if_eq 58 dX8_culvert_21 (fun c21 => ?_) (fun c21 => ?_)
    · refine jv_iconst dX8_culvert_58 ?_
      exact jv_iret dX8_culvert_59 hq (hp2 (by omega))
    · refine jv_iload_n dX8_culvert_24 rfl ?_
      refine jv_i2l dX8_culvert_25 ?_
      refine jv_lconst 1 dX8_culvert_26 ?_
      refine jv_ldc2 dX8_culvert_27 jk_X8_70 ?_
      refine jv_cS dX8_culvert_30 jm_X8_64 (ct_X8_in K (fun r3 q31 q32 q33 => ?_))
      refine jv_if_eq 58 dX8_culvert_33 (fun c33 => ?_) (fun c33 => ?_)
      · refine jv_iconst dX8_culvert_58 ?_
        exact jv_iret dX8_culvert_59 hq (hp2 (by omega))
      · refine jv_iload dX8_culvert_36 rfl ?_
        refine jv_i2l dX8_culvert_38 ?_
        refine jv_lconst 0 dX8_culvert_39 ?_
        refine jv_ldc2 dX8_culvert_40 jk_X8_68 ?_
        refine jv_cS dX8_culvert_43 jm_X8_64 (ct_X8_in K (fun r4 q41 q42 q43 => ?_))
        refine jv_if_eq 58 dX8_culvert_46 (fun c46 => ?_) (fun c46 => ?_)
        · refine jv_iconst dX8_culvert_58 ?_
          exact jv_iret dX8_culvert_59 hq (hp2 (by omega))
        · refine jv_aload_n dX8_culvert_49 rfl ?_
          refine jv_getf dX8_culvert_50 jf_X8_113 (by repeat' (first | assumption | exact ⟨_, by assumption⟩ | refine jv_h1 (by decide) ?_ | refine jv_h0 ?_ | refine jv_h1 (by omega) ?_ | refine jv_hs ?_)) (by exact rfl) ?_
          refine jv_bipush dX8_culvert_53 ?_
          refine jv_icmp_ne 60 dX8_culvert_55 (fun c55 => ?_) (fun c55 => ?_)
          · refine jv_aload_n dX8_culvert_60 rfl ?_
            refine jv_getf dX8_culvert_61 jf_X8_25 (by repeat' (first | assumption | exact ⟨_, by assumption⟩ | refine jv_h1 (by decide) ?_ | refine jv_h0 ?_ | refine jv_h1 (by omega) ?_ | refine jv_hs ?_)) (by exact rfl) ?_
            refine jv_iconst dX8_culvert_64 ?_
            refine jv_aload_n dX8_culvert_65 rfl ?_
            refine jv_getf dX8_culvert_66 jf_X8_113 (by repeat' (first | assumption | exact ⟨_, by assumption⟩ | refine jv_h1 (by decide) ?_ | refine jv_h0 ?_ | refine jv_h1 (by omega) ?_ | refine jv_hs ?_)) (by exact rfl) ?_
            refine jv_imul dX8_culvert_69 ?_
            refine jv_iload_n dX8_culvert_70 rfl ?_
            refine jv_iast dX8_culvert_71 (by repeat' (first | assumption | exact ⟨_, by assumption⟩ | refine jv_h1 (by decide) ?_ | refine jv_h0 ?_ | refine jv_h1 (by omega) ?_ | refine jv_hs ?_)) ?_
            refine jv_aload_n dX8_culvert_72 rfl ?_
            refine jv_getf dX8_culvert_73 jf_X8_25 (by repeat' (first | assumption | exact ⟨_, by assumption⟩ | refine jv_h1 (by decide) ?_ | refine jv_h0 ?_ | refine jv_h1 (by omega) ?_ | refine jv_hs ?_)) (by exact rfl) ?_
            refine jv_iconst dX8_culvert_76 ?_
            refine jv_aload_n dX8_culvert_77 rfl ?_
            refine jv_getf dX8_culvert_78 jf_X8_113 (by repeat' (first | assumption | exact ⟨_, by assumption⟩ | refine jv_h1 (by decide) ?_ | refine jv_h0 ?_ | refine jv_h1 (by omega) ?_ | refine jv_hs ?_)) (by exact rfl) ?_
            refine jv_imul dX8_culvert_81 ?_
            refine jv_iconst dX8_culvert_82 ?_
            refine jv_iadd dX8_culvert_83 ?_
            refine jv_iload_n dX8_culvert_84 rfl ?_
            refine jv_iast dX8_culvert_85 (by repeat' (first | assumption | exact ⟨_, by assumption⟩ | refine jv_h1 (by decide) ?_ | refine jv_h0 ?_ | refine jv_h1 (by omega) ?_ | refine jv_hs ?_)) ?_
            refine jv_aload_n dX8_culvert_86 rfl ?_
            refine jv_getf dX8_culvert_87 jf_X8_25 (by repeat' (first | assumption | exact ⟨_, by assumption⟩ | refine jv_h1 (by decide) ?_ | refine jv_h0 ?_ | refine jv_h1 (by omega) ?_ | refine jv_hs ?_)) (by exact rfl) ?_
            refine jv_iconst dX8_culvert_90 ?_
            refine jv_aload_n dX8_culvert_91 rfl ?_
            refine jv_getf dX8_culvert_92 jf_X8_113 (by repeat' (first | assumption | exact ⟨_, by assumption⟩ | refine jv_h1 (by decide) ?_ | refine jv_h0 ?_ | refine jv_h1 (by omega) ?_ | refine jv_hs ?_)) (by exact rfl) ?_
            refine jv_imul dX8_culvert_95 ?_
            refine jv_iconst dX8_culvert_96 ?_
            refine jv_iadd dX8_culvert_97 ?_
            refine jv_iload_n dX8_culvert_98 rfl ?_
            refine jv_iast dX8_culvert_99 (by repeat' (first | assumption | exact ⟨_, by assumption⟩ | refine jv_h1 (by decide) ?_ | refine jv_h0 ?_ | refine jv_h1 (by omega) ?_ | refine jv_hs ?_)) ?_
            refine jv_aload_n dX8_culvert_100 rfl ?_
            refine jv_getf dX8_culvert_101 jf_X8_25 (by repeat' (first | assumption | exact ⟨_, by assumption⟩ | refine jv_h1 (by decide) ?_ | refine jv_h0 ?_ | refine jv_h1 (by omega) ?_ | refine jv_hs ?_)) (by exact rfl) ?_
            refine jv_iconst dX8_culvert_104 ?_
            refine jv_aload_n dX8_culvert_105 rfl ?_
            refine jv_getf dX8_culvert_106 jf_X8_113 (by repeat' (first | assumption | exact ⟨_, by assumption⟩ | refine jv_h1 (by decide) ?_ | refine jv_h0 ?_ | refine jv_h1 (by omega) ?_ | refine jv_hs ?_)) (by exact rfl) ?_
            refine jv_imul dX8_culvert_109 ?_
            refine jv_iconst dX8_culvert_110 ?_
            refine jv_iadd dX8_culvert_111 ?_
            refine jv_iload dX8_culvert_112 rfl ?_
            refine jv_iast dX8_culvert_114 (by repeat' (first | assumption | exact ⟨_, by assumption⟩ | refine jv_h1 (by decide) ?_ | refine jv_h0 ?_ | refine jv_h1 (by omega) ?_ | refine jv_hs ?_)) ?_
            refine jv_aload_n dX8_culvert_115 rfl ?_
            refine jv_dup dX8_culvert_116 rfl ?_
            refine jv_getf dX8_culvert_117 jf_X8_113 (by repeat' (first | assumption | exact ⟨_, by assumption⟩ | refine jv_h1 (by decide) ?_ | refine jv_h0 ?_ | refine jv_h1 (by omega) ?_ | refine jv_hs ?_)) (by exact rfl) ?_
            refine jv_iconst dX8_culvert_120 ?_
            refine jv_iadd dX8_culvert_121 ?_
            refine jv_putf dX8_culvert_122 jp_X8_113 (by repeat' (first | assumption | exact ⟨_, by assumption⟩ | refine jv_h1 (by decide) ?_ | refine jv_h0 ?_ | refine jv_h1 (by omega) ?_ | refine jv_hs ?_)) (by exact Nat.le_of_ble_eq_true rfl) ?_
            refine jv_aload_n dX8_culvert_125 rfl ?_
            refine jv_getf dX8_culvert_126 jf_X8_113 (by repeat' (first | assumption | exact ⟨_, by assumption⟩ | refine jv_h1 (by decide) ?_ | refine jv_h0 ?_ | refine jv_h1 (by omega) ?_ | refine jv_hs ?_)) (by exact rfl) ?_
            refine jv_iconst dX8_culvert_129 ?_
            refine jv_isub dX8_culvert_130 ?_
            rw [show (n : Int) + 1 - 1 = n by omega]
            exact jv_iret dX8_culvert_131 hq (hp1 (by omega) _ (by repeat' (first | assumption | exact ⟨_, by assumption⟩ | refine jv_h1 (by decide) ?_ | refine jv_h0 ?_ | refine jv_h1 (by omega) ?_ | refine jv_hs ?_)) (by repeat' (first | assumption | exact ⟨_, by assumption⟩ | refine jv_h1 (by decide) ?_ | refine jv_h0 ?_ | refine jv_h1 (by omega) ?_ | refine jv_hs ?_)) (jv_fs_set (by decide) (jv_fs_set (by decide) (jv_fs_set (by decide) (jv_fs_set (by decide) (jv_fs_set (by decide) jv_fs_rf)))))) (by first | rfl | decide)
          · refine jv_iconst dX8_culvert_58 ?_
            exact jv_iret dX8_culvert_59 hq (hp2 (by omega))
theorem ct_X8_isCulvert {c : Int} (K : Nat) (o : jw_O h rr lv n si st at_ wr da ra wa) (hn : n ≤ 8) (hc : jq_rg c) (hp : ∀ r : Int, (0 ≤ c ∧ c < n → r = 1) → (¬ (0 ≤ c ∧ c < n) → r = 0) → 0 ≤ r ∧ r ≤ 1 → post (some (.int (jv_i r))) h) : jv_Ct yX8_isCulvert cX8_isCulvert 2 (some .boolean) K [.ref 97, .int (jv_i c)] h post := by
  unfold jw_O at o
  unfold jq_rg at hc
  refine jv_entry (own := RX8) (by decide) rfl (Nat.le_of_ble_eq_true rfl) (fun X hq => ?_)
  refine jv_iload_n dX8_isCulvert_0 rfl ?_
  refine jv_if_lt 16 dX8_isCulvert_1 (fun c1 => ?_) (fun c1 => ?_)
  · refine jv_iconst dX8_isCulvert_16 ?_
    exact jv_iret dX8_isCulvert_17 hq (hp _ (by omega) (by omega) (by omega)) (by first | rfl | decide)
  · refine jv_iload_n dX8_isCulvert_4 rfl ?_
    refine jv_aload_n dX8_isCulvert_5 rfl ?_
    refine jv_getf dX8_isCulvert_6 jf_X8_113 (by repeat' (first | assumption | exact ⟨_, by assumption⟩ | refine jv_h1 (by decide) ?_ | refine jv_h0 ?_ | refine jv_h1 (by omega) ?_ | refine jv_hs ?_)) (by exact rfl) ?_
    refine jv_icmp_ge 16 dX8_isCulvert_9 (fun c9 => ?_) (fun c9 => ?_)
    · refine jv_iconst dX8_isCulvert_16 ?_
      exact jv_iret dX8_isCulvert_17 hq (hp _ (by omega) (by omega) (by omega)) (by first | rfl | decide)
    · refine jv_iconst dX8_isCulvert_12 ?_
      refine jv_goto 17 dX8_isCulvert_13 ?_
      exact jv_iret dX8_isCulvert_17 hq (hp _ (by omega) (by omega) (by omega)) (by first | rfl | decide)
theorem ct_X8_isWater {x : Int} (K : Nat) (hx : jq_rg x) (hp : ∀ r : Int, (0 ≤ x ∧ x ≤ 20000 → r = 1) → (¬ (0 ≤ x ∧ x ≤ 20000) → r = 0) → 0 ≤ r ∧ r ≤ 1 → post (some (.int (jv_i r))) h) : jv_Ct yX8_isWater cX8_isWater 1 (some .boolean) (K + 1) [.int (jv_i x)] h post := by
  unfold jq_rg at hx
  refine jv_entry (own := RX8) (by decide) rfl (Nat.le_of_ble_eq_true rfl) (fun X hq => ?_)
  refine jv_iload_n dX8_isWater_0 rfl ?_
  refine jv_i2l dX8_isWater_1 ?_
  refine jv_lconst 0 dX8_isWater_2 ?_
  refine jv_ldc2 dX8_isWater_3 jk_X8_156 ?_
  refine jv_cS dX8_isWater_6 jm_X8_64 (ct_X8_in K (fun r q1 q2 q3 => ?_))
  rcases (show r = 0 ∨ r = 1 by omega) with rfl | rfl
  · exact jv_iret dX8_isWater_9 hq (hp _ (by omega) (by omega) (by omega)) (by decide)
  · exact jv_iret dX8_isWater_9 hq (hp _ (by omega) (by omega) (by omega)) (by decide)
end MC
end
section
/-! SIGNS: n signs sg, the reader stands at a -/
def jw_S (h : List jv_E) (n a : Int) (sg : Int → Int) : Prop := h[15]? = some (jv_ob 5 [.ref 16, .int (jv_i n), .int (jv_i a)]) ∧ h[16]? = some (jv_ac 300 sg)
def jq_S (n : Int) (sg : Int → Int) : Prop := (0 ≤ n ∧ n ≤ 300) ∧ ∀ i, 0 ≤ sg i ∧ sg i ≤ 126
/-- behind blanks -/
def jq_sk (sg : Int → Int) (n : Int) : Nat → Int → Int
  | 0, i => i
  | f + 1, i => if i < n ∧ sg i = 32 then jq_sk sg n f (i + 1) else i
def jq_sn (sg : Int → Int) (n i : Int) : Int := if i < n then sg i else 0
def jq_sK (sg : Int → Int) (n i : Int) : Int := jq_sk sg n 300 i
theorem jq_sk_in (sg : Int → Int) (n : Int) : ∀ (f : Nat) (i : Int), i ≤ n → i ≤ jq_sk sg n f i ∧ jq_sk sg n f i ≤ n
  | 0, i, h => by simp [jq_sk, h]
  | f + 1, i, h => by
    rw [jq_sk]
    split
    · next q =>
      have := jq_sk_in sg n f (i + 1) (by omega)
      omega
    · omega
/-- more fuel changes nothing -/
theorem jq_sk_f (sg : Int → Int) (n : Int) : ∀ (f g : Nat) (i : Int), n ≤ i + f → n ≤ i + g → jq_sk sg n f i = jq_sk sg n g i
  | 0, 0, i, _, _ => rfl
  | 0, g + 1, i, h1, h2 => by rw [jq_sk, jq_sk, if_neg (by omega)]
  | f + 1, 0, i, h1, h2 => by rw [jq_sk, jq_sk, if_neg (by omega)]
  | f + 1, g + 1, i, h1, h2 => by
    rw [jq_sk, jq_sk]
    split
    · exact jq_sk_f sg n f g (i + 1) (by omega) (by omega)
    · rfl
section SG
variable {h : List jv_E} {n a : Int} {t0 d0 : Nat} {sg : Int → Int} {post : Option Value → List jv_E → Prop}
theorem ct_X5_size (K : Nat) (w : jw_S h n a sg) (hp : post (some (.int (jv_i n))) h) : jv_Ct yX5_size cX5_size 1 (some .int) K [.ref 15] h post := by
  obtain ⟨w1, w2⟩ := w
  refine jv_entry (own := RX5) (by decide) rfl (Nat.le_of_ble_eq_true rfl) (fun X hq => ?_)
  refine jv_aload_n dX5_size_0 rfl ?_
  refine jv_getf dX5_size_1 jf_X5_15 (by repeat' (first | assumption | exact ⟨_, by assumption⟩ | refine jv_h1 (by decide) ?_ | refine jv_h0 ?_ | refine jv_h1 (by omega) ?_ | refine jv_hs ?_)) (by exact rfl) ?_
  exact jv_iret dX5_size_4 hq (hp) (by first | rfl | decide)
theorem ct_X5_position (K : Nat) (w : jw_S h n a sg) (hp : post (some (.int (jv_i a))) h) : jv_Ct yX5_position cX5_position 1 (some .int) K [.ref 15] h post := by
  obtain ⟨w1, w2⟩ := w
  refine jv_entry (own := RX5) (by decide) rfl (Nat.le_of_ble_eq_true rfl) (fun X hq => ?_)
  refine jv_aload_n dX5_position_0 rfl ?_
  refine jv_getf dX5_position_1 jf_X5_19 (by repeat' (first | assumption | exact ⟨_, by assumption⟩ | refine jv_h1 (by decide) ?_ | refine jv_h0 ?_ | refine jv_h1 (by omega) ?_ | refine jv_hs ?_)) (by exact rfl) ?_
  exact jv_iret dX5_position_4 hq (hp) (by first | rfl | decide)
theorem ct_X5_clear (K : Nat) (w : jw_S h n a sg) (hp : ∀ h', jw_S h' 0 a sg → jv_fr 15 16 h h' → post none h') : jv_Ct yX5_clear cX5_clear 1 none K [.ref 15] h post := by
  obtain ⟨w1, w2⟩ := w
  refine jv_entry (own := RX5) (by decide) rfl (Nat.le_of_ble_eq_true rfl) (fun X hq => ?_)
  refine jv_aload_n dX5_clear_0 rfl ?_
  refine jv_iconst dX5_clear_1 ?_
  refine jv_putf dX5_clear_2 jp_X5_15 (by repeat' (first | assumption | exact ⟨_, by assumption⟩ | refine jv_h1 (by decide) ?_ | refine jv_h0 ?_ | refine jv_h1 (by omega) ?_ | refine jv_hs ?_)) (by exact Nat.le_of_ble_eq_true rfl) ?_
  exact jv_vret dX5_clear_5 hq (hp _ ⟨(by repeat' (first | assumption | exact ⟨_, by assumption⟩ | refine jv_h1 (by decide) ?_ | refine jv_h0 ?_ | refine jv_h1 (by omega) ?_ | refine jv_hs ?_)), (by repeat' (first | assumption | exact ⟨_, by assumption⟩ | refine jv_h1 (by decide) ?_ | refine jv_h0 ?_ | refine jv_h1 (by omega) ?_ | refine jv_hs ?_))⟩ (jv_fr_set (by omega) jv_fr_rf))
theorem ct_X5_collect {c : Int} (K : Nat) (w : jw_S h n a sg) (hS : jq_S n sg) (hc : 0 ≤ c ∧ c ≤ 126) (hp1 : n < 300 → ∀ h', jw_S h' (n + 1) a (jv_up sg n c) → jv_fr 15 16 h h' → post (some (.int (jv_i 1))) h') (hp2 : ¬ n < 300 → post (some (.int (jv_i 0))) h) : jv_Ct yX5_collect cX5_collect 2 (some .boolean) K [.ref 15, .int (jv_i c)] h post := by
  obtain ⟨w1, w2⟩ := w
  have hn := hS.1
  refine jv_entry (own := RX5) (by decide) rfl (Nat.le_of_ble_eq_true rfl) (fun X hq => ?_)
  refine jv_aload_n dX5_collect_0 rfl ?_
  refine jv_getf dX5_collect_1 jf_X5_15 (by repeat' (first | assumption | exact ⟨_, by assumption⟩ | refine jv_h1 (by decide) ?_ | refine jv_h0 ?_ | refine jv_h1 (by omega) ?_ | refine jv_hs ?_)) (by exact rfl) ?_
  refine jv_sipush dX5_collect_4 ?_
  refine jv_icmp_lt 12 dX5_collect_7 (fun c7 => ?_) (fun c7 => ?_)
  · refine jv_aload_n dX5_collect_12 rfl ?_
    refine jv_getf dX5_collect_13 jf_X5_9 (by repeat' (first | assumption | exact ⟨_, by assumption⟩ | refine jv_h1 (by decide) ?_ | refine jv_h0 ?_ | refine jv_h1 (by omega) ?_ | refine jv_hs ?_)) (by exact rfl) ?_
    refine jv_aload_n dX5_collect_16 rfl ?_
    refine jv_getf dX5_collect_17 jf_X5_15 (by repeat' (first | assumption | exact ⟨_, by assumption⟩ | refine jv_h1 (by decide) ?_ | refine jv_h0 ?_ | refine jv_h1 (by omega) ?_ | refine jv_hs ?_)) (by exact rfl) ?_
    refine jv_iload_n dX5_collect_20 rfl ?_
    refine jv_cast dX5_collect_21 (by repeat' (first | assumption | exact ⟨_, by assumption⟩ | refine jv_h1 (by decide) ?_ | refine jv_h0 ?_ | refine jv_h1 (by omega) ?_ | refine jv_hs ?_)) ?_
    refine jv_aload_n dX5_collect_22 rfl ?_
    refine jv_dup dX5_collect_23 rfl ?_
    refine jv_getf dX5_collect_24 jf_X5_15 (by repeat' (first | assumption | exact ⟨_, by assumption⟩ | refine jv_h1 (by decide) ?_ | refine jv_h0 ?_ | refine jv_h1 (by omega) ?_ | refine jv_hs ?_)) (by exact rfl) ?_
    refine jv_iconst dX5_collect_27 ?_
    refine jv_iadd dX5_collect_28 ?_
    refine jv_putf dX5_collect_29 jp_X5_15 (by repeat' (first | assumption | exact ⟨_, by assumption⟩ | refine jv_h1 (by decide) ?_ | refine jv_h0 ?_ | refine jv_h1 (by omega) ?_ | refine jv_hs ?_)) (by exact Nat.le_of_ble_eq_true rfl) ?_
    refine jv_iconst dX5_collect_32 ?_
    exact jv_iret dX5_collect_33 hq (hp1 (by omega) _ ⟨(by repeat' (first | assumption | exact ⟨_, by assumption⟩ | refine jv_h1 (by decide) ?_ | refine jv_h0 ?_ | refine jv_h1 (by omega) ?_ | refine jv_hs ?_)), (by repeat' (first | assumption | exact ⟨_, by assumption⟩ | refine jv_h1 (by decide) ?_ | refine jv_h0 ?_ | refine jv_h1 (by omega) ?_ | refine jv_hs ?_))⟩ (jv_fr_set (by omega) (jv_fr_set (by omega) jv_fr_rf))) (by first | rfl | decide)
  · refine jv_iconst dX5_collect_10 ?_
    exact jv_iret dX5_collect_11 hq (hp2 (by omega)) (by decide)
def jq_okU (n u : Int) : Prop := (32 ≤ u ∧ u ≤ 126) ∧ n < 300
theorem ct_X7_unit {u : Int} (K : Nat) (b : jw_B h t0 d0) (w : jw_S h n a sg) (hS : jq_S n sg) (hu : jq_rg u) (hp1 : jq_okU n u → ∀ h', jw_S h' (n + 1) a (jv_up sg n u) → jv_fr 15 16 h h' → post (some (.int (jv_i 1))) h') (hp2 : ¬ jq_okU n u → post (some (.int (jv_i 0))) h) : jv_Ct yX7_unit cX7_unit 2 (some .boolean) (K + 1) [.ref 0, .int (jv_i u)] h post := by
  unfold jw_B at b
  have w1 := w.1
  unfold jq_rg at hu
  unfold jq_okU at hp1 hp2
  refine jv_entry (own := RX7) (by decide) rfl (Nat.le_of_ble_eq_true rfl) (fun X hq => ?_)
  refine jv_iload_n dX7_unit_0 rfl ?_
  refine jv_i2l dX7_unit_1 ?_
  refine jv_ldc2 dX7_unit_2 jk_X7_125 ?_
  refine jv_ldc2 dX7_unit_5 jk_X7_127 ?_
  refine jv_cS dX7_unit_8 jm_X7_63 (ct_X7_within K (fun r q1 q2 q3 => ?_))
  refine jv_if_eq 30 dX7_unit_11 (fun c11 => ?_) (fun c11 => ?_)
  · refine jv_iconst dX7_unit_30 ?_
    exact jv_iret dX7_unit_31 hq (hp2 (by omega)) (by first | rfl | decide)
  · refine jv_aload_n dX7_unit_14 rfl ?_
    refine jv_getf dX7_unit_15 jf_X7_33 (by repeat' (first | assumption | exact ⟨_, by assumption⟩ | refine jv_h1 (by decide) ?_ | refine jv_h0 ?_ | refine jv_h1 (by omega) ?_ | refine jv_hs ?_)) (by exact rfl) ?_
    refine jv_iload_n dX7_unit_18 rfl ?_
    refine jv_i2c dX7_unit_19 ?_
    refine jv_cV dX7_unit_20 jm_X7_129 rfl (by repeat' (first | assumption | exact ⟨_, by assumption⟩ | refine jv_h1 (by decide) ?_ | refine jv_h0 ?_ | refine jv_h1 (by omega) ?_ | refine jv_hs ?_)) rfl (ct_X5_collect K w hS (by omega) (fun q h' w' fr => ?_) (fun q => ?_))
    · refine jv_if_eq 30 dX7_unit_23 (fun c => absurd c (by omega)) (fun c => ?_)
      refine jv_iconst dX7_unit_26 ?_
      refine jv_goto 31 dX7_unit_27 ?_
      exact jv_iret dX7_unit_31 hq (hp1 (by omega) h' w' fr) (by decide)
    · refine jv_if_eq 30 dX7_unit_23 (fun c => ?_) (fun c => absurd rfl c)
      refine jv_iconst dX7_unit_30 ?_
      exact jv_iret dX7_unit_31 hq (hp2 (by omega)) (by decide)
/-- the next sign that is no blank -/
theorem ct_X5_toNextSign (K : Nat) (w : jw_S h n a sg) (hS : jq_S n sg) (ha : 0 ≤ a ∧ a ≤ n) (hp : ∀ h', jw_S h' n (jq_sK sg n a) sg → jv_fr 15 16 h h' → post (some (.int (jv_i (jq_sn sg n (jq_sK sg n a))))) h') : jv_Ct yX5_toNextSign cX5_toNextSign 1 (some .char) K [.ref 15] h post := by
  have hn := hS.1
  refine jv_entry (own := RX5) (by decide) rfl (Nat.le_of_ble_eq_true rfl) (fun X hq => ?_)
  have fin : ∀ (a1 : Int) (h1 : List jv_E), 0 ≤ a1 ∧ a1 ≤ n → a1 = jq_sK sg n a → jw_S h1 n a1 sg → jv_fr 15 16 h h1 → jv_J X cX5_toNextSign RX5 K 38 [some (.ref 15)] [] h1 := by
    intro a1 h1 ha1 e w fr
    have hp := hp h1 (e ▸ w) fr
    rw [← e] at hp
    unfold jq_sn at hp
    obtain ⟨w1, w2⟩ := w
    have s1 := hS.2 a1
    refine jv_aload_n dX5_toNextSign_38 rfl ?_
    refine jv_getf dX5_toNextSign_39 jf_X5_19 (by repeat' (first | assumption | exact ⟨_, by assumption⟩ | refine jv_h1 (by decide) ?_ | refine jv_h0 ?_ | refine jv_h1 (by omega) ?_ | refine jv_hs ?_)) (by exact rfl) ?_
    refine jv_aload_n dX5_toNextSign_42 rfl ?_
    refine jv_getf dX5_toNextSign_43 jf_X5_15 (by repeat' (first | assumption | exact ⟨_, by assumption⟩ | refine jv_h1 (by decide) ?_ | refine jv_h0 ?_ | refine jv_h1 (by omega) ?_ | refine jv_hs ?_)) (by exact rfl) ?_
    refine jv_icmp_ge 61 dX5_toNextSign_46 (fun c46 => ?_) (fun c46 => ?_)
    · refine jv_iconst dX5_toNextSign_61 ?_
      exact jv_iret dX5_toNextSign_62 hq (by rw [if_neg (by omega)] at hp; exact hp) (by decide)
    · refine jv_aload_n dX5_toNextSign_49 rfl ?_
      refine jv_getf dX5_toNextSign_50 jf_X5_9 (by repeat' (first | assumption | exact ⟨_, by assumption⟩ | refine jv_h1 (by decide) ?_ | refine jv_h0 ?_ | refine jv_h1 (by omega) ?_ | refine jv_hs ?_)) (by exact rfl) ?_
      refine jv_aload_n dX5_toNextSign_53 rfl ?_
      refine jv_getf dX5_toNextSign_54 jf_X5_19 (by repeat' (first | assumption | exact ⟨_, by assumption⟩ | refine jv_h1 (by decide) ?_ | refine jv_h0 ?_ | refine jv_h1 (by omega) ?_ | refine jv_hs ?_)) (by exact rfl) ?_
      refine jv_cald dX5_toNextSign_57 (by repeat' (first | assumption | exact ⟨_, by assumption⟩ | refine jv_h1 (by decide) ?_ | refine jv_h0 ?_ | refine jv_h1 (by omega) ?_ | refine jv_hs ?_)) ?_
      refine jv_goto 62 dX5_toNextSign_58 ?_
      exact jv_iret dX5_toNextSign_62 hq (by rw [if_pos c46] at hp; exact hp) (jv_narc (by omega))
  have loop : ∀ (f : Nat) (a1 : Int) (h1 : List jv_E), 0 ≤ a1 ∧ a1 ≤ n → n ≤ a1 + f → jq_sk sg n f a1 = jq_sK sg n a → jw_S h1 n a1 sg → jv_fr 15 16 h h1 → jv_J X cX5_toNextSign RX5 K 0 [some (.ref 15)] [] h1 := by
    intro f
    induction f with
    | zero =>
      intro a1 h1 ha1 hf e w fr
      have ff := fin a1 h1 ha1 e w fr
      obtain ⟨w1, w2⟩ := w
      refine jv_aload_n dX5_toNextSign_0 rfl ?_
      refine jv_getf dX5_toNextSign_1 jf_X5_19 (by repeat' (first | assumption | exact ⟨_, by assumption⟩ | refine jv_h1 (by decide) ?_ | refine jv_h0 ?_ | refine jv_h1 (by omega) ?_ | refine jv_hs ?_)) (by exact rfl) ?_
      refine jv_aload_n dX5_toNextSign_4 rfl ?_
      refine jv_getf dX5_toNextSign_5 jf_X5_15 (by repeat' (first | assumption | exact ⟨_, by assumption⟩ | refine jv_h1 (by decide) ?_ | refine jv_h0 ?_ | refine jv_h1 (by omega) ?_ | refine jv_hs ?_)) (by exact rfl) ?_
      refine jv_icmp_ge 38 dX5_toNextSign_8 (fun c8 => ?_) (fun c8 => ?_)
      · exact ff
      · exact absurd c8 (by omega)
    | succ f ih =>
      intro a1 h1 ha1 hf e w fr
      rw [jq_sk] at e
      have ff := fun e => fin a1 h1 ha1 e w fr
      obtain ⟨w1, w2⟩ := w
      have s1 := hS.2 a1
      refine jv_aload_n dX5_toNextSign_0 rfl ?_
      refine jv_getf dX5_toNextSign_1 jf_X5_19 (by repeat' (first | assumption | exact ⟨_, by assumption⟩ | refine jv_h1 (by decide) ?_ | refine jv_h0 ?_ | refine jv_h1 (by omega) ?_ | refine jv_hs ?_)) (by exact rfl) ?_
      refine jv_aload_n dX5_toNextSign_4 rfl ?_
      refine jv_getf dX5_toNextSign_5 jf_X5_15 (by repeat' (first | assumption | exact ⟨_, by assumption⟩ | refine jv_h1 (by decide) ?_ | refine jv_h0 ?_ | refine jv_h1 (by omega) ?_ | refine jv_hs ?_)) (by exact rfl) ?_
      refine jv_icmp_ge 38 dX5_toNextSign_8 (fun c8 => ?_) (fun c8 => ?_)
      · exact ff (by rwa [if_neg (by omega)] at e)
      · refine jv_aload_n dX5_toNextSign_11 rfl ?_
        refine jv_getf dX5_toNextSign_12 jf_X5_9 (by repeat' (first | assumption | exact ⟨_, by assumption⟩ | refine jv_h1 (by decide) ?_ | refine jv_h0 ?_ | refine jv_h1 (by omega) ?_ | refine jv_hs ?_)) (by exact rfl) ?_
        refine jv_aload_n dX5_toNextSign_15 rfl ?_
        refine jv_getf dX5_toNextSign_16 jf_X5_19 (by repeat' (first | assumption | exact ⟨_, by assumption⟩ | refine jv_h1 (by decide) ?_ | refine jv_h0 ?_ | refine jv_h1 (by omega) ?_ | refine jv_hs ?_)) (by exact rfl) ?_
        refine jv_cald dX5_toNextSign_19 (by repeat' (first | assumption | exact ⟨_, by assumption⟩ | refine jv_h1 (by decide) ?_ | refine jv_h0 ?_ | refine jv_h1 (by omega) ?_ | refine jv_hs ?_)) ?_
        refine jv_bipush dX5_toNextSign_20 ?_
        refine jv_icmp_ne 38 dX5_toNextSign_22 (fun c22 => ?_) (fun c22 => ?_)
        · exact ff (by rwa [if_neg (by omega)] at e)
        · refine jv_aload_n dX5_toNextSign_25 rfl ?_
          refine jv_dup dX5_toNextSign_26 rfl ?_
          refine jv_getf dX5_toNextSign_27 jf_X5_19 (by repeat' (first | assumption | exact ⟨_, by assumption⟩ | refine jv_h1 (by decide) ?_ | refine jv_h0 ?_ | refine jv_h1 (by omega) ?_ | refine jv_hs ?_)) (by exact rfl) ?_
          refine jv_iconst dX5_toNextSign_30 ?_
          refine jv_iadd dX5_toNextSign_31 ?_
          refine jv_putf dX5_toNextSign_32 jp_X5_19 (by repeat' (first | assumption | exact ⟨_, by assumption⟩ | refine jv_h1 (by decide) ?_ | refine jv_h0 ?_ | refine jv_h1 (by omega) ?_ | refine jv_hs ?_)) (by exact Nat.le_of_ble_eq_true rfl) ?_
          refine jv_goto 0 dX5_toNextSign_35 ?_
          exact ih (a1 + 1) _ (by omega) (by omega) (by rwa [if_pos (by omega)] at e) ⟨(by repeat' (first | assumption | exact ⟨_, by assumption⟩ | refine jv_h1 (by decide) ?_ | refine jv_h0 ?_ | refine jv_h1 (by omega) ?_ | refine jv_hs ?_)), (by repeat' (first | assumption | exact ⟨_, by assumption⟩ | refine jv_h1 (by decide) ?_ | refine jv_h0 ?_ | refine jv_h1 (by omega) ?_ | refine jv_hs ?_))⟩ (jv_fr_set (by omega) fr)
  exact loop 300 a h ha (by omega) rfl w jv_fr_rf
theorem ct_X5_standAtOneTooMany (K : Nat) (w : jw_S h n a sg) (hS : jq_S n sg) (ha : 0 ≤ a ∧ a ≤ n) (hp : ∀ h', jw_S h' n (jq_sK sg n a) sg → jv_fr 15 16 h h' → post (some (.int (jv_i 0))) h') : jv_Ct yX5_standAtOneTooMany cX5_standAtOneTooMany 1 (some .boolean) (K + 1) [.ref 15] h post := by
  have w1 := w.1
  refine jv_entry (own := RX5) (by decide) rfl (Nat.le_of_ble_eq_true rfl) (fun X hq => ?_)
  refine jv_aload_n dX5_standAtOneTooMany_0 rfl ?_
  refine jv_cV dX5_standAtOneTooMany_1 jm_X5_34 rfl (by repeat' (first | assumption | exact ⟨_, by assumption⟩ | refine jv_h1 (by decide) ?_ | refine jv_h0 ?_ | refine jv_h1 (by omega) ?_ | refine jv_hs ?_)) rfl (ct_X5_toNextSign K w hS ha (fun h' w' fr => ?_))
  refine jv_pop dX5_standAtOneTooMany_4 rfl ?_
  refine jv_iconst dX5_standAtOneTooMany_5 ?_
  exact jv_iret dX5_standAtOneTooMany_6 hq (hp h' w' fr) (by first | rfl | decide)
end SG
section MS
variable {h : List jv_E} {rr lv cu n st a wr da ra wa : Int} {sg : Int → Int} {post : Option Value → List jv_E → Prop}
theorem ct_X8_unit {u : Int} (K : Nat) (o : jw_O h rr lv cu n st a wr da ra wa) (w : h[104]? = some (jv_ai 300 sg)) (hS : jq_S n sg) (hu : jq_rg u) (hp1 : jq_okU n u → ∀ h', jw_O h' rr lv cu (n + 1) st a wr da ra wa → h'[104]? = some (jv_ai 300 (jv_up sg n u)) → jv_fs [97, 104] h h' → post (some (.int (jv_i 1))) h') (hp2 : ¬ jq_okU n u → post (some (.int (jv_i 0))) h) : jv_Ct yX8_unit cX8_unit 2 (some .boolean) (K + 1) [.ref 97, .int (jv_i u)] h post := by
  unfold jw_O at o
  have hn := hS.1
  unfold jq_rg at hu
  unfold jq_okU at hp1 hp2
  refine jv_entry (own := RX8) (by decide) rfl (Nat.le_of_ble_eq_true rfl) (fun X hq => ?_)
  refine jv_iload_n dX8_unit_0 rfl ?_
  refine jv_i2l dX8_unit_1 ?_
  refine jv_ldc2 dX8_unit_2 jk_X8_116 ?_
  refine jv_ldc2 dX8_unit_5 jk_X8_118 ?_
  refine jv_cS dX8_unit_8 jm_X8_64 (ct_X8_in K (fun r q1 q2 q3 => ?_))
  refine jv_if_eq 24 dX8_unit_11 (fun c11 => ?_) (fun c11 => ?_)
  · refine jv_iconst dX8_unit_24 ?_
    exact jv_iret dX8_unit_25 hq (hp2 (by omega)) (by decide)
  · refine jv_aload_n dX8_unit_14 rfl ?_
    refine jv_getf dX8_unit_15 jf_X8_120 (by repeat' (first | assumption | exact ⟨_, by assumption⟩ | refine jv_h1 (by decide) ?_ | refine jv_h0 ?_ | refine jv_h1 (by omega) ?_ | refine jv_hs ?_)) (by exact rfl) ?_
    refine jv_sipush dX8_unit_18 ?_
    refine jv_icmp_ne 26 dX8_unit_21 (fun c21 => ?_) (fun c21 => ?_)
    · refine jv_aload_n dX8_unit_26 rfl ?_
      refine jv_getf dX8_unit_27 jf_X8_28 (by repeat' (first | assumption | exact ⟨_, by assumption⟩ | refine jv_h1 (by decide) ?_ | refine jv_h0 ?_ | refine jv_h1 (by omega) ?_ | refine jv_hs ?_)) (by exact rfl) ?_
      refine jv_aload_n dX8_unit_30 rfl ?_
      refine jv_getf dX8_unit_31 jf_X8_120 (by repeat' (first | assumption | exact ⟨_, by assumption⟩ | refine jv_h1 (by decide) ?_ | refine jv_h0 ?_ | refine jv_h1 (by omega) ?_ | refine jv_hs ?_)) (by exact rfl) ?_
      refine jv_iload_n dX8_unit_34 rfl ?_
      refine jv_iast dX8_unit_35 (by repeat' (first | assumption | exact ⟨_, by assumption⟩ | refine jv_h1 (by decide) ?_ | refine jv_h0 ?_ | refine jv_h1 (by omega) ?_ | refine jv_hs ?_)) ?_
      refine jv_aload_n dX8_unit_36 rfl ?_
      refine jv_dup dX8_unit_37 rfl ?_
      refine jv_getf dX8_unit_38 jf_X8_120 (by repeat' (first | assumption | exact ⟨_, by assumption⟩ | refine jv_h1 (by decide) ?_ | refine jv_h0 ?_ | refine jv_h1 (by omega) ?_ | refine jv_hs ?_)) (by exact rfl) ?_
      refine jv_iconst dX8_unit_41 ?_
      refine jv_iadd dX8_unit_42 ?_
      refine jv_putf dX8_unit_43 jp_X8_120 (by repeat' (first | assumption | exact ⟨_, by assumption⟩ | refine jv_h1 (by decide) ?_ | refine jv_h0 ?_ | refine jv_h1 (by omega) ?_ | refine jv_hs ?_)) (by exact Nat.le_of_ble_eq_true rfl) ?_
      refine jv_iconst dX8_unit_46 ?_
      exact jv_iret dX8_unit_47 hq (hp1 (by omega) _ (by repeat' (first | assumption | exact ⟨_, by assumption⟩ | refine jv_h1 (by decide) ?_ | refine jv_h0 ?_ | refine jv_h1 (by omega) ?_ | refine jv_hs ?_)) (by repeat' (first | assumption | exact ⟨_, by assumption⟩ | refine jv_h1 (by decide) ?_ | refine jv_h0 ?_ | refine jv_h1 (by omega) ?_ | refine jv_hs ?_)) (jv_fs_set (by decide) (jv_fs_set (by decide) jv_fs_rf))) (by first | rfl | decide)
    · refine jv_iconst dX8_unit_24 ?_
      exact jv_iret dX8_unit_25 hq (hp2 (by omega)) (by decide)
theorem ct_X8_look (K : Nat) (o : jw_O h rr lv cu n st a wr da ra wa) (w : h[104]? = some (jv_ai 300 sg)) (hS : jq_S n sg) (ha : 0 ≤ a ∧ a ≤ n) (hp : ∀ h', jw_O h' rr lv cu n st (jq_sK sg n a) wr da ra wa → jv_fs [97] h h' → post (some (.int (jv_i (jq_sn sg n (jq_sK sg n a))))) h') : jv_Ct yX8_look cX8_look 1 (some .int) K [.ref 97] h post := by
  have hn := hS.1
  refine jv_entry (own := RX8) (by decide) rfl (Nat.le_of_ble_eq_true rfl) (fun X hq => ?_)
  have fin : ∀ (a1 : Int) (h1 : List jv_E), 0 ≤ a1 ∧ a1 ≤ n → a1 = jq_sK sg n a → jw_O h1 rr lv cu n st a1 wr da ra wa → h1[104]? = some (jv_ai 300 sg) → jv_fs [97] h h1 → jv_J X cX8_look RX8 K 38 [some (.ref 97)] [] h1 := by
    intro a1 h1 ha1 e o w fr
    have hp := hp h1 (e ▸ o) fr
    rw [← e] at hp
    unfold jq_sn at hp
    unfold jw_O at o
    refine jv_aload_n dX8_look_38 rfl ?_
    refine jv_getf dX8_look_39 jf_X8_123 (by repeat' (first | assumption | exact ⟨_, by assumption⟩ | refine jv_h1 (by decide) ?_ | refine jv_h0 ?_ | refine jv_h1 (by omega) ?_ | refine jv_hs ?_)) (by exact rfl) ?_
    refine jv_aload_n dX8_look_42 rfl ?_
    refine jv_getf dX8_look_43 jf_X8_120 (by repeat' (first | assumption | exact ⟨_, by assumption⟩ | refine jv_h1 (by decide) ?_ | refine jv_h0 ?_ | refine jv_h1 (by omega) ?_ | refine jv_hs ?_)) (by exact rfl) ?_
    refine jv_icmp_ge 61 dX8_look_46 (fun c46 => ?_) (fun c46 => ?_)
    · refine jv_iconst dX8_look_61 ?_
      exact jv_iret dX8_look_62 hq (by rw [if_neg (by omega)] at hp; exact hp)
    · refine jv_aload_n dX8_look_49 rfl ?_
      refine jv_getf dX8_look_50 jf_X8_28 (by repeat' (first | assumption | exact ⟨_, by assumption⟩ | refine jv_h1 (by decide) ?_ | refine jv_h0 ?_ | refine jv_h1 (by omega) ?_ | refine jv_hs ?_)) (by exact rfl) ?_
      refine jv_aload_n dX8_look_53 rfl ?_
      refine jv_getf dX8_look_54 jf_X8_123 (by repeat' (first | assumption | exact ⟨_, by assumption⟩ | refine jv_h1 (by decide) ?_ | refine jv_h0 ?_ | refine jv_h1 (by omega) ?_ | refine jv_hs ?_)) (by exact rfl) ?_
      refine jv_iald dX8_look_57 (by repeat' (first | assumption | exact ⟨_, by assumption⟩ | refine jv_h1 (by decide) ?_ | refine jv_h0 ?_ | refine jv_h1 (by omega) ?_ | refine jv_hs ?_)) ?_
      refine jv_goto 62 dX8_look_58 ?_
      exact jv_iret dX8_look_62 hq (by rw [if_pos c46] at hp; exact hp)
  have loop : ∀ (f : Nat) (a1 : Int) (h1 : List jv_E), 0 ≤ a1 ∧ a1 ≤ n → n ≤ a1 + f → jq_sk sg n f a1 = jq_sK sg n a → jw_O h1 rr lv cu n st a1 wr da ra wa → h1[104]? = some (jv_ai 300 sg) → jv_fs [97] h h1 → jv_J X cX8_look RX8 K 0 [some (.ref 97)] [] h1 := by
    intro f
    induction f with
    | zero =>
      intro a1 h1 ha1 hf e o w fr
      have ff := fin a1 h1 ha1 e o w fr
      unfold jw_O at o
      refine jv_aload_n dX8_look_0 rfl ?_
      refine jv_getf dX8_look_1 jf_X8_123 (by repeat' (first | assumption | exact ⟨_, by assumption⟩ | refine jv_h1 (by decide) ?_ | refine jv_h0 ?_ | refine jv_h1 (by omega) ?_ | refine jv_hs ?_)) (by exact rfl) ?_
      refine jv_aload_n dX8_look_4 rfl ?_
      refine jv_getf dX8_look_5 jf_X8_120 (by repeat' (first | assumption | exact ⟨_, by assumption⟩ | refine jv_h1 (by decide) ?_ | refine jv_h0 ?_ | refine jv_h1 (by omega) ?_ | refine jv_hs ?_)) (by exact rfl) ?_
      refine jv_icmp_ge 38 dX8_look_8 (fun c8 => ?_) (fun c8 => ?_)
      · exact ff
      · exact absurd c8 (by omega)
    | succ f ih =>
      intro a1 h1 ha1 hf e o w fr
      rw [jq_sk] at e
      have ff := fun e => fin a1 h1 ha1 e o w fr
      unfold jw_O at o
      have s1 := hS.2 a1
      refine jv_aload_n dX8_look_0 rfl ?_
      refine jv_getf dX8_look_1 jf_X8_123 (by repeat' (first | assumption | exact ⟨_, by assumption⟩ | refine jv_h1 (by decide) ?_ | refine jv_h0 ?_ | refine jv_h1 (by omega) ?_ | refine jv_hs ?_)) (by exact rfl) ?_
      refine jv_aload_n dX8_look_4 rfl ?_
      refine jv_getf dX8_look_5 jf_X8_120 (by repeat' (first | assumption | exact ⟨_, by assumption⟩ | refine jv_h1 (by decide) ?_ | refine jv_h0 ?_ | refine jv_h1 (by omega) ?_ | refine jv_hs ?_)) (by exact rfl) ?_
      refine jv_icmp_ge 38 dX8_look_8 (fun c8 => ?_) (fun c8 => ?_)
      · exact ff (by rwa [if_neg (by omega)] at e)
      · refine jv_aload_n dX8_look_11 rfl ?_
        refine jv_getf dX8_look_12 jf_X8_28 (by repeat' (first | assumption | exact ⟨_, by assumption⟩ | refine jv_h1 (by decide) ?_ | refine jv_h0 ?_ | refine jv_h1 (by omega) ?_ | refine jv_hs ?_)) (by exact rfl) ?_
        refine jv_aload_n dX8_look_15 rfl ?_
        refine jv_getf dX8_look_16 jf_X8_123 (by repeat' (first | assumption | exact ⟨_, by assumption⟩ | refine jv_h1 (by decide) ?_ | refine jv_h0 ?_ | refine jv_h1 (by omega) ?_ | refine jv_hs ?_)) (by exact rfl) ?_
        refine jv_iald dX8_look_19 (by repeat' (first | assumption | exact ⟨_, by assumption⟩ | refine jv_h1 (by decide) ?_ | refine jv_h0 ?_ | refine jv_h1 (by omega) ?_ | refine jv_hs ?_)) ?_
        refine jv_bipush dX8_look_20 ?_
        refine jv_icmp_ne 38 dX8_look_22 (fun c22 => ?_) (fun c22 => ?_)
        · exact ff (by rwa [if_neg (by omega)] at e)
        · refine jv_aload_n dX8_look_25 rfl ?_
          refine jv_dup dX8_look_26 rfl ?_
          refine jv_getf dX8_look_27 jf_X8_123 (by repeat' (first | assumption | exact ⟨_, by assumption⟩ | refine jv_h1 (by decide) ?_ | refine jv_h0 ?_ | refine jv_h1 (by omega) ?_ | refine jv_hs ?_)) (by exact rfl) ?_
          refine jv_iconst dX8_look_30 ?_
          refine jv_iadd dX8_look_31 ?_
          refine jv_putf dX8_look_32 jp_X8_123 (by repeat' (first | assumption | exact ⟨_, by assumption⟩ | refine jv_h1 (by decide) ?_ | refine jv_h0 ?_ | refine jv_h1 (by omega) ?_ | refine jv_hs ?_)) (by exact Nat.le_of_ble_eq_true rfl) ?_
          refine jv_goto 0 dX8_look_35 ?_
          exact ih (a1 + 1) _ (by omega) (by omega) (by rwa [if_pos (by omega)] at e) (by repeat' (first | assumption | exact ⟨_, by assumption⟩ | refine jv_h1 (by decide) ?_ | refine jv_h0 ?_ | refine jv_h1 (by omega) ?_ | refine jv_hs ?_)) (by repeat' (first | assumption | exact ⟨_, by assumption⟩ | refine jv_h1 (by decide) ?_ | refine jv_h0 ?_ | refine jv_h1 (by omega) ?_ | refine jv_hs ?_)) (jv_fs_set (by decide) fr)
  exact loop 300 a h ha (by omega) rfl o w jv_fs_rf
def jq_il (c : Int) : Prop := c = 104 ∨ c = 116 ∨ c = 119 ∨ c = 100 ∨ c = 108 ∨ c = 102 ∨ c = 113
theorem ct_X8_isLetter {c : Int} (K : Nat) (hc : 0 ≤ c ∧ c ≤ 126) (hp : ∀ r : Int, (jq_il c → r = 1) → (¬ jq_il c → r = 0) → 0 ≤ r ∧ r ≤ 1 → post (some (.int (jv_i r))) h) : jv_Ct yX8_isLetter cX8_isLetter 1 (some .boolean) K [.int (jv_i c)] h post := by
  unfold jq_il at hp
  refine jv_entry (own := RX8) (by decide) rfl (Nat.le_of_ble_eq_true rfl) (fun X hq => ?_)
  refine jv_iload_n dX8_isLetter_0 rfl ?_
  refine jv_bipush dX8_isLetter_1 ?_
  refine jv_icmp_eq 42 dX8_isLetter_3 (fun c3 => ?_) (fun c3 => ?_)
  · refine jv_iconst dX8_isLetter_42 ?_
    refine jv_goto 47 dX8_isLetter_43 ?_
    exact jv_iret dX8_isLetter_47 hq (hp _ (by omega) (by omega) (by omega)) (by first | rfl | decide)
  · refine jv_iload_n dX8_isLetter_6 rfl ?_
    refine jv_bipush dX8_isLetter_7 ?_
    refine jv_icmp_eq 42 dX8_isLetter_9 (fun c9 => ?_) (fun c9 => ?_)
    · refine jv_iconst dX8_isLetter_42 ?_
      refine jv_goto 47 dX8_isLetter_43 ?_
      exact jv_iret dX8_isLetter_47 hq (hp _ (by omega) (by omega) (by omega)) (by first | rfl | decide)
    · refine jv_iload_n dX8_isLetter_12 rfl ?_
      refine jv_bipush dX8_isLetter_13 ?_
      refine jv_icmp_eq 42 dX8_isLetter_15 (fun c15 => ?_) (fun c15 => ?_)
      · refine jv_iconst dX8_isLetter_42 ?_
        refine jv_goto 47 dX8_isLetter_43 ?_
        exact jv_iret dX8_isLetter_47 hq (hp _ (by omega) (by omega) (by omega)) (by first | rfl | decide)
      · refine jv_iload_n dX8_isLetter_18 rfl ?_
        refine jv_bipush dX8_isLetter_19 ?_
        refine jv_icmp_eq 42 dX8_isLetter_21 (fun c21 => ?_) (fun c21 => ?_)
        · refine jv_iconst dX8_isLetter_42 ?_
          refine jv_goto 47 dX8_isLetter_43 ?_
          exact jv_iret dX8_isLetter_47 hq (hp _ (by omega) (by omega) (by omega)) (by first | rfl | decide)
        · refine jv_iload_n dX8_isLetter_24 rfl ?_
          refine jv_bipush dX8_isLetter_25 ?_
          refine jv_icmp_eq 42 dX8_isLetter_27 (fun c27 => ?_) (fun c27 => ?_)
          · refine jv_iconst dX8_isLetter_42 ?_
            refine jv_goto 47 dX8_isLetter_43 ?_
            exact jv_iret dX8_isLetter_47 hq (hp _ (by omega) (by omega) (by omega)) (by first | rfl | decide)
          · refine jv_iload_n dX8_isLetter_30 rfl ?_
            refine jv_bipush dX8_isLetter_31 ?_
            refine jv_icmp_eq 42 dX8_isLetter_33 (fun c33 => ?_) (fun c33 => ?_)
            · refine jv_iconst dX8_isLetter_42 ?_
              refine jv_goto 47 dX8_isLetter_43 ?_
              exact jv_iret dX8_isLetter_47 hq (hp _ (by omega) (by omega) (by omega)) (by first | rfl | decide)
            · refine jv_iload_n dX8_isLetter_36 rfl ?_
              refine jv_bipush dX8_isLetter_37 ?_
              refine jv_icmp_ne 46 dX8_isLetter_39 (fun c39 => ?_) (fun c39 => ?_)
              · refine jv_iconst dX8_isLetter_46 ?_
                exact jv_iret dX8_isLetter_47 hq (hp _ (by omega) (by omega) (by omega)) (by first | rfl | decide)
              · refine jv_iconst dX8_isLetter_42 ?_
                refine jv_goto 47 dX8_isLetter_43 ?_
                exact jv_iret dX8_isLetter_47 hq (hp _ (by omega) (by omega) (by omega)) (by first | rfl | decide)
end MS
end
