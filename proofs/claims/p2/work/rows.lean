section
-- ===== PART A: goes FIRST, ahead of the names: the tables' words, and 'selects' of the private methods out of them =====
/-- a private method of a class that the tables say can be made, by its rows of tables_1 -/
def lw_okq (q : MethodName × Nat) : Prop := (q.1.cls ≠ "java/lang/invoke/MethodHandle" ∧ q.1.cls ≠ "java/lang/invoke/VarHandle") ∧ Cond.instantiable q.1.cls q.2 ∈ tables_1 ∧ Cond.privateMethod q.1 ∈ tables_1 ∧ Cond.instanceMethod q.1 ∈ tables_1
theorem lw_p0 : lw_okq (⟨"SlideRules$Logs", "addGrowth", "(LSlideRules$Wide;II)V"⟩, 5) := ⟨⟨by decide +kernel, by decide +kernel⟩, List.mem_of_getElem? (i := 24) (by decide +kernel), List.mem_of_getElem? (i := 46) (by decide +kernel), List.mem_of_getElem? (i := 47) (by decide +kernel)⟩
theorem lw_p1 : lw_okq (⟨"SlideRules", "scaleAt", "(I)LSlideRules$Scale;"⟩, 12) := ⟨⟨by decide +kernel, by decide +kernel⟩, List.mem_of_getElem? (i := 16) (by decide +kernel), List.mem_of_getElem? (i := 359) (by decide +kernel), List.mem_of_getElem? (i := 360) (by decide +kernel)⟩
theorem lw_p2 : lw_okq (⟨"SlideRules$Logs", "putLog", "(LSlideRules$Wide;I)V"⟩, 5) := ⟨⟨by decide +kernel, by decide +kernel⟩, List.mem_of_getElem? (i := 24) (by decide +kernel), List.mem_of_getElem? (i := 376) (by decide +kernel), List.mem_of_getElem? (i := 377) (by decide +kernel)⟩
theorem lw_p3 : lw_okq (⟨"SlideRules$PlainScale", "firstFrom", "(I)I"⟩, 2) := ⟨⟨by decide +kernel, by decide +kernel⟩, List.mem_of_getElem? (i := 85) (by decide +kernel), List.mem_of_getElem? (i := 537) (by decide +kernel), List.mem_of_getElem? (i := 538) (by decide +kernel)⟩
theorem lw_p4 : lw_okq (⟨"SlideRules$Chain", "multiplyOut", "()V"⟩, 4) := ⟨⟨by decide +kernel, by decide +kernel⟩, List.mem_of_getElem? (i := 103) (by decide +kernel), List.mem_of_getElem? (i := 545) (by decide +kernel), List.mem_of_getElem? (i := 546) (by decide +kernel)⟩
theorem lw_p5 : lw_okq (⟨"SlideRules$PairSums", "take", "(IILSlideRules$PlainScale;)V"⟩, 11) := ⟨⟨by decide +kernel, by decide +kernel⟩, List.mem_of_getElem? (i := 152) (by decide +kernel), List.mem_of_getElem? (i := 563) (by decide +kernel), List.mem_of_getElem? (i := 564) (by decide +kernel)⟩
theorem lw_p6 : lw_okq (⟨"SlideRules", "aimSettings", "(III)V"⟩, 12) := ⟨⟨by decide +kernel, by decide +kernel⟩, List.mem_of_getElem? (i := 16) (by decide +kernel), List.mem_of_getElem? (i := 579) (by decide +kernel), List.mem_of_getElem? (i := 580) (by decide +kernel)⟩
theorem lw_p7 : lw_okq (⟨"SlideRules$Settings", "measure", "([II)V"⟩, 4) := ⟨⟨by decide +kernel, by decide +kernel⟩, List.mem_of_getElem? (i := 200) (by decide +kernel), List.mem_of_getElem? (i := 595) (by decide +kernel), List.mem_of_getElem? (i := 596) (by decide +kernel)⟩
theorem lw_p8 : lw_okq (⟨"SlideRules$Settings", "reachBack", "([II)V"⟩, 4) := ⟨⟨by decide +kernel, by decide +kernel⟩, List.mem_of_getElem? (i := 200) (by decide +kernel), List.mem_of_getElem? (i := 599) (by decide +kernel), List.mem_of_getElem? (i := 600) (by decide +kernel)⟩
theorem lw_p9 : lw_okq (⟨"SlideRules$Settings", "makeFirst", "()I"⟩, 4) := ⟨⟨by decide +kernel, by decide +kernel⟩, List.mem_of_getElem? (i := 200) (by decide +kernel), List.mem_of_getElem? (i := 616) (by decide +kernel), List.mem_of_getElem? (i := 617) (by decide +kernel)⟩
theorem lw_p10 : lw_okq (⟨"SlideRules$Settings", "isNearer", "(II)Z"⟩, 4) := ⟨⟨by decide +kernel, by decide +kernel⟩, List.mem_of_getElem? (i := 200) (by decide +kernel), List.mem_of_getElem? (i := 620) (by decide +kernel), List.mem_of_getElem? (i := 621) (by decide +kernel)⟩
theorem lw_p11 : lw_okq (⟨"SlideRules$Match", "weigh", "(II)V"⟩, 2) := ⟨⟨by decide +kernel, by decide +kernel⟩, List.mem_of_getElem? (i := 224) (by decide +kernel), List.mem_of_getElem? (i := 659) (by decide +kernel), List.mem_of_getElem? (i := 660) (by decide +kernel)⟩
theorem lw_p12 : lw_okq (⟨"SlideRules$Laws", "doublesFrom", "(I)I"⟩, 1) := ⟨⟨by decide +kernel, by decide +kernel⟩, List.mem_of_getElem? (i := 239) (by decide +kernel), List.mem_of_getElem? (i := 691) (by decide +kernel), List.mem_of_getElem? (i := 692) (by decide +kernel)⟩
theorem lw_p13 : lw_okq (⟨"SlideRules", "scalesOnSlide", "()I"⟩, 12) := ⟨⟨by decide +kernel, by decide +kernel⟩, List.mem_of_getElem? (i := 16) (by decide +kernel), List.mem_of_getElem? (i := 699) (by decide +kernel), List.mem_of_getElem? (i := 700) (by decide +kernel)⟩
theorem lw_p14 : lw_okq (⟨"SlideRulesModel", "natural", "(JJ[J)V"⟩, 30) := ⟨⟨by decide +kernel, by decide +kernel⟩, List.mem_of_getElem? (i := 721) (by decide +kernel), List.mem_of_getElem? (i := 729) (by decide +kernel), List.mem_of_getElem? (i := 730) (by decide +kernel)⟩
theorem lw_p15 : lw_okq (⟨"SlideRulesModel", "isScale", "(I)Z"⟩, 30) := ⟨⟨by decide +kernel, by decide +kernel⟩, List.mem_of_getElem? (i := 721) (by decide +kernel), List.mem_of_getElem? (i := 866) (by decide +kernel), List.mem_of_getElem? (i := 867) (by decide +kernel)⟩
def lw_privs_1 : List (MethodName × Nat) := [(⟨"SlideRules$Logs", "addGrowth", "(LSlideRules$Wide;II)V"⟩, 5), (⟨"SlideRules", "scaleAt", "(I)LSlideRules$Scale;"⟩, 12), (⟨"SlideRules$Logs", "putLog", "(LSlideRules$Wide;I)V"⟩, 5), (⟨"SlideRules$PlainScale", "firstFrom", "(I)I"⟩, 2), (⟨"SlideRules$Chain", "multiplyOut", "()V"⟩, 4), (⟨"SlideRules$PairSums", "take", "(IILSlideRules$PlainScale;)V"⟩, 11), (⟨"SlideRules", "aimSettings", "(III)V"⟩, 12), (⟨"SlideRules$Settings", "measure", "([II)V"⟩, 4), (⟨"SlideRules$Settings", "reachBack", "([II)V"⟩, 4), (⟨"SlideRules$Settings", "makeFirst", "()I"⟩, 4), (⟨"SlideRules$Settings", "isNearer", "(II)Z"⟩, 4), (⟨"SlideRules$Match", "weigh", "(II)V"⟩, 2), (⟨"SlideRules$Laws", "doublesFrom", "(I)I"⟩, 1), (⟨"SlideRules", "scalesOnSlide", "()I"⟩, 12), (⟨"SlideRulesModel", "natural", "(JJ[J)V"⟩, 30), (⟨"SlideRulesModel", "isScale", "(I)Z"⟩, 30)]
theorem lw_r1 : ∀ q ∈ lw_privs_1, lw_okq q := List.forall_mem_cons.mpr ⟨lw_p0, List.forall_mem_cons.mpr ⟨lw_p1, List.forall_mem_cons.mpr ⟨lw_p2, List.forall_mem_cons.mpr ⟨lw_p3, List.forall_mem_cons.mpr ⟨lw_p4, List.forall_mem_cons.mpr ⟨lw_p5, List.forall_mem_cons.mpr ⟨lw_p6, List.forall_mem_cons.mpr ⟨lw_p7, List.forall_mem_cons.mpr ⟨lw_p8, List.forall_mem_cons.mpr ⟨lw_p9, List.forall_mem_cons.mpr ⟨lw_p10, List.forall_mem_cons.mpr ⟨lw_p11, List.forall_mem_cons.mpr ⟨lw_p12, List.forall_mem_cons.mpr ⟨lw_p13, List.forall_mem_cons.mpr ⟨lw_p14, List.forall_mem_cons.mpr ⟨lw_p15, fun _ h => absurd h List.not_mem_nil⟩⟩⟩⟩⟩⟩⟩⟩⟩⟩⟩⟩⟩⟩⟩⟩
theorem lw_p16 : lw_okq (⟨"SlideRulesModel", "placeOf", "(II)I"⟩, 30) := ⟨⟨by decide +kernel, by decide +kernel⟩, List.mem_of_getElem? (i := 721) (by decide +kernel), List.mem_of_getElem? (i := 874) (by decide +kernel), List.mem_of_getElem? (i := 875) (by decide +kernel)⟩
theorem lw_p17 : lw_okq (⟨"SlideRulesModel", "nearestOf", "(JJI)I"⟩, 30) := ⟨⟨by decide +kernel, by decide +kernel⟩, List.mem_of_getElem? (i := 721) (by decide +kernel), List.mem_of_getElem? (i := 880) (by decide +kernel), List.mem_of_getElem? (i := 881) (by decide +kernel)⟩
theorem lw_p18 : lw_okq (⟨"SlideRulesModel", "logOf", "(J[J)V"⟩, 30) := ⟨⟨by decide +kernel, by decide +kernel⟩, List.mem_of_getElem? (i := 721) (by decide +kernel), List.mem_of_getElem? (i := 890) (by decide +kernel), List.mem_of_getElem? (i := 891) (by decide +kernel)⟩
theorem lw_p19 : lw_okq (⟨"SlideRulesModel", "marksOf", "(I)I"⟩, 30) := ⟨⟨by decide +kernel, by decide +kernel⟩, List.mem_of_getElem? (i := 721) (by decide +kernel), List.mem_of_getElem? (i := 908) (by decide +kernel), List.mem_of_getElem? (i := 909) (by decide +kernel)⟩
theorem lw_p20 : lw_okq (⟨"SlideRulesModel", "spanMarks", "(I)I"⟩, 30) := ⟨⟨by decide +kernel, by decide +kernel⟩, List.mem_of_getElem? (i := 721) (by decide +kernel), List.mem_of_getElem? (i := 912) (by decide +kernel), List.mem_of_getElem? (i := 913) (by decide +kernel)⟩
theorem lw_p21 : lw_okq (⟨"SlideRulesModel", "markOf", "(II)I"⟩, 30) := ⟨⟨by decide +kernel, by decide +kernel⟩, List.mem_of_getElem? (i := 721) (by decide +kernel), List.mem_of_getElem? (i := 920) (by decide +kernel), List.mem_of_getElem? (i := 921) (by decide +kernel)⟩
theorem lw_p22 : lw_okq (⟨"SlideRulesModel", "plainOf", "(I)I"⟩, 30) := ⟨⟨by decide +kernel, by decide +kernel⟩, List.mem_of_getElem? (i := 721) (by decide +kernel), List.mem_of_getElem? (i := 975) (by decide +kernel), List.mem_of_getElem? (i := 976) (by decide +kernel)⟩
theorem lw_p23 : lw_okq (⟨"SlideRulesModel", "plain", "(I)I"⟩, 30) := ⟨⟨by decide +kernel, by decide +kernel⟩, List.mem_of_getElem? (i := 721) (by decide +kernel), List.mem_of_getElem? (i := 979) (by decide +kernel), List.mem_of_getElem? (i := 980) (by decide +kernel)⟩
theorem lw_p24 : lw_okq (⟨"SlideRulesModel", "reading", "(I)I"⟩, 30) := ⟨⟨by decide +kernel, by decide +kernel⟩, List.mem_of_getElem? (i := 721) (by decide +kernel), List.mem_of_getElem? (i := 983) (by decide +kernel), List.mem_of_getElem? (i := 984) (by decide +kernel)⟩
theorem lw_p25 : lw_okq (⟨"SlideRulesModel", "truth", "()I"⟩, 30) := ⟨⟨by decide +kernel, by decide +kernel⟩, List.mem_of_getElem? (i := 721) (by decide +kernel), List.mem_of_getElem? (i := 987) (by decide +kernel), List.mem_of_getElem? (i := 988) (by decide +kernel)⟩
theorem lw_p26 : lw_okq (⟨"SlideRulesModel", "spreads", "()V"⟩, 30) := ⟨⟨by decide +kernel, by decide +kernel⟩, List.mem_of_getElem? (i := 721) (by decide +kernel), List.mem_of_getElem? (i := 1005) (by decide +kernel), List.mem_of_getElem? (i := 1006) (by decide +kernel)⟩
theorem lw_p27 : lw_okq (⟨"SlideRulesModel", "lets", "(II)Z"⟩, 30) := ⟨⟨by decide +kernel, by decide +kernel⟩, List.mem_of_getElem? (i := 721) (by decide +kernel), List.mem_of_getElem? (i := 1010) (by decide +kernel), List.mem_of_getElem? (i := 1011) (by decide +kernel)⟩
theorem lw_p28 : lw_okq (⟨"SlideRulesModel", "leastTo", "(III)I"⟩, 30) := ⟨⟨by decide +kernel, by decide +kernel⟩, List.mem_of_getElem? (i := 721) (by decide +kernel), List.mem_of_getElem? (i := 1014) (by decide +kernel), List.mem_of_getElem? (i := 1015) (by decide +kernel)⟩
theorem lw_p29 : lw_okq (⟨"SlideRulesModel", "has", "(II)Z"⟩, 30) := ⟨⟨by decide +kernel, by decide +kernel⟩, List.mem_of_getElem? (i := 721) (by decide +kernel), List.mem_of_getElem? (i := 1041) (by decide +kernel), List.mem_of_getElem? (i := 1042) (by decide +kernel)⟩
theorem lw_p30 : lw_okq (⟨"SlideRulesModel", "lawPlace", "(II)I"⟩, 30) := ⟨⟨by decide +kernel, by decide +kernel⟩, List.mem_of_getElem? (i := 721) (by decide +kernel), List.mem_of_getElem? (i := 1050) (by decide +kernel), List.mem_of_getElem? (i := 1051) (by decide +kernel)⟩
def lw_privs_2 : List (MethodName × Nat) := [(⟨"SlideRulesModel", "placeOf", "(II)I"⟩, 30), (⟨"SlideRulesModel", "nearestOf", "(JJI)I"⟩, 30), (⟨"SlideRulesModel", "logOf", "(J[J)V"⟩, 30), (⟨"SlideRulesModel", "marksOf", "(I)I"⟩, 30), (⟨"SlideRulesModel", "spanMarks", "(I)I"⟩, 30), (⟨"SlideRulesModel", "markOf", "(II)I"⟩, 30), (⟨"SlideRulesModel", "plainOf", "(I)I"⟩, 30), (⟨"SlideRulesModel", "plain", "(I)I"⟩, 30), (⟨"SlideRulesModel", "reading", "(I)I"⟩, 30), (⟨"SlideRulesModel", "truth", "()I"⟩, 30), (⟨"SlideRulesModel", "spreads", "()V"⟩, 30), (⟨"SlideRulesModel", "lets", "(II)Z"⟩, 30), (⟨"SlideRulesModel", "leastTo", "(III)I"⟩, 30), (⟨"SlideRulesModel", "has", "(II)Z"⟩, 30), (⟨"SlideRulesModel", "lawPlace", "(II)I"⟩, 30)]
theorem lw_r2 : ∀ q ∈ lw_privs_2, lw_okq q := List.forall_mem_cons.mpr ⟨lw_p16, List.forall_mem_cons.mpr ⟨lw_p17, List.forall_mem_cons.mpr ⟨lw_p18, List.forall_mem_cons.mpr ⟨lw_p19, List.forall_mem_cons.mpr ⟨lw_p20, List.forall_mem_cons.mpr ⟨lw_p21, List.forall_mem_cons.mpr ⟨lw_p22, List.forall_mem_cons.mpr ⟨lw_p23, List.forall_mem_cons.mpr ⟨lw_p24, List.forall_mem_cons.mpr ⟨lw_p25, List.forall_mem_cons.mpr ⟨lw_p26, List.forall_mem_cons.mpr ⟨lw_p27, List.forall_mem_cons.mpr ⟨lw_p28, List.forall_mem_cons.mpr ⟨lw_p29, List.forall_mem_cons.mpr ⟨lw_p30, fun _ h => absurd h List.not_mem_nil⟩⟩⟩⟩⟩⟩⟩⟩⟩⟩⟩⟩⟩⟩⟩
def lw_privs : List (MethodName × Nat) := lw_privs_1 ++ (lw_privs_2)
def lw_tbl : List Cond := k2_sels lw_privs ++ tables_1
theorem lw_privs_ok : ∀ q ∈ lw_privs, lw_okq q := by
  show ∀ q ∈ lw_privs_1 ++ (lw_privs_2), lw_okq q
  exact List.forall_mem_append.mpr ⟨lw_r1, lw_r2⟩
/-! names, from what TURN prints of the program (NAMES.whole), by wip/gen/gen01.py -/
def RX0 : String := "SlideRules$Chain"
def TX0 : u_T := fun k => match k with
  | 0 => ("SlideRules$Chain", "factors", "LSlideRules$Row;", true)
  | 1 => ("SlideRules$Chain", "place", "I", false)
  | 2 => ("SlideRules$Chain", "pulled", "I", false)
  | _ => ("SlideRules$Chain", "limbs", "[J", true)
def tyX0 : Nat → FieldType := fun k => match k with
  | 0 => .object "SlideRules$Row"
  | 1 => .int
  | 2 => .int
  | _ => .array .long
theorem nmX0 : ∀ a, a < 4 → ∀ b, b < 4 → a ≠ b → (TX0 a).2.1 ≠ (TX0 b).2.1 := by decide +kernel
theorem tyX0_ok : ∀ k, k < 4 → parseFieldDescriptor (TX0 k).2.2.1 = some (tyX0 k) := by decide +kernel
abbrev cX0_init : ByteArray := prog_2_method_1_code
def yX0_init : MethodName := ⟨RX0, "<init>", "()V"⟩
abbrev cX0_begin : ByteArray := prog_2_method_2_code
def yX0_begin : MethodName := ⟨RX0, "begin", "()V"⟩
abbrev cX0_move : ByteArray := prog_2_method_3_code
def yX0_move : MethodName := ⟨RX0, "move", "(ILSlideRules$PlainScale;)V"⟩
abbrev cX0_walk : ByteArray := prog_2_method_4_code
def yX0_walk : MethodName := ⟨RX0, "walk", "(LSlideRules$PlainScale;)V"⟩
abbrev cX0_truth : ByteArray := prog_2_method_5_code
def yX0_truth : MethodName := ⟨RX0, "truth", "()I"⟩
abbrev cX0_multiplyOut : ByteArray := prog_2_method_6_code
def yX0_multiplyOut : MethodName := ⟨RX0, "multiplyOut", "()V"⟩
abbrev cX0_firstThree : ByteArray := prog_2_method_7_code
def yX0_firstThree : MethodName := ⟨RX0, "firstThree", "(J)I"⟩
def RX1 : String := "SlideRules$Laws"
def TX1 : u_T := fun k => match k with
  | _ => ("SlideRules$Laws", "places", "[I", true)
def tyX1 : Nat → FieldType := fun k => match k with
  | _ => .array .int
theorem nmX1 : ∀ a, a < 1 → ∀ b, b < 1 → a ≠ b → (TX1 a).2.1 ≠ (TX1 b).2.1 := by decide +kernel
theorem tyX1_ok : ∀ k, k < 1 → parseFieldDescriptor (TX1 k).2.2.1 = some (tyX1 k) := by decide +kernel
abbrev cX1_init : ByteArray := prog_3_method_1_code
def yX1_init : MethodName := ⟨RX1, "<init>", "()V"⟩
abbrev cX1_isLaw : ByteArray := prog_3_method_2_code
def yX1_isLaw : MethodName := ⟨RX1, "isLaw", "(I)Z"⟩
abbrev cX1_numberOf : ByteArray := prog_3_method_3_code
def yX1_numberOf : MethodName := ⟨RX1, "numberOf", "(II)J"⟩
abbrev cX1_inOrder : ByteArray := prog_3_method_4_code
def yX1_inOrder : MethodName := ⟨RX1, "inOrder", "(II)I"⟩
abbrev cX1_placeOf : ByteArray := prog_3_method_5_code
def yX1_placeOf : MethodName := ⟨RX1, "placeOf", "(III)I"⟩
abbrev cX1_doublesOf : ByteArray := prog_3_method_6_code
def yX1_doublesOf : MethodName := ⟨RX1, "doublesOf", "(II)I"⟩
abbrev cX1_doublesFrom : ByteArray := prog_3_method_7_code
def yX1_doublesFrom : MethodName := ⟨RX1, "doublesFrom", "(I)I"⟩
def RX2 : String := "SlideRules$Logs"
def TX2 : u_T := fun k => match k with
  | 0 => ("SlideRules$Logs", "highs", "[J", true)
  | 1 => ("SlideRules$Logs", "lows", "[J", true)
  | 2 => ("SlideRules$Logs", "term", "LSlideRules$Wide;", true)
  | 3 => ("SlideRules$Logs", "top", "LSlideRules$Wide;", true)
  | _ => ("SlideRules$Logs", "bottom", "LSlideRules$Wide;", true)
def tyX2 : Nat → FieldType := fun k => match k with
  | 0 => .array .long
  | 1 => .array .long
  | 2 => .object "SlideRules$Wide"
  | 3 => .object "SlideRules$Wide"
  | _ => .object "SlideRules$Wide"
theorem nmX2 : ∀ a, a < 5 → ∀ b, b < 5 → a ≠ b → (TX2 a).2.1 ≠ (TX2 b).2.1 := by decide +kernel
theorem tyX2_ok : ∀ k, k < 5 → parseFieldDescriptor (TX2 k).2.2.1 = some (tyX2 k) := by decide +kernel
abbrev cX2_init : ByteArray := prog_4_method_1_code
def yX2_init : MethodName := ⟨RX2, "<init>", "()V"⟩
abbrev cX2_addGrowth : ByteArray := prog_4_method_2_code
def yX2_addGrowth : MethodName := ⟨RX2, "addGrowth", "(LSlideRules$Wide;II)V"⟩
abbrev cX2_putLog : ByteArray := prog_4_method_3_code
def yX2_putLog : MethodName := ⟨RX2, "putLog", "(LSlideRules$Wide;I)V"⟩
abbrev cX2_placeOf : ByteArray := prog_4_method_4_code
def yX2_placeOf : MethodName := ⟨RX2, "placeOf", "(IIII)I"⟩
def RX3 : String := "SlideRules$Match"
def TX3 : u_T := fun k => match k with
  | 0 => ("SlideRules$Match", "shift", "I", false)
  | _ => ("SlideRules$Match", "many", "I", false)
def tyX3 : Nat → FieldType := fun k => match k with
  | 0 => .int
  | _ => .int
theorem nmX3 : ∀ a, a < 2 → ∀ b, b < 2 → a ≠ b → (TX3 a).2.1 ≠ (TX3 b).2.1 := by decide +kernel
theorem tyX3_ok : ∀ k, k < 2 → parseFieldDescriptor (TX3 k).2.2.1 = some (tyX3 k) := by decide +kernel
abbrev cX3_init : ByteArray := prog_5_method_1_code
def yX3_init : MethodName := ⟨RX3, "<init>", "()V"⟩
abbrev cX3_find : ByteArray := prog_5_method_2_code
def yX3_find : MethodName := ⟨RX3, "find", "(LSlideRules$Row;LSlideRules$Row;)V"⟩
abbrev cX3_alike : ByteArray := prog_5_method_3_code
def yX3_alike : MethodName := ⟨RX3, "alike", "(LSlideRules$Row;ILSlideRules$Row;I)I"⟩
abbrev cX3_weigh : ByteArray := prog_5_method_4_code
def yX3_weigh : MethodName := ⟨RX3, "weigh", "(II)V"⟩
def RX4 : String := "SlideRules$PairSums"
def TX4 : u_T := fun k => match k with
  | 0 => ("SlideRules$PairSums", "worst", "I", false)
  | 1 => ("SlideRules$PairSums", "worstA", "I", false)
  | 2 => ("SlideRules$PairSums", "worstB", "I", false)
  | 3 => ("SlideRules$PairSums", "sum", "I", false)
  | 4 => ("SlideRules$PairSums", "many", "I", false)
  | 5 => ("SlideRules$PairSums", "pulled", "I", false)
  | 6 => ("SlideRules$PairSums", "from", "I", false)
  | 7 => ("SlideRules$PairSums", "to", "I", false)
  | 8 => ("SlideRules$PairSums", "each", "I", false)
  | 9 => ("SlideRules$PairSums", "steps", "I", false)
  | _ => ("SlideRules$PairSums", "chain", "LSlideRules$Chain;", true)
def tyX4 : Nat → FieldType := fun k => match k with
  | 0 => .int
  | 1 => .int
  | 2 => .int
  | 3 => .int
  | 4 => .int
  | 5 => .int
  | 6 => .int
  | 7 => .int
  | 8 => .int
  | 9 => .int
  | _ => .object "SlideRules$Chain"
theorem nmX4 : ∀ a, a < 11 → ∀ b, b < 11 → a ≠ b → (TX4 a).2.1 ≠ (TX4 b).2.1 := by decide +kernel
theorem tyX4_ok : ∀ k, k < 11 → parseFieldDescriptor (TX4 k).2.2.1 = some (tyX4 k) := by decide +kernel
abbrev cX4_init : ByteArray := prog_6_method_1_code
def yX4_init : MethodName := ⟨RX4, "<init>", "()V"⟩
abbrev cX4_sumUp : ByteArray := prog_6_method_2_code
def yX4_sumUp : MethodName := ⟨RX4, "sumUp", "(IIILSlideRules$PlainScale;)V"⟩
abbrev cX4_take : ByteArray := prog_6_method_3_code
def yX4_take : MethodName := ⟨RX4, "take", "(IILSlideRules$PlainScale;)V"⟩
def RX5 : String := "SlideRules$PlainScale"
def TX5 : u_T := fun k => match k with
  | 0 => ("SlideRules$PlainScale", "steps", "I", false)
  | _ => ("SlideRules$PlainScale", "places", "[I", true)
def tyX5 : Nat → FieldType := fun k => match k with
  | 0 => .int
  | _ => .array .int
theorem nmX5 : ∀ a, a < 2 → ∀ b, b < 2 → a ≠ b → (TX5 a).2.1 ≠ (TX5 b).2.1 := by decide +kernel
theorem tyX5_ok : ∀ k, k < 2 → parseFieldDescriptor (TX5 k).2.2.1 = some (tyX5 k) := by decide +kernel
abbrev cX5_init : ByteArray := prog_7_method_1_code
def yX5_init : MethodName := ⟨RX5, "<init>", "()V"⟩
abbrev cX5_cutFor : ByteArray := prog_7_method_2_code
def yX5_cutFor : MethodName := ⟨RX5, "cutFor", "(ILSlideRules$Logs;)V"⟩
abbrev cX5_placeOf : ByteArray := prog_7_method_3_code
def yX5_placeOf : MethodName := ⟨RX5, "placeOf", "(I)I"⟩
abbrev cX5_firstFrom : ByteArray := prog_7_method_4_code
def yX5_firstFrom : MethodName := ⟨RX5, "firstFrom", "(I)I"⟩
abbrev cX5_readingOf : ByteArray := prog_7_method_5_code
def yX5_readingOf : MethodName := ⟨RX5, "readingOf", "(I)I"⟩
def RX6 : String := "SlideRules$Row"
def TX6 : u_T := fun k => match k with
  | 0 => ("SlideRules$Row", "values", "[I", true)
  | _ => ("SlideRules$Row", "size", "I", false)
def tyX6 : Nat → FieldType := fun k => match k with
  | 0 => .array .int
  | _ => .int
theorem nmX6 : ∀ a, a < 2 → ∀ b, b < 2 → a ≠ b → (TX6 a).2.1 ≠ (TX6 b).2.1 := by decide +kernel
theorem tyX6_ok : ∀ k, k < 2 → parseFieldDescriptor (TX6 k).2.2.1 = some (tyX6 k) := by decide +kernel
abbrev cX6_init : ByteArray := prog_8_method_1_code
def yX6_init : MethodName := ⟨RX6, "<init>", "(I)V"⟩
abbrev cX6_isFull : ByteArray := prog_8_method_2_code
def yX6_isFull : MethodName := ⟨RX6, "isFull", "()Z"⟩
abbrev cX6_append : ByteArray := prog_8_method_3_code
def yX6_append : MethodName := ⟨RX6, "append", "(I)I"⟩
abbrev cX6_empty : ByteArray := prog_8_method_4_code
def yX6_empty : MethodName := ⟨RX6, "empty", "()I"⟩
abbrev cX6_last : ByteArray := prog_8_method_5_code
def yX6_last : MethodName := ⟨RX6, "last", "()I"⟩
abbrev cX6_digestOnto : ByteArray := prog_8_method_6_code
def yX6_digestOnto : MethodName := ⟨RX6, "digestOnto", "(J)J"⟩
def RX7 : String := "SlideRules$Scale"
def TX7 : u_T := fun k => match k with
  | 0 => ("SlideRules$Scale", "onSlide", "Z", true)
  | 1 => ("SlideRules$Scale", "parts", "I", true)
  | 2 => ("SlideRules$Scale", "fold", "I", true)
  | 3 => ("SlideRules$Scale", "turned", "Z", true)
  | 4 => ("SlideRules$Scale", "marks", "LSlideRules$Row;", true)
  | 5 => ("SlideRules$Scale", "spans", "I", false)
  | 6 => ("SlideRules$Scale", "froms", "[I", true)
  | 7 => ("SlideRules$Scale", "tos", "[I", true)
  | 8 => ("SlideRules$Scale", "eachs", "[I", true)
  | 9 => ("SlideRules$Scale", "places", "[I", true)
  | 10 => ("SlideRules$Scale", "placed", "I", false)
  | _ => ("SlideRules$Scale", "placedSteps", "I", false)
def tyX7 : Nat → FieldType := fun k => match k with
  | 0 => .boolean
  | 1 => .int
  | 2 => .int
  | 3 => .boolean
  | 4 => .object "SlideRules$Row"
  | 5 => .int
  | 6 => .array .int
  | 7 => .array .int
  | 8 => .array .int
  | 9 => .array .int
  | 10 => .int
  | _ => .int
theorem nmX7 : ∀ a, a < 12 → ∀ b, b < 12 → a ≠ b → (TX7 a).2.1 ≠ (TX7 b).2.1 := by decide +kernel
theorem tyX7_ok : ∀ k, k < 12 → parseFieldDescriptor (TX7 k).2.2.1 = some (tyX7 k) := by decide +kernel
abbrev cX7_init : ByteArray := prog_9_method_1_code
def yX7_init : MethodName := ⟨RX7, "<init>", "(ZIIZ)V"⟩
abbrev cX7_placeOf : ByteArray := prog_9_method_2_code
def yX7_placeOf : MethodName := ⟨RX7, "placeOf", "(IILSlideRules$Logs;)I"⟩
abbrev cX7_lastTo : ByteArray := prog_9_method_3_code
def yX7_lastTo : MethodName := ⟨RX7, "lastTo", "()I"⟩
abbrev cX7_hasRoomFor : ByteArray := prog_9_method_4_code
def yX7_hasRoomFor : MethodName := ⟨RX7, "hasRoomFor", "(I)Z"⟩
abbrev cX7_addSpan : ByteArray := prog_9_method_5_code
def yX7_addSpan : MethodName := ⟨RX7, "addSpan", "(III)V"⟩
abbrev cX7_numberAt : ByteArray := prog_9_method_6_code
def yX7_numberAt : MethodName := ⟨RX7, "numberAt", "(I)I"⟩
abbrev cX7_placeMarks : ByteArray := prog_9_method_7_code
def yX7_placeMarks : MethodName := ⟨RX7, "placeMarks", "(ILSlideRules$Logs;)V"⟩
abbrev cX7_gapBehind : ByteArray := prog_9_method_8_code
def yX7_gapBehind : MethodName := ⟨RX7, "gapBehind", "(I)I"⟩
abbrev cX7_firstOfClosest : ByteArray := prog_9_method_9_code
def yX7_firstOfClosest : MethodName := ⟨RX7, "firstOfClosest", "()I"⟩
abbrev cX7_nearestTo : ByteArray := prog_9_method_10_code
def yX7_nearestTo : MethodName := ⟨RX7, "nearestTo", "(I)I"⟩
abbrev cX7_readBetween : ByteArray := prog_9_method_11_code
def yX7_readBetween : MethodName := ⟨RX7, "readBetween", "(I)I"⟩
abbrev cX7_digestOnto : ByteArray := prog_9_method_12_code
def yX7_digestOnto : MethodName := ⟨RX7, "digestOnto", "(J)J"⟩
def RX8 : String := "SlideRules$Settings"
def TX8 : u_T := fun k => match k with
  | 0 => ("SlideRules$Settings", "multiplies", "[Z", true)
  | 1 => ("SlideRules$Settings", "divides", "[Z", true)
  | 2 => ("SlideRules$Settings", "away", "[[I", true)
  | _ => ("SlideRules$Settings", "now", "[I", true)
def tyX8 : Nat → FieldType := fun k => match k with
  | 0 => .array .boolean
  | 1 => .array .boolean
  | 2 => .array (.array .int)
  | _ => .array .int
theorem nmX8 : ∀ a, a < 4 → ∀ b, b < 4 → a ≠ b → (TX8 a).2.1 ≠ (TX8 b).2.1 := by decide +kernel
theorem tyX8_ok : ∀ k, k < 4 → parseFieldDescriptor (TX8 k).2.2.1 = some (tyX8 k) := by decide +kernel
abbrev cX8_init : ByteArray := prog_10_method_1_code
def yX8_init : MethodName := ⟨RX8, "<init>", "()V"⟩
abbrev cX8_forgetParts : ByteArray := prog_10_method_2_code
def yX8_forgetParts : MethodName := ⟨RX8, "forgetParts", "()V"⟩
abbrev cX8_allow : ByteArray := prog_10_method_3_code
def yX8_allow : MethodName := ⟨RX8, "allow", "(IZ)V"⟩
abbrev cX8_aimAt : ByteArray := prog_10_method_4_code
def yX8_aimAt : MethodName := ⟨RX8, "aimAt", "(III)V"⟩
abbrev cX8_measure : ByteArray := prog_10_method_5_code
def yX8_measure : MethodName := ⟨RX8, "measure", "([II)V"⟩
abbrev cX8_reachBack : ByteArray := prog_10_method_6_code
def yX8_reachBack : MethodName := ⟨RX8, "reachBack", "([II)V"⟩
abbrev cX8_fewestToGoal : ByteArray := prog_10_method_7_code
def yX8_fewestToGoal : MethodName := ⟨RX8, "fewestToGoal", "()I"⟩
abbrev cX8_codeAt : ByteArray := prog_10_method_8_code
def yX8_codeAt : MethodName := ⟨RX8, "codeAt", "(I)I"⟩
abbrev cX8_makeFirst : ByteArray := prog_10_method_9_code
def yX8_makeFirst : MethodName := ⟨RX8, "makeFirst", "()I"⟩
abbrev cX8_isNearer : ByteArray := prog_10_method_10_code
def yX8_isNearer : MethodName := ⟨RX8, "isNearer", "(II)Z"⟩
def RX9 : String := "SlideRules$Strip"
def TX9 : u_T := fun k => match k with
  | _ => ("SlideRules$Strip", "places", "LSlideRules$Row;", true)
def tyX9 : Nat → FieldType := fun k => match k with
  | _ => .object "SlideRules$Row"
theorem nmX9 : ∀ a, a < 1 → ∀ b, b < 1 → a ≠ b → (TX9 a).2.1 ≠ (TX9 b).2.1 := by decide +kernel
theorem tyX9_ok : ∀ k, k < 1 → parseFieldDescriptor (TX9 k).2.2.1 = some (tyX9 k) := by decide +kernel
abbrev cX9_init : ByteArray := prog_11_method_1_code
def yX9_init : MethodName := ⟨RX9, "<init>", "()V"⟩
abbrev cX9_choose : ByteArray := prog_11_method_2_code
def yX9_choose : MethodName := ⟨RX9, "choose", "(II)I"⟩
def RX10 : String := "SlideRules$Wide"
def TX10 : u_T := fun k => match k with
  | 0 => ("SlideRules$Wide", "high", "J", false)
  | _ => ("SlideRules$Wide", "low", "J", false)
def tyX10 : Nat → FieldType := fun k => match k with
  | 0 => .long
  | _ => .long
theorem nmX10 : ∀ a, a < 2 → ∀ b, b < 2 → a ≠ b → (TX10 a).2.1 ≠ (TX10 b).2.1 := by decide +kernel
theorem tyX10_ok : ∀ k, k < 2 → parseFieldDescriptor (TX10 k).2.2.1 = some (tyX10 k) := by decide +kernel
abbrev cX10_init : ByteArray := prog_12_method_1_code
def yX10_init : MethodName := ⟨RX10, "<init>", "()V"⟩
abbrev cX10_put : ByteArray := prog_12_method_2_code
def yX10_put : MethodName := ⟨RX10, "put", "(JJ)V"⟩
abbrev cX10_addPart : ByteArray := prog_12_method_3_code
def yX10_addPart : MethodName := ⟨RX10, "addPart", "(LSlideRules$Wide;I)V"⟩
abbrev cX10_subtract : ByteArray := prog_12_method_4_code
def yX10_subtract : MethodName := ⟨RX10, "subtract", "(LSlideRules$Wide;)V"⟩
abbrev cX10_shrink : ByteArray := prog_12_method_5_code
def yX10_shrink : MethodName := ⟨RX10, "shrink", "(II)V"⟩
abbrev cX10_isZero : ByteArray := prog_12_method_6_code
def yX10_isZero : MethodName := ⟨RX10, "isZero", "()Z"⟩
abbrev cX10_floorTimes : ByteArray := prog_12_method_7_code
def yX10_floorTimes : MethodName := ⟨RX10, "floorTimes", "(I)J"⟩
def RX11 : String := "SlideRules"
def TX11 : u_T := fun k => match k with
  | 0 => ("SlideRules", "logs", "LSlideRules$Logs;", true)
  | 1 => ("SlideRules", "plain", "LSlideRules$PlainScale;", true)
  | 2 => ("SlideRules", "scales", "[LSlideRules$Scale;", true)
  | 3 => ("SlideRules", "chain", "LSlideRules$Chain;", true)
  | 4 => ("SlideRules", "sums", "LSlideRules$PairSums;", true)
  | 5 => ("SlideRules", "settings", "LSlideRules$Settings;", true)
  | 6 => ("SlideRules", "strips", "[LSlideRules$Strip;", true)
  | 7 => ("SlideRules", "match", "LSlideRules$Match;", true)
  | 8 => ("SlideRules", "laws", "LSlideRules$Laws;", true)
  | 9 => ("SlideRules", "scaleCount", "I", false)
  | 10 => ("SlideRules", "steps", "I", false)
  | _ => ("SlideRules", "off", "I", false)
def tyX11 : Nat → FieldType := fun k => match k with
  | 0 => .object "SlideRules$Logs"
  | 1 => .object "SlideRules$PlainScale"
  | 2 => .array (.object "SlideRules$Scale")
  | 3 => .object "SlideRules$Chain"
  | 4 => .object "SlideRules$PairSums"
  | 5 => .object "SlideRules$Settings"
  | 6 => .array (.object "SlideRules$Strip")
  | 7 => .object "SlideRules$Match"
  | 8 => .object "SlideRules$Laws"
  | 9 => .int
  | 10 => .int
  | _ => .int
theorem nmX11 : ∀ a, a < 12 → ∀ b, b < 12 → a ≠ b → (TX11 a).2.1 ≠ (TX11 b).2.1 := by decide +kernel
theorem tyX11_ok : ∀ k, k < 12 → parseFieldDescriptor (TX11 k).2.2.1 = some (tyX11 k) := by decide +kernel
abbrev cX11_init : ByteArray := prog_1_method_1_code
def yX11_init : MethodName := ⟨RX11, "<init>", "()V"⟩
abbrev cX11_rule : ByteArray := prog_1_method_2_code
def yX11_rule : MethodName := ⟨RX11, "rule", "(I)I"⟩
abbrev cX11_scale : ByteArray := prog_1_method_3_code
def yX11_scale : MethodName := ⟨RX11, "scale", "(ZIIZ)I"⟩
abbrev cX11_place : ByteArray := prog_1_method_4_code
def yX11_place : MethodName := ⟨RX11, "place", "(II)I"⟩
abbrev cX11_span : ByteArray := prog_1_method_5_code
def yX11_span : MethodName := ⟨RX11, "span", "(IIII)I"⟩
abbrev cX11_mark : ByteArray := prog_1_method_6_code
def yX11_mark : MethodName := ⟨RX11, "mark", "(II)I"⟩
abbrev cX11_marks : ByteArray := prog_1_method_7_code
def yX11_marks : MethodName := ⟨RX11, "marks", "(I)I"⟩
abbrev cX11_closest : ByteArray := prog_1_method_8_code
def yX11_closest : MethodName := ⟨RX11, "closest", "(II)I"⟩
abbrev cX11_off : ByteArray := prog_1_method_9_code
def yX11_off : MethodName := ⟨RX11, "off", "(I)I"⟩
abbrev cX11_set : ByteArray := prog_1_method_10_code
def yX11_set : MethodName := ⟨RX11, "set", "(IIII)I"⟩
abbrev cX11_against : ByteArray := prog_1_method_11_code
def yX11_against : MethodName := ⟨RX11, "against", "(III)I"⟩
abbrev cX11_nearest : ByteArray := prog_1_method_12_code
def yX11_nearest : MethodName := ⟨RX11, "nearest", "(II)I"⟩
abbrev cX11_between : ByteArray := prog_1_method_13_code
def yX11_between : MethodName := ⟨RX11, "between", "(II)I"⟩
abbrev cX11_factor : ByteArray := prog_1_method_14_code
def yX11_factor : MethodName := ⟨RX11, "factor", "(I)I"⟩
abbrev cX11_clear : ByteArray := prog_1_method_15_code
def yX11_clear : MethodName := ⟨RX11, "clear", "()I"⟩
abbrev cX11_chain : ByteArray := prog_1_method_16_code
def yX11_chain : MethodName := ⟨RX11, "chain", "(I)I"⟩
abbrev cX11_pairs : ByteArray := prog_1_method_17_code
def yX11_pairs : MethodName := ⟨RX11, "pairs", "(IIII)I"⟩
abbrev cX11_fewest : ByteArray := prog_1_method_18_code
def yX11_fewest : MethodName := ⟨RX11, "fewest", "(III)I"⟩
abbrev cX11_setting : ByteArray := prog_1_method_19_code
def yX11_setting : MethodName := ⟨RX11, "setting", "(IIII)I"⟩
abbrev cX11_cut : ByteArray := prog_1_method_20_code
def yX11_cut : MethodName := ⟨RX11, "cut", "(II)I"⟩
abbrev cX11_wipe : ByteArray := prog_1_method_21_code
def yX11_wipe : MethodName := ⟨RX11, "wipe", "(I)I"⟩
abbrev cX11_chosen : ByteArray := prog_1_method_22_code
def yX11_chosen : MethodName := ⟨RX11, "chosen", "(III)I"⟩
abbrev cX11_match : ByteArray := prog_1_method_23_code
def yX11_match : MethodName := ⟨RX11, "match", "(I)I"⟩
abbrev cX11_law : ByteArray := prog_1_method_24_code
def yX11_law : MethodName := ⟨RX11, "law", "(II)I"⟩
abbrev cX11_doubled : ByteArray := prog_1_method_25_code
def yX11_doubled : MethodName := ⟨RX11, "doubled", "(I)I"⟩
abbrev cX11_count : ByteArray := prog_1_method_26_code
def yX11_count : MethodName := ⟨RX11, "count", "(I)I"⟩
abbrev cX11_digest : ByteArray := prog_1_method_27_code
def yX11_digest : MethodName := ⟨RX11, "digest", "()J"⟩
abbrev cX11_scaleAt : ByteArray := prog_1_method_28_code
def yX11_scaleAt : MethodName := ⟨RX11, "scaleAt", "(I)LSlideRules$Scale;"⟩
abbrev cX11_isNumber : ByteArray := prog_1_method_29_code
def yX11_isNumber : MethodName := ⟨RX11, "isNumber", "(I)Z"⟩
abbrev cX11_isFactor : ByteArray := prog_1_method_30_code
def yX11_isFactor : MethodName := ⟨RX11, "isFactor", "(I)Z"⟩
abbrev cX11_isAskedPlace : ByteArray := prog_1_method_31_code
def yX11_isAskedPlace : MethodName := ⟨RX11, "isAskedPlace", "(I)Z"⟩
abbrev cX11_isPower : ByteArray := prog_1_method_32_code
def yX11_isPower : MethodName := ⟨RX11, "isPower", "(I)Z"⟩
abbrev cX11_isStrip : ByteArray := prog_1_method_33_code
def yX11_isStrip : MethodName := ⟨RX11, "isStrip", "(I)Z"⟩
abbrev cX11_scalesOnSlide : ByteArray := prog_1_method_34_code
def yX11_scalesOnSlide : MethodName := ⟨RX11, "scalesOnSlide", "()I"⟩
abbrev cX11_aimSettings : ByteArray := prog_1_method_35_code
def yX11_aimSettings : MethodName := ⟨RX11, "aimSettings", "(III)V"⟩
def RX12 : String := "SlideRulesModel"
def TX12 : u_T := fun k => match k with
  | 0 => ("SlideRulesModel", "length", "I", false)
  | 1 => ("SlideRulesModel", "scales", "I", false)
  | 2 => ("SlideRulesModel", "isSlide", "[Z", true)
  | 3 => ("SlideRulesModel", "parts", "[I", true)
  | 4 => ("SlideRulesModel", "fold", "[I", true)
  | 5 => ("SlideRulesModel", "isTurned", "[Z", true)
  | 6 => ("SlideRulesModel", "spans", "[I", true)
  | 7 => ("SlideRulesModel", "spanFrom", "[I", true)
  | 8 => ("SlideRulesModel", "spanTo", "[I", true)
  | 9 => ("SlideRulesModel", "spanBy", "[I", true)
  | 10 => ("SlideRulesModel", "off", "I", false)
  | 11 => ("SlideRulesModel", "factors", "I", false)
  | 12 => ("SlideRulesModel", "factor", "[I", true)
  | 13 => ("SlideRulesModel", "strips", "[I", true)
  | 14 => ("SlideRulesModel", "strip", "[I", true)
  | 15 => ("SlideRulesModel", "two", "[J", true)
  | 16 => ("SlideRulesModel", "ten", "[J", true)
  | 17 => ("SlideRulesModel", "term", "[J", true)
  | 18 => ("SlideRulesModel", "share", "[J", true)
  | 19 => ("SlideRulesModel", "one", "[J", true)
  | 20 => ("SlideRulesModel", "other", "[J", true)
  | 21 => ("SlideRulesModel", "left", "[J", true)
  | 22 => ("SlideRulesModel", "right", "[J", true)
  | 23 => ("SlideRulesModel", "found", "[I", true)
  | 24 => ("SlideRulesModel", "foundFor", "I", false)
  | 25 => ("SlideRulesModel", "plains", "[I", true)
  | 26 => ("SlideRulesModel", "plainsFor", "I", false)
  | 27 => ("SlideRulesModel", "figures", "[I", true)
  | 28 => ("SlideRulesModel", "least", "[I", true)
  | _ => ("SlideRulesModel", "laid", "[I", true)
def tyX12 : Nat → FieldType := fun k => match k with
  | 0 => .int
  | 1 => .int
  | 2 => .array .boolean
  | 3 => .array .int
  | 4 => .array .int
  | 5 => .array .boolean
  | 6 => .array .int
  | 7 => .array .int
  | 8 => .array .int
  | 9 => .array .int
  | 10 => .int
  | 11 => .int
  | 12 => .array .int
  | 13 => .array .int
  | 14 => .array .int
  | 15 => .array .long
  | 16 => .array .long
  | 17 => .array .long
  | 18 => .array .long
  | 19 => .array .long
  | 20 => .array .long
  | 21 => .array .long
  | 22 => .array .long
  | 23 => .array .int
  | 24 => .int
  | 25 => .array .int
  | 26 => .int
  | 27 => .array .int
  | 28 => .array .int
  | _ => .array .int
theorem nmX12 : ∀ a, a < 30 → ∀ b, b < 30 → a ≠ b → (TX12 a).2.1 ≠ (TX12 b).2.1 := by decide +kernel
theorem tyX12_ok : ∀ k, k < 30 → parseFieldDescriptor (TX12 k).2.2.1 = some (tyX12 k) := by decide +kernel
abbrev cX12_init : ByteArray := prog_14_method_1_code
def yX12_init : MethodName := ⟨RX12, "<init>", "()V"⟩
abbrev cX12_in : ByteArray := prog_14_method_2_code
def yX12_in : MethodName := ⟨RX12, "in", "(JJJ)Z"⟩
abbrev cX12_sets : ByteArray := prog_14_method_3_code
def yX12_sets : MethodName := ⟨RX12, "sets", "([JJ)V"⟩
abbrev cX12_copies : ByteArray := prog_14_method_4_code
def yX12_copies : MethodName := ⟨RX12, "copies", "([J[J)V"⟩
abbrev cX12_adds : ByteArray := prog_14_method_5_code
def yX12_adds : MethodName := ⟨RX12, "adds", "([J[J)V"⟩
abbrev cX12_takes : ByteArray := prog_14_method_6_code
def yX12_takes : MethodName := ⟨RX12, "takes", "([J[J)V"⟩
abbrev cX12_times : ByteArray := prog_14_method_7_code
def yX12_times : MethodName := ⟨RX12, "times", "([JJ)V"⟩
abbrev cX12_divides : ByteArray := prog_14_method_8_code
def yX12_divides : MethodName := ⟨RX12, "divides", "([JJ)V"⟩
abbrev cX12_isNought : ByteArray := prog_14_method_9_code
def yX12_isNought : MethodName := ⟨RX12, "isNought", "([J)Z"⟩
abbrev cX12_isLess : ByteArray := prog_14_method_10_code
def yX12_isLess : MethodName := ⟨RX12, "isLess", "([J[J)Z"⟩
abbrev cX12_natural : ByteArray := prog_14_method_11_code
def yX12_natural : MethodName := ⟨RX12, "natural", "(JJ[J)V"⟩
abbrev cX12_logOf : ByteArray := prog_14_method_12_code
def yX12_logOf : MethodName := ⟨RX12, "logOf", "(J[J)V"⟩
abbrev cX12_down : ByteArray := prog_14_method_13_code
def yX12_down : MethodName := ⟨RX12, "down", "(JJ)J"⟩
abbrev cX12_tens : ByteArray := prog_14_method_14_code
def yX12_tens : MethodName := ⟨RX12, "tens", "(JJ)I"⟩
abbrev cX12_nearestOf : ByteArray := prog_14_method_15_code
def yX12_nearestOf : MethodName := ⟨RX12, "nearestOf", "(JJI)I"⟩
abbrev cX12_plain : ByteArray := prog_14_method_16_code
def yX12_plain : MethodName := ⟨RX12, "plain", "(I)I"⟩
abbrev cX12_placeOf : ByteArray := prog_14_method_17_code
def yX12_placeOf : MethodName := ⟨RX12, "placeOf", "(II)I"⟩
abbrev cX12_isScale : ByteArray := prog_14_method_18_code
def yX12_isScale : MethodName := ⟨RX12, "isScale", "(I)Z"⟩
abbrev cX12_isNumber : ByteArray := prog_14_method_19_code
def yX12_isNumber : MethodName := ⟨RX12, "isNumber", "(I)Z"⟩
abbrev cX12_rule : ByteArray := prog_14_method_20_code
def yX12_rule : MethodName := ⟨RX12, "rule", "(I)I"⟩
abbrev cX12_scale : ByteArray := prog_14_method_21_code
def yX12_scale : MethodName := ⟨RX12, "scale", "(ZIIZ)I"⟩
abbrev cX12_place : ByteArray := prog_14_method_22_code
def yX12_place : MethodName := ⟨RX12, "place", "(II)I"⟩
abbrev cX12_spanMarks : ByteArray := prog_14_method_23_code
def yX12_spanMarks : MethodName := ⟨RX12, "spanMarks", "(I)I"⟩
abbrev cX12_marksOf : ByteArray := prog_14_method_24_code
def yX12_marksOf : MethodName := ⟨RX12, "marksOf", "(I)I"⟩
abbrev cX12_markOf : ByteArray := prog_14_method_25_code
def yX12_markOf : MethodName := ⟨RX12, "markOf", "(II)I"⟩
abbrev cX12_span : ByteArray := prog_14_method_26_code
def yX12_span : MethodName := ⟨RX12, "span", "(IIII)I"⟩
abbrev cX12_mark : ByteArray := prog_14_method_27_code
def yX12_mark : MethodName := ⟨RX12, "mark", "(II)I"⟩
abbrev cX12_marks : ByteArray := prog_14_method_28_code
def yX12_marks : MethodName := ⟨RX12, "marks", "(I)I"⟩
abbrev cX12_size : ByteArray := prog_14_method_29_code
def yX12_size : MethodName := ⟨RX12, "size", "(I)I"⟩
abbrev cX12_closest : ByteArray := prog_14_method_30_code
def yX12_closest : MethodName := ⟨RX12, "closest", "(II)I"⟩
abbrev cX12_off : ByteArray := prog_14_method_31_code
def yX12_off : MethodName := ⟨RX12, "off", "(I)I"⟩
abbrev cX12_set : ByteArray := prog_14_method_32_code
def yX12_set : MethodName := ⟨RX12, "set", "(IIII)I"⟩
abbrev cX12_against : ByteArray := prog_14_method_33_code
def yX12_against : MethodName := ⟨RX12, "against", "(III)I"⟩
abbrev cX12_isPlace : ByteArray := prog_14_method_34_code
def yX12_isPlace : MethodName := ⟨RX12, "isPlace", "(I)Z"⟩
abbrev cX12_nearest : ByteArray := prog_14_method_35_code
def yX12_nearest : MethodName := ⟨RX12, "nearest", "(II)I"⟩
abbrev cX12_between : ByteArray := prog_14_method_36_code
def yX12_between : MethodName := ⟨RX12, "between", "(II)I"⟩
abbrev cX12_factor : ByteArray := prog_14_method_37_code
def yX12_factor : MethodName := ⟨RX12, "factor", "(I)I"⟩
abbrev cX12_clear : ByteArray := prog_14_method_38_code
def yX12_clear : MethodName := ⟨RX12, "clear", "()I"⟩
abbrev cX12_plainOf : ByteArray := prog_14_method_39_code
def yX12_plainOf : MethodName := ⟨RX12, "plainOf", "(I)I"⟩
abbrev cX12_reading : ByteArray := prog_14_method_40_code
def yX12_reading : MethodName := ⟨RX12, "reading", "(I)I"⟩
abbrev cX12_truth : ByteArray := prog_14_method_41_code
def yX12_truth : MethodName := ⟨RX12, "truth", "()I"⟩
abbrev cX12_chain : ByteArray := prog_14_method_42_code
def yX12_chain : MethodName := ⟨RX12, "chain", "(I)I"⟩
abbrev cX12_pairs : ByteArray := prog_14_method_43_code
def yX12_pairs : MethodName := ⟨RX12, "pairs", "(IIII)I"⟩
abbrev cX12_lets : ByteArray := prog_14_method_44_code
def yX12_lets : MethodName := ⟨RX12, "lets", "(II)Z"⟩
abbrev cX12_spreads : ByteArray := prog_14_method_45_code
def yX12_spreads : MethodName := ⟨RX12, "spreads", "()V"⟩
abbrev cX12_isPower : ByteArray := prog_14_method_46_code
def yX12_isPower : MethodName := ⟨RX12, "isPower", "(I)Z"⟩
abbrev cX12_leastTo : ByteArray := prog_14_method_47_code
def yX12_leastTo : MethodName := ⟨RX12, "leastTo", "(III)I"⟩
abbrev cX12_fewest : ByteArray := prog_14_method_48_code
def yX12_fewest : MethodName := ⟨RX12, "fewest", "(III)I"⟩
abbrev cX12_setting : ByteArray := prog_14_method_49_code
def yX12_setting : MethodName := ⟨RX12, "setting", "(IIII)I"⟩
abbrev cX12_isStrip : ByteArray := prog_14_method_50_code
def yX12_isStrip : MethodName := ⟨RX12, "isStrip", "(I)Z"⟩
abbrev cX12_cut : ByteArray := prog_14_method_51_code
def yX12_cut : MethodName := ⟨RX12, "cut", "(II)I"⟩
abbrev cX12_wipe : ByteArray := prog_14_method_52_code
def yX12_wipe : MethodName := ⟨RX12, "wipe", "(I)I"⟩
abbrev cX12_chosen : ByteArray := prog_14_method_53_code
def yX12_chosen : MethodName := ⟨RX12, "chosen", "(III)I"⟩
abbrev cX12_has : ByteArray := prog_14_method_54_code
def yX12_has : MethodName := ⟨RX12, "has", "(II)Z"⟩
abbrev cX12_match : ByteArray := prog_14_method_55_code
def yX12_match : MethodName := ⟨RX12, "match", "(I)I"⟩
abbrev cX12_numberOf : ByteArray := prog_14_method_56_code
def yX12_numberOf : MethodName := ⟨RX12, "numberOf", "(II)J"⟩
abbrev cX12_lawPlace : ByteArray := prog_14_method_57_code
def yX12_lawPlace : MethodName := ⟨RX12, "lawPlace", "(II)I"⟩
abbrev cX12_law : ByteArray := prog_14_method_58_code
def yX12_law : MethodName := ⟨RX12, "law", "(II)I"⟩
abbrev cX12_doubled : ByteArray := prog_14_method_59_code
def yX12_doubled : MethodName := ⟨RX12, "doubled", "(I)I"⟩
abbrev cX12_count : ByteArray := prog_14_method_60_code
def yX12_count : MethodName := ⟨RX12, "count", "(I)I"⟩
abbrev cX12_digest : ByteArray := prog_14_method_61_code
def yX12_digest : MethodName := ⟨RX12, "digest", "()J"⟩
def RJ9 : String := "java/lang/Math"
def TJ9 : u_T := fun k => match k with
  | _ => ("", "", "", false)
def tyJ9 : Nat → FieldType := fun k => match k with
  | _ => .int
abbrev cJ9_floorDiv_f86c9 : ByteArray := prog_15_method_49_code
def yJ9_floorDiv_f86c9 : MethodName := ⟨RJ9, "floorDiv", "(JJ)J"⟩
abbrev cJ9_abs_0f7a4 : ByteArray := prog_15_method_59_code
def yJ9_abs_0f7a4 : MethodName := ⟨RJ9, "abs", "(I)I"⟩
abbrev cJ9_max_7cf53 : ByteArray := prog_15_method_65_code
def yJ9_max_7cf53 : MethodName := ⟨RJ9, "max", "(II)I"⟩
abbrev cJ9_min_7cf53 : ByteArray := prog_15_method_69_code
def yJ9_min_7cf53 : MethodName := ⟨RJ9, "min", "(II)I"⟩
def RL : String := "SlideRulesLaw"
abbrev cL_law : ByteArray := code
def yL_law : MethodName := ⟨RL, "law", "([I)Z"⟩
abbrev vwCl : List vw_C := [(RX0, TX0, 4), (RX1, TX1, 1), (RX2, TX2, 5), (RX3, TX3, 2), (RX4, TX4, 11), (RX5, TX5, 2), (RX6, TX6, 2), (RX7, TX7, 12), (RX8, TX8, 4), (RX9, TX9, 1), (RX10, TX10, 2), (RX11, TX11, 12), (RX12, TX12, 30)]
/-! the words that every method here is given -/
def zT : List Cond := lw_tbl.filter goodWord
theorem zin {w : Cond} (i : Nat) (h : lw_tbl[i]? = some w) (hg : goodWord w = true) : w ∈ zT := List.mem_filter.mpr ⟨List.mem_of_getElem? h, hg⟩
theorem zT_good : ∀ w ∈ zT, (w.onTables && w.keeps) = true ∨ ∃ ty, w = .arrayClass ty := fun _ h => good_of_word (List.mem_filter.mp h).2
def zsub : List Cond → List Cond → Bool
  | [], _ => true
  | _ :: _, [] => false
  | w :: ws, v :: vs => if w = v then goodWord w && zsub ws vs else zsub (w :: ws) vs
theorem zsub_mem : ∀ (vs ws : List Cond), zsub ws vs = true → ∀ w ∈ ws, w ∈ vs ∧ goodWord w = true
  | _, [], _, w, hw => absurd hw List.not_mem_nil
  | [], _ :: _, h, _, _ => by simp [zsub] at h
  | v :: vs, a :: ws, h, w, hw => by
    unfold zsub at h
    by_cases e : a = v
    · rw [if_pos e, Bool.and_eq_true] at h
      rcases List.mem_cons.mp hw with rfl | hw
      · exact ⟨by rw [e]; exact List.mem_cons_self, h.1⟩
      · have := zsub_mem vs ws h.2 w hw
        exact ⟨List.mem_cons_of_mem _ this.1, this.2⟩
    · rw [if_neg e] at h
      have := zsub_mem vs (a :: ws) h w hw
      exact ⟨List.mem_cons_of_mem _ this.1, this.2⟩
theorem zsub_in {ws : List Cond} (n : Nat) (h : zsub ws (lw_tbl.drop n) = true) : ∀ w ∈ ws, w ∈ zT := fun w hw => by
  have := zsub_mem _ _ h w hw
  exact List.mem_filter.mpr ⟨List.mem_of_mem_drop this.1, this.2⟩
def zwl_0 : List Cond := [Cond.selects "SlideRules$Logs" (⟨"SlideRules$Logs", "addGrowth", "(LSlideRules$Wide;II)V"⟩ : MethodName) (⟨"SlideRules$Logs", "addGrowth", "(LSlideRules$Wide;II)V"⟩ : MethodName),
  Cond.selects "SlideRules" (⟨"SlideRules", "scaleAt", "(I)LSlideRules$Scale;"⟩ : MethodName) (⟨"SlideRules", "scaleAt", "(I)LSlideRules$Scale;"⟩ : MethodName),
  Cond.selects "SlideRules$Logs" (⟨"SlideRules$Logs", "putLog", "(LSlideRules$Wide;I)V"⟩ : MethodName) (⟨"SlideRules$Logs", "putLog", "(LSlideRules$Wide;I)V"⟩ : MethodName),
  Cond.selects "SlideRules$PlainScale" (⟨"SlideRules$PlainScale", "firstFrom", "(I)I"⟩ : MethodName) (⟨"SlideRules$PlainScale", "firstFrom", "(I)I"⟩ : MethodName),
  Cond.selects "SlideRules$Chain" (⟨"SlideRules$Chain", "multiplyOut", "()V"⟩ : MethodName) (⟨"SlideRules$Chain", "multiplyOut", "()V"⟩ : MethodName),
  Cond.selects "SlideRules$PairSums" (⟨"SlideRules$PairSums", "take", "(IILSlideRules$PlainScale;)V"⟩ : MethodName) (⟨"SlideRules$PairSums", "take", "(IILSlideRules$PlainScale;)V"⟩ : MethodName),
  Cond.selects "SlideRules" (⟨"SlideRules", "aimSettings", "(III)V"⟩ : MethodName) (⟨"SlideRules", "aimSettings", "(III)V"⟩ : MethodName),
  Cond.selects "SlideRules$Settings" (⟨"SlideRules$Settings", "measure", "([II)V"⟩ : MethodName) (⟨"SlideRules$Settings", "measure", "([II)V"⟩ : MethodName),
  Cond.selects "SlideRules$Settings" (⟨"SlideRules$Settings", "reachBack", "([II)V"⟩ : MethodName) (⟨"SlideRules$Settings", "reachBack", "([II)V"⟩ : MethodName),
  Cond.selects "SlideRules$Settings" (⟨"SlideRules$Settings", "makeFirst", "()I"⟩ : MethodName) (⟨"SlideRules$Settings", "makeFirst", "()I"⟩ : MethodName),
  Cond.selects "SlideRules$Settings" (⟨"SlideRules$Settings", "isNearer", "(II)Z"⟩ : MethodName) (⟨"SlideRules$Settings", "isNearer", "(II)Z"⟩ : MethodName),
  Cond.selects "SlideRules$Match" (⟨"SlideRules$Match", "weigh", "(II)V"⟩ : MethodName) (⟨"SlideRules$Match", "weigh", "(II)V"⟩ : MethodName),
  Cond.selects "SlideRules$Laws" (⟨"SlideRules$Laws", "doublesFrom", "(I)I"⟩ : MethodName) (⟨"SlideRules$Laws", "doublesFrom", "(I)I"⟩ : MethodName),
  Cond.selects "SlideRules" (⟨"SlideRules", "scalesOnSlide", "()I"⟩ : MethodName) (⟨"SlideRules", "scalesOnSlide", "()I"⟩ : MethodName),
  Cond.selects "SlideRulesModel" (⟨"SlideRulesModel", "natural", "(JJ[J)V"⟩ : MethodName) (⟨"SlideRulesModel", "natural", "(JJ[J)V"⟩ : MethodName),
  Cond.selects "SlideRulesModel" (⟨"SlideRulesModel", "isScale", "(I)Z"⟩ : MethodName) (⟨"SlideRulesModel", "isScale", "(I)Z"⟩ : MethodName),
  Cond.selects "SlideRulesModel" (⟨"SlideRulesModel", "placeOf", "(II)I"⟩ : MethodName) (⟨"SlideRulesModel", "placeOf", "(II)I"⟩ : MethodName),
  Cond.selects "SlideRulesModel" (⟨"SlideRulesModel", "nearestOf", "(JJI)I"⟩ : MethodName) (⟨"SlideRulesModel", "nearestOf", "(JJI)I"⟩ : MethodName),
  Cond.selects "SlideRulesModel" (⟨"SlideRulesModel", "logOf", "(J[J)V"⟩ : MethodName) (⟨"SlideRulesModel", "logOf", "(J[J)V"⟩ : MethodName),
  Cond.selects "SlideRulesModel" (⟨"SlideRulesModel", "marksOf", "(I)I"⟩ : MethodName) (⟨"SlideRulesModel", "marksOf", "(I)I"⟩ : MethodName),
  Cond.selects "SlideRulesModel" (⟨"SlideRulesModel", "spanMarks", "(I)I"⟩ : MethodName) (⟨"SlideRulesModel", "spanMarks", "(I)I"⟩ : MethodName),
  Cond.selects "SlideRulesModel" (⟨"SlideRulesModel", "markOf", "(II)I"⟩ : MethodName) (⟨"SlideRulesModel", "markOf", "(II)I"⟩ : MethodName),
  Cond.selects "SlideRulesModel" (⟨"SlideRulesModel", "plainOf", "(I)I"⟩ : MethodName) (⟨"SlideRulesModel", "plainOf", "(I)I"⟩ : MethodName),
  Cond.selects "SlideRulesModel" (⟨"SlideRulesModel", "plain", "(I)I"⟩ : MethodName) (⟨"SlideRulesModel", "plain", "(I)I"⟩ : MethodName),
  Cond.selects "SlideRulesModel" (⟨"SlideRulesModel", "reading", "(I)I"⟩ : MethodName) (⟨"SlideRulesModel", "reading", "(I)I"⟩ : MethodName),
  Cond.selects "SlideRulesModel" (⟨"SlideRulesModel", "truth", "()I"⟩ : MethodName) (⟨"SlideRulesModel", "truth", "()I"⟩ : MethodName),
  Cond.selects "SlideRulesModel" (⟨"SlideRulesModel", "spreads", "()V"⟩ : MethodName) (⟨"SlideRulesModel", "spreads", "()V"⟩ : MethodName),
  Cond.selects "SlideRulesModel" (⟨"SlideRulesModel", "lets", "(II)Z"⟩ : MethodName) (⟨"SlideRulesModel", "lets", "(II)Z"⟩ : MethodName),
  Cond.selects "SlideRulesModel" (⟨"SlideRulesModel", "leastTo", "(III)I"⟩ : MethodName) (⟨"SlideRulesModel", "leastTo", "(III)I"⟩ : MethodName),
  Cond.selects "SlideRulesModel" (⟨"SlideRulesModel", "has", "(II)Z"⟩ : MethodName) (⟨"SlideRulesModel", "has", "(II)Z"⟩ : MethodName),
  Cond.selects "SlideRulesModel" (⟨"SlideRulesModel", "lawPlace", "(II)I"⟩ : MethodName) (⟨"SlideRulesModel", "lawPlace", "(II)I"⟩ : MethodName),
  Cond.initialized "SlideRulesLaw",
  Cond.initialized "SlideRules",
  Cond.initialized "SlideRules$Logs",
  Cond.initialized "SlideRules$Wide",
  Cond.initialized "SlideRules$PlainScale",
  Cond.initialized "SlideRules$Chain",
  Cond.initialized "SlideRules$Row",
  Cond.initialized "java/lang/Math",
  Cond.initialized "SlideRules$PairSums"]
theorem zwm_0 : ∀ w ∈ zwl_0, w ∈ zT := zsub_in 0 (by decide +kernel)
def zwl_1 : List Cond := [Cond.initialized "SlideRules$Settings",
  Cond.initialized "SlideRules$Match",
  Cond.initialized "SlideRules$Laws",
  Cond.initialized "SlideRules$Strip",
  Cond.initialized "SlideRulesModel",
  Cond.initialized "SlideRules$Scale",
  Cond.classLink "SlideRulesLaw" (7 : Nat) "SlideRules",
  Cond.instantiable "SlideRules" (12 : Nat),
  Cond.methodLink "SlideRulesLaw" (9 : Nat) ({ cls := "SlideRules", name := "<init>", desc := "()V" } : MethodName),
  Cond.instanceMethod ({ cls := "SlideRules", name := "<init>", desc := "()V" } : MethodName),
  Cond.code ({ cls := "SlideRules", name := "<init>", desc := "()V" } : MethodName) prog_1_method_1_code (2 : Nat) (Option.none : Option FieldType),
  Cond.methodLink "SlideRules" (1 : Nat) ({ cls := "java/lang/Object", name := "<init>", desc := "()V" } : MethodName),
  Cond.instanceMethod ({ cls := "java/lang/Object", name := "<init>", desc := "()V" } : MethodName),
  Cond.code ({ cls := "java/lang/Object", name := "<init>", desc := "()V" } : MethodName) object_method_1_code (1 : Nat) (Option.none : Option FieldType),
  Cond.classLink "SlideRules" (7 : Nat) "SlideRules$Logs",
  Cond.instantiable "SlideRules$Logs" (5 : Nat),
  Cond.methodLink "SlideRules" (9 : Nat) ({ cls := "SlideRules$Logs", name := "<init>", desc := "()V" } : MethodName),
  Cond.instanceMethod ({ cls := "SlideRules$Logs", name := "<init>", desc := "()V" } : MethodName),
  Cond.code ({ cls := "SlideRules$Logs", name := "<init>", desc := "()V" } : MethodName) prog_4_method_1_code (3 : Nat) (Option.none : Option FieldType),
  Cond.methodLink "SlideRules$Logs" (1 : Nat) ({ cls := "java/lang/Object", name := "<init>", desc := "()V" } : MethodName),
  Cond.classLink "SlideRules$Logs" (16 : Nat) "SlideRules$Wide",
  Cond.instantiable "SlideRules$Wide" (2 : Nat),
  Cond.instanceMethod ({ cls := "SlideRules$Wide", name := "<init>", desc := "()V" } : MethodName),
  Cond.code ({ cls := "SlideRules$Wide", name := "<init>", desc := "()V" } : MethodName) prog_12_method_1_code (1 : Nat) (Option.none : Option FieldType),
  Cond.methodLink "SlideRules$Wide" (3 : Nat) ({ cls := "java/lang/Object", name := "<init>", desc := "()V" } : MethodName),
  Cond.fieldLink "SlideRules$Wide" (9 : Nat) "SlideRules$Wide" "high" "J",
  Cond.fieldLink "SlideRules$Logs" (33 : Nat) "SlideRules$Wide" "high" "J",
  Cond.fieldLink "SlideRules$Wide" (13 : Nat) "SlideRules$Wide" "low" "J",
  Cond.fieldLink "SlideRules$Logs" (37 : Nat) "SlideRules$Wide" "low" "J",
  Cond.lays "SlideRules$Wide" "SlideRules$Wide" "high" "J",
  Cond.lays "SlideRules$Wide" "SlideRules$Wide" "low" "J",
  Cond.arrayClass FieldType.long,
  Cond.methodLink "SlideRules$Logs" (29 : Nat) ({ cls := "SlideRules$Logs", name := "addGrowth", desc := "(LSlideRules$Wide;II)V" } : MethodName),
  Cond.instanceMethod ({ cls := "SlideRules$Logs", name := "addGrowth", desc := "(LSlideRules$Wide;II)V" } : MethodName),
  Cond.code ({ cls := "SlideRules$Logs", name := "addGrowth", desc := "(LSlideRules$Wide;II)V" } : MethodName) prog_4_method_2_code (5 : Nat) (Option.none : Option FieldType),
  Cond.constantLong "SlideRules$Logs" (40 : Nat) (15280378647410 : Int64),
  Cond.constantLong "SlideRules$Logs" (42 : Nat) (9283927628714 : Int64),
  Cond.methodLink "SlideRules$Logs" (44 : Nat) ({ cls := "SlideRules$Wide", name := "put", desc := "(JJ)V" } : MethodName),
  Cond.instanceMethod ({ cls := "SlideRules$Wide", name := "put", desc := "(JJ)V" } : MethodName),
  Cond.selects "SlideRules$Wide" ({ cls := "SlideRules$Wide", name := "put", desc := "(JJ)V" } : MethodName) ({ cls := "SlideRules$Wide", name := "put", desc := "(JJ)V" } : MethodName)]
theorem zwm_1 : ∀ w ∈ zwl_1, w ∈ zT := zsub_in 40 (by decide +kernel)
def zwl_2 : List Cond := [Cond.code ({ cls := "SlideRules$Wide", name := "put", desc := "(JJ)V" } : MethodName) prog_12_method_2_code (5 : Nat) (Option.none : Option FieldType),
  Cond.methodLink "SlideRules$Logs" (48 : Nat) ({ cls := "SlideRules$Wide", name := "shrink", desc := "(II)V" } : MethodName),
  Cond.instanceMethod ({ cls := "SlideRules$Wide", name := "shrink", desc := "(II)V" } : MethodName),
  Cond.selects "SlideRules$Wide" ({ cls := "SlideRules$Wide", name := "shrink", desc := "(II)V" } : MethodName) ({ cls := "SlideRules$Wide", name := "shrink", desc := "(II)V" } : MethodName),
  Cond.code ({ cls := "SlideRules$Wide", name := "shrink", desc := "(II)V" } : MethodName) prog_12_method_5_code (7 : Nat) (Option.none : Option FieldType),
  Cond.constantLong "SlideRules$Wide" (16 : Nat) (17592186044415 : Int64),
  Cond.methodLink "SlideRules$Logs" (52 : Nat) ({ cls := "SlideRules$Wide", name := "isZero", desc := "()Z" } : MethodName),
  Cond.instanceMethod ({ cls := "SlideRules$Wide", name := "isZero", desc := "()Z" } : MethodName),
  Cond.selects "SlideRules$Wide" ({ cls := "SlideRules$Wide", name := "isZero", desc := "()Z" } : MethodName) ({ cls := "SlideRules$Wide", name := "isZero", desc := "()Z" } : MethodName),
  Cond.code ({ cls := "SlideRules$Wide", name := "isZero", desc := "()Z" } : MethodName) prog_12_method_6_code (1 : Nat) (Option.some FieldType.boolean),
  Cond.methodLink "SlideRules$Logs" (56 : Nat) ({ cls := "SlideRules$Wide", name := "addPart", desc := "(LSlideRules$Wide;I)V" } : MethodName),
  Cond.instanceMethod ({ cls := "SlideRules$Wide", name := "addPart", desc := "(LSlideRules$Wide;I)V" } : MethodName),
  Cond.selects "SlideRules$Wide" ({ cls := "SlideRules$Wide", name := "addPart", desc := "(LSlideRules$Wide;I)V" } : MethodName) ({ cls := "SlideRules$Wide", name := "addPart", desc := "(LSlideRules$Wide;I)V" } : MethodName),
  Cond.code ({ cls := "SlideRules$Wide", name := "addPart", desc := "(LSlideRules$Wide;I)V" } : MethodName) prog_12_method_3_code (7 : Nat) (Option.none : Option FieldType),
  Cond.fieldLink "SlideRules$Logs" (9 : Nat) "SlideRules$Logs" "highs" "[J",
  Cond.fieldLink "SlideRules$Logs" (13 : Nat) "SlideRules$Logs" "lows" "[J",
  Cond.fieldLink "SlideRules$Logs" (19 : Nat) "SlideRules$Logs" "term" "LSlideRules$Wide;",
  Cond.fieldLink "SlideRules$Logs" (23 : Nat) "SlideRules$Logs" "top" "LSlideRules$Wide;",
  Cond.fieldLink "SlideRules$Logs" (26 : Nat) "SlideRules$Logs" "bottom" "LSlideRules$Wide;",
  Cond.laysFinal "SlideRules$Logs" "SlideRules$Logs" "highs" "[J",
  Cond.laysFinal "SlideRules$Logs" "SlideRules$Logs" "lows" "[J",
  Cond.laysFinal "SlideRules$Logs" "SlideRules$Logs" "term" "LSlideRules$Wide;",
  Cond.laysFinal "SlideRules$Logs" "SlideRules$Logs" "top" "LSlideRules$Wide;",
  Cond.laysFinal "SlideRules$Logs" "SlideRules$Logs" "bottom" "LSlideRules$Wide;",
  Cond.classLink "SlideRules" (16 : Nat) "SlideRules$PlainScale",
  Cond.instantiable "SlideRules$PlainScale" (2 : Nat),
  Cond.instanceMethod ({ cls := "SlideRules$PlainScale", name := "<init>", desc := "()V" } : MethodName),
  Cond.code ({ cls := "SlideRules$PlainScale", name := "<init>", desc := "()V" } : MethodName) prog_7_method_1_code (1 : Nat) (Option.none : Option FieldType),
  Cond.methodLink "SlideRules$PlainScale" (3 : Nat) ({ cls := "java/lang/Object", name := "<init>", desc := "()V" } : MethodName),
  Cond.fieldLink "SlideRules$PlainScale" (9 : Nat) "SlideRules$PlainScale" "steps" "I",
  Cond.fieldLink "SlideRules$PairSums" (49 : Nat) "SlideRules$PlainScale" "steps" "I",
  Cond.fieldLink "SlideRules$Chain" (37 : Nat) "SlideRules$PlainScale" "steps" "I",
  Cond.fieldLink "SlideRules$PlainScale" (15 : Nat) "SlideRules$PlainScale" "places" "[I",
  Cond.lays "SlideRules$PlainScale" "SlideRules$PlainScale" "steps" "I",
  Cond.laysFinal "SlideRules$PlainScale" "SlideRules$PlainScale" "places" "[I",
  Cond.arrayClass FieldType.int,
  Cond.classLink "SlideRules" (23 : Nat) "SlideRules$Scale",
  Cond.classLink "SlideRules" (29 : Nat) "SlideRules$Chain",
  Cond.instantiable "SlideRules$Chain" (4 : Nat),
  Cond.instanceMethod ({ cls := "SlideRules$Chain", name := "<init>", desc := "()V" } : MethodName)]
theorem zwm_2 : ∀ w ∈ zwl_2, w ∈ zT := zsub_in 85 (by decide +kernel)
def zwl_3 : List Cond := [Cond.code ({ cls := "SlideRules$Chain", name := "<init>", desc := "()V" } : MethodName) prog_2_method_1_code (1 : Nat) (Option.none : Option FieldType),
  Cond.methodLink "SlideRules$Chain" (3 : Nat) ({ cls := "java/lang/Object", name := "<init>", desc := "()V" } : MethodName),
  Cond.classLink "SlideRules$Chain" (9 : Nat) "SlideRules$Row",
  Cond.instantiable "SlideRules$Row" (2 : Nat),
  Cond.methodLink "SlideRules$Chain" (13 : Nat) ({ cls := "SlideRules$Row", name := "<init>", desc := "(I)V" } : MethodName),
  Cond.instanceMethod ({ cls := "SlideRules$Row", name := "<init>", desc := "(I)V" } : MethodName),
  Cond.code ({ cls := "SlideRules$Row", name := "<init>", desc := "(I)V" } : MethodName) prog_8_method_1_code (2 : Nat) (Option.none : Option FieldType),
  Cond.methodLink "SlideRules$Row" (3 : Nat) ({ cls := "java/lang/Object", name := "<init>", desc := "()V" } : MethodName),
  Cond.methodLink "SlideRules$Row" (15 : Nat) ({ cls := "java/lang/Math", name := "max", desc := "(II)I" } : MethodName),
  Cond.static ({ cls := "java/lang/Math", name := "max", desc := "(II)I" } : MethodName),
  Cond.code ({ cls := "java/lang/Math", name := "max", desc := "(II)I" } : MethodName) prog_15_method_65_code (2 : Nat) (Option.some FieldType.int),
  Cond.fieldLink "SlideRules$Row" (21 : Nat) "SlideRules$Row" "values" "[I",
  Cond.fieldLink "SlideRules$Strip" (24 : Nat) "SlideRules$Row" "values" "[I",
  Cond.fieldLink "SlideRules$Match" (27 : Nat) "SlideRules$Row" "values" "[I",
  Cond.fieldLink "SlideRules$Chain" (46 : Nat) "SlideRules$Row" "values" "[I",
  Cond.fieldLink "SlideRules$Scale" (73 : Nat) "SlideRules$Row" "values" "[I",
  Cond.fieldLink "SlideRules$Row" (9 : Nat) "SlideRules$Row" "size" "I",
  Cond.fieldLink "SlideRules$Strip" (20 : Nat) "SlideRules$Row" "size" "I",
  Cond.fieldLink "SlideRules$Match" (16 : Nat) "SlideRules$Row" "size" "I",
  Cond.fieldLink "SlideRules$Chain" (43 : Nat) "SlideRules$Row" "size" "I",
  Cond.fieldLink "SlideRules$Scale" (62 : Nat) "SlideRules$Row" "size" "I",
  Cond.fieldLink "SlideRules" (117 : Nat) "SlideRules$Row" "size" "I",
  Cond.laysFinal "SlideRules$Row" "SlideRules$Row" "values" "[I",
  Cond.lays "SlideRules$Row" "SlideRules$Row" "size" "I",
  Cond.fieldLink "SlideRules$Chain" (16 : Nat) "SlideRules$Chain" "factors" "LSlideRules$Row;",
  Cond.fieldLink "SlideRules" (150 : Nat) "SlideRules$Chain" "factors" "LSlideRules$Row;",
  Cond.fieldLink "SlideRules$Chain" (20 : Nat) "SlideRules$Chain" "place" "I",
  Cond.fieldLink "SlideRules$PairSums" (63 : Nat) "SlideRules$Chain" "place" "I",
  Cond.fieldLink "SlideRules" (170 : Nat) "SlideRules$Chain" "place" "I",
  Cond.fieldLink "SlideRules$Chain" (24 : Nat) "SlideRules$Chain" "pulled" "I",
  Cond.fieldLink "SlideRules$PairSums" (79 : Nat) "SlideRules$Chain" "pulled" "I",
  Cond.fieldLink "SlideRules" (179 : Nat) "SlideRules$Chain" "pulled" "I",
  Cond.fieldLink "SlideRules$Chain" (27 : Nat) "SlideRules$Chain" "limbs" "[J",
  Cond.laysFinal "SlideRules$Chain" "SlideRules$Chain" "factors" "LSlideRules$Row;",
  Cond.lays "SlideRules$Chain" "SlideRules$Chain" "place" "I",
  Cond.lays "SlideRules$Chain" "SlideRules$Chain" "pulled" "I",
  Cond.laysFinal "SlideRules$Chain" "SlideRules$Chain" "limbs" "[J",
  Cond.classLink "SlideRules" (36 : Nat) "SlideRules$PairSums",
  Cond.instantiable "SlideRules$PairSums" (11 : Nat),
  Cond.instanceMethod ({ cls := "SlideRules$PairSums", name := "<init>", desc := "()V" } : MethodName)]
theorem zwm_3 : ∀ w ∈ zwl_3, w ∈ zT := zsub_in 137 (by decide +kernel)
def zwl_4 : List Cond := [Cond.code ({ cls := "SlideRules$PairSums", name := "<init>", desc := "()V" } : MethodName) prog_6_method_1_code (1 : Nat) (Option.none : Option FieldType),
  Cond.methodLink "SlideRules$PairSums" (3 : Nat) ({ cls := "java/lang/Object", name := "<init>", desc := "()V" } : MethodName),
  Cond.classLink "SlideRules$PairSums" (42 : Nat) "SlideRules$Chain",
  Cond.fieldLink "SlideRules$PairSums" (9 : Nat) "SlideRules$PairSums" "worst" "I",
  Cond.fieldLink "SlideRules" (186 : Nat) "SlideRules$PairSums" "worst" "I",
  Cond.fieldLink "SlideRules$PairSums" (15 : Nat) "SlideRules$PairSums" "worstA" "I",
  Cond.fieldLink "SlideRules" (189 : Nat) "SlideRules$PairSums" "worstA" "I",
  Cond.fieldLink "SlideRules$PairSums" (18 : Nat) "SlideRules$PairSums" "worstB" "I",
  Cond.fieldLink "SlideRules" (192 : Nat) "SlideRules$PairSums" "worstB" "I",
  Cond.fieldLink "SlideRules$PairSums" (21 : Nat) "SlideRules$PairSums" "sum" "I",
  Cond.fieldLink "SlideRules" (195 : Nat) "SlideRules$PairSums" "sum" "I",
  Cond.fieldLink "SlideRules$PairSums" (24 : Nat) "SlideRules$PairSums" "many" "I",
  Cond.fieldLink "SlideRules" (198 : Nat) "SlideRules$PairSums" "many" "I",
  Cond.fieldLink "SlideRules$PairSums" (27 : Nat) "SlideRules$PairSums" "pulled" "I",
  Cond.fieldLink "SlideRules" (201 : Nat) "SlideRules$PairSums" "pulled" "I",
  Cond.fieldLink "SlideRules$PairSums" (30 : Nat) "SlideRules$PairSums" "from" "I",
  Cond.fieldLink "SlideRules$PairSums" (33 : Nat) "SlideRules$PairSums" "to" "I",
  Cond.fieldLink "SlideRules$PairSums" (36 : Nat) "SlideRules$PairSums" "each" "I",
  Cond.fieldLink "SlideRules$PairSums" (39 : Nat) "SlideRules$PairSums" "steps" "I",
  Cond.fieldLink "SlideRules$PairSums" (45 : Nat) "SlideRules$PairSums" "chain" "LSlideRules$Chain;",
  Cond.lays "SlideRules$PairSums" "SlideRules$PairSums" "worst" "I",
  Cond.lays "SlideRules$PairSums" "SlideRules$PairSums" "worstA" "I",
  Cond.lays "SlideRules$PairSums" "SlideRules$PairSums" "worstB" "I",
  Cond.lays "SlideRules$PairSums" "SlideRules$PairSums" "sum" "I",
  Cond.lays "SlideRules$PairSums" "SlideRules$PairSums" "many" "I",
  Cond.lays "SlideRules$PairSums" "SlideRules$PairSums" "pulled" "I",
  Cond.lays "SlideRules$PairSums" "SlideRules$PairSums" "from" "I",
  Cond.lays "SlideRules$PairSums" "SlideRules$PairSums" "to" "I",
  Cond.lays "SlideRules$PairSums" "SlideRules$PairSums" "each" "I",
  Cond.lays "SlideRules$PairSums" "SlideRules$PairSums" "steps" "I",
  Cond.laysFinal "SlideRules$PairSums" "SlideRules$PairSums" "chain" "LSlideRules$Chain;",
  Cond.classLink "SlideRules" (43 : Nat) "SlideRules$Settings",
  Cond.instantiable "SlideRules$Settings" (4 : Nat),
  Cond.instanceMethod ({ cls := "SlideRules$Settings", name := "<init>", desc := "()V" } : MethodName),
  Cond.code ({ cls := "SlideRules$Settings", name := "<init>", desc := "()V" } : MethodName) prog_10_method_1_code (1 : Nat) (Option.none : Option FieldType),
  Cond.methodLink "SlideRules$Settings" (5 : Nat) ({ cls := "java/lang/Object", name := "<init>", desc := "()V" } : MethodName),
  Cond.classLink "SlideRules$Settings" (18 : Nat) "[[I",
  Cond.fieldLink "SlideRules$Settings" (11 : Nat) "SlideRules$Settings" "multiplies" "[Z",
  Cond.fieldLink "SlideRules$Settings" (15 : Nat) "SlideRules$Settings" "divides" "[Z",
  Cond.fieldLink "SlideRules$Settings" (20 : Nat) "SlideRules$Settings" "away" "[[I"]
theorem zwm_4 : ∀ w ∈ zwl_4, w ∈ zT := zsub_in 186 (by decide +kernel)
def zwl_5 : List Cond := [Cond.fieldLink "SlideRules$Settings" (23 : Nat) "SlideRules$Settings" "now" "[I",
  Cond.laysFinal "SlideRules$Settings" "SlideRules$Settings" "multiplies" "[Z",
  Cond.laysFinal "SlideRules$Settings" "SlideRules$Settings" "divides" "[Z",
  Cond.laysFinal "SlideRules$Settings" "SlideRules$Settings" "away" "[[I",
  Cond.laysFinal "SlideRules$Settings" "SlideRules$Settings" "now" "[I",
  Cond.arrayClass FieldType.boolean,
  Cond.classLink "SlideRules" (50 : Nat) "SlideRules$Strip",
  Cond.classLink "SlideRules" (56 : Nat) "SlideRules$Match",
  Cond.instantiable "SlideRules$Match" (2 : Nat),
  Cond.instanceMethod ({ cls := "SlideRules$Match", name := "<init>", desc := "()V" } : MethodName),
  Cond.code ({ cls := "SlideRules$Match", name := "<init>", desc := "()V" } : MethodName) prog_5_method_1_code (1 : Nat) (Option.none : Option FieldType),
  Cond.methodLink "SlideRules$Match" (1 : Nat) ({ cls := "java/lang/Object", name := "<init>", desc := "()V" } : MethodName),
  Cond.fieldLink "SlideRules$Match" (7 : Nat) "SlideRules$Match" "shift" "I",
  Cond.fieldLink "SlideRules" (233 : Nat) "SlideRules$Match" "shift" "I",
  Cond.fieldLink "SlideRules$Match" (13 : Nat) "SlideRules$Match" "many" "I",
  Cond.fieldLink "SlideRules" (236 : Nat) "SlideRules$Match" "many" "I",
  Cond.lays "SlideRules$Match" "SlideRules$Match" "shift" "I",
  Cond.lays "SlideRules$Match" "SlideRules$Match" "many" "I",
  Cond.classLink "SlideRules" (63 : Nat) "SlideRules$Laws",
  Cond.instantiable "SlideRules$Laws" (1 : Nat),
  Cond.instanceMethod ({ cls := "SlideRules$Laws", name := "<init>", desc := "()V" } : MethodName),
  Cond.code ({ cls := "SlideRules$Laws", name := "<init>", desc := "()V" } : MethodName) prog_3_method_1_code (1 : Nat) (Option.none : Option FieldType),
  Cond.methodLink "SlideRules$Laws" (1 : Nat) ({ cls := "java/lang/Object", name := "<init>", desc := "()V" } : MethodName),
  Cond.fieldLink "SlideRules$Laws" (9 : Nat) "SlideRules$Laws" "places" "[I",
  Cond.laysFinal "SlideRules$Laws" "SlideRules$Laws" "places" "[I",
  Cond.instantiable "SlideRules$Strip" (1 : Nat),
  Cond.instanceMethod ({ cls := "SlideRules$Strip", name := "<init>", desc := "()V" } : MethodName),
  Cond.code ({ cls := "SlideRules$Strip", name := "<init>", desc := "()V" } : MethodName) prog_11_method_1_code (1 : Nat) (Option.none : Option FieldType),
  Cond.methodLink "SlideRules$Strip" (3 : Nat) ({ cls := "java/lang/Object", name := "<init>", desc := "()V" } : MethodName),
  Cond.classLink "SlideRules$Strip" (9 : Nat) "SlideRules$Row",
  Cond.methodLink "SlideRules$Strip" (13 : Nat) ({ cls := "SlideRules$Row", name := "<init>", desc := "(I)V" } : MethodName),
  Cond.fieldLink "SlideRules$Strip" (16 : Nat) "SlideRules$Strip" "places" "LSlideRules$Row;",
  Cond.fieldLink "SlideRules" (218 : Nat) "SlideRules$Strip" "places" "LSlideRules$Row;",
  Cond.laysFinal "SlideRules$Strip" "SlideRules$Strip" "places" "LSlideRules$Row;",
  Cond.fieldLink "SlideRules" (10 : Nat) "SlideRules" "logs" "LSlideRules$Logs;",
  Cond.fieldLink "SlideRules" (19 : Nat) "SlideRules" "plain" "LSlideRules$PlainScale;",
  Cond.fieldLink "SlideRules" (25 : Nat) "SlideRules" "scales" "[LSlideRules$Scale;",
  Cond.fieldLink "SlideRules" (32 : Nat) "SlideRules" "chain" "LSlideRules$Chain;",
  Cond.fieldLink "SlideRules" (39 : Nat) "SlideRules" "sums" "LSlideRules$PairSums;",
  Cond.fieldLink "SlideRules" (46 : Nat) "SlideRules" "settings" "LSlideRules$Settings;"]
theorem zwm_5 : ∀ w ∈ zwl_5, w ∈ zT := zsub_in 241 (by decide +kernel)
def zwl_6 : List Cond := [Cond.fieldLink "SlideRules" (52 : Nat) "SlideRules" "strips" "[LSlideRules$Strip;",
  Cond.fieldLink "SlideRules" (59 : Nat) "SlideRules" "match" "LSlideRules$Match;",
  Cond.fieldLink "SlideRules" (66 : Nat) "SlideRules" "laws" "LSlideRules$Laws;",
  Cond.fieldLink "SlideRules" (70 : Nat) "SlideRules" "scaleCount" "I",
  Cond.fieldLink "SlideRules" (74 : Nat) "SlideRules" "steps" "I",
  Cond.fieldLink "SlideRules" (77 : Nat) "SlideRules" "off" "I",
  Cond.laysFinal "SlideRules" "SlideRules" "logs" "LSlideRules$Logs;",
  Cond.laysFinal "SlideRules" "SlideRules" "plain" "LSlideRules$PlainScale;",
  Cond.laysFinal "SlideRules" "SlideRules" "scales" "[LSlideRules$Scale;",
  Cond.laysFinal "SlideRules" "SlideRules" "chain" "LSlideRules$Chain;",
  Cond.laysFinal "SlideRules" "SlideRules" "sums" "LSlideRules$PairSums;",
  Cond.laysFinal "SlideRules" "SlideRules" "settings" "LSlideRules$Settings;",
  Cond.laysFinal "SlideRules" "SlideRules" "strips" "[LSlideRules$Strip;",
  Cond.laysFinal "SlideRules" "SlideRules" "match" "LSlideRules$Match;",
  Cond.laysFinal "SlideRules" "SlideRules" "laws" "LSlideRules$Laws;",
  Cond.lays "SlideRules" "SlideRules" "scaleCount" "I",
  Cond.lays "SlideRules" "SlideRules" "steps" "I",
  Cond.lays "SlideRules" "SlideRules" "off" "I",
  Cond.methodLink "SlideRulesLaw" (13 : Nat) ({ cls := "SlideRules", name := "rule", desc := "(I)I" } : MethodName),
  Cond.instanceMethod ({ cls := "SlideRules", name := "rule", desc := "(I)I" } : MethodName),
  Cond.selects "SlideRules" ({ cls := "SlideRules", name := "rule", desc := "(I)I" } : MethodName) ({ cls := "SlideRules", name := "rule", desc := "(I)I" } : MethodName),
  Cond.code ({ cls := "SlideRules", name := "rule", desc := "(I)I" } : MethodName) prog_1_method_2_code (3 : Nat) (Option.some FieldType.int),
  Cond.constant "SlideRules" (81 : Nat) (50000 : Int32),
  Cond.methodLink "SlideRulesLaw" (18 : Nat) ({ cls := "SlideRules", name := "scale", desc := "(ZIIZ)I" } : MethodName),
  Cond.instanceMethod ({ cls := "SlideRules", name := "scale", desc := "(ZIIZ)I" } : MethodName),
  Cond.selects "SlideRules" ({ cls := "SlideRules", name := "scale", desc := "(ZIIZ)I" } : MethodName) ({ cls := "SlideRules", name := "scale", desc := "(ZIIZ)I" } : MethodName),
  Cond.code ({ cls := "SlideRules", name := "scale", desc := "(ZIIZ)I" } : MethodName) prog_1_method_3_code (5 : Nat) (Option.some FieldType.int),
  Cond.instantiable "SlideRules$Scale" (12 : Nat),
  Cond.methodLink "SlideRules" (82 : Nat) ({ cls := "SlideRules$Scale", name := "<init>", desc := "(ZIIZ)V" } : MethodName),
  Cond.instanceMethod ({ cls := "SlideRules$Scale", name := "<init>", desc := "(ZIIZ)V" } : MethodName),
  Cond.code ({ cls := "SlideRules$Scale", name := "<init>", desc := "(ZIIZ)V" } : MethodName) prog_9_method_1_code (5 : Nat) (Option.none : Option FieldType),
  Cond.methodLink "SlideRules$Scale" (3 : Nat) ({ cls := "java/lang/Object", name := "<init>", desc := "()V" } : MethodName),
  Cond.classLink "SlideRules$Scale" (9 : Nat) "SlideRules$Row",
  Cond.methodLink "SlideRules$Scale" (13 : Nat) ({ cls := "SlideRules$Row", name := "<init>", desc := "(I)V" } : MethodName),
  Cond.fieldLink "SlideRules$Scale" (43 : Nat) "SlideRules$Scale" "onSlide" "Z",
  Cond.fieldLink "SlideRules" (134 : Nat) "SlideRules$Scale" "onSlide" "Z",
  Cond.fieldLink "SlideRules$Scale" (47 : Nat) "SlideRules$Scale" "parts" "I",
  Cond.fieldLink "SlideRules" (267 : Nat) "SlideRules$Scale" "parts" "I",
  Cond.fieldLink "SlideRules$Scale" (50 : Nat) "SlideRules$Scale" "fold" "I",
  Cond.fieldLink "SlideRules$Scale" (53 : Nat) "SlideRules$Scale" "turned" "Z"]
theorem zwm_6 : ∀ w ∈ zwl_6, w ∈ zT := zsub_in 297 (by decide +kernel)
def zwl_7 : List Cond := [Cond.fieldLink "SlideRules" (270 : Nat) "SlideRules$Scale" "turned" "Z",
  Cond.fieldLink "SlideRules$Scale" (16 : Nat) "SlideRules$Scale" "marks" "LSlideRules$Row;",
  Cond.fieldLink "SlideRules" (113 : Nat) "SlideRules$Scale" "marks" "LSlideRules$Row;",
  Cond.fieldLink "SlideRules$Scale" (20 : Nat) "SlideRules$Scale" "spans" "I",
  Cond.fieldLink "SlideRules$Scale" (24 : Nat) "SlideRules$Scale" "froms" "[I",
  Cond.fieldLink "SlideRules$Scale" (28 : Nat) "SlideRules$Scale" "tos" "[I",
  Cond.fieldLink "SlideRules$Scale" (31 : Nat) "SlideRules$Scale" "eachs" "[I",
  Cond.fieldLink "SlideRules$Scale" (34 : Nat) "SlideRules$Scale" "places" "[I",
  Cond.fieldLink "SlideRules$Scale" (37 : Nat) "SlideRules$Scale" "placed" "I",
  Cond.fieldLink "SlideRules$Scale" (40 : Nat) "SlideRules$Scale" "placedSteps" "I",
  Cond.laysFinal "SlideRules$Scale" "SlideRules$Scale" "onSlide" "Z",
  Cond.laysFinal "SlideRules$Scale" "SlideRules$Scale" "parts" "I",
  Cond.laysFinal "SlideRules$Scale" "SlideRules$Scale" "fold" "I",
  Cond.laysFinal "SlideRules$Scale" "SlideRules$Scale" "turned" "Z",
  Cond.laysFinal "SlideRules$Scale" "SlideRules$Scale" "marks" "LSlideRules$Row;",
  Cond.lays "SlideRules$Scale" "SlideRules$Scale" "spans" "I",
  Cond.laysFinal "SlideRules$Scale" "SlideRules$Scale" "froms" "[I",
  Cond.laysFinal "SlideRules$Scale" "SlideRules$Scale" "tos" "[I",
  Cond.laysFinal "SlideRules$Scale" "SlideRules$Scale" "eachs" "[I",
  Cond.laysFinal "SlideRules$Scale" "SlideRules$Scale" "places" "[I",
  Cond.lays "SlideRules$Scale" "SlideRules$Scale" "placed" "I",
  Cond.lays "SlideRules$Scale" "SlideRules$Scale" "placedSteps" "I",
  Cond.methodLink "SlideRulesLaw" (23 : Nat) ({ cls := "SlideRules", name := "place", desc := "(II)I" } : MethodName),
  Cond.instanceMethod ({ cls := "SlideRules", name := "place", desc := "(II)I" } : MethodName),
  Cond.selects "SlideRules" ({ cls := "SlideRules", name := "place", desc := "(II)I" } : MethodName) ({ cls := "SlideRules", name := "place", desc := "(II)I" } : MethodName),
  Cond.code ({ cls := "SlideRules", name := "place", desc := "(II)I" } : MethodName) prog_1_method_4_code (4 : Nat) (Option.some FieldType.int),
  Cond.methodLink "SlideRules" (85 : Nat) ({ cls := "SlideRules", name := "scaleAt", desc := "(I)LSlideRules$Scale;" } : MethodName),
  Cond.instanceMethod ({ cls := "SlideRules", name := "scaleAt", desc := "(I)LSlideRules$Scale;" } : MethodName),
  Cond.code ({ cls := "SlideRules", name := "scaleAt", desc := "(I)LSlideRules$Scale;" } : MethodName) prog_1_method_28_code (2 : Nat) (Option.some (FieldType.object "SlideRules$Scale")),
  Cond.methodLink "SlideRules" (89 : Nat) ({ cls := "SlideRules", name := "isNumber", desc := "(I)Z" } : MethodName),
  Cond.static ({ cls := "SlideRules", name := "isNumber", desc := "(I)Z" } : MethodName),
  Cond.code ({ cls := "SlideRules", name := "isNumber", desc := "(I)Z" } : MethodName) prog_1_method_29_code (1 : Nat) (Option.some FieldType.boolean),
  Cond.constant "SlideRules" (224 : Nat) (100000 : Int32),
  Cond.constant "SlideRules" (93 : Nat) (-2000000000 : Int32),
  Cond.methodLink "SlideRules" (94 : Nat) ({ cls := "SlideRules$Scale", name := "placeOf", desc := "(IILSlideRules$Logs;)I" } : MethodName),
  Cond.instanceMethod ({ cls := "SlideRules$Scale", name := "placeOf", desc := "(IILSlideRules$Logs;)I" } : MethodName),
  Cond.selects "SlideRules$Scale" ({ cls := "SlideRules$Scale", name := "placeOf", desc := "(IILSlideRules$Logs;)I" } : MethodName) ({ cls := "SlideRules$Scale", name := "placeOf", desc := "(IILSlideRules$Logs;)I" } : MethodName),
  Cond.code ({ cls := "SlideRules$Scale", name := "placeOf", desc := "(IILSlideRules$Logs;)I" } : MethodName) prog_9_method_2_code (5 : Nat) (Option.some FieldType.int),
  Cond.methodLink "SlideRules$Scale" (56 : Nat) ({ cls := "SlideRules$Logs", name := "placeOf", desc := "(IIII)I" } : MethodName),
  Cond.instanceMethod ({ cls := "SlideRules$Logs", name := "placeOf", desc := "(IIII)I" } : MethodName)]
theorem zwm_7 : ∀ w ∈ zwl_7, w ∈ zT := zsub_in 350 (by decide +kernel)
def zwl_8 : List Cond := [Cond.selects "SlideRules$Logs" ({ cls := "SlideRules$Logs", name := "placeOf", desc := "(IIII)I" } : MethodName) ({ cls := "SlideRules$Logs", name := "placeOf", desc := "(IIII)I" } : MethodName),
  Cond.code ({ cls := "SlideRules$Logs", name := "placeOf", desc := "(IIII)I" } : MethodName) prog_4_method_4_code (7 : Nat) (Option.some FieldType.int),
  Cond.methodLink "SlideRules$Logs" (60 : Nat) ({ cls := "SlideRules$Logs", name := "putLog", desc := "(LSlideRules$Wide;I)V" } : MethodName),
  Cond.instanceMethod ({ cls := "SlideRules$Logs", name := "putLog", desc := "(LSlideRules$Wide;I)V" } : MethodName),
  Cond.code ({ cls := "SlideRules$Logs", name := "putLog", desc := "(LSlideRules$Wide;I)V" } : MethodName) prog_4_method_3_code (7 : Nat) (Option.none : Option FieldType),
  Cond.methodLink "SlideRules$Logs" (63 : Nat) ({ cls := "SlideRules$Wide", name := "subtract", desc := "(LSlideRules$Wide;)V" } : MethodName),
  Cond.instanceMethod ({ cls := "SlideRules$Wide", name := "subtract", desc := "(LSlideRules$Wide;)V" } : MethodName),
  Cond.selects "SlideRules$Wide" ({ cls := "SlideRules$Wide", name := "subtract", desc := "(LSlideRules$Wide;)V" } : MethodName) ({ cls := "SlideRules$Wide", name := "subtract", desc := "(LSlideRules$Wide;)V" } : MethodName),
  Cond.code ({ cls := "SlideRules$Wide", name := "subtract", desc := "(LSlideRules$Wide;)V" } : MethodName) prog_12_method_4_code (4 : Nat) (Option.none : Option FieldType),
  Cond.methodLink "SlideRules$Logs" (67 : Nat) ({ cls := "SlideRules$Wide", name := "floorTimes", desc := "(I)J" } : MethodName),
  Cond.instanceMethod ({ cls := "SlideRules$Wide", name := "floorTimes", desc := "(I)J" } : MethodName),
  Cond.selects "SlideRules$Wide" ({ cls := "SlideRules$Wide", name := "floorTimes", desc := "(I)J" } : MethodName) ({ cls := "SlideRules$Wide", name := "floorTimes", desc := "(I)J" } : MethodName),
  Cond.code ({ cls := "SlideRules$Wide", name := "floorTimes", desc := "(I)J" } : MethodName) prog_12_method_7_code (2 : Nat) (Option.some FieldType.long),
  Cond.constantLong "SlideRules$Logs" (71 : Nat) (2 : Int64),
  Cond.methodLink "SlideRules$Logs" (73 : Nat) ({ cls := "java/lang/Math", name := "floorDiv", desc := "(JJ)J" } : MethodName),
  Cond.static ({ cls := "java/lang/Math", name := "floorDiv", desc := "(JJ)J" } : MethodName),
  Cond.code ({ cls := "java/lang/Math", name := "floorDiv", desc := "(JJ)J" } : MethodName) prog_15_method_49_code (6 : Nat) (Option.some FieldType.long),
  Cond.methodLink "SlideRulesLaw" (28 : Nat) ({ cls := "SlideRules", name := "span", desc := "(IIII)I" } : MethodName),
  Cond.instanceMethod ({ cls := "SlideRules", name := "span", desc := "(IIII)I" } : MethodName),
  Cond.selects "SlideRules" ({ cls := "SlideRules", name := "span", desc := "(IIII)I" } : MethodName) ({ cls := "SlideRules", name := "span", desc := "(IIII)I" } : MethodName),
  Cond.code ({ cls := "SlideRules", name := "span", desc := "(IIII)I" } : MethodName) prog_1_method_5_code (7 : Nat) (Option.some FieldType.int),
  Cond.methodLink "SlideRules" (98 : Nat) ({ cls := "SlideRules$Scale", name := "lastTo", desc := "()I" } : MethodName),
  Cond.instanceMethod ({ cls := "SlideRules$Scale", name := "lastTo", desc := "()I" } : MethodName),
  Cond.selects "SlideRules$Scale" ({ cls := "SlideRules$Scale", name := "lastTo", desc := "()I" } : MethodName) ({ cls := "SlideRules$Scale", name := "lastTo", desc := "()I" } : MethodName),
  Cond.code ({ cls := "SlideRules$Scale", name := "lastTo", desc := "()I" } : MethodName) prog_9_method_3_code (1 : Nat) (Option.some FieldType.int),
  Cond.methodLink "SlideRules" (102 : Nat) ({ cls := "SlideRules$Scale", name := "hasRoomFor", desc := "(I)Z" } : MethodName),
  Cond.instanceMethod ({ cls := "SlideRules$Scale", name := "hasRoomFor", desc := "(I)Z" } : MethodName),
  Cond.selects "SlideRules$Scale" ({ cls := "SlideRules$Scale", name := "hasRoomFor", desc := "(I)Z" } : MethodName) ({ cls := "SlideRules$Scale", name := "hasRoomFor", desc := "(I)Z" } : MethodName),
  Cond.code ({ cls := "SlideRules$Scale", name := "hasRoomFor", desc := "(I)Z" } : MethodName) prog_9_method_4_code (2 : Nat) (Option.some FieldType.boolean),
  Cond.methodLink "SlideRules" (105 : Nat) ({ cls := "SlideRules$Scale", name := "addSpan", desc := "(III)V" } : MethodName),
  Cond.instanceMethod ({ cls := "SlideRules$Scale", name := "addSpan", desc := "(III)V" } : MethodName),
  Cond.selects "SlideRules$Scale" ({ cls := "SlideRules$Scale", name := "addSpan", desc := "(III)V" } : MethodName) ({ cls := "SlideRules$Scale", name := "addSpan", desc := "(III)V" } : MethodName),
  Cond.code ({ cls := "SlideRules$Scale", name := "addSpan", desc := "(III)V" } : MethodName) prog_9_method_5_code (5 : Nat) (Option.none : Option FieldType),
  Cond.methodLink "SlideRules$Scale" (65 : Nat) ({ cls := "SlideRules$Row", name := "isFull", desc := "()Z" } : MethodName),
  Cond.instanceMethod ({ cls := "SlideRules$Row", name := "isFull", desc := "()Z" } : MethodName),
  Cond.selects "SlideRules$Row" ({ cls := "SlideRules$Row", name := "isFull", desc := "()Z" } : MethodName) ({ cls := "SlideRules$Row", name := "isFull", desc := "()Z" } : MethodName),
  Cond.code ({ cls := "SlideRules$Row", name := "isFull", desc := "()Z" } : MethodName) prog_8_method_2_code (1 : Nat) (Option.some FieldType.boolean),
  Cond.methodLink "SlideRules$Scale" (69 : Nat) ({ cls := "SlideRules$Row", name := "append", desc := "(I)I" } : MethodName),
  Cond.instanceMethod ({ cls := "SlideRules$Row", name := "append", desc := "(I)I" } : MethodName),
  Cond.selects "SlideRules$Row" ({ cls := "SlideRules$Row", name := "append", desc := "(I)I" } : MethodName) ({ cls := "SlideRules$Row", name := "append", desc := "(I)I" } : MethodName)]
theorem zwm_8 : ∀ w ∈ zwl_8, w ∈ zT := zsub_in 404 (by decide +kernel)
def zwl_9 : List Cond := [Cond.code ({ cls := "SlideRules$Row", name := "append", desc := "(I)I" } : MethodName) prog_8_method_3_code (2 : Nat) (Option.some FieldType.int),
  Cond.methodLink "SlideRules$Row" (25 : Nat) ({ cls := "SlideRules$Row", name := "isFull", desc := "()Z" } : MethodName),
  Cond.methodLink "SlideRulesLaw" (33 : Nat) ({ cls := "SlideRules", name := "mark", desc := "(II)I" } : MethodName),
  Cond.instanceMethod ({ cls := "SlideRules", name := "mark", desc := "(II)I" } : MethodName),
  Cond.selects "SlideRules" ({ cls := "SlideRules", name := "mark", desc := "(II)I" } : MethodName) ({ cls := "SlideRules", name := "mark", desc := "(II)I" } : MethodName),
  Cond.code ({ cls := "SlideRules", name := "mark", desc := "(II)I" } : MethodName) prog_1_method_6_code (4 : Nat) (Option.some FieldType.int),
  Cond.methodLink "SlideRules" (109 : Nat) ({ cls := "SlideRules$Scale", name := "numberAt", desc := "(I)I" } : MethodName),
  Cond.instanceMethod ({ cls := "SlideRules$Scale", name := "numberAt", desc := "(I)I" } : MethodName),
  Cond.selects "SlideRules$Scale" ({ cls := "SlideRules$Scale", name := "numberAt", desc := "(I)I" } : MethodName) ({ cls := "SlideRules$Scale", name := "numberAt", desc := "(I)I" } : MethodName),
  Cond.code ({ cls := "SlideRules$Scale", name := "numberAt", desc := "(I)I" } : MethodName) prog_9_method_6_code (2 : Nat) (Option.some FieldType.int),
  Cond.methodLink "SlideRulesLaw" (37 : Nat) ({ cls := "SlideRules", name := "marks", desc := "(I)I" } : MethodName),
  Cond.instanceMethod ({ cls := "SlideRules", name := "marks", desc := "(I)I" } : MethodName),
  Cond.selects "SlideRules" ({ cls := "SlideRules", name := "marks", desc := "(I)I" } : MethodName) ({ cls := "SlideRules", name := "marks", desc := "(I)I" } : MethodName),
  Cond.code ({ cls := "SlideRules", name := "marks", desc := "(I)I" } : MethodName) prog_1_method_7_code (3 : Nat) (Option.some FieldType.int),
  Cond.methodLink "SlideRulesLaw" (41 : Nat) ({ cls := "SlideRules", name := "closest", desc := "(II)I" } : MethodName),
  Cond.instanceMethod ({ cls := "SlideRules", name := "closest", desc := "(II)I" } : MethodName),
  Cond.selects "SlideRules" ({ cls := "SlideRules", name := "closest", desc := "(II)I" } : MethodName) ({ cls := "SlideRules", name := "closest", desc := "(II)I" } : MethodName),
  Cond.code ({ cls := "SlideRules", name := "closest", desc := "(II)I" } : MethodName) prog_1_method_8_code (5 : Nat) (Option.some FieldType.int),
  Cond.methodLink "SlideRules" (122 : Nat) ({ cls := "SlideRules$Scale", name := "placeMarks", desc := "(ILSlideRules$Logs;)V" } : MethodName),
  Cond.instanceMethod ({ cls := "SlideRules$Scale", name := "placeMarks", desc := "(ILSlideRules$Logs;)V" } : MethodName),
  Cond.selects "SlideRules$Scale" ({ cls := "SlideRules$Scale", name := "placeMarks", desc := "(ILSlideRules$Logs;)V" } : MethodName) ({ cls := "SlideRules$Scale", name := "placeMarks", desc := "(ILSlideRules$Logs;)V" } : MethodName),
  Cond.code ({ cls := "SlideRules$Scale", name := "placeMarks", desc := "(ILSlideRules$Logs;)V" } : MethodName) prog_9_method_7_code (3 : Nat) (Option.none : Option FieldType),
  Cond.methodLink "SlideRules$Scale" (76 : Nat) ({ cls := "SlideRules$Scale", name := "placeOf", desc := "(IILSlideRules$Logs;)I" } : MethodName),
  Cond.methodLink "SlideRules" (126 : Nat) ({ cls := "SlideRules$Scale", name := "firstOfClosest", desc := "()I" } : MethodName),
  Cond.instanceMethod ({ cls := "SlideRules$Scale", name := "firstOfClosest", desc := "()I" } : MethodName),
  Cond.selects "SlideRules$Scale" ({ cls := "SlideRules$Scale", name := "firstOfClosest", desc := "()I" } : MethodName) ({ cls := "SlideRules$Scale", name := "firstOfClosest", desc := "()I" } : MethodName),
  Cond.code ({ cls := "SlideRules$Scale", name := "firstOfClosest", desc := "()I" } : MethodName) prog_9_method_9_code (3 : Nat) (Option.some FieldType.int),
  Cond.methodLink "SlideRules$Scale" (84 : Nat) ({ cls := "SlideRules$Scale", name := "gapBehind", desc := "(I)I" } : MethodName),
  Cond.instanceMethod ({ cls := "SlideRules$Scale", name := "gapBehind", desc := "(I)I" } : MethodName),
  Cond.selects "SlideRules$Scale" ({ cls := "SlideRules$Scale", name := "gapBehind", desc := "(I)I" } : MethodName) ({ cls := "SlideRules$Scale", name := "gapBehind", desc := "(I)I" } : MethodName),
  Cond.code ({ cls := "SlideRules$Scale", name := "gapBehind", desc := "(I)I" } : MethodName) prog_9_method_8_code (2 : Nat) (Option.some FieldType.int),
  Cond.methodLink "SlideRules$Scale" (79 : Nat) ({ cls := "java/lang/Math", name := "abs", desc := "(I)I" } : MethodName),
  Cond.static ({ cls := "java/lang/Math", name := "abs", desc := "(I)I" } : MethodName),
  Cond.code ({ cls := "java/lang/Math", name := "abs", desc := "(I)I" } : MethodName) prog_15_method_59_code (1 : Nat) (Option.some FieldType.int),
  Cond.methodLink "SlideRules" (129 : Nat) ({ cls := "SlideRules$Scale", name := "gapBehind", desc := "(I)I" } : MethodName),
  Cond.methodLink "SlideRulesLaw" (45 : Nat) ({ cls := "SlideRules", name := "off", desc := "(I)I" } : MethodName),
  Cond.instanceMethod ({ cls := "SlideRules", name := "off", desc := "(I)I" } : MethodName),
  Cond.selects "SlideRules" ({ cls := "SlideRules", name := "off", desc := "(I)I" } : MethodName) ({ cls := "SlideRules", name := "off", desc := "(I)I" } : MethodName),
  Cond.code ({ cls := "SlideRules", name := "off", desc := "(I)I" } : MethodName) prog_1_method_9_code (3 : Nat) (Option.some FieldType.int),
  Cond.constant "SlideRules" (132 : Nat) (-200000 : Int32)]
theorem zwm_9 : ∀ w ∈ zwl_9, w ∈ zT := zsub_in 445 (by decide +kernel)
def zwl_10 : List Cond := [Cond.constant "SlideRules" (133 : Nat) (200000 : Int32),
  Cond.methodLink "SlideRulesLaw" (49 : Nat) ({ cls := "SlideRules", name := "set", desc := "(IIII)I" } : MethodName),
  Cond.instanceMethod ({ cls := "SlideRules", name := "set", desc := "(IIII)I" } : MethodName),
  Cond.selects "SlideRules" ({ cls := "SlideRules", name := "set", desc := "(IIII)I" } : MethodName) ({ cls := "SlideRules", name := "set", desc := "(IIII)I" } : MethodName),
  Cond.code ({ cls := "SlideRules", name := "set", desc := "(IIII)I" } : MethodName) prog_1_method_10_code (7 : Nat) (Option.some FieldType.int),
  Cond.methodLink "SlideRulesLaw" (53 : Nat) ({ cls := "SlideRules", name := "against", desc := "(III)I" } : MethodName),
  Cond.instanceMethod ({ cls := "SlideRules", name := "against", desc := "(III)I" } : MethodName),
  Cond.selects "SlideRules" ({ cls := "SlideRules", name := "against", desc := "(III)I" } : MethodName) ({ cls := "SlideRules", name := "against", desc := "(III)I" } : MethodName),
  Cond.code ({ cls := "SlideRules", name := "against", desc := "(III)I" } : MethodName) prog_1_method_11_code (7 : Nat) (Option.some FieldType.int),
  Cond.methodLink "SlideRulesLaw" (58 : Nat) ({ cls := "SlideRules", name := "nearest", desc := "(II)I" } : MethodName),
  Cond.instanceMethod ({ cls := "SlideRules", name := "nearest", desc := "(II)I" } : MethodName),
  Cond.selects "SlideRules" ({ cls := "SlideRules", name := "nearest", desc := "(II)I" } : MethodName) ({ cls := "SlideRules", name := "nearest", desc := "(II)I" } : MethodName),
  Cond.code ({ cls := "SlideRules", name := "nearest", desc := "(II)I" } : MethodName) prog_1_method_12_code (4 : Nat) (Option.some FieldType.int),
  Cond.methodLink "SlideRules" (138 : Nat) ({ cls := "SlideRules", name := "isAskedPlace", desc := "(I)Z" } : MethodName),
  Cond.static ({ cls := "SlideRules", name := "isAskedPlace", desc := "(I)Z" } : MethodName),
  Cond.code ({ cls := "SlideRules", name := "isAskedPlace", desc := "(I)Z" } : MethodName) prog_1_method_31_code (1 : Nat) (Option.some FieldType.boolean),
  Cond.constant "SlideRules" (263 : Nat) (-1000000 : Int32),
  Cond.constant "SlideRules" (217 : Nat) (1000000 : Int32),
  Cond.methodLink "SlideRules" (141 : Nat) ({ cls := "SlideRules$Scale", name := "nearestTo", desc := "(I)I" } : MethodName),
  Cond.instanceMethod ({ cls := "SlideRules$Scale", name := "nearestTo", desc := "(I)I" } : MethodName),
  Cond.selects "SlideRules$Scale" ({ cls := "SlideRules$Scale", name := "nearestTo", desc := "(I)I" } : MethodName) ({ cls := "SlideRules$Scale", name := "nearestTo", desc := "(I)I" } : MethodName),
  Cond.code ({ cls := "SlideRules$Scale", name := "nearestTo", desc := "(I)I" } : MethodName) prog_9_method_10_code (4 : Nat) (Option.some FieldType.int),
  Cond.methodLink "SlideRules$Scale" (87 : Nat) ({ cls := "SlideRules$Scale", name := "numberAt", desc := "(I)I" } : MethodName),
  Cond.methodLink "SlideRulesLaw" (62 : Nat) ({ cls := "SlideRules", name := "between", desc := "(II)I" } : MethodName),
  Cond.instanceMethod ({ cls := "SlideRules", name := "between", desc := "(II)I" } : MethodName),
  Cond.selects "SlideRules" ({ cls := "SlideRules", name := "between", desc := "(II)I" } : MethodName) ({ cls := "SlideRules", name := "between", desc := "(II)I" } : MethodName),
  Cond.code ({ cls := "SlideRules", name := "between", desc := "(II)I" } : MethodName) prog_1_method_13_code (4 : Nat) (Option.some FieldType.int),
  Cond.methodLink "SlideRules" (144 : Nat) ({ cls := "SlideRules$Scale", name := "readBetween", desc := "(I)I" } : MethodName),
  Cond.instanceMethod ({ cls := "SlideRules$Scale", name := "readBetween", desc := "(I)I" } : MethodName),
  Cond.selects "SlideRules$Scale" ({ cls := "SlideRules$Scale", name := "readBetween", desc := "(I)I" } : MethodName) ({ cls := "SlideRules$Scale", name := "readBetween", desc := "(I)I" } : MethodName),
  Cond.code ({ cls := "SlideRules$Scale", name := "readBetween", desc := "(I)I" } : MethodName) prog_9_method_11_code (7 : Nat) (Option.some FieldType.int),
  Cond.methodLink "SlideRules$Scale" (90 : Nat) ({ cls := "java/lang/Math", name := "min", desc := "(II)I" } : MethodName),
  Cond.static ({ cls := "java/lang/Math", name := "min", desc := "(II)I" } : MethodName),
  Cond.code ({ cls := "java/lang/Math", name := "min", desc := "(II)I" } : MethodName) prog_15_method_69_code (2 : Nat) (Option.some FieldType.int),
  Cond.methodLink "SlideRules$Scale" (94 : Nat) ({ cls := "java/lang/Math", name := "max", desc := "(II)I" } : MethodName),
  Cond.methodLink "SlideRulesLaw" (66 : Nat) ({ cls := "SlideRules", name := "factor", desc := "(I)I" } : MethodName),
  Cond.instanceMethod ({ cls := "SlideRules", name := "factor", desc := "(I)I" } : MethodName),
  Cond.selects "SlideRules" ({ cls := "SlideRules", name := "factor", desc := "(I)I" } : MethodName) ({ cls := "SlideRules", name := "factor", desc := "(I)I" } : MethodName),
  Cond.code ({ cls := "SlideRules", name := "factor", desc := "(I)I" } : MethodName) prog_1_method_14_code (2 : Nat) (Option.some FieldType.int),
  Cond.methodLink "SlideRules" (147 : Nat) ({ cls := "SlideRules", name := "isFactor", desc := "(I)Z" } : MethodName)]
theorem zwm_10 : ∀ w ∈ zwl_10, w ∈ zT := zsub_in 485 (by decide +kernel)
def zwl_11 : List Cond := [Cond.static ({ cls := "SlideRules", name := "isFactor", desc := "(I)Z" } : MethodName),
  Cond.code ({ cls := "SlideRules", name := "isFactor", desc := "(I)Z" } : MethodName) prog_1_method_30_code (1 : Nat) (Option.some FieldType.boolean),
  Cond.methodLink "SlideRules" (153 : Nat) ({ cls := "SlideRules$Row", name := "isFull", desc := "()Z" } : MethodName),
  Cond.methodLink "SlideRules" (157 : Nat) ({ cls := "SlideRules$Row", name := "append", desc := "(I)I" } : MethodName),
  Cond.methodLink "SlideRulesLaw" (70 : Nat) ({ cls := "SlideRules", name := "clear", desc := "()I" } : MethodName),
  Cond.instanceMethod ({ cls := "SlideRules", name := "clear", desc := "()I" } : MethodName),
  Cond.selects "SlideRules" ({ cls := "SlideRules", name := "clear", desc := "()I" } : MethodName) ({ cls := "SlideRules", name := "clear", desc := "()I" } : MethodName),
  Cond.code ({ cls := "SlideRules", name := "clear", desc := "()I" } : MethodName) prog_1_method_15_code (1 : Nat) (Option.some FieldType.int),
  Cond.methodLink "SlideRules" (160 : Nat) ({ cls := "SlideRules$Row", name := "empty", desc := "()I" } : MethodName),
  Cond.instanceMethod ({ cls := "SlideRules$Row", name := "empty", desc := "()I" } : MethodName),
  Cond.selects "SlideRules$Row" ({ cls := "SlideRules$Row", name := "empty", desc := "()I" } : MethodName) ({ cls := "SlideRules$Row", name := "empty", desc := "()I" } : MethodName),
  Cond.code ({ cls := "SlideRules$Row", name := "empty", desc := "()I" } : MethodName) prog_8_method_4_code (2 : Nat) (Option.some FieldType.int),
  Cond.methodLink "SlideRulesLaw" (75 : Nat) ({ cls := "SlideRules", name := "chain", desc := "(I)I" } : MethodName),
  Cond.instanceMethod ({ cls := "SlideRules", name := "chain", desc := "(I)I" } : MethodName),
  Cond.selects "SlideRules" ({ cls := "SlideRules", name := "chain", desc := "(I)I" } : MethodName) ({ cls := "SlideRules", name := "chain", desc := "(I)I" } : MethodName),
  Cond.code ({ cls := "SlideRules", name := "chain", desc := "(I)I" } : MethodName) prog_1_method_16_code (2 : Nat) (Option.some FieldType.int),
  Cond.methodLink "SlideRules" (163 : Nat) ({ cls := "SlideRules$PlainScale", name := "cutFor", desc := "(ILSlideRules$Logs;)V" } : MethodName),
  Cond.instanceMethod ({ cls := "SlideRules$PlainScale", name := "cutFor", desc := "(ILSlideRules$Logs;)V" } : MethodName),
  Cond.selects "SlideRules$PlainScale" ({ cls := "SlideRules$PlainScale", name := "cutFor", desc := "(ILSlideRules$Logs;)V" } : MethodName) ({ cls := "SlideRules$PlainScale", name := "cutFor", desc := "(ILSlideRules$Logs;)V" } : MethodName),
  Cond.code ({ cls := "SlideRules$PlainScale", name := "cutFor", desc := "(ILSlideRules$Logs;)V" } : MethodName) prog_7_method_2_code (4 : Nat) (Option.none : Option FieldType),
  Cond.methodLink "SlideRules$PlainScale" (19 : Nat) ({ cls := "SlideRules$Logs", name := "placeOf", desc := "(IIII)I" } : MethodName),
  Cond.methodLink "SlideRules" (166 : Nat) ({ cls := "SlideRules$Chain", name := "walk", desc := "(LSlideRules$PlainScale;)V" } : MethodName),
  Cond.instanceMethod ({ cls := "SlideRules$Chain", name := "walk", desc := "(LSlideRules$PlainScale;)V" } : MethodName),
  Cond.selects "SlideRules$Chain" ({ cls := "SlideRules$Chain", name := "walk", desc := "(LSlideRules$PlainScale;)V" } : MethodName) ({ cls := "SlideRules$Chain", name := "walk", desc := "(LSlideRules$PlainScale;)V" } : MethodName),
  Cond.code ({ cls := "SlideRules$Chain", name := "walk", desc := "(LSlideRules$PlainScale;)V" } : MethodName) prog_2_method_4_code (3 : Nat) (Option.none : Option FieldType),
  Cond.methodLink "SlideRules$Chain" (40 : Nat) ({ cls := "SlideRules$Chain", name := "begin", desc := "()V" } : MethodName),
  Cond.instanceMethod ({ cls := "SlideRules$Chain", name := "begin", desc := "()V" } : MethodName),
  Cond.selects "SlideRules$Chain" ({ cls := "SlideRules$Chain", name := "begin", desc := "()V" } : MethodName) ({ cls := "SlideRules$Chain", name := "begin", desc := "()V" } : MethodName),
  Cond.code ({ cls := "SlideRules$Chain", name := "begin", desc := "()V" } : MethodName) prog_2_method_2_code (1 : Nat) (Option.none : Option FieldType),
  Cond.methodLink "SlideRules$Chain" (50 : Nat) ({ cls := "SlideRules$Chain", name := "move", desc := "(ILSlideRules$PlainScale;)V" } : MethodName),
  Cond.instanceMethod ({ cls := "SlideRules$Chain", name := "move", desc := "(ILSlideRules$PlainScale;)V" } : MethodName),
  Cond.selects "SlideRules$Chain" ({ cls := "SlideRules$Chain", name := "move", desc := "(ILSlideRules$PlainScale;)V" } : MethodName) ({ cls := "SlideRules$Chain", name := "move", desc := "(ILSlideRules$PlainScale;)V" } : MethodName),
  Cond.code ({ cls := "SlideRules$Chain", name := "move", desc := "(ILSlideRules$PlainScale;)V" } : MethodName) prog_2_method_3_code (3 : Nat) (Option.none : Option FieldType),
  Cond.methodLink "SlideRules$Chain" (31 : Nat) ({ cls := "SlideRules$PlainScale", name := "placeOf", desc := "(I)I" } : MethodName),
  Cond.instanceMethod ({ cls := "SlideRules$PlainScale", name := "placeOf", desc := "(I)I" } : MethodName),
  Cond.selects "SlideRules$PlainScale" ({ cls := "SlideRules$PlainScale", name := "placeOf", desc := "(I)I" } : MethodName) ({ cls := "SlideRules$PlainScale", name := "placeOf", desc := "(I)I" } : MethodName),
  Cond.code ({ cls := "SlideRules$PlainScale", name := "placeOf", desc := "(I)I" } : MethodName) prog_7_method_3_code (2 : Nat) (Option.some FieldType.int),
  Cond.methodLink "SlideRules" (173 : Nat) ({ cls := "SlideRules$PlainScale", name := "readingOf", desc := "(I)I" } : MethodName),
  Cond.instanceMethod ({ cls := "SlideRules$PlainScale", name := "readingOf", desc := "(I)I" } : MethodName),
  Cond.selects "SlideRules$PlainScale" ({ cls := "SlideRules$PlainScale", name := "readingOf", desc := "(I)I" } : MethodName) ({ cls := "SlideRules$PlainScale", name := "readingOf", desc := "(I)I" } : MethodName)]
theorem zwm_11 : ∀ w ∈ zwl_11, w ∈ zT := zsub_in 525 (by decide +kernel)
def zwl_12 : List Cond := [Cond.code ({ cls := "SlideRules$PlainScale", name := "readingOf", desc := "(I)I" } : MethodName) prog_7_method_5_code (4 : Nat) (Option.some FieldType.int),
  Cond.methodLink "SlideRules$PlainScale" (29 : Nat) ({ cls := "SlideRules$PlainScale", name := "firstFrom", desc := "(I)I" } : MethodName),
  Cond.instanceMethod ({ cls := "SlideRules$PlainScale", name := "firstFrom", desc := "(I)I" } : MethodName),
  Cond.code ({ cls := "SlideRules$PlainScale", name := "firstFrom", desc := "(I)I" } : MethodName) prog_7_method_4_code (5 : Nat) (Option.some FieldType.int),
  Cond.methodLink "SlideRules" (176 : Nat) ({ cls := "SlideRules$Chain", name := "truth", desc := "()I" } : MethodName),
  Cond.instanceMethod ({ cls := "SlideRules$Chain", name := "truth", desc := "()I" } : MethodName),
  Cond.selects "SlideRules$Chain" ({ cls := "SlideRules$Chain", name := "truth", desc := "()I" } : MethodName) ({ cls := "SlideRules$Chain", name := "truth", desc := "()I" } : MethodName),
  Cond.code ({ cls := "SlideRules$Chain", name := "truth", desc := "()I" } : MethodName) prog_2_method_5_code (2 : Nat) (Option.some FieldType.int),
  Cond.methodLink "SlideRules$Chain" (54 : Nat) ({ cls := "SlideRules$Chain", name := "multiplyOut", desc := "()V" } : MethodName),
  Cond.instanceMethod ({ cls := "SlideRules$Chain", name := "multiplyOut", desc := "()V" } : MethodName),
  Cond.code ({ cls := "SlideRules$Chain", name := "multiplyOut", desc := "()V" } : MethodName) prog_2_method_6_code (7 : Nat) (Option.none : Option FieldType),
  Cond.constantLong "SlideRules$Chain" (57 : Nat) (1000000000 : Int64),
  Cond.methodLink "SlideRules$Chain" (59 : Nat) ({ cls := "SlideRules$Chain", name := "firstThree", desc := "(J)I" } : MethodName),
  Cond.static ({ cls := "SlideRules$Chain", name := "firstThree", desc := "(J)I" } : MethodName),
  Cond.code ({ cls := "SlideRules$Chain", name := "firstThree", desc := "(J)I" } : MethodName) prog_2_method_7_code (4 : Nat) (Option.some FieldType.int),
  Cond.constantLong "SlideRules$Chain" (63 : Nat) (999 : Int64),
  Cond.constantLong "SlideRules$Chain" (65 : Nat) (10 : Int64),
  Cond.methodLink "SlideRulesLaw" (79 : Nat) ({ cls := "SlideRules", name := "pairs", desc := "(IIII)I" } : MethodName),
  Cond.instanceMethod ({ cls := "SlideRules", name := "pairs", desc := "(IIII)I" } : MethodName),
  Cond.selects "SlideRules" ({ cls := "SlideRules", name := "pairs", desc := "(IIII)I" } : MethodName) ({ cls := "SlideRules", name := "pairs", desc := "(IIII)I" } : MethodName),
  Cond.code ({ cls := "SlideRules", name := "pairs", desc := "(IIII)I" } : MethodName) prog_1_method_17_code (5 : Nat) (Option.some FieldType.int),
  Cond.methodLink "SlideRules" (182 : Nat) ({ cls := "SlideRules$PairSums", name := "sumUp", desc := "(IIILSlideRules$PlainScale;)V" } : MethodName),
  Cond.instanceMethod ({ cls := "SlideRules$PairSums", name := "sumUp", desc := "(IIILSlideRules$PlainScale;)V" } : MethodName),
  Cond.selects "SlideRules$PairSums" ({ cls := "SlideRules$PairSums", name := "sumUp", desc := "(IIILSlideRules$PlainScale;)V" } : MethodName) ({ cls := "SlideRules$PairSums", name := "sumUp", desc := "(IIILSlideRules$PlainScale;)V" } : MethodName),
  Cond.code ({ cls := "SlideRules$PairSums", name := "sumUp", desc := "(IIILSlideRules$PlainScale;)V" } : MethodName) prog_6_method_2_code (7 : Nat) (Option.none : Option FieldType),
  Cond.methodLink "SlideRules$PairSums" (52 : Nat) ({ cls := "SlideRules$PairSums", name := "take", desc := "(IILSlideRules$PlainScale;)V" } : MethodName),
  Cond.instanceMethod ({ cls := "SlideRules$PairSums", name := "take", desc := "(IILSlideRules$PlainScale;)V" } : MethodName),
  Cond.code ({ cls := "SlideRules$PairSums", name := "take", desc := "(IILSlideRules$PlainScale;)V" } : MethodName) prog_6_method_3_code (5 : Nat) (Option.none : Option FieldType),
  Cond.methodLink "SlideRules$PairSums" (56 : Nat) ({ cls := "SlideRules$Chain", name := "begin", desc := "()V" } : MethodName),
  Cond.methodLink "SlideRules$PairSums" (59 : Nat) ({ cls := "SlideRules$Chain", name := "move", desc := "(ILSlideRules$PlainScale;)V" } : MethodName),
  Cond.methodLink "SlideRules$PairSums" (66 : Nat) ({ cls := "SlideRules$PlainScale", name := "readingOf", desc := "(I)I" } : MethodName),
  Cond.methodLink "SlideRules$PairSums" (70 : Nat) ({ cls := "SlideRules$Chain", name := "firstThree", desc := "(J)I" } : MethodName),
  Cond.methodLink "SlideRules$PairSums" (74 : Nat) ({ cls := "java/lang/Math", name := "abs", desc := "(I)I" } : MethodName),
  Cond.methodLink "SlideRulesLaw" (83 : Nat) ({ cls := "SlideRules", name := "fewest", desc := "(III)I" } : MethodName),
  Cond.instanceMethod ({ cls := "SlideRules", name := "fewest", desc := "(III)I" } : MethodName),
  Cond.selects "SlideRules" ({ cls := "SlideRules", name := "fewest", desc := "(III)I" } : MethodName) ({ cls := "SlideRules", name := "fewest", desc := "(III)I" } : MethodName),
  Cond.code ({ cls := "SlideRules", name := "fewest", desc := "(III)I" } : MethodName) prog_1_method_18_code (4 : Nat) (Option.some FieldType.int),
  Cond.methodLink "SlideRules" (202 : Nat) ({ cls := "SlideRules", name := "isPower", desc := "(I)Z" } : MethodName),
  Cond.static ({ cls := "SlideRules", name := "isPower", desc := "(I)Z" } : MethodName),
  Cond.code ({ cls := "SlideRules", name := "isPower", desc := "(I)Z" } : MethodName) prog_1_method_32_code (1 : Nat) (Option.some FieldType.boolean)]
theorem zwm_12 : ∀ w ∈ zwl_12, w ∈ zT := zsub_in 566 (by decide +kernel)
def zwl_13 : List Cond := [Cond.methodLink "SlideRules" (205 : Nat) ({ cls := "SlideRules", name := "aimSettings", desc := "(III)V" } : MethodName),
  Cond.instanceMethod ({ cls := "SlideRules", name := "aimSettings", desc := "(III)V" } : MethodName),
  Cond.code ({ cls := "SlideRules", name := "aimSettings", desc := "(III)V" } : MethodName) prog_1_method_35_code (5 : Nat) (Option.none : Option FieldType),
  Cond.methodLink "SlideRules" (264 : Nat) ({ cls := "SlideRules$Settings", name := "forgetParts", desc := "()V" } : MethodName),
  Cond.instanceMethod ({ cls := "SlideRules$Settings", name := "forgetParts", desc := "()V" } : MethodName),
  Cond.selects "SlideRules$Settings" ({ cls := "SlideRules$Settings", name := "forgetParts", desc := "()V" } : MethodName) ({ cls := "SlideRules$Settings", name := "forgetParts", desc := "()V" } : MethodName),
  Cond.code ({ cls := "SlideRules$Settings", name := "forgetParts", desc := "()V" } : MethodName) prog_10_method_2_code (2 : Nat) (Option.none : Option FieldType),
  Cond.methodLink "SlideRules" (273 : Nat) ({ cls := "SlideRules$Settings", name := "allow", desc := "(IZ)V" } : MethodName),
  Cond.instanceMethod ({ cls := "SlideRules$Settings", name := "allow", desc := "(IZ)V" } : MethodName),
  Cond.selects "SlideRules$Settings" ({ cls := "SlideRules$Settings", name := "allow", desc := "(IZ)V" } : MethodName) ({ cls := "SlideRules$Settings", name := "allow", desc := "(IZ)V" } : MethodName),
  Cond.code ({ cls := "SlideRules$Settings", name := "allow", desc := "(IZ)V" } : MethodName) prog_10_method_3_code (3 : Nat) (Option.none : Option FieldType),
  Cond.methodLink "SlideRules" (277 : Nat) ({ cls := "SlideRules$Settings", name := "aimAt", desc := "(III)V" } : MethodName),
  Cond.instanceMethod ({ cls := "SlideRules$Settings", name := "aimAt", desc := "(III)V" } : MethodName),
  Cond.selects "SlideRules$Settings" ({ cls := "SlideRules$Settings", name := "aimAt", desc := "(III)V" } : MethodName) ({ cls := "SlideRules$Settings", name := "aimAt", desc := "(III)V" } : MethodName),
  Cond.code ({ cls := "SlideRules$Settings", name := "aimAt", desc := "(III)V" } : MethodName) prog_10_method_4_code (4 : Nat) (Option.none : Option FieldType),
  Cond.methodLink "SlideRules$Settings" (27 : Nat) ({ cls := "SlideRules$Settings", name := "measure", desc := "([II)V" } : MethodName),
  Cond.instanceMethod ({ cls := "SlideRules$Settings", name := "measure", desc := "([II)V" } : MethodName),
  Cond.code ({ cls := "SlideRules$Settings", name := "measure", desc := "([II)V" } : MethodName) prog_10_method_5_code (5 : Nat) (Option.none : Option FieldType),
  Cond.methodLink "SlideRules$Settings" (31 : Nat) ({ cls := "SlideRules$Settings", name := "reachBack", desc := "([II)V" } : MethodName),
  Cond.instanceMethod ({ cls := "SlideRules$Settings", name := "reachBack", desc := "([II)V" } : MethodName),
  Cond.code ({ cls := "SlideRules$Settings", name := "reachBack", desc := "([II)V" } : MethodName) prog_10_method_6_code (4 : Nat) (Option.none : Option FieldType),
  Cond.methodLink "SlideRules" (208 : Nat) ({ cls := "SlideRules$Settings", name := "fewestToGoal", desc := "()I" } : MethodName),
  Cond.instanceMethod ({ cls := "SlideRules$Settings", name := "fewestToGoal", desc := "()I" } : MethodName),
  Cond.selects "SlideRules$Settings" ({ cls := "SlideRules$Settings", name := "fewestToGoal", desc := "()I" } : MethodName) ({ cls := "SlideRules$Settings", name := "fewestToGoal", desc := "()I" } : MethodName),
  Cond.code ({ cls := "SlideRules$Settings", name := "fewestToGoal", desc := "()I" } : MethodName) prog_10_method_7_code (3 : Nat) (Option.some FieldType.int),
  Cond.methodLink "SlideRulesLaw" (87 : Nat) ({ cls := "SlideRules", name := "setting", desc := "(IIII)I" } : MethodName),
  Cond.instanceMethod ({ cls := "SlideRules", name := "setting", desc := "(IIII)I" } : MethodName),
  Cond.selects "SlideRules" ({ cls := "SlideRules", name := "setting", desc := "(IIII)I" } : MethodName) ({ cls := "SlideRules", name := "setting", desc := "(IIII)I" } : MethodName),
  Cond.code ({ cls := "SlideRules", name := "setting", desc := "(IIII)I" } : MethodName) prog_1_method_19_code (5 : Nat) (Option.some FieldType.int),
  Cond.methodLink "SlideRules" (211 : Nat) ({ cls := "SlideRules$Settings", name := "codeAt", desc := "(I)I" } : MethodName),
  Cond.instanceMethod ({ cls := "SlideRules$Settings", name := "codeAt", desc := "(I)I" } : MethodName),
  Cond.selects "SlideRules$Settings" ({ cls := "SlideRules$Settings", name := "codeAt", desc := "(I)I" } : MethodName) ({ cls := "SlideRules$Settings", name := "codeAt", desc := "(I)I" } : MethodName),
  Cond.code ({ cls := "SlideRules$Settings", name := "codeAt", desc := "(I)I" } : MethodName) prog_10_method_8_code (4 : Nat) (Option.some FieldType.int),
  Cond.methodLink "SlideRules$Settings" (34 : Nat) ({ cls := "SlideRules$Settings", name := "fewestToGoal", desc := "()I" } : MethodName),
  Cond.methodLink "SlideRules$Settings" (38 : Nat) ({ cls := "SlideRules$Settings", name := "makeFirst", desc := "()I" } : MethodName),
  Cond.instanceMethod ({ cls := "SlideRules$Settings", name := "makeFirst", desc := "()I" } : MethodName),
  Cond.code ({ cls := "SlideRules$Settings", name := "makeFirst", desc := "()I" } : MethodName) prog_10_method_9_code (5 : Nat) (Option.some FieldType.int),
  Cond.methodLink "SlideRules$Settings" (41 : Nat) ({ cls := "SlideRules$Settings", name := "isNearer", desc := "(II)Z" } : MethodName),
  Cond.instanceMethod ({ cls := "SlideRules$Settings", name := "isNearer", desc := "(II)Z" } : MethodName),
  Cond.code ({ cls := "SlideRules$Settings", name := "isNearer", desc := "(II)Z" } : MethodName) prog_10_method_10_code (3 : Nat) (Option.some FieldType.boolean)]
theorem zwm_13 : ∀ w ∈ zwl_13, w ∈ zT := zsub_in 609 (by decide +kernel)
def zwl_14 : List Cond := [Cond.methodLink "SlideRulesLaw" (91 : Nat) ({ cls := "SlideRules", name := "cut", desc := "(II)I" } : MethodName),
  Cond.instanceMethod ({ cls := "SlideRules", name := "cut", desc := "(II)I" } : MethodName),
  Cond.selects "SlideRules" ({ cls := "SlideRules", name := "cut", desc := "(II)I" } : MethodName) ({ cls := "SlideRules", name := "cut", desc := "(II)I" } : MethodName),
  Cond.code ({ cls := "SlideRules", name := "cut", desc := "(II)I" } : MethodName) prog_1_method_20_code (3 : Nat) (Option.some FieldType.int),
  Cond.methodLink "SlideRules" (214 : Nat) ({ cls := "SlideRules", name := "isStrip", desc := "(I)Z" } : MethodName),
  Cond.static ({ cls := "SlideRules", name := "isStrip", desc := "(I)Z" } : MethodName),
  Cond.code ({ cls := "SlideRules", name := "isStrip", desc := "(I)Z" } : MethodName) prog_1_method_33_code (1 : Nat) (Option.some FieldType.boolean),
  Cond.methodLink "SlideRules" (221 : Nat) ({ cls := "SlideRules$Row", name := "last", desc := "()I" } : MethodName),
  Cond.instanceMethod ({ cls := "SlideRules$Row", name := "last", desc := "()I" } : MethodName),
  Cond.selects "SlideRules$Row" ({ cls := "SlideRules$Row", name := "last", desc := "()I" } : MethodName) ({ cls := "SlideRules$Row", name := "last", desc := "()I" } : MethodName),
  Cond.code ({ cls := "SlideRules$Row", name := "last", desc := "()I" } : MethodName) prog_8_method_5_code (1 : Nat) (Option.some FieldType.int),
  Cond.methodLink "SlideRulesLaw" (95 : Nat) ({ cls := "SlideRules", name := "wipe", desc := "(I)I" } : MethodName),
  Cond.instanceMethod ({ cls := "SlideRules", name := "wipe", desc := "(I)I" } : MethodName),
  Cond.selects "SlideRules" ({ cls := "SlideRules", name := "wipe", desc := "(I)I" } : MethodName) ({ cls := "SlideRules", name := "wipe", desc := "(I)I" } : MethodName),
  Cond.code ({ cls := "SlideRules", name := "wipe", desc := "(I)I" } : MethodName) prog_1_method_21_code (2 : Nat) (Option.some FieldType.int),
  Cond.methodLink "SlideRulesLaw" (99 : Nat) ({ cls := "SlideRules", name := "chosen", desc := "(III)I" } : MethodName),
  Cond.instanceMethod ({ cls := "SlideRules", name := "chosen", desc := "(III)I" } : MethodName),
  Cond.selects "SlideRules" ({ cls := "SlideRules", name := "chosen", desc := "(III)I" } : MethodName) ({ cls := "SlideRules", name := "chosen", desc := "(III)I" } : MethodName),
  Cond.code ({ cls := "SlideRules", name := "chosen", desc := "(III)I" } : MethodName) prog_1_method_22_code (4 : Nat) (Option.some FieldType.int),
  Cond.methodLink "SlideRules" (225 : Nat) ({ cls := "SlideRules$Strip", name := "choose", desc := "(II)I" } : MethodName),
  Cond.instanceMethod ({ cls := "SlideRules$Strip", name := "choose", desc := "(II)I" } : MethodName),
  Cond.selects "SlideRules$Strip" ({ cls := "SlideRules$Strip", name := "choose", desc := "(II)I" } : MethodName) ({ cls := "SlideRules$Strip", name := "choose", desc := "(II)I" } : MethodName),
  Cond.code ({ cls := "SlideRules$Strip", name := "choose", desc := "(II)I" } : MethodName) prog_11_method_2_code (7 : Nat) (Option.some FieldType.int),
  Cond.methodLink "SlideRulesLaw" (103 : Nat) ({ cls := "SlideRules", name := "match", desc := "(I)I" } : MethodName),
  Cond.instanceMethod ({ cls := "SlideRules", name := "match", desc := "(I)I" } : MethodName),
  Cond.selects "SlideRules" ({ cls := "SlideRules", name := "match", desc := "(I)I" } : MethodName) ({ cls := "SlideRules", name := "match", desc := "(I)I" } : MethodName),
  Cond.code ({ cls := "SlideRules", name := "match", desc := "(I)I" } : MethodName) prog_1_method_23_code (2 : Nat) (Option.some FieldType.int),
  Cond.methodLink "SlideRules" (229 : Nat) ({ cls := "SlideRules$Match", name := "find", desc := "(LSlideRules$Row;LSlideRules$Row;)V" } : MethodName),
  Cond.instanceMethod ({ cls := "SlideRules$Match", name := "find", desc := "(LSlideRules$Row;LSlideRules$Row;)V" } : MethodName),
  Cond.selects "SlideRules$Match" ({ cls := "SlideRules$Match", name := "find", desc := "(LSlideRules$Row;LSlideRules$Row;)V" } : MethodName) ({ cls := "SlideRules$Match", name := "find", desc := "(LSlideRules$Row;LSlideRules$Row;)V" } : MethodName),
  Cond.code ({ cls := "SlideRules$Match", name := "find", desc := "(LSlideRules$Row;LSlideRules$Row;)V" } : MethodName) prog_5_method_2_code (5 : Nat) (Option.none : Option FieldType),
  Cond.methodLink "SlideRules$Match" (21 : Nat) ({ cls := "java/lang/Math", name := "min", desc := "(II)I" } : MethodName),
  Cond.methodLink "SlideRules$Match" (31 : Nat) ({ cls := "SlideRules$Match", name := "alike", desc := "(LSlideRules$Row;ILSlideRules$Row;I)I" } : MethodName),
  Cond.static ({ cls := "SlideRules$Match", name := "alike", desc := "(LSlideRules$Row;ILSlideRules$Row;I)I" } : MethodName),
  Cond.code ({ cls := "SlideRules$Match", name := "alike", desc := "(LSlideRules$Row;ILSlideRules$Row;I)I" } : MethodName) prog_5_method_3_code (9 : Nat) (Option.some FieldType.int),
  Cond.methodLink "SlideRules$Match" (35 : Nat) ({ cls := "SlideRules$Match", name := "weigh", desc := "(II)V" } : MethodName),
  Cond.instanceMethod ({ cls := "SlideRules$Match", name := "weigh", desc := "(II)V" } : MethodName),
  Cond.code ({ cls := "SlideRules$Match", name := "weigh", desc := "(II)V" } : MethodName) prog_5_method_4_code (5 : Nat) (Option.none : Option FieldType),
  Cond.methodLink "SlideRules$Match" (39 : Nat) ({ cls := "java/lang/Math", name := "abs", desc := "(I)I" } : MethodName),
  Cond.methodLink "SlideRulesLaw" (107 : Nat) ({ cls := "SlideRules", name := "law", desc := "(II)I" } : MethodName)]
theorem zwm_14 : ∀ w ∈ zwl_14, w ∈ zT := zsub_in 654 (by decide +kernel)
def zwl_15 : List Cond := [Cond.instanceMethod ({ cls := "SlideRules", name := "law", desc := "(II)I" } : MethodName),
  Cond.selects "SlideRules" ({ cls := "SlideRules", name := "law", desc := "(II)I" } : MethodName) ({ cls := "SlideRules", name := "law", desc := "(II)I" } : MethodName),
  Cond.code ({ cls := "SlideRules", name := "law", desc := "(II)I" } : MethodName) prog_1_method_24_code (3 : Nat) (Option.some FieldType.int),
  Cond.methodLink "SlideRules" (237 : Nat) ({ cls := "SlideRules$Laws", name := "isLaw", desc := "(I)Z" } : MethodName),
  Cond.static ({ cls := "SlideRules$Laws", name := "isLaw", desc := "(I)Z" } : MethodName),
  Cond.code ({ cls := "SlideRules$Laws", name := "isLaw", desc := "(I)Z" } : MethodName) prog_3_method_2_code (1 : Nat) (Option.some FieldType.boolean),
  Cond.methodLink "SlideRules" (240 : Nat) ({ cls := "SlideRules$Laws", name := "placeOf", desc := "(III)I" } : MethodName),
  Cond.static ({ cls := "SlideRules$Laws", name := "placeOf", desc := "(III)I" } : MethodName),
  Cond.code ({ cls := "SlideRules$Laws", name := "placeOf", desc := "(III)I" } : MethodName) prog_3_method_5_code (7 : Nat) (Option.some FieldType.int),
  Cond.methodLink "SlideRules$Laws" (16 : Nat) ({ cls := "SlideRules$Laws", name := "inOrder", desc := "(II)I" } : MethodName),
  Cond.static ({ cls := "SlideRules$Laws", name := "inOrder", desc := "(II)I" } : MethodName),
  Cond.code ({ cls := "SlideRules$Laws", name := "inOrder", desc := "(II)I" } : MethodName) prog_3_method_4_code (2 : Nat) (Option.some FieldType.int),
  Cond.methodLink "SlideRules$Laws" (20 : Nat) ({ cls := "SlideRules$Laws", name := "numberOf", desc := "(II)J" } : MethodName),
  Cond.static ({ cls := "SlideRules$Laws", name := "numberOf", desc := "(II)J" } : MethodName),
  Cond.code ({ cls := "SlideRules$Laws", name := "numberOf", desc := "(II)J" } : MethodName) prog_3_method_3_code (2 : Nat) (Option.some FieldType.long),
  Cond.constant "SlideRules$Laws" (13 : Nat) (1000000 : Int32),
  Cond.constantLong "SlideRules$Laws" (14 : Nat) (2 : Int64),
  Cond.methodLink "SlideRulesLaw" (111 : Nat) ({ cls := "SlideRules", name := "doubled", desc := "(I)I" } : MethodName),
  Cond.instanceMethod ({ cls := "SlideRules", name := "doubled", desc := "(I)I" } : MethodName),
  Cond.selects "SlideRules" ({ cls := "SlideRules", name := "doubled", desc := "(I)I" } : MethodName) ({ cls := "SlideRules", name := "doubled", desc := "(I)I" } : MethodName),
  Cond.code ({ cls := "SlideRules", name := "doubled", desc := "(I)I" } : MethodName) prog_1_method_25_code (2 : Nat) (Option.some FieldType.int),
  Cond.methodLink "SlideRules" (243 : Nat) ({ cls := "SlideRules$Laws", name := "doublesOf", desc := "(II)I" } : MethodName),
  Cond.instanceMethod ({ cls := "SlideRules$Laws", name := "doublesOf", desc := "(II)I" } : MethodName),
  Cond.selects "SlideRules$Laws" ({ cls := "SlideRules$Laws", name := "doublesOf", desc := "(II)I" } : MethodName) ({ cls := "SlideRules$Laws", name := "doublesOf", desc := "(II)I" } : MethodName),
  Cond.code ({ cls := "SlideRules$Laws", name := "doublesOf", desc := "(II)I" } : MethodName) prog_3_method_6_code (5 : Nat) (Option.some FieldType.int),
  Cond.methodLink "SlideRules$Laws" (24 : Nat) ({ cls := "SlideRules$Laws", name := "placeOf", desc := "(III)I" } : MethodName),
  Cond.methodLink "SlideRules$Laws" (28 : Nat) ({ cls := "SlideRules$Laws", name := "doublesFrom", desc := "(I)I" } : MethodName),
  Cond.instanceMethod ({ cls := "SlideRules$Laws", name := "doublesFrom", desc := "(I)I" } : MethodName),
  Cond.code ({ cls := "SlideRules$Laws", name := "doublesFrom", desc := "(I)I" } : MethodName) prog_3_method_7_code (6 : Nat) (Option.some FieldType.int),
  Cond.methodLink "SlideRulesLaw" (115 : Nat) ({ cls := "SlideRules", name := "count", desc := "(I)I" } : MethodName),
  Cond.instanceMethod ({ cls := "SlideRules", name := "count", desc := "(I)I" } : MethodName),
  Cond.selects "SlideRules" ({ cls := "SlideRules", name := "count", desc := "(I)I" } : MethodName) ({ cls := "SlideRules", name := "count", desc := "(I)I" } : MethodName),
  Cond.code ({ cls := "SlideRules", name := "count", desc := "(I)I" } : MethodName) prog_1_method_26_code (2 : Nat) (Option.some FieldType.int),
  Cond.methodLink "SlideRules" (246 : Nat) ({ cls := "SlideRules", name := "scalesOnSlide", desc := "()I" } : MethodName),
  Cond.instanceMethod ({ cls := "SlideRules", name := "scalesOnSlide", desc := "()I" } : MethodName),
  Cond.code ({ cls := "SlideRules", name := "scalesOnSlide", desc := "()I" } : MethodName) prog_1_method_34_code (3 : Nat) (Option.some FieldType.int),
  Cond.methodLink "SlideRulesLaw" (119 : Nat) ({ cls := "SlideRules", name := "digest", desc := "()J" } : MethodName),
  Cond.instanceMethod ({ cls := "SlideRules", name := "digest", desc := "()J" } : MethodName),
  Cond.selects "SlideRules" ({ cls := "SlideRules", name := "digest", desc := "()J" } : MethodName) ({ cls := "SlideRules", name := "digest", desc := "()J" } : MethodName),
  Cond.code ({ cls := "SlideRules", name := "digest", desc := "()J" } : MethodName) prog_1_method_27_code (4 : Nat) (Option.some FieldType.long)]
theorem zwm_15 : ∀ w ∈ zwl_15, w ∈ zT := zsub_in 695 (by decide +kernel)
def zwl_16 : List Cond := [Cond.constantLong "SlideRules" (249 : Nat) (349 : Int64),
  Cond.constantLong "SlideRules" (251 : Nat) (31 : Int64),
  Cond.methodLink "SlideRules" (253 : Nat) ({ cls := "SlideRules", name := "count", desc := "(I)I" } : MethodName),
  Cond.methodLink "SlideRules" (256 : Nat) ({ cls := "SlideRules$Scale", name := "digestOnto", desc := "(J)J" } : MethodName),
  Cond.instanceMethod ({ cls := "SlideRules$Scale", name := "digestOnto", desc := "(J)J" } : MethodName),
  Cond.selects "SlideRules$Scale" ({ cls := "SlideRules$Scale", name := "digestOnto", desc := "(J)J" } : MethodName) ({ cls := "SlideRules$Scale", name := "digestOnto", desc := "(J)J" } : MethodName),
  Cond.code ({ cls := "SlideRules$Scale", name := "digestOnto", desc := "(J)J" } : MethodName) prog_9_method_12_code (4 : Nat) (Option.some FieldType.long),
  Cond.constantLong "SlideRules$Scale" (97 : Nat) (31 : Int64),
  Cond.methodLink "SlideRules" (260 : Nat) ({ cls := "SlideRules", name := "place", desc := "(II)I" } : MethodName),
  Cond.methodLink "SlideRules" (262 : Nat) ({ cls := "SlideRules$Row", name := "digestOnto", desc := "(J)J" } : MethodName),
  Cond.instanceMethod ({ cls := "SlideRules$Row", name := "digestOnto", desc := "(J)J" } : MethodName),
  Cond.selects "SlideRules$Row" ({ cls := "SlideRules$Row", name := "digestOnto", desc := "(J)J" } : MethodName) ({ cls := "SlideRules$Row", name := "digestOnto", desc := "(J)J" } : MethodName),
  Cond.code ({ cls := "SlideRules$Row", name := "digestOnto", desc := "(J)J" } : MethodName) prog_8_method_6_code (4 : Nat) (Option.some FieldType.long),
  Cond.constantLong "SlideRules$Row" (29 : Nat) (31 : Int64),
  Cond.classLink "SlideRulesLaw" (10 : Nat) "SlideRulesModel",
  Cond.instantiable "SlideRulesModel" (30 : Nat),
  Cond.methodLink "SlideRulesLaw" (12 : Nat) ({ cls := "SlideRulesModel", name := "<init>", desc := "()V" } : MethodName),
  Cond.instanceMethod ({ cls := "SlideRulesModel", name := "<init>", desc := "()V" } : MethodName),
  Cond.code ({ cls := "SlideRulesModel", name := "<init>", desc := "()V" } : MethodName) prog_14_method_1_code (2 : Nat) (Option.none : Option FieldType),
  Cond.methodLink "SlideRulesModel" (1 : Nat) ({ cls := "java/lang/Object", name := "<init>", desc := "()V" } : MethodName),
  Cond.constant "SlideRulesModel" (73 : Nat) (800008 : Int32),
  Cond.constantLong "SlideRulesModel" (89 : Nat) (2 : Int64),
  Cond.methodLink "SlideRulesModel" (91 : Nat) ({ cls := "SlideRulesModel", name := "natural", desc := "(JJ[J)V" } : MethodName),
  Cond.instanceMethod ({ cls := "SlideRulesModel", name := "natural", desc := "(JJ[J)V" } : MethodName),
  Cond.code ({ cls := "SlideRulesModel", name := "natural", desc := "(JJ[J)V" } : MethodName) prog_14_method_11_code (12 : Nat) (Option.none : Option FieldType),
  Cond.methodLink "SlideRulesModel" (107 : Nat) ({ cls := "SlideRulesModel", name := "sets", desc := "([JJ)V" } : MethodName),
  Cond.static ({ cls := "SlideRulesModel", name := "sets", desc := "([JJ)V" } : MethodName),
  Cond.code ({ cls := "SlideRulesModel", name := "sets", desc := "([JJ)V" } : MethodName) prog_14_method_3_code (4 : Nat) (Option.none : Option FieldType),
  Cond.methodLink "SlideRulesModel" (111 : Nat) ({ cls := "SlideRulesModel", name := "divides", desc := "([JJ)V" } : MethodName),
  Cond.static ({ cls := "SlideRulesModel", name := "divides", desc := "([JJ)V" } : MethodName),
  Cond.code ({ cls := "SlideRulesModel", name := "divides", desc := "([JJ)V" } : MethodName) prog_14_method_8_code (8 : Nat) (Option.none : Option FieldType),
  Cond.constantLong "SlideRulesModel" (103 : Nat) (1000000000 : Int64),
  Cond.methodLink "SlideRulesModel" (114 : Nat) ({ cls := "SlideRulesModel", name := "isNought", desc := "([J)Z" } : MethodName),
  Cond.static ({ cls := "SlideRulesModel", name := "isNought", desc := "([J)Z" } : MethodName),
  Cond.code ({ cls := "SlideRulesModel", name := "isNought", desc := "([J)Z" } : MethodName) prog_14_method_9_code (3 : Nat) (Option.some FieldType.boolean),
  Cond.methodLink "SlideRulesModel" (118 : Nat) ({ cls := "SlideRulesModel", name := "copies", desc := "([J[J)V" } : MethodName),
  Cond.static ({ cls := "SlideRulesModel", name := "copies", desc := "([J[J)V" } : MethodName),
  Cond.code ({ cls := "SlideRulesModel", name := "copies", desc := "([J[J)V" } : MethodName) prog_14_method_4_code (3 : Nat) (Option.none : Option FieldType),
  Cond.methodLink "SlideRulesModel" (99 : Nat) ({ cls := "SlideRulesModel", name := "adds", desc := "([J[J)V" } : MethodName),
  Cond.static ({ cls := "SlideRulesModel", name := "adds", desc := "([J[J)V" } : MethodName)]
theorem zwm_16 : ∀ w ∈ zwl_16, w ∈ zT := zsub_in 737 (by decide +kernel)
def zwl_17 : List Cond := [Cond.code ({ cls := "SlideRulesModel", name := "adds", desc := "([J[J)V" } : MethodName) prog_14_method_5_code (7 : Nat) (Option.none : Option FieldType),
  Cond.methodLink "SlideRulesModel" (121 : Nat) ({ cls := "SlideRulesModel", name := "times", desc := "([JJ)V" } : MethodName),
  Cond.static ({ cls := "SlideRulesModel", name := "times", desc := "([JJ)V" } : MethodName),
  Cond.code ({ cls := "SlideRulesModel", name := "times", desc := "([JJ)V" } : MethodName) prog_14_method_7_code (10 : Nat) (Option.none : Option FieldType),
  Cond.constantLong "SlideRulesModel" (105 : Nat) (999999999 : Int64),
  Cond.constantLong "SlideRulesModel" (95 : Nat) (5 : Int64),
  Cond.constantLong "SlideRulesModel" (97 : Nat) (4 : Int64),
  Cond.fieldLink "SlideRulesModel" (7 : Nat) "SlideRulesModel" "length" "I",
  Cond.fieldLink "SlideRulesModel" (160 : Nat) "SlideRulesModel" "scales" "I",
  Cond.fieldLink "SlideRulesModel" (13 : Nat) "SlideRulesModel" "isSlide" "[Z",
  Cond.fieldLink "SlideRulesModel" (17 : Nat) "SlideRulesModel" "parts" "[I",
  Cond.fieldLink "SlideRulesModel" (21 : Nat) "SlideRulesModel" "fold" "[I",
  Cond.fieldLink "SlideRulesModel" (24 : Nat) "SlideRulesModel" "isTurned" "[Z",
  Cond.fieldLink "SlideRulesModel" (27 : Nat) "SlideRulesModel" "spans" "[I",
  Cond.fieldLink "SlideRulesModel" (30 : Nat) "SlideRulesModel" "spanFrom" "[I",
  Cond.fieldLink "SlideRulesModel" (33 : Nat) "SlideRulesModel" "spanTo" "[I",
  Cond.fieldLink "SlideRulesModel" (36 : Nat) "SlideRulesModel" "spanBy" "[I",
  Cond.fieldLink "SlideRulesModel" (206 : Nat) "SlideRulesModel" "off" "I",
  Cond.fieldLink "SlideRulesModel" (218 : Nat) "SlideRulesModel" "factors" "I",
  Cond.fieldLink "SlideRulesModel" (39 : Nat) "SlideRulesModel" "factor" "[I",
  Cond.fieldLink "SlideRulesModel" (42 : Nat) "SlideRulesModel" "strips" "[I",
  Cond.fieldLink "SlideRulesModel" (45 : Nat) "SlideRulesModel" "strip" "[I",
  Cond.fieldLink "SlideRulesModel" (48 : Nat) "SlideRulesModel" "two" "[J",
  Cond.fieldLink "SlideRulesModel" (52 : Nat) "SlideRulesModel" "ten" "[J",
  Cond.fieldLink "SlideRulesModel" (55 : Nat) "SlideRulesModel" "term" "[J",
  Cond.fieldLink "SlideRulesModel" (58 : Nat) "SlideRulesModel" "share" "[J",
  Cond.fieldLink "SlideRulesModel" (61 : Nat) "SlideRulesModel" "one" "[J",
  Cond.fieldLink "SlideRulesModel" (64 : Nat) "SlideRulesModel" "other" "[J",
  Cond.fieldLink "SlideRulesModel" (67 : Nat) "SlideRulesModel" "left" "[J",
  Cond.fieldLink "SlideRulesModel" (70 : Nat) "SlideRulesModel" "right" "[J",
  Cond.fieldLink "SlideRulesModel" (74 : Nat) "SlideRulesModel" "found" "[I",
  Cond.fieldLink "SlideRulesModel" (155 : Nat) "SlideRulesModel" "foundFor" "I",
  Cond.fieldLink "SlideRulesModel" (77 : Nat) "SlideRulesModel" "plains" "[I",
  Cond.fieldLink "SlideRulesModel" (221 : Nat) "SlideRulesModel" "plainsFor" "I",
  Cond.fieldLink "SlideRulesModel" (80 : Nat) "SlideRulesModel" "figures" "[I",
  Cond.fieldLink "SlideRulesModel" (83 : Nat) "SlideRulesModel" "least" "[I",
  Cond.fieldLink "SlideRulesModel" (86 : Nat) "SlideRulesModel" "laid" "[I",
  Cond.lays "SlideRulesModel" "SlideRulesModel" "length" "I",
  Cond.lays "SlideRulesModel" "SlideRulesModel" "scales" "I",
  Cond.laysFinal "SlideRulesModel" "SlideRulesModel" "isSlide" "[Z"]
theorem zwm_17 : ∀ w ∈ zwl_17, w ∈ zT := zsub_in 778 (by decide +kernel)
def zwl_18 : List Cond := [Cond.laysFinal "SlideRulesModel" "SlideRulesModel" "parts" "[I",
  Cond.laysFinal "SlideRulesModel" "SlideRulesModel" "fold" "[I",
  Cond.laysFinal "SlideRulesModel" "SlideRulesModel" "isTurned" "[Z",
  Cond.laysFinal "SlideRulesModel" "SlideRulesModel" "spans" "[I",
  Cond.laysFinal "SlideRulesModel" "SlideRulesModel" "spanFrom" "[I",
  Cond.laysFinal "SlideRulesModel" "SlideRulesModel" "spanTo" "[I",
  Cond.laysFinal "SlideRulesModel" "SlideRulesModel" "spanBy" "[I",
  Cond.lays "SlideRulesModel" "SlideRulesModel" "off" "I",
  Cond.lays "SlideRulesModel" "SlideRulesModel" "factors" "I",
  Cond.laysFinal "SlideRulesModel" "SlideRulesModel" "factor" "[I",
  Cond.laysFinal "SlideRulesModel" "SlideRulesModel" "strips" "[I",
  Cond.laysFinal "SlideRulesModel" "SlideRulesModel" "strip" "[I",
  Cond.laysFinal "SlideRulesModel" "SlideRulesModel" "two" "[J",
  Cond.laysFinal "SlideRulesModel" "SlideRulesModel" "ten" "[J",
  Cond.laysFinal "SlideRulesModel" "SlideRulesModel" "term" "[J",
  Cond.laysFinal "SlideRulesModel" "SlideRulesModel" "share" "[J",
  Cond.laysFinal "SlideRulesModel" "SlideRulesModel" "one" "[J",
  Cond.laysFinal "SlideRulesModel" "SlideRulesModel" "other" "[J",
  Cond.laysFinal "SlideRulesModel" "SlideRulesModel" "left" "[J",
  Cond.laysFinal "SlideRulesModel" "SlideRulesModel" "right" "[J",
  Cond.laysFinal "SlideRulesModel" "SlideRulesModel" "found" "[I",
  Cond.lays "SlideRulesModel" "SlideRulesModel" "foundFor" "I",
  Cond.laysFinal "SlideRulesModel" "SlideRulesModel" "plains" "[I",
  Cond.lays "SlideRulesModel" "SlideRulesModel" "plainsFor" "I",
  Cond.laysFinal "SlideRulesModel" "SlideRulesModel" "figures" "[I",
  Cond.laysFinal "SlideRulesModel" "SlideRulesModel" "least" "[I",
  Cond.laysFinal "SlideRulesModel" "SlideRulesModel" "laid" "[I",
  Cond.methodLink "SlideRulesLaw" (17 : Nat) ({ cls := "SlideRulesModel", name := "rule", desc := "(I)I" } : MethodName),
  Cond.instanceMethod ({ cls := "SlideRulesModel", name := "rule", desc := "(I)I" } : MethodName),
  Cond.selects "SlideRulesModel" ({ cls := "SlideRulesModel", name := "rule", desc := "(I)I" } : MethodName) ({ cls := "SlideRulesModel", name := "rule", desc := "(I)I" } : MethodName),
  Cond.code ({ cls := "SlideRulesModel", name := "rule", desc := "(I)I" } : MethodName) prog_14_method_20_code (3 : Nat) (Option.some FieldType.int),
  Cond.constantLong "SlideRulesModel" (149 : Nat) (100 : Int64),
  Cond.constantLong "SlideRulesModel" (169 : Nat) (50000 : Int64),
  Cond.methodLink "SlideRulesModel" (163 : Nat) ({ cls := "SlideRulesModel", name := "in", desc := "(JJJ)Z" } : MethodName),
  Cond.static ({ cls := "SlideRulesModel", name := "in", desc := "(JJJ)Z" } : MethodName),
  Cond.code ({ cls := "SlideRulesModel", name := "in", desc := "(JJJ)Z" } : MethodName) prog_14_method_2_code (6 : Nat) (Option.some FieldType.boolean),
  Cond.methodLink "SlideRulesLaw" (22 : Nat) ({ cls := "SlideRulesModel", name := "scale", desc := "(ZIIZ)I" } : MethodName),
  Cond.instanceMethod ({ cls := "SlideRulesModel", name := "scale", desc := "(ZIIZ)I" } : MethodName),
  Cond.selects "SlideRulesModel" ({ cls := "SlideRulesModel", name := "scale", desc := "(ZIIZ)I" } : MethodName) ({ cls := "SlideRulesModel", name := "scale", desc := "(ZIIZ)I" } : MethodName),
  Cond.code ({ cls := "SlideRulesModel", name := "scale", desc := "(ZIIZ)I" } : MethodName) prog_14_method_21_code (5 : Nat) (Option.some FieldType.int)]
theorem zwm_18 : ∀ w ∈ zwl_18, w ∈ zT := zsub_in 821 (by decide +kernel)
def zwl_19 : List Cond := [Cond.constantLong "SlideRulesModel" (171 : Nat) (3 : Int64),
  Cond.constantLong "SlideRulesModel" (124 : Nat) (10 : Int64),
  Cond.constantLong "SlideRulesModel" (173 : Nat) (990 : Int64),
  Cond.methodLink "SlideRulesLaw" (27 : Nat) ({ cls := "SlideRulesModel", name := "place", desc := "(II)I" } : MethodName),
  Cond.instanceMethod ({ cls := "SlideRulesModel", name := "place", desc := "(II)I" } : MethodName),
  Cond.selects "SlideRulesModel" ({ cls := "SlideRulesModel", name := "place", desc := "(II)I" } : MethodName) ({ cls := "SlideRulesModel", name := "place", desc := "(II)I" } : MethodName),
  Cond.code ({ cls := "SlideRulesModel", name := "place", desc := "(II)I" } : MethodName) prog_14_method_22_code (3 : Nat) (Option.some FieldType.int),
  Cond.methodLink "SlideRulesModel" (175 : Nat) ({ cls := "SlideRulesModel", name := "isScale", desc := "(I)Z" } : MethodName),
  Cond.instanceMethod ({ cls := "SlideRulesModel", name := "isScale", desc := "(I)Z" } : MethodName),
  Cond.code ({ cls := "SlideRulesModel", name := "isScale", desc := "(I)Z" } : MethodName) prog_14_method_18_code (2 : Nat) (Option.some FieldType.boolean),
  Cond.methodLink "SlideRulesModel" (179 : Nat) ({ cls := "SlideRulesModel", name := "isNumber", desc := "(I)Z" } : MethodName),
  Cond.static ({ cls := "SlideRulesModel", name := "isNumber", desc := "(I)Z" } : MethodName),
  Cond.code ({ cls := "SlideRulesModel", name := "isNumber", desc := "(I)Z" } : MethodName) prog_14_method_19_code (1 : Nat) (Option.some FieldType.boolean),
  Cond.constantLong "SlideRulesModel" (167 : Nat) (100000 : Int64),
  Cond.methodLink "SlideRulesModel" (182 : Nat) ({ cls := "SlideRulesModel", name := "placeOf", desc := "(II)I" } : MethodName),
  Cond.instanceMethod ({ cls := "SlideRulesModel", name := "placeOf", desc := "(II)I" } : MethodName),
  Cond.code ({ cls := "SlideRulesModel", name := "placeOf", desc := "(II)I" } : MethodName) prog_14_method_17_code (5 : Nat) (Option.some FieldType.int),
  Cond.constant "SlideRulesModel" (158 : Nat) (100001 : Int32),
  Cond.constant "SlideRulesModel" (159 : Nat) (1000000 : Int32),
  Cond.methodLink "SlideRulesModel" (151 : Nat) ({ cls := "SlideRulesModel", name := "nearestOf", desc := "(JJI)I" } : MethodName),
  Cond.instanceMethod ({ cls := "SlideRulesModel", name := "nearestOf", desc := "(JJI)I" } : MethodName),
  Cond.code ({ cls := "SlideRulesModel", name := "nearestOf", desc := "(JJI)I" } : MethodName) prog_14_method_15_code (13 : Nat) (Option.some FieldType.int),
  Cond.methodLink "SlideRulesModel" (126 : Nat) ({ cls := "SlideRulesModel", name := "tens", desc := "(JJ)I" } : MethodName),
  Cond.static ({ cls := "SlideRulesModel", name := "tens", desc := "(JJ)I" } : MethodName),
  Cond.code ({ cls := "SlideRulesModel", name := "tens", desc := "(JJ)I" } : MethodName) prog_14_method_14_code (9 : Nat) (Option.some FieldType.int),
  Cond.methodLink "SlideRulesModel" (130 : Nat) ({ cls := "SlideRulesModel", name := "down", desc := "(JJ)J" } : MethodName),
  Cond.static ({ cls := "SlideRulesModel", name := "down", desc := "(JJ)J" } : MethodName),
  Cond.code ({ cls := "SlideRulesModel", name := "down", desc := "(JJ)J" } : MethodName) prog_14_method_13_code (4 : Nat) (Option.some FieldType.long),
  Cond.methodLink "SlideRulesModel" (134 : Nat) ({ cls := "SlideRulesModel", name := "logOf", desc := "(J[J)V" } : MethodName),
  Cond.instanceMethod ({ cls := "SlideRulesModel", name := "logOf", desc := "(J[J)V" } : MethodName),
  Cond.code ({ cls := "SlideRulesModel", name := "logOf", desc := "(J[J)V" } : MethodName) prog_14_method_12_code (8 : Nat) (Option.none : Option FieldType),
  Cond.constantLong "SlideRulesModel" (138 : Nat) (-400000 : Int64),
  Cond.constantLong "SlideRulesModel" (140 : Nat) (400000 : Int64),
  Cond.methodLink "SlideRulesModel" (142 : Nat) ({ cls := "SlideRulesModel", name := "takes", desc := "([J[J)V" } : MethodName),
  Cond.static ({ cls := "SlideRulesModel", name := "takes", desc := "([J[J)V" } : MethodName),
  Cond.code ({ cls := "SlideRulesModel", name := "takes", desc := "([J[J)V" } : MethodName) prog_14_method_6_code (7 : Nat) (Option.none : Option FieldType),
  Cond.methodLink "SlideRulesModel" (145 : Nat) ({ cls := "SlideRulesModel", name := "isLess", desc := "([J[J)Z" } : MethodName),
  Cond.static ({ cls := "SlideRulesModel", name := "isLess", desc := "([J[J)Z" } : MethodName),
  Cond.code ({ cls := "SlideRulesModel", name := "isLess", desc := "([J[J)Z" } : MethodName) prog_14_method_10_code (3 : Nat) (Option.some FieldType.boolean),
  Cond.constant "SlideRulesModel" (186 : Nat) (-2000000000 : Int32)]
theorem zwm_19 : ∀ w ∈ zwl_19, w ∈ zT := zsub_in 889 (by decide +kernel)
def zwl_20 : List Cond := [Cond.methodLink "SlideRulesLaw" (32 : Nat) ({ cls := "SlideRulesModel", name := "span", desc := "(IIII)I" } : MethodName),
  Cond.instanceMethod ({ cls := "SlideRulesModel", name := "span", desc := "(IIII)I" } : MethodName),
  Cond.selects "SlideRulesModel" ({ cls := "SlideRulesModel", name := "span", desc := "(IIII)I" } : MethodName) ({ cls := "SlideRulesModel", name := "span", desc := "(IIII)I" } : MethodName),
  Cond.code ({ cls := "SlideRulesModel", name := "span", desc := "(IIII)I" } : MethodName) prog_14_method_26_code (7 : Nat) (Option.some FieldType.int),
  Cond.constantLong "SlideRulesModel" (191 : Nat) (10000 : Int64),
  Cond.methodLink "SlideRulesModel" (193 : Nat) ({ cls := "SlideRulesModel", name := "marksOf", desc := "(I)I" } : MethodName),
  Cond.instanceMethod ({ cls := "SlideRulesModel", name := "marksOf", desc := "(I)I" } : MethodName),
  Cond.code ({ cls := "SlideRulesModel", name := "marksOf", desc := "(I)I" } : MethodName) prog_14_method_24_code (4 : Nat) (Option.some FieldType.int),
  Cond.methodLink "SlideRulesModel" (187 : Nat) ({ cls := "SlideRulesModel", name := "spanMarks", desc := "(I)I" } : MethodName),
  Cond.instanceMethod ({ cls := "SlideRulesModel", name := "spanMarks", desc := "(I)I" } : MethodName),
  Cond.code ({ cls := "SlideRulesModel", name := "spanMarks", desc := "(I)I" } : MethodName) prog_14_method_23_code (2 : Nat) (Option.some FieldType.int),
  Cond.methodLink "SlideRulesLaw" (36 : Nat) ({ cls := "SlideRulesModel", name := "mark", desc := "(II)I" } : MethodName),
  Cond.instanceMethod ({ cls := "SlideRulesModel", name := "mark", desc := "(II)I" } : MethodName),
  Cond.selects "SlideRulesModel" ({ cls := "SlideRulesModel", name := "mark", desc := "(II)I" } : MethodName) ({ cls := "SlideRulesModel", name := "mark", desc := "(II)I" } : MethodName),
  Cond.code ({ cls := "SlideRulesModel", name := "mark", desc := "(II)I" } : MethodName) prog_14_method_27_code (3 : Nat) (Option.some FieldType.int),
  Cond.methodLink "SlideRulesModel" (196 : Nat) ({ cls := "SlideRulesModel", name := "markOf", desc := "(II)I" } : MethodName),
  Cond.instanceMethod ({ cls := "SlideRulesModel", name := "markOf", desc := "(II)I" } : MethodName),
  Cond.code ({ cls := "SlideRulesModel", name := "markOf", desc := "(II)I" } : MethodName) prog_14_method_25_code (5 : Nat) (Option.some FieldType.int),
  Cond.methodLink "SlideRulesLaw" (40 : Nat) ({ cls := "SlideRulesModel", name := "marks", desc := "(I)I" } : MethodName),
  Cond.instanceMethod ({ cls := "SlideRulesModel", name := "marks", desc := "(I)I" } : MethodName),
  Cond.selects "SlideRulesModel" ({ cls := "SlideRulesModel", name := "marks", desc := "(I)I" } : MethodName) ({ cls := "SlideRulesModel", name := "marks", desc := "(I)I" } : MethodName),
  Cond.code ({ cls := "SlideRulesModel", name := "marks", desc := "(I)I" } : MethodName) prog_14_method_28_code (2 : Nat) (Option.some FieldType.int),
  Cond.methodLink "SlideRulesLaw" (44 : Nat) ({ cls := "SlideRulesModel", name := "closest", desc := "(II)I" } : MethodName),
  Cond.instanceMethod ({ cls := "SlideRulesModel", name := "closest", desc := "(II)I" } : MethodName),
  Cond.selects "SlideRulesModel" ({ cls := "SlideRulesModel", name := "closest", desc := "(II)I" } : MethodName) ({ cls := "SlideRulesModel", name := "closest", desc := "(II)I" } : MethodName),
  Cond.code ({ cls := "SlideRulesModel", name := "closest", desc := "(II)I" } : MethodName) prog_14_method_30_code (10 : Nat) (Option.some FieldType.int),
  Cond.methodLink "SlideRulesModel" (199 : Nat) ({ cls := "SlideRulesModel", name := "size", desc := "(I)I" } : MethodName),
  Cond.static ({ cls := "SlideRulesModel", name := "size", desc := "(I)I" } : MethodName),
  Cond.code ({ cls := "SlideRulesModel", name := "size", desc := "(I)I" } : MethodName) prog_14_method_29_code (1 : Nat) (Option.some FieldType.int),
  Cond.methodLink "SlideRulesLaw" (48 : Nat) ({ cls := "SlideRulesModel", name := "off", desc := "(I)I" } : MethodName),
  Cond.instanceMethod ({ cls := "SlideRulesModel", name := "off", desc := "(I)I" } : MethodName),
  Cond.selects "SlideRulesModel" ({ cls := "SlideRulesModel", name := "off", desc := "(I)I" } : MethodName) ({ cls := "SlideRulesModel", name := "off", desc := "(I)I" } : MethodName),
  Cond.code ({ cls := "SlideRulesModel", name := "off", desc := "(I)I" } : MethodName) prog_14_method_31_code (3 : Nat) (Option.some FieldType.int),
  Cond.constantLong "SlideRulesModel" (202 : Nat) (-200000 : Int64),
  Cond.constantLong "SlideRulesModel" (204 : Nat) (200000 : Int64),
  Cond.methodLink "SlideRulesLaw" (52 : Nat) ({ cls := "SlideRulesModel", name := "set", desc := "(IIII)I" } : MethodName),
  Cond.instanceMethod ({ cls := "SlideRulesModel", name := "set", desc := "(IIII)I" } : MethodName),
  Cond.selects "SlideRulesModel" ({ cls := "SlideRulesModel", name := "set", desc := "(IIII)I" } : MethodName) ({ cls := "SlideRulesModel", name := "set", desc := "(IIII)I" } : MethodName),
  Cond.code ({ cls := "SlideRulesModel", name := "set", desc := "(IIII)I" } : MethodName) prog_14_method_32_code (5 : Nat) (Option.some FieldType.int),
  Cond.methodLink "SlideRulesLaw" (57 : Nat) ({ cls := "SlideRulesModel", name := "against", desc := "(III)I" } : MethodName)]
theorem zwm_20 : ∀ w ∈ zwl_20, w ∈ zT := zsub_in 933 (by decide +kernel)
def zwl_21 : List Cond := [Cond.instanceMethod ({ cls := "SlideRulesModel", name := "against", desc := "(III)I" } : MethodName),
  Cond.selects "SlideRulesModel" ({ cls := "SlideRulesModel", name := "against", desc := "(III)I" } : MethodName) ({ cls := "SlideRulesModel", name := "against", desc := "(III)I" } : MethodName),
  Cond.code ({ cls := "SlideRulesModel", name := "against", desc := "(III)I" } : MethodName) prog_14_method_33_code (4 : Nat) (Option.some FieldType.int),
  Cond.methodLink "SlideRulesLaw" (61 : Nat) ({ cls := "SlideRulesModel", name := "nearest", desc := "(II)I" } : MethodName),
  Cond.instanceMethod ({ cls := "SlideRulesModel", name := "nearest", desc := "(II)I" } : MethodName),
  Cond.selects "SlideRulesModel" ({ cls := "SlideRulesModel", name := "nearest", desc := "(II)I" } : MethodName) ({ cls := "SlideRulesModel", name := "nearest", desc := "(II)I" } : MethodName),
  Cond.code ({ cls := "SlideRulesModel", name := "nearest", desc := "(II)I" } : MethodName) prog_14_method_35_code (7 : Nat) (Option.some FieldType.int),
  Cond.methodLink "SlideRulesModel" (213 : Nat) ({ cls := "SlideRulesModel", name := "isPlace", desc := "(I)Z" } : MethodName),
  Cond.static ({ cls := "SlideRulesModel", name := "isPlace", desc := "(I)Z" } : MethodName),
  Cond.code ({ cls := "SlideRulesModel", name := "isPlace", desc := "(I)Z" } : MethodName) prog_14_method_34_code (1 : Nat) (Option.some FieldType.boolean),
  Cond.constantLong "SlideRulesModel" (209 : Nat) (-1000000 : Int64),
  Cond.constantLong "SlideRulesModel" (211 : Nat) (1000000 : Int64),
  Cond.methodLink "SlideRulesLaw" (65 : Nat) ({ cls := "SlideRulesModel", name := "between", desc := "(II)I" } : MethodName),
  Cond.instanceMethod ({ cls := "SlideRulesModel", name := "between", desc := "(II)I" } : MethodName),
  Cond.selects "SlideRulesModel" ({ cls := "SlideRulesModel", name := "between", desc := "(II)I" } : MethodName) ({ cls := "SlideRulesModel", name := "between", desc := "(II)I" } : MethodName),
  Cond.code ({ cls := "SlideRulesModel", name := "between", desc := "(II)I" } : MethodName) prog_14_method_36_code (9 : Nat) (Option.some FieldType.int),
  Cond.methodLink "SlideRulesLaw" (69 : Nat) ({ cls := "SlideRulesModel", name := "factor", desc := "(I)I" } : MethodName),
  Cond.instanceMethod ({ cls := "SlideRulesModel", name := "factor", desc := "(I)I" } : MethodName),
  Cond.selects "SlideRulesModel" ({ cls := "SlideRulesModel", name := "factor", desc := "(I)I" } : MethodName) ({ cls := "SlideRulesModel", name := "factor", desc := "(I)I" } : MethodName),
  Cond.code ({ cls := "SlideRulesModel", name := "factor", desc := "(I)I" } : MethodName) prog_14_method_37_code (2 : Nat) (Option.some FieldType.int),
  Cond.constantLong "SlideRulesModel" (216 : Nat) (999 : Int64),
  Cond.methodLink "SlideRulesLaw" (74 : Nat) ({ cls := "SlideRulesModel", name := "clear", desc := "()I" } : MethodName),
  Cond.instanceMethod ({ cls := "SlideRulesModel", name := "clear", desc := "()I" } : MethodName),
  Cond.selects "SlideRulesModel" ({ cls := "SlideRulesModel", name := "clear", desc := "()I" } : MethodName) ({ cls := "SlideRulesModel", name := "clear", desc := "()I" } : MethodName),
  Cond.code ({ cls := "SlideRulesModel", name := "clear", desc := "()I" } : MethodName) prog_14_method_38_code (2 : Nat) (Option.some FieldType.int),
  Cond.methodLink "SlideRulesLaw" (78 : Nat) ({ cls := "SlideRulesModel", name := "chain", desc := "(I)I" } : MethodName),
  Cond.instanceMethod ({ cls := "SlideRulesModel", name := "chain", desc := "(I)I" } : MethodName),
  Cond.selects "SlideRulesModel" ({ cls := "SlideRulesModel", name := "chain", desc := "(I)I" } : MethodName) ({ cls := "SlideRulesModel", name := "chain", desc := "(I)I" } : MethodName),
  Cond.code ({ cls := "SlideRulesModel", name := "chain", desc := "(I)I" } : MethodName) prog_14_method_42_code (5 : Nat) (Option.some FieldType.int),
  Cond.methodLink "SlideRulesModel" (227 : Nat) ({ cls := "SlideRulesModel", name := "plainOf", desc := "(I)I" } : MethodName),
  Cond.instanceMethod ({ cls := "SlideRulesModel", name := "plainOf", desc := "(I)I" } : MethodName),
  Cond.code ({ cls := "SlideRulesModel", name := "plainOf", desc := "(I)I" } : MethodName) prog_14_method_39_code (3 : Nat) (Option.some FieldType.int),
  Cond.methodLink "SlideRulesModel" (224 : Nat) ({ cls := "SlideRulesModel", name := "plain", desc := "(I)I" } : MethodName),
  Cond.instanceMethod ({ cls := "SlideRulesModel", name := "plain", desc := "(I)I" } : MethodName),
  Cond.code ({ cls := "SlideRulesModel", name := "plain", desc := "(I)I" } : MethodName) prog_14_method_16_code (2 : Nat) (Option.some FieldType.int),
  Cond.methodLink "SlideRulesModel" (232 : Nat) ({ cls := "SlideRulesModel", name := "reading", desc := "(I)I" } : MethodName),
  Cond.instanceMethod ({ cls := "SlideRulesModel", name := "reading", desc := "(I)I" } : MethodName),
  Cond.code ({ cls := "SlideRulesModel", name := "reading", desc := "(I)I" } : MethodName) prog_14_method_40_code (4 : Nat) (Option.some FieldType.int),
  Cond.methodLink "SlideRulesModel" (235 : Nat) ({ cls := "SlideRulesModel", name := "truth", desc := "()I" } : MethodName),
  Cond.instanceMethod ({ cls := "SlideRulesModel", name := "truth", desc := "()I" } : MethodName)]
theorem zwm_21 : ∀ w ∈ zwl_21, w ∈ zT := zsub_in 976 (by decide +kernel)
def zwl_22 : List Cond := [Cond.code ({ cls := "SlideRulesModel", name := "truth", desc := "()I" } : MethodName) prog_14_method_41_code (6 : Nat) (Option.some FieldType.int),
  Cond.constantLong "SlideRulesModel" (230 : Nat) (1000 : Int64),
  Cond.methodLink "SlideRulesLaw" (82 : Nat) ({ cls := "SlideRulesModel", name := "pairs", desc := "(IIII)I" } : MethodName),
  Cond.instanceMethod ({ cls := "SlideRulesModel", name := "pairs", desc := "(IIII)I" } : MethodName),
  Cond.selects "SlideRulesModel" ({ cls := "SlideRulesModel", name := "pairs", desc := "(IIII)I" } : MethodName) ({ cls := "SlideRulesModel", name := "pairs", desc := "(IIII)I" } : MethodName),
  Cond.code ({ cls := "SlideRulesModel", name := "pairs", desc := "(IIII)I" } : MethodName) prog_14_method_43_code (16 : Nat) (Option.some FieldType.int),
  Cond.methodLink "SlideRulesLaw" (86 : Nat) ({ cls := "SlideRulesModel", name := "fewest", desc := "(III)I" } : MethodName),
  Cond.instanceMethod ({ cls := "SlideRulesModel", name := "fewest", desc := "(III)I" } : MethodName),
  Cond.selects "SlideRulesModel" ({ cls := "SlideRulesModel", name := "fewest", desc := "(III)I" } : MethodName) ({ cls := "SlideRulesModel", name := "fewest", desc := "(III)I" } : MethodName),
  Cond.code ({ cls := "SlideRulesModel", name := "fewest", desc := "(III)I" } : MethodName) prog_14_method_48_code (4 : Nat) (Option.some FieldType.int),
  Cond.methodLink "SlideRulesModel" (249 : Nat) ({ cls := "SlideRulesModel", name := "isPower", desc := "(I)Z" } : MethodName),
  Cond.static ({ cls := "SlideRulesModel", name := "isPower", desc := "(I)Z" } : MethodName),
  Cond.code ({ cls := "SlideRulesModel", name := "isPower", desc := "(I)Z" } : MethodName) prog_14_method_46_code (1 : Nat) (Option.some FieldType.boolean),
  Cond.constantLong "SlideRulesModel" (245 : Nat) (-8 : Int64),
  Cond.constantLong "SlideRulesModel" (247 : Nat) (8 : Int64),
  Cond.methodLink "SlideRulesModel" (252 : Nat) ({ cls := "SlideRulesModel", name := "spreads", desc := "()V" } : MethodName),
  Cond.instanceMethod ({ cls := "SlideRulesModel", name := "spreads", desc := "()V" } : MethodName),
  Cond.code ({ cls := "SlideRulesModel", name := "spreads", desc := "()V" } : MethodName) prog_14_method_45_code (5 : Nat) (Option.none : Option FieldType),
  Cond.constantLong "SlideRulesModel" (239 : Nat) (64 : Int64),
  Cond.methodLink "SlideRulesModel" (241 : Nat) ({ cls := "SlideRulesModel", name := "lets", desc := "(II)Z" } : MethodName),
  Cond.instanceMethod ({ cls := "SlideRulesModel", name := "lets", desc := "(II)Z" } : MethodName),
  Cond.code ({ cls := "SlideRulesModel", name := "lets", desc := "(II)Z" } : MethodName) prog_14_method_44_code (5 : Nat) (Option.some FieldType.boolean),
  Cond.methodLink "SlideRulesModel" (255 : Nat) ({ cls := "SlideRulesModel", name := "leastTo", desc := "(III)I" } : MethodName),
  Cond.instanceMethod ({ cls := "SlideRulesModel", name := "leastTo", desc := "(III)I" } : MethodName),
  Cond.code ({ cls := "SlideRulesModel", name := "leastTo", desc := "(III)I" } : MethodName) prog_14_method_47_code (5 : Nat) (Option.some FieldType.int),
  Cond.methodLink "SlideRulesLaw" (90 : Nat) ({ cls := "SlideRulesModel", name := "setting", desc := "(IIII)I" } : MethodName),
  Cond.instanceMethod ({ cls := "SlideRulesModel", name := "setting", desc := "(IIII)I" } : MethodName),
  Cond.selects "SlideRulesModel" ({ cls := "SlideRulesModel", name := "setting", desc := "(IIII)I" } : MethodName) ({ cls := "SlideRulesModel", name := "setting", desc := "(IIII)I" } : MethodName),
  Cond.code ({ cls := "SlideRulesModel", name := "setting", desc := "(IIII)I" } : MethodName) prog_14_method_49_code (18 : Nat) (Option.some FieldType.int),
  Cond.methodLink "SlideRulesLaw" (94 : Nat) ({ cls := "SlideRulesModel", name := "cut", desc := "(II)I" } : MethodName),
  Cond.instanceMethod ({ cls := "SlideRulesModel", name := "cut", desc := "(II)I" } : MethodName),
  Cond.selects "SlideRulesModel" ({ cls := "SlideRulesModel", name := "cut", desc := "(II)I" } : MethodName) ({ cls := "SlideRulesModel", name := "cut", desc := "(II)I" } : MethodName),
  Cond.code ({ cls := "SlideRulesModel", name := "cut", desc := "(II)I" } : MethodName) prog_14_method_51_code (3 : Nat) (Option.some FieldType.int),
  Cond.methodLink "SlideRulesModel" (259 : Nat) ({ cls := "SlideRulesModel", name := "isStrip", desc := "(I)Z" } : MethodName),
  Cond.static ({ cls := "SlideRulesModel", name := "isStrip", desc := "(I)Z" } : MethodName),
  Cond.code ({ cls := "SlideRulesModel", name := "isStrip", desc := "(I)Z" } : MethodName) prog_14_method_50_code (1 : Nat) (Option.some FieldType.boolean),
  Cond.methodLink "SlideRulesLaw" (98 : Nat) ({ cls := "SlideRulesModel", name := "wipe", desc := "(I)I" } : MethodName),
  Cond.instanceMethod ({ cls := "SlideRulesModel", name := "wipe", desc := "(I)I" } : MethodName),
  Cond.selects "SlideRulesModel" ({ cls := "SlideRulesModel", name := "wipe", desc := "(I)I" } : MethodName) ({ cls := "SlideRulesModel", name := "wipe", desc := "(I)I" } : MethodName),
  Cond.code ({ cls := "SlideRulesModel", name := "wipe", desc := "(I)I" } : MethodName) prog_14_method_52_code (3 : Nat) (Option.some FieldType.int)]
theorem zwm_22 : ∀ w ∈ zwl_22, w ∈ zT := zsub_in 1020 (by decide +kernel)
def zwl_23 : List Cond := [Cond.methodLink "SlideRulesLaw" (102 : Nat) ({ cls := "SlideRulesModel", name := "chosen", desc := "(III)I" } : MethodName),
  Cond.instanceMethod ({ cls := "SlideRulesModel", name := "chosen", desc := "(III)I" } : MethodName),
  Cond.selects "SlideRulesModel" ({ cls := "SlideRulesModel", name := "chosen", desc := "(III)I" } : MethodName) ({ cls := "SlideRulesModel", name := "chosen", desc := "(III)I" } : MethodName),
  Cond.code ({ cls := "SlideRulesModel", name := "chosen", desc := "(III)I" } : MethodName) prog_14_method_53_code (8 : Nat) (Option.some FieldType.int),
  Cond.methodLink "SlideRulesLaw" (106 : Nat) ({ cls := "SlideRulesModel", name := "match", desc := "(I)I" } : MethodName),
  Cond.instanceMethod ({ cls := "SlideRulesModel", name := "match", desc := "(I)I" } : MethodName),
  Cond.selects "SlideRulesModel" ({ cls := "SlideRulesModel", name := "match", desc := "(I)I" } : MethodName) ({ cls := "SlideRulesModel", name := "match", desc := "(I)I" } : MethodName),
  Cond.code ({ cls := "SlideRulesModel", name := "match", desc := "(I)I" } : MethodName) prog_14_method_55_code (9 : Nat) (Option.some FieldType.int),
  Cond.methodLink "SlideRulesModel" (262 : Nat) ({ cls := "SlideRulesModel", name := "has", desc := "(II)Z" } : MethodName),
  Cond.instanceMethod ({ cls := "SlideRulesModel", name := "has", desc := "(II)Z" } : MethodName),
  Cond.code ({ cls := "SlideRulesModel", name := "has", desc := "(II)Z" } : MethodName) prog_14_method_54_code (5 : Nat) (Option.some FieldType.boolean),
  Cond.methodLink "SlideRulesLaw" (110 : Nat) ({ cls := "SlideRulesModel", name := "law", desc := "(II)I" } : MethodName),
  Cond.instanceMethod ({ cls := "SlideRulesModel", name := "law", desc := "(II)I" } : MethodName),
  Cond.selects "SlideRulesModel" ({ cls := "SlideRulesModel", name := "law", desc := "(II)I" } : MethodName) ({ cls := "SlideRulesModel", name := "law", desc := "(II)I" } : MethodName),
  Cond.code ({ cls := "SlideRulesModel", name := "law", desc := "(II)I" } : MethodName) prog_14_method_58_code (3 : Nat) (Option.some FieldType.int),
  Cond.constantLong "SlideRulesModel" (269 : Nat) (60 : Int64),
  Cond.methodLink "SlideRulesModel" (271 : Nat) ({ cls := "SlideRulesModel", name := "lawPlace", desc := "(II)I" } : MethodName),
  Cond.instanceMethod ({ cls := "SlideRulesModel", name := "lawPlace", desc := "(II)I" } : MethodName),
  Cond.code ({ cls := "SlideRulesModel", name := "lawPlace", desc := "(II)I" } : MethodName) prog_14_method_57_code (7 : Nat) (Option.some FieldType.int),
  Cond.methodLink "SlideRulesModel" (265 : Nat) ({ cls := "SlideRulesModel", name := "numberOf", desc := "(II)J" } : MethodName),
  Cond.static ({ cls := "SlideRulesModel", name := "numberOf", desc := "(II)J" } : MethodName),
  Cond.code ({ cls := "SlideRulesModel", name := "numberOf", desc := "(II)J" } : MethodName) prog_14_method_56_code (2 : Nat) (Option.some FieldType.long),
  Cond.methodLink "SlideRulesLaw" (114 : Nat) ({ cls := "SlideRulesModel", name := "doubled", desc := "(I)I" } : MethodName),
  Cond.instanceMethod ({ cls := "SlideRulesModel", name := "doubled", desc := "(I)I" } : MethodName),
  Cond.selects "SlideRulesModel" ({ cls := "SlideRulesModel", name := "doubled", desc := "(I)I" } : MethodName) ({ cls := "SlideRulesModel", name := "doubled", desc := "(I)I" } : MethodName),
  Cond.code ({ cls := "SlideRulesModel", name := "doubled", desc := "(I)I" } : MethodName) prog_14_method_59_code (7 : Nat) (Option.some FieldType.int),
  Cond.methodLink "SlideRulesLaw" (118 : Nat) ({ cls := "SlideRulesModel", name := "count", desc := "(I)I" } : MethodName),
  Cond.instanceMethod ({ cls := "SlideRulesModel", name := "count", desc := "(I)I" } : MethodName),
  Cond.selects "SlideRulesModel" ({ cls := "SlideRulesModel", name := "count", desc := "(I)I" } : MethodName) ({ cls := "SlideRulesModel", name := "count", desc := "(I)I" } : MethodName),
  Cond.code ({ cls := "SlideRulesModel", name := "count", desc := "(I)I" } : MethodName) prog_14_method_60_code (4 : Nat) (Option.some FieldType.int),
  Cond.methodLink "SlideRulesLaw" (123 : Nat) ({ cls := "SlideRulesModel", name := "digest", desc := "()J" } : MethodName),
  Cond.instanceMethod ({ cls := "SlideRulesModel", name := "digest", desc := "()J" } : MethodName),
  Cond.selects "SlideRulesModel" ({ cls := "SlideRulesModel", name := "digest", desc := "()J" } : MethodName) ({ cls := "SlideRulesModel", name := "digest", desc := "()J" } : MethodName),
  Cond.code ({ cls := "SlideRulesModel", name := "digest", desc := "()J" } : MethodName) prog_14_method_61_code (5 : Nat) (Option.some FieldType.long),
  Cond.constantLong "SlideRulesModel" (274 : Nat) (349 : Int64),
  Cond.constantLong "SlideRulesModel" (276 : Nat) (31 : Int64),
  Cond.methodLink "SlideRulesModel" (278 : Nat) ({ cls := "SlideRulesModel", name := "count", desc := "(I)I" } : MethodName)]
theorem zwm_23 : ∀ w ∈ zwl_23, w ∈ zT := zsub_in 1063 (by decide +kernel)
def zr (t : Nat) : vw_C := vwCl.getD t (RX0, TX0, 4)
def zkd (t k : Nat) : Nat := match t with
  | 0 => [2, 0, 0, 2].getD k 2
  | 1 => [2].getD k 2
  | 2 => [2, 2, 2, 2, 2].getD k 2
  | 3 => [0, 0].getD k 2
  | 4 => [0, 0, 0, 0, 0, 0, 0, 0, 0, 0, 2].getD k 2
  | 5 => [0, 2].getD k 2
  | 6 => [2, 0].getD k 2
  | 7 => [0, 0, 0, 0, 2, 0, 2, 2, 2, 2, 0, 0].getD k 2
  | 8 => [2, 2, 2, 2].getD k 2
  | 9 => [2].getD k 2
  | 10 => [1, 1].getD k 2
  | 11 => [2, 2, 2, 2, 2, 2, 2, 2, 2, 0, 0, 0].getD k 2
  | 12 => [0, 0, 2, 2, 2, 2, 2, 2, 2, 2, 0, 0, 2, 2, 2, 2, 2, 2, 2, 2, 2, 2, 2, 2, 0, 2, 0, 2, 2, 2].getD k 2
  | _ => 2
def zn (t : Nat) : Nat := [4, 1, 5, 2, 11, 2, 2, 12, 4, 1, 2, 12, 30].getD t 0
def zty (t k : Nat) : FieldType := match t with
  | 0 => tyX0 k
  | 1 => tyX1 k
  | 2 => tyX2 k
  | 3 => tyX3 k
  | 4 => tyX4 k
  | 5 => tyX5 k
  | 6 => tyX6 k
  | 7 => tyX7 k
  | 8 => tyX8 k
  | 9 => tyX9 k
  | 10 => tyX10 k
  | 11 => tyX11 k
  | 12 => tyX12 k
  | _ => .int
/-- what a class's tables give -/
def zCl (t : Nat) : Prop := vwCl[t]? = some (zr t) ∧ zn t = (zr t).2.2 ∧ (∀ k, k < (zr t).2.2 → parseFieldDescriptor ((zr t).2.1 k).2.2.1 = some (zty t k)) ∧ (∀ a, a < (zr t).2.2 → ∀ b, b < (zr t).2.2 → a ≠ b → ((zr t).2.1 a).2.1 ≠ ((zr t).2.1 b).2.1) ∧ ∀ w ∈ u_ws (zr t).1 (zr t).2.1 (zr t).2.2, w ∈ zT
theorem zu_in {R : String} {T : u_T} {N : Nat} (h : ∀ k, k < N → u_lay R T k ∈ zT) : ∀ w ∈ u_ws R T N, w ∈ zT := fun w hw => by
  obtain ⟨k, hk, rfl⟩ := List.mem_map.mp hw
  exact h k (List.mem_range.mp hk)
theorem zly_0_0 : u_lay RX0 TX0 0 ∈ zT := zwm_3 _ (List.mem_of_getElem? (i := 33) rfl)
theorem zly_0_1 : u_lay RX0 TX0 1 ∈ zT := zwm_3 _ (List.mem_of_getElem? (i := 34) rfl)
theorem zly_0_2 : u_lay RX0 TX0 2 ∈ zT := zwm_3 _ (List.mem_of_getElem? (i := 35) rfl)
theorem zly_0_3 : u_lay RX0 TX0 3 ∈ zT := zwm_3 _ (List.mem_of_getElem? (i := 36) rfl)
theorem zCl_0 : zCl 0 := ⟨rfl, rfl, tyX0_ok, nmX0, zu_in (R := RX0) (T := TX0) (N := 4) (fun k hk => by
  match k, hk with
  | 0, _ => exact zly_0_0
  | 1, _ => exact zly_0_1
  | 2, _ => exact zly_0_2
  | 3, _ => exact zly_0_3
  | q + 4, hk => exact absurd hk (by omega))⟩
theorem zly_1_0 : u_lay RX1 TX1 0 ∈ zT := zwm_5 _ (List.mem_of_getElem? (i := 24) rfl)
theorem zCl_1 : zCl 1 := ⟨rfl, rfl, tyX1_ok, nmX1, zu_in (R := RX1) (T := TX1) (N := 1) (fun k hk => by
  match k, hk with
  | 0, _ => exact zly_1_0
  | q + 1, hk => exact absurd hk (by omega))⟩
theorem zly_2_0 : u_lay RX2 TX2 0 ∈ zT := zwm_2 _ (List.mem_of_getElem? (i := 19) rfl)
theorem zly_2_1 : u_lay RX2 TX2 1 ∈ zT := zwm_2 _ (List.mem_of_getElem? (i := 20) rfl)
theorem zly_2_2 : u_lay RX2 TX2 2 ∈ zT := zwm_2 _ (List.mem_of_getElem? (i := 21) rfl)
theorem zly_2_3 : u_lay RX2 TX2 3 ∈ zT := zwm_2 _ (List.mem_of_getElem? (i := 22) rfl)
theorem zly_2_4 : u_lay RX2 TX2 4 ∈ zT := zwm_2 _ (List.mem_of_getElem? (i := 23) rfl)
theorem zCl_2 : zCl 2 := ⟨rfl, rfl, tyX2_ok, nmX2, zu_in (R := RX2) (T := TX2) (N := 5) (fun k hk => by
  match k, hk with
  | 0, _ => exact zly_2_0
  | 1, _ => exact zly_2_1
  | 2, _ => exact zly_2_2
  | 3, _ => exact zly_2_3
  | 4, _ => exact zly_2_4
  | q + 5, hk => exact absurd hk (by omega))⟩
theorem zly_3_0 : u_lay RX3 TX3 0 ∈ zT := zwm_5 _ (List.mem_of_getElem? (i := 16) rfl)
theorem zly_3_1 : u_lay RX3 TX3 1 ∈ zT := zwm_5 _ (List.mem_of_getElem? (i := 17) rfl)
theorem zCl_3 : zCl 3 := ⟨rfl, rfl, tyX3_ok, nmX3, zu_in (R := RX3) (T := TX3) (N := 2) (fun k hk => by
  match k, hk with
  | 0, _ => exact zly_3_0
  | 1, _ => exact zly_3_1
  | q + 2, hk => exact absurd hk (by omega))⟩
theorem zly_4_0 : u_lay RX4 TX4 0 ∈ zT := zwm_4 _ (List.mem_of_getElem? (i := 20) rfl)
theorem zly_4_1 : u_lay RX4 TX4 1 ∈ zT := zwm_4 _ (List.mem_of_getElem? (i := 21) rfl)
theorem zly_4_2 : u_lay RX4 TX4 2 ∈ zT := zwm_4 _ (List.mem_of_getElem? (i := 22) rfl)
theorem zly_4_3 : u_lay RX4 TX4 3 ∈ zT := zwm_4 _ (List.mem_of_getElem? (i := 23) rfl)
theorem zly_4_4 : u_lay RX4 TX4 4 ∈ zT := zwm_4 _ (List.mem_of_getElem? (i := 24) rfl)
theorem zly_4_5 : u_lay RX4 TX4 5 ∈ zT := zwm_4 _ (List.mem_of_getElem? (i := 25) rfl)
theorem zly_4_6 : u_lay RX4 TX4 6 ∈ zT := zwm_4 _ (List.mem_of_getElem? (i := 26) rfl)
theorem zly_4_7 : u_lay RX4 TX4 7 ∈ zT := zwm_4 _ (List.mem_of_getElem? (i := 27) rfl)
theorem zly_4_8 : u_lay RX4 TX4 8 ∈ zT := zwm_4 _ (List.mem_of_getElem? (i := 28) rfl)
theorem zly_4_9 : u_lay RX4 TX4 9 ∈ zT := zwm_4 _ (List.mem_of_getElem? (i := 29) rfl)
theorem zly_4_10 : u_lay RX4 TX4 10 ∈ zT := zwm_4 _ (List.mem_of_getElem? (i := 30) rfl)
theorem zCl_4 : zCl 4 := ⟨rfl, rfl, tyX4_ok, nmX4, zu_in (R := RX4) (T := TX4) (N := 11) (fun k hk => by
  match k, hk with
  | 0, _ => exact zly_4_0
  | 1, _ => exact zly_4_1
  | 2, _ => exact zly_4_2
  | 3, _ => exact zly_4_3
  | 4, _ => exact zly_4_4
  | 5, _ => exact zly_4_5
  | 6, _ => exact zly_4_6
  | 7, _ => exact zly_4_7
  | 8, _ => exact zly_4_8
  | 9, _ => exact zly_4_9
  | 10, _ => exact zly_4_10
  | q + 11, hk => exact absurd hk (by omega))⟩
theorem zly_5_0 : u_lay RX5 TX5 0 ∈ zT := zwm_2 _ (List.mem_of_getElem? (i := 33) rfl)
theorem zly_5_1 : u_lay RX5 TX5 1 ∈ zT := zwm_2 _ (List.mem_of_getElem? (i := 34) rfl)
theorem zCl_5 : zCl 5 := ⟨rfl, rfl, tyX5_ok, nmX5, zu_in (R := RX5) (T := TX5) (N := 2) (fun k hk => by
  match k, hk with
  | 0, _ => exact zly_5_0
  | 1, _ => exact zly_5_1
  | q + 2, hk => exact absurd hk (by omega))⟩
theorem zly_6_0 : u_lay RX6 TX6 0 ∈ zT := zwm_3 _ (List.mem_of_getElem? (i := 22) rfl)
theorem zly_6_1 : u_lay RX6 TX6 1 ∈ zT := zwm_3 _ (List.mem_of_getElem? (i := 23) rfl)
theorem zCl_6 : zCl 6 := ⟨rfl, rfl, tyX6_ok, nmX6, zu_in (R := RX6) (T := TX6) (N := 2) (fun k hk => by
  match k, hk with
  | 0, _ => exact zly_6_0
  | 1, _ => exact zly_6_1
  | q + 2, hk => exact absurd hk (by omega))⟩
theorem zly_7_0 : u_lay RX7 TX7 0 ∈ zT := zwm_7 _ (List.mem_of_getElem? (i := 10) rfl)
theorem zly_7_1 : u_lay RX7 TX7 1 ∈ zT := zwm_7 _ (List.mem_of_getElem? (i := 11) rfl)
theorem zly_7_2 : u_lay RX7 TX7 2 ∈ zT := zwm_7 _ (List.mem_of_getElem? (i := 12) rfl)
theorem zly_7_3 : u_lay RX7 TX7 3 ∈ zT := zwm_7 _ (List.mem_of_getElem? (i := 13) rfl)
theorem zly_7_4 : u_lay RX7 TX7 4 ∈ zT := zwm_7 _ (List.mem_of_getElem? (i := 14) rfl)
theorem zly_7_5 : u_lay RX7 TX7 5 ∈ zT := zwm_7 _ (List.mem_of_getElem? (i := 15) rfl)
theorem zly_7_6 : u_lay RX7 TX7 6 ∈ zT := zwm_7 _ (List.mem_of_getElem? (i := 16) rfl)
theorem zly_7_7 : u_lay RX7 TX7 7 ∈ zT := zwm_7 _ (List.mem_of_getElem? (i := 17) rfl)
theorem zly_7_8 : u_lay RX7 TX7 8 ∈ zT := zwm_7 _ (List.mem_of_getElem? (i := 18) rfl)
theorem zly_7_9 : u_lay RX7 TX7 9 ∈ zT := zwm_7 _ (List.mem_of_getElem? (i := 19) rfl)
theorem zly_7_10 : u_lay RX7 TX7 10 ∈ zT := zwm_7 _ (List.mem_of_getElem? (i := 20) rfl)
theorem zly_7_11 : u_lay RX7 TX7 11 ∈ zT := zwm_7 _ (List.mem_of_getElem? (i := 21) rfl)
theorem zCl_7 : zCl 7 := ⟨rfl, rfl, tyX7_ok, nmX7, zu_in (R := RX7) (T := TX7) (N := 12) (fun k hk => by
  match k, hk with
  | 0, _ => exact zly_7_0
  | 1, _ => exact zly_7_1
  | 2, _ => exact zly_7_2
  | 3, _ => exact zly_7_3
  | 4, _ => exact zly_7_4
  | 5, _ => exact zly_7_5
  | 6, _ => exact zly_7_6
  | 7, _ => exact zly_7_7
  | 8, _ => exact zly_7_8
  | 9, _ => exact zly_7_9
  | 10, _ => exact zly_7_10
  | 11, _ => exact zly_7_11
  | q + 12, hk => exact absurd hk (by omega))⟩
theorem zly_8_0 : u_lay RX8 TX8 0 ∈ zT := zwm_5 _ (List.mem_of_getElem? (i := 1) rfl)
theorem zly_8_1 : u_lay RX8 TX8 1 ∈ zT := zwm_5 _ (List.mem_of_getElem? (i := 2) rfl)
theorem zly_8_2 : u_lay RX8 TX8 2 ∈ zT := zwm_5 _ (List.mem_of_getElem? (i := 3) rfl)
theorem zly_8_3 : u_lay RX8 TX8 3 ∈ zT := zwm_5 _ (List.mem_of_getElem? (i := 4) rfl)
theorem zCl_8 : zCl 8 := ⟨rfl, rfl, tyX8_ok, nmX8, zu_in (R := RX8) (T := TX8) (N := 4) (fun k hk => by
  match k, hk with
  | 0, _ => exact zly_8_0
  | 1, _ => exact zly_8_1
  | 2, _ => exact zly_8_2
  | 3, _ => exact zly_8_3
  | q + 4, hk => exact absurd hk (by omega))⟩
theorem zly_9_0 : u_lay RX9 TX9 0 ∈ zT := zwm_5 _ (List.mem_of_getElem? (i := 33) rfl)
theorem zCl_9 : zCl 9 := ⟨rfl, rfl, tyX9_ok, nmX9, zu_in (R := RX9) (T := TX9) (N := 1) (fun k hk => by
  match k, hk with
  | 0, _ => exact zly_9_0
  | q + 1, hk => exact absurd hk (by omega))⟩
theorem zly_10_0 : u_lay RX10 TX10 0 ∈ zT := zwm_1 _ (List.mem_of_getElem? (i := 29) rfl)
theorem zly_10_1 : u_lay RX10 TX10 1 ∈ zT := zwm_1 _ (List.mem_of_getElem? (i := 30) rfl)
theorem zCl_10 : zCl 10 := ⟨rfl, rfl, tyX10_ok, nmX10, zu_in (R := RX10) (T := TX10) (N := 2) (fun k hk => by
  match k, hk with
  | 0, _ => exact zly_10_0
  | 1, _ => exact zly_10_1
  | q + 2, hk => exact absurd hk (by omega))⟩
theorem zly_11_0 : u_lay RX11 TX11 0 ∈ zT := zwm_6 _ (List.mem_of_getElem? (i := 6) rfl)
theorem zly_11_1 : u_lay RX11 TX11 1 ∈ zT := zwm_6 _ (List.mem_of_getElem? (i := 7) rfl)
theorem zly_11_2 : u_lay RX11 TX11 2 ∈ zT := zwm_6 _ (List.mem_of_getElem? (i := 8) rfl)
theorem zly_11_3 : u_lay RX11 TX11 3 ∈ zT := zwm_6 _ (List.mem_of_getElem? (i := 9) rfl)
theorem zly_11_4 : u_lay RX11 TX11 4 ∈ zT := zwm_6 _ (List.mem_of_getElem? (i := 10) rfl)
theorem zly_11_5 : u_lay RX11 TX11 5 ∈ zT := zwm_6 _ (List.mem_of_getElem? (i := 11) rfl)
theorem zly_11_6 : u_lay RX11 TX11 6 ∈ zT := zwm_6 _ (List.mem_of_getElem? (i := 12) rfl)
theorem zly_11_7 : u_lay RX11 TX11 7 ∈ zT := zwm_6 _ (List.mem_of_getElem? (i := 13) rfl)
theorem zly_11_8 : u_lay RX11 TX11 8 ∈ zT := zwm_6 _ (List.mem_of_getElem? (i := 14) rfl)
theorem zly_11_9 : u_lay RX11 TX11 9 ∈ zT := zwm_6 _ (List.mem_of_getElem? (i := 15) rfl)
theorem zly_11_10 : u_lay RX11 TX11 10 ∈ zT := zwm_6 _ (List.mem_of_getElem? (i := 16) rfl)
theorem zly_11_11 : u_lay RX11 TX11 11 ∈ zT := zwm_6 _ (List.mem_of_getElem? (i := 17) rfl)
theorem zCl_11 : zCl 11 := ⟨rfl, rfl, tyX11_ok, nmX11, zu_in (R := RX11) (T := TX11) (N := 12) (fun k hk => by
  match k, hk with
  | 0, _ => exact zly_11_0
  | 1, _ => exact zly_11_1
  | 2, _ => exact zly_11_2
  | 3, _ => exact zly_11_3
  | 4, _ => exact zly_11_4
  | 5, _ => exact zly_11_5
  | 6, _ => exact zly_11_6
  | 7, _ => exact zly_11_7
  | 8, _ => exact zly_11_8
  | 9, _ => exact zly_11_9
  | 10, _ => exact zly_11_10
  | 11, _ => exact zly_11_11
  | q + 12, hk => exact absurd hk (by omega))⟩
theorem zly_12_0 : u_lay RX12 TX12 0 ∈ zT := zwm_17 _ (List.mem_of_getElem? (i := 37) rfl)
theorem zly_12_1 : u_lay RX12 TX12 1 ∈ zT := zwm_17 _ (List.mem_of_getElem? (i := 38) rfl)
theorem zly_12_2 : u_lay RX12 TX12 2 ∈ zT := zwm_17 _ (List.mem_of_getElem? (i := 39) rfl)
theorem zly_12_3 : u_lay RX12 TX12 3 ∈ zT := zwm_18 _ (List.mem_of_getElem? (i := 0) rfl)
theorem zly_12_4 : u_lay RX12 TX12 4 ∈ zT := zwm_18 _ (List.mem_of_getElem? (i := 1) rfl)
theorem zly_12_5 : u_lay RX12 TX12 5 ∈ zT := zwm_18 _ (List.mem_of_getElem? (i := 2) rfl)
theorem zly_12_6 : u_lay RX12 TX12 6 ∈ zT := zwm_18 _ (List.mem_of_getElem? (i := 3) rfl)
theorem zly_12_7 : u_lay RX12 TX12 7 ∈ zT := zwm_18 _ (List.mem_of_getElem? (i := 4) rfl)
theorem zly_12_8 : u_lay RX12 TX12 8 ∈ zT := zwm_18 _ (List.mem_of_getElem? (i := 5) rfl)
theorem zly_12_9 : u_lay RX12 TX12 9 ∈ zT := zwm_18 _ (List.mem_of_getElem? (i := 6) rfl)
theorem zly_12_10 : u_lay RX12 TX12 10 ∈ zT := zwm_18 _ (List.mem_of_getElem? (i := 7) rfl)
theorem zly_12_11 : u_lay RX12 TX12 11 ∈ zT := zwm_18 _ (List.mem_of_getElem? (i := 8) rfl)
theorem zly_12_12 : u_lay RX12 TX12 12 ∈ zT := zwm_18 _ (List.mem_of_getElem? (i := 9) rfl)
theorem zly_12_13 : u_lay RX12 TX12 13 ∈ zT := zwm_18 _ (List.mem_of_getElem? (i := 10) rfl)
theorem zly_12_14 : u_lay RX12 TX12 14 ∈ zT := zwm_18 _ (List.mem_of_getElem? (i := 11) rfl)
theorem zly_12_15 : u_lay RX12 TX12 15 ∈ zT := zwm_18 _ (List.mem_of_getElem? (i := 12) rfl)
theorem zly_12_16 : u_lay RX12 TX12 16 ∈ zT := zwm_18 _ (List.mem_of_getElem? (i := 13) rfl)
theorem zly_12_17 : u_lay RX12 TX12 17 ∈ zT := zwm_18 _ (List.mem_of_getElem? (i := 14) rfl)
theorem zly_12_18 : u_lay RX12 TX12 18 ∈ zT := zwm_18 _ (List.mem_of_getElem? (i := 15) rfl)
theorem zly_12_19 : u_lay RX12 TX12 19 ∈ zT := zwm_18 _ (List.mem_of_getElem? (i := 16) rfl)
theorem zly_12_20 : u_lay RX12 TX12 20 ∈ zT := zwm_18 _ (List.mem_of_getElem? (i := 17) rfl)
theorem zly_12_21 : u_lay RX12 TX12 21 ∈ zT := zwm_18 _ (List.mem_of_getElem? (i := 18) rfl)
theorem zly_12_22 : u_lay RX12 TX12 22 ∈ zT := zwm_18 _ (List.mem_of_getElem? (i := 19) rfl)
theorem zly_12_23 : u_lay RX12 TX12 23 ∈ zT := zwm_18 _ (List.mem_of_getElem? (i := 20) rfl)
theorem zly_12_24 : u_lay RX12 TX12 24 ∈ zT := zwm_18 _ (List.mem_of_getElem? (i := 21) rfl)
theorem zly_12_25 : u_lay RX12 TX12 25 ∈ zT := zwm_18 _ (List.mem_of_getElem? (i := 22) rfl)
theorem zly_12_26 : u_lay RX12 TX12 26 ∈ zT := zwm_18 _ (List.mem_of_getElem? (i := 23) rfl)
theorem zly_12_27 : u_lay RX12 TX12 27 ∈ zT := zwm_18 _ (List.mem_of_getElem? (i := 24) rfl)
theorem zly_12_28 : u_lay RX12 TX12 28 ∈ zT := zwm_18 _ (List.mem_of_getElem? (i := 25) rfl)
theorem zly_12_29 : u_lay RX12 TX12 29 ∈ zT := zwm_18 _ (List.mem_of_getElem? (i := 26) rfl)
theorem zCl_12 : zCl 12 := ⟨rfl, rfl, tyX12_ok, nmX12, zu_in (R := RX12) (T := TX12) (N := 30) (fun k hk => by
  match k, hk with
  | 0, _ => exact zly_12_0
  | 1, _ => exact zly_12_1
  | 2, _ => exact zly_12_2
  | 3, _ => exact zly_12_3
  | 4, _ => exact zly_12_4
  | 5, _ => exact zly_12_5
  | 6, _ => exact zly_12_6
  | 7, _ => exact zly_12_7
  | 8, _ => exact zly_12_8
  | 9, _ => exact zly_12_9
  | 10, _ => exact zly_12_10
  | 11, _ => exact zly_12_11
  | 12, _ => exact zly_12_12
  | 13, _ => exact zly_12_13
  | 14, _ => exact zly_12_14
  | 15, _ => exact zly_12_15
  | 16, _ => exact zly_12_16
  | 17, _ => exact zly_12_17
  | 18, _ => exact zly_12_18
  | 19, _ => exact zly_12_19
  | 20, _ => exact zly_12_20
  | 21, _ => exact zly_12_21
  | 22, _ => exact zly_12_22
  | 23, _ => exact zly_12_23
  | 24, _ => exact zly_12_24
  | 25, _ => exact zly_12_25
  | 26, _ => exact zly_12_26
  | 27, _ => exact zly_12_27
  | 28, _ => exact zly_12_28
  | 29, _ => exact zly_12_29
  | q + 30, hk => exact absurd hk (by omega))⟩
/-- a field's link: pool entry i of class own is slot k of class t, of kind kd -/
def zF (own : String) (i t k kd : Nat) : Prop := t < 13 ∧ zCl t ∧ k < (zr t).2.2 ∧ zkd t k = kd ∧ Cond.fieldLink own i ((zr t).2.1 k).1 ((zr t).2.1 k).2.1 ((zr t).2.1 k).2.2.1 ∈ zT
theorem zF_X10_9 : zF RX10 9 10 0 1 := ⟨by decide, zCl_10, by decide, rfl, zwm_1 _ (List.mem_of_getElem? (i := 25) rfl)⟩
theorem zF_X2_33 : zF RX2 33 10 0 1 := ⟨by decide, zCl_10, by decide, rfl, zwm_1 _ (List.mem_of_getElem? (i := 26) rfl)⟩
theorem zF_X10_13 : zF RX10 13 10 1 1 := ⟨by decide, zCl_10, by decide, rfl, zwm_1 _ (List.mem_of_getElem? (i := 27) rfl)⟩
theorem zF_X2_37 : zF RX2 37 10 1 1 := ⟨by decide, zCl_10, by decide, rfl, zwm_1 _ (List.mem_of_getElem? (i := 28) rfl)⟩
theorem zF_X2_9 : zF RX2 9 2 0 2 := ⟨by decide, zCl_2, by decide, rfl, zwm_2 _ (List.mem_of_getElem? (i := 14) rfl)⟩
theorem zF_X2_13 : zF RX2 13 2 1 2 := ⟨by decide, zCl_2, by decide, rfl, zwm_2 _ (List.mem_of_getElem? (i := 15) rfl)⟩
theorem zF_X2_19 : zF RX2 19 2 2 2 := ⟨by decide, zCl_2, by decide, rfl, zwm_2 _ (List.mem_of_getElem? (i := 16) rfl)⟩
theorem zF_X2_23 : zF RX2 23 2 3 2 := ⟨by decide, zCl_2, by decide, rfl, zwm_2 _ (List.mem_of_getElem? (i := 17) rfl)⟩
theorem zF_X2_26 : zF RX2 26 2 4 2 := ⟨by decide, zCl_2, by decide, rfl, zwm_2 _ (List.mem_of_getElem? (i := 18) rfl)⟩
theorem zF_X5_9 : zF RX5 9 5 0 0 := ⟨by decide, zCl_5, by decide, rfl, zwm_2 _ (List.mem_of_getElem? (i := 29) rfl)⟩
theorem zF_X4_49 : zF RX4 49 5 0 0 := ⟨by decide, zCl_5, by decide, rfl, zwm_2 _ (List.mem_of_getElem? (i := 30) rfl)⟩
theorem zF_X0_37 : zF RX0 37 5 0 0 := ⟨by decide, zCl_5, by decide, rfl, zwm_2 _ (List.mem_of_getElem? (i := 31) rfl)⟩
theorem zF_X5_15 : zF RX5 15 5 1 2 := ⟨by decide, zCl_5, by decide, rfl, zwm_2 _ (List.mem_of_getElem? (i := 32) rfl)⟩
theorem zF_X6_21 : zF RX6 21 6 0 2 := ⟨by decide, zCl_6, by decide, rfl, zwm_3 _ (List.mem_of_getElem? (i := 11) rfl)⟩
theorem zF_X9_24 : zF RX9 24 6 0 2 := ⟨by decide, zCl_6, by decide, rfl, zwm_3 _ (List.mem_of_getElem? (i := 12) rfl)⟩
theorem zF_X3_27 : zF RX3 27 6 0 2 := ⟨by decide, zCl_6, by decide, rfl, zwm_3 _ (List.mem_of_getElem? (i := 13) rfl)⟩
theorem zF_X0_46 : zF RX0 46 6 0 2 := ⟨by decide, zCl_6, by decide, rfl, zwm_3 _ (List.mem_of_getElem? (i := 14) rfl)⟩
theorem zF_X7_73 : zF RX7 73 6 0 2 := ⟨by decide, zCl_6, by decide, rfl, zwm_3 _ (List.mem_of_getElem? (i := 15) rfl)⟩
theorem zF_X6_9 : zF RX6 9 6 1 0 := ⟨by decide, zCl_6, by decide, rfl, zwm_3 _ (List.mem_of_getElem? (i := 16) rfl)⟩
theorem zF_X9_20 : zF RX9 20 6 1 0 := ⟨by decide, zCl_6, by decide, rfl, zwm_3 _ (List.mem_of_getElem? (i := 17) rfl)⟩
theorem zF_X3_16 : zF RX3 16 6 1 0 := ⟨by decide, zCl_6, by decide, rfl, zwm_3 _ (List.mem_of_getElem? (i := 18) rfl)⟩
theorem zF_X0_43 : zF RX0 43 6 1 0 := ⟨by decide, zCl_6, by decide, rfl, zwm_3 _ (List.mem_of_getElem? (i := 19) rfl)⟩
theorem zF_X7_62 : zF RX7 62 6 1 0 := ⟨by decide, zCl_6, by decide, rfl, zwm_3 _ (List.mem_of_getElem? (i := 20) rfl)⟩
theorem zF_X11_117 : zF RX11 117 6 1 0 := ⟨by decide, zCl_6, by decide, rfl, zwm_3 _ (List.mem_of_getElem? (i := 21) rfl)⟩
theorem zF_X0_16 : zF RX0 16 0 0 2 := ⟨by decide, zCl_0, by decide, rfl, zwm_3 _ (List.mem_of_getElem? (i := 24) rfl)⟩
theorem zF_X11_150 : zF RX11 150 0 0 2 := ⟨by decide, zCl_0, by decide, rfl, zwm_3 _ (List.mem_of_getElem? (i := 25) rfl)⟩
theorem zF_X0_20 : zF RX0 20 0 1 0 := ⟨by decide, zCl_0, by decide, rfl, zwm_3 _ (List.mem_of_getElem? (i := 26) rfl)⟩
theorem zF_X4_63 : zF RX4 63 0 1 0 := ⟨by decide, zCl_0, by decide, rfl, zwm_3 _ (List.mem_of_getElem? (i := 27) rfl)⟩
theorem zF_X11_170 : zF RX11 170 0 1 0 := ⟨by decide, zCl_0, by decide, rfl, zwm_3 _ (List.mem_of_getElem? (i := 28) rfl)⟩
theorem zF_X0_24 : zF RX0 24 0 2 0 := ⟨by decide, zCl_0, by decide, rfl, zwm_3 _ (List.mem_of_getElem? (i := 29) rfl)⟩
theorem zF_X4_79 : zF RX4 79 0 2 0 := ⟨by decide, zCl_0, by decide, rfl, zwm_3 _ (List.mem_of_getElem? (i := 30) rfl)⟩
theorem zF_X11_179 : zF RX11 179 0 2 0 := ⟨by decide, zCl_0, by decide, rfl, zwm_3 _ (List.mem_of_getElem? (i := 31) rfl)⟩
theorem zF_X0_27 : zF RX0 27 0 3 2 := ⟨by decide, zCl_0, by decide, rfl, zwm_3 _ (List.mem_of_getElem? (i := 32) rfl)⟩
theorem zF_X4_9 : zF RX4 9 4 0 0 := ⟨by decide, zCl_4, by decide, rfl, zwm_4 _ (List.mem_of_getElem? (i := 3) rfl)⟩
theorem zF_X11_186 : zF RX11 186 4 0 0 := ⟨by decide, zCl_4, by decide, rfl, zwm_4 _ (List.mem_of_getElem? (i := 4) rfl)⟩
theorem zF_X4_15 : zF RX4 15 4 1 0 := ⟨by decide, zCl_4, by decide, rfl, zwm_4 _ (List.mem_of_getElem? (i := 5) rfl)⟩
theorem zF_X11_189 : zF RX11 189 4 1 0 := ⟨by decide, zCl_4, by decide, rfl, zwm_4 _ (List.mem_of_getElem? (i := 6) rfl)⟩
theorem zF_X4_18 : zF RX4 18 4 2 0 := ⟨by decide, zCl_4, by decide, rfl, zwm_4 _ (List.mem_of_getElem? (i := 7) rfl)⟩
theorem zF_X11_192 : zF RX11 192 4 2 0 := ⟨by decide, zCl_4, by decide, rfl, zwm_4 _ (List.mem_of_getElem? (i := 8) rfl)⟩
theorem zF_X4_21 : zF RX4 21 4 3 0 := ⟨by decide, zCl_4, by decide, rfl, zwm_4 _ (List.mem_of_getElem? (i := 9) rfl)⟩
theorem zF_X11_195 : zF RX11 195 4 3 0 := ⟨by decide, zCl_4, by decide, rfl, zwm_4 _ (List.mem_of_getElem? (i := 10) rfl)⟩
theorem zF_X4_24 : zF RX4 24 4 4 0 := ⟨by decide, zCl_4, by decide, rfl, zwm_4 _ (List.mem_of_getElem? (i := 11) rfl)⟩
theorem zF_X11_198 : zF RX11 198 4 4 0 := ⟨by decide, zCl_4, by decide, rfl, zwm_4 _ (List.mem_of_getElem? (i := 12) rfl)⟩
theorem zF_X4_27 : zF RX4 27 4 5 0 := ⟨by decide, zCl_4, by decide, rfl, zwm_4 _ (List.mem_of_getElem? (i := 13) rfl)⟩
theorem zF_X11_201 : zF RX11 201 4 5 0 := ⟨by decide, zCl_4, by decide, rfl, zwm_4 _ (List.mem_of_getElem? (i := 14) rfl)⟩
theorem zF_X4_30 : zF RX4 30 4 6 0 := ⟨by decide, zCl_4, by decide, rfl, zwm_4 _ (List.mem_of_getElem? (i := 15) rfl)⟩
theorem zF_X4_33 : zF RX4 33 4 7 0 := ⟨by decide, zCl_4, by decide, rfl, zwm_4 _ (List.mem_of_getElem? (i := 16) rfl)⟩
theorem zF_X4_36 : zF RX4 36 4 8 0 := ⟨by decide, zCl_4, by decide, rfl, zwm_4 _ (List.mem_of_getElem? (i := 17) rfl)⟩
theorem zF_X4_39 : zF RX4 39 4 9 0 := ⟨by decide, zCl_4, by decide, rfl, zwm_4 _ (List.mem_of_getElem? (i := 18) rfl)⟩
theorem zF_X4_45 : zF RX4 45 4 10 2 := ⟨by decide, zCl_4, by decide, rfl, zwm_4 _ (List.mem_of_getElem? (i := 19) rfl)⟩
theorem zF_X8_11 : zF RX8 11 8 0 2 := ⟨by decide, zCl_8, by decide, rfl, zwm_4 _ (List.mem_of_getElem? (i := 37) rfl)⟩
theorem zF_X8_15 : zF RX8 15 8 1 2 := ⟨by decide, zCl_8, by decide, rfl, zwm_4 _ (List.mem_of_getElem? (i := 38) rfl)⟩
theorem zF_X8_20 : zF RX8 20 8 2 2 := ⟨by decide, zCl_8, by decide, rfl, zwm_4 _ (List.mem_of_getElem? (i := 39) rfl)⟩
theorem zF_X8_23 : zF RX8 23 8 3 2 := ⟨by decide, zCl_8, by decide, rfl, zwm_5 _ (List.mem_of_getElem? (i := 0) rfl)⟩
theorem zF_X3_7 : zF RX3 7 3 0 0 := ⟨by decide, zCl_3, by decide, rfl, zwm_5 _ (List.mem_of_getElem? (i := 12) rfl)⟩
theorem zF_X11_233 : zF RX11 233 3 0 0 := ⟨by decide, zCl_3, by decide, rfl, zwm_5 _ (List.mem_of_getElem? (i := 13) rfl)⟩
theorem zF_X3_13 : zF RX3 13 3 1 0 := ⟨by decide, zCl_3, by decide, rfl, zwm_5 _ (List.mem_of_getElem? (i := 14) rfl)⟩
theorem zF_X11_236 : zF RX11 236 3 1 0 := ⟨by decide, zCl_3, by decide, rfl, zwm_5 _ (List.mem_of_getElem? (i := 15) rfl)⟩
theorem zF_X1_9 : zF RX1 9 1 0 2 := ⟨by decide, zCl_1, by decide, rfl, zwm_5 _ (List.mem_of_getElem? (i := 23) rfl)⟩
theorem zF_X9_16 : zF RX9 16 9 0 2 := ⟨by decide, zCl_9, by decide, rfl, zwm_5 _ (List.mem_of_getElem? (i := 31) rfl)⟩
theorem zF_X11_218 : zF RX11 218 9 0 2 := ⟨by decide, zCl_9, by decide, rfl, zwm_5 _ (List.mem_of_getElem? (i := 32) rfl)⟩
theorem zF_X11_10 : zF RX11 10 11 0 2 := ⟨by decide, zCl_11, by decide, rfl, zwm_5 _ (List.mem_of_getElem? (i := 34) rfl)⟩
theorem zF_X11_19 : zF RX11 19 11 1 2 := ⟨by decide, zCl_11, by decide, rfl, zwm_5 _ (List.mem_of_getElem? (i := 35) rfl)⟩
theorem zF_X11_25 : zF RX11 25 11 2 2 := ⟨by decide, zCl_11, by decide, rfl, zwm_5 _ (List.mem_of_getElem? (i := 36) rfl)⟩
theorem zF_X11_32 : zF RX11 32 11 3 2 := ⟨by decide, zCl_11, by decide, rfl, zwm_5 _ (List.mem_of_getElem? (i := 37) rfl)⟩
theorem zF_X11_39 : zF RX11 39 11 4 2 := ⟨by decide, zCl_11, by decide, rfl, zwm_5 _ (List.mem_of_getElem? (i := 38) rfl)⟩
theorem zF_X11_46 : zF RX11 46 11 5 2 := ⟨by decide, zCl_11, by decide, rfl, zwm_5 _ (List.mem_of_getElem? (i := 39) rfl)⟩
theorem zF_X11_52 : zF RX11 52 11 6 2 := ⟨by decide, zCl_11, by decide, rfl, zwm_6 _ (List.mem_of_getElem? (i := 0) rfl)⟩
theorem zF_X11_59 : zF RX11 59 11 7 2 := ⟨by decide, zCl_11, by decide, rfl, zwm_6 _ (List.mem_of_getElem? (i := 1) rfl)⟩
theorem zF_X11_66 : zF RX11 66 11 8 2 := ⟨by decide, zCl_11, by decide, rfl, zwm_6 _ (List.mem_of_getElem? (i := 2) rfl)⟩
theorem zF_X11_70 : zF RX11 70 11 9 0 := ⟨by decide, zCl_11, by decide, rfl, zwm_6 _ (List.mem_of_getElem? (i := 3) rfl)⟩
theorem zF_X11_74 : zF RX11 74 11 10 0 := ⟨by decide, zCl_11, by decide, rfl, zwm_6 _ (List.mem_of_getElem? (i := 4) rfl)⟩
theorem zF_X11_77 : zF RX11 77 11 11 0 := ⟨by decide, zCl_11, by decide, rfl, zwm_6 _ (List.mem_of_getElem? (i := 5) rfl)⟩
theorem zF_X7_43 : zF RX7 43 7 0 0 := ⟨by decide, zCl_7, by decide, rfl, zwm_6 _ (List.mem_of_getElem? (i := 34) rfl)⟩
theorem zF_X11_134 : zF RX11 134 7 0 0 := ⟨by decide, zCl_7, by decide, rfl, zwm_6 _ (List.mem_of_getElem? (i := 35) rfl)⟩
theorem zF_X7_47 : zF RX7 47 7 1 0 := ⟨by decide, zCl_7, by decide, rfl, zwm_6 _ (List.mem_of_getElem? (i := 36) rfl)⟩
theorem zF_X11_267 : zF RX11 267 7 1 0 := ⟨by decide, zCl_7, by decide, rfl, zwm_6 _ (List.mem_of_getElem? (i := 37) rfl)⟩
theorem zF_X7_50 : zF RX7 50 7 2 0 := ⟨by decide, zCl_7, by decide, rfl, zwm_6 _ (List.mem_of_getElem? (i := 38) rfl)⟩
theorem zF_X7_53 : zF RX7 53 7 3 0 := ⟨by decide, zCl_7, by decide, rfl, zwm_6 _ (List.mem_of_getElem? (i := 39) rfl)⟩
theorem zF_X11_270 : zF RX11 270 7 3 0 := ⟨by decide, zCl_7, by decide, rfl, zwm_7 _ (List.mem_of_getElem? (i := 0) rfl)⟩
theorem zF_X7_16 : zF RX7 16 7 4 2 := ⟨by decide, zCl_7, by decide, rfl, zwm_7 _ (List.mem_of_getElem? (i := 1) rfl)⟩
theorem zF_X11_113 : zF RX11 113 7 4 2 := ⟨by decide, zCl_7, by decide, rfl, zwm_7 _ (List.mem_of_getElem? (i := 2) rfl)⟩
theorem zF_X7_20 : zF RX7 20 7 5 0 := ⟨by decide, zCl_7, by decide, rfl, zwm_7 _ (List.mem_of_getElem? (i := 3) rfl)⟩
theorem zF_X7_24 : zF RX7 24 7 6 2 := ⟨by decide, zCl_7, by decide, rfl, zwm_7 _ (List.mem_of_getElem? (i := 4) rfl)⟩
theorem zF_X7_28 : zF RX7 28 7 7 2 := ⟨by decide, zCl_7, by decide, rfl, zwm_7 _ (List.mem_of_getElem? (i := 5) rfl)⟩
theorem zF_X7_31 : zF RX7 31 7 8 2 := ⟨by decide, zCl_7, by decide, rfl, zwm_7 _ (List.mem_of_getElem? (i := 6) rfl)⟩
theorem zF_X7_34 : zF RX7 34 7 9 2 := ⟨by decide, zCl_7, by decide, rfl, zwm_7 _ (List.mem_of_getElem? (i := 7) rfl)⟩
theorem zF_X7_37 : zF RX7 37 7 10 0 := ⟨by decide, zCl_7, by decide, rfl, zwm_7 _ (List.mem_of_getElem? (i := 8) rfl)⟩
theorem zF_X7_40 : zF RX7 40 7 11 0 := ⟨by decide, zCl_7, by decide, rfl, zwm_7 _ (List.mem_of_getElem? (i := 9) rfl)⟩
theorem zF_X12_7 : zF RX12 7 12 0 0 := ⟨by decide, zCl_12, by decide, rfl, zwm_17 _ (List.mem_of_getElem? (i := 7) rfl)⟩
theorem zF_X12_160 : zF RX12 160 12 1 0 := ⟨by decide, zCl_12, by decide, rfl, zwm_17 _ (List.mem_of_getElem? (i := 8) rfl)⟩
theorem zF_X12_13 : zF RX12 13 12 2 2 := ⟨by decide, zCl_12, by decide, rfl, zwm_17 _ (List.mem_of_getElem? (i := 9) rfl)⟩
theorem zF_X12_17 : zF RX12 17 12 3 2 := ⟨by decide, zCl_12, by decide, rfl, zwm_17 _ (List.mem_of_getElem? (i := 10) rfl)⟩
theorem zF_X12_21 : zF RX12 21 12 4 2 := ⟨by decide, zCl_12, by decide, rfl, zwm_17 _ (List.mem_of_getElem? (i := 11) rfl)⟩
theorem zF_X12_24 : zF RX12 24 12 5 2 := ⟨by decide, zCl_12, by decide, rfl, zwm_17 _ (List.mem_of_getElem? (i := 12) rfl)⟩
theorem zF_X12_27 : zF RX12 27 12 6 2 := ⟨by decide, zCl_12, by decide, rfl, zwm_17 _ (List.mem_of_getElem? (i := 13) rfl)⟩
theorem zF_X12_30 : zF RX12 30 12 7 2 := ⟨by decide, zCl_12, by decide, rfl, zwm_17 _ (List.mem_of_getElem? (i := 14) rfl)⟩
theorem zF_X12_33 : zF RX12 33 12 8 2 := ⟨by decide, zCl_12, by decide, rfl, zwm_17 _ (List.mem_of_getElem? (i := 15) rfl)⟩
theorem zF_X12_36 : zF RX12 36 12 9 2 := ⟨by decide, zCl_12, by decide, rfl, zwm_17 _ (List.mem_of_getElem? (i := 16) rfl)⟩
theorem zF_X12_206 : zF RX12 206 12 10 0 := ⟨by decide, zCl_12, by decide, rfl, zwm_17 _ (List.mem_of_getElem? (i := 17) rfl)⟩
theorem zF_X12_218 : zF RX12 218 12 11 0 := ⟨by decide, zCl_12, by decide, rfl, zwm_17 _ (List.mem_of_getElem? (i := 18) rfl)⟩
theorem zF_X12_39 : zF RX12 39 12 12 2 := ⟨by decide, zCl_12, by decide, rfl, zwm_17 _ (List.mem_of_getElem? (i := 19) rfl)⟩
theorem zF_X12_42 : zF RX12 42 12 13 2 := ⟨by decide, zCl_12, by decide, rfl, zwm_17 _ (List.mem_of_getElem? (i := 20) rfl)⟩
theorem zF_X12_45 : zF RX12 45 12 14 2 := ⟨by decide, zCl_12, by decide, rfl, zwm_17 _ (List.mem_of_getElem? (i := 21) rfl)⟩
theorem zF_X12_48 : zF RX12 48 12 15 2 := ⟨by decide, zCl_12, by decide, rfl, zwm_17 _ (List.mem_of_getElem? (i := 22) rfl)⟩
theorem zF_X12_52 : zF RX12 52 12 16 2 := ⟨by decide, zCl_12, by decide, rfl, zwm_17 _ (List.mem_of_getElem? (i := 23) rfl)⟩
theorem zF_X12_55 : zF RX12 55 12 17 2 := ⟨by decide, zCl_12, by decide, rfl, zwm_17 _ (List.mem_of_getElem? (i := 24) rfl)⟩
theorem zF_X12_58 : zF RX12 58 12 18 2 := ⟨by decide, zCl_12, by decide, rfl, zwm_17 _ (List.mem_of_getElem? (i := 25) rfl)⟩
theorem zF_X12_61 : zF RX12 61 12 19 2 := ⟨by decide, zCl_12, by decide, rfl, zwm_17 _ (List.mem_of_getElem? (i := 26) rfl)⟩
theorem zF_X12_64 : zF RX12 64 12 20 2 := ⟨by decide, zCl_12, by decide, rfl, zwm_17 _ (List.mem_of_getElem? (i := 27) rfl)⟩
theorem zF_X12_67 : zF RX12 67 12 21 2 := ⟨by decide, zCl_12, by decide, rfl, zwm_17 _ (List.mem_of_getElem? (i := 28) rfl)⟩
theorem zF_X12_70 : zF RX12 70 12 22 2 := ⟨by decide, zCl_12, by decide, rfl, zwm_17 _ (List.mem_of_getElem? (i := 29) rfl)⟩
theorem zF_X12_74 : zF RX12 74 12 23 2 := ⟨by decide, zCl_12, by decide, rfl, zwm_17 _ (List.mem_of_getElem? (i := 30) rfl)⟩
theorem zF_X12_155 : zF RX12 155 12 24 0 := ⟨by decide, zCl_12, by decide, rfl, zwm_17 _ (List.mem_of_getElem? (i := 31) rfl)⟩
theorem zF_X12_77 : zF RX12 77 12 25 2 := ⟨by decide, zCl_12, by decide, rfl, zwm_17 _ (List.mem_of_getElem? (i := 32) rfl)⟩
theorem zF_X12_221 : zF RX12 221 12 26 0 := ⟨by decide, zCl_12, by decide, rfl, zwm_17 _ (List.mem_of_getElem? (i := 33) rfl)⟩
theorem zF_X12_80 : zF RX12 80 12 27 2 := ⟨by decide, zCl_12, by decide, rfl, zwm_17 _ (List.mem_of_getElem? (i := 34) rfl)⟩
theorem zF_X12_83 : zF RX12 83 12 28 2 := ⟨by decide, zCl_12, by decide, rfl, zwm_17 _ (List.mem_of_getElem? (i := 35) rfl)⟩
theorem zF_X12_86 : zF RX12 86 12 29 2 := ⟨by decide, zCl_12, by decide, rfl, zwm_17 _ (List.mem_of_getElem? (i := 36) rfl)⟩
/-- links of calls -/
def zLV (own : String) (i : Nat) (y : MethodName) : Prop := Cond.methodLink own i y ∈ zT ∧ Cond.instanceMethod y ∈ zT ∧ Cond.selects y.cls y y ∈ zT ∧ Cond.initialized y.cls ∈ zT
def zLS (own : String) (i : Nat) (y : MethodName) : Prop := Cond.methodLink own i y ∈ zT ∧ Cond.static y ∈ zT ∧ Cond.initialized y.cls ∈ zT
def zLI (own : String) (i : Nat) (y : MethodName) : Prop := Cond.methodLink own i y ∈ zT ∧ Cond.instanceMethod y ∈ zT ∧ Cond.initialized y.cls ∈ zT
def zCd (y : MethodName) (cc : ByteArray) (maxL : Nat) (ret : Option FieldType) (n : Nat) : Prop := Cond.code y cc maxL ret ∈ zT ∧ (y.cls ≠ "java/lang/invoke/MethodHandle" ∧ y.cls ≠ "java/lang/invoke/VarHandle") ∧ (parseMethodDescriptor y.desc).map (fun d => d.parameters.length) = some n ∧ plainFor y = true
theorem zini_L : Cond.initialized RL ∈ zT := zwm_0 _ (List.mem_of_getElem? (i := 31) rfl)
theorem zini_X11 : Cond.initialized RX11 ∈ zT := zwm_0 _ (List.mem_of_getElem? (i := 32) rfl)
theorem zini_X2 : Cond.initialized RX2 ∈ zT := zwm_0 _ (List.mem_of_getElem? (i := 33) rfl)
theorem zini_X10 : Cond.initialized RX10 ∈ zT := zwm_0 _ (List.mem_of_getElem? (i := 34) rfl)
theorem zini_X5 : Cond.initialized RX5 ∈ zT := zwm_0 _ (List.mem_of_getElem? (i := 35) rfl)
theorem zini_X0 : Cond.initialized RX0 ∈ zT := zwm_0 _ (List.mem_of_getElem? (i := 36) rfl)
theorem zini_X6 : Cond.initialized RX6 ∈ zT := zwm_0 _ (List.mem_of_getElem? (i := 37) rfl)
theorem zini_J9 : Cond.initialized RJ9 ∈ zT := zwm_0 _ (List.mem_of_getElem? (i := 38) rfl)
theorem zini_X4 : Cond.initialized RX4 ∈ zT := zwm_0 _ (List.mem_of_getElem? (i := 39) rfl)
theorem zini_X8 : Cond.initialized RX8 ∈ zT := zwm_1 _ (List.mem_of_getElem? (i := 0) rfl)
theorem zini_X3 : Cond.initialized RX3 ∈ zT := zwm_1 _ (List.mem_of_getElem? (i := 1) rfl)
theorem zini_X1 : Cond.initialized RX1 ∈ zT := zwm_1 _ (List.mem_of_getElem? (i := 2) rfl)
theorem zini_X9 : Cond.initialized RX9 ∈ zT := zwm_1 _ (List.mem_of_getElem? (i := 3) rfl)
theorem zini_X12 : Cond.initialized RX12 ∈ zT := zwm_1 _ (List.mem_of_getElem? (i := 4) rfl)
theorem zini_X7 : Cond.initialized RX7 ∈ zT := zwm_1 _ (List.mem_of_getElem? (i := 5) rfl)
theorem zinst_X0_init : Cond.instanceMethod yX0_init ∈ zT := zwm_2 _ (List.mem_of_getElem? (i := 39) rfl)
theorem zinst_X0_begin : Cond.instanceMethod yX0_begin ∈ zT := zwm_11 _ (List.mem_of_getElem? (i := 26) rfl)
theorem zsel_X0_begin : Cond.selects yX0_begin.cls yX0_begin yX0_begin ∈ zT := zwm_11 _ (List.mem_of_getElem? (i := 27) rfl)
theorem zinst_X0_move : Cond.instanceMethod yX0_move ∈ zT := zwm_11 _ (List.mem_of_getElem? (i := 30) rfl)
theorem zsel_X0_move : Cond.selects yX0_move.cls yX0_move yX0_move ∈ zT := zwm_11 _ (List.mem_of_getElem? (i := 31) rfl)
theorem zinst_X0_walk : Cond.instanceMethod yX0_walk ∈ zT := zwm_11 _ (List.mem_of_getElem? (i := 22) rfl)
theorem zsel_X0_walk : Cond.selects yX0_walk.cls yX0_walk yX0_walk ∈ zT := zwm_11 _ (List.mem_of_getElem? (i := 23) rfl)
theorem zinst_X0_truth : Cond.instanceMethod yX0_truth ∈ zT := zwm_12 _ (List.mem_of_getElem? (i := 5) rfl)
theorem zsel_X0_truth : Cond.selects yX0_truth.cls yX0_truth yX0_truth ∈ zT := zwm_12 _ (List.mem_of_getElem? (i := 6) rfl)
theorem zinst_X0_multiplyOut : Cond.instanceMethod yX0_multiplyOut ∈ zT := zwm_12 _ (List.mem_of_getElem? (i := 9) rfl)
theorem zsel_X0_multiplyOut : Cond.selects yX0_multiplyOut.cls yX0_multiplyOut yX0_multiplyOut ∈ zT := zwm_0 _ (List.mem_of_getElem? (i := 4) rfl)
theorem zstat_X0_firstThree : Cond.static yX0_firstThree ∈ zT := zwm_12 _ (List.mem_of_getElem? (i := 13) rfl)
theorem zinst_X1_init : Cond.instanceMethod yX1_init ∈ zT := zwm_5 _ (List.mem_of_getElem? (i := 20) rfl)
theorem zstat_X1_isLaw : Cond.static yX1_isLaw ∈ zT := zwm_15 _ (List.mem_of_getElem? (i := 4) rfl)
theorem zstat_X1_numberOf : Cond.static yX1_numberOf ∈ zT := zwm_15 _ (List.mem_of_getElem? (i := 13) rfl)
theorem zstat_X1_inOrder : Cond.static yX1_inOrder ∈ zT := zwm_15 _ (List.mem_of_getElem? (i := 10) rfl)
theorem zstat_X1_placeOf : Cond.static yX1_placeOf ∈ zT := zwm_15 _ (List.mem_of_getElem? (i := 7) rfl)
theorem zinst_X1_doublesOf : Cond.instanceMethod yX1_doublesOf ∈ zT := zwm_15 _ (List.mem_of_getElem? (i := 22) rfl)
theorem zsel_X1_doublesOf : Cond.selects yX1_doublesOf.cls yX1_doublesOf yX1_doublesOf ∈ zT := zwm_15 _ (List.mem_of_getElem? (i := 23) rfl)
theorem zinst_X1_doublesFrom : Cond.instanceMethod yX1_doublesFrom ∈ zT := zwm_15 _ (List.mem_of_getElem? (i := 27) rfl)
theorem zsel_X1_doublesFrom : Cond.selects yX1_doublesFrom.cls yX1_doublesFrom yX1_doublesFrom ∈ zT := zwm_0 _ (List.mem_of_getElem? (i := 12) rfl)
theorem zinst_X2_init : Cond.instanceMethod yX2_init ∈ zT := zwm_1 _ (List.mem_of_getElem? (i := 17) rfl)
theorem zinst_X2_addGrowth : Cond.instanceMethod yX2_addGrowth ∈ zT := zwm_1 _ (List.mem_of_getElem? (i := 33) rfl)
theorem zsel_X2_addGrowth : Cond.selects yX2_addGrowth.cls yX2_addGrowth yX2_addGrowth ∈ zT := zwm_0 _ (List.mem_of_getElem? (i := 0) rfl)
theorem zinst_X2_putLog : Cond.instanceMethod yX2_putLog ∈ zT := zwm_8 _ (List.mem_of_getElem? (i := 3) rfl)
theorem zsel_X2_putLog : Cond.selects yX2_putLog.cls yX2_putLog yX2_putLog ∈ zT := zwm_0 _ (List.mem_of_getElem? (i := 2) rfl)
theorem zinst_X2_placeOf : Cond.instanceMethod yX2_placeOf ∈ zT := zwm_7 _ (List.mem_of_getElem? (i := 39) rfl)
theorem zsel_X2_placeOf : Cond.selects yX2_placeOf.cls yX2_placeOf yX2_placeOf ∈ zT := zwm_8 _ (List.mem_of_getElem? (i := 0) rfl)
theorem zinst_X3_init : Cond.instanceMethod yX3_init ∈ zT := zwm_5 _ (List.mem_of_getElem? (i := 9) rfl)
theorem zinst_X3_find : Cond.instanceMethod yX3_find ∈ zT := zwm_14 _ (List.mem_of_getElem? (i := 28) rfl)
theorem zsel_X3_find : Cond.selects yX3_find.cls yX3_find yX3_find ∈ zT := zwm_14 _ (List.mem_of_getElem? (i := 29) rfl)
theorem zstat_X3_alike : Cond.static yX3_alike ∈ zT := zwm_14 _ (List.mem_of_getElem? (i := 33) rfl)
theorem zinst_X3_weigh : Cond.instanceMethod yX3_weigh ∈ zT := zwm_14 _ (List.mem_of_getElem? (i := 36) rfl)
theorem zsel_X3_weigh : Cond.selects yX3_weigh.cls yX3_weigh yX3_weigh ∈ zT := zwm_0 _ (List.mem_of_getElem? (i := 11) rfl)
theorem zinst_X4_init : Cond.instanceMethod yX4_init ∈ zT := zwm_3 _ (List.mem_of_getElem? (i := 39) rfl)
theorem zinst_X4_sumUp : Cond.instanceMethod yX4_sumUp ∈ zT := zwm_12 _ (List.mem_of_getElem? (i := 22) rfl)
theorem zsel_X4_sumUp : Cond.selects yX4_sumUp.cls yX4_sumUp yX4_sumUp ∈ zT := zwm_12 _ (List.mem_of_getElem? (i := 23) rfl)
theorem zinst_X4_take : Cond.instanceMethod yX4_take ∈ zT := zwm_12 _ (List.mem_of_getElem? (i := 26) rfl)
theorem zsel_X4_take : Cond.selects yX4_take.cls yX4_take yX4_take ∈ zT := zwm_0 _ (List.mem_of_getElem? (i := 5) rfl)
theorem zinst_X5_init : Cond.instanceMethod yX5_init ∈ zT := zwm_2 _ (List.mem_of_getElem? (i := 26) rfl)
theorem zinst_X5_cutFor : Cond.instanceMethod yX5_cutFor ∈ zT := zwm_11 _ (List.mem_of_getElem? (i := 17) rfl)
theorem zsel_X5_cutFor : Cond.selects yX5_cutFor.cls yX5_cutFor yX5_cutFor ∈ zT := zwm_11 _ (List.mem_of_getElem? (i := 18) rfl)
theorem zinst_X5_placeOf : Cond.instanceMethod yX5_placeOf ∈ zT := zwm_11 _ (List.mem_of_getElem? (i := 34) rfl)
theorem zsel_X5_placeOf : Cond.selects yX5_placeOf.cls yX5_placeOf yX5_placeOf ∈ zT := zwm_11 _ (List.mem_of_getElem? (i := 35) rfl)
theorem zinst_X5_firstFrom : Cond.instanceMethod yX5_firstFrom ∈ zT := zwm_12 _ (List.mem_of_getElem? (i := 2) rfl)
theorem zsel_X5_firstFrom : Cond.selects yX5_firstFrom.cls yX5_firstFrom yX5_firstFrom ∈ zT := zwm_0 _ (List.mem_of_getElem? (i := 3) rfl)
theorem zinst_X5_readingOf : Cond.instanceMethod yX5_readingOf ∈ zT := zwm_11 _ (List.mem_of_getElem? (i := 38) rfl)
theorem zsel_X5_readingOf : Cond.selects yX5_readingOf.cls yX5_readingOf yX5_readingOf ∈ zT := zwm_11 _ (List.mem_of_getElem? (i := 39) rfl)
theorem zinst_X6_init : Cond.instanceMethod yX6_init ∈ zT := zwm_3 _ (List.mem_of_getElem? (i := 5) rfl)
theorem zinst_X6_isFull : Cond.instanceMethod yX6_isFull ∈ zT := zwm_8 _ (List.mem_of_getElem? (i := 34) rfl)
theorem zsel_X6_isFull : Cond.selects yX6_isFull.cls yX6_isFull yX6_isFull ∈ zT := zwm_8 _ (List.mem_of_getElem? (i := 35) rfl)
theorem zinst_X6_append : Cond.instanceMethod yX6_append ∈ zT := zwm_8 _ (List.mem_of_getElem? (i := 38) rfl)
theorem zsel_X6_append : Cond.selects yX6_append.cls yX6_append yX6_append ∈ zT := zwm_8 _ (List.mem_of_getElem? (i := 39) rfl)
theorem zinst_X6_empty : Cond.instanceMethod yX6_empty ∈ zT := zwm_11 _ (List.mem_of_getElem? (i := 9) rfl)
theorem zsel_X6_empty : Cond.selects yX6_empty.cls yX6_empty yX6_empty ∈ zT := zwm_11 _ (List.mem_of_getElem? (i := 10) rfl)
theorem zinst_X6_last : Cond.instanceMethod yX6_last ∈ zT := zwm_14 _ (List.mem_of_getElem? (i := 8) rfl)
theorem zsel_X6_last : Cond.selects yX6_last.cls yX6_last yX6_last ∈ zT := zwm_14 _ (List.mem_of_getElem? (i := 9) rfl)
theorem zinst_X6_digestOnto : Cond.instanceMethod yX6_digestOnto ∈ zT := zwm_16 _ (List.mem_of_getElem? (i := 10) rfl)
theorem zsel_X6_digestOnto : Cond.selects yX6_digestOnto.cls yX6_digestOnto yX6_digestOnto ∈ zT := zwm_16 _ (List.mem_of_getElem? (i := 11) rfl)
theorem zinst_X7_init : Cond.instanceMethod yX7_init ∈ zT := zwm_6 _ (List.mem_of_getElem? (i := 29) rfl)
theorem zinst_X7_placeOf : Cond.instanceMethod yX7_placeOf ∈ zT := zwm_7 _ (List.mem_of_getElem? (i := 35) rfl)
theorem zsel_X7_placeOf : Cond.selects yX7_placeOf.cls yX7_placeOf yX7_placeOf ∈ zT := zwm_7 _ (List.mem_of_getElem? (i := 36) rfl)
theorem zinst_X7_lastTo : Cond.instanceMethod yX7_lastTo ∈ zT := zwm_8 _ (List.mem_of_getElem? (i := 22) rfl)
theorem zsel_X7_lastTo : Cond.selects yX7_lastTo.cls yX7_lastTo yX7_lastTo ∈ zT := zwm_8 _ (List.mem_of_getElem? (i := 23) rfl)
theorem zinst_X7_hasRoomFor : Cond.instanceMethod yX7_hasRoomFor ∈ zT := zwm_8 _ (List.mem_of_getElem? (i := 26) rfl)
theorem zsel_X7_hasRoomFor : Cond.selects yX7_hasRoomFor.cls yX7_hasRoomFor yX7_hasRoomFor ∈ zT := zwm_8 _ (List.mem_of_getElem? (i := 27) rfl)
theorem zinst_X7_addSpan : Cond.instanceMethod yX7_addSpan ∈ zT := zwm_8 _ (List.mem_of_getElem? (i := 30) rfl)
theorem zsel_X7_addSpan : Cond.selects yX7_addSpan.cls yX7_addSpan yX7_addSpan ∈ zT := zwm_8 _ (List.mem_of_getElem? (i := 31) rfl)
theorem zinst_X7_numberAt : Cond.instanceMethod yX7_numberAt ∈ zT := zwm_9 _ (List.mem_of_getElem? (i := 7) rfl)
theorem zsel_X7_numberAt : Cond.selects yX7_numberAt.cls yX7_numberAt yX7_numberAt ∈ zT := zwm_9 _ (List.mem_of_getElem? (i := 8) rfl)
theorem zinst_X7_placeMarks : Cond.instanceMethod yX7_placeMarks ∈ zT := zwm_9 _ (List.mem_of_getElem? (i := 19) rfl)
theorem zsel_X7_placeMarks : Cond.selects yX7_placeMarks.cls yX7_placeMarks yX7_placeMarks ∈ zT := zwm_9 _ (List.mem_of_getElem? (i := 20) rfl)
theorem zinst_X7_gapBehind : Cond.instanceMethod yX7_gapBehind ∈ zT := zwm_9 _ (List.mem_of_getElem? (i := 28) rfl)
theorem zsel_X7_gapBehind : Cond.selects yX7_gapBehind.cls yX7_gapBehind yX7_gapBehind ∈ zT := zwm_9 _ (List.mem_of_getElem? (i := 29) rfl)
theorem zinst_X7_firstOfClosest : Cond.instanceMethod yX7_firstOfClosest ∈ zT := zwm_9 _ (List.mem_of_getElem? (i := 24) rfl)
theorem zsel_X7_firstOfClosest : Cond.selects yX7_firstOfClosest.cls yX7_firstOfClosest yX7_firstOfClosest ∈ zT := zwm_9 _ (List.mem_of_getElem? (i := 25) rfl)
theorem zinst_X7_nearestTo : Cond.instanceMethod yX7_nearestTo ∈ zT := zwm_10 _ (List.mem_of_getElem? (i := 19) rfl)
theorem zsel_X7_nearestTo : Cond.selects yX7_nearestTo.cls yX7_nearestTo yX7_nearestTo ∈ zT := zwm_10 _ (List.mem_of_getElem? (i := 20) rfl)
theorem zinst_X7_readBetween : Cond.instanceMethod yX7_readBetween ∈ zT := zwm_10 _ (List.mem_of_getElem? (i := 28) rfl)
theorem zsel_X7_readBetween : Cond.selects yX7_readBetween.cls yX7_readBetween yX7_readBetween ∈ zT := zwm_10 _ (List.mem_of_getElem? (i := 29) rfl)
theorem zinst_X7_digestOnto : Cond.instanceMethod yX7_digestOnto ∈ zT := zwm_16 _ (List.mem_of_getElem? (i := 4) rfl)
theorem zsel_X7_digestOnto : Cond.selects yX7_digestOnto.cls yX7_digestOnto yX7_digestOnto ∈ zT := zwm_16 _ (List.mem_of_getElem? (i := 5) rfl)
theorem zinst_X8_init : Cond.instanceMethod yX8_init ∈ zT := zwm_4 _ (List.mem_of_getElem? (i := 33) rfl)
theorem zinst_X8_forgetParts : Cond.instanceMethod yX8_forgetParts ∈ zT := zwm_13 _ (List.mem_of_getElem? (i := 4) rfl)
theorem zsel_X8_forgetParts : Cond.selects yX8_forgetParts.cls yX8_forgetParts yX8_forgetParts ∈ zT := zwm_13 _ (List.mem_of_getElem? (i := 5) rfl)
theorem zinst_X8_allow : Cond.instanceMethod yX8_allow ∈ zT := zwm_13 _ (List.mem_of_getElem? (i := 8) rfl)
theorem zsel_X8_allow : Cond.selects yX8_allow.cls yX8_allow yX8_allow ∈ zT := zwm_13 _ (List.mem_of_getElem? (i := 9) rfl)
theorem zinst_X8_aimAt : Cond.instanceMethod yX8_aimAt ∈ zT := zwm_13 _ (List.mem_of_getElem? (i := 12) rfl)
theorem zsel_X8_aimAt : Cond.selects yX8_aimAt.cls yX8_aimAt yX8_aimAt ∈ zT := zwm_13 _ (List.mem_of_getElem? (i := 13) rfl)
theorem zinst_X8_measure : Cond.instanceMethod yX8_measure ∈ zT := zwm_13 _ (List.mem_of_getElem? (i := 16) rfl)
theorem zsel_X8_measure : Cond.selects yX8_measure.cls yX8_measure yX8_measure ∈ zT := zwm_0 _ (List.mem_of_getElem? (i := 7) rfl)
theorem zinst_X8_reachBack : Cond.instanceMethod yX8_reachBack ∈ zT := zwm_13 _ (List.mem_of_getElem? (i := 19) rfl)
theorem zsel_X8_reachBack : Cond.selects yX8_reachBack.cls yX8_reachBack yX8_reachBack ∈ zT := zwm_0 _ (List.mem_of_getElem? (i := 8) rfl)
theorem zinst_X8_fewestToGoal : Cond.instanceMethod yX8_fewestToGoal ∈ zT := zwm_13 _ (List.mem_of_getElem? (i := 22) rfl)
theorem zsel_X8_fewestToGoal : Cond.selects yX8_fewestToGoal.cls yX8_fewestToGoal yX8_fewestToGoal ∈ zT := zwm_13 _ (List.mem_of_getElem? (i := 23) rfl)
theorem zinst_X8_codeAt : Cond.instanceMethod yX8_codeAt ∈ zT := zwm_13 _ (List.mem_of_getElem? (i := 30) rfl)
theorem zsel_X8_codeAt : Cond.selects yX8_codeAt.cls yX8_codeAt yX8_codeAt ∈ zT := zwm_13 _ (List.mem_of_getElem? (i := 31) rfl)
theorem zinst_X8_makeFirst : Cond.instanceMethod yX8_makeFirst ∈ zT := zwm_13 _ (List.mem_of_getElem? (i := 35) rfl)
theorem zsel_X8_makeFirst : Cond.selects yX8_makeFirst.cls yX8_makeFirst yX8_makeFirst ∈ zT := zwm_0 _ (List.mem_of_getElem? (i := 9) rfl)
theorem zinst_X8_isNearer : Cond.instanceMethod yX8_isNearer ∈ zT := zwm_13 _ (List.mem_of_getElem? (i := 38) rfl)
theorem zsel_X8_isNearer : Cond.selects yX8_isNearer.cls yX8_isNearer yX8_isNearer ∈ zT := zwm_0 _ (List.mem_of_getElem? (i := 10) rfl)
theorem zinst_X9_init : Cond.instanceMethod yX9_init ∈ zT := zwm_5 _ (List.mem_of_getElem? (i := 26) rfl)
theorem zinst_X9_choose : Cond.instanceMethod yX9_choose ∈ zT := zwm_14 _ (List.mem_of_getElem? (i := 20) rfl)
theorem zsel_X9_choose : Cond.selects yX9_choose.cls yX9_choose yX9_choose ∈ zT := zwm_14 _ (List.mem_of_getElem? (i := 21) rfl)
theorem zinst_X10_init : Cond.instanceMethod yX10_init ∈ zT := zwm_1 _ (List.mem_of_getElem? (i := 22) rfl)
theorem zinst_X10_put : Cond.instanceMethod yX10_put ∈ zT := zwm_1 _ (List.mem_of_getElem? (i := 38) rfl)
theorem zsel_X10_put : Cond.selects yX10_put.cls yX10_put yX10_put ∈ zT := zwm_1 _ (List.mem_of_getElem? (i := 39) rfl)
theorem zinst_X10_addPart : Cond.instanceMethod yX10_addPart ∈ zT := zwm_2 _ (List.mem_of_getElem? (i := 11) rfl)
theorem zsel_X10_addPart : Cond.selects yX10_addPart.cls yX10_addPart yX10_addPart ∈ zT := zwm_2 _ (List.mem_of_getElem? (i := 12) rfl)
theorem zinst_X10_subtract : Cond.instanceMethod yX10_subtract ∈ zT := zwm_8 _ (List.mem_of_getElem? (i := 6) rfl)
theorem zsel_X10_subtract : Cond.selects yX10_subtract.cls yX10_subtract yX10_subtract ∈ zT := zwm_8 _ (List.mem_of_getElem? (i := 7) rfl)
theorem zinst_X10_shrink : Cond.instanceMethod yX10_shrink ∈ zT := zwm_2 _ (List.mem_of_getElem? (i := 2) rfl)
theorem zsel_X10_shrink : Cond.selects yX10_shrink.cls yX10_shrink yX10_shrink ∈ zT := zwm_2 _ (List.mem_of_getElem? (i := 3) rfl)
theorem zinst_X10_isZero : Cond.instanceMethod yX10_isZero ∈ zT := zwm_2 _ (List.mem_of_getElem? (i := 7) rfl)
theorem zsel_X10_isZero : Cond.selects yX10_isZero.cls yX10_isZero yX10_isZero ∈ zT := zwm_2 _ (List.mem_of_getElem? (i := 8) rfl)
theorem zinst_X10_floorTimes : Cond.instanceMethod yX10_floorTimes ∈ zT := zwm_8 _ (List.mem_of_getElem? (i := 10) rfl)
theorem zsel_X10_floorTimes : Cond.selects yX10_floorTimes.cls yX10_floorTimes yX10_floorTimes ∈ zT := zwm_8 _ (List.mem_of_getElem? (i := 11) rfl)
theorem zinst_X11_init : Cond.instanceMethod yX11_init ∈ zT := zwm_1 _ (List.mem_of_getElem? (i := 9) rfl)
theorem zinst_X11_rule : Cond.instanceMethod yX11_rule ∈ zT := zwm_6 _ (List.mem_of_getElem? (i := 19) rfl)
theorem zsel_X11_rule : Cond.selects yX11_rule.cls yX11_rule yX11_rule ∈ zT := zwm_6 _ (List.mem_of_getElem? (i := 20) rfl)
theorem zinst_X11_scale : Cond.instanceMethod yX11_scale ∈ zT := zwm_6 _ (List.mem_of_getElem? (i := 24) rfl)
theorem zsel_X11_scale : Cond.selects yX11_scale.cls yX11_scale yX11_scale ∈ zT := zwm_6 _ (List.mem_of_getElem? (i := 25) rfl)
theorem zinst_X11_place : Cond.instanceMethod yX11_place ∈ zT := zwm_7 _ (List.mem_of_getElem? (i := 23) rfl)
theorem zsel_X11_place : Cond.selects yX11_place.cls yX11_place yX11_place ∈ zT := zwm_7 _ (List.mem_of_getElem? (i := 24) rfl)
theorem zinst_X11_span : Cond.instanceMethod yX11_span ∈ zT := zwm_8 _ (List.mem_of_getElem? (i := 18) rfl)
theorem zsel_X11_span : Cond.selects yX11_span.cls yX11_span yX11_span ∈ zT := zwm_8 _ (List.mem_of_getElem? (i := 19) rfl)
theorem zinst_X11_mark : Cond.instanceMethod yX11_mark ∈ zT := zwm_9 _ (List.mem_of_getElem? (i := 3) rfl)
theorem zsel_X11_mark : Cond.selects yX11_mark.cls yX11_mark yX11_mark ∈ zT := zwm_9 _ (List.mem_of_getElem? (i := 4) rfl)
theorem zinst_X11_marks : Cond.instanceMethod yX11_marks ∈ zT := zwm_9 _ (List.mem_of_getElem? (i := 11) rfl)
theorem zsel_X11_marks : Cond.selects yX11_marks.cls yX11_marks yX11_marks ∈ zT := zwm_9 _ (List.mem_of_getElem? (i := 12) rfl)
theorem zinst_X11_closest : Cond.instanceMethod yX11_closest ∈ zT := zwm_9 _ (List.mem_of_getElem? (i := 15) rfl)
theorem zsel_X11_closest : Cond.selects yX11_closest.cls yX11_closest yX11_closest ∈ zT := zwm_9 _ (List.mem_of_getElem? (i := 16) rfl)
theorem zinst_X11_off : Cond.instanceMethod yX11_off ∈ zT := zwm_9 _ (List.mem_of_getElem? (i := 36) rfl)
theorem zsel_X11_off : Cond.selects yX11_off.cls yX11_off yX11_off ∈ zT := zwm_9 _ (List.mem_of_getElem? (i := 37) rfl)
theorem zinst_X11_set : Cond.instanceMethod yX11_set ∈ zT := zwm_10 _ (List.mem_of_getElem? (i := 2) rfl)
theorem zsel_X11_set : Cond.selects yX11_set.cls yX11_set yX11_set ∈ zT := zwm_10 _ (List.mem_of_getElem? (i := 3) rfl)
theorem zinst_X11_against : Cond.instanceMethod yX11_against ∈ zT := zwm_10 _ (List.mem_of_getElem? (i := 6) rfl)
theorem zsel_X11_against : Cond.selects yX11_against.cls yX11_against yX11_against ∈ zT := zwm_10 _ (List.mem_of_getElem? (i := 7) rfl)
theorem zinst_X11_nearest : Cond.instanceMethod yX11_nearest ∈ zT := zwm_10 _ (List.mem_of_getElem? (i := 10) rfl)
theorem zsel_X11_nearest : Cond.selects yX11_nearest.cls yX11_nearest yX11_nearest ∈ zT := zwm_10 _ (List.mem_of_getElem? (i := 11) rfl)
theorem zinst_X11_between : Cond.instanceMethod yX11_between ∈ zT := zwm_10 _ (List.mem_of_getElem? (i := 24) rfl)
theorem zsel_X11_between : Cond.selects yX11_between.cls yX11_between yX11_between ∈ zT := zwm_10 _ (List.mem_of_getElem? (i := 25) rfl)
theorem zinst_X11_factor : Cond.instanceMethod yX11_factor ∈ zT := zwm_10 _ (List.mem_of_getElem? (i := 36) rfl)
theorem zsel_X11_factor : Cond.selects yX11_factor.cls yX11_factor yX11_factor ∈ zT := zwm_10 _ (List.mem_of_getElem? (i := 37) rfl)
theorem zinst_X11_clear : Cond.instanceMethod yX11_clear ∈ zT := zwm_11 _ (List.mem_of_getElem? (i := 5) rfl)
theorem zsel_X11_clear : Cond.selects yX11_clear.cls yX11_clear yX11_clear ∈ zT := zwm_11 _ (List.mem_of_getElem? (i := 6) rfl)
theorem zinst_X11_chain : Cond.instanceMethod yX11_chain ∈ zT := zwm_11 _ (List.mem_of_getElem? (i := 13) rfl)
theorem zsel_X11_chain : Cond.selects yX11_chain.cls yX11_chain yX11_chain ∈ zT := zwm_11 _ (List.mem_of_getElem? (i := 14) rfl)
theorem zinst_X11_pairs : Cond.instanceMethod yX11_pairs ∈ zT := zwm_12 _ (List.mem_of_getElem? (i := 18) rfl)
theorem zsel_X11_pairs : Cond.selects yX11_pairs.cls yX11_pairs yX11_pairs ∈ zT := zwm_12 _ (List.mem_of_getElem? (i := 19) rfl)
theorem zinst_X11_fewest : Cond.instanceMethod yX11_fewest ∈ zT := zwm_12 _ (List.mem_of_getElem? (i := 34) rfl)
theorem zsel_X11_fewest : Cond.selects yX11_fewest.cls yX11_fewest yX11_fewest ∈ zT := zwm_12 _ (List.mem_of_getElem? (i := 35) rfl)
theorem zinst_X11_setting : Cond.instanceMethod yX11_setting ∈ zT := zwm_13 _ (List.mem_of_getElem? (i := 26) rfl)
theorem zsel_X11_setting : Cond.selects yX11_setting.cls yX11_setting yX11_setting ∈ zT := zwm_13 _ (List.mem_of_getElem? (i := 27) rfl)
theorem zinst_X11_cut : Cond.instanceMethod yX11_cut ∈ zT := zwm_14 _ (List.mem_of_getElem? (i := 1) rfl)
theorem zsel_X11_cut : Cond.selects yX11_cut.cls yX11_cut yX11_cut ∈ zT := zwm_14 _ (List.mem_of_getElem? (i := 2) rfl)
theorem zinst_X11_wipe : Cond.instanceMethod yX11_wipe ∈ zT := zwm_14 _ (List.mem_of_getElem? (i := 12) rfl)
theorem zsel_X11_wipe : Cond.selects yX11_wipe.cls yX11_wipe yX11_wipe ∈ zT := zwm_14 _ (List.mem_of_getElem? (i := 13) rfl)
theorem zinst_X11_chosen : Cond.instanceMethod yX11_chosen ∈ zT := zwm_14 _ (List.mem_of_getElem? (i := 16) rfl)
theorem zsel_X11_chosen : Cond.selects yX11_chosen.cls yX11_chosen yX11_chosen ∈ zT := zwm_14 _ (List.mem_of_getElem? (i := 17) rfl)
theorem zinst_X11_match : Cond.instanceMethod yX11_match ∈ zT := zwm_14 _ (List.mem_of_getElem? (i := 24) rfl)
theorem zsel_X11_match : Cond.selects yX11_match.cls yX11_match yX11_match ∈ zT := zwm_14 _ (List.mem_of_getElem? (i := 25) rfl)
theorem zinst_X11_law : Cond.instanceMethod yX11_law ∈ zT := zwm_15 _ (List.mem_of_getElem? (i := 0) rfl)
theorem zsel_X11_law : Cond.selects yX11_law.cls yX11_law yX11_law ∈ zT := zwm_15 _ (List.mem_of_getElem? (i := 1) rfl)
theorem zinst_X11_doubled : Cond.instanceMethod yX11_doubled ∈ zT := zwm_15 _ (List.mem_of_getElem? (i := 18) rfl)
theorem zsel_X11_doubled : Cond.selects yX11_doubled.cls yX11_doubled yX11_doubled ∈ zT := zwm_15 _ (List.mem_of_getElem? (i := 19) rfl)
theorem zinst_X11_count : Cond.instanceMethod yX11_count ∈ zT := zwm_15 _ (List.mem_of_getElem? (i := 30) rfl)
theorem zsel_X11_count : Cond.selects yX11_count.cls yX11_count yX11_count ∈ zT := zwm_15 _ (List.mem_of_getElem? (i := 31) rfl)
theorem zinst_X11_digest : Cond.instanceMethod yX11_digest ∈ zT := zwm_15 _ (List.mem_of_getElem? (i := 37) rfl)
theorem zsel_X11_digest : Cond.selects yX11_digest.cls yX11_digest yX11_digest ∈ zT := zwm_15 _ (List.mem_of_getElem? (i := 38) rfl)
theorem zinst_X11_scaleAt : Cond.instanceMethod yX11_scaleAt ∈ zT := zwm_7 _ (List.mem_of_getElem? (i := 27) rfl)
theorem zsel_X11_scaleAt : Cond.selects yX11_scaleAt.cls yX11_scaleAt yX11_scaleAt ∈ zT := zwm_0 _ (List.mem_of_getElem? (i := 1) rfl)
theorem zstat_X11_isNumber : Cond.static yX11_isNumber ∈ zT := zwm_7 _ (List.mem_of_getElem? (i := 30) rfl)
theorem zstat_X11_isFactor : Cond.static yX11_isFactor ∈ zT := zwm_11 _ (List.mem_of_getElem? (i := 0) rfl)
theorem zstat_X11_isAskedPlace : Cond.static yX11_isAskedPlace ∈ zT := zwm_10 _ (List.mem_of_getElem? (i := 14) rfl)
theorem zstat_X11_isPower : Cond.static yX11_isPower ∈ zT := zwm_12 _ (List.mem_of_getElem? (i := 38) rfl)
theorem zstat_X11_isStrip : Cond.static yX11_isStrip ∈ zT := zwm_14 _ (List.mem_of_getElem? (i := 5) rfl)
theorem zinst_X11_scalesOnSlide : Cond.instanceMethod yX11_scalesOnSlide ∈ zT := zwm_15 _ (List.mem_of_getElem? (i := 34) rfl)
theorem zsel_X11_scalesOnSlide : Cond.selects yX11_scalesOnSlide.cls yX11_scalesOnSlide yX11_scalesOnSlide ∈ zT := zwm_0 _ (List.mem_of_getElem? (i := 13) rfl)
theorem zinst_X11_aimSettings : Cond.instanceMethod yX11_aimSettings ∈ zT := zwm_13 _ (List.mem_of_getElem? (i := 1) rfl)
theorem zsel_X11_aimSettings : Cond.selects yX11_aimSettings.cls yX11_aimSettings yX11_aimSettings ∈ zT := zwm_0 _ (List.mem_of_getElem? (i := 6) rfl)
theorem zinst_X12_init : Cond.instanceMethod yX12_init ∈ zT := zwm_16 _ (List.mem_of_getElem? (i := 17) rfl)
theorem zstat_X12_in : Cond.static yX12_in ∈ zT := zwm_18 _ (List.mem_of_getElem? (i := 34) rfl)
theorem zstat_X12_sets : Cond.static yX12_sets ∈ zT := zwm_16 _ (List.mem_of_getElem? (i := 26) rfl)
theorem zstat_X12_copies : Cond.static yX12_copies ∈ zT := zwm_16 _ (List.mem_of_getElem? (i := 36) rfl)
theorem zstat_X12_adds : Cond.static yX12_adds ∈ zT := zwm_16 _ (List.mem_of_getElem? (i := 39) rfl)
theorem zstat_X12_takes : Cond.static yX12_takes ∈ zT := zwm_19 _ (List.mem_of_getElem? (i := 34) rfl)
theorem zstat_X12_times : Cond.static yX12_times ∈ zT := zwm_17 _ (List.mem_of_getElem? (i := 2) rfl)
theorem zstat_X12_divides : Cond.static yX12_divides ∈ zT := zwm_16 _ (List.mem_of_getElem? (i := 29) rfl)
theorem zstat_X12_isNought : Cond.static yX12_isNought ∈ zT := zwm_16 _ (List.mem_of_getElem? (i := 33) rfl)
theorem zstat_X12_isLess : Cond.static yX12_isLess ∈ zT := zwm_19 _ (List.mem_of_getElem? (i := 37) rfl)
theorem zinst_X12_natural : Cond.instanceMethod yX12_natural ∈ zT := zwm_16 _ (List.mem_of_getElem? (i := 23) rfl)
theorem zsel_X12_natural : Cond.selects yX12_natural.cls yX12_natural yX12_natural ∈ zT := zwm_0 _ (List.mem_of_getElem? (i := 14) rfl)
theorem zinst_X12_logOf : Cond.instanceMethod yX12_logOf ∈ zT := zwm_19 _ (List.mem_of_getElem? (i := 29) rfl)
theorem zsel_X12_logOf : Cond.selects yX12_logOf.cls yX12_logOf yX12_logOf ∈ zT := zwm_0 _ (List.mem_of_getElem? (i := 18) rfl)
theorem zstat_X12_down : Cond.static yX12_down ∈ zT := zwm_19 _ (List.mem_of_getElem? (i := 26) rfl)
theorem zstat_X12_tens : Cond.static yX12_tens ∈ zT := zwm_19 _ (List.mem_of_getElem? (i := 23) rfl)
theorem zinst_X12_nearestOf : Cond.instanceMethod yX12_nearestOf ∈ zT := zwm_19 _ (List.mem_of_getElem? (i := 20) rfl)
theorem zsel_X12_nearestOf : Cond.selects yX12_nearestOf.cls yX12_nearestOf yX12_nearestOf ∈ zT := zwm_0 _ (List.mem_of_getElem? (i := 17) rfl)
theorem zinst_X12_plain : Cond.instanceMethod yX12_plain ∈ zT := zwm_21 _ (List.mem_of_getElem? (i := 33) rfl)
theorem zsel_X12_plain : Cond.selects yX12_plain.cls yX12_plain yX12_plain ∈ zT := zwm_0 _ (List.mem_of_getElem? (i := 23) rfl)
theorem zinst_X12_placeOf : Cond.instanceMethod yX12_placeOf ∈ zT := zwm_19 _ (List.mem_of_getElem? (i := 15) rfl)
theorem zsel_X12_placeOf : Cond.selects yX12_placeOf.cls yX12_placeOf yX12_placeOf ∈ zT := zwm_0 _ (List.mem_of_getElem? (i := 16) rfl)
theorem zinst_X12_isScale : Cond.instanceMethod yX12_isScale ∈ zT := zwm_19 _ (List.mem_of_getElem? (i := 8) rfl)
theorem zsel_X12_isScale : Cond.selects yX12_isScale.cls yX12_isScale yX12_isScale ∈ zT := zwm_0 _ (List.mem_of_getElem? (i := 15) rfl)
theorem zstat_X12_isNumber : Cond.static yX12_isNumber ∈ zT := zwm_19 _ (List.mem_of_getElem? (i := 11) rfl)
theorem zinst_X12_rule : Cond.instanceMethod yX12_rule ∈ zT := zwm_18 _ (List.mem_of_getElem? (i := 28) rfl)
theorem zsel_X12_rule : Cond.selects yX12_rule.cls yX12_rule yX12_rule ∈ zT := zwm_18 _ (List.mem_of_getElem? (i := 29) rfl)
theorem zinst_X12_scale : Cond.instanceMethod yX12_scale ∈ zT := zwm_18 _ (List.mem_of_getElem? (i := 37) rfl)
theorem zsel_X12_scale : Cond.selects yX12_scale.cls yX12_scale yX12_scale ∈ zT := zwm_18 _ (List.mem_of_getElem? (i := 38) rfl)
theorem zinst_X12_place : Cond.instanceMethod yX12_place ∈ zT := zwm_19 _ (List.mem_of_getElem? (i := 4) rfl)
theorem zsel_X12_place : Cond.selects yX12_place.cls yX12_place yX12_place ∈ zT := zwm_19 _ (List.mem_of_getElem? (i := 5) rfl)
theorem zinst_X12_spanMarks : Cond.instanceMethod yX12_spanMarks ∈ zT := zwm_20 _ (List.mem_of_getElem? (i := 9) rfl)
theorem zsel_X12_spanMarks : Cond.selects yX12_spanMarks.cls yX12_spanMarks yX12_spanMarks ∈ zT := zwm_0 _ (List.mem_of_getElem? (i := 20) rfl)
theorem zinst_X12_marksOf : Cond.instanceMethod yX12_marksOf ∈ zT := zwm_20 _ (List.mem_of_getElem? (i := 6) rfl)
theorem zsel_X12_marksOf : Cond.selects yX12_marksOf.cls yX12_marksOf yX12_marksOf ∈ zT := zwm_0 _ (List.mem_of_getElem? (i := 19) rfl)
theorem zinst_X12_markOf : Cond.instanceMethod yX12_markOf ∈ zT := zwm_20 _ (List.mem_of_getElem? (i := 16) rfl)
theorem zsel_X12_markOf : Cond.selects yX12_markOf.cls yX12_markOf yX12_markOf ∈ zT := zwm_0 _ (List.mem_of_getElem? (i := 21) rfl)
theorem zinst_X12_span : Cond.instanceMethod yX12_span ∈ zT := zwm_20 _ (List.mem_of_getElem? (i := 1) rfl)
theorem zsel_X12_span : Cond.selects yX12_span.cls yX12_span yX12_span ∈ zT := zwm_20 _ (List.mem_of_getElem? (i := 2) rfl)
theorem zinst_X12_mark : Cond.instanceMethod yX12_mark ∈ zT := zwm_20 _ (List.mem_of_getElem? (i := 12) rfl)
theorem zsel_X12_mark : Cond.selects yX12_mark.cls yX12_mark yX12_mark ∈ zT := zwm_20 _ (List.mem_of_getElem? (i := 13) rfl)
theorem zinst_X12_marks : Cond.instanceMethod yX12_marks ∈ zT := zwm_20 _ (List.mem_of_getElem? (i := 19) rfl)
theorem zsel_X12_marks : Cond.selects yX12_marks.cls yX12_marks yX12_marks ∈ zT := zwm_20 _ (List.mem_of_getElem? (i := 20) rfl)
theorem zstat_X12_size : Cond.static yX12_size ∈ zT := zwm_20 _ (List.mem_of_getElem? (i := 27) rfl)
theorem zinst_X12_closest : Cond.instanceMethod yX12_closest ∈ zT := zwm_20 _ (List.mem_of_getElem? (i := 23) rfl)
theorem zsel_X12_closest : Cond.selects yX12_closest.cls yX12_closest yX12_closest ∈ zT := zwm_20 _ (List.mem_of_getElem? (i := 24) rfl)
theorem zinst_X12_off : Cond.instanceMethod yX12_off ∈ zT := zwm_20 _ (List.mem_of_getElem? (i := 30) rfl)
theorem zsel_X12_off : Cond.selects yX12_off.cls yX12_off yX12_off ∈ zT := zwm_20 _ (List.mem_of_getElem? (i := 31) rfl)
theorem zinst_X12_set : Cond.instanceMethod yX12_set ∈ zT := zwm_20 _ (List.mem_of_getElem? (i := 36) rfl)
theorem zsel_X12_set : Cond.selects yX12_set.cls yX12_set yX12_set ∈ zT := zwm_20 _ (List.mem_of_getElem? (i := 37) rfl)
theorem zinst_X12_against : Cond.instanceMethod yX12_against ∈ zT := zwm_21 _ (List.mem_of_getElem? (i := 0) rfl)
theorem zsel_X12_against : Cond.selects yX12_against.cls yX12_against yX12_against ∈ zT := zwm_21 _ (List.mem_of_getElem? (i := 1) rfl)
theorem zstat_X12_isPlace : Cond.static yX12_isPlace ∈ zT := zwm_21 _ (List.mem_of_getElem? (i := 8) rfl)
theorem zinst_X12_nearest : Cond.instanceMethod yX12_nearest ∈ zT := zwm_21 _ (List.mem_of_getElem? (i := 4) rfl)
theorem zsel_X12_nearest : Cond.selects yX12_nearest.cls yX12_nearest yX12_nearest ∈ zT := zwm_21 _ (List.mem_of_getElem? (i := 5) rfl)
theorem zinst_X12_between : Cond.instanceMethod yX12_between ∈ zT := zwm_21 _ (List.mem_of_getElem? (i := 13) rfl)
theorem zsel_X12_between : Cond.selects yX12_between.cls yX12_between yX12_between ∈ zT := zwm_21 _ (List.mem_of_getElem? (i := 14) rfl)
theorem zinst_X12_factor : Cond.instanceMethod yX12_factor ∈ zT := zwm_21 _ (List.mem_of_getElem? (i := 17) rfl)
theorem zsel_X12_factor : Cond.selects yX12_factor.cls yX12_factor yX12_factor ∈ zT := zwm_21 _ (List.mem_of_getElem? (i := 18) rfl)
theorem zinst_X12_clear : Cond.instanceMethod yX12_clear ∈ zT := zwm_21 _ (List.mem_of_getElem? (i := 22) rfl)
theorem zsel_X12_clear : Cond.selects yX12_clear.cls yX12_clear yX12_clear ∈ zT := zwm_21 _ (List.mem_of_getElem? (i := 23) rfl)
theorem zinst_X12_plainOf : Cond.instanceMethod yX12_plainOf ∈ zT := zwm_21 _ (List.mem_of_getElem? (i := 30) rfl)
theorem zsel_X12_plainOf : Cond.selects yX12_plainOf.cls yX12_plainOf yX12_plainOf ∈ zT := zwm_0 _ (List.mem_of_getElem? (i := 22) rfl)
theorem zinst_X12_reading : Cond.instanceMethod yX12_reading ∈ zT := zwm_21 _ (List.mem_of_getElem? (i := 36) rfl)
theorem zsel_X12_reading : Cond.selects yX12_reading.cls yX12_reading yX12_reading ∈ zT := zwm_0 _ (List.mem_of_getElem? (i := 24) rfl)
theorem zinst_X12_truth : Cond.instanceMethod yX12_truth ∈ zT := zwm_21 _ (List.mem_of_getElem? (i := 39) rfl)
theorem zsel_X12_truth : Cond.selects yX12_truth.cls yX12_truth yX12_truth ∈ zT := zwm_0 _ (List.mem_of_getElem? (i := 25) rfl)
theorem zinst_X12_chain : Cond.instanceMethod yX12_chain ∈ zT := zwm_21 _ (List.mem_of_getElem? (i := 26) rfl)
theorem zsel_X12_chain : Cond.selects yX12_chain.cls yX12_chain yX12_chain ∈ zT := zwm_21 _ (List.mem_of_getElem? (i := 27) rfl)
theorem zinst_X12_pairs : Cond.instanceMethod yX12_pairs ∈ zT := zwm_22 _ (List.mem_of_getElem? (i := 3) rfl)
theorem zsel_X12_pairs : Cond.selects yX12_pairs.cls yX12_pairs yX12_pairs ∈ zT := zwm_22 _ (List.mem_of_getElem? (i := 4) rfl)
theorem zinst_X12_lets : Cond.instanceMethod yX12_lets ∈ zT := zwm_22 _ (List.mem_of_getElem? (i := 20) rfl)
theorem zsel_X12_lets : Cond.selects yX12_lets.cls yX12_lets yX12_lets ∈ zT := zwm_0 _ (List.mem_of_getElem? (i := 27) rfl)
theorem zinst_X12_spreads : Cond.instanceMethod yX12_spreads ∈ zT := zwm_22 _ (List.mem_of_getElem? (i := 16) rfl)
theorem zsel_X12_spreads : Cond.selects yX12_spreads.cls yX12_spreads yX12_spreads ∈ zT := zwm_0 _ (List.mem_of_getElem? (i := 26) rfl)
theorem zstat_X12_isPower : Cond.static yX12_isPower ∈ zT := zwm_22 _ (List.mem_of_getElem? (i := 11) rfl)
theorem zinst_X12_leastTo : Cond.instanceMethod yX12_leastTo ∈ zT := zwm_22 _ (List.mem_of_getElem? (i := 23) rfl)
theorem zsel_X12_leastTo : Cond.selects yX12_leastTo.cls yX12_leastTo yX12_leastTo ∈ zT := zwm_0 _ (List.mem_of_getElem? (i := 28) rfl)
theorem zinst_X12_fewest : Cond.instanceMethod yX12_fewest ∈ zT := zwm_22 _ (List.mem_of_getElem? (i := 7) rfl)
theorem zsel_X12_fewest : Cond.selects yX12_fewest.cls yX12_fewest yX12_fewest ∈ zT := zwm_22 _ (List.mem_of_getElem? (i := 8) rfl)
theorem zinst_X12_setting : Cond.instanceMethod yX12_setting ∈ zT := zwm_22 _ (List.mem_of_getElem? (i := 26) rfl)
theorem zsel_X12_setting : Cond.selects yX12_setting.cls yX12_setting yX12_setting ∈ zT := zwm_22 _ (List.mem_of_getElem? (i := 27) rfl)
theorem zstat_X12_isStrip : Cond.static yX12_isStrip ∈ zT := zwm_22 _ (List.mem_of_getElem? (i := 34) rfl)
theorem zinst_X12_cut : Cond.instanceMethod yX12_cut ∈ zT := zwm_22 _ (List.mem_of_getElem? (i := 30) rfl)
theorem zsel_X12_cut : Cond.selects yX12_cut.cls yX12_cut yX12_cut ∈ zT := zwm_22 _ (List.mem_of_getElem? (i := 31) rfl)
theorem zinst_X12_wipe : Cond.instanceMethod yX12_wipe ∈ zT := zwm_22 _ (List.mem_of_getElem? (i := 37) rfl)
theorem zsel_X12_wipe : Cond.selects yX12_wipe.cls yX12_wipe yX12_wipe ∈ zT := zwm_22 _ (List.mem_of_getElem? (i := 38) rfl)
theorem zinst_X12_chosen : Cond.instanceMethod yX12_chosen ∈ zT := zwm_23 _ (List.mem_of_getElem? (i := 1) rfl)
theorem zsel_X12_chosen : Cond.selects yX12_chosen.cls yX12_chosen yX12_chosen ∈ zT := zwm_23 _ (List.mem_of_getElem? (i := 2) rfl)
theorem zinst_X12_has : Cond.instanceMethod yX12_has ∈ zT := zwm_23 _ (List.mem_of_getElem? (i := 9) rfl)
theorem zsel_X12_has : Cond.selects yX12_has.cls yX12_has yX12_has ∈ zT := zwm_0 _ (List.mem_of_getElem? (i := 29) rfl)
theorem zinst_X12_match : Cond.instanceMethod yX12_match ∈ zT := zwm_23 _ (List.mem_of_getElem? (i := 5) rfl)
theorem zsel_X12_match : Cond.selects yX12_match.cls yX12_match yX12_match ∈ zT := zwm_23 _ (List.mem_of_getElem? (i := 6) rfl)
theorem zstat_X12_numberOf : Cond.static yX12_numberOf ∈ zT := zwm_23 _ (List.mem_of_getElem? (i := 20) rfl)
theorem zinst_X12_lawPlace : Cond.instanceMethod yX12_lawPlace ∈ zT := zwm_23 _ (List.mem_of_getElem? (i := 17) rfl)
theorem zsel_X12_lawPlace : Cond.selects yX12_lawPlace.cls yX12_lawPlace yX12_lawPlace ∈ zT := zwm_0 _ (List.mem_of_getElem? (i := 30) rfl)
theorem zinst_X12_law : Cond.instanceMethod yX12_law ∈ zT := zwm_23 _ (List.mem_of_getElem? (i := 12) rfl)
theorem zsel_X12_law : Cond.selects yX12_law.cls yX12_law yX12_law ∈ zT := zwm_23 _ (List.mem_of_getElem? (i := 13) rfl)
theorem zinst_X12_doubled : Cond.instanceMethod yX12_doubled ∈ zT := zwm_23 _ (List.mem_of_getElem? (i := 23) rfl)
theorem zsel_X12_doubled : Cond.selects yX12_doubled.cls yX12_doubled yX12_doubled ∈ zT := zwm_23 _ (List.mem_of_getElem? (i := 24) rfl)
theorem zinst_X12_count : Cond.instanceMethod yX12_count ∈ zT := zwm_23 _ (List.mem_of_getElem? (i := 27) rfl)
theorem zsel_X12_count : Cond.selects yX12_count.cls yX12_count yX12_count ∈ zT := zwm_23 _ (List.mem_of_getElem? (i := 28) rfl)
theorem zinst_X12_digest : Cond.instanceMethod yX12_digest ∈ zT := zwm_23 _ (List.mem_of_getElem? (i := 31) rfl)
theorem zsel_X12_digest : Cond.selects yX12_digest.cls yX12_digest yX12_digest ∈ zT := zwm_23 _ (List.mem_of_getElem? (i := 32) rfl)
theorem zstat_J9_floorDiv_f86c9 : Cond.static yJ9_floorDiv_f86c9 ∈ zT := zwm_8 _ (List.mem_of_getElem? (i := 15) rfl)
theorem zstat_J9_abs_0f7a4 : Cond.static yJ9_abs_0f7a4 ∈ zT := zwm_9 _ (List.mem_of_getElem? (i := 32) rfl)
theorem zstat_J9_max_7cf53 : Cond.static yJ9_max_7cf53 ∈ zT := zwm_3 _ (List.mem_of_getElem? (i := 9) rfl)
theorem zstat_J9_min_7cf53 : Cond.static yJ9_min_7cf53 ∈ zT := zwm_10 _ (List.mem_of_getElem? (i := 32) rfl)
theorem zCd_X11_init : zCd yX11_init cX11_init 2 none 0 := ⟨zwm_1 _ (List.mem_of_getElem? (i := 10) rfl), by decide +kernel, by decide +kernel, by decide +kernel⟩
theorem zCd_X2_init : zCd yX2_init cX2_init 3 none 0 := ⟨zwm_1 _ (List.mem_of_getElem? (i := 18) rfl), by decide +kernel, by decide +kernel, by decide +kernel⟩
theorem zCd_X10_init : zCd yX10_init cX10_init 1 none 0 := ⟨zwm_1 _ (List.mem_of_getElem? (i := 23) rfl), by decide +kernel, by decide +kernel, by decide +kernel⟩
theorem zCd_X2_addGrowth : zCd yX2_addGrowth cX2_addGrowth 5 none 3 := ⟨zwm_1 _ (List.mem_of_getElem? (i := 34) rfl), by decide +kernel, by decide +kernel, by decide +kernel⟩
theorem zCd_X10_put : zCd yX10_put cX10_put 5 none 2 := ⟨zwm_2 _ (List.mem_of_getElem? (i := 0) rfl), by decide +kernel, by decide +kernel, by decide +kernel⟩
theorem zCd_X10_shrink : zCd yX10_shrink cX10_shrink 7 none 2 := ⟨zwm_2 _ (List.mem_of_getElem? (i := 4) rfl), by decide +kernel, by decide +kernel, by decide +kernel⟩
theorem zCd_X10_isZero : zCd yX10_isZero cX10_isZero 1 (some .boolean) 0 := ⟨zwm_2 _ (List.mem_of_getElem? (i := 9) rfl), by decide +kernel, by decide +kernel, by decide +kernel⟩
theorem zCd_X10_addPart : zCd yX10_addPart cX10_addPart 7 none 2 := ⟨zwm_2 _ (List.mem_of_getElem? (i := 13) rfl), by decide +kernel, by decide +kernel, by decide +kernel⟩
theorem zCd_X5_init : zCd yX5_init cX5_init 1 none 0 := ⟨zwm_2 _ (List.mem_of_getElem? (i := 27) rfl), by decide +kernel, by decide +kernel, by decide +kernel⟩
theorem zCd_X0_init : zCd yX0_init cX0_init 1 none 0 := ⟨zwm_3 _ (List.mem_of_getElem? (i := 0) rfl), by decide +kernel, by decide +kernel, by decide +kernel⟩
theorem zCd_X6_init : zCd yX6_init cX6_init 2 none 1 := ⟨zwm_3 _ (List.mem_of_getElem? (i := 6) rfl), by decide +kernel, by decide +kernel, by decide +kernel⟩
theorem zCd_J9_max_7cf53 : zCd yJ9_max_7cf53 cJ9_max_7cf53 2 (some .int) 2 := ⟨zwm_3 _ (List.mem_of_getElem? (i := 10) rfl), by decide +kernel, by decide +kernel, by decide +kernel⟩
theorem zCd_X4_init : zCd yX4_init cX4_init 1 none 0 := ⟨zwm_4 _ (List.mem_of_getElem? (i := 0) rfl), by decide +kernel, by decide +kernel, by decide +kernel⟩
theorem zCd_X8_init : zCd yX8_init cX8_init 1 none 0 := ⟨zwm_4 _ (List.mem_of_getElem? (i := 34) rfl), by decide +kernel, by decide +kernel, by decide +kernel⟩
theorem zCd_X3_init : zCd yX3_init cX3_init 1 none 0 := ⟨zwm_5 _ (List.mem_of_getElem? (i := 10) rfl), by decide +kernel, by decide +kernel, by decide +kernel⟩
theorem zCd_X1_init : zCd yX1_init cX1_init 1 none 0 := ⟨zwm_5 _ (List.mem_of_getElem? (i := 21) rfl), by decide +kernel, by decide +kernel, by decide +kernel⟩
theorem zCd_X9_init : zCd yX9_init cX9_init 1 none 0 := ⟨zwm_5 _ (List.mem_of_getElem? (i := 27) rfl), by decide +kernel, by decide +kernel, by decide +kernel⟩
theorem zCd_X11_rule : zCd yX11_rule cX11_rule 3 (some .int) 1 := ⟨zwm_6 _ (List.mem_of_getElem? (i := 21) rfl), by decide +kernel, by decide +kernel, by decide +kernel⟩
theorem zCd_X11_scale : zCd yX11_scale cX11_scale 5 (some .int) 4 := ⟨zwm_6 _ (List.mem_of_getElem? (i := 26) rfl), by decide +kernel, by decide +kernel, by decide +kernel⟩
theorem zCd_X7_init : zCd yX7_init cX7_init 5 none 4 := ⟨zwm_6 _ (List.mem_of_getElem? (i := 30) rfl), by decide +kernel, by decide +kernel, by decide +kernel⟩
theorem zCd_X11_place : zCd yX11_place cX11_place 4 (some .int) 2 := ⟨zwm_7 _ (List.mem_of_getElem? (i := 25) rfl), by decide +kernel, by decide +kernel, by decide +kernel⟩
theorem zCd_X11_scaleAt : zCd yX11_scaleAt cX11_scaleAt 2 (some (.object "SlideRules$Scale")) 1 := ⟨zwm_7 _ (List.mem_of_getElem? (i := 28) rfl), by decide +kernel, by decide +kernel, by decide +kernel⟩
theorem zCd_X11_isNumber : zCd yX11_isNumber cX11_isNumber 1 (some .boolean) 1 := ⟨zwm_7 _ (List.mem_of_getElem? (i := 31) rfl), by decide +kernel, by decide +kernel, by decide +kernel⟩
theorem zCd_X7_placeOf : zCd yX7_placeOf cX7_placeOf 5 (some .int) 3 := ⟨zwm_7 _ (List.mem_of_getElem? (i := 37) rfl), by decide +kernel, by decide +kernel, by decide +kernel⟩
theorem zCd_X2_placeOf : zCd yX2_placeOf cX2_placeOf 7 (some .int) 4 := ⟨zwm_8 _ (List.mem_of_getElem? (i := 1) rfl), by decide +kernel, by decide +kernel, by decide +kernel⟩
theorem zCd_X2_putLog : zCd yX2_putLog cX2_putLog 7 none 2 := ⟨zwm_8 _ (List.mem_of_getElem? (i := 4) rfl), by decide +kernel, by decide +kernel, by decide +kernel⟩
theorem zCd_X10_subtract : zCd yX10_subtract cX10_subtract 4 none 1 := ⟨zwm_8 _ (List.mem_of_getElem? (i := 8) rfl), by decide +kernel, by decide +kernel, by decide +kernel⟩
theorem zCd_X10_floorTimes : zCd yX10_floorTimes cX10_floorTimes 2 (some .long) 1 := ⟨zwm_8 _ (List.mem_of_getElem? (i := 12) rfl), by decide +kernel, by decide +kernel, by decide +kernel⟩
theorem zCd_J9_floorDiv_f86c9 : zCd yJ9_floorDiv_f86c9 cJ9_floorDiv_f86c9 6 (some .long) 2 := ⟨zwm_8 _ (List.mem_of_getElem? (i := 16) rfl), by decide +kernel, by decide +kernel, by decide +kernel⟩
theorem zCd_X11_span : zCd yX11_span cX11_span 7 (some .int) 4 := ⟨zwm_8 _ (List.mem_of_getElem? (i := 20) rfl), by decide +kernel, by decide +kernel, by decide +kernel⟩
theorem zCd_X7_lastTo : zCd yX7_lastTo cX7_lastTo 1 (some .int) 0 := ⟨zwm_8 _ (List.mem_of_getElem? (i := 24) rfl), by decide +kernel, by decide +kernel, by decide +kernel⟩
theorem zCd_X7_hasRoomFor : zCd yX7_hasRoomFor cX7_hasRoomFor 2 (some .boolean) 1 := ⟨zwm_8 _ (List.mem_of_getElem? (i := 28) rfl), by decide +kernel, by decide +kernel, by decide +kernel⟩
theorem zCd_X7_addSpan : zCd yX7_addSpan cX7_addSpan 5 none 3 := ⟨zwm_8 _ (List.mem_of_getElem? (i := 32) rfl), by decide +kernel, by decide +kernel, by decide +kernel⟩
theorem zCd_X6_isFull : zCd yX6_isFull cX6_isFull 1 (some .boolean) 0 := ⟨zwm_8 _ (List.mem_of_getElem? (i := 36) rfl), by decide +kernel, by decide +kernel, by decide +kernel⟩
theorem zCd_X6_append : zCd yX6_append cX6_append 2 (some .int) 1 := ⟨zwm_9 _ (List.mem_of_getElem? (i := 0) rfl), by decide +kernel, by decide +kernel, by decide +kernel⟩
theorem zCd_X11_mark : zCd yX11_mark cX11_mark 4 (some .int) 2 := ⟨zwm_9 _ (List.mem_of_getElem? (i := 5) rfl), by decide +kernel, by decide +kernel, by decide +kernel⟩
theorem zCd_X7_numberAt : zCd yX7_numberAt cX7_numberAt 2 (some .int) 1 := ⟨zwm_9 _ (List.mem_of_getElem? (i := 9) rfl), by decide +kernel, by decide +kernel, by decide +kernel⟩
theorem zCd_X11_marks : zCd yX11_marks cX11_marks 3 (some .int) 1 := ⟨zwm_9 _ (List.mem_of_getElem? (i := 13) rfl), by decide +kernel, by decide +kernel, by decide +kernel⟩
theorem zCd_X11_closest : zCd yX11_closest cX11_closest 5 (some .int) 2 := ⟨zwm_9 _ (List.mem_of_getElem? (i := 17) rfl), by decide +kernel, by decide +kernel, by decide +kernel⟩
theorem zCd_X7_placeMarks : zCd yX7_placeMarks cX7_placeMarks 3 none 2 := ⟨zwm_9 _ (List.mem_of_getElem? (i := 21) rfl), by decide +kernel, by decide +kernel, by decide +kernel⟩
theorem zCd_X7_firstOfClosest : zCd yX7_firstOfClosest cX7_firstOfClosest 3 (some .int) 0 := ⟨zwm_9 _ (List.mem_of_getElem? (i := 26) rfl), by decide +kernel, by decide +kernel, by decide +kernel⟩
theorem zCd_X7_gapBehind : zCd yX7_gapBehind cX7_gapBehind 2 (some .int) 1 := ⟨zwm_9 _ (List.mem_of_getElem? (i := 30) rfl), by decide +kernel, by decide +kernel, by decide +kernel⟩
theorem zCd_J9_abs_0f7a4 : zCd yJ9_abs_0f7a4 cJ9_abs_0f7a4 1 (some .int) 1 := ⟨zwm_9 _ (List.mem_of_getElem? (i := 33) rfl), by decide +kernel, by decide +kernel, by decide +kernel⟩
theorem zCd_X11_off : zCd yX11_off cX11_off 3 (some .int) 1 := ⟨zwm_9 _ (List.mem_of_getElem? (i := 38) rfl), by decide +kernel, by decide +kernel, by decide +kernel⟩
theorem zCd_X11_set : zCd yX11_set cX11_set 7 (some .int) 4 := ⟨zwm_10 _ (List.mem_of_getElem? (i := 4) rfl), by decide +kernel, by decide +kernel, by decide +kernel⟩
theorem zCd_X11_against : zCd yX11_against cX11_against 7 (some .int) 3 := ⟨zwm_10 _ (List.mem_of_getElem? (i := 8) rfl), by decide +kernel, by decide +kernel, by decide +kernel⟩
theorem zCd_X11_nearest : zCd yX11_nearest cX11_nearest 4 (some .int) 2 := ⟨zwm_10 _ (List.mem_of_getElem? (i := 12) rfl), by decide +kernel, by decide +kernel, by decide +kernel⟩
theorem zCd_X11_isAskedPlace : zCd yX11_isAskedPlace cX11_isAskedPlace 1 (some .boolean) 1 := ⟨zwm_10 _ (List.mem_of_getElem? (i := 15) rfl), by decide +kernel, by decide +kernel, by decide +kernel⟩
theorem zCd_X7_nearestTo : zCd yX7_nearestTo cX7_nearestTo 4 (some .int) 1 := ⟨zwm_10 _ (List.mem_of_getElem? (i := 21) rfl), by decide +kernel, by decide +kernel, by decide +kernel⟩
theorem zCd_X11_between : zCd yX11_between cX11_between 4 (some .int) 2 := ⟨zwm_10 _ (List.mem_of_getElem? (i := 26) rfl), by decide +kernel, by decide +kernel, by decide +kernel⟩
theorem zCd_X7_readBetween : zCd yX7_readBetween cX7_readBetween 7 (some .int) 1 := ⟨zwm_10 _ (List.mem_of_getElem? (i := 30) rfl), by decide +kernel, by decide +kernel, by decide +kernel⟩
theorem zCd_J9_min_7cf53 : zCd yJ9_min_7cf53 cJ9_min_7cf53 2 (some .int) 2 := ⟨zwm_10 _ (List.mem_of_getElem? (i := 33) rfl), by decide +kernel, by decide +kernel, by decide +kernel⟩
theorem zCd_X11_factor : zCd yX11_factor cX11_factor 2 (some .int) 1 := ⟨zwm_10 _ (List.mem_of_getElem? (i := 38) rfl), by decide +kernel, by decide +kernel, by decide +kernel⟩
theorem zCd_X11_isFactor : zCd yX11_isFactor cX11_isFactor 1 (some .boolean) 1 := ⟨zwm_11 _ (List.mem_of_getElem? (i := 1) rfl), by decide +kernel, by decide +kernel, by decide +kernel⟩
theorem zCd_X11_clear : zCd yX11_clear cX11_clear 1 (some .int) 0 := ⟨zwm_11 _ (List.mem_of_getElem? (i := 7) rfl), by decide +kernel, by decide +kernel, by decide +kernel⟩
theorem zCd_X6_empty : zCd yX6_empty cX6_empty 2 (some .int) 0 := ⟨zwm_11 _ (List.mem_of_getElem? (i := 11) rfl), by decide +kernel, by decide +kernel, by decide +kernel⟩
theorem zCd_X11_chain : zCd yX11_chain cX11_chain 2 (some .int) 1 := ⟨zwm_11 _ (List.mem_of_getElem? (i := 15) rfl), by decide +kernel, by decide +kernel, by decide +kernel⟩
theorem zCd_X5_cutFor : zCd yX5_cutFor cX5_cutFor 4 none 2 := ⟨zwm_11 _ (List.mem_of_getElem? (i := 19) rfl), by decide +kernel, by decide +kernel, by decide +kernel⟩
theorem zCd_X0_walk : zCd yX0_walk cX0_walk 3 none 1 := ⟨zwm_11 _ (List.mem_of_getElem? (i := 24) rfl), by decide +kernel, by decide +kernel, by decide +kernel⟩
theorem zCd_X0_begin : zCd yX0_begin cX0_begin 1 none 0 := ⟨zwm_11 _ (List.mem_of_getElem? (i := 28) rfl), by decide +kernel, by decide +kernel, by decide +kernel⟩
theorem zCd_X0_move : zCd yX0_move cX0_move 3 none 2 := ⟨zwm_11 _ (List.mem_of_getElem? (i := 32) rfl), by decide +kernel, by decide +kernel, by decide +kernel⟩
theorem zCd_X5_placeOf : zCd yX5_placeOf cX5_placeOf 2 (some .int) 1 := ⟨zwm_11 _ (List.mem_of_getElem? (i := 36) rfl), by decide +kernel, by decide +kernel, by decide +kernel⟩
theorem zCd_X5_readingOf : zCd yX5_readingOf cX5_readingOf 4 (some .int) 1 := ⟨zwm_12 _ (List.mem_of_getElem? (i := 0) rfl), by decide +kernel, by decide +kernel, by decide +kernel⟩
theorem zCd_X5_firstFrom : zCd yX5_firstFrom cX5_firstFrom 5 (some .int) 1 := ⟨zwm_12 _ (List.mem_of_getElem? (i := 3) rfl), by decide +kernel, by decide +kernel, by decide +kernel⟩
theorem zCd_X0_truth : zCd yX0_truth cX0_truth 2 (some .int) 0 := ⟨zwm_12 _ (List.mem_of_getElem? (i := 7) rfl), by decide +kernel, by decide +kernel, by decide +kernel⟩
theorem zCd_X0_multiplyOut : zCd yX0_multiplyOut cX0_multiplyOut 7 none 0 := ⟨zwm_12 _ (List.mem_of_getElem? (i := 10) rfl), by decide +kernel, by decide +kernel, by decide +kernel⟩
theorem zCd_X0_firstThree : zCd yX0_firstThree cX0_firstThree 4 (some .int) 1 := ⟨zwm_12 _ (List.mem_of_getElem? (i := 14) rfl), by decide +kernel, by decide +kernel, by decide +kernel⟩
theorem zCd_X11_pairs : zCd yX11_pairs cX11_pairs 5 (some .int) 4 := ⟨zwm_12 _ (List.mem_of_getElem? (i := 20) rfl), by decide +kernel, by decide +kernel, by decide +kernel⟩
theorem zCd_X4_sumUp : zCd yX4_sumUp cX4_sumUp 7 none 4 := ⟨zwm_12 _ (List.mem_of_getElem? (i := 24) rfl), by decide +kernel, by decide +kernel, by decide +kernel⟩
theorem zCd_X4_take : zCd yX4_take cX4_take 5 none 3 := ⟨zwm_12 _ (List.mem_of_getElem? (i := 27) rfl), by decide +kernel, by decide +kernel, by decide +kernel⟩
theorem zCd_X11_fewest : zCd yX11_fewest cX11_fewest 4 (some .int) 3 := ⟨zwm_12 _ (List.mem_of_getElem? (i := 36) rfl), by decide +kernel, by decide +kernel, by decide +kernel⟩
theorem zCd_X11_isPower : zCd yX11_isPower cX11_isPower 1 (some .boolean) 1 := ⟨zwm_12 _ (List.mem_of_getElem? (i := 39) rfl), by decide +kernel, by decide +kernel, by decide +kernel⟩
theorem zCd_X11_aimSettings : zCd yX11_aimSettings cX11_aimSettings 5 none 3 := ⟨zwm_13 _ (List.mem_of_getElem? (i := 2) rfl), by decide +kernel, by decide +kernel, by decide +kernel⟩
theorem zCd_X8_forgetParts : zCd yX8_forgetParts cX8_forgetParts 2 none 0 := ⟨zwm_13 _ (List.mem_of_getElem? (i := 6) rfl), by decide +kernel, by decide +kernel, by decide +kernel⟩
theorem zCd_X8_allow : zCd yX8_allow cX8_allow 3 none 2 := ⟨zwm_13 _ (List.mem_of_getElem? (i := 10) rfl), by decide +kernel, by decide +kernel, by decide +kernel⟩
theorem zCd_X8_aimAt : zCd yX8_aimAt cX8_aimAt 4 none 3 := ⟨zwm_13 _ (List.mem_of_getElem? (i := 14) rfl), by decide +kernel, by decide +kernel, by decide +kernel⟩
theorem zCd_X8_measure : zCd yX8_measure cX8_measure 5 none 2 := ⟨zwm_13 _ (List.mem_of_getElem? (i := 17) rfl), by decide +kernel, by decide +kernel, by decide +kernel⟩
theorem zCd_X8_reachBack : zCd yX8_reachBack cX8_reachBack 4 none 2 := ⟨zwm_13 _ (List.mem_of_getElem? (i := 20) rfl), by decide +kernel, by decide +kernel, by decide +kernel⟩
theorem zCd_X8_fewestToGoal : zCd yX8_fewestToGoal cX8_fewestToGoal 3 (some .int) 0 := ⟨zwm_13 _ (List.mem_of_getElem? (i := 24) rfl), by decide +kernel, by decide +kernel, by decide +kernel⟩
theorem zCd_X11_setting : zCd yX11_setting cX11_setting 5 (some .int) 4 := ⟨zwm_13 _ (List.mem_of_getElem? (i := 28) rfl), by decide +kernel, by decide +kernel, by decide +kernel⟩
theorem zCd_X8_codeAt : zCd yX8_codeAt cX8_codeAt 4 (some .int) 1 := ⟨zwm_13 _ (List.mem_of_getElem? (i := 32) rfl), by decide +kernel, by decide +kernel, by decide +kernel⟩
theorem zCd_X8_makeFirst : zCd yX8_makeFirst cX8_makeFirst 5 (some .int) 0 := ⟨zwm_13 _ (List.mem_of_getElem? (i := 36) rfl), by decide +kernel, by decide +kernel, by decide +kernel⟩
theorem zCd_X8_isNearer : zCd yX8_isNearer cX8_isNearer 3 (some .boolean) 2 := ⟨zwm_13 _ (List.mem_of_getElem? (i := 39) rfl), by decide +kernel, by decide +kernel, by decide +kernel⟩
theorem zCd_X11_cut : zCd yX11_cut cX11_cut 3 (some .int) 2 := ⟨zwm_14 _ (List.mem_of_getElem? (i := 3) rfl), by decide +kernel, by decide +kernel, by decide +kernel⟩
theorem zCd_X11_isStrip : zCd yX11_isStrip cX11_isStrip 1 (some .boolean) 1 := ⟨zwm_14 _ (List.mem_of_getElem? (i := 6) rfl), by decide +kernel, by decide +kernel, by decide +kernel⟩
theorem zCd_X6_last : zCd yX6_last cX6_last 1 (some .int) 0 := ⟨zwm_14 _ (List.mem_of_getElem? (i := 10) rfl), by decide +kernel, by decide +kernel, by decide +kernel⟩
theorem zCd_X11_wipe : zCd yX11_wipe cX11_wipe 2 (some .int) 1 := ⟨zwm_14 _ (List.mem_of_getElem? (i := 14) rfl), by decide +kernel, by decide +kernel, by decide +kernel⟩
theorem zCd_X11_chosen : zCd yX11_chosen cX11_chosen 4 (some .int) 3 := ⟨zwm_14 _ (List.mem_of_getElem? (i := 18) rfl), by decide +kernel, by decide +kernel, by decide +kernel⟩
theorem zCd_X9_choose : zCd yX9_choose cX9_choose 7 (some .int) 2 := ⟨zwm_14 _ (List.mem_of_getElem? (i := 22) rfl), by decide +kernel, by decide +kernel, by decide +kernel⟩
theorem zCd_X11_match : zCd yX11_match cX11_match 2 (some .int) 1 := ⟨zwm_14 _ (List.mem_of_getElem? (i := 26) rfl), by decide +kernel, by decide +kernel, by decide +kernel⟩
theorem zCd_X3_find : zCd yX3_find cX3_find 5 none 2 := ⟨zwm_14 _ (List.mem_of_getElem? (i := 30) rfl), by decide +kernel, by decide +kernel, by decide +kernel⟩
theorem zCd_X3_alike : zCd yX3_alike cX3_alike 9 (some .int) 4 := ⟨zwm_14 _ (List.mem_of_getElem? (i := 34) rfl), by decide +kernel, by decide +kernel, by decide +kernel⟩
theorem zCd_X3_weigh : zCd yX3_weigh cX3_weigh 5 none 2 := ⟨zwm_14 _ (List.mem_of_getElem? (i := 37) rfl), by decide +kernel, by decide +kernel, by decide +kernel⟩
theorem zCd_X11_law : zCd yX11_law cX11_law 3 (some .int) 2 := ⟨zwm_15 _ (List.mem_of_getElem? (i := 2) rfl), by decide +kernel, by decide +kernel, by decide +kernel⟩
theorem zCd_X1_isLaw : zCd yX1_isLaw cX1_isLaw 1 (some .boolean) 1 := ⟨zwm_15 _ (List.mem_of_getElem? (i := 5) rfl), by decide +kernel, by decide +kernel, by decide +kernel⟩
theorem zCd_X1_placeOf : zCd yX1_placeOf cX1_placeOf 7 (some .int) 3 := ⟨zwm_15 _ (List.mem_of_getElem? (i := 8) rfl), by decide +kernel, by decide +kernel, by decide +kernel⟩
theorem zCd_X1_inOrder : zCd yX1_inOrder cX1_inOrder 2 (some .int) 2 := ⟨zwm_15 _ (List.mem_of_getElem? (i := 11) rfl), by decide +kernel, by decide +kernel, by decide +kernel⟩
theorem zCd_X1_numberOf : zCd yX1_numberOf cX1_numberOf 2 (some .long) 2 := ⟨zwm_15 _ (List.mem_of_getElem? (i := 14) rfl), by decide +kernel, by decide +kernel, by decide +kernel⟩
theorem zCd_X11_doubled : zCd yX11_doubled cX11_doubled 2 (some .int) 1 := ⟨zwm_15 _ (List.mem_of_getElem? (i := 20) rfl), by decide +kernel, by decide +kernel, by decide +kernel⟩
theorem zCd_X1_doublesOf : zCd yX1_doublesOf cX1_doublesOf 5 (some .int) 2 := ⟨zwm_15 _ (List.mem_of_getElem? (i := 24) rfl), by decide +kernel, by decide +kernel, by decide +kernel⟩
theorem zCd_X1_doublesFrom : zCd yX1_doublesFrom cX1_doublesFrom 6 (some .int) 1 := ⟨zwm_15 _ (List.mem_of_getElem? (i := 28) rfl), by decide +kernel, by decide +kernel, by decide +kernel⟩
theorem zCd_X11_count : zCd yX11_count cX11_count 2 (some .int) 1 := ⟨zwm_15 _ (List.mem_of_getElem? (i := 32) rfl), by decide +kernel, by decide +kernel, by decide +kernel⟩
theorem zCd_X11_scalesOnSlide : zCd yX11_scalesOnSlide cX11_scalesOnSlide 3 (some .int) 0 := ⟨zwm_15 _ (List.mem_of_getElem? (i := 35) rfl), by decide +kernel, by decide +kernel, by decide +kernel⟩
theorem zCd_X11_digest : zCd yX11_digest cX11_digest 4 (some .long) 0 := ⟨zwm_15 _ (List.mem_of_getElem? (i := 39) rfl), by decide +kernel, by decide +kernel, by decide +kernel⟩
theorem zCd_X7_digestOnto : zCd yX7_digestOnto cX7_digestOnto 4 (some .long) 1 := ⟨zwm_16 _ (List.mem_of_getElem? (i := 6) rfl), by decide +kernel, by decide +kernel, by decide +kernel⟩
theorem zCd_X6_digestOnto : zCd yX6_digestOnto cX6_digestOnto 4 (some .long) 1 := ⟨zwm_16 _ (List.mem_of_getElem? (i := 12) rfl), by decide +kernel, by decide +kernel, by decide +kernel⟩
theorem zCd_X12_init : zCd yX12_init cX12_init 2 none 0 := ⟨zwm_16 _ (List.mem_of_getElem? (i := 18) rfl), by decide +kernel, by decide +kernel, by decide +kernel⟩
theorem zCd_X12_natural : zCd yX12_natural cX12_natural 12 none 3 := ⟨zwm_16 _ (List.mem_of_getElem? (i := 24) rfl), by decide +kernel, by decide +kernel, by decide +kernel⟩
theorem zCd_X12_sets : zCd yX12_sets cX12_sets 4 none 2 := ⟨zwm_16 _ (List.mem_of_getElem? (i := 27) rfl), by decide +kernel, by decide +kernel, by decide +kernel⟩
theorem zCd_X12_divides : zCd yX12_divides cX12_divides 8 none 2 := ⟨zwm_16 _ (List.mem_of_getElem? (i := 30) rfl), by decide +kernel, by decide +kernel, by decide +kernel⟩
theorem zCd_X12_isNought : zCd yX12_isNought cX12_isNought 3 (some .boolean) 1 := ⟨zwm_16 _ (List.mem_of_getElem? (i := 34) rfl), by decide +kernel, by decide +kernel, by decide +kernel⟩
theorem zCd_X12_copies : zCd yX12_copies cX12_copies 3 none 2 := ⟨zwm_16 _ (List.mem_of_getElem? (i := 37) rfl), by decide +kernel, by decide +kernel, by decide +kernel⟩
theorem zCd_X12_adds : zCd yX12_adds cX12_adds 7 none 2 := ⟨zwm_17 _ (List.mem_of_getElem? (i := 0) rfl), by decide +kernel, by decide +kernel, by decide +kernel⟩
theorem zCd_X12_times : zCd yX12_times cX12_times 10 none 2 := ⟨zwm_17 _ (List.mem_of_getElem? (i := 3) rfl), by decide +kernel, by decide +kernel, by decide +kernel⟩
theorem zCd_X12_rule : zCd yX12_rule cX12_rule 3 (some .int) 1 := ⟨zwm_18 _ (List.mem_of_getElem? (i := 30) rfl), by decide +kernel, by decide +kernel, by decide +kernel⟩
theorem zCd_X12_in : zCd yX12_in cX12_in 6 (some .boolean) 3 := ⟨zwm_18 _ (List.mem_of_getElem? (i := 35) rfl), by decide +kernel, by decide +kernel, by decide +kernel⟩
theorem zCd_X12_scale : zCd yX12_scale cX12_scale 5 (some .int) 4 := ⟨zwm_18 _ (List.mem_of_getElem? (i := 39) rfl), by decide +kernel, by decide +kernel, by decide +kernel⟩
theorem zCd_X12_place : zCd yX12_place cX12_place 3 (some .int) 2 := ⟨zwm_19 _ (List.mem_of_getElem? (i := 6) rfl), by decide +kernel, by decide +kernel, by decide +kernel⟩
theorem zCd_X12_isScale : zCd yX12_isScale cX12_isScale 2 (some .boolean) 1 := ⟨zwm_19 _ (List.mem_of_getElem? (i := 9) rfl), by decide +kernel, by decide +kernel, by decide +kernel⟩
theorem zCd_X12_isNumber : zCd yX12_isNumber cX12_isNumber 1 (some .boolean) 1 := ⟨zwm_19 _ (List.mem_of_getElem? (i := 12) rfl), by decide +kernel, by decide +kernel, by decide +kernel⟩
theorem zCd_X12_placeOf : zCd yX12_placeOf cX12_placeOf 5 (some .int) 2 := ⟨zwm_19 _ (List.mem_of_getElem? (i := 16) rfl), by decide +kernel, by decide +kernel, by decide +kernel⟩
theorem zCd_X12_nearestOf : zCd yX12_nearestOf cX12_nearestOf 13 (some .int) 3 := ⟨zwm_19 _ (List.mem_of_getElem? (i := 21) rfl), by decide +kernel, by decide +kernel, by decide +kernel⟩
theorem zCd_X12_tens : zCd yX12_tens cX12_tens 9 (some .int) 2 := ⟨zwm_19 _ (List.mem_of_getElem? (i := 24) rfl), by decide +kernel, by decide +kernel, by decide +kernel⟩
theorem zCd_X12_down : zCd yX12_down cX12_down 4 (some .long) 2 := ⟨zwm_19 _ (List.mem_of_getElem? (i := 27) rfl), by decide +kernel, by decide +kernel, by decide +kernel⟩
theorem zCd_X12_logOf : zCd yX12_logOf cX12_logOf 8 none 2 := ⟨zwm_19 _ (List.mem_of_getElem? (i := 30) rfl), by decide +kernel, by decide +kernel, by decide +kernel⟩
theorem zCd_X12_takes : zCd yX12_takes cX12_takes 7 none 2 := ⟨zwm_19 _ (List.mem_of_getElem? (i := 35) rfl), by decide +kernel, by decide +kernel, by decide +kernel⟩
theorem zCd_X12_isLess : zCd yX12_isLess cX12_isLess 3 (some .boolean) 2 := ⟨zwm_19 _ (List.mem_of_getElem? (i := 38) rfl), by decide +kernel, by decide +kernel, by decide +kernel⟩
theorem zCd_X12_span : zCd yX12_span cX12_span 7 (some .int) 4 := ⟨zwm_20 _ (List.mem_of_getElem? (i := 3) rfl), by decide +kernel, by decide +kernel, by decide +kernel⟩
theorem zCd_X12_marksOf : zCd yX12_marksOf cX12_marksOf 4 (some .int) 1 := ⟨zwm_20 _ (List.mem_of_getElem? (i := 7) rfl), by decide +kernel, by decide +kernel, by decide +kernel⟩
theorem zCd_X12_spanMarks : zCd yX12_spanMarks cX12_spanMarks 2 (some .int) 1 := ⟨zwm_20 _ (List.mem_of_getElem? (i := 10) rfl), by decide +kernel, by decide +kernel, by decide +kernel⟩
theorem zCd_X12_mark : zCd yX12_mark cX12_mark 3 (some .int) 2 := ⟨zwm_20 _ (List.mem_of_getElem? (i := 14) rfl), by decide +kernel, by decide +kernel, by decide +kernel⟩
theorem zCd_X12_markOf : zCd yX12_markOf cX12_markOf 5 (some .int) 2 := ⟨zwm_20 _ (List.mem_of_getElem? (i := 17) rfl), by decide +kernel, by decide +kernel, by decide +kernel⟩
theorem zCd_X12_marks : zCd yX12_marks cX12_marks 2 (some .int) 1 := ⟨zwm_20 _ (List.mem_of_getElem? (i := 21) rfl), by decide +kernel, by decide +kernel, by decide +kernel⟩
theorem zCd_X12_closest : zCd yX12_closest cX12_closest 10 (some .int) 2 := ⟨zwm_20 _ (List.mem_of_getElem? (i := 25) rfl), by decide +kernel, by decide +kernel, by decide +kernel⟩
theorem zCd_X12_size : zCd yX12_size cX12_size 1 (some .int) 1 := ⟨zwm_20 _ (List.mem_of_getElem? (i := 28) rfl), by decide +kernel, by decide +kernel, by decide +kernel⟩
theorem zCd_X12_off : zCd yX12_off cX12_off 3 (some .int) 1 := ⟨zwm_20 _ (List.mem_of_getElem? (i := 32) rfl), by decide +kernel, by decide +kernel, by decide +kernel⟩
theorem zCd_X12_set : zCd yX12_set cX12_set 5 (some .int) 4 := ⟨zwm_20 _ (List.mem_of_getElem? (i := 38) rfl), by decide +kernel, by decide +kernel, by decide +kernel⟩
theorem zCd_X12_against : zCd yX12_against cX12_against 4 (some .int) 3 := ⟨zwm_21 _ (List.mem_of_getElem? (i := 2) rfl), by decide +kernel, by decide +kernel, by decide +kernel⟩
theorem zCd_X12_nearest : zCd yX12_nearest cX12_nearest 7 (some .int) 2 := ⟨zwm_21 _ (List.mem_of_getElem? (i := 6) rfl), by decide +kernel, by decide +kernel, by decide +kernel⟩
theorem zCd_X12_isPlace : zCd yX12_isPlace cX12_isPlace 1 (some .boolean) 1 := ⟨zwm_21 _ (List.mem_of_getElem? (i := 9) rfl), by decide +kernel, by decide +kernel, by decide +kernel⟩
theorem zCd_X12_between : zCd yX12_between cX12_between 9 (some .int) 2 := ⟨zwm_21 _ (List.mem_of_getElem? (i := 15) rfl), by decide +kernel, by decide +kernel, by decide +kernel⟩
theorem zCd_X12_factor : zCd yX12_factor cX12_factor 2 (some .int) 1 := ⟨zwm_21 _ (List.mem_of_getElem? (i := 19) rfl), by decide +kernel, by decide +kernel, by decide +kernel⟩
theorem zCd_X12_clear : zCd yX12_clear cX12_clear 2 (some .int) 0 := ⟨zwm_21 _ (List.mem_of_getElem? (i := 24) rfl), by decide +kernel, by decide +kernel, by decide +kernel⟩
theorem zCd_X12_chain : zCd yX12_chain cX12_chain 5 (some .int) 1 := ⟨zwm_21 _ (List.mem_of_getElem? (i := 28) rfl), by decide +kernel, by decide +kernel, by decide +kernel⟩
theorem zCd_X12_plainOf : zCd yX12_plainOf cX12_plainOf 3 (some .int) 1 := ⟨zwm_21 _ (List.mem_of_getElem? (i := 31) rfl), by decide +kernel, by decide +kernel, by decide +kernel⟩
theorem zCd_X12_plain : zCd yX12_plain cX12_plain 2 (some .int) 1 := ⟨zwm_21 _ (List.mem_of_getElem? (i := 34) rfl), by decide +kernel, by decide +kernel, by decide +kernel⟩
theorem zCd_X12_reading : zCd yX12_reading cX12_reading 4 (some .int) 1 := ⟨zwm_21 _ (List.mem_of_getElem? (i := 37) rfl), by decide +kernel, by decide +kernel, by decide +kernel⟩
theorem zCd_X12_truth : zCd yX12_truth cX12_truth 6 (some .int) 0 := ⟨zwm_22 _ (List.mem_of_getElem? (i := 0) rfl), by decide +kernel, by decide +kernel, by decide +kernel⟩
theorem zCd_X12_pairs : zCd yX12_pairs cX12_pairs 16 (some .int) 4 := ⟨zwm_22 _ (List.mem_of_getElem? (i := 5) rfl), by decide +kernel, by decide +kernel, by decide +kernel⟩
theorem zCd_X12_fewest : zCd yX12_fewest cX12_fewest 4 (some .int) 3 := ⟨zwm_22 _ (List.mem_of_getElem? (i := 9) rfl), by decide +kernel, by decide +kernel, by decide +kernel⟩
theorem zCd_X12_isPower : zCd yX12_isPower cX12_isPower 1 (some .boolean) 1 := ⟨zwm_22 _ (List.mem_of_getElem? (i := 12) rfl), by decide +kernel, by decide +kernel, by decide +kernel⟩
theorem zCd_X12_spreads : zCd yX12_spreads cX12_spreads 5 none 0 := ⟨zwm_22 _ (List.mem_of_getElem? (i := 17) rfl), by decide +kernel, by decide +kernel, by decide +kernel⟩
theorem zCd_X12_lets : zCd yX12_lets cX12_lets 5 (some .boolean) 2 := ⟨zwm_22 _ (List.mem_of_getElem? (i := 21) rfl), by decide +kernel, by decide +kernel, by decide +kernel⟩
theorem zCd_X12_leastTo : zCd yX12_leastTo cX12_leastTo 5 (some .int) 3 := ⟨zwm_22 _ (List.mem_of_getElem? (i := 24) rfl), by decide +kernel, by decide +kernel, by decide +kernel⟩
theorem zCd_X12_setting : zCd yX12_setting cX12_setting 18 (some .int) 4 := ⟨zwm_22 _ (List.mem_of_getElem? (i := 28) rfl), by decide +kernel, by decide +kernel, by decide +kernel⟩
theorem zCd_X12_cut : zCd yX12_cut cX12_cut 3 (some .int) 2 := ⟨zwm_22 _ (List.mem_of_getElem? (i := 32) rfl), by decide +kernel, by decide +kernel, by decide +kernel⟩
theorem zCd_X12_isStrip : zCd yX12_isStrip cX12_isStrip 1 (some .boolean) 1 := ⟨zwm_22 _ (List.mem_of_getElem? (i := 35) rfl), by decide +kernel, by decide +kernel, by decide +kernel⟩
theorem zCd_X12_wipe : zCd yX12_wipe cX12_wipe 3 (some .int) 1 := ⟨zwm_22 _ (List.mem_of_getElem? (i := 39) rfl), by decide +kernel, by decide +kernel, by decide +kernel⟩
theorem zCd_X12_chosen : zCd yX12_chosen cX12_chosen 8 (some .int) 3 := ⟨zwm_23 _ (List.mem_of_getElem? (i := 3) rfl), by decide +kernel, by decide +kernel, by decide +kernel⟩
theorem zCd_X12_match : zCd yX12_match cX12_match 9 (some .int) 1 := ⟨zwm_23 _ (List.mem_of_getElem? (i := 7) rfl), by decide +kernel, by decide +kernel, by decide +kernel⟩
theorem zCd_X12_has : zCd yX12_has cX12_has 5 (some .boolean) 2 := ⟨zwm_23 _ (List.mem_of_getElem? (i := 10) rfl), by decide +kernel, by decide +kernel, by decide +kernel⟩
theorem zCd_X12_law : zCd yX12_law cX12_law 3 (some .int) 2 := ⟨zwm_23 _ (List.mem_of_getElem? (i := 14) rfl), by decide +kernel, by decide +kernel, by decide +kernel⟩
theorem zCd_X12_lawPlace : zCd yX12_lawPlace cX12_lawPlace 7 (some .int) 2 := ⟨zwm_23 _ (List.mem_of_getElem? (i := 18) rfl), by decide +kernel, by decide +kernel, by decide +kernel⟩
theorem zCd_X12_numberOf : zCd yX12_numberOf cX12_numberOf 2 (some .long) 2 := ⟨zwm_23 _ (List.mem_of_getElem? (i := 21) rfl), by decide +kernel, by decide +kernel, by decide +kernel⟩
theorem zCd_X12_doubled : zCd yX12_doubled cX12_doubled 7 (some .int) 1 := ⟨zwm_23 _ (List.mem_of_getElem? (i := 25) rfl), by decide +kernel, by decide +kernel, by decide +kernel⟩
theorem zCd_X12_count : zCd yX12_count cX12_count 4 (some .int) 1 := ⟨zwm_23 _ (List.mem_of_getElem? (i := 29) rfl), by decide +kernel, by decide +kernel, by decide +kernel⟩
theorem zCd_X12_digest : zCd yX12_digest cX12_digest 5 (some .long) 0 := ⟨zwm_23 _ (List.mem_of_getElem? (i := 33) rfl), by decide +kernel, by decide +kernel, by decide +kernel⟩
theorem zl_L_9 : Cond.methodLink RL 9 yX11_init ∈ zT := zwm_1 _ (List.mem_of_getElem? (i := 8) rfl)
theorem zLI_L_9 : zLI RL 9 yX11_init := ⟨zl_L_9, zinst_X11_init, zini_X11⟩
theorem zl_X11_9 : Cond.methodLink RX11 9 yX2_init ∈ zT := zwm_1 _ (List.mem_of_getElem? (i := 16) rfl)
theorem zLI_X11_9 : zLI RX11 9 yX2_init := ⟨zl_X11_9, zinst_X2_init, zini_X2⟩
theorem zl_X2_29 : Cond.methodLink RX2 29 yX2_addGrowth ∈ zT := zwm_1 _ (List.mem_of_getElem? (i := 32) rfl)
theorem zLV_X2_29 : zLV RX2 29 yX2_addGrowth := ⟨zl_X2_29, zinst_X2_addGrowth, zsel_X2_addGrowth, zini_X2⟩
theorem zl_X2_44 : Cond.methodLink RX2 44 yX10_put ∈ zT := zwm_1 _ (List.mem_of_getElem? (i := 37) rfl)
theorem zLV_X2_44 : zLV RX2 44 yX10_put := ⟨zl_X2_44, zinst_X10_put, zsel_X10_put, zini_X10⟩
theorem zl_X2_48 : Cond.methodLink RX2 48 yX10_shrink ∈ zT := zwm_2 _ (List.mem_of_getElem? (i := 1) rfl)
theorem zLV_X2_48 : zLV RX2 48 yX10_shrink := ⟨zl_X2_48, zinst_X10_shrink, zsel_X10_shrink, zini_X10⟩
theorem zl_X2_52 : Cond.methodLink RX2 52 yX10_isZero ∈ zT := zwm_2 _ (List.mem_of_getElem? (i := 6) rfl)
theorem zLV_X2_52 : zLV RX2 52 yX10_isZero := ⟨zl_X2_52, zinst_X10_isZero, zsel_X10_isZero, zini_X10⟩
theorem zl_X2_56 : Cond.methodLink RX2 56 yX10_addPart ∈ zT := zwm_2 _ (List.mem_of_getElem? (i := 10) rfl)
theorem zLV_X2_56 : zLV RX2 56 yX10_addPart := ⟨zl_X2_56, zinst_X10_addPart, zsel_X10_addPart, zini_X10⟩
theorem zl_X0_13 : Cond.methodLink RX0 13 yX6_init ∈ zT := zwm_3 _ (List.mem_of_getElem? (i := 4) rfl)
theorem zLI_X0_13 : zLI RX0 13 yX6_init := ⟨zl_X0_13, zinst_X6_init, zini_X6⟩
theorem zl_X6_15 : Cond.methodLink RX6 15 yJ9_max_7cf53 ∈ zT := zwm_3 _ (List.mem_of_getElem? (i := 8) rfl)
theorem zLS_X6_15 : zLS RX6 15 yJ9_max_7cf53 := ⟨zl_X6_15, zstat_J9_max_7cf53, zini_J9⟩
theorem zl_X9_13 : Cond.methodLink RX9 13 yX6_init ∈ zT := zwm_5 _ (List.mem_of_getElem? (i := 30) rfl)
theorem zLI_X9_13 : zLI RX9 13 yX6_init := ⟨zl_X9_13, zinst_X6_init, zini_X6⟩
theorem zl_L_13 : Cond.methodLink RL 13 yX11_rule ∈ zT := zwm_6 _ (List.mem_of_getElem? (i := 18) rfl)
theorem zLV_L_13 : zLV RL 13 yX11_rule := ⟨zl_L_13, zinst_X11_rule, zsel_X11_rule, zini_X11⟩
theorem zl_L_18 : Cond.methodLink RL 18 yX11_scale ∈ zT := zwm_6 _ (List.mem_of_getElem? (i := 23) rfl)
theorem zLV_L_18 : zLV RL 18 yX11_scale := ⟨zl_L_18, zinst_X11_scale, zsel_X11_scale, zini_X11⟩
theorem zl_X11_82 : Cond.methodLink RX11 82 yX7_init ∈ zT := zwm_6 _ (List.mem_of_getElem? (i := 28) rfl)
theorem zLI_X11_82 : zLI RX11 82 yX7_init := ⟨zl_X11_82, zinst_X7_init, zini_X7⟩
theorem zl_X7_13 : Cond.methodLink RX7 13 yX6_init ∈ zT := zwm_6 _ (List.mem_of_getElem? (i := 33) rfl)
theorem zLI_X7_13 : zLI RX7 13 yX6_init := ⟨zl_X7_13, zinst_X6_init, zini_X6⟩
theorem zl_L_23 : Cond.methodLink RL 23 yX11_place ∈ zT := zwm_7 _ (List.mem_of_getElem? (i := 22) rfl)
theorem zLV_L_23 : zLV RL 23 yX11_place := ⟨zl_L_23, zinst_X11_place, zsel_X11_place, zini_X11⟩
theorem zl_X11_85 : Cond.methodLink RX11 85 yX11_scaleAt ∈ zT := zwm_7 _ (List.mem_of_getElem? (i := 26) rfl)
theorem zLV_X11_85 : zLV RX11 85 yX11_scaleAt := ⟨zl_X11_85, zinst_X11_scaleAt, zsel_X11_scaleAt, zini_X11⟩
theorem zl_X11_89 : Cond.methodLink RX11 89 yX11_isNumber ∈ zT := zwm_7 _ (List.mem_of_getElem? (i := 29) rfl)
theorem zLS_X11_89 : zLS RX11 89 yX11_isNumber := ⟨zl_X11_89, zstat_X11_isNumber, zini_X11⟩
theorem zl_X11_94 : Cond.methodLink RX11 94 yX7_placeOf ∈ zT := zwm_7 _ (List.mem_of_getElem? (i := 34) rfl)
theorem zLV_X11_94 : zLV RX11 94 yX7_placeOf := ⟨zl_X11_94, zinst_X7_placeOf, zsel_X7_placeOf, zini_X7⟩
theorem zl_X7_56 : Cond.methodLink RX7 56 yX2_placeOf ∈ zT := zwm_7 _ (List.mem_of_getElem? (i := 38) rfl)
theorem zLV_X7_56 : zLV RX7 56 yX2_placeOf := ⟨zl_X7_56, zinst_X2_placeOf, zsel_X2_placeOf, zini_X2⟩
theorem zl_X2_60 : Cond.methodLink RX2 60 yX2_putLog ∈ zT := zwm_8 _ (List.mem_of_getElem? (i := 2) rfl)
theorem zLV_X2_60 : zLV RX2 60 yX2_putLog := ⟨zl_X2_60, zinst_X2_putLog, zsel_X2_putLog, zini_X2⟩
theorem zl_X2_63 : Cond.methodLink RX2 63 yX10_subtract ∈ zT := zwm_8 _ (List.mem_of_getElem? (i := 5) rfl)
theorem zLV_X2_63 : zLV RX2 63 yX10_subtract := ⟨zl_X2_63, zinst_X10_subtract, zsel_X10_subtract, zini_X10⟩
theorem zl_X2_67 : Cond.methodLink RX2 67 yX10_floorTimes ∈ zT := zwm_8 _ (List.mem_of_getElem? (i := 9) rfl)
theorem zLV_X2_67 : zLV RX2 67 yX10_floorTimes := ⟨zl_X2_67, zinst_X10_floorTimes, zsel_X10_floorTimes, zini_X10⟩
theorem zl_X2_73 : Cond.methodLink RX2 73 yJ9_floorDiv_f86c9 ∈ zT := zwm_8 _ (List.mem_of_getElem? (i := 14) rfl)
theorem zLS_X2_73 : zLS RX2 73 yJ9_floorDiv_f86c9 := ⟨zl_X2_73, zstat_J9_floorDiv_f86c9, zini_J9⟩
theorem zl_L_28 : Cond.methodLink RL 28 yX11_span ∈ zT := zwm_8 _ (List.mem_of_getElem? (i := 17) rfl)
theorem zLV_L_28 : zLV RL 28 yX11_span := ⟨zl_L_28, zinst_X11_span, zsel_X11_span, zini_X11⟩
theorem zl_X11_98 : Cond.methodLink RX11 98 yX7_lastTo ∈ zT := zwm_8 _ (List.mem_of_getElem? (i := 21) rfl)
theorem zLV_X11_98 : zLV RX11 98 yX7_lastTo := ⟨zl_X11_98, zinst_X7_lastTo, zsel_X7_lastTo, zini_X7⟩
theorem zl_X11_102 : Cond.methodLink RX11 102 yX7_hasRoomFor ∈ zT := zwm_8 _ (List.mem_of_getElem? (i := 25) rfl)
theorem zLV_X11_102 : zLV RX11 102 yX7_hasRoomFor := ⟨zl_X11_102, zinst_X7_hasRoomFor, zsel_X7_hasRoomFor, zini_X7⟩
theorem zl_X11_105 : Cond.methodLink RX11 105 yX7_addSpan ∈ zT := zwm_8 _ (List.mem_of_getElem? (i := 29) rfl)
theorem zLV_X11_105 : zLV RX11 105 yX7_addSpan := ⟨zl_X11_105, zinst_X7_addSpan, zsel_X7_addSpan, zini_X7⟩
theorem zl_X7_65 : Cond.methodLink RX7 65 yX6_isFull ∈ zT := zwm_8 _ (List.mem_of_getElem? (i := 33) rfl)
theorem zLV_X7_65 : zLV RX7 65 yX6_isFull := ⟨zl_X7_65, zinst_X6_isFull, zsel_X6_isFull, zini_X6⟩
theorem zl_X7_69 : Cond.methodLink RX7 69 yX6_append ∈ zT := zwm_8 _ (List.mem_of_getElem? (i := 37) rfl)
theorem zLV_X7_69 : zLV RX7 69 yX6_append := ⟨zl_X7_69, zinst_X6_append, zsel_X6_append, zini_X6⟩
theorem zl_X6_25 : Cond.methodLink RX6 25 yX6_isFull ∈ zT := zwm_9 _ (List.mem_of_getElem? (i := 1) rfl)
theorem zLV_X6_25 : zLV RX6 25 yX6_isFull := ⟨zl_X6_25, zinst_X6_isFull, zsel_X6_isFull, zini_X6⟩
theorem zl_L_33 : Cond.methodLink RL 33 yX11_mark ∈ zT := zwm_9 _ (List.mem_of_getElem? (i := 2) rfl)
theorem zLV_L_33 : zLV RL 33 yX11_mark := ⟨zl_L_33, zinst_X11_mark, zsel_X11_mark, zini_X11⟩
theorem zl_X11_109 : Cond.methodLink RX11 109 yX7_numberAt ∈ zT := zwm_9 _ (List.mem_of_getElem? (i := 6) rfl)
theorem zLV_X11_109 : zLV RX11 109 yX7_numberAt := ⟨zl_X11_109, zinst_X7_numberAt, zsel_X7_numberAt, zini_X7⟩
theorem zl_L_37 : Cond.methodLink RL 37 yX11_marks ∈ zT := zwm_9 _ (List.mem_of_getElem? (i := 10) rfl)
theorem zLV_L_37 : zLV RL 37 yX11_marks := ⟨zl_L_37, zinst_X11_marks, zsel_X11_marks, zini_X11⟩
theorem zl_L_41 : Cond.methodLink RL 41 yX11_closest ∈ zT := zwm_9 _ (List.mem_of_getElem? (i := 14) rfl)
theorem zLV_L_41 : zLV RL 41 yX11_closest := ⟨zl_L_41, zinst_X11_closest, zsel_X11_closest, zini_X11⟩
theorem zl_X11_122 : Cond.methodLink RX11 122 yX7_placeMarks ∈ zT := zwm_9 _ (List.mem_of_getElem? (i := 18) rfl)
theorem zLV_X11_122 : zLV RX11 122 yX7_placeMarks := ⟨zl_X11_122, zinst_X7_placeMarks, zsel_X7_placeMarks, zini_X7⟩
theorem zl_X7_76 : Cond.methodLink RX7 76 yX7_placeOf ∈ zT := zwm_9 _ (List.mem_of_getElem? (i := 22) rfl)
theorem zLV_X7_76 : zLV RX7 76 yX7_placeOf := ⟨zl_X7_76, zinst_X7_placeOf, zsel_X7_placeOf, zini_X7⟩
theorem zl_X11_126 : Cond.methodLink RX11 126 yX7_firstOfClosest ∈ zT := zwm_9 _ (List.mem_of_getElem? (i := 23) rfl)
theorem zLV_X11_126 : zLV RX11 126 yX7_firstOfClosest := ⟨zl_X11_126, zinst_X7_firstOfClosest, zsel_X7_firstOfClosest, zini_X7⟩
theorem zl_X7_84 : Cond.methodLink RX7 84 yX7_gapBehind ∈ zT := zwm_9 _ (List.mem_of_getElem? (i := 27) rfl)
theorem zLV_X7_84 : zLV RX7 84 yX7_gapBehind := ⟨zl_X7_84, zinst_X7_gapBehind, zsel_X7_gapBehind, zini_X7⟩
theorem zl_X7_79 : Cond.methodLink RX7 79 yJ9_abs_0f7a4 ∈ zT := zwm_9 _ (List.mem_of_getElem? (i := 31) rfl)
theorem zLS_X7_79 : zLS RX7 79 yJ9_abs_0f7a4 := ⟨zl_X7_79, zstat_J9_abs_0f7a4, zini_J9⟩
theorem zl_X11_129 : Cond.methodLink RX11 129 yX7_gapBehind ∈ zT := zwm_9 _ (List.mem_of_getElem? (i := 34) rfl)
theorem zLV_X11_129 : zLV RX11 129 yX7_gapBehind := ⟨zl_X11_129, zinst_X7_gapBehind, zsel_X7_gapBehind, zini_X7⟩
theorem zl_L_45 : Cond.methodLink RL 45 yX11_off ∈ zT := zwm_9 _ (List.mem_of_getElem? (i := 35) rfl)
theorem zLV_L_45 : zLV RL 45 yX11_off := ⟨zl_L_45, zinst_X11_off, zsel_X11_off, zini_X11⟩
theorem zl_L_49 : Cond.methodLink RL 49 yX11_set ∈ zT := zwm_10 _ (List.mem_of_getElem? (i := 1) rfl)
theorem zLV_L_49 : zLV RL 49 yX11_set := ⟨zl_L_49, zinst_X11_set, zsel_X11_set, zini_X11⟩
theorem zl_L_53 : Cond.methodLink RL 53 yX11_against ∈ zT := zwm_10 _ (List.mem_of_getElem? (i := 5) rfl)
theorem zLV_L_53 : zLV RL 53 yX11_against := ⟨zl_L_53, zinst_X11_against, zsel_X11_against, zini_X11⟩
theorem zl_L_58 : Cond.methodLink RL 58 yX11_nearest ∈ zT := zwm_10 _ (List.mem_of_getElem? (i := 9) rfl)
theorem zLV_L_58 : zLV RL 58 yX11_nearest := ⟨zl_L_58, zinst_X11_nearest, zsel_X11_nearest, zini_X11⟩
theorem zl_X11_138 : Cond.methodLink RX11 138 yX11_isAskedPlace ∈ zT := zwm_10 _ (List.mem_of_getElem? (i := 13) rfl)
theorem zLS_X11_138 : zLS RX11 138 yX11_isAskedPlace := ⟨zl_X11_138, zstat_X11_isAskedPlace, zini_X11⟩
theorem zl_X11_141 : Cond.methodLink RX11 141 yX7_nearestTo ∈ zT := zwm_10 _ (List.mem_of_getElem? (i := 18) rfl)
theorem zLV_X11_141 : zLV RX11 141 yX7_nearestTo := ⟨zl_X11_141, zinst_X7_nearestTo, zsel_X7_nearestTo, zini_X7⟩
theorem zl_X7_87 : Cond.methodLink RX7 87 yX7_numberAt ∈ zT := zwm_10 _ (List.mem_of_getElem? (i := 22) rfl)
theorem zLV_X7_87 : zLV RX7 87 yX7_numberAt := ⟨zl_X7_87, zinst_X7_numberAt, zsel_X7_numberAt, zini_X7⟩
theorem zl_L_62 : Cond.methodLink RL 62 yX11_between ∈ zT := zwm_10 _ (List.mem_of_getElem? (i := 23) rfl)
theorem zLV_L_62 : zLV RL 62 yX11_between := ⟨zl_L_62, zinst_X11_between, zsel_X11_between, zini_X11⟩
theorem zl_X11_144 : Cond.methodLink RX11 144 yX7_readBetween ∈ zT := zwm_10 _ (List.mem_of_getElem? (i := 27) rfl)
theorem zLV_X11_144 : zLV RX11 144 yX7_readBetween := ⟨zl_X11_144, zinst_X7_readBetween, zsel_X7_readBetween, zini_X7⟩
theorem zl_X7_90 : Cond.methodLink RX7 90 yJ9_min_7cf53 ∈ zT := zwm_10 _ (List.mem_of_getElem? (i := 31) rfl)
theorem zLS_X7_90 : zLS RX7 90 yJ9_min_7cf53 := ⟨zl_X7_90, zstat_J9_min_7cf53, zini_J9⟩
theorem zl_X7_94 : Cond.methodLink RX7 94 yJ9_max_7cf53 ∈ zT := zwm_10 _ (List.mem_of_getElem? (i := 34) rfl)
theorem zLS_X7_94 : zLS RX7 94 yJ9_max_7cf53 := ⟨zl_X7_94, zstat_J9_max_7cf53, zini_J9⟩
theorem zl_L_66 : Cond.methodLink RL 66 yX11_factor ∈ zT := zwm_10 _ (List.mem_of_getElem? (i := 35) rfl)
theorem zLV_L_66 : zLV RL 66 yX11_factor := ⟨zl_L_66, zinst_X11_factor, zsel_X11_factor, zini_X11⟩
theorem zl_X11_147 : Cond.methodLink RX11 147 yX11_isFactor ∈ zT := zwm_10 _ (List.mem_of_getElem? (i := 39) rfl)
theorem zLS_X11_147 : zLS RX11 147 yX11_isFactor := ⟨zl_X11_147, zstat_X11_isFactor, zini_X11⟩
theorem zl_X11_153 : Cond.methodLink RX11 153 yX6_isFull ∈ zT := zwm_11 _ (List.mem_of_getElem? (i := 2) rfl)
theorem zLV_X11_153 : zLV RX11 153 yX6_isFull := ⟨zl_X11_153, zinst_X6_isFull, zsel_X6_isFull, zini_X6⟩
theorem zl_X11_157 : Cond.methodLink RX11 157 yX6_append ∈ zT := zwm_11 _ (List.mem_of_getElem? (i := 3) rfl)
theorem zLV_X11_157 : zLV RX11 157 yX6_append := ⟨zl_X11_157, zinst_X6_append, zsel_X6_append, zini_X6⟩
theorem zl_L_70 : Cond.methodLink RL 70 yX11_clear ∈ zT := zwm_11 _ (List.mem_of_getElem? (i := 4) rfl)
theorem zLV_L_70 : zLV RL 70 yX11_clear := ⟨zl_L_70, zinst_X11_clear, zsel_X11_clear, zini_X11⟩
theorem zl_X11_160 : Cond.methodLink RX11 160 yX6_empty ∈ zT := zwm_11 _ (List.mem_of_getElem? (i := 8) rfl)
theorem zLV_X11_160 : zLV RX11 160 yX6_empty := ⟨zl_X11_160, zinst_X6_empty, zsel_X6_empty, zini_X6⟩
theorem zl_L_75 : Cond.methodLink RL 75 yX11_chain ∈ zT := zwm_11 _ (List.mem_of_getElem? (i := 12) rfl)
theorem zLV_L_75 : zLV RL 75 yX11_chain := ⟨zl_L_75, zinst_X11_chain, zsel_X11_chain, zini_X11⟩
theorem zl_X11_163 : Cond.methodLink RX11 163 yX5_cutFor ∈ zT := zwm_11 _ (List.mem_of_getElem? (i := 16) rfl)
theorem zLV_X11_163 : zLV RX11 163 yX5_cutFor := ⟨zl_X11_163, zinst_X5_cutFor, zsel_X5_cutFor, zini_X5⟩
theorem zl_X5_19 : Cond.methodLink RX5 19 yX2_placeOf ∈ zT := zwm_11 _ (List.mem_of_getElem? (i := 20) rfl)
theorem zLV_X5_19 : zLV RX5 19 yX2_placeOf := ⟨zl_X5_19, zinst_X2_placeOf, zsel_X2_placeOf, zini_X2⟩
theorem zl_X11_166 : Cond.methodLink RX11 166 yX0_walk ∈ zT := zwm_11 _ (List.mem_of_getElem? (i := 21) rfl)
theorem zLV_X11_166 : zLV RX11 166 yX0_walk := ⟨zl_X11_166, zinst_X0_walk, zsel_X0_walk, zini_X0⟩
theorem zl_X0_40 : Cond.methodLink RX0 40 yX0_begin ∈ zT := zwm_11 _ (List.mem_of_getElem? (i := 25) rfl)
theorem zLV_X0_40 : zLV RX0 40 yX0_begin := ⟨zl_X0_40, zinst_X0_begin, zsel_X0_begin, zini_X0⟩
theorem zl_X0_50 : Cond.methodLink RX0 50 yX0_move ∈ zT := zwm_11 _ (List.mem_of_getElem? (i := 29) rfl)
theorem zLV_X0_50 : zLV RX0 50 yX0_move := ⟨zl_X0_50, zinst_X0_move, zsel_X0_move, zini_X0⟩
theorem zl_X0_31 : Cond.methodLink RX0 31 yX5_placeOf ∈ zT := zwm_11 _ (List.mem_of_getElem? (i := 33) rfl)
theorem zLV_X0_31 : zLV RX0 31 yX5_placeOf := ⟨zl_X0_31, zinst_X5_placeOf, zsel_X5_placeOf, zini_X5⟩
theorem zl_X11_173 : Cond.methodLink RX11 173 yX5_readingOf ∈ zT := zwm_11 _ (List.mem_of_getElem? (i := 37) rfl)
theorem zLV_X11_173 : zLV RX11 173 yX5_readingOf := ⟨zl_X11_173, zinst_X5_readingOf, zsel_X5_readingOf, zini_X5⟩
theorem zl_X5_29 : Cond.methodLink RX5 29 yX5_firstFrom ∈ zT := zwm_12 _ (List.mem_of_getElem? (i := 1) rfl)
theorem zLV_X5_29 : zLV RX5 29 yX5_firstFrom := ⟨zl_X5_29, zinst_X5_firstFrom, zsel_X5_firstFrom, zini_X5⟩
theorem zl_X11_176 : Cond.methodLink RX11 176 yX0_truth ∈ zT := zwm_12 _ (List.mem_of_getElem? (i := 4) rfl)
theorem zLV_X11_176 : zLV RX11 176 yX0_truth := ⟨zl_X11_176, zinst_X0_truth, zsel_X0_truth, zini_X0⟩
theorem zl_X0_54 : Cond.methodLink RX0 54 yX0_multiplyOut ∈ zT := zwm_12 _ (List.mem_of_getElem? (i := 8) rfl)
theorem zLV_X0_54 : zLV RX0 54 yX0_multiplyOut := ⟨zl_X0_54, zinst_X0_multiplyOut, zsel_X0_multiplyOut, zini_X0⟩
theorem zl_X0_59 : Cond.methodLink RX0 59 yX0_firstThree ∈ zT := zwm_12 _ (List.mem_of_getElem? (i := 12) rfl)
theorem zLS_X0_59 : zLS RX0 59 yX0_firstThree := ⟨zl_X0_59, zstat_X0_firstThree, zini_X0⟩
theorem zl_L_79 : Cond.methodLink RL 79 yX11_pairs ∈ zT := zwm_12 _ (List.mem_of_getElem? (i := 17) rfl)
theorem zLV_L_79 : zLV RL 79 yX11_pairs := ⟨zl_L_79, zinst_X11_pairs, zsel_X11_pairs, zini_X11⟩
theorem zl_X11_182 : Cond.methodLink RX11 182 yX4_sumUp ∈ zT := zwm_12 _ (List.mem_of_getElem? (i := 21) rfl)
theorem zLV_X11_182 : zLV RX11 182 yX4_sumUp := ⟨zl_X11_182, zinst_X4_sumUp, zsel_X4_sumUp, zini_X4⟩
theorem zl_X4_52 : Cond.methodLink RX4 52 yX4_take ∈ zT := zwm_12 _ (List.mem_of_getElem? (i := 25) rfl)
theorem zLV_X4_52 : zLV RX4 52 yX4_take := ⟨zl_X4_52, zinst_X4_take, zsel_X4_take, zini_X4⟩
theorem zl_X4_56 : Cond.methodLink RX4 56 yX0_begin ∈ zT := zwm_12 _ (List.mem_of_getElem? (i := 28) rfl)
theorem zLV_X4_56 : zLV RX4 56 yX0_begin := ⟨zl_X4_56, zinst_X0_begin, zsel_X0_begin, zini_X0⟩
theorem zl_X4_59 : Cond.methodLink RX4 59 yX0_move ∈ zT := zwm_12 _ (List.mem_of_getElem? (i := 29) rfl)
theorem zLV_X4_59 : zLV RX4 59 yX0_move := ⟨zl_X4_59, zinst_X0_move, zsel_X0_move, zini_X0⟩
theorem zl_X4_66 : Cond.methodLink RX4 66 yX5_readingOf ∈ zT := zwm_12 _ (List.mem_of_getElem? (i := 30) rfl)
theorem zLV_X4_66 : zLV RX4 66 yX5_readingOf := ⟨zl_X4_66, zinst_X5_readingOf, zsel_X5_readingOf, zini_X5⟩
theorem zl_X4_70 : Cond.methodLink RX4 70 yX0_firstThree ∈ zT := zwm_12 _ (List.mem_of_getElem? (i := 31) rfl)
theorem zLS_X4_70 : zLS RX4 70 yX0_firstThree := ⟨zl_X4_70, zstat_X0_firstThree, zini_X0⟩
theorem zl_X4_74 : Cond.methodLink RX4 74 yJ9_abs_0f7a4 ∈ zT := zwm_12 _ (List.mem_of_getElem? (i := 32) rfl)
theorem zLS_X4_74 : zLS RX4 74 yJ9_abs_0f7a4 := ⟨zl_X4_74, zstat_J9_abs_0f7a4, zini_J9⟩
theorem zl_L_83 : Cond.methodLink RL 83 yX11_fewest ∈ zT := zwm_12 _ (List.mem_of_getElem? (i := 33) rfl)
theorem zLV_L_83 : zLV RL 83 yX11_fewest := ⟨zl_L_83, zinst_X11_fewest, zsel_X11_fewest, zini_X11⟩
theorem zl_X11_202 : Cond.methodLink RX11 202 yX11_isPower ∈ zT := zwm_12 _ (List.mem_of_getElem? (i := 37) rfl)
theorem zLS_X11_202 : zLS RX11 202 yX11_isPower := ⟨zl_X11_202, zstat_X11_isPower, zini_X11⟩
theorem zl_X11_205 : Cond.methodLink RX11 205 yX11_aimSettings ∈ zT := zwm_13 _ (List.mem_of_getElem? (i := 0) rfl)
theorem zLV_X11_205 : zLV RX11 205 yX11_aimSettings := ⟨zl_X11_205, zinst_X11_aimSettings, zsel_X11_aimSettings, zini_X11⟩
theorem zl_X11_264 : Cond.methodLink RX11 264 yX8_forgetParts ∈ zT := zwm_13 _ (List.mem_of_getElem? (i := 3) rfl)
theorem zLV_X11_264 : zLV RX11 264 yX8_forgetParts := ⟨zl_X11_264, zinst_X8_forgetParts, zsel_X8_forgetParts, zini_X8⟩
theorem zl_X11_273 : Cond.methodLink RX11 273 yX8_allow ∈ zT := zwm_13 _ (List.mem_of_getElem? (i := 7) rfl)
theorem zLV_X11_273 : zLV RX11 273 yX8_allow := ⟨zl_X11_273, zinst_X8_allow, zsel_X8_allow, zini_X8⟩
theorem zl_X11_277 : Cond.methodLink RX11 277 yX8_aimAt ∈ zT := zwm_13 _ (List.mem_of_getElem? (i := 11) rfl)
theorem zLV_X11_277 : zLV RX11 277 yX8_aimAt := ⟨zl_X11_277, zinst_X8_aimAt, zsel_X8_aimAt, zini_X8⟩
theorem zl_X8_27 : Cond.methodLink RX8 27 yX8_measure ∈ zT := zwm_13 _ (List.mem_of_getElem? (i := 15) rfl)
theorem zLV_X8_27 : zLV RX8 27 yX8_measure := ⟨zl_X8_27, zinst_X8_measure, zsel_X8_measure, zini_X8⟩
theorem zl_X8_31 : Cond.methodLink RX8 31 yX8_reachBack ∈ zT := zwm_13 _ (List.mem_of_getElem? (i := 18) rfl)
theorem zLV_X8_31 : zLV RX8 31 yX8_reachBack := ⟨zl_X8_31, zinst_X8_reachBack, zsel_X8_reachBack, zini_X8⟩
theorem zl_X11_208 : Cond.methodLink RX11 208 yX8_fewestToGoal ∈ zT := zwm_13 _ (List.mem_of_getElem? (i := 21) rfl)
theorem zLV_X11_208 : zLV RX11 208 yX8_fewestToGoal := ⟨zl_X11_208, zinst_X8_fewestToGoal, zsel_X8_fewestToGoal, zini_X8⟩
theorem zl_L_87 : Cond.methodLink RL 87 yX11_setting ∈ zT := zwm_13 _ (List.mem_of_getElem? (i := 25) rfl)
theorem zLV_L_87 : zLV RL 87 yX11_setting := ⟨zl_L_87, zinst_X11_setting, zsel_X11_setting, zini_X11⟩
theorem zl_X11_211 : Cond.methodLink RX11 211 yX8_codeAt ∈ zT := zwm_13 _ (List.mem_of_getElem? (i := 29) rfl)
theorem zLV_X11_211 : zLV RX11 211 yX8_codeAt := ⟨zl_X11_211, zinst_X8_codeAt, zsel_X8_codeAt, zini_X8⟩
theorem zl_X8_34 : Cond.methodLink RX8 34 yX8_fewestToGoal ∈ zT := zwm_13 _ (List.mem_of_getElem? (i := 33) rfl)
theorem zLV_X8_34 : zLV RX8 34 yX8_fewestToGoal := ⟨zl_X8_34, zinst_X8_fewestToGoal, zsel_X8_fewestToGoal, zini_X8⟩
theorem zl_X8_38 : Cond.methodLink RX8 38 yX8_makeFirst ∈ zT := zwm_13 _ (List.mem_of_getElem? (i := 34) rfl)
theorem zLV_X8_38 : zLV RX8 38 yX8_makeFirst := ⟨zl_X8_38, zinst_X8_makeFirst, zsel_X8_makeFirst, zini_X8⟩
theorem zl_X8_41 : Cond.methodLink RX8 41 yX8_isNearer ∈ zT := zwm_13 _ (List.mem_of_getElem? (i := 37) rfl)
theorem zLV_X8_41 : zLV RX8 41 yX8_isNearer := ⟨zl_X8_41, zinst_X8_isNearer, zsel_X8_isNearer, zini_X8⟩
theorem zl_L_91 : Cond.methodLink RL 91 yX11_cut ∈ zT := zwm_14 _ (List.mem_of_getElem? (i := 0) rfl)
theorem zLV_L_91 : zLV RL 91 yX11_cut := ⟨zl_L_91, zinst_X11_cut, zsel_X11_cut, zini_X11⟩
theorem zl_X11_214 : Cond.methodLink RX11 214 yX11_isStrip ∈ zT := zwm_14 _ (List.mem_of_getElem? (i := 4) rfl)
theorem zLS_X11_214 : zLS RX11 214 yX11_isStrip := ⟨zl_X11_214, zstat_X11_isStrip, zini_X11⟩
theorem zl_X11_221 : Cond.methodLink RX11 221 yX6_last ∈ zT := zwm_14 _ (List.mem_of_getElem? (i := 7) rfl)
theorem zLV_X11_221 : zLV RX11 221 yX6_last := ⟨zl_X11_221, zinst_X6_last, zsel_X6_last, zini_X6⟩
theorem zl_L_95 : Cond.methodLink RL 95 yX11_wipe ∈ zT := zwm_14 _ (List.mem_of_getElem? (i := 11) rfl)
theorem zLV_L_95 : zLV RL 95 yX11_wipe := ⟨zl_L_95, zinst_X11_wipe, zsel_X11_wipe, zini_X11⟩
theorem zl_L_99 : Cond.methodLink RL 99 yX11_chosen ∈ zT := zwm_14 _ (List.mem_of_getElem? (i := 15) rfl)
theorem zLV_L_99 : zLV RL 99 yX11_chosen := ⟨zl_L_99, zinst_X11_chosen, zsel_X11_chosen, zini_X11⟩
theorem zl_X11_225 : Cond.methodLink RX11 225 yX9_choose ∈ zT := zwm_14 _ (List.mem_of_getElem? (i := 19) rfl)
theorem zLV_X11_225 : zLV RX11 225 yX9_choose := ⟨zl_X11_225, zinst_X9_choose, zsel_X9_choose, zini_X9⟩
theorem zl_L_103 : Cond.methodLink RL 103 yX11_match ∈ zT := zwm_14 _ (List.mem_of_getElem? (i := 23) rfl)
theorem zLV_L_103 : zLV RL 103 yX11_match := ⟨zl_L_103, zinst_X11_match, zsel_X11_match, zini_X11⟩
theorem zl_X11_229 : Cond.methodLink RX11 229 yX3_find ∈ zT := zwm_14 _ (List.mem_of_getElem? (i := 27) rfl)
theorem zLV_X11_229 : zLV RX11 229 yX3_find := ⟨zl_X11_229, zinst_X3_find, zsel_X3_find, zini_X3⟩
theorem zl_X3_21 : Cond.methodLink RX3 21 yJ9_min_7cf53 ∈ zT := zwm_14 _ (List.mem_of_getElem? (i := 31) rfl)
theorem zLS_X3_21 : zLS RX3 21 yJ9_min_7cf53 := ⟨zl_X3_21, zstat_J9_min_7cf53, zini_J9⟩
theorem zl_X3_31 : Cond.methodLink RX3 31 yX3_alike ∈ zT := zwm_14 _ (List.mem_of_getElem? (i := 32) rfl)
theorem zLS_X3_31 : zLS RX3 31 yX3_alike := ⟨zl_X3_31, zstat_X3_alike, zini_X3⟩
theorem zl_X3_35 : Cond.methodLink RX3 35 yX3_weigh ∈ zT := zwm_14 _ (List.mem_of_getElem? (i := 35) rfl)
theorem zLV_X3_35 : zLV RX3 35 yX3_weigh := ⟨zl_X3_35, zinst_X3_weigh, zsel_X3_weigh, zini_X3⟩
theorem zl_X3_39 : Cond.methodLink RX3 39 yJ9_abs_0f7a4 ∈ zT := zwm_14 _ (List.mem_of_getElem? (i := 38) rfl)
theorem zLS_X3_39 : zLS RX3 39 yJ9_abs_0f7a4 := ⟨zl_X3_39, zstat_J9_abs_0f7a4, zini_J9⟩
theorem zl_L_107 : Cond.methodLink RL 107 yX11_law ∈ zT := zwm_14 _ (List.mem_of_getElem? (i := 39) rfl)
theorem zLV_L_107 : zLV RL 107 yX11_law := ⟨zl_L_107, zinst_X11_law, zsel_X11_law, zini_X11⟩
theorem zl_X11_237 : Cond.methodLink RX11 237 yX1_isLaw ∈ zT := zwm_15 _ (List.mem_of_getElem? (i := 3) rfl)
theorem zLS_X11_237 : zLS RX11 237 yX1_isLaw := ⟨zl_X11_237, zstat_X1_isLaw, zini_X1⟩
theorem zl_X11_240 : Cond.methodLink RX11 240 yX1_placeOf ∈ zT := zwm_15 _ (List.mem_of_getElem? (i := 6) rfl)
theorem zLS_X11_240 : zLS RX11 240 yX1_placeOf := ⟨zl_X11_240, zstat_X1_placeOf, zini_X1⟩
theorem zl_X1_16 : Cond.methodLink RX1 16 yX1_inOrder ∈ zT := zwm_15 _ (List.mem_of_getElem? (i := 9) rfl)
theorem zLS_X1_16 : zLS RX1 16 yX1_inOrder := ⟨zl_X1_16, zstat_X1_inOrder, zini_X1⟩
theorem zl_X1_20 : Cond.methodLink RX1 20 yX1_numberOf ∈ zT := zwm_15 _ (List.mem_of_getElem? (i := 12) rfl)
theorem zLS_X1_20 : zLS RX1 20 yX1_numberOf := ⟨zl_X1_20, zstat_X1_numberOf, zini_X1⟩
theorem zl_L_111 : Cond.methodLink RL 111 yX11_doubled ∈ zT := zwm_15 _ (List.mem_of_getElem? (i := 17) rfl)
theorem zLV_L_111 : zLV RL 111 yX11_doubled := ⟨zl_L_111, zinst_X11_doubled, zsel_X11_doubled, zini_X11⟩
theorem zl_X11_243 : Cond.methodLink RX11 243 yX1_doublesOf ∈ zT := zwm_15 _ (List.mem_of_getElem? (i := 21) rfl)
theorem zLV_X11_243 : zLV RX11 243 yX1_doublesOf := ⟨zl_X11_243, zinst_X1_doublesOf, zsel_X1_doublesOf, zini_X1⟩
theorem zl_X1_24 : Cond.methodLink RX1 24 yX1_placeOf ∈ zT := zwm_15 _ (List.mem_of_getElem? (i := 25) rfl)
theorem zLS_X1_24 : zLS RX1 24 yX1_placeOf := ⟨zl_X1_24, zstat_X1_placeOf, zini_X1⟩
theorem zl_X1_28 : Cond.methodLink RX1 28 yX1_doublesFrom ∈ zT := zwm_15 _ (List.mem_of_getElem? (i := 26) rfl)
theorem zLV_X1_28 : zLV RX1 28 yX1_doublesFrom := ⟨zl_X1_28, zinst_X1_doublesFrom, zsel_X1_doublesFrom, zini_X1⟩
theorem zl_L_115 : Cond.methodLink RL 115 yX11_count ∈ zT := zwm_15 _ (List.mem_of_getElem? (i := 29) rfl)
theorem zLV_L_115 : zLV RL 115 yX11_count := ⟨zl_L_115, zinst_X11_count, zsel_X11_count, zini_X11⟩
theorem zl_X11_246 : Cond.methodLink RX11 246 yX11_scalesOnSlide ∈ zT := zwm_15 _ (List.mem_of_getElem? (i := 33) rfl)
theorem zLV_X11_246 : zLV RX11 246 yX11_scalesOnSlide := ⟨zl_X11_246, zinst_X11_scalesOnSlide, zsel_X11_scalesOnSlide, zini_X11⟩
theorem zl_L_119 : Cond.methodLink RL 119 yX11_digest ∈ zT := zwm_15 _ (List.mem_of_getElem? (i := 36) rfl)
theorem zLV_L_119 : zLV RL 119 yX11_digest := ⟨zl_L_119, zinst_X11_digest, zsel_X11_digest, zini_X11⟩
theorem zl_X11_253 : Cond.methodLink RX11 253 yX11_count ∈ zT := zwm_16 _ (List.mem_of_getElem? (i := 2) rfl)
theorem zLV_X11_253 : zLV RX11 253 yX11_count := ⟨zl_X11_253, zinst_X11_count, zsel_X11_count, zini_X11⟩
theorem zl_X11_256 : Cond.methodLink RX11 256 yX7_digestOnto ∈ zT := zwm_16 _ (List.mem_of_getElem? (i := 3) rfl)
theorem zLV_X11_256 : zLV RX11 256 yX7_digestOnto := ⟨zl_X11_256, zinst_X7_digestOnto, zsel_X7_digestOnto, zini_X7⟩
theorem zl_X11_260 : Cond.methodLink RX11 260 yX11_place ∈ zT := zwm_16 _ (List.mem_of_getElem? (i := 8) rfl)
theorem zLV_X11_260 : zLV RX11 260 yX11_place := ⟨zl_X11_260, zinst_X11_place, zsel_X11_place, zini_X11⟩
theorem zl_X11_262 : Cond.methodLink RX11 262 yX6_digestOnto ∈ zT := zwm_16 _ (List.mem_of_getElem? (i := 9) rfl)
theorem zLV_X11_262 : zLV RX11 262 yX6_digestOnto := ⟨zl_X11_262, zinst_X6_digestOnto, zsel_X6_digestOnto, zini_X6⟩
theorem zl_L_12 : Cond.methodLink RL 12 yX12_init ∈ zT := zwm_16 _ (List.mem_of_getElem? (i := 16) rfl)
theorem zLI_L_12 : zLI RL 12 yX12_init := ⟨zl_L_12, zinst_X12_init, zini_X12⟩
theorem zl_X12_91 : Cond.methodLink RX12 91 yX12_natural ∈ zT := zwm_16 _ (List.mem_of_getElem? (i := 22) rfl)
theorem zLV_X12_91 : zLV RX12 91 yX12_natural := ⟨zl_X12_91, zinst_X12_natural, zsel_X12_natural, zini_X12⟩
theorem zl_X12_107 : Cond.methodLink RX12 107 yX12_sets ∈ zT := zwm_16 _ (List.mem_of_getElem? (i := 25) rfl)
theorem zLS_X12_107 : zLS RX12 107 yX12_sets := ⟨zl_X12_107, zstat_X12_sets, zini_X12⟩
theorem zl_X12_111 : Cond.methodLink RX12 111 yX12_divides ∈ zT := zwm_16 _ (List.mem_of_getElem? (i := 28) rfl)
theorem zLS_X12_111 : zLS RX12 111 yX12_divides := ⟨zl_X12_111, zstat_X12_divides, zini_X12⟩
theorem zl_X12_114 : Cond.methodLink RX12 114 yX12_isNought ∈ zT := zwm_16 _ (List.mem_of_getElem? (i := 32) rfl)
theorem zLS_X12_114 : zLS RX12 114 yX12_isNought := ⟨zl_X12_114, zstat_X12_isNought, zini_X12⟩
theorem zl_X12_118 : Cond.methodLink RX12 118 yX12_copies ∈ zT := zwm_16 _ (List.mem_of_getElem? (i := 35) rfl)
theorem zLS_X12_118 : zLS RX12 118 yX12_copies := ⟨zl_X12_118, zstat_X12_copies, zini_X12⟩
theorem zl_X12_99 : Cond.methodLink RX12 99 yX12_adds ∈ zT := zwm_16 _ (List.mem_of_getElem? (i := 38) rfl)
theorem zLS_X12_99 : zLS RX12 99 yX12_adds := ⟨zl_X12_99, zstat_X12_adds, zini_X12⟩
theorem zl_X12_121 : Cond.methodLink RX12 121 yX12_times ∈ zT := zwm_17 _ (List.mem_of_getElem? (i := 1) rfl)
theorem zLS_X12_121 : zLS RX12 121 yX12_times := ⟨zl_X12_121, zstat_X12_times, zini_X12⟩
theorem zl_L_17 : Cond.methodLink RL 17 yX12_rule ∈ zT := zwm_18 _ (List.mem_of_getElem? (i := 27) rfl)
theorem zLV_L_17 : zLV RL 17 yX12_rule := ⟨zl_L_17, zinst_X12_rule, zsel_X12_rule, zini_X12⟩
theorem zl_X12_163 : Cond.methodLink RX12 163 yX12_in ∈ zT := zwm_18 _ (List.mem_of_getElem? (i := 33) rfl)
theorem zLS_X12_163 : zLS RX12 163 yX12_in := ⟨zl_X12_163, zstat_X12_in, zini_X12⟩
theorem zl_L_22 : Cond.methodLink RL 22 yX12_scale ∈ zT := zwm_18 _ (List.mem_of_getElem? (i := 36) rfl)
theorem zLV_L_22 : zLV RL 22 yX12_scale := ⟨zl_L_22, zinst_X12_scale, zsel_X12_scale, zini_X12⟩
theorem zl_L_27 : Cond.methodLink RL 27 yX12_place ∈ zT := zwm_19 _ (List.mem_of_getElem? (i := 3) rfl)
theorem zLV_L_27 : zLV RL 27 yX12_place := ⟨zl_L_27, zinst_X12_place, zsel_X12_place, zini_X12⟩
theorem zl_X12_175 : Cond.methodLink RX12 175 yX12_isScale ∈ zT := zwm_19 _ (List.mem_of_getElem? (i := 7) rfl)
theorem zLV_X12_175 : zLV RX12 175 yX12_isScale := ⟨zl_X12_175, zinst_X12_isScale, zsel_X12_isScale, zini_X12⟩
theorem zl_X12_179 : Cond.methodLink RX12 179 yX12_isNumber ∈ zT := zwm_19 _ (List.mem_of_getElem? (i := 10) rfl)
theorem zLS_X12_179 : zLS RX12 179 yX12_isNumber := ⟨zl_X12_179, zstat_X12_isNumber, zini_X12⟩
theorem zl_X12_182 : Cond.methodLink RX12 182 yX12_placeOf ∈ zT := zwm_19 _ (List.mem_of_getElem? (i := 14) rfl)
theorem zLV_X12_182 : zLV RX12 182 yX12_placeOf := ⟨zl_X12_182, zinst_X12_placeOf, zsel_X12_placeOf, zini_X12⟩
theorem zl_X12_151 : Cond.methodLink RX12 151 yX12_nearestOf ∈ zT := zwm_19 _ (List.mem_of_getElem? (i := 19) rfl)
theorem zLV_X12_151 : zLV RX12 151 yX12_nearestOf := ⟨zl_X12_151, zinst_X12_nearestOf, zsel_X12_nearestOf, zini_X12⟩
theorem zl_X12_126 : Cond.methodLink RX12 126 yX12_tens ∈ zT := zwm_19 _ (List.mem_of_getElem? (i := 22) rfl)
theorem zLS_X12_126 : zLS RX12 126 yX12_tens := ⟨zl_X12_126, zstat_X12_tens, zini_X12⟩
theorem zl_X12_130 : Cond.methodLink RX12 130 yX12_down ∈ zT := zwm_19 _ (List.mem_of_getElem? (i := 25) rfl)
theorem zLS_X12_130 : zLS RX12 130 yX12_down := ⟨zl_X12_130, zstat_X12_down, zini_X12⟩
theorem zl_X12_134 : Cond.methodLink RX12 134 yX12_logOf ∈ zT := zwm_19 _ (List.mem_of_getElem? (i := 28) rfl)
theorem zLV_X12_134 : zLV RX12 134 yX12_logOf := ⟨zl_X12_134, zinst_X12_logOf, zsel_X12_logOf, zini_X12⟩
theorem zl_X12_142 : Cond.methodLink RX12 142 yX12_takes ∈ zT := zwm_19 _ (List.mem_of_getElem? (i := 33) rfl)
theorem zLS_X12_142 : zLS RX12 142 yX12_takes := ⟨zl_X12_142, zstat_X12_takes, zini_X12⟩
theorem zl_X12_145 : Cond.methodLink RX12 145 yX12_isLess ∈ zT := zwm_19 _ (List.mem_of_getElem? (i := 36) rfl)
theorem zLS_X12_145 : zLS RX12 145 yX12_isLess := ⟨zl_X12_145, zstat_X12_isLess, zini_X12⟩
theorem zl_L_32 : Cond.methodLink RL 32 yX12_span ∈ zT := zwm_20 _ (List.mem_of_getElem? (i := 0) rfl)
theorem zLV_L_32 : zLV RL 32 yX12_span := ⟨zl_L_32, zinst_X12_span, zsel_X12_span, zini_X12⟩
theorem zl_X12_193 : Cond.methodLink RX12 193 yX12_marksOf ∈ zT := zwm_20 _ (List.mem_of_getElem? (i := 5) rfl)
theorem zLV_X12_193 : zLV RX12 193 yX12_marksOf := ⟨zl_X12_193, zinst_X12_marksOf, zsel_X12_marksOf, zini_X12⟩
theorem zl_X12_187 : Cond.methodLink RX12 187 yX12_spanMarks ∈ zT := zwm_20 _ (List.mem_of_getElem? (i := 8) rfl)
theorem zLV_X12_187 : zLV RX12 187 yX12_spanMarks := ⟨zl_X12_187, zinst_X12_spanMarks, zsel_X12_spanMarks, zini_X12⟩
theorem zl_L_36 : Cond.methodLink RL 36 yX12_mark ∈ zT := zwm_20 _ (List.mem_of_getElem? (i := 11) rfl)
theorem zLV_L_36 : zLV RL 36 yX12_mark := ⟨zl_L_36, zinst_X12_mark, zsel_X12_mark, zini_X12⟩
theorem zl_X12_196 : Cond.methodLink RX12 196 yX12_markOf ∈ zT := zwm_20 _ (List.mem_of_getElem? (i := 15) rfl)
theorem zLV_X12_196 : zLV RX12 196 yX12_markOf := ⟨zl_X12_196, zinst_X12_markOf, zsel_X12_markOf, zini_X12⟩
theorem zl_L_40 : Cond.methodLink RL 40 yX12_marks ∈ zT := zwm_20 _ (List.mem_of_getElem? (i := 18) rfl)
theorem zLV_L_40 : zLV RL 40 yX12_marks := ⟨zl_L_40, zinst_X12_marks, zsel_X12_marks, zini_X12⟩
theorem zl_L_44 : Cond.methodLink RL 44 yX12_closest ∈ zT := zwm_20 _ (List.mem_of_getElem? (i := 22) rfl)
theorem zLV_L_44 : zLV RL 44 yX12_closest := ⟨zl_L_44, zinst_X12_closest, zsel_X12_closest, zini_X12⟩
theorem zl_X12_199 : Cond.methodLink RX12 199 yX12_size ∈ zT := zwm_20 _ (List.mem_of_getElem? (i := 26) rfl)
theorem zLS_X12_199 : zLS RX12 199 yX12_size := ⟨zl_X12_199, zstat_X12_size, zini_X12⟩
theorem zl_L_48 : Cond.methodLink RL 48 yX12_off ∈ zT := zwm_20 _ (List.mem_of_getElem? (i := 29) rfl)
theorem zLV_L_48 : zLV RL 48 yX12_off := ⟨zl_L_48, zinst_X12_off, zsel_X12_off, zini_X12⟩
theorem zl_L_52 : Cond.methodLink RL 52 yX12_set ∈ zT := zwm_20 _ (List.mem_of_getElem? (i := 35) rfl)
theorem zLV_L_52 : zLV RL 52 yX12_set := ⟨zl_L_52, zinst_X12_set, zsel_X12_set, zini_X12⟩
theorem zl_L_57 : Cond.methodLink RL 57 yX12_against ∈ zT := zwm_20 _ (List.mem_of_getElem? (i := 39) rfl)
theorem zLV_L_57 : zLV RL 57 yX12_against := ⟨zl_L_57, zinst_X12_against, zsel_X12_against, zini_X12⟩
theorem zl_L_61 : Cond.methodLink RL 61 yX12_nearest ∈ zT := zwm_21 _ (List.mem_of_getElem? (i := 3) rfl)
theorem zLV_L_61 : zLV RL 61 yX12_nearest := ⟨zl_L_61, zinst_X12_nearest, zsel_X12_nearest, zini_X12⟩
theorem zl_X12_213 : Cond.methodLink RX12 213 yX12_isPlace ∈ zT := zwm_21 _ (List.mem_of_getElem? (i := 7) rfl)
theorem zLS_X12_213 : zLS RX12 213 yX12_isPlace := ⟨zl_X12_213, zstat_X12_isPlace, zini_X12⟩
theorem zl_L_65 : Cond.methodLink RL 65 yX12_between ∈ zT := zwm_21 _ (List.mem_of_getElem? (i := 12) rfl)
theorem zLV_L_65 : zLV RL 65 yX12_between := ⟨zl_L_65, zinst_X12_between, zsel_X12_between, zini_X12⟩
theorem zl_L_69 : Cond.methodLink RL 69 yX12_factor ∈ zT := zwm_21 _ (List.mem_of_getElem? (i := 16) rfl)
theorem zLV_L_69 : zLV RL 69 yX12_factor := ⟨zl_L_69, zinst_X12_factor, zsel_X12_factor, zini_X12⟩
theorem zl_L_74 : Cond.methodLink RL 74 yX12_clear ∈ zT := zwm_21 _ (List.mem_of_getElem? (i := 21) rfl)
theorem zLV_L_74 : zLV RL 74 yX12_clear := ⟨zl_L_74, zinst_X12_clear, zsel_X12_clear, zini_X12⟩
theorem zl_L_78 : Cond.methodLink RL 78 yX12_chain ∈ zT := zwm_21 _ (List.mem_of_getElem? (i := 25) rfl)
theorem zLV_L_78 : zLV RL 78 yX12_chain := ⟨zl_L_78, zinst_X12_chain, zsel_X12_chain, zini_X12⟩
theorem zl_X12_227 : Cond.methodLink RX12 227 yX12_plainOf ∈ zT := zwm_21 _ (List.mem_of_getElem? (i := 29) rfl)
theorem zLV_X12_227 : zLV RX12 227 yX12_plainOf := ⟨zl_X12_227, zinst_X12_plainOf, zsel_X12_plainOf, zini_X12⟩
theorem zl_X12_224 : Cond.methodLink RX12 224 yX12_plain ∈ zT := zwm_21 _ (List.mem_of_getElem? (i := 32) rfl)
theorem zLV_X12_224 : zLV RX12 224 yX12_plain := ⟨zl_X12_224, zinst_X12_plain, zsel_X12_plain, zini_X12⟩
theorem zl_X12_232 : Cond.methodLink RX12 232 yX12_reading ∈ zT := zwm_21 _ (List.mem_of_getElem? (i := 35) rfl)
theorem zLV_X12_232 : zLV RX12 232 yX12_reading := ⟨zl_X12_232, zinst_X12_reading, zsel_X12_reading, zini_X12⟩
theorem zl_X12_235 : Cond.methodLink RX12 235 yX12_truth ∈ zT := zwm_21 _ (List.mem_of_getElem? (i := 38) rfl)
theorem zLV_X12_235 : zLV RX12 235 yX12_truth := ⟨zl_X12_235, zinst_X12_truth, zsel_X12_truth, zini_X12⟩
theorem zl_L_82 : Cond.methodLink RL 82 yX12_pairs ∈ zT := zwm_22 _ (List.mem_of_getElem? (i := 2) rfl)
theorem zLV_L_82 : zLV RL 82 yX12_pairs := ⟨zl_L_82, zinst_X12_pairs, zsel_X12_pairs, zini_X12⟩
theorem zl_L_86 : Cond.methodLink RL 86 yX12_fewest ∈ zT := zwm_22 _ (List.mem_of_getElem? (i := 6) rfl)
theorem zLV_L_86 : zLV RL 86 yX12_fewest := ⟨zl_L_86, zinst_X12_fewest, zsel_X12_fewest, zini_X12⟩
theorem zl_X12_249 : Cond.methodLink RX12 249 yX12_isPower ∈ zT := zwm_22 _ (List.mem_of_getElem? (i := 10) rfl)
theorem zLS_X12_249 : zLS RX12 249 yX12_isPower := ⟨zl_X12_249, zstat_X12_isPower, zini_X12⟩
theorem zl_X12_252 : Cond.methodLink RX12 252 yX12_spreads ∈ zT := zwm_22 _ (List.mem_of_getElem? (i := 15) rfl)
theorem zLV_X12_252 : zLV RX12 252 yX12_spreads := ⟨zl_X12_252, zinst_X12_spreads, zsel_X12_spreads, zini_X12⟩
theorem zl_X12_241 : Cond.methodLink RX12 241 yX12_lets ∈ zT := zwm_22 _ (List.mem_of_getElem? (i := 19) rfl)
theorem zLV_X12_241 : zLV RX12 241 yX12_lets := ⟨zl_X12_241, zinst_X12_lets, zsel_X12_lets, zini_X12⟩
theorem zl_X12_255 : Cond.methodLink RX12 255 yX12_leastTo ∈ zT := zwm_22 _ (List.mem_of_getElem? (i := 22) rfl)
theorem zLV_X12_255 : zLV RX12 255 yX12_leastTo := ⟨zl_X12_255, zinst_X12_leastTo, zsel_X12_leastTo, zini_X12⟩
theorem zl_L_90 : Cond.methodLink RL 90 yX12_setting ∈ zT := zwm_22 _ (List.mem_of_getElem? (i := 25) rfl)
theorem zLV_L_90 : zLV RL 90 yX12_setting := ⟨zl_L_90, zinst_X12_setting, zsel_X12_setting, zini_X12⟩
theorem zl_L_94 : Cond.methodLink RL 94 yX12_cut ∈ zT := zwm_22 _ (List.mem_of_getElem? (i := 29) rfl)
theorem zLV_L_94 : zLV RL 94 yX12_cut := ⟨zl_L_94, zinst_X12_cut, zsel_X12_cut, zini_X12⟩
theorem zl_X12_259 : Cond.methodLink RX12 259 yX12_isStrip ∈ zT := zwm_22 _ (List.mem_of_getElem? (i := 33) rfl)
theorem zLS_X12_259 : zLS RX12 259 yX12_isStrip := ⟨zl_X12_259, zstat_X12_isStrip, zini_X12⟩
theorem zl_L_98 : Cond.methodLink RL 98 yX12_wipe ∈ zT := zwm_22 _ (List.mem_of_getElem? (i := 36) rfl)
theorem zLV_L_98 : zLV RL 98 yX12_wipe := ⟨zl_L_98, zinst_X12_wipe, zsel_X12_wipe, zini_X12⟩
theorem zl_L_102 : Cond.methodLink RL 102 yX12_chosen ∈ zT := zwm_23 _ (List.mem_of_getElem? (i := 0) rfl)
theorem zLV_L_102 : zLV RL 102 yX12_chosen := ⟨zl_L_102, zinst_X12_chosen, zsel_X12_chosen, zini_X12⟩
theorem zl_L_106 : Cond.methodLink RL 106 yX12_match ∈ zT := zwm_23 _ (List.mem_of_getElem? (i := 4) rfl)
theorem zLV_L_106 : zLV RL 106 yX12_match := ⟨zl_L_106, zinst_X12_match, zsel_X12_match, zini_X12⟩
theorem zl_X12_262 : Cond.methodLink RX12 262 yX12_has ∈ zT := zwm_23 _ (List.mem_of_getElem? (i := 8) rfl)
theorem zLV_X12_262 : zLV RX12 262 yX12_has := ⟨zl_X12_262, zinst_X12_has, zsel_X12_has, zini_X12⟩
theorem zl_L_110 : Cond.methodLink RL 110 yX12_law ∈ zT := zwm_23 _ (List.mem_of_getElem? (i := 11) rfl)
theorem zLV_L_110 : zLV RL 110 yX12_law := ⟨zl_L_110, zinst_X12_law, zsel_X12_law, zini_X12⟩
theorem zl_X12_271 : Cond.methodLink RX12 271 yX12_lawPlace ∈ zT := zwm_23 _ (List.mem_of_getElem? (i := 16) rfl)
theorem zLV_X12_271 : zLV RX12 271 yX12_lawPlace := ⟨zl_X12_271, zinst_X12_lawPlace, zsel_X12_lawPlace, zini_X12⟩
theorem zl_X12_265 : Cond.methodLink RX12 265 yX12_numberOf ∈ zT := zwm_23 _ (List.mem_of_getElem? (i := 19) rfl)
theorem zLS_X12_265 : zLS RX12 265 yX12_numberOf := ⟨zl_X12_265, zstat_X12_numberOf, zini_X12⟩
theorem zl_L_114 : Cond.methodLink RL 114 yX12_doubled ∈ zT := zwm_23 _ (List.mem_of_getElem? (i := 22) rfl)
theorem zLV_L_114 : zLV RL 114 yX12_doubled := ⟨zl_L_114, zinst_X12_doubled, zsel_X12_doubled, zini_X12⟩
theorem zl_L_118 : Cond.methodLink RL 118 yX12_count ∈ zT := zwm_23 _ (List.mem_of_getElem? (i := 26) rfl)
theorem zLV_L_118 : zLV RL 118 yX12_count := ⟨zl_L_118, zinst_X12_count, zsel_X12_count, zini_X12⟩
theorem zl_L_123 : Cond.methodLink RL 123 yX12_digest ∈ zT := zwm_23 _ (List.mem_of_getElem? (i := 30) rfl)
theorem zLV_L_123 : zLV RL 123 yX12_digest := ⟨zl_L_123, zinst_X12_digest, zsel_X12_digest, zini_X12⟩
theorem zl_X12_278 : Cond.methodLink RX12 278 yX12_count ∈ zT := zwm_23 _ (List.mem_of_getElem? (i := 36) rfl)
theorem zLV_X12_278 : zLV RX12 278 yX12_count := ⟨zl_X12_278, zinst_X12_count, zsel_X12_count, zini_X12⟩
def zNest : List (String × Nat × MethodName × String) := [(RX2, 18, yX10_init, "SlideRules"), (RX11, 18, yX5_init, "SlideRules"), (RX11, 31, yX0_init, "SlideRules"), (RX11, 38, yX4_init, "SlideRules"), (RX4, 44, yX0_init, "SlideRules"), (RX11, 45, yX8_init, "SlideRules"), (RX11, 58, yX3_init, "SlideRules"), (RX11, 65, yX1_init, "SlideRules"), (RX11, 80, yX9_init, "SlideRules"), (RX5, 25, yX11_isFactor, "SlideRules")]
theorem zNest_in : ∀ q ∈ zNest, Cond.methodLinkNest q.1 q.2.1 q.2.2.1 q.2.2.2 ∈ lw_tbl := by
  intro q hq
  simp only [zNest, List.mem_cons, List.not_mem_nil, or_false] at hq
  rcases hq with rfl | rfl | rfl | rfl | rfl | rfl | rfl | rfl | rfl | rfl
  · exact List.mem_of_getElem? (i := 62) (by decide +kernel)
  · exact List.mem_of_getElem? (i := 117) (by decide +kernel)
  · exact List.mem_of_getElem? (i := 135) (by decide +kernel)
  · exact List.mem_of_getElem? (i := 184) (by decide +kernel)
  · exact List.mem_of_getElem? (i := 189) (by decide +kernel)
  · exact List.mem_of_getElem? (i := 232) (by decide +kernel)
  · exact List.mem_of_getElem? (i := 256) (by decide +kernel)
  · exact List.mem_of_getElem? (i := 271) (by decide +kernel)
  · exact List.mem_of_getElem? (i := 280) (by decide +kernel)
  · exact List.mem_of_getElem? (i := 562) (by decide +kernel)
theorem zNe_X2_18 : (RX2, 18, yX10_init, "SlideRules") ∈ zNest := List.mem_of_getElem? (i := 0) rfl
theorem zNe_X11_18 : (RX11, 18, yX5_init, "SlideRules") ∈ zNest := List.mem_of_getElem? (i := 1) rfl
theorem zNe_X11_31 : (RX11, 31, yX0_init, "SlideRules") ∈ zNest := List.mem_of_getElem? (i := 2) rfl
theorem zNe_X11_38 : (RX11, 38, yX4_init, "SlideRules") ∈ zNest := List.mem_of_getElem? (i := 3) rfl
theorem zNe_X4_44 : (RX4, 44, yX0_init, "SlideRules") ∈ zNest := List.mem_of_getElem? (i := 4) rfl
theorem zNe_X11_45 : (RX11, 45, yX8_init, "SlideRules") ∈ zNest := List.mem_of_getElem? (i := 5) rfl
theorem zNe_X11_58 : (RX11, 58, yX3_init, "SlideRules") ∈ zNest := List.mem_of_getElem? (i := 6) rfl
theorem zNe_X11_65 : (RX11, 65, yX1_init, "SlideRules") ∈ zNest := List.mem_of_getElem? (i := 7) rfl
theorem zNe_X11_80 : (RX11, 80, yX9_init, "SlideRules") ∈ zNest := List.mem_of_getElem? (i := 8) rfl
theorem zNe_X5_25 : (RX5, 25, yX11_isFactor, "SlideRules") ∈ zNest := List.mem_of_getElem? (i := 9) rfl
theorem zcl_L_7 : Cond.classLink RL 7 RX11 ∈ zT := zwm_1 _ (List.mem_of_getElem? (i := 6) rfl)
theorem zis_X11 : Cond.instantiable RX11 12 ∈ zT := zwm_1 _ (List.mem_of_getElem? (i := 7) rfl)
theorem zob_X11_1 : Cond.methodLink RX11 1 objectInit ∈ zT := zwm_1 _ (List.mem_of_getElem? (i := 11) rfl)
theorem zcl_X11_7 : Cond.classLink RX11 7 RX2 ∈ zT := zwm_1 _ (List.mem_of_getElem? (i := 14) rfl)
theorem zis_X2 : Cond.instantiable RX2 5 ∈ zT := zwm_1 _ (List.mem_of_getElem? (i := 15) rfl)
theorem zob_X2_1 : Cond.methodLink RX2 1 objectInit ∈ zT := zwm_1 _ (List.mem_of_getElem? (i := 19) rfl)
theorem zcl_X2_16 : Cond.classLink RX2 16 RX10 ∈ zT := zwm_1 _ (List.mem_of_getElem? (i := 20) rfl)
theorem zis_X10 : Cond.instantiable RX10 2 ∈ zT := zwm_1 _ (List.mem_of_getElem? (i := 21) rfl)
theorem zob_X10_3 : Cond.methodLink RX10 3 objectInit ∈ zT := zwm_1 _ (List.mem_of_getElem? (i := 24) rfl)
theorem zar_J : Cond.arrayClass FieldType.long ∈ zT := zwm_1 _ (List.mem_of_getElem? (i := 31) rfl)
theorem zK_X2_40 : Cond.constantLong RX2 40 (15280378647410) ∈ zT := zwm_1 _ (List.mem_of_getElem? (i := 35) rfl)
theorem zK_X2_42 : Cond.constantLong RX2 42 (9283927628714) ∈ zT := zwm_1 _ (List.mem_of_getElem? (i := 36) rfl)
theorem zK_X10_16 : Cond.constantLong RX10 16 (17592186044415) ∈ zT := zwm_2 _ (List.mem_of_getElem? (i := 5) rfl)
theorem zcl_X11_16 : Cond.classLink RX11 16 RX5 ∈ zT := zwm_2 _ (List.mem_of_getElem? (i := 24) rfl)
theorem zis_X5 : Cond.instantiable RX5 2 ∈ zT := zwm_2 _ (List.mem_of_getElem? (i := 25) rfl)
theorem zob_X5_3 : Cond.methodLink RX5 3 objectInit ∈ zT := zwm_2 _ (List.mem_of_getElem? (i := 28) rfl)
theorem zar_I : Cond.arrayClass FieldType.int ∈ zT := zwm_2 _ (List.mem_of_getElem? (i := 35) rfl)
theorem zcl_X11_23 : Cond.classLink RX11 23 RX7 ∈ zT := zwm_2 _ (List.mem_of_getElem? (i := 36) rfl)
theorem zcl_X11_29 : Cond.classLink RX11 29 RX0 ∈ zT := zwm_2 _ (List.mem_of_getElem? (i := 37) rfl)
theorem zis_X0 : Cond.instantiable RX0 4 ∈ zT := zwm_2 _ (List.mem_of_getElem? (i := 38) rfl)
theorem zob_X0_3 : Cond.methodLink RX0 3 objectInit ∈ zT := zwm_3 _ (List.mem_of_getElem? (i := 1) rfl)
theorem zcl_X0_9 : Cond.classLink RX0 9 RX6 ∈ zT := zwm_3 _ (List.mem_of_getElem? (i := 2) rfl)
theorem zis_X6 : Cond.instantiable RX6 2 ∈ zT := zwm_3 _ (List.mem_of_getElem? (i := 3) rfl)
theorem zob_X6_3 : Cond.methodLink RX6 3 objectInit ∈ zT := zwm_3 _ (List.mem_of_getElem? (i := 7) rfl)
theorem zcl_X11_36 : Cond.classLink RX11 36 RX4 ∈ zT := zwm_3 _ (List.mem_of_getElem? (i := 37) rfl)
theorem zis_X4 : Cond.instantiable RX4 11 ∈ zT := zwm_3 _ (List.mem_of_getElem? (i := 38) rfl)
theorem zob_X4_3 : Cond.methodLink RX4 3 objectInit ∈ zT := zwm_4 _ (List.mem_of_getElem? (i := 1) rfl)
theorem zcl_X4_42 : Cond.classLink RX4 42 RX0 ∈ zT := zwm_4 _ (List.mem_of_getElem? (i := 2) rfl)
theorem zcl_X11_43 : Cond.classLink RX11 43 RX8 ∈ zT := zwm_4 _ (List.mem_of_getElem? (i := 31) rfl)
theorem zis_X8 : Cond.instantiable RX8 4 ∈ zT := zwm_4 _ (List.mem_of_getElem? (i := 32) rfl)
theorem zob_X8_5 : Cond.methodLink RX8 5 objectInit ∈ zT := zwm_4 _ (List.mem_of_getElem? (i := 35) rfl)
theorem zcl_X8_18 : Cond.classLink RX8 18 "[[I" ∈ zT := zwm_4 _ (List.mem_of_getElem? (i := 36) rfl)
theorem zar_Z : Cond.arrayClass FieldType.boolean ∈ zT := zwm_5 _ (List.mem_of_getElem? (i := 5) rfl)
theorem zcl_X11_50 : Cond.classLink RX11 50 RX9 ∈ zT := zwm_5 _ (List.mem_of_getElem? (i := 6) rfl)
theorem zcl_X11_56 : Cond.classLink RX11 56 RX3 ∈ zT := zwm_5 _ (List.mem_of_getElem? (i := 7) rfl)
theorem zis_X3 : Cond.instantiable RX3 2 ∈ zT := zwm_5 _ (List.mem_of_getElem? (i := 8) rfl)
theorem zob_X3_1 : Cond.methodLink RX3 1 objectInit ∈ zT := zwm_5 _ (List.mem_of_getElem? (i := 11) rfl)
theorem zcl_X11_63 : Cond.classLink RX11 63 RX1 ∈ zT := zwm_5 _ (List.mem_of_getElem? (i := 18) rfl)
theorem zis_X1 : Cond.instantiable RX1 1 ∈ zT := zwm_5 _ (List.mem_of_getElem? (i := 19) rfl)
theorem zob_X1_1 : Cond.methodLink RX1 1 objectInit ∈ zT := zwm_5 _ (List.mem_of_getElem? (i := 22) rfl)
theorem zis_X9 : Cond.instantiable RX9 1 ∈ zT := zwm_5 _ (List.mem_of_getElem? (i := 25) rfl)
theorem zob_X9_3 : Cond.methodLink RX9 3 objectInit ∈ zT := zwm_5 _ (List.mem_of_getElem? (i := 28) rfl)
theorem zcl_X9_9 : Cond.classLink RX9 9 RX6 ∈ zT := zwm_5 _ (List.mem_of_getElem? (i := 29) rfl)
theorem zK_X11_81 : Cond.constant RX11 81 (50000) ∈ zT := zwm_6 _ (List.mem_of_getElem? (i := 22) rfl)
theorem zis_X7 : Cond.instantiable RX7 12 ∈ zT := zwm_6 _ (List.mem_of_getElem? (i := 27) rfl)
theorem zob_X7_3 : Cond.methodLink RX7 3 objectInit ∈ zT := zwm_6 _ (List.mem_of_getElem? (i := 31) rfl)
theorem zcl_X7_9 : Cond.classLink RX7 9 RX6 ∈ zT := zwm_6 _ (List.mem_of_getElem? (i := 32) rfl)
theorem zK_X11_224 : Cond.constant RX11 224 (100000) ∈ zT := zwm_7 _ (List.mem_of_getElem? (i := 32) rfl)
theorem zK_X11_93 : Cond.constant RX11 93 (-2000000000) ∈ zT := zwm_7 _ (List.mem_of_getElem? (i := 33) rfl)
theorem zK_X2_71 : Cond.constantLong RX2 71 (2) ∈ zT := zwm_8 _ (List.mem_of_getElem? (i := 13) rfl)
theorem zK_X11_132 : Cond.constant RX11 132 (-200000) ∈ zT := zwm_9 _ (List.mem_of_getElem? (i := 39) rfl)
theorem zK_X11_133 : Cond.constant RX11 133 (200000) ∈ zT := zwm_10 _ (List.mem_of_getElem? (i := 0) rfl)
theorem zK_X11_263 : Cond.constant RX11 263 (-1000000) ∈ zT := zwm_10 _ (List.mem_of_getElem? (i := 16) rfl)
theorem zK_X11_217 : Cond.constant RX11 217 (1000000) ∈ zT := zwm_10 _ (List.mem_of_getElem? (i := 17) rfl)
theorem zK_X0_57 : Cond.constantLong RX0 57 (1000000000) ∈ zT := zwm_12 _ (List.mem_of_getElem? (i := 11) rfl)
theorem zK_X0_63 : Cond.constantLong RX0 63 (999) ∈ zT := zwm_12 _ (List.mem_of_getElem? (i := 15) rfl)
theorem zK_X0_65 : Cond.constantLong RX0 65 (10) ∈ zT := zwm_12 _ (List.mem_of_getElem? (i := 16) rfl)
theorem zK_X1_13 : Cond.constant RX1 13 (1000000) ∈ zT := zwm_15 _ (List.mem_of_getElem? (i := 15) rfl)
theorem zK_X1_14 : Cond.constantLong RX1 14 (2) ∈ zT := zwm_15 _ (List.mem_of_getElem? (i := 16) rfl)
theorem zK_X11_249 : Cond.constantLong RX11 249 (349) ∈ zT := zwm_16 _ (List.mem_of_getElem? (i := 0) rfl)
theorem zK_X11_251 : Cond.constantLong RX11 251 (31) ∈ zT := zwm_16 _ (List.mem_of_getElem? (i := 1) rfl)
theorem zK_X7_97 : Cond.constantLong RX7 97 (31) ∈ zT := zwm_16 _ (List.mem_of_getElem? (i := 7) rfl)
theorem zK_X6_29 : Cond.constantLong RX6 29 (31) ∈ zT := zwm_16 _ (List.mem_of_getElem? (i := 13) rfl)
theorem zcl_L_10 : Cond.classLink RL 10 RX12 ∈ zT := zwm_16 _ (List.mem_of_getElem? (i := 14) rfl)
theorem zis_X12 : Cond.instantiable RX12 30 ∈ zT := zwm_16 _ (List.mem_of_getElem? (i := 15) rfl)
theorem zob_X12_1 : Cond.methodLink RX12 1 objectInit ∈ zT := zwm_16 _ (List.mem_of_getElem? (i := 19) rfl)
theorem zK_X12_73 : Cond.constant RX12 73 (800008) ∈ zT := zwm_16 _ (List.mem_of_getElem? (i := 20) rfl)
theorem zK_X12_89 : Cond.constantLong RX12 89 (2) ∈ zT := zwm_16 _ (List.mem_of_getElem? (i := 21) rfl)
theorem zK_X12_103 : Cond.constantLong RX12 103 (1000000000) ∈ zT := zwm_16 _ (List.mem_of_getElem? (i := 31) rfl)
theorem zK_X12_105 : Cond.constantLong RX12 105 (999999999) ∈ zT := zwm_17 _ (List.mem_of_getElem? (i := 4) rfl)
theorem zK_X12_95 : Cond.constantLong RX12 95 (5) ∈ zT := zwm_17 _ (List.mem_of_getElem? (i := 5) rfl)
theorem zK_X12_97 : Cond.constantLong RX12 97 (4) ∈ zT := zwm_17 _ (List.mem_of_getElem? (i := 6) rfl)
theorem zK_X12_149 : Cond.constantLong RX12 149 (100) ∈ zT := zwm_18 _ (List.mem_of_getElem? (i := 31) rfl)
theorem zK_X12_169 : Cond.constantLong RX12 169 (50000) ∈ zT := zwm_18 _ (List.mem_of_getElem? (i := 32) rfl)
theorem zK_X12_171 : Cond.constantLong RX12 171 (3) ∈ zT := zwm_19 _ (List.mem_of_getElem? (i := 0) rfl)
theorem zK_X12_124 : Cond.constantLong RX12 124 (10) ∈ zT := zwm_19 _ (List.mem_of_getElem? (i := 1) rfl)
theorem zK_X12_173 : Cond.constantLong RX12 173 (990) ∈ zT := zwm_19 _ (List.mem_of_getElem? (i := 2) rfl)
theorem zK_X12_167 : Cond.constantLong RX12 167 (100000) ∈ zT := zwm_19 _ (List.mem_of_getElem? (i := 13) rfl)
theorem zK_X12_158 : Cond.constant RX12 158 (100001) ∈ zT := zwm_19 _ (List.mem_of_getElem? (i := 17) rfl)
theorem zK_X12_159 : Cond.constant RX12 159 (1000000) ∈ zT := zwm_19 _ (List.mem_of_getElem? (i := 18) rfl)
theorem zK_X12_138 : Cond.constantLong RX12 138 (-400000) ∈ zT := zwm_19 _ (List.mem_of_getElem? (i := 31) rfl)
theorem zK_X12_140 : Cond.constantLong RX12 140 (400000) ∈ zT := zwm_19 _ (List.mem_of_getElem? (i := 32) rfl)
theorem zK_X12_186 : Cond.constant RX12 186 (-2000000000) ∈ zT := zwm_19 _ (List.mem_of_getElem? (i := 39) rfl)
theorem zK_X12_191 : Cond.constantLong RX12 191 (10000) ∈ zT := zwm_20 _ (List.mem_of_getElem? (i := 4) rfl)
theorem zK_X12_202 : Cond.constantLong RX12 202 (-200000) ∈ zT := zwm_20 _ (List.mem_of_getElem? (i := 33) rfl)
theorem zK_X12_204 : Cond.constantLong RX12 204 (200000) ∈ zT := zwm_20 _ (List.mem_of_getElem? (i := 34) rfl)
theorem zK_X12_209 : Cond.constantLong RX12 209 (-1000000) ∈ zT := zwm_21 _ (List.mem_of_getElem? (i := 10) rfl)
theorem zK_X12_211 : Cond.constantLong RX12 211 (1000000) ∈ zT := zwm_21 _ (List.mem_of_getElem? (i := 11) rfl)
theorem zK_X12_216 : Cond.constantLong RX12 216 (999) ∈ zT := zwm_21 _ (List.mem_of_getElem? (i := 20) rfl)
theorem zK_X12_230 : Cond.constantLong RX12 230 (1000) ∈ zT := zwm_22 _ (List.mem_of_getElem? (i := 1) rfl)
theorem zK_X12_245 : Cond.constantLong RX12 245 (-8) ∈ zT := zwm_22 _ (List.mem_of_getElem? (i := 13) rfl)
theorem zK_X12_247 : Cond.constantLong RX12 247 (8) ∈ zT := zwm_22 _ (List.mem_of_getElem? (i := 14) rfl)
theorem zK_X12_239 : Cond.constantLong RX12 239 (64) ∈ zT := zwm_22 _ (List.mem_of_getElem? (i := 18) rfl)
theorem zK_X12_269 : Cond.constantLong RX12 269 (60) ∈ zT := zwm_23 _ (List.mem_of_getElem? (i := 15) rfl)
theorem zK_X12_274 : Cond.constantLong RX12 274 (349) ∈ zT := zwm_23 _ (List.mem_of_getElem? (i := 34) rfl)
theorem zK_X12_276 : Cond.constantLong RX12 276 (31) ∈ zT := zwm_23 _ (List.mem_of_getElem? (i := 35) rfl)
theorem zobI : Cond.instanceMethod objectInit ∈ zT := zwm_1 _ (List.mem_of_getElem? (i := 12) rfl)
theorem zobC : Cond.code objectInit ⟨#[0xb1]⟩ 1 none ∈ zT := zwm_1 _ (List.mem_of_getElem? (i := 13) rfl)
theorem zao_Sc : Cond.arrayOver (FieldType.object "SlideRules$Scale") ∈ lw_tbl := List.mem_of_getElem? (i := 132) (by decide +kernel)
theorem zao_II : Cond.arrayOver (FieldType.array FieldType.int) ∈ lw_tbl := List.mem_of_getElem? (i := 237) (by decide +kernel)
theorem zao_St : Cond.arrayOver (FieldType.object "SlideRules$Strip") ∈ lw_tbl := List.mem_of_getElem? (i := 253) (by decide +kernel)
end
section
def zd (cc : ByteArray) (pc : Nat) (ins : Instr) (len nx : Nat) : Prop := decode cc pc = .ok (ins, len) ∧ pc + len = nx
theorem dX0_init_0 : zd cX0_init 0 (.aload_n 0) 1 1 := ⟨by decide +kernel, rfl⟩
theorem dX0_init_1 : zd cX0_init 1 (.invokespecial 3) 3 4 := ⟨by decide +kernel, rfl⟩
theorem dX0_init_4 : zd cX0_init 4 (.aload_n 0) 1 5 := ⟨by decide +kernel, rfl⟩
theorem dX0_init_5 : zd cX0_init 5 (.new 9) 3 8 := ⟨by decide +kernel, rfl⟩
theorem dX0_init_8 : zd cX0_init 8 (.dup) 1 9 := ⟨by decide +kernel, rfl⟩
theorem dX0_init_9 : zd cX0_init 9 (.bipush 12) 2 11 := ⟨by decide +kernel, rfl⟩
theorem dX0_init_11 : zd cX0_init 11 (.invokespecial 13) 3 14 := ⟨by decide +kernel, rfl⟩
theorem dX0_init_14 : zd cX0_init 14 (.putfield 16) 3 17 := ⟨by decide +kernel, rfl⟩
theorem dX0_init_17 : zd cX0_init 17 (.aload_n 0) 1 18 := ⟨by decide +kernel, rfl⟩
theorem dX0_init_18 : zd cX0_init 18 (.iconst 0) 1 19 := ⟨by decide +kernel, rfl⟩
theorem dX0_init_19 : zd cX0_init 19 (.putfield 20) 3 22 := ⟨by decide +kernel, rfl⟩
theorem dX0_init_22 : zd cX0_init 22 (.aload_n 0) 1 23 := ⟨by decide +kernel, rfl⟩
theorem dX0_init_23 : zd cX0_init 23 (.iconst 0) 1 24 := ⟨by decide +kernel, rfl⟩
theorem dX0_init_24 : zd cX0_init 24 (.putfield 24) 3 27 := ⟨by decide +kernel, rfl⟩
theorem dX0_init_27 : zd cX0_init 27 (.aload_n 0) 1 28 := ⟨by decide +kernel, rfl⟩
theorem dX0_init_28 : zd cX0_init 28 (.iconst 4) 1 29 := ⟨by decide +kernel, rfl⟩
theorem dX0_init_29 : zd cX0_init 29 (.newarray .long) 2 31 := ⟨by decide +kernel, rfl⟩
theorem dX0_init_31 : zd cX0_init 31 (.putfield 27) 3 34 := ⟨by decide +kernel, rfl⟩
theorem dX0_init_34 : zd cX0_init 34 (.return_) 1 35 := ⟨by decide +kernel, rfl⟩
theorem dX0_begin_0 : zd cX0_begin 0 (.aload_n 0) 1 1 := ⟨by decide +kernel, rfl⟩
theorem dX0_begin_1 : zd cX0_begin 1 (.iconst 0) 1 2 := ⟨by decide +kernel, rfl⟩
theorem dX0_begin_2 : zd cX0_begin 2 (.putfield 20) 3 5 := ⟨by decide +kernel, rfl⟩
theorem dX0_begin_5 : zd cX0_begin 5 (.aload_n 0) 1 6 := ⟨by decide +kernel, rfl⟩
theorem dX0_begin_6 : zd cX0_begin 6 (.iconst 0) 1 7 := ⟨by decide +kernel, rfl⟩
theorem dX0_begin_7 : zd cX0_begin 7 (.putfield 24) 3 10 := ⟨by decide +kernel, rfl⟩
theorem dX0_begin_10 : zd cX0_begin 10 (.return_) 1 11 := ⟨by decide +kernel, rfl⟩
theorem dX0_move_0 : zd cX0_move 0 (.aload_n 0) 1 1 := ⟨by decide +kernel, rfl⟩
theorem dX0_move_1 : zd cX0_move 1 (.dup) 1 2 := ⟨by decide +kernel, rfl⟩
theorem dX0_move_2 : zd cX0_move 2 (.getfield 20) 3 5 := ⟨by decide +kernel, rfl⟩
theorem dX0_move_5 : zd cX0_move 5 (.aload_n 2) 1 6 := ⟨by decide +kernel, rfl⟩
theorem dX0_move_6 : zd cX0_move 6 (.iload_n 1) 1 7 := ⟨by decide +kernel, rfl⟩
theorem dX0_move_7 : zd cX0_move 7 (.invokevirtual 31) 3 10 := ⟨by decide +kernel, rfl⟩
theorem dX0_move_10 : zd cX0_move 10 (.iadd) 1 11 := ⟨by decide +kernel, rfl⟩
theorem dX0_move_11 : zd cX0_move 11 (.putfield 20) 3 14 := ⟨by decide +kernel, rfl⟩
theorem dX0_move_14 : zd cX0_move 14 (.aload_n 0) 1 15 := ⟨by decide +kernel, rfl⟩
theorem dX0_move_15 : zd cX0_move 15 (.getfield 20) 3 18 := ⟨by decide +kernel, rfl⟩
theorem dX0_move_18 : zd cX0_move 18 (.aload_n 2) 1 19 := ⟨by decide +kernel, rfl⟩
theorem dX0_move_19 : zd cX0_move 19 (.getfield 37) 3 22 := ⟨by decide +kernel, rfl⟩
theorem dX0_move_22 : zd cX0_move 22 (.if_icmp .lt 26) 3 25 := ⟨by decide +kernel, rfl⟩
theorem dX0_move_25 : zd cX0_move 25 (.aload_n 0) 1 26 := ⟨by decide +kernel, rfl⟩
theorem dX0_move_26 : zd cX0_move 26 (.dup) 1 27 := ⟨by decide +kernel, rfl⟩
theorem dX0_move_27 : zd cX0_move 27 (.getfield 20) 3 30 := ⟨by decide +kernel, rfl⟩
theorem dX0_move_30 : zd cX0_move 30 (.aload_n 2) 1 31 := ⟨by decide +kernel, rfl⟩
theorem dX0_move_31 : zd cX0_move 31 (.getfield 37) 3 34 := ⟨by decide +kernel, rfl⟩
theorem dX0_move_34 : zd cX0_move 34 (.isub) 1 35 := ⟨by decide +kernel, rfl⟩
theorem dX0_move_35 : zd cX0_move 35 (.putfield 20) 3 38 := ⟨by decide +kernel, rfl⟩
theorem dX0_move_38 : zd cX0_move 38 (.aload_n 0) 1 39 := ⟨by decide +kernel, rfl⟩
theorem dX0_move_39 : zd cX0_move 39 (.dup) 1 40 := ⟨by decide +kernel, rfl⟩
theorem dX0_move_40 : zd cX0_move 40 (.getfield 24) 3 43 := ⟨by decide +kernel, rfl⟩
theorem dX0_move_43 : zd cX0_move 43 (.iconst 1) 1 44 := ⟨by decide +kernel, rfl⟩
theorem dX0_move_44 : zd cX0_move 44 (.iadd) 1 45 := ⟨by decide +kernel, rfl⟩
theorem dX0_move_45 : zd cX0_move 45 (.putfield 24) 3 48 := ⟨by decide +kernel, rfl⟩
theorem dX0_move_48 : zd cX0_move 48 (.return_) 1 49 := ⟨by decide +kernel, rfl⟩
theorem dX0_walk_0 : zd cX0_walk 0 (.aload_n 0) 1 1 := ⟨by decide +kernel, rfl⟩
theorem dX0_walk_1 : zd cX0_walk 1 (.invokevirtual 40) 3 4 := ⟨by decide +kernel, rfl⟩
theorem dX0_walk_4 : zd cX0_walk 4 (.iconst 0) 1 5 := ⟨by decide +kernel, rfl⟩
theorem dX0_walk_5 : zd cX0_walk 5 (.istore_n 2) 1 6 := ⟨by decide +kernel, rfl⟩
theorem dX0_walk_6 : zd cX0_walk 6 (.iload_n 2) 1 7 := ⟨by decide +kernel, rfl⟩
theorem dX0_walk_7 : zd cX0_walk 7 (.aload_n 0) 1 8 := ⟨by decide +kernel, rfl⟩
theorem dX0_walk_8 : zd cX0_walk 8 (.getfield 16) 3 11 := ⟨by decide +kernel, rfl⟩
theorem dX0_walk_11 : zd cX0_walk 11 (.getfield 43) 3 14 := ⟨by decide +kernel, rfl⟩
theorem dX0_walk_14 : zd cX0_walk 14 (.if_icmp .ge 23) 3 17 := ⟨by decide +kernel, rfl⟩
theorem dX0_walk_17 : zd cX0_walk 17 (.aload_n 0) 1 18 := ⟨by decide +kernel, rfl⟩
theorem dX0_walk_18 : zd cX0_walk 18 (.aload_n 0) 1 19 := ⟨by decide +kernel, rfl⟩
theorem dX0_walk_19 : zd cX0_walk 19 (.getfield 16) 3 22 := ⟨by decide +kernel, rfl⟩
theorem dX0_walk_22 : zd cX0_walk 22 (.getfield 46) 3 25 := ⟨by decide +kernel, rfl⟩
theorem dX0_walk_25 : zd cX0_walk 25 (.iload_n 2) 1 26 := ⟨by decide +kernel, rfl⟩
theorem dX0_walk_26 : zd cX0_walk 26 (.iaload) 1 27 := ⟨by decide +kernel, rfl⟩
theorem dX0_walk_27 : zd cX0_walk 27 (.aload_n 1) 1 28 := ⟨by decide +kernel, rfl⟩
theorem dX0_walk_28 : zd cX0_walk 28 (.invokevirtual 50) 3 31 := ⟨by decide +kernel, rfl⟩
theorem dX0_walk_31 : zd cX0_walk 31 (.iinc 2 1) 3 34 := ⟨by decide +kernel, rfl⟩
theorem dX0_walk_34 : zd cX0_walk 34 (.goto (-28)) 3 37 := ⟨by decide +kernel, rfl⟩
theorem dX0_walk_37 : zd cX0_walk 37 (.return_) 1 38 := ⟨by decide +kernel, rfl⟩
theorem dX0_truth_0 : zd cX0_truth 0 (.aload_n 0) 1 1 := ⟨by decide +kernel, rfl⟩
theorem dX0_truth_1 : zd cX0_truth 1 (.getfield 16) 3 4 := ⟨by decide +kernel, rfl⟩
theorem dX0_truth_4 : zd cX0_truth 4 (.getfield 43) 3 7 := ⟨by decide +kernel, rfl⟩
theorem dX0_truth_7 : zd cX0_truth 7 (.ifCond .ne 6) 3 10 := ⟨by decide +kernel, rfl⟩
theorem dX0_truth_10 : zd cX0_truth 10 (.bipush 100) 2 12 := ⟨by decide +kernel, rfl⟩
theorem dX0_truth_12 : zd cX0_truth 12 (.ireturn) 1 13 := ⟨by decide +kernel, rfl⟩
theorem dX0_truth_13 : zd cX0_truth 13 (.aload_n 0) 1 14 := ⟨by decide +kernel, rfl⟩
theorem dX0_truth_14 : zd cX0_truth 14 (.invokevirtual 54) 3 17 := ⟨by decide +kernel, rfl⟩
theorem dX0_truth_17 : zd cX0_truth 17 (.iconst 3) 1 18 := ⟨by decide +kernel, rfl⟩
theorem dX0_truth_18 : zd cX0_truth 18 (.istore_n 1) 1 19 := ⟨by decide +kernel, rfl⟩
theorem dX0_truth_19 : zd cX0_truth 19 (.iload_n 1) 1 20 := ⟨by decide +kernel, rfl⟩
theorem dX0_truth_20 : zd cX0_truth 20 (.ifCond .le 20) 3 23 := ⟨by decide +kernel, rfl⟩
theorem dX0_truth_23 : zd cX0_truth 23 (.aload_n 0) 1 24 := ⟨by decide +kernel, rfl⟩
theorem dX0_truth_24 : zd cX0_truth 24 (.getfield 27) 3 27 := ⟨by decide +kernel, rfl⟩
theorem dX0_truth_27 : zd cX0_truth 27 (.iload_n 1) 1 28 := ⟨by decide +kernel, rfl⟩
theorem dX0_truth_28 : zd cX0_truth 28 (.laload) 1 29 := ⟨by decide +kernel, rfl⟩
theorem dX0_truth_29 : zd cX0_truth 29 (.lconst 0) 1 30 := ⟨by decide +kernel, rfl⟩
theorem dX0_truth_30 : zd cX0_truth 30 (.lcmp) 1 31 := ⟨by decide +kernel, rfl⟩
theorem dX0_truth_31 : zd cX0_truth 31 (.ifCond .ne 9) 3 34 := ⟨by decide +kernel, rfl⟩
theorem dX0_truth_34 : zd cX0_truth 34 (.iinc 1 (-1)) 3 37 := ⟨by decide +kernel, rfl⟩
theorem dX0_truth_37 : zd cX0_truth 37 (.goto (-18)) 3 40 := ⟨by decide +kernel, rfl⟩
theorem dX0_truth_40 : zd cX0_truth 40 (.iload_n 1) 1 41 := ⟨by decide +kernel, rfl⟩
theorem dX0_truth_41 : zd cX0_truth 41 (.ifCond .le 25) 3 44 := ⟨by decide +kernel, rfl⟩
theorem dX0_truth_44 : zd cX0_truth 44 (.aload_n 0) 1 45 := ⟨by decide +kernel, rfl⟩
theorem dX0_truth_45 : zd cX0_truth 45 (.getfield 27) 3 48 := ⟨by decide +kernel, rfl⟩
theorem dX0_truth_48 : zd cX0_truth 48 (.iload_n 1) 1 49 := ⟨by decide +kernel, rfl⟩
theorem dX0_truth_49 : zd cX0_truth 49 (.laload) 1 50 := ⟨by decide +kernel, rfl⟩
theorem dX0_truth_50 : zd cX0_truth 50 (.ldc2_w 57) 3 53 := ⟨by decide +kernel, rfl⟩
theorem dX0_truth_53 : zd cX0_truth 53 (.lmul) 1 54 := ⟨by decide +kernel, rfl⟩
theorem dX0_truth_54 : zd cX0_truth 54 (.aload_n 0) 1 55 := ⟨by decide +kernel, rfl⟩
theorem dX0_truth_55 : zd cX0_truth 55 (.getfield 27) 3 58 := ⟨by decide +kernel, rfl⟩
theorem dX0_truth_58 : zd cX0_truth 58 (.iload_n 1) 1 59 := ⟨by decide +kernel, rfl⟩
theorem dX0_truth_59 : zd cX0_truth 59 (.iconst 1) 1 60 := ⟨by decide +kernel, rfl⟩
theorem dX0_truth_60 : zd cX0_truth 60 (.isub) 1 61 := ⟨by decide +kernel, rfl⟩
theorem dX0_truth_61 : zd cX0_truth 61 (.laload) 1 62 := ⟨by decide +kernel, rfl⟩
theorem dX0_truth_62 : zd cX0_truth 62 (.ladd) 1 63 := ⟨by decide +kernel, rfl⟩
theorem dX0_truth_63 : zd cX0_truth 63 (.goto 9) 3 66 := ⟨by decide +kernel, rfl⟩
theorem dX0_truth_66 : zd cX0_truth 66 (.aload_n 0) 1 67 := ⟨by decide +kernel, rfl⟩
theorem dX0_truth_67 : zd cX0_truth 67 (.getfield 27) 3 70 := ⟨by decide +kernel, rfl⟩
theorem dX0_truth_70 : zd cX0_truth 70 (.iconst 0) 1 71 := ⟨by decide +kernel, rfl⟩
theorem dX0_truth_71 : zd cX0_truth 71 (.laload) 1 72 := ⟨by decide +kernel, rfl⟩
theorem dX0_truth_72 : zd cX0_truth 72 (.invokestatic 59) 3 75 := ⟨by decide +kernel, rfl⟩
theorem dX0_truth_75 : zd cX0_truth 75 (.ireturn) 1 76 := ⟨by decide +kernel, rfl⟩
theorem dX0_multiplyOut_0 : zd cX0_multiplyOut 0 (.iconst 0) 1 1 := ⟨by decide +kernel, rfl⟩
theorem dX0_multiplyOut_1 : zd cX0_multiplyOut 1 (.istore_n 1) 1 2 := ⟨by decide +kernel, rfl⟩
theorem dX0_multiplyOut_2 : zd cX0_multiplyOut 2 (.iload_n 1) 1 3 := ⟨by decide +kernel, rfl⟩
theorem dX0_multiplyOut_3 : zd cX0_multiplyOut 3 (.iconst 4) 1 4 := ⟨by decide +kernel, rfl⟩
theorem dX0_multiplyOut_4 : zd cX0_multiplyOut 4 (.if_icmp .ge 24) 3 7 := ⟨by decide +kernel, rfl⟩
theorem dX0_multiplyOut_7 : zd cX0_multiplyOut 7 (.aload_n 0) 1 8 := ⟨by decide +kernel, rfl⟩
theorem dX0_multiplyOut_8 : zd cX0_multiplyOut 8 (.getfield 27) 3 11 := ⟨by decide +kernel, rfl⟩
theorem dX0_multiplyOut_11 : zd cX0_multiplyOut 11 (.iload_n 1) 1 12 := ⟨by decide +kernel, rfl⟩
theorem dX0_multiplyOut_12 : zd cX0_multiplyOut 12 (.iload_n 1) 1 13 := ⟨by decide +kernel, rfl⟩
theorem dX0_multiplyOut_13 : zd cX0_multiplyOut 13 (.ifCond .ne 7) 3 16 := ⟨by decide +kernel, rfl⟩
theorem dX0_multiplyOut_16 : zd cX0_multiplyOut 16 (.lconst 1) 1 17 := ⟨by decide +kernel, rfl⟩
theorem dX0_multiplyOut_17 : zd cX0_multiplyOut 17 (.goto 4) 3 20 := ⟨by decide +kernel, rfl⟩
theorem dX0_multiplyOut_20 : zd cX0_multiplyOut 20 (.lconst 0) 1 21 := ⟨by decide +kernel, rfl⟩
theorem dX0_multiplyOut_21 : zd cX0_multiplyOut 21 (.lastore) 1 22 := ⟨by decide +kernel, rfl⟩
theorem dX0_multiplyOut_22 : zd cX0_multiplyOut 22 (.iinc 1 1) 3 25 := ⟨by decide +kernel, rfl⟩
theorem dX0_multiplyOut_25 : zd cX0_multiplyOut 25 (.goto (-23)) 3 28 := ⟨by decide +kernel, rfl⟩
theorem dX0_multiplyOut_28 : zd cX0_multiplyOut 28 (.iconst 0) 1 29 := ⟨by decide +kernel, rfl⟩
theorem dX0_multiplyOut_29 : zd cX0_multiplyOut 29 (.istore_n 1) 1 30 := ⟨by decide +kernel, rfl⟩
theorem dX0_multiplyOut_30 : zd cX0_multiplyOut 30 (.iload_n 1) 1 31 := ⟨by decide +kernel, rfl⟩
theorem dX0_multiplyOut_31 : zd cX0_multiplyOut 31 (.aload_n 0) 1 32 := ⟨by decide +kernel, rfl⟩
theorem dX0_multiplyOut_32 : zd cX0_multiplyOut 32 (.getfield 16) 3 35 := ⟨by decide +kernel, rfl⟩
theorem dX0_multiplyOut_35 : zd cX0_multiplyOut 35 (.getfield 43) 3 38 := ⟨by decide +kernel, rfl⟩
theorem dX0_multiplyOut_38 : zd cX0_multiplyOut 38 (.if_icmp .ge 68) 3 41 := ⟨by decide +kernel, rfl⟩
theorem dX0_multiplyOut_41 : zd cX0_multiplyOut 41 (.lconst 0) 1 42 := ⟨by decide +kernel, rfl⟩
theorem dX0_multiplyOut_42 : zd cX0_multiplyOut 42 (.lstore_n 2) 1 43 := ⟨by decide +kernel, rfl⟩
theorem dX0_multiplyOut_43 : zd cX0_multiplyOut 43 (.iconst 0) 1 44 := ⟨by decide +kernel, rfl⟩
theorem dX0_multiplyOut_44 : zd cX0_multiplyOut 44 (.istore 4) 2 46 := ⟨by decide +kernel, rfl⟩
theorem dX0_multiplyOut_46 : zd cX0_multiplyOut 46 (.iload 4) 2 48 := ⟨by decide +kernel, rfl⟩
theorem dX0_multiplyOut_48 : zd cX0_multiplyOut 48 (.iconst 4) 1 49 := ⟨by decide +kernel, rfl⟩
theorem dX0_multiplyOut_49 : zd cX0_multiplyOut 49 (.if_icmp .ge 51) 3 52 := ⟨by decide +kernel, rfl⟩
theorem dX0_multiplyOut_52 : zd cX0_multiplyOut 52 (.aload_n 0) 1 53 := ⟨by decide +kernel, rfl⟩
theorem dX0_multiplyOut_53 : zd cX0_multiplyOut 53 (.getfield 27) 3 56 := ⟨by decide +kernel, rfl⟩
theorem dX0_multiplyOut_56 : zd cX0_multiplyOut 56 (.iload 4) 2 58 := ⟨by decide +kernel, rfl⟩
theorem dX0_multiplyOut_58 : zd cX0_multiplyOut 58 (.laload) 1 59 := ⟨by decide +kernel, rfl⟩
theorem dX0_multiplyOut_59 : zd cX0_multiplyOut 59 (.aload_n 0) 1 60 := ⟨by decide +kernel, rfl⟩
theorem dX0_multiplyOut_60 : zd cX0_multiplyOut 60 (.getfield 16) 3 63 := ⟨by decide +kernel, rfl⟩
theorem dX0_multiplyOut_63 : zd cX0_multiplyOut 63 (.getfield 46) 3 66 := ⟨by decide +kernel, rfl⟩
theorem dX0_multiplyOut_66 : zd cX0_multiplyOut 66 (.iload_n 1) 1 67 := ⟨by decide +kernel, rfl⟩
theorem dX0_multiplyOut_67 : zd cX0_multiplyOut 67 (.iaload) 1 68 := ⟨by decide +kernel, rfl⟩
theorem dX0_multiplyOut_68 : zd cX0_multiplyOut 68 (.i2l) 1 69 := ⟨by decide +kernel, rfl⟩
theorem dX0_multiplyOut_69 : zd cX0_multiplyOut 69 (.lmul) 1 70 := ⟨by decide +kernel, rfl⟩
theorem dX0_multiplyOut_70 : zd cX0_multiplyOut 70 (.lload_n 2) 1 71 := ⟨by decide +kernel, rfl⟩
theorem dX0_multiplyOut_71 : zd cX0_multiplyOut 71 (.ladd) 1 72 := ⟨by decide +kernel, rfl⟩
theorem dX0_multiplyOut_72 : zd cX0_multiplyOut 72 (.lstore 5) 2 74 := ⟨by decide +kernel, rfl⟩
theorem dX0_multiplyOut_74 : zd cX0_multiplyOut 74 (.aload_n 0) 1 75 := ⟨by decide +kernel, rfl⟩
theorem dX0_multiplyOut_75 : zd cX0_multiplyOut 75 (.getfield 27) 3 78 := ⟨by decide +kernel, rfl⟩
theorem dX0_multiplyOut_78 : zd cX0_multiplyOut 78 (.iload 4) 2 80 := ⟨by decide +kernel, rfl⟩
theorem dX0_multiplyOut_80 : zd cX0_multiplyOut 80 (.lload 5) 2 82 := ⟨by decide +kernel, rfl⟩
theorem dX0_multiplyOut_82 : zd cX0_multiplyOut 82 (.ldc2_w 57) 3 85 := ⟨by decide +kernel, rfl⟩
theorem dX0_multiplyOut_85 : zd cX0_multiplyOut 85 (.lrem) 1 86 := ⟨by decide +kernel, rfl⟩
theorem dX0_multiplyOut_86 : zd cX0_multiplyOut 86 (.lastore) 1 87 := ⟨by decide +kernel, rfl⟩
theorem dX0_multiplyOut_87 : zd cX0_multiplyOut 87 (.lload 5) 2 89 := ⟨by decide +kernel, rfl⟩
theorem dX0_multiplyOut_89 : zd cX0_multiplyOut 89 (.ldc2_w 57) 3 92 := ⟨by decide +kernel, rfl⟩
theorem dX0_multiplyOut_92 : zd cX0_multiplyOut 92 (.ldiv) 1 93 := ⟨by decide +kernel, rfl⟩
theorem dX0_multiplyOut_93 : zd cX0_multiplyOut 93 (.lstore_n 2) 1 94 := ⟨by decide +kernel, rfl⟩
theorem dX0_multiplyOut_94 : zd cX0_multiplyOut 94 (.iinc 4 1) 3 97 := ⟨by decide +kernel, rfl⟩
theorem dX0_multiplyOut_97 : zd cX0_multiplyOut 97 (.goto (-51)) 3 100 := ⟨by decide +kernel, rfl⟩
theorem dX0_multiplyOut_100 : zd cX0_multiplyOut 100 (.iinc 1 1) 3 103 := ⟨by decide +kernel, rfl⟩
theorem dX0_multiplyOut_103 : zd cX0_multiplyOut 103 (.goto (-73)) 3 106 := ⟨by decide +kernel, rfl⟩
theorem dX0_multiplyOut_106 : zd cX0_multiplyOut 106 (.return_) 1 107 := ⟨by decide +kernel, rfl⟩
theorem dX0_firstThree_0 : zd cX0_firstThree 0 (.lload_n 0) 1 1 := ⟨by decide +kernel, rfl⟩
theorem dX0_firstThree_1 : zd cX0_firstThree 1 (.lstore_n 2) 1 2 := ⟨by decide +kernel, rfl⟩
theorem dX0_firstThree_2 : zd cX0_firstThree 2 (.lload_n 2) 1 3 := ⟨by decide +kernel, rfl⟩
theorem dX0_firstThree_3 : zd cX0_firstThree 3 (.ldc2_w 63) 3 6 := ⟨by decide +kernel, rfl⟩
theorem dX0_firstThree_6 : zd cX0_firstThree 6 (.lcmp) 1 7 := ⟨by decide +kernel, rfl⟩
theorem dX0_firstThree_7 : zd cX0_firstThree 7 (.ifCond .le 12) 3 10 := ⟨by decide +kernel, rfl⟩
theorem dX0_firstThree_10 : zd cX0_firstThree 10 (.lload_n 2) 1 11 := ⟨by decide +kernel, rfl⟩
theorem dX0_firstThree_11 : zd cX0_firstThree 11 (.ldc2_w 65) 3 14 := ⟨by decide +kernel, rfl⟩
theorem dX0_firstThree_14 : zd cX0_firstThree 14 (.ldiv) 1 15 := ⟨by decide +kernel, rfl⟩
theorem dX0_firstThree_15 : zd cX0_firstThree 15 (.lstore_n 2) 1 16 := ⟨by decide +kernel, rfl⟩
theorem dX0_firstThree_16 : zd cX0_firstThree 16 (.goto (-14)) 3 19 := ⟨by decide +kernel, rfl⟩
theorem dX0_firstThree_19 : zd cX0_firstThree 19 (.lload_n 2) 1 20 := ⟨by decide +kernel, rfl⟩
theorem dX0_firstThree_20 : zd cX0_firstThree 20 (.l2i) 1 21 := ⟨by decide +kernel, rfl⟩
theorem dX0_firstThree_21 : zd cX0_firstThree 21 (.ireturn) 1 22 := ⟨by decide +kernel, rfl⟩
theorem dX1_init_0 : zd cX1_init 0 (.aload_n 0) 1 1 := ⟨by decide +kernel, rfl⟩
theorem dX1_init_1 : zd cX1_init 1 (.invokespecial 1) 3 4 := ⟨by decide +kernel, rfl⟩
theorem dX1_init_4 : zd cX1_init 4 (.aload_n 0) 1 5 := ⟨by decide +kernel, rfl⟩
theorem dX1_init_5 : zd cX1_init 5 (.bipush 60) 2 7 := ⟨by decide +kernel, rfl⟩
theorem dX1_init_7 : zd cX1_init 7 (.newarray .int) 2 9 := ⟨by decide +kernel, rfl⟩
theorem dX1_init_9 : zd cX1_init 9 (.putfield 9) 3 12 := ⟨by decide +kernel, rfl⟩
theorem dX1_init_12 : zd cX1_init 12 (.return_) 1 13 := ⟨by decide +kernel, rfl⟩
theorem dX1_isLaw_0 : zd cX1_isLaw 0 (.iload_n 0) 1 1 := ⟨by decide +kernel, rfl⟩
theorem dX1_isLaw_1 : zd cX1_isLaw 1 (.ifCond .lt 12) 3 4 := ⟨by decide +kernel, rfl⟩
theorem dX1_isLaw_4 : zd cX1_isLaw 4 (.iload_n 0) 1 5 := ⟨by decide +kernel, rfl⟩
theorem dX1_isLaw_5 : zd cX1_isLaw 5 (.iconst 3) 1 6 := ⟨by decide +kernel, rfl⟩
theorem dX1_isLaw_6 : zd cX1_isLaw 6 (.if_icmp .gt 7) 3 9 := ⟨by decide +kernel, rfl⟩
theorem dX1_isLaw_9 : zd cX1_isLaw 9 (.iconst 1) 1 10 := ⟨by decide +kernel, rfl⟩
theorem dX1_isLaw_10 : zd cX1_isLaw 10 (.goto 4) 3 13 := ⟨by decide +kernel, rfl⟩
theorem dX1_isLaw_13 : zd cX1_isLaw 13 (.iconst 0) 1 14 := ⟨by decide +kernel, rfl⟩
theorem dX1_isLaw_14 : zd cX1_isLaw 14 (.ireturn) 1 15 := ⟨by decide +kernel, rfl⟩
theorem dX1_numberOf_0 : zd cX1_numberOf 0 (.iload_n 0) 1 1 := ⟨by decide +kernel, rfl⟩
theorem dX1_numberOf_1 : zd cX1_numberOf 1 (.tableswitch 56 0 2 #[27, 33, 42]) 27 28 := ⟨by decide +kernel, rfl⟩
theorem dX1_numberOf_28 : zd cX1_numberOf 28 (.iload_n 1) 1 29 := ⟨by decide +kernel, rfl⟩
theorem dX1_numberOf_29 : zd cX1_numberOf 29 (.i2l) 1 30 := ⟨by decide +kernel, rfl⟩
theorem dX1_numberOf_30 : zd cX1_numberOf 30 (.iload_n 1) 1 31 := ⟨by decide +kernel, rfl⟩
theorem dX1_numberOf_31 : zd cX1_numberOf 31 (.i2l) 1 32 := ⟨by decide +kernel, rfl⟩
theorem dX1_numberOf_32 : zd cX1_numberOf 32 (.lmul) 1 33 := ⟨by decide +kernel, rfl⟩
theorem dX1_numberOf_33 : zd cX1_numberOf 33 (.lreturn) 1 34 := ⟨by decide +kernel, rfl⟩
theorem dX1_numberOf_34 : zd cX1_numberOf 34 (.iload_n 1) 1 35 := ⟨by decide +kernel, rfl⟩
theorem dX1_numberOf_35 : zd cX1_numberOf 35 (.i2l) 1 36 := ⟨by decide +kernel, rfl⟩
theorem dX1_numberOf_36 : zd cX1_numberOf 36 (.iload_n 1) 1 37 := ⟨by decide +kernel, rfl⟩
theorem dX1_numberOf_37 : zd cX1_numberOf 37 (.i2l) 1 38 := ⟨by decide +kernel, rfl⟩
theorem dX1_numberOf_38 : zd cX1_numberOf 38 (.lmul) 1 39 := ⟨by decide +kernel, rfl⟩
theorem dX1_numberOf_39 : zd cX1_numberOf 39 (.iload_n 1) 1 40 := ⟨by decide +kernel, rfl⟩
theorem dX1_numberOf_40 : zd cX1_numberOf 40 (.i2l) 1 41 := ⟨by decide +kernel, rfl⟩
theorem dX1_numberOf_41 : zd cX1_numberOf 41 (.lmul) 1 42 := ⟨by decide +kernel, rfl⟩
theorem dX1_numberOf_42 : zd cX1_numberOf 42 (.lreturn) 1 43 := ⟨by decide +kernel, rfl⟩
theorem dX1_numberOf_43 : zd cX1_numberOf 43 (.iload_n 1) 1 44 := ⟨by decide +kernel, rfl⟩
theorem dX1_numberOf_44 : zd cX1_numberOf 44 (.ifCond .ne 7) 3 47 := ⟨by decide +kernel, rfl⟩
theorem dX1_numberOf_47 : zd cX1_numberOf 47 (.lconst 0) 1 48 := ⟨by decide +kernel, rfl⟩
theorem dX1_numberOf_48 : zd cX1_numberOf 48 (.goto 8) 3 51 := ⟨by decide +kernel, rfl⟩
theorem dX1_numberOf_51 : zd cX1_numberOf 51 (.ldc 13) 2 53 := ⟨by decide +kernel, rfl⟩
theorem dX1_numberOf_53 : zd cX1_numberOf 53 (.iload_n 1) 1 54 := ⟨by decide +kernel, rfl⟩
theorem dX1_numberOf_54 : zd cX1_numberOf 54 (.idiv) 1 55 := ⟨by decide +kernel, rfl⟩
theorem dX1_numberOf_55 : zd cX1_numberOf 55 (.i2l) 1 56 := ⟨by decide +kernel, rfl⟩
theorem dX1_numberOf_56 : zd cX1_numberOf 56 (.lreturn) 1 57 := ⟨by decide +kernel, rfl⟩
theorem dX1_numberOf_57 : zd cX1_numberOf 57 (.iload_n 1) 1 58 := ⟨by decide +kernel, rfl⟩
theorem dX1_numberOf_58 : zd cX1_numberOf 58 (.i2l) 1 59 := ⟨by decide +kernel, rfl⟩
theorem dX1_numberOf_59 : zd cX1_numberOf 59 (.iload_n 1) 1 60 := ⟨by decide +kernel, rfl⟩
theorem dX1_numberOf_60 : zd cX1_numberOf 60 (.iconst 1) 1 61 := ⟨by decide +kernel, rfl⟩
theorem dX1_numberOf_61 : zd cX1_numberOf 61 (.iadd) 1 62 := ⟨by decide +kernel, rfl⟩
theorem dX1_numberOf_62 : zd cX1_numberOf 62 (.i2l) 1 63 := ⟨by decide +kernel, rfl⟩
theorem dX1_numberOf_63 : zd cX1_numberOf 63 (.lmul) 1 64 := ⟨by decide +kernel, rfl⟩
theorem dX1_numberOf_64 : zd cX1_numberOf 64 (.ldc2_w 14) 3 67 := ⟨by decide +kernel, rfl⟩
theorem dX1_numberOf_67 : zd cX1_numberOf 67 (.ldiv) 1 68 := ⟨by decide +kernel, rfl⟩
theorem dX1_numberOf_68 : zd cX1_numberOf 68 (.lreturn) 1 69 := ⟨by decide +kernel, rfl⟩
theorem dX1_inOrder_0 : zd cX1_inOrder 0 (.iload_n 0) 1 1 := ⟨by decide +kernel, rfl⟩
theorem dX1_inOrder_1 : zd cX1_inOrder 1 (.iconst 2) 1 2 := ⟨by decide +kernel, rfl⟩
theorem dX1_inOrder_2 : zd cX1_inOrder 2 (.if_icmp .ne 10) 3 5 := ⟨by decide +kernel, rfl⟩
theorem dX1_inOrder_5 : zd cX1_inOrder 5 (.bipush 60) 2 7 := ⟨by decide +kernel, rfl⟩
theorem dX1_inOrder_7 : zd cX1_inOrder 7 (.iload_n 1) 1 8 := ⟨by decide +kernel, rfl⟩
theorem dX1_inOrder_8 : zd cX1_inOrder 8 (.isub) 1 9 := ⟨by decide +kernel, rfl⟩
theorem dX1_inOrder_9 : zd cX1_inOrder 9 (.goto 6) 3 12 := ⟨by decide +kernel, rfl⟩
theorem dX1_inOrder_12 : zd cX1_inOrder 12 (.iconst 1) 1 13 := ⟨by decide +kernel, rfl⟩
theorem dX1_inOrder_13 : zd cX1_inOrder 13 (.iload_n 1) 1 14 := ⟨by decide +kernel, rfl⟩
theorem dX1_inOrder_14 : zd cX1_inOrder 14 (.iadd) 1 15 := ⟨by decide +kernel, rfl⟩
theorem dX1_inOrder_15 : zd cX1_inOrder 15 (.ireturn) 1 16 := ⟨by decide +kernel, rfl⟩
theorem dX1_placeOf_0 : zd cX1_placeOf 0 (.iload_n 0) 1 1 := ⟨by decide +kernel, rfl⟩
theorem dX1_placeOf_1 : zd cX1_placeOf 1 (.iload_n 0) 1 2 := ⟨by decide +kernel, rfl⟩
theorem dX1_placeOf_2 : zd cX1_placeOf 2 (.iconst 0) 1 3 := ⟨by decide +kernel, rfl⟩
theorem dX1_placeOf_3 : zd cX1_placeOf 3 (.invokestatic 16) 3 6 := ⟨by decide +kernel, rfl⟩
theorem dX1_placeOf_6 : zd cX1_placeOf 6 (.invokestatic 20) 3 9 := ⟨by decide +kernel, rfl⟩
theorem dX1_placeOf_9 : zd cX1_placeOf 9 (.lstore_n 3) 1 10 := ⟨by decide +kernel, rfl⟩
theorem dX1_placeOf_10 : zd cX1_placeOf 10 (.iload_n 0) 1 11 := ⟨by decide +kernel, rfl⟩
theorem dX1_placeOf_11 : zd cX1_placeOf 11 (.iload_n 0) 1 12 := ⟨by decide +kernel, rfl⟩
theorem dX1_placeOf_12 : zd cX1_placeOf 12 (.bipush 59) 2 14 := ⟨by decide +kernel, rfl⟩
theorem dX1_placeOf_14 : zd cX1_placeOf 14 (.invokestatic 16) 3 17 := ⟨by decide +kernel, rfl⟩
theorem dX1_placeOf_17 : zd cX1_placeOf 17 (.invokestatic 20) 3 20 := ⟨by decide +kernel, rfl⟩
theorem dX1_placeOf_20 : zd cX1_placeOf 20 (.lload_n 3) 1 21 := ⟨by decide +kernel, rfl⟩
theorem dX1_placeOf_21 : zd cX1_placeOf 21 (.lsub) 1 22 := ⟨by decide +kernel, rfl⟩
theorem dX1_placeOf_22 : zd cX1_placeOf 22 (.lstore 5) 2 24 := ⟨by decide +kernel, rfl⟩
theorem dX1_placeOf_24 : zd cX1_placeOf 24 (.lload 5) 2 26 := ⟨by decide +kernel, rfl⟩
theorem dX1_placeOf_26 : zd cX1_placeOf 26 (.lconst 1) 1 27 := ⟨by decide +kernel, rfl⟩
theorem dX1_placeOf_27 : zd cX1_placeOf 27 (.lcmp) 1 28 := ⟨by decide +kernel, rfl⟩
theorem dX1_placeOf_28 : zd cX1_placeOf 28 (.ifCond .ge 5) 3 31 := ⟨by decide +kernel, rfl⟩
theorem dX1_placeOf_31 : zd cX1_placeOf 31 (.iconst 0) 1 32 := ⟨by decide +kernel, rfl⟩
theorem dX1_placeOf_32 : zd cX1_placeOf 32 (.ireturn) 1 33 := ⟨by decide +kernel, rfl⟩
theorem dX1_placeOf_33 : zd cX1_placeOf 33 (.ldc2_w 14) 3 36 := ⟨by decide +kernel, rfl⟩
theorem dX1_placeOf_36 : zd cX1_placeOf 36 (.iload_n 0) 1 37 := ⟨by decide +kernel, rfl⟩
theorem dX1_placeOf_37 : zd cX1_placeOf 37 (.iload_n 1) 1 38 := ⟨by decide +kernel, rfl⟩
theorem dX1_placeOf_38 : zd cX1_placeOf 38 (.invokestatic 20) 3 41 := ⟨by decide +kernel, rfl⟩
theorem dX1_placeOf_41 : zd cX1_placeOf 41 (.lload_n 3) 1 42 := ⟨by decide +kernel, rfl⟩
theorem dX1_placeOf_42 : zd cX1_placeOf 42 (.lsub) 1 43 := ⟨by decide +kernel, rfl⟩
theorem dX1_placeOf_43 : zd cX1_placeOf 43 (.lmul) 1 44 := ⟨by decide +kernel, rfl⟩
theorem dX1_placeOf_44 : zd cX1_placeOf 44 (.iload_n 2) 1 45 := ⟨by decide +kernel, rfl⟩
theorem dX1_placeOf_45 : zd cX1_placeOf 45 (.i2l) 1 46 := ⟨by decide +kernel, rfl⟩
theorem dX1_placeOf_46 : zd cX1_placeOf 46 (.lmul) 1 47 := ⟨by decide +kernel, rfl⟩
theorem dX1_placeOf_47 : zd cX1_placeOf 47 (.lload 5) 2 49 := ⟨by decide +kernel, rfl⟩
theorem dX1_placeOf_49 : zd cX1_placeOf 49 (.ladd) 1 50 := ⟨by decide +kernel, rfl⟩
theorem dX1_placeOf_50 : zd cX1_placeOf 50 (.ldc2_w 14) 3 53 := ⟨by decide +kernel, rfl⟩
theorem dX1_placeOf_53 : zd cX1_placeOf 53 (.lload 5) 2 55 := ⟨by decide +kernel, rfl⟩
theorem dX1_placeOf_55 : zd cX1_placeOf 55 (.lmul) 1 56 := ⟨by decide +kernel, rfl⟩
theorem dX1_placeOf_56 : zd cX1_placeOf 56 (.ldiv) 1 57 := ⟨by decide +kernel, rfl⟩
theorem dX1_placeOf_57 : zd cX1_placeOf 57 (.l2i) 1 58 := ⟨by decide +kernel, rfl⟩
theorem dX1_placeOf_58 : zd cX1_placeOf 58 (.ireturn) 1 59 := ⟨by decide +kernel, rfl⟩
theorem dX1_doublesOf_0 : zd cX1_doublesOf 0 (.iconst 0) 1 1 := ⟨by decide +kernel, rfl⟩
theorem dX1_doublesOf_1 : zd cX1_doublesOf 1 (.istore_n 3) 1 2 := ⟨by decide +kernel, rfl⟩
theorem dX1_doublesOf_2 : zd cX1_doublesOf 2 (.iload_n 3) 1 3 := ⟨by decide +kernel, rfl⟩
theorem dX1_doublesOf_3 : zd cX1_doublesOf 3 (.bipush 60) 2 5 := ⟨by decide +kernel, rfl⟩
theorem dX1_doublesOf_5 : zd cX1_doublesOf 5 (.if_icmp .ge 25) 3 8 := ⟨by decide +kernel, rfl⟩
theorem dX1_doublesOf_8 : zd cX1_doublesOf 8 (.aload_n 0) 1 9 := ⟨by decide +kernel, rfl⟩
theorem dX1_doublesOf_9 : zd cX1_doublesOf 9 (.getfield 9) 3 12 := ⟨by decide +kernel, rfl⟩
theorem dX1_doublesOf_12 : zd cX1_doublesOf 12 (.iload_n 3) 1 13 := ⟨by decide +kernel, rfl⟩
theorem dX1_doublesOf_13 : zd cX1_doublesOf 13 (.iload_n 1) 1 14 := ⟨by decide +kernel, rfl⟩
theorem dX1_doublesOf_14 : zd cX1_doublesOf 14 (.iload_n 1) 1 15 := ⟨by decide +kernel, rfl⟩
theorem dX1_doublesOf_15 : zd cX1_doublesOf 15 (.iload_n 3) 1 16 := ⟨by decide +kernel, rfl⟩
theorem dX1_doublesOf_16 : zd cX1_doublesOf 16 (.invokestatic 16) 3 19 := ⟨by decide +kernel, rfl⟩
theorem dX1_doublesOf_19 : zd cX1_doublesOf 19 (.iload_n 2) 1 20 := ⟨by decide +kernel, rfl⟩
theorem dX1_doublesOf_20 : zd cX1_doublesOf 20 (.invokestatic 24) 3 23 := ⟨by decide +kernel, rfl⟩
theorem dX1_doublesOf_23 : zd cX1_doublesOf 23 (.iastore) 1 24 := ⟨by decide +kernel, rfl⟩
theorem dX1_doublesOf_24 : zd cX1_doublesOf 24 (.iinc 3 1) 3 27 := ⟨by decide +kernel, rfl⟩
theorem dX1_doublesOf_27 : zd cX1_doublesOf 27 (.goto (-25)) 3 30 := ⟨by decide +kernel, rfl⟩
theorem dX1_doublesOf_30 : zd cX1_doublesOf 30 (.iconst 0) 1 31 := ⟨by decide +kernel, rfl⟩
theorem dX1_doublesOf_31 : zd cX1_doublesOf 31 (.istore_n 3) 1 32 := ⟨by decide +kernel, rfl⟩
theorem dX1_doublesOf_32 : zd cX1_doublesOf 32 (.iconst 0) 1 33 := ⟨by decide +kernel, rfl⟩
theorem dX1_doublesOf_33 : zd cX1_doublesOf 33 (.istore 4) 2 35 := ⟨by decide +kernel, rfl⟩
theorem dX1_doublesOf_35 : zd cX1_doublesOf 35 (.iload 4) 2 37 := ⟨by decide +kernel, rfl⟩
theorem dX1_doublesOf_37 : zd cX1_doublesOf 37 (.bipush 60) 2 39 := ⟨by decide +kernel, rfl⟩
theorem dX1_doublesOf_39 : zd cX1_doublesOf 39 (.if_icmp .ge 18) 3 42 := ⟨by decide +kernel, rfl⟩
theorem dX1_doublesOf_42 : zd cX1_doublesOf 42 (.iload_n 3) 1 43 := ⟨by decide +kernel, rfl⟩
theorem dX1_doublesOf_43 : zd cX1_doublesOf 43 (.aload_n 0) 1 44 := ⟨by decide +kernel, rfl⟩
theorem dX1_doublesOf_44 : zd cX1_doublesOf 44 (.iload 4) 2 46 := ⟨by decide +kernel, rfl⟩
theorem dX1_doublesOf_46 : zd cX1_doublesOf 46 (.invokevirtual 28) 3 49 := ⟨by decide +kernel, rfl⟩
theorem dX1_doublesOf_49 : zd cX1_doublesOf 49 (.iadd) 1 50 := ⟨by decide +kernel, rfl⟩
theorem dX1_doublesOf_50 : zd cX1_doublesOf 50 (.istore_n 3) 1 51 := ⟨by decide +kernel, rfl⟩
theorem dX1_doublesOf_51 : zd cX1_doublesOf 51 (.iinc 4 1) 3 54 := ⟨by decide +kernel, rfl⟩
theorem dX1_doublesOf_54 : zd cX1_doublesOf 54 (.goto (-19)) 3 57 := ⟨by decide +kernel, rfl⟩
theorem dX1_doublesOf_57 : zd cX1_doublesOf 57 (.iload_n 3) 1 58 := ⟨by decide +kernel, rfl⟩
theorem dX1_doublesOf_58 : zd cX1_doublesOf 58 (.ireturn) 1 59 := ⟨by decide +kernel, rfl⟩
theorem dX1_doublesFrom_0 : zd cX1_doublesFrom 0 (.iconst 0) 1 1 := ⟨by decide +kernel, rfl⟩
theorem dX1_doublesFrom_1 : zd cX1_doublesFrom 1 (.istore_n 2) 1 2 := ⟨by decide +kernel, rfl⟩
theorem dX1_doublesFrom_2 : zd cX1_doublesFrom 2 (.iconst 0) 1 3 := ⟨by decide +kernel, rfl⟩
theorem dX1_doublesFrom_3 : zd cX1_doublesFrom 3 (.istore_n 3) 1 4 := ⟨by decide +kernel, rfl⟩
theorem dX1_doublesFrom_4 : zd cX1_doublesFrom 4 (.iload_n 1) 1 5 := ⟨by decide +kernel, rfl⟩
theorem dX1_doublesFrom_5 : zd cX1_doublesFrom 5 (.iconst 1) 1 6 := ⟨by decide +kernel, rfl⟩
theorem dX1_doublesFrom_6 : zd cX1_doublesFrom 6 (.iadd) 1 7 := ⟨by decide +kernel, rfl⟩
theorem dX1_doublesFrom_7 : zd cX1_doublesFrom 7 (.istore 4) 2 9 := ⟨by decide +kernel, rfl⟩
theorem dX1_doublesFrom_9 : zd cX1_doublesFrom 9 (.iload 4) 2 11 := ⟨by decide +kernel, rfl⟩
theorem dX1_doublesFrom_11 : zd cX1_doublesFrom 11 (.bipush 60) 2 13 := ⟨by decide +kernel, rfl⟩
theorem dX1_doublesFrom_13 : zd cX1_doublesFrom 13 (.if_icmp .ge 68) 3 16 := ⟨by decide +kernel, rfl⟩
theorem dX1_doublesFrom_16 : zd cX1_doublesFrom 16 (.aload_n 0) 1 17 := ⟨by decide +kernel, rfl⟩
theorem dX1_doublesFrom_17 : zd cX1_doublesFrom 17 (.getfield 9) 3 20 := ⟨by decide +kernel, rfl⟩
theorem dX1_doublesFrom_20 : zd cX1_doublesFrom 20 (.iload_n 1) 1 21 := ⟨by decide +kernel, rfl⟩
theorem dX1_doublesFrom_21 : zd cX1_doublesFrom 21 (.iaload) 1 22 := ⟨by decide +kernel, rfl⟩
theorem dX1_doublesFrom_22 : zd cX1_doublesFrom 22 (.aload_n 0) 1 23 := ⟨by decide +kernel, rfl⟩
theorem dX1_doublesFrom_23 : zd cX1_doublesFrom 23 (.getfield 9) 3 26 := ⟨by decide +kernel, rfl⟩
theorem dX1_doublesFrom_26 : zd cX1_doublesFrom 26 (.iload 4) 2 28 := ⟨by decide +kernel, rfl⟩
theorem dX1_doublesFrom_28 : zd cX1_doublesFrom 28 (.iaload) 1 29 := ⟨by decide +kernel, rfl⟩
theorem dX1_doublesFrom_29 : zd cX1_doublesFrom 29 (.iadd) 1 30 := ⟨by decide +kernel, rfl⟩
theorem dX1_doublesFrom_30 : zd cX1_doublesFrom 30 (.istore 5) 2 32 := ⟨by decide +kernel, rfl⟩
theorem dX1_doublesFrom_32 : zd cX1_doublesFrom 32 (.iload_n 3) 1 33 := ⟨by decide +kernel, rfl⟩
theorem dX1_doublesFrom_33 : zd cX1_doublesFrom 33 (.bipush 60) 2 35 := ⟨by decide +kernel, rfl⟩
theorem dX1_doublesFrom_35 : zd cX1_doublesFrom 35 (.if_icmp .ge 20) 3 38 := ⟨by decide +kernel, rfl⟩
theorem dX1_doublesFrom_38 : zd cX1_doublesFrom 38 (.aload_n 0) 1 39 := ⟨by decide +kernel, rfl⟩
theorem dX1_doublesFrom_39 : zd cX1_doublesFrom 39 (.getfield 9) 3 42 := ⟨by decide +kernel, rfl⟩
theorem dX1_doublesFrom_42 : zd cX1_doublesFrom 42 (.iload_n 3) 1 43 := ⟨by decide +kernel, rfl⟩
theorem dX1_doublesFrom_43 : zd cX1_doublesFrom 43 (.iaload) 1 44 := ⟨by decide +kernel, rfl⟩
theorem dX1_doublesFrom_44 : zd cX1_doublesFrom 44 (.iload 5) 2 46 := ⟨by decide +kernel, rfl⟩
theorem dX1_doublesFrom_46 : zd cX1_doublesFrom 46 (.if_icmp .ge 9) 3 49 := ⟨by decide +kernel, rfl⟩
theorem dX1_doublesFrom_49 : zd cX1_doublesFrom 49 (.iinc 3 1) 3 52 := ⟨by decide +kernel, rfl⟩
theorem dX1_doublesFrom_52 : zd cX1_doublesFrom 52 (.goto (-20)) 3 55 := ⟨by decide +kernel, rfl⟩
theorem dX1_doublesFrom_55 : zd cX1_doublesFrom 55 (.iload_n 3) 1 56 := ⟨by decide +kernel, rfl⟩
theorem dX1_doublesFrom_56 : zd cX1_doublesFrom 56 (.bipush 60) 2 58 := ⟨by decide +kernel, rfl⟩
theorem dX1_doublesFrom_58 : zd cX1_doublesFrom 58 (.if_icmp .ge 17) 3 61 := ⟨by decide +kernel, rfl⟩
theorem dX1_doublesFrom_61 : zd cX1_doublesFrom 61 (.aload_n 0) 1 62 := ⟨by decide +kernel, rfl⟩
theorem dX1_doublesFrom_62 : zd cX1_doublesFrom 62 (.getfield 9) 3 65 := ⟨by decide +kernel, rfl⟩
theorem dX1_doublesFrom_65 : zd cX1_doublesFrom 65 (.iload_n 3) 1 66 := ⟨by decide +kernel, rfl⟩
theorem dX1_doublesFrom_66 : zd cX1_doublesFrom 66 (.iaload) 1 67 := ⟨by decide +kernel, rfl⟩
theorem dX1_doublesFrom_67 : zd cX1_doublesFrom 67 (.iload 5) 2 69 := ⟨by decide +kernel, rfl⟩
theorem dX1_doublesFrom_69 : zd cX1_doublesFrom 69 (.if_icmp .ne 6) 3 72 := ⟨by decide +kernel, rfl⟩
theorem dX1_doublesFrom_72 : zd cX1_doublesFrom 72 (.iinc 2 1) 3 75 := ⟨by decide +kernel, rfl⟩
theorem dX1_doublesFrom_75 : zd cX1_doublesFrom 75 (.iinc 4 1) 3 78 := ⟨by decide +kernel, rfl⟩
theorem dX1_doublesFrom_78 : zd cX1_doublesFrom 78 (.goto (-69)) 3 81 := ⟨by decide +kernel, rfl⟩
theorem dX1_doublesFrom_81 : zd cX1_doublesFrom 81 (.iload_n 2) 1 82 := ⟨by decide +kernel, rfl⟩
theorem dX1_doublesFrom_82 : zd cX1_doublesFrom 82 (.ireturn) 1 83 := ⟨by decide +kernel, rfl⟩
theorem dX2_init_0 : zd cX2_init 0 (.aload_n 0) 1 1 := ⟨by decide +kernel, rfl⟩
theorem dX2_init_1 : zd cX2_init 1 (.invokespecial 1) 3 4 := ⟨by decide +kernel, rfl⟩
theorem dX2_init_4 : zd cX2_init 4 (.aload_n 0) 1 5 := ⟨by decide +kernel, rfl⟩
theorem dX2_init_5 : zd cX2_init 5 (.sipush 900) 3 8 := ⟨by decide +kernel, rfl⟩
theorem dX2_init_8 : zd cX2_init 8 (.newarray .long) 2 10 := ⟨by decide +kernel, rfl⟩
theorem dX2_init_10 : zd cX2_init 10 (.putfield 9) 3 13 := ⟨by decide +kernel, rfl⟩
theorem dX2_init_13 : zd cX2_init 13 (.aload_n 0) 1 14 := ⟨by decide +kernel, rfl⟩
theorem dX2_init_14 : zd cX2_init 14 (.sipush 900) 3 17 := ⟨by decide +kernel, rfl⟩
theorem dX2_init_17 : zd cX2_init 17 (.newarray .long) 2 19 := ⟨by decide +kernel, rfl⟩
theorem dX2_init_19 : zd cX2_init 19 (.putfield 13) 3 22 := ⟨by decide +kernel, rfl⟩
theorem dX2_init_22 : zd cX2_init 22 (.aload_n 0) 1 23 := ⟨by decide +kernel, rfl⟩
theorem dX2_init_23 : zd cX2_init 23 (.new 16) 3 26 := ⟨by decide +kernel, rfl⟩
theorem dX2_init_26 : zd cX2_init 26 (.dup) 1 27 := ⟨by decide +kernel, rfl⟩
theorem dX2_init_27 : zd cX2_init 27 (.invokespecial 18) 3 30 := ⟨by decide +kernel, rfl⟩
theorem dX2_init_30 : zd cX2_init 30 (.putfield 19) 3 33 := ⟨by decide +kernel, rfl⟩
theorem dX2_init_33 : zd cX2_init 33 (.aload_n 0) 1 34 := ⟨by decide +kernel, rfl⟩
theorem dX2_init_34 : zd cX2_init 34 (.new 16) 3 37 := ⟨by decide +kernel, rfl⟩
theorem dX2_init_37 : zd cX2_init 37 (.dup) 1 38 := ⟨by decide +kernel, rfl⟩
theorem dX2_init_38 : zd cX2_init 38 (.invokespecial 18) 3 41 := ⟨by decide +kernel, rfl⟩
theorem dX2_init_41 : zd cX2_init 41 (.putfield 23) 3 44 := ⟨by decide +kernel, rfl⟩
theorem dX2_init_44 : zd cX2_init 44 (.aload_n 0) 1 45 := ⟨by decide +kernel, rfl⟩
theorem dX2_init_45 : zd cX2_init 45 (.new 16) 3 48 := ⟨by decide +kernel, rfl⟩
theorem dX2_init_48 : zd cX2_init 48 (.dup) 1 49 := ⟨by decide +kernel, rfl⟩
theorem dX2_init_49 : zd cX2_init 49 (.invokespecial 18) 3 52 := ⟨by decide +kernel, rfl⟩
theorem dX2_init_52 : zd cX2_init 52 (.putfield 26) 3 55 := ⟨by decide +kernel, rfl⟩
theorem dX2_init_55 : zd cX2_init 55 (.new 16) 3 58 := ⟨by decide +kernel, rfl⟩
theorem dX2_init_58 : zd cX2_init 58 (.dup) 1 59 := ⟨by decide +kernel, rfl⟩
theorem dX2_init_59 : zd cX2_init 59 (.invokespecial 18) 3 62 := ⟨by decide +kernel, rfl⟩
theorem dX2_init_62 : zd cX2_init 62 (.astore_n 1) 1 63 := ⟨by decide +kernel, rfl⟩
theorem dX2_init_63 : zd cX2_init 63 (.iconst 1) 1 64 := ⟨by decide +kernel, rfl⟩
theorem dX2_init_64 : zd cX2_init 64 (.istore_n 2) 1 65 := ⟨by decide +kernel, rfl⟩
theorem dX2_init_65 : zd cX2_init 65 (.iload_n 2) 1 66 := ⟨by decide +kernel, rfl⟩
theorem dX2_init_66 : zd cX2_init 66 (.sipush 900) 3 69 := ⟨by decide +kernel, rfl⟩
theorem dX2_init_69 : zd cX2_init 69 (.if_icmp .ge 43) 3 72 := ⟨by decide +kernel, rfl⟩
theorem dX2_init_72 : zd cX2_init 72 (.aload_n 0) 1 73 := ⟨by decide +kernel, rfl⟩
theorem dX2_init_73 : zd cX2_init 73 (.aload_n 1) 1 74 := ⟨by decide +kernel, rfl⟩
theorem dX2_init_74 : zd cX2_init 74 (.iconst 1) 1 75 := ⟨by decide +kernel, rfl⟩
theorem dX2_init_75 : zd cX2_init 75 (.iconst 2) 1 76 := ⟨by decide +kernel, rfl⟩
theorem dX2_init_76 : zd cX2_init 76 (.bipush 100) 2 78 := ⟨by decide +kernel, rfl⟩
theorem dX2_init_78 : zd cX2_init 78 (.iload_n 2) 1 79 := ⟨by decide +kernel, rfl⟩
theorem dX2_init_79 : zd cX2_init 79 (.iadd) 1 80 := ⟨by decide +kernel, rfl⟩
theorem dX2_init_80 : zd cX2_init 80 (.imul) 1 81 := ⟨by decide +kernel, rfl⟩
theorem dX2_init_81 : zd cX2_init 81 (.iconst 1) 1 82 := ⟨by decide +kernel, rfl⟩
theorem dX2_init_82 : zd cX2_init 82 (.isub) 1 83 := ⟨by decide +kernel, rfl⟩
theorem dX2_init_83 : zd cX2_init 83 (.invokevirtual 29) 3 86 := ⟨by decide +kernel, rfl⟩
theorem dX2_init_86 : zd cX2_init 86 (.aload_n 0) 1 87 := ⟨by decide +kernel, rfl⟩
theorem dX2_init_87 : zd cX2_init 87 (.getfield 9) 3 90 := ⟨by decide +kernel, rfl⟩
theorem dX2_init_90 : zd cX2_init 90 (.iload_n 2) 1 91 := ⟨by decide +kernel, rfl⟩
theorem dX2_init_91 : zd cX2_init 91 (.aload_n 1) 1 92 := ⟨by decide +kernel, rfl⟩
theorem dX2_init_92 : zd cX2_init 92 (.getfield 33) 3 95 := ⟨by decide +kernel, rfl⟩
theorem dX2_init_95 : zd cX2_init 95 (.lastore) 1 96 := ⟨by decide +kernel, rfl⟩
theorem dX2_init_96 : zd cX2_init 96 (.aload_n 0) 1 97 := ⟨by decide +kernel, rfl⟩
theorem dX2_init_97 : zd cX2_init 97 (.getfield 13) 3 100 := ⟨by decide +kernel, rfl⟩
theorem dX2_init_100 : zd cX2_init 100 (.iload_n 2) 1 101 := ⟨by decide +kernel, rfl⟩
theorem dX2_init_101 : zd cX2_init 101 (.aload_n 1) 1 102 := ⟨by decide +kernel, rfl⟩
theorem dX2_init_102 : zd cX2_init 102 (.getfield 37) 3 105 := ⟨by decide +kernel, rfl⟩
theorem dX2_init_105 : zd cX2_init 105 (.lastore) 1 106 := ⟨by decide +kernel, rfl⟩
theorem dX2_init_106 : zd cX2_init 106 (.iinc 2 1) 3 109 := ⟨by decide +kernel, rfl⟩
theorem dX2_init_109 : zd cX2_init 109 (.goto (-44)) 3 112 := ⟨by decide +kernel, rfl⟩
theorem dX2_init_112 : zd cX2_init 112 (.return_) 1 113 := ⟨by decide +kernel, rfl⟩
theorem dX2_addGrowth_0 : zd cX2_addGrowth 0 (.iload_n 2) 1 1 := ⟨by decide +kernel, rfl⟩
theorem dX2_addGrowth_1 : zd cX2_addGrowth 1 (.iconst 1) 1 2 := ⟨by decide +kernel, rfl⟩
theorem dX2_addGrowth_2 : zd cX2_addGrowth 2 (.if_icmp .ge 4) 3 5 := ⟨by decide +kernel, rfl⟩
theorem dX2_addGrowth_5 : zd cX2_addGrowth 5 (.return_) 1 6 := ⟨by decide +kernel, rfl⟩
theorem dX2_addGrowth_6 : zd cX2_addGrowth 6 (.aload_n 0) 1 7 := ⟨by decide +kernel, rfl⟩
theorem dX2_addGrowth_7 : zd cX2_addGrowth 7 (.getfield 19) 3 10 := ⟨by decide +kernel, rfl⟩
theorem dX2_addGrowth_10 : zd cX2_addGrowth 10 (.ldc2_w 40) 3 13 := ⟨by decide +kernel, rfl⟩
theorem dX2_addGrowth_13 : zd cX2_addGrowth 13 (.ldc2_w 42) 3 16 := ⟨by decide +kernel, rfl⟩
theorem dX2_addGrowth_16 : zd cX2_addGrowth 16 (.invokevirtual 44) 3 19 := ⟨by decide +kernel, rfl⟩
theorem dX2_addGrowth_19 : zd cX2_addGrowth 19 (.aload_n 0) 1 20 := ⟨by decide +kernel, rfl⟩
theorem dX2_addGrowth_20 : zd cX2_addGrowth 20 (.getfield 19) 3 23 := ⟨by decide +kernel, rfl⟩
theorem dX2_addGrowth_23 : zd cX2_addGrowth 23 (.iload_n 2) 1 24 := ⟨by decide +kernel, rfl⟩
theorem dX2_addGrowth_24 : zd cX2_addGrowth 24 (.iload_n 3) 1 25 := ⟨by decide +kernel, rfl⟩
theorem dX2_addGrowth_25 : zd cX2_addGrowth 25 (.invokevirtual 48) 3 28 := ⟨by decide +kernel, rfl⟩
theorem dX2_addGrowth_28 : zd cX2_addGrowth 28 (.iconst 1) 1 29 := ⟨by decide +kernel, rfl⟩
theorem dX2_addGrowth_29 : zd cX2_addGrowth 29 (.istore 4) 2 31 := ⟨by decide +kernel, rfl⟩
theorem dX2_addGrowth_31 : zd cX2_addGrowth 31 (.iload 4) 2 33 := ⟨by decide +kernel, rfl⟩
theorem dX2_addGrowth_33 : zd cX2_addGrowth 33 (.bipush 99) 2 35 := ⟨by decide +kernel, rfl⟩
theorem dX2_addGrowth_35 : zd cX2_addGrowth 35 (.if_icmp .gt 47) 3 38 := ⟨by decide +kernel, rfl⟩
theorem dX2_addGrowth_38 : zd cX2_addGrowth 38 (.aload_n 0) 1 39 := ⟨by decide +kernel, rfl⟩
theorem dX2_addGrowth_39 : zd cX2_addGrowth 39 (.getfield 19) 3 42 := ⟨by decide +kernel, rfl⟩
theorem dX2_addGrowth_42 : zd cX2_addGrowth 42 (.invokevirtual 52) 3 45 := ⟨by decide +kernel, rfl⟩
theorem dX2_addGrowth_45 : zd cX2_addGrowth 45 (.ifCond .ne 37) 3 48 := ⟨by decide +kernel, rfl⟩
theorem dX2_addGrowth_48 : zd cX2_addGrowth 48 (.aload_n 1) 1 49 := ⟨by decide +kernel, rfl⟩
theorem dX2_addGrowth_49 : zd cX2_addGrowth 49 (.aload_n 0) 1 50 := ⟨by decide +kernel, rfl⟩
theorem dX2_addGrowth_50 : zd cX2_addGrowth 50 (.getfield 19) 3 53 := ⟨by decide +kernel, rfl⟩
theorem dX2_addGrowth_53 : zd cX2_addGrowth 53 (.iload 4) 2 55 := ⟨by decide +kernel, rfl⟩
theorem dX2_addGrowth_55 : zd cX2_addGrowth 55 (.invokevirtual 56) 3 58 := ⟨by decide +kernel, rfl⟩
theorem dX2_addGrowth_58 : zd cX2_addGrowth 58 (.aload_n 0) 1 59 := ⟨by decide +kernel, rfl⟩
theorem dX2_addGrowth_59 : zd cX2_addGrowth 59 (.getfield 19) 3 62 := ⟨by decide +kernel, rfl⟩
theorem dX2_addGrowth_62 : zd cX2_addGrowth 62 (.iload_n 2) 1 63 := ⟨by decide +kernel, rfl⟩
theorem dX2_addGrowth_63 : zd cX2_addGrowth 63 (.iload_n 3) 1 64 := ⟨by decide +kernel, rfl⟩
theorem dX2_addGrowth_64 : zd cX2_addGrowth 64 (.invokevirtual 48) 3 67 := ⟨by decide +kernel, rfl⟩
theorem dX2_addGrowth_67 : zd cX2_addGrowth 67 (.aload_n 0) 1 68 := ⟨by decide +kernel, rfl⟩
theorem dX2_addGrowth_68 : zd cX2_addGrowth 68 (.getfield 19) 3 71 := ⟨by decide +kernel, rfl⟩
theorem dX2_addGrowth_71 : zd cX2_addGrowth 71 (.iload_n 2) 1 72 := ⟨by decide +kernel, rfl⟩
theorem dX2_addGrowth_72 : zd cX2_addGrowth 72 (.iload_n 3) 1 73 := ⟨by decide +kernel, rfl⟩
theorem dX2_addGrowth_73 : zd cX2_addGrowth 73 (.invokevirtual 48) 3 76 := ⟨by decide +kernel, rfl⟩
theorem dX2_addGrowth_76 : zd cX2_addGrowth 76 (.iinc 4 2) 3 79 := ⟨by decide +kernel, rfl⟩
theorem dX2_addGrowth_79 : zd cX2_addGrowth 79 (.goto (-48)) 3 82 := ⟨by decide +kernel, rfl⟩
theorem dX2_addGrowth_82 : zd cX2_addGrowth 82 (.return_) 1 83 := ⟨by decide +kernel, rfl⟩
theorem dX2_putLog_0 : zd cX2_putLog 0 (.iconst 0) 1 1 := ⟨by decide +kernel, rfl⟩
theorem dX2_putLog_1 : zd cX2_putLog 1 (.istore_n 3) 1 2 := ⟨by decide +kernel, rfl⟩
theorem dX2_putLog_2 : zd cX2_putLog 2 (.iconst 1) 1 3 := ⟨by decide +kernel, rfl⟩
theorem dX2_putLog_3 : zd cX2_putLog 3 (.istore 4) 2 5 := ⟨by decide +kernel, rfl⟩
theorem dX2_putLog_5 : zd cX2_putLog 5 (.iload_n 3) 1 6 := ⟨by decide +kernel, rfl⟩
theorem dX2_putLog_6 : zd cX2_putLog 6 (.iconst 3) 1 7 := ⟨by decide +kernel, rfl⟩
theorem dX2_putLog_7 : zd cX2_putLog 7 (.if_icmp .ge 26) 3 10 := ⟨by decide +kernel, rfl⟩
theorem dX2_putLog_10 : zd cX2_putLog 10 (.iload_n 2) 1 11 := ⟨by decide +kernel, rfl⟩
theorem dX2_putLog_11 : zd cX2_putLog 11 (.iload 4) 2 13 := ⟨by decide +kernel, rfl⟩
theorem dX2_putLog_13 : zd cX2_putLog 13 (.idiv) 1 14 := ⟨by decide +kernel, rfl⟩
theorem dX2_putLog_14 : zd cX2_putLog 14 (.sipush 1000) 3 17 := ⟨by decide +kernel, rfl⟩
theorem dX2_putLog_17 : zd cX2_putLog 17 (.if_icmp .lt 16) 3 20 := ⟨by decide +kernel, rfl⟩
theorem dX2_putLog_20 : zd cX2_putLog 20 (.iinc 3 1) 3 23 := ⟨by decide +kernel, rfl⟩
theorem dX2_putLog_23 : zd cX2_putLog 23 (.iload 4) 2 25 := ⟨by decide +kernel, rfl⟩
theorem dX2_putLog_25 : zd cX2_putLog 25 (.bipush 10) 2 27 := ⟨by decide +kernel, rfl⟩
theorem dX2_putLog_27 : zd cX2_putLog 27 (.imul) 1 28 := ⟨by decide +kernel, rfl⟩
theorem dX2_putLog_28 : zd cX2_putLog 28 (.istore 4) 2 30 := ⟨by decide +kernel, rfl⟩
theorem dX2_putLog_30 : zd cX2_putLog 30 (.goto (-25)) 3 33 := ⟨by decide +kernel, rfl⟩
theorem dX2_putLog_33 : zd cX2_putLog 33 (.iload_n 2) 1 34 := ⟨by decide +kernel, rfl⟩
theorem dX2_putLog_34 : zd cX2_putLog 34 (.iload 4) 2 36 := ⟨by decide +kernel, rfl⟩
theorem dX2_putLog_36 : zd cX2_putLog 36 (.idiv) 1 37 := ⟨by decide +kernel, rfl⟩
theorem dX2_putLog_37 : zd cX2_putLog 37 (.bipush 100) 2 39 := ⟨by decide +kernel, rfl⟩
theorem dX2_putLog_39 : zd cX2_putLog 39 (.isub) 1 40 := ⟨by decide +kernel, rfl⟩
theorem dX2_putLog_40 : zd cX2_putLog 40 (.istore 5) 2 42 := ⟨by decide +kernel, rfl⟩
theorem dX2_putLog_42 : zd cX2_putLog 42 (.iload 5) 2 44 := ⟨by decide +kernel, rfl⟩
theorem dX2_putLog_44 : zd cX2_putLog 44 (.ifCond .lt 11) 3 47 := ⟨by decide +kernel, rfl⟩
theorem dX2_putLog_47 : zd cX2_putLog 47 (.iload 5) 2 49 := ⟨by decide +kernel, rfl⟩
theorem dX2_putLog_49 : zd cX2_putLog 49 (.sipush 900) 3 52 := ⟨by decide +kernel, rfl⟩
theorem dX2_putLog_52 : zd cX2_putLog 52 (.if_icmp .lt 4) 3 55 := ⟨by decide +kernel, rfl⟩
theorem dX2_putLog_55 : zd cX2_putLog 55 (.return_) 1 56 := ⟨by decide +kernel, rfl⟩
theorem dX2_putLog_56 : zd cX2_putLog 56 (.aload_n 1) 1 57 := ⟨by decide +kernel, rfl⟩
theorem dX2_putLog_57 : zd cX2_putLog 57 (.aload_n 0) 1 58 := ⟨by decide +kernel, rfl⟩
theorem dX2_putLog_58 : zd cX2_putLog 58 (.getfield 9) 3 61 := ⟨by decide +kernel, rfl⟩
theorem dX2_putLog_61 : zd cX2_putLog 61 (.iload 5) 2 63 := ⟨by decide +kernel, rfl⟩
theorem dX2_putLog_63 : zd cX2_putLog 63 (.laload) 1 64 := ⟨by decide +kernel, rfl⟩
theorem dX2_putLog_64 : zd cX2_putLog 64 (.iload_n 3) 1 65 := ⟨by decide +kernel, rfl⟩
theorem dX2_putLog_65 : zd cX2_putLog 65 (.i2l) 1 66 := ⟨by decide +kernel, rfl⟩
theorem dX2_putLog_66 : zd cX2_putLog 66 (.bipush 44) 2 68 := ⟨by decide +kernel, rfl⟩
theorem dX2_putLog_68 : zd cX2_putLog 68 (.lshl) 1 69 := ⟨by decide +kernel, rfl⟩
theorem dX2_putLog_69 : zd cX2_putLog 69 (.ladd) 1 70 := ⟨by decide +kernel, rfl⟩
theorem dX2_putLog_70 : zd cX2_putLog 70 (.aload_n 0) 1 71 := ⟨by decide +kernel, rfl⟩
theorem dX2_putLog_71 : zd cX2_putLog 71 (.getfield 13) 3 74 := ⟨by decide +kernel, rfl⟩
theorem dX2_putLog_74 : zd cX2_putLog 74 (.iload 5) 2 76 := ⟨by decide +kernel, rfl⟩
theorem dX2_putLog_76 : zd cX2_putLog 76 (.laload) 1 77 := ⟨by decide +kernel, rfl⟩
theorem dX2_putLog_77 : zd cX2_putLog 77 (.invokevirtual 44) 3 80 := ⟨by decide +kernel, rfl⟩
theorem dX2_putLog_80 : zd cX2_putLog 80 (.iload 5) 2 82 := ⟨by decide +kernel, rfl⟩
theorem dX2_putLog_82 : zd cX2_putLog 82 (.bipush 100) 2 84 := ⟨by decide +kernel, rfl⟩
theorem dX2_putLog_84 : zd cX2_putLog 84 (.iadd) 1 85 := ⟨by decide +kernel, rfl⟩
theorem dX2_putLog_85 : zd cX2_putLog 85 (.iload 4) 2 87 := ⟨by decide +kernel, rfl⟩
theorem dX2_putLog_87 : zd cX2_putLog 87 (.imul) 1 88 := ⟨by decide +kernel, rfl⟩
theorem dX2_putLog_88 : zd cX2_putLog 88 (.istore 6) 2 90 := ⟨by decide +kernel, rfl⟩
theorem dX2_putLog_90 : zd cX2_putLog 90 (.aload_n 0) 1 91 := ⟨by decide +kernel, rfl⟩
theorem dX2_putLog_91 : zd cX2_putLog 91 (.aload_n 1) 1 92 := ⟨by decide +kernel, rfl⟩
theorem dX2_putLog_92 : zd cX2_putLog 92 (.iload_n 2) 1 93 := ⟨by decide +kernel, rfl⟩
theorem dX2_putLog_93 : zd cX2_putLog 93 (.iload 6) 2 95 := ⟨by decide +kernel, rfl⟩
theorem dX2_putLog_95 : zd cX2_putLog 95 (.isub) 1 96 := ⟨by decide +kernel, rfl⟩
theorem dX2_putLog_96 : zd cX2_putLog 96 (.iload_n 2) 1 97 := ⟨by decide +kernel, rfl⟩
theorem dX2_putLog_97 : zd cX2_putLog 97 (.iload 6) 2 99 := ⟨by decide +kernel, rfl⟩
theorem dX2_putLog_99 : zd cX2_putLog 99 (.iadd) 1 100 := ⟨by decide +kernel, rfl⟩
theorem dX2_putLog_100 : zd cX2_putLog 100 (.invokevirtual 29) 3 103 := ⟨by decide +kernel, rfl⟩
theorem dX2_putLog_103 : zd cX2_putLog 103 (.return_) 1 104 := ⟨by decide +kernel, rfl⟩
theorem dX2_placeOf_0 : zd cX2_placeOf 0 (.iload_n 3) 1 1 := ⟨by decide +kernel, rfl⟩
theorem dX2_placeOf_1 : zd cX2_placeOf 1 (.iconst 1) 1 2 := ⟨by decide +kernel, rfl⟩
theorem dX2_placeOf_2 : zd cX2_placeOf 2 (.if_icmp .ge 5) 3 5 := ⟨by decide +kernel, rfl⟩
theorem dX2_placeOf_5 : zd cX2_placeOf 5 (.iconst 0) 1 6 := ⟨by decide +kernel, rfl⟩
theorem dX2_placeOf_6 : zd cX2_placeOf 6 (.ireturn) 1 7 := ⟨by decide +kernel, rfl⟩
theorem dX2_placeOf_7 : zd cX2_placeOf 7 (.aload_n 0) 1 8 := ⟨by decide +kernel, rfl⟩
theorem dX2_placeOf_8 : zd cX2_placeOf 8 (.aload_n 0) 1 9 := ⟨by decide +kernel, rfl⟩
theorem dX2_placeOf_9 : zd cX2_placeOf 9 (.getfield 23) 3 12 := ⟨by decide +kernel, rfl⟩
theorem dX2_placeOf_12 : zd cX2_placeOf 12 (.iload_n 1) 1 13 := ⟨by decide +kernel, rfl⟩
theorem dX2_placeOf_13 : zd cX2_placeOf 13 (.invokevirtual 60) 3 16 := ⟨by decide +kernel, rfl⟩
theorem dX2_placeOf_16 : zd cX2_placeOf 16 (.aload_n 0) 1 17 := ⟨by decide +kernel, rfl⟩
theorem dX2_placeOf_17 : zd cX2_placeOf 17 (.aload_n 0) 1 18 := ⟨by decide +kernel, rfl⟩
theorem dX2_placeOf_18 : zd cX2_placeOf 18 (.getfield 26) 3 21 := ⟨by decide +kernel, rfl⟩
theorem dX2_placeOf_21 : zd cX2_placeOf 21 (.bipush 10) 2 23 := ⟨by decide +kernel, rfl⟩
theorem dX2_placeOf_23 : zd cX2_placeOf 23 (.iload 4) 2 25 := ⟨by decide +kernel, rfl⟩
theorem dX2_placeOf_25 : zd cX2_placeOf 25 (.imul) 1 26 := ⟨by decide +kernel, rfl⟩
theorem dX2_placeOf_26 : zd cX2_placeOf 26 (.invokevirtual 60) 3 29 := ⟨by decide +kernel, rfl⟩
theorem dX2_placeOf_29 : zd cX2_placeOf 29 (.aload_n 0) 1 30 := ⟨by decide +kernel, rfl⟩
theorem dX2_placeOf_30 : zd cX2_placeOf 30 (.getfield 23) 3 33 := ⟨by decide +kernel, rfl⟩
theorem dX2_placeOf_33 : zd cX2_placeOf 33 (.aload_n 0) 1 34 := ⟨by decide +kernel, rfl⟩
theorem dX2_placeOf_34 : zd cX2_placeOf 34 (.getfield 26) 3 37 := ⟨by decide +kernel, rfl⟩
theorem dX2_placeOf_37 : zd cX2_placeOf 37 (.invokevirtual 63) 3 40 := ⟨by decide +kernel, rfl⟩
theorem dX2_placeOf_40 : zd cX2_placeOf 40 (.aload_n 0) 1 41 := ⟨by decide +kernel, rfl⟩
theorem dX2_placeOf_41 : zd cX2_placeOf 41 (.getfield 23) 3 44 := ⟨by decide +kernel, rfl⟩
theorem dX2_placeOf_44 : zd cX2_placeOf 44 (.iconst 2) 1 45 := ⟨by decide +kernel, rfl⟩
theorem dX2_placeOf_45 : zd cX2_placeOf 45 (.iload_n 2) 1 46 := ⟨by decide +kernel, rfl⟩
theorem dX2_placeOf_46 : zd cX2_placeOf 46 (.imul) 1 47 := ⟨by decide +kernel, rfl⟩
theorem dX2_placeOf_47 : zd cX2_placeOf 47 (.invokevirtual 67) 3 50 := ⟨by decide +kernel, rfl⟩
theorem dX2_placeOf_50 : zd cX2_placeOf 50 (.lstore 5) 2 52 := ⟨by decide +kernel, rfl⟩
theorem dX2_placeOf_52 : zd cX2_placeOf 52 (.lload 5) 2 54 := ⟨by decide +kernel, rfl⟩
theorem dX2_placeOf_54 : zd cX2_placeOf 54 (.iload_n 3) 1 55 := ⟨by decide +kernel, rfl⟩
theorem dX2_placeOf_55 : zd cX2_placeOf 55 (.i2l) 1 56 := ⟨by decide +kernel, rfl⟩
theorem dX2_placeOf_56 : zd cX2_placeOf 56 (.ladd) 1 57 := ⟨by decide +kernel, rfl⟩
theorem dX2_placeOf_57 : zd cX2_placeOf 57 (.ldc2_w 71) 3 60 := ⟨by decide +kernel, rfl⟩
theorem dX2_placeOf_60 : zd cX2_placeOf 60 (.iload_n 3) 1 61 := ⟨by decide +kernel, rfl⟩
theorem dX2_placeOf_61 : zd cX2_placeOf 61 (.i2l) 1 62 := ⟨by decide +kernel, rfl⟩
theorem dX2_placeOf_62 : zd cX2_placeOf 62 (.lmul) 1 63 := ⟨by decide +kernel, rfl⟩
theorem dX2_placeOf_63 : zd cX2_placeOf 63 (.invokestatic 73) 3 66 := ⟨by decide +kernel, rfl⟩
theorem dX2_placeOf_66 : zd cX2_placeOf 66 (.l2i) 1 67 := ⟨by decide +kernel, rfl⟩
theorem dX2_placeOf_67 : zd cX2_placeOf 67 (.ireturn) 1 68 := ⟨by decide +kernel, rfl⟩
theorem dX3_init_0 : zd cX3_init 0 (.aload_n 0) 1 1 := ⟨by decide +kernel, rfl⟩
theorem dX3_init_1 : zd cX3_init 1 (.invokespecial 1) 3 4 := ⟨by decide +kernel, rfl⟩
theorem dX3_init_4 : zd cX3_init 4 (.aload_n 0) 1 5 := ⟨by decide +kernel, rfl⟩
theorem dX3_init_5 : zd cX3_init 5 (.iconst 0) 1 6 := ⟨by decide +kernel, rfl⟩
theorem dX3_init_6 : zd cX3_init 6 (.putfield 7) 3 9 := ⟨by decide +kernel, rfl⟩
theorem dX3_init_9 : zd cX3_init 9 (.aload_n 0) 1 10 := ⟨by decide +kernel, rfl⟩
theorem dX3_init_10 : zd cX3_init 10 (.iconst 0) 1 11 := ⟨by decide +kernel, rfl⟩
theorem dX3_init_11 : zd cX3_init 11 (.putfield 13) 3 14 := ⟨by decide +kernel, rfl⟩
theorem dX3_init_14 : zd cX3_init 14 (.return_) 1 15 := ⟨by decide +kernel, rfl⟩
theorem dX3_find_0 : zd cX3_find 0 (.aload_n 0) 1 1 := ⟨by decide +kernel, rfl⟩
theorem dX3_find_1 : zd cX3_find 1 (.iconst 0) 1 2 := ⟨by decide +kernel, rfl⟩
theorem dX3_find_2 : zd cX3_find 2 (.putfield 13) 3 5 := ⟨by decide +kernel, rfl⟩
theorem dX3_find_5 : zd cX3_find 5 (.aload_n 0) 1 6 := ⟨by decide +kernel, rfl⟩
theorem dX3_find_6 : zd cX3_find 6 (.iconst 0) 1 7 := ⟨by decide +kernel, rfl⟩
theorem dX3_find_7 : zd cX3_find 7 (.putfield 7) 3 10 := ⟨by decide +kernel, rfl⟩
theorem dX3_find_10 : zd cX3_find 10 (.iconst 0) 1 11 := ⟨by decide +kernel, rfl⟩
theorem dX3_find_11 : zd cX3_find 11 (.istore_n 3) 1 12 := ⟨by decide +kernel, rfl⟩
theorem dX3_find_12 : zd cX3_find 12 (.iload_n 3) 1 13 := ⟨by decide +kernel, rfl⟩
theorem dX3_find_13 : zd cX3_find 13 (.aload_n 1) 1 14 := ⟨by decide +kernel, rfl⟩
theorem dX3_find_14 : zd cX3_find 14 (.getfield 16) 3 17 := ⟨by decide +kernel, rfl⟩
theorem dX3_find_17 : zd cX3_find 17 (.if_icmp .ge 76) 3 20 := ⟨by decide +kernel, rfl⟩
theorem dX3_find_20 : zd cX3_find 20 (.iconst 0) 1 21 := ⟨by decide +kernel, rfl⟩
theorem dX3_find_21 : zd cX3_find 21 (.istore 4) 2 23 := ⟨by decide +kernel, rfl⟩
theorem dX3_find_23 : zd cX3_find 23 (.iload 4) 2 25 := ⟨by decide +kernel, rfl⟩
theorem dX3_find_25 : zd cX3_find 25 (.aload_n 2) 1 26 := ⟨by decide +kernel, rfl⟩
theorem dX3_find_26 : zd cX3_find 26 (.getfield 16) 3 29 := ⟨by decide +kernel, rfl⟩
theorem dX3_find_29 : zd cX3_find 29 (.if_icmp .ge 58) 3 32 := ⟨by decide +kernel, rfl⟩
theorem dX3_find_32 : zd cX3_find 32 (.aload_n 1) 1 33 := ⟨by decide +kernel, rfl⟩
theorem dX3_find_33 : zd cX3_find 33 (.getfield 16) 3 36 := ⟨by decide +kernel, rfl⟩
theorem dX3_find_36 : zd cX3_find 36 (.iload_n 3) 1 37 := ⟨by decide +kernel, rfl⟩
theorem dX3_find_37 : zd cX3_find 37 (.isub) 1 38 := ⟨by decide +kernel, rfl⟩
theorem dX3_find_38 : zd cX3_find 38 (.aload_n 2) 1 39 := ⟨by decide +kernel, rfl⟩
theorem dX3_find_39 : zd cX3_find 39 (.getfield 16) 3 42 := ⟨by decide +kernel, rfl⟩
theorem dX3_find_42 : zd cX3_find 42 (.iload 4) 2 44 := ⟨by decide +kernel, rfl⟩
theorem dX3_find_44 : zd cX3_find 44 (.isub) 1 45 := ⟨by decide +kernel, rfl⟩
theorem dX3_find_45 : zd cX3_find 45 (.invokestatic 21) 3 48 := ⟨by decide +kernel, rfl⟩
theorem dX3_find_48 : zd cX3_find 48 (.aload_n 0) 1 49 := ⟨by decide +kernel, rfl⟩
theorem dX3_find_49 : zd cX3_find 49 (.getfield 13) 3 52 := ⟨by decide +kernel, rfl⟩
theorem dX3_find_52 : zd cX3_find 52 (.if_icmp .lt 29) 3 55 := ⟨by decide +kernel, rfl⟩
theorem dX3_find_55 : zd cX3_find 55 (.aload_n 0) 1 56 := ⟨by decide +kernel, rfl⟩
theorem dX3_find_56 : zd cX3_find 56 (.aload_n 1) 1 57 := ⟨by decide +kernel, rfl⟩
theorem dX3_find_57 : zd cX3_find 57 (.getfield 27) 3 60 := ⟨by decide +kernel, rfl⟩
theorem dX3_find_60 : zd cX3_find 60 (.iload_n 3) 1 61 := ⟨by decide +kernel, rfl⟩
theorem dX3_find_61 : zd cX3_find 61 (.iaload) 1 62 := ⟨by decide +kernel, rfl⟩
theorem dX3_find_62 : zd cX3_find 62 (.aload_n 2) 1 63 := ⟨by decide +kernel, rfl⟩
theorem dX3_find_63 : zd cX3_find 63 (.getfield 27) 3 66 := ⟨by decide +kernel, rfl⟩
theorem dX3_find_66 : zd cX3_find 66 (.iload 4) 2 68 := ⟨by decide +kernel, rfl⟩
theorem dX3_find_68 : zd cX3_find 68 (.iaload) 1 69 := ⟨by decide +kernel, rfl⟩
theorem dX3_find_69 : zd cX3_find 69 (.isub) 1 70 := ⟨by decide +kernel, rfl⟩
theorem dX3_find_70 : zd cX3_find 70 (.aload_n 1) 1 71 := ⟨by decide +kernel, rfl⟩
theorem dX3_find_71 : zd cX3_find 71 (.iload_n 3) 1 72 := ⟨by decide +kernel, rfl⟩
theorem dX3_find_72 : zd cX3_find 72 (.aload_n 2) 1 73 := ⟨by decide +kernel, rfl⟩
theorem dX3_find_73 : zd cX3_find 73 (.iload 4) 2 75 := ⟨by decide +kernel, rfl⟩
theorem dX3_find_75 : zd cX3_find 75 (.invokestatic 31) 3 78 := ⟨by decide +kernel, rfl⟩
theorem dX3_find_78 : zd cX3_find 78 (.invokevirtual 35) 3 81 := ⟨by decide +kernel, rfl⟩
theorem dX3_find_81 : zd cX3_find 81 (.iinc 4 1) 3 84 := ⟨by decide +kernel, rfl⟩
theorem dX3_find_84 : zd cX3_find 84 (.goto (-61)) 3 87 := ⟨by decide +kernel, rfl⟩
theorem dX3_find_87 : zd cX3_find 87 (.iinc 3 1) 3 90 := ⟨by decide +kernel, rfl⟩
theorem dX3_find_90 : zd cX3_find 90 (.goto (-78)) 3 93 := ⟨by decide +kernel, rfl⟩
theorem dX3_find_93 : zd cX3_find 93 (.return_) 1 94 := ⟨by decide +kernel, rfl⟩
theorem dX3_alike_0 : zd cX3_alike 0 (.aload_n 0) 1 1 := ⟨by decide +kernel, rfl⟩
theorem dX3_alike_1 : zd cX3_alike 1 (.getfield 27) 3 4 := ⟨by decide +kernel, rfl⟩
theorem dX3_alike_4 : zd cX3_alike 4 (.iload_n 1) 1 5 := ⟨by decide +kernel, rfl⟩
theorem dX3_alike_5 : zd cX3_alike 5 (.iaload) 1 6 := ⟨by decide +kernel, rfl⟩
theorem dX3_alike_6 : zd cX3_alike 6 (.aload_n 2) 1 7 := ⟨by decide +kernel, rfl⟩
theorem dX3_alike_7 : zd cX3_alike 7 (.getfield 27) 3 10 := ⟨by decide +kernel, rfl⟩
theorem dX3_alike_10 : zd cX3_alike 10 (.iload_n 3) 1 11 := ⟨by decide +kernel, rfl⟩
theorem dX3_alike_11 : zd cX3_alike 11 (.iaload) 1 12 := ⟨by decide +kernel, rfl⟩
theorem dX3_alike_12 : zd cX3_alike 12 (.isub) 1 13 := ⟨by decide +kernel, rfl⟩
theorem dX3_alike_13 : zd cX3_alike 13 (.istore 4) 2 15 := ⟨by decide +kernel, rfl⟩
theorem dX3_alike_15 : zd cX3_alike 15 (.iconst 0) 1 16 := ⟨by decide +kernel, rfl⟩
theorem dX3_alike_16 : zd cX3_alike 16 (.istore 5) 2 18 := ⟨by decide +kernel, rfl⟩
theorem dX3_alike_18 : zd cX3_alike 18 (.iload_n 3) 1 19 := ⟨by decide +kernel, rfl⟩
theorem dX3_alike_19 : zd cX3_alike 19 (.istore 6) 2 21 := ⟨by decide +kernel, rfl⟩
theorem dX3_alike_21 : zd cX3_alike 21 (.iload_n 1) 1 22 := ⟨by decide +kernel, rfl⟩
theorem dX3_alike_22 : zd cX3_alike 22 (.istore 7) 2 24 := ⟨by decide +kernel, rfl⟩
theorem dX3_alike_24 : zd cX3_alike 24 (.iload 7) 2 26 := ⟨by decide +kernel, rfl⟩
theorem dX3_alike_26 : zd cX3_alike 26 (.aload_n 0) 1 27 := ⟨by decide +kernel, rfl⟩
theorem dX3_alike_27 : zd cX3_alike 27 (.getfield 16) 3 30 := ⟨by decide +kernel, rfl⟩
theorem dX3_alike_30 : zd cX3_alike 30 (.if_icmp .ge 72) 3 33 := ⟨by decide +kernel, rfl⟩
theorem dX3_alike_33 : zd cX3_alike 33 (.aload_n 0) 1 34 := ⟨by decide +kernel, rfl⟩
theorem dX3_alike_34 : zd cX3_alike 34 (.getfield 27) 3 37 := ⟨by decide +kernel, rfl⟩
theorem dX3_alike_37 : zd cX3_alike 37 (.iload 7) 2 39 := ⟨by decide +kernel, rfl⟩
theorem dX3_alike_39 : zd cX3_alike 39 (.iaload) 1 40 := ⟨by decide +kernel, rfl⟩
theorem dX3_alike_40 : zd cX3_alike 40 (.iload 4) 2 42 := ⟨by decide +kernel, rfl⟩
theorem dX3_alike_42 : zd cX3_alike 42 (.isub) 1 43 := ⟨by decide +kernel, rfl⟩
theorem dX3_alike_43 : zd cX3_alike 43 (.istore 8) 2 45 := ⟨by decide +kernel, rfl⟩
theorem dX3_alike_45 : zd cX3_alike 45 (.iload 6) 2 47 := ⟨by decide +kernel, rfl⟩
theorem dX3_alike_47 : zd cX3_alike 47 (.aload_n 2) 1 48 := ⟨by decide +kernel, rfl⟩
theorem dX3_alike_48 : zd cX3_alike 48 (.getfield 16) 3 51 := ⟨by decide +kernel, rfl⟩
theorem dX3_alike_51 : zd cX3_alike 51 (.if_icmp .ge 21) 3 54 := ⟨by decide +kernel, rfl⟩
theorem dX3_alike_54 : zd cX3_alike 54 (.aload_n 2) 1 55 := ⟨by decide +kernel, rfl⟩
theorem dX3_alike_55 : zd cX3_alike 55 (.getfield 27) 3 58 := ⟨by decide +kernel, rfl⟩
theorem dX3_alike_58 : zd cX3_alike 58 (.iload 6) 2 60 := ⟨by decide +kernel, rfl⟩
theorem dX3_alike_60 : zd cX3_alike 60 (.iaload) 1 61 := ⟨by decide +kernel, rfl⟩
theorem dX3_alike_61 : zd cX3_alike 61 (.iload 8) 2 63 := ⟨by decide +kernel, rfl⟩
theorem dX3_alike_63 : zd cX3_alike 63 (.if_icmp .ge 9) 3 66 := ⟨by decide +kernel, rfl⟩
theorem dX3_alike_66 : zd cX3_alike 66 (.iinc 6 1) 3 69 := ⟨by decide +kernel, rfl⟩
theorem dX3_alike_69 : zd cX3_alike 69 (.goto (-24)) 3 72 := ⟨by decide +kernel, rfl⟩
theorem dX3_alike_72 : zd cX3_alike 72 (.iload 6) 2 74 := ⟨by decide +kernel, rfl⟩
theorem dX3_alike_74 : zd cX3_alike 74 (.aload_n 2) 1 75 := ⟨by decide +kernel, rfl⟩
theorem dX3_alike_75 : zd cX3_alike 75 (.getfield 16) 3 78 := ⟨by decide +kernel, rfl⟩
theorem dX3_alike_78 : zd cX3_alike 78 (.if_icmp .ge 18) 3 81 := ⟨by decide +kernel, rfl⟩
theorem dX3_alike_81 : zd cX3_alike 81 (.aload_n 2) 1 82 := ⟨by decide +kernel, rfl⟩
theorem dX3_alike_82 : zd cX3_alike 82 (.getfield 27) 3 85 := ⟨by decide +kernel, rfl⟩
theorem dX3_alike_85 : zd cX3_alike 85 (.iload 6) 2 87 := ⟨by decide +kernel, rfl⟩
theorem dX3_alike_87 : zd cX3_alike 87 (.iaload) 1 88 := ⟨by decide +kernel, rfl⟩
theorem dX3_alike_88 : zd cX3_alike 88 (.iload 8) 2 90 := ⟨by decide +kernel, rfl⟩
theorem dX3_alike_90 : zd cX3_alike 90 (.if_icmp .ne 6) 3 93 := ⟨by decide +kernel, rfl⟩
theorem dX3_alike_93 : zd cX3_alike 93 (.iinc 5 1) 3 96 := ⟨by decide +kernel, rfl⟩
theorem dX3_alike_96 : zd cX3_alike 96 (.iinc 7 1) 3 99 := ⟨by decide +kernel, rfl⟩
theorem dX3_alike_99 : zd cX3_alike 99 (.goto (-75)) 3 102 := ⟨by decide +kernel, rfl⟩
theorem dX3_alike_102 : zd cX3_alike 102 (.iload 5) 2 104 := ⟨by decide +kernel, rfl⟩
theorem dX3_alike_104 : zd cX3_alike 104 (.ireturn) 1 105 := ⟨by decide +kernel, rfl⟩
theorem dX3_weigh_0 : zd cX3_weigh 0 (.aload_n 0) 1 1 := ⟨by decide +kernel, rfl⟩
theorem dX3_weigh_1 : zd cX3_weigh 1 (.getfield 7) 3 4 := ⟨by decide +kernel, rfl⟩
theorem dX3_weigh_4 : zd cX3_weigh 4 (.invokestatic 39) 3 7 := ⟨by decide +kernel, rfl⟩
theorem dX3_weigh_7 : zd cX3_weigh 7 (.iload_n 1) 1 8 := ⟨by decide +kernel, rfl⟩
theorem dX3_weigh_8 : zd cX3_weigh 8 (.invokestatic 39) 3 11 := ⟨by decide +kernel, rfl⟩
theorem dX3_weigh_11 : zd cX3_weigh 11 (.isub) 1 12 := ⟨by decide +kernel, rfl⟩
theorem dX3_weigh_12 : zd cX3_weigh 12 (.istore_n 3) 1 13 := ⟨by decide +kernel, rfl⟩
theorem dX3_weigh_13 : zd cX3_weigh 13 (.iload_n 3) 1 14 := ⟨by decide +kernel, rfl⟩
theorem dX3_weigh_14 : zd cX3_weigh 14 (.ifCond .gt 15) 3 17 := ⟨by decide +kernel, rfl⟩
theorem dX3_weigh_17 : zd cX3_weigh 17 (.iload_n 3) 1 18 := ⟨by decide +kernel, rfl⟩
theorem dX3_weigh_18 : zd cX3_weigh 18 (.ifCond .ne 15) 3 21 := ⟨by decide +kernel, rfl⟩
theorem dX3_weigh_21 : zd cX3_weigh 21 (.iload_n 1) 1 22 := ⟨by decide +kernel, rfl⟩
theorem dX3_weigh_22 : zd cX3_weigh 22 (.aload_n 0) 1 23 := ⟨by decide +kernel, rfl⟩
theorem dX3_weigh_23 : zd cX3_weigh 23 (.getfield 7) 3 26 := ⟨by decide +kernel, rfl⟩
theorem dX3_weigh_26 : zd cX3_weigh 26 (.if_icmp .le 7) 3 29 := ⟨by decide +kernel, rfl⟩
theorem dX3_weigh_29 : zd cX3_weigh 29 (.iconst 1) 1 30 := ⟨by decide +kernel, rfl⟩
theorem dX3_weigh_30 : zd cX3_weigh 30 (.goto 4) 3 33 := ⟨by decide +kernel, rfl⟩
theorem dX3_weigh_33 : zd cX3_weigh 33 (.iconst 0) 1 34 := ⟨by decide +kernel, rfl⟩
theorem dX3_weigh_34 : zd cX3_weigh 34 (.istore 4) 2 36 := ⟨by decide +kernel, rfl⟩
theorem dX3_weigh_36 : zd cX3_weigh 36 (.iload_n 2) 1 37 := ⟨by decide +kernel, rfl⟩
theorem dX3_weigh_37 : zd cX3_weigh 37 (.aload_n 0) 1 38 := ⟨by decide +kernel, rfl⟩
theorem dX3_weigh_38 : zd cX3_weigh 38 (.getfield 13) 3 41 := ⟨by decide +kernel, rfl⟩
theorem dX3_weigh_41 : zd cX3_weigh 41 (.if_icmp .gt 16) 3 44 := ⟨by decide +kernel, rfl⟩
theorem dX3_weigh_44 : zd cX3_weigh 44 (.iload_n 2) 1 45 := ⟨by decide +kernel, rfl⟩
theorem dX3_weigh_45 : zd cX3_weigh 45 (.aload_n 0) 1 46 := ⟨by decide +kernel, rfl⟩
theorem dX3_weigh_46 : zd cX3_weigh 46 (.getfield 13) 3 49 := ⟨by decide +kernel, rfl⟩
theorem dX3_weigh_49 : zd cX3_weigh 49 (.if_icmp .ne 18) 3 52 := ⟨by decide +kernel, rfl⟩
theorem dX3_weigh_52 : zd cX3_weigh 52 (.iload 4) 2 54 := ⟨by decide +kernel, rfl⟩
theorem dX3_weigh_54 : zd cX3_weigh 54 (.ifCond .eq 13) 3 57 := ⟨by decide +kernel, rfl⟩
theorem dX3_weigh_57 : zd cX3_weigh 57 (.aload_n 0) 1 58 := ⟨by decide +kernel, rfl⟩
theorem dX3_weigh_58 : zd cX3_weigh 58 (.iload_n 1) 1 59 := ⟨by decide +kernel, rfl⟩
theorem dX3_weigh_59 : zd cX3_weigh 59 (.putfield 7) 3 62 := ⟨by decide +kernel, rfl⟩
theorem dX3_weigh_62 : zd cX3_weigh 62 (.aload_n 0) 1 63 := ⟨by decide +kernel, rfl⟩
theorem dX3_weigh_63 : zd cX3_weigh 63 (.iload_n 2) 1 64 := ⟨by decide +kernel, rfl⟩
theorem dX3_weigh_64 : zd cX3_weigh 64 (.putfield 13) 3 67 := ⟨by decide +kernel, rfl⟩
theorem dX3_weigh_67 : zd cX3_weigh 67 (.return_) 1 68 := ⟨by decide +kernel, rfl⟩
theorem dX4_init_0 : zd cX4_init 0 (.aload_n 0) 1 1 := ⟨by decide +kernel, rfl⟩
theorem dX4_init_1 : zd cX4_init 1 (.invokespecial 3) 3 4 := ⟨by decide +kernel, rfl⟩
theorem dX4_init_4 : zd cX4_init 4 (.aload_n 0) 1 5 := ⟨by decide +kernel, rfl⟩
theorem dX4_init_5 : zd cX4_init 5 (.iconst 0) 1 6 := ⟨by decide +kernel, rfl⟩
theorem dX4_init_6 : zd cX4_init 6 (.putfield 9) 3 9 := ⟨by decide +kernel, rfl⟩
theorem dX4_init_9 : zd cX4_init 9 (.aload_n 0) 1 10 := ⟨by decide +kernel, rfl⟩
theorem dX4_init_10 : zd cX4_init 10 (.iconst 0) 1 11 := ⟨by decide +kernel, rfl⟩
theorem dX4_init_11 : zd cX4_init 11 (.putfield 15) 3 14 := ⟨by decide +kernel, rfl⟩
theorem dX4_init_14 : zd cX4_init 14 (.aload_n 0) 1 15 := ⟨by decide +kernel, rfl⟩
theorem dX4_init_15 : zd cX4_init 15 (.iconst 0) 1 16 := ⟨by decide +kernel, rfl⟩
theorem dX4_init_16 : zd cX4_init 16 (.putfield 18) 3 19 := ⟨by decide +kernel, rfl⟩
theorem dX4_init_19 : zd cX4_init 19 (.aload_n 0) 1 20 := ⟨by decide +kernel, rfl⟩
theorem dX4_init_20 : zd cX4_init 20 (.iconst 0) 1 21 := ⟨by decide +kernel, rfl⟩
theorem dX4_init_21 : zd cX4_init 21 (.putfield 21) 3 24 := ⟨by decide +kernel, rfl⟩
theorem dX4_init_24 : zd cX4_init 24 (.aload_n 0) 1 25 := ⟨by decide +kernel, rfl⟩
theorem dX4_init_25 : zd cX4_init 25 (.iconst 0) 1 26 := ⟨by decide +kernel, rfl⟩
theorem dX4_init_26 : zd cX4_init 26 (.putfield 24) 3 29 := ⟨by decide +kernel, rfl⟩
theorem dX4_init_29 : zd cX4_init 29 (.aload_n 0) 1 30 := ⟨by decide +kernel, rfl⟩
theorem dX4_init_30 : zd cX4_init 30 (.iconst 0) 1 31 := ⟨by decide +kernel, rfl⟩
theorem dX4_init_31 : zd cX4_init 31 (.putfield 27) 3 34 := ⟨by decide +kernel, rfl⟩
theorem dX4_init_34 : zd cX4_init 34 (.aload_n 0) 1 35 := ⟨by decide +kernel, rfl⟩
theorem dX4_init_35 : zd cX4_init 35 (.iconst 0) 1 36 := ⟨by decide +kernel, rfl⟩
theorem dX4_init_36 : zd cX4_init 36 (.putfield 30) 3 39 := ⟨by decide +kernel, rfl⟩
theorem dX4_init_39 : zd cX4_init 39 (.aload_n 0) 1 40 := ⟨by decide +kernel, rfl⟩
theorem dX4_init_40 : zd cX4_init 40 (.iconst 0) 1 41 := ⟨by decide +kernel, rfl⟩
theorem dX4_init_41 : zd cX4_init 41 (.putfield 33) 3 44 := ⟨by decide +kernel, rfl⟩
theorem dX4_init_44 : zd cX4_init 44 (.aload_n 0) 1 45 := ⟨by decide +kernel, rfl⟩
theorem dX4_init_45 : zd cX4_init 45 (.iconst 0) 1 46 := ⟨by decide +kernel, rfl⟩
theorem dX4_init_46 : zd cX4_init 46 (.putfield 36) 3 49 := ⟨by decide +kernel, rfl⟩
theorem dX4_init_49 : zd cX4_init 49 (.aload_n 0) 1 50 := ⟨by decide +kernel, rfl⟩
theorem dX4_init_50 : zd cX4_init 50 (.iconst 0) 1 51 := ⟨by decide +kernel, rfl⟩
theorem dX4_init_51 : zd cX4_init 51 (.putfield 39) 3 54 := ⟨by decide +kernel, rfl⟩
theorem dX4_init_54 : zd cX4_init 54 (.aload_n 0) 1 55 := ⟨by decide +kernel, rfl⟩
theorem dX4_init_55 : zd cX4_init 55 (.new 42) 3 58 := ⟨by decide +kernel, rfl⟩
theorem dX4_init_58 : zd cX4_init 58 (.dup) 1 59 := ⟨by decide +kernel, rfl⟩
theorem dX4_init_59 : zd cX4_init 59 (.invokespecial 44) 3 62 := ⟨by decide +kernel, rfl⟩
theorem dX4_init_62 : zd cX4_init 62 (.putfield 45) 3 65 := ⟨by decide +kernel, rfl⟩
theorem dX4_init_65 : zd cX4_init 65 (.return_) 1 66 := ⟨by decide +kernel, rfl⟩
theorem dX4_sumUp_0 : zd cX4_sumUp 0 (.iload_n 3) 1 1 := ⟨by decide +kernel, rfl⟩
theorem dX4_sumUp_1 : zd cX4_sumUp 1 (.iconst 1) 1 2 := ⟨by decide +kernel, rfl⟩
theorem dX4_sumUp_2 : zd cX4_sumUp 2 (.if_icmp .lt 39) 3 5 := ⟨by decide +kernel, rfl⟩
theorem dX4_sumUp_5 : zd cX4_sumUp 5 (.aload_n 0) 1 6 := ⟨by decide +kernel, rfl⟩
theorem dX4_sumUp_6 : zd cX4_sumUp 6 (.getfield 30) 3 9 := ⟨by decide +kernel, rfl⟩
theorem dX4_sumUp_9 : zd cX4_sumUp 9 (.iload_n 1) 1 10 := ⟨by decide +kernel, rfl⟩
theorem dX4_sumUp_10 : zd cX4_sumUp 10 (.if_icmp .ne 32) 3 13 := ⟨by decide +kernel, rfl⟩
theorem dX4_sumUp_13 : zd cX4_sumUp 13 (.aload_n 0) 1 14 := ⟨by decide +kernel, rfl⟩
theorem dX4_sumUp_14 : zd cX4_sumUp 14 (.getfield 33) 3 17 := ⟨by decide +kernel, rfl⟩
theorem dX4_sumUp_17 : zd cX4_sumUp 17 (.iload_n 2) 1 18 := ⟨by decide +kernel, rfl⟩
theorem dX4_sumUp_18 : zd cX4_sumUp 18 (.if_icmp .ne 24) 3 21 := ⟨by decide +kernel, rfl⟩
theorem dX4_sumUp_21 : zd cX4_sumUp 21 (.aload_n 0) 1 22 := ⟨by decide +kernel, rfl⟩
theorem dX4_sumUp_22 : zd cX4_sumUp 22 (.getfield 36) 3 25 := ⟨by decide +kernel, rfl⟩
theorem dX4_sumUp_25 : zd cX4_sumUp 25 (.iload_n 3) 1 26 := ⟨by decide +kernel, rfl⟩
theorem dX4_sumUp_26 : zd cX4_sumUp 26 (.if_icmp .ne 16) 3 29 := ⟨by decide +kernel, rfl⟩
theorem dX4_sumUp_29 : zd cX4_sumUp 29 (.aload_n 0) 1 30 := ⟨by decide +kernel, rfl⟩
theorem dX4_sumUp_30 : zd cX4_sumUp 30 (.getfield 39) 3 33 := ⟨by decide +kernel, rfl⟩
theorem dX4_sumUp_33 : zd cX4_sumUp 33 (.aload 4) 2 35 := ⟨by decide +kernel, rfl⟩
theorem dX4_sumUp_35 : zd cX4_sumUp 35 (.getfield 49) 3 38 := ⟨by decide +kernel, rfl⟩
theorem dX4_sumUp_38 : zd cX4_sumUp 38 (.if_icmp .ne 4) 3 41 := ⟨by decide +kernel, rfl⟩
theorem dX4_sumUp_41 : zd cX4_sumUp 41 (.return_) 1 42 := ⟨by decide +kernel, rfl⟩
theorem dX4_sumUp_42 : zd cX4_sumUp 42 (.aload_n 0) 1 43 := ⟨by decide +kernel, rfl⟩
theorem dX4_sumUp_43 : zd cX4_sumUp 43 (.iload_n 1) 1 44 := ⟨by decide +kernel, rfl⟩
theorem dX4_sumUp_44 : zd cX4_sumUp 44 (.putfield 30) 3 47 := ⟨by decide +kernel, rfl⟩
theorem dX4_sumUp_47 : zd cX4_sumUp 47 (.aload_n 0) 1 48 := ⟨by decide +kernel, rfl⟩
theorem dX4_sumUp_48 : zd cX4_sumUp 48 (.iload_n 2) 1 49 := ⟨by decide +kernel, rfl⟩
theorem dX4_sumUp_49 : zd cX4_sumUp 49 (.putfield 33) 3 52 := ⟨by decide +kernel, rfl⟩
theorem dX4_sumUp_52 : zd cX4_sumUp 52 (.aload_n 0) 1 53 := ⟨by decide +kernel, rfl⟩
theorem dX4_sumUp_53 : zd cX4_sumUp 53 (.iload_n 3) 1 54 := ⟨by decide +kernel, rfl⟩
theorem dX4_sumUp_54 : zd cX4_sumUp 54 (.putfield 36) 3 57 := ⟨by decide +kernel, rfl⟩
theorem dX4_sumUp_57 : zd cX4_sumUp 57 (.aload_n 0) 1 58 := ⟨by decide +kernel, rfl⟩
theorem dX4_sumUp_58 : zd cX4_sumUp 58 (.aload 4) 2 60 := ⟨by decide +kernel, rfl⟩
theorem dX4_sumUp_60 : zd cX4_sumUp 60 (.getfield 49) 3 63 := ⟨by decide +kernel, rfl⟩
theorem dX4_sumUp_63 : zd cX4_sumUp 63 (.putfield 39) 3 66 := ⟨by decide +kernel, rfl⟩
theorem dX4_sumUp_66 : zd cX4_sumUp 66 (.aload_n 0) 1 67 := ⟨by decide +kernel, rfl⟩
theorem dX4_sumUp_67 : zd cX4_sumUp 67 (.iconst (-1)) 1 68 := ⟨by decide +kernel, rfl⟩
theorem dX4_sumUp_68 : zd cX4_sumUp 68 (.putfield 9) 3 71 := ⟨by decide +kernel, rfl⟩
theorem dX4_sumUp_71 : zd cX4_sumUp 71 (.aload_n 0) 1 72 := ⟨by decide +kernel, rfl⟩
theorem dX4_sumUp_72 : zd cX4_sumUp 72 (.iconst 0) 1 73 := ⟨by decide +kernel, rfl⟩
theorem dX4_sumUp_73 : zd cX4_sumUp 73 (.putfield 21) 3 76 := ⟨by decide +kernel, rfl⟩
theorem dX4_sumUp_76 : zd cX4_sumUp 76 (.aload_n 0) 1 77 := ⟨by decide +kernel, rfl⟩
theorem dX4_sumUp_77 : zd cX4_sumUp 77 (.iconst 0) 1 78 := ⟨by decide +kernel, rfl⟩
theorem dX4_sumUp_78 : zd cX4_sumUp 78 (.putfield 24) 3 81 := ⟨by decide +kernel, rfl⟩
theorem dX4_sumUp_81 : zd cX4_sumUp 81 (.aload_n 0) 1 82 := ⟨by decide +kernel, rfl⟩
theorem dX4_sumUp_82 : zd cX4_sumUp 82 (.iconst 0) 1 83 := ⟨by decide +kernel, rfl⟩
theorem dX4_sumUp_83 : zd cX4_sumUp 83 (.putfield 27) 3 86 := ⟨by decide +kernel, rfl⟩
theorem dX4_sumUp_86 : zd cX4_sumUp 86 (.aload_n 0) 1 87 := ⟨by decide +kernel, rfl⟩
theorem dX4_sumUp_87 : zd cX4_sumUp 87 (.getfield 30) 3 90 := ⟨by decide +kernel, rfl⟩
theorem dX4_sumUp_90 : zd cX4_sumUp 90 (.istore 5) 2 92 := ⟨by decide +kernel, rfl⟩
theorem dX4_sumUp_92 : zd cX4_sumUp 92 (.iload 5) 2 94 := ⟨by decide +kernel, rfl⟩
theorem dX4_sumUp_94 : zd cX4_sumUp 94 (.aload_n 0) 1 95 := ⟨by decide +kernel, rfl⟩
theorem dX4_sumUp_95 : zd cX4_sumUp 95 (.getfield 33) 3 98 := ⟨by decide +kernel, rfl⟩
theorem dX4_sumUp_98 : zd cX4_sumUp 98 (.if_icmp .gt 50) 3 101 := ⟨by decide +kernel, rfl⟩
theorem dX4_sumUp_101 : zd cX4_sumUp 101 (.iload 5) 2 103 := ⟨by decide +kernel, rfl⟩
theorem dX4_sumUp_103 : zd cX4_sumUp 103 (.istore 6) 2 105 := ⟨by decide +kernel, rfl⟩
theorem dX4_sumUp_105 : zd cX4_sumUp 105 (.iload 6) 2 107 := ⟨by decide +kernel, rfl⟩
theorem dX4_sumUp_107 : zd cX4_sumUp 107 (.aload_n 0) 1 108 := ⟨by decide +kernel, rfl⟩
theorem dX4_sumUp_108 : zd cX4_sumUp 108 (.getfield 33) 3 111 := ⟨by decide +kernel, rfl⟩
theorem dX4_sumUp_111 : zd cX4_sumUp 111 (.if_icmp .gt 25) 3 114 := ⟨by decide +kernel, rfl⟩
theorem dX4_sumUp_114 : zd cX4_sumUp 114 (.aload_n 0) 1 115 := ⟨by decide +kernel, rfl⟩
theorem dX4_sumUp_115 : zd cX4_sumUp 115 (.iload 5) 2 117 := ⟨by decide +kernel, rfl⟩
theorem dX4_sumUp_117 : zd cX4_sumUp 117 (.iload 6) 2 119 := ⟨by decide +kernel, rfl⟩
theorem dX4_sumUp_119 : zd cX4_sumUp 119 (.aload 4) 2 121 := ⟨by decide +kernel, rfl⟩
theorem dX4_sumUp_121 : zd cX4_sumUp 121 (.invokevirtual 52) 3 124 := ⟨by decide +kernel, rfl⟩
theorem dX4_sumUp_124 : zd cX4_sumUp 124 (.iload 6) 2 126 := ⟨by decide +kernel, rfl⟩
theorem dX4_sumUp_126 : zd cX4_sumUp 126 (.aload_n 0) 1 127 := ⟨by decide +kernel, rfl⟩
theorem dX4_sumUp_127 : zd cX4_sumUp 127 (.getfield 36) 3 130 := ⟨by decide +kernel, rfl⟩
theorem dX4_sumUp_130 : zd cX4_sumUp 130 (.iadd) 1 131 := ⟨by decide +kernel, rfl⟩
theorem dX4_sumUp_131 : zd cX4_sumUp 131 (.istore 6) 2 133 := ⟨by decide +kernel, rfl⟩
theorem dX4_sumUp_133 : zd cX4_sumUp 133 (.goto (-28)) 3 136 := ⟨by decide +kernel, rfl⟩
theorem dX4_sumUp_136 : zd cX4_sumUp 136 (.iload 5) 2 138 := ⟨by decide +kernel, rfl⟩
theorem dX4_sumUp_138 : zd cX4_sumUp 138 (.aload_n 0) 1 139 := ⟨by decide +kernel, rfl⟩
theorem dX4_sumUp_139 : zd cX4_sumUp 139 (.getfield 36) 3 142 := ⟨by decide +kernel, rfl⟩
theorem dX4_sumUp_142 : zd cX4_sumUp 142 (.iadd) 1 143 := ⟨by decide +kernel, rfl⟩
theorem dX4_sumUp_143 : zd cX4_sumUp 143 (.istore 5) 2 145 := ⟨by decide +kernel, rfl⟩
theorem dX4_sumUp_145 : zd cX4_sumUp 145 (.goto (-53)) 3 148 := ⟨by decide +kernel, rfl⟩
theorem dX4_sumUp_148 : zd cX4_sumUp 148 (.return_) 1 149 := ⟨by decide +kernel, rfl⟩
theorem dX4_take_0 : zd cX4_take 0 (.aload_n 0) 1 1 := ⟨by decide +kernel, rfl⟩
theorem dX4_take_1 : zd cX4_take 1 (.getfield 45) 3 4 := ⟨by decide +kernel, rfl⟩
theorem dX4_take_4 : zd cX4_take 4 (.invokevirtual 56) 3 7 := ⟨by decide +kernel, rfl⟩
theorem dX4_take_7 : zd cX4_take 7 (.aload_n 0) 1 8 := ⟨by decide +kernel, rfl⟩
theorem dX4_take_8 : zd cX4_take 8 (.getfield 45) 3 11 := ⟨by decide +kernel, rfl⟩
theorem dX4_take_11 : zd cX4_take 11 (.iload_n 1) 1 12 := ⟨by decide +kernel, rfl⟩
theorem dX4_take_12 : zd cX4_take 12 (.aload_n 3) 1 13 := ⟨by decide +kernel, rfl⟩
theorem dX4_take_13 : zd cX4_take 13 (.invokevirtual 59) 3 16 := ⟨by decide +kernel, rfl⟩
theorem dX4_take_16 : zd cX4_take 16 (.aload_n 0) 1 17 := ⟨by decide +kernel, rfl⟩
theorem dX4_take_17 : zd cX4_take 17 (.getfield 45) 3 20 := ⟨by decide +kernel, rfl⟩
theorem dX4_take_20 : zd cX4_take 20 (.iload_n 2) 1 21 := ⟨by decide +kernel, rfl⟩
theorem dX4_take_21 : zd cX4_take 21 (.aload_n 3) 1 22 := ⟨by decide +kernel, rfl⟩
theorem dX4_take_22 : zd cX4_take 22 (.invokevirtual 59) 3 25 := ⟨by decide +kernel, rfl⟩
theorem dX4_take_25 : zd cX4_take 25 (.aload_n 3) 1 26 := ⟨by decide +kernel, rfl⟩
theorem dX4_take_26 : zd cX4_take 26 (.aload_n 0) 1 27 := ⟨by decide +kernel, rfl⟩
theorem dX4_take_27 : zd cX4_take 27 (.getfield 45) 3 30 := ⟨by decide +kernel, rfl⟩
theorem dX4_take_30 : zd cX4_take 30 (.getfield 63) 3 33 := ⟨by decide +kernel, rfl⟩
theorem dX4_take_33 : zd cX4_take 33 (.invokevirtual 66) 3 36 := ⟨by decide +kernel, rfl⟩
theorem dX4_take_36 : zd cX4_take 36 (.iload_n 1) 1 37 := ⟨by decide +kernel, rfl⟩
theorem dX4_take_37 : zd cX4_take 37 (.i2l) 1 38 := ⟨by decide +kernel, rfl⟩
theorem dX4_take_38 : zd cX4_take 38 (.iload_n 2) 1 39 := ⟨by decide +kernel, rfl⟩
theorem dX4_take_39 : zd cX4_take 39 (.i2l) 1 40 := ⟨by decide +kernel, rfl⟩
theorem dX4_take_40 : zd cX4_take 40 (.lmul) 1 41 := ⟨by decide +kernel, rfl⟩
theorem dX4_take_41 : zd cX4_take 41 (.invokestatic 70) 3 44 := ⟨by decide +kernel, rfl⟩
theorem dX4_take_44 : zd cX4_take 44 (.isub) 1 45 := ⟨by decide +kernel, rfl⟩
theorem dX4_take_45 : zd cX4_take 45 (.invokestatic 74) 3 48 := ⟨by decide +kernel, rfl⟩
theorem dX4_take_48 : zd cX4_take 48 (.istore 4) 2 50 := ⟨by decide +kernel, rfl⟩
theorem dX4_take_50 : zd cX4_take 50 (.iload 4) 2 52 := ⟨by decide +kernel, rfl⟩
theorem dX4_take_52 : zd cX4_take 52 (.aload_n 0) 1 53 := ⟨by decide +kernel, rfl⟩
theorem dX4_take_53 : zd cX4_take 53 (.getfield 9) 3 56 := ⟨by decide +kernel, rfl⟩
theorem dX4_take_56 : zd cX4_take 56 (.if_icmp .le 19) 3 59 := ⟨by decide +kernel, rfl⟩
theorem dX4_take_59 : zd cX4_take 59 (.aload_n 0) 1 60 := ⟨by decide +kernel, rfl⟩
theorem dX4_take_60 : zd cX4_take 60 (.iload 4) 2 62 := ⟨by decide +kernel, rfl⟩
theorem dX4_take_62 : zd cX4_take 62 (.putfield 9) 3 65 := ⟨by decide +kernel, rfl⟩
theorem dX4_take_65 : zd cX4_take 65 (.aload_n 0) 1 66 := ⟨by decide +kernel, rfl⟩
theorem dX4_take_66 : zd cX4_take 66 (.iload_n 1) 1 67 := ⟨by decide +kernel, rfl⟩
theorem dX4_take_67 : zd cX4_take 67 (.putfield 15) 3 70 := ⟨by decide +kernel, rfl⟩
theorem dX4_take_70 : zd cX4_take 70 (.aload_n 0) 1 71 := ⟨by decide +kernel, rfl⟩
theorem dX4_take_71 : zd cX4_take 71 (.iload_n 2) 1 72 := ⟨by decide +kernel, rfl⟩
theorem dX4_take_72 : zd cX4_take 72 (.putfield 18) 3 75 := ⟨by decide +kernel, rfl⟩
theorem dX4_take_75 : zd cX4_take 75 (.aload_n 0) 1 76 := ⟨by decide +kernel, rfl⟩
theorem dX4_take_76 : zd cX4_take 76 (.dup) 1 77 := ⟨by decide +kernel, rfl⟩
theorem dX4_take_77 : zd cX4_take 77 (.getfield 21) 3 80 := ⟨by decide +kernel, rfl⟩
theorem dX4_take_80 : zd cX4_take 80 (.iload 4) 2 82 := ⟨by decide +kernel, rfl⟩
theorem dX4_take_82 : zd cX4_take 82 (.iadd) 1 83 := ⟨by decide +kernel, rfl⟩
theorem dX4_take_83 : zd cX4_take 83 (.putfield 21) 3 86 := ⟨by decide +kernel, rfl⟩
theorem dX4_take_86 : zd cX4_take 86 (.aload_n 0) 1 87 := ⟨by decide +kernel, rfl⟩
theorem dX4_take_87 : zd cX4_take 87 (.dup) 1 88 := ⟨by decide +kernel, rfl⟩
theorem dX4_take_88 : zd cX4_take 88 (.getfield 24) 3 91 := ⟨by decide +kernel, rfl⟩
theorem dX4_take_91 : zd cX4_take 91 (.iconst 1) 1 92 := ⟨by decide +kernel, rfl⟩
theorem dX4_take_92 : zd cX4_take 92 (.iadd) 1 93 := ⟨by decide +kernel, rfl⟩
theorem dX4_take_93 : zd cX4_take 93 (.putfield 24) 3 96 := ⟨by decide +kernel, rfl⟩
theorem dX4_take_96 : zd cX4_take 96 (.aload_n 0) 1 97 := ⟨by decide +kernel, rfl⟩
theorem dX4_take_97 : zd cX4_take 97 (.dup) 1 98 := ⟨by decide +kernel, rfl⟩
theorem dX4_take_98 : zd cX4_take 98 (.getfield 27) 3 101 := ⟨by decide +kernel, rfl⟩
theorem dX4_take_101 : zd cX4_take 101 (.aload_n 0) 1 102 := ⟨by decide +kernel, rfl⟩
theorem dX4_take_102 : zd cX4_take 102 (.getfield 45) 3 105 := ⟨by decide +kernel, rfl⟩
theorem dX4_take_105 : zd cX4_take 105 (.getfield 79) 3 108 := ⟨by decide +kernel, rfl⟩
theorem dX4_take_108 : zd cX4_take 108 (.iadd) 1 109 := ⟨by decide +kernel, rfl⟩
theorem dX4_take_109 : zd cX4_take 109 (.putfield 27) 3 112 := ⟨by decide +kernel, rfl⟩
theorem dX4_take_112 : zd cX4_take 112 (.return_) 1 113 := ⟨by decide +kernel, rfl⟩
theorem dX5_init_0 : zd cX5_init 0 (.aload_n 0) 1 1 := ⟨by decide +kernel, rfl⟩
theorem dX5_init_1 : zd cX5_init 1 (.invokespecial 3) 3 4 := ⟨by decide +kernel, rfl⟩
theorem dX5_init_4 : zd cX5_init 4 (.aload_n 0) 1 5 := ⟨by decide +kernel, rfl⟩
theorem dX5_init_5 : zd cX5_init 5 (.iconst 0) 1 6 := ⟨by decide +kernel, rfl⟩
theorem dX5_init_6 : zd cX5_init 6 (.putfield 9) 3 9 := ⟨by decide +kernel, rfl⟩
theorem dX5_init_9 : zd cX5_init 9 (.aload_n 0) 1 10 := ⟨by decide +kernel, rfl⟩
theorem dX5_init_10 : zd cX5_init 10 (.sipush 900) 3 13 := ⟨by decide +kernel, rfl⟩
theorem dX5_init_13 : zd cX5_init 13 (.newarray .int) 2 15 := ⟨by decide +kernel, rfl⟩
theorem dX5_init_15 : zd cX5_init 15 (.putfield 15) 3 18 := ⟨by decide +kernel, rfl⟩
theorem dX5_init_18 : zd cX5_init 18 (.return_) 1 19 := ⟨by decide +kernel, rfl⟩
theorem dX5_cutFor_0 : zd cX5_cutFor 0 (.iload_n 1) 1 1 := ⟨by decide +kernel, rfl⟩
theorem dX5_cutFor_1 : zd cX5_cutFor 1 (.aload_n 0) 1 2 := ⟨by decide +kernel, rfl⟩
theorem dX5_cutFor_2 : zd cX5_cutFor 2 (.getfield 9) 3 5 := ⟨by decide +kernel, rfl⟩
theorem dX5_cutFor_5 : zd cX5_cutFor 5 (.if_icmp .ne 4) 3 8 := ⟨by decide +kernel, rfl⟩
theorem dX5_cutFor_8 : zd cX5_cutFor 8 (.return_) 1 9 := ⟨by decide +kernel, rfl⟩
theorem dX5_cutFor_9 : zd cX5_cutFor 9 (.aload_n 0) 1 10 := ⟨by decide +kernel, rfl⟩
theorem dX5_cutFor_10 : zd cX5_cutFor 10 (.iload_n 1) 1 11 := ⟨by decide +kernel, rfl⟩
theorem dX5_cutFor_11 : zd cX5_cutFor 11 (.putfield 9) 3 14 := ⟨by decide +kernel, rfl⟩
theorem dX5_cutFor_14 : zd cX5_cutFor 14 (.iconst 0) 1 15 := ⟨by decide +kernel, rfl⟩
theorem dX5_cutFor_15 : zd cX5_cutFor 15 (.istore_n 3) 1 16 := ⟨by decide +kernel, rfl⟩
theorem dX5_cutFor_16 : zd cX5_cutFor 16 (.iload_n 3) 1 17 := ⟨by decide +kernel, rfl⟩
theorem dX5_cutFor_17 : zd cX5_cutFor 17 (.sipush 900) 3 20 := ⟨by decide +kernel, rfl⟩
theorem dX5_cutFor_20 : zd cX5_cutFor 20 (.if_icmp .ge 27) 3 23 := ⟨by decide +kernel, rfl⟩
theorem dX5_cutFor_23 : zd cX5_cutFor 23 (.aload_n 0) 1 24 := ⟨by decide +kernel, rfl⟩
theorem dX5_cutFor_24 : zd cX5_cutFor 24 (.getfield 15) 3 27 := ⟨by decide +kernel, rfl⟩
theorem dX5_cutFor_27 : zd cX5_cutFor 27 (.iload_n 3) 1 28 := ⟨by decide +kernel, rfl⟩
theorem dX5_cutFor_28 : zd cX5_cutFor 28 (.aload_n 2) 1 29 := ⟨by decide +kernel, rfl⟩
theorem dX5_cutFor_29 : zd cX5_cutFor 29 (.bipush 100) 2 31 := ⟨by decide +kernel, rfl⟩
theorem dX5_cutFor_31 : zd cX5_cutFor 31 (.iload_n 3) 1 32 := ⟨by decide +kernel, rfl⟩
theorem dX5_cutFor_32 : zd cX5_cutFor 32 (.iadd) 1 33 := ⟨by decide +kernel, rfl⟩
theorem dX5_cutFor_33 : zd cX5_cutFor 33 (.iload_n 1) 1 34 := ⟨by decide +kernel, rfl⟩
theorem dX5_cutFor_34 : zd cX5_cutFor 34 (.iconst 1) 1 35 := ⟨by decide +kernel, rfl⟩
theorem dX5_cutFor_35 : zd cX5_cutFor 35 (.bipush 10) 2 37 := ⟨by decide +kernel, rfl⟩
theorem dX5_cutFor_37 : zd cX5_cutFor 37 (.invokevirtual 19) 3 40 := ⟨by decide +kernel, rfl⟩
theorem dX5_cutFor_40 : zd cX5_cutFor 40 (.iastore) 1 41 := ⟨by decide +kernel, rfl⟩
theorem dX5_cutFor_41 : zd cX5_cutFor 41 (.iinc 3 1) 3 44 := ⟨by decide +kernel, rfl⟩
theorem dX5_cutFor_44 : zd cX5_cutFor 44 (.goto (-28)) 3 47 := ⟨by decide +kernel, rfl⟩
theorem dX5_cutFor_47 : zd cX5_cutFor 47 (.return_) 1 48 := ⟨by decide +kernel, rfl⟩
theorem dX5_placeOf_0 : zd cX5_placeOf 0 (.iload_n 1) 1 1 := ⟨by decide +kernel, rfl⟩
theorem dX5_placeOf_1 : zd cX5_placeOf 1 (.invokestatic 25) 3 4 := ⟨by decide +kernel, rfl⟩
theorem dX5_placeOf_4 : zd cX5_placeOf 4 (.ifCond .eq 15) 3 7 := ⟨by decide +kernel, rfl⟩
theorem dX5_placeOf_7 : zd cX5_placeOf 7 (.aload_n 0) 1 8 := ⟨by decide +kernel, rfl⟩
theorem dX5_placeOf_8 : zd cX5_placeOf 8 (.getfield 15) 3 11 := ⟨by decide +kernel, rfl⟩
theorem dX5_placeOf_11 : zd cX5_placeOf 11 (.iload_n 1) 1 12 := ⟨by decide +kernel, rfl⟩
theorem dX5_placeOf_12 : zd cX5_placeOf 12 (.bipush 100) 2 14 := ⟨by decide +kernel, rfl⟩
theorem dX5_placeOf_14 : zd cX5_placeOf 14 (.isub) 1 15 := ⟨by decide +kernel, rfl⟩
theorem dX5_placeOf_15 : zd cX5_placeOf 15 (.iaload) 1 16 := ⟨by decide +kernel, rfl⟩
theorem dX5_placeOf_16 : zd cX5_placeOf 16 (.goto 4) 3 19 := ⟨by decide +kernel, rfl⟩
theorem dX5_placeOf_19 : zd cX5_placeOf 19 (.iconst 0) 1 20 := ⟨by decide +kernel, rfl⟩
theorem dX5_placeOf_20 : zd cX5_placeOf 20 (.ireturn) 1 21 := ⟨by decide +kernel, rfl⟩
theorem dX5_firstFrom_0 : zd cX5_firstFrom 0 (.iconst 0) 1 1 := ⟨by decide +kernel, rfl⟩
theorem dX5_firstFrom_1 : zd cX5_firstFrom 1 (.istore_n 2) 1 2 := ⟨by decide +kernel, rfl⟩
theorem dX5_firstFrom_2 : zd cX5_firstFrom 2 (.sipush 900) 3 5 := ⟨by decide +kernel, rfl⟩
theorem dX5_firstFrom_5 : zd cX5_firstFrom 5 (.istore_n 3) 1 6 := ⟨by decide +kernel, rfl⟩
theorem dX5_firstFrom_6 : zd cX5_firstFrom 6 (.iload_n 2) 1 7 := ⟨by decide +kernel, rfl⟩
theorem dX5_firstFrom_7 : zd cX5_firstFrom 7 (.iload_n 3) 1 8 := ⟨by decide +kernel, rfl⟩
theorem dX5_firstFrom_8 : zd cX5_firstFrom 8 (.if_icmp .ge 35) 3 11 := ⟨by decide +kernel, rfl⟩
theorem dX5_firstFrom_11 : zd cX5_firstFrom 11 (.iload_n 2) 1 12 := ⟨by decide +kernel, rfl⟩
theorem dX5_firstFrom_12 : zd cX5_firstFrom 12 (.iload_n 3) 1 13 := ⟨by decide +kernel, rfl⟩
theorem dX5_firstFrom_13 : zd cX5_firstFrom 13 (.iadd) 1 14 := ⟨by decide +kernel, rfl⟩
theorem dX5_firstFrom_14 : zd cX5_firstFrom 14 (.iconst 2) 1 15 := ⟨by decide +kernel, rfl⟩
theorem dX5_firstFrom_15 : zd cX5_firstFrom 15 (.idiv) 1 16 := ⟨by decide +kernel, rfl⟩
theorem dX5_firstFrom_16 : zd cX5_firstFrom 16 (.istore 4) 2 18 := ⟨by decide +kernel, rfl⟩
theorem dX5_firstFrom_18 : zd cX5_firstFrom 18 (.aload_n 0) 1 19 := ⟨by decide +kernel, rfl⟩
theorem dX5_firstFrom_19 : zd cX5_firstFrom 19 (.getfield 15) 3 22 := ⟨by decide +kernel, rfl⟩
theorem dX5_firstFrom_22 : zd cX5_firstFrom 22 (.iload 4) 2 24 := ⟨by decide +kernel, rfl⟩
theorem dX5_firstFrom_24 : zd cX5_firstFrom 24 (.iaload) 1 25 := ⟨by decide +kernel, rfl⟩
theorem dX5_firstFrom_25 : zd cX5_firstFrom 25 (.iload_n 1) 1 26 := ⟨by decide +kernel, rfl⟩
theorem dX5_firstFrom_26 : zd cX5_firstFrom 26 (.if_icmp .ge 11) 3 29 := ⟨by decide +kernel, rfl⟩
theorem dX5_firstFrom_29 : zd cX5_firstFrom 29 (.iload 4) 2 31 := ⟨by decide +kernel, rfl⟩
theorem dX5_firstFrom_31 : zd cX5_firstFrom 31 (.iconst 1) 1 32 := ⟨by decide +kernel, rfl⟩
theorem dX5_firstFrom_32 : zd cX5_firstFrom 32 (.iadd) 1 33 := ⟨by decide +kernel, rfl⟩
theorem dX5_firstFrom_33 : zd cX5_firstFrom 33 (.istore_n 2) 1 34 := ⟨by decide +kernel, rfl⟩
theorem dX5_firstFrom_34 : zd cX5_firstFrom 34 (.goto 6) 3 37 := ⟨by decide +kernel, rfl⟩
theorem dX5_firstFrom_37 : zd cX5_firstFrom 37 (.iload 4) 2 39 := ⟨by decide +kernel, rfl⟩
theorem dX5_firstFrom_39 : zd cX5_firstFrom 39 (.istore_n 3) 1 40 := ⟨by decide +kernel, rfl⟩
theorem dX5_firstFrom_40 : zd cX5_firstFrom 40 (.goto (-34)) 3 43 := ⟨by decide +kernel, rfl⟩
theorem dX5_firstFrom_43 : zd cX5_firstFrom 43 (.iload_n 2) 1 44 := ⟨by decide +kernel, rfl⟩
theorem dX5_firstFrom_44 : zd cX5_firstFrom 44 (.ireturn) 1 45 := ⟨by decide +kernel, rfl⟩
theorem dX5_readingOf_0 : zd cX5_readingOf 0 (.aload_n 0) 1 1 := ⟨by decide +kernel, rfl⟩
theorem dX5_readingOf_1 : zd cX5_readingOf 1 (.iload_n 1) 1 2 := ⟨by decide +kernel, rfl⟩
theorem dX5_readingOf_2 : zd cX5_readingOf 2 (.invokevirtual 29) 3 5 := ⟨by decide +kernel, rfl⟩
theorem dX5_readingOf_5 : zd cX5_readingOf 5 (.istore_n 2) 1 6 := ⟨by decide +kernel, rfl⟩
theorem dX5_readingOf_6 : zd cX5_readingOf 6 (.iload_n 2) 1 7 := ⟨by decide +kernel, rfl⟩
theorem dX5_readingOf_7 : zd cX5_readingOf 7 (.ifCond .ne 6) 3 10 := ⟨by decide +kernel, rfl⟩
theorem dX5_readingOf_10 : zd cX5_readingOf 10 (.bipush 100) 2 12 := ⟨by decide +kernel, rfl⟩
theorem dX5_readingOf_12 : zd cX5_readingOf 12 (.ireturn) 1 13 := ⟨by decide +kernel, rfl⟩
theorem dX5_readingOf_13 : zd cX5_readingOf 13 (.aload_n 0) 1 14 := ⟨by decide +kernel, rfl⟩
theorem dX5_readingOf_14 : zd cX5_readingOf 14 (.getfield 15) 3 17 := ⟨by decide +kernel, rfl⟩
theorem dX5_readingOf_17 : zd cX5_readingOf 17 (.iload_n 2) 1 18 := ⟨by decide +kernel, rfl⟩
theorem dX5_readingOf_18 : zd cX5_readingOf 18 (.iconst 1) 1 19 := ⟨by decide +kernel, rfl⟩
theorem dX5_readingOf_19 : zd cX5_readingOf 19 (.isub) 1 20 := ⟨by decide +kernel, rfl⟩
theorem dX5_readingOf_20 : zd cX5_readingOf 20 (.iaload) 1 21 := ⟨by decide +kernel, rfl⟩
theorem dX5_readingOf_21 : zd cX5_readingOf 21 (.istore_n 3) 1 22 := ⟨by decide +kernel, rfl⟩
theorem dX5_readingOf_22 : zd cX5_readingOf 22 (.iload_n 2) 1 23 := ⟨by decide +kernel, rfl⟩
theorem dX5_readingOf_23 : zd cX5_readingOf 23 (.sipush 900) 3 26 := ⟨by decide +kernel, rfl⟩
theorem dX5_readingOf_26 : zd cX5_readingOf 26 (.if_icmp .ge 22) 3 29 := ⟨by decide +kernel, rfl⟩
theorem dX5_readingOf_29 : zd cX5_readingOf 29 (.aload_n 0) 1 30 := ⟨by decide +kernel, rfl⟩
theorem dX5_readingOf_30 : zd cX5_readingOf 30 (.getfield 15) 3 33 := ⟨by decide +kernel, rfl⟩
theorem dX5_readingOf_33 : zd cX5_readingOf 33 (.iload_n 2) 1 34 := ⟨by decide +kernel, rfl⟩
theorem dX5_readingOf_34 : zd cX5_readingOf 34 (.iaload) 1 35 := ⟨by decide +kernel, rfl⟩
theorem dX5_readingOf_35 : zd cX5_readingOf 35 (.iload_n 1) 1 36 := ⟨by decide +kernel, rfl⟩
theorem dX5_readingOf_36 : zd cX5_readingOf 36 (.isub) 1 37 := ⟨by decide +kernel, rfl⟩
theorem dX5_readingOf_37 : zd cX5_readingOf 37 (.iload_n 1) 1 38 := ⟨by decide +kernel, rfl⟩
theorem dX5_readingOf_38 : zd cX5_readingOf 38 (.iload_n 3) 1 39 := ⟨by decide +kernel, rfl⟩
theorem dX5_readingOf_39 : zd cX5_readingOf 39 (.isub) 1 40 := ⟨by decide +kernel, rfl⟩
theorem dX5_readingOf_40 : zd cX5_readingOf 40 (.if_icmp .ge 8) 3 43 := ⟨by decide +kernel, rfl⟩
theorem dX5_readingOf_43 : zd cX5_readingOf 43 (.bipush 100) 2 45 := ⟨by decide +kernel, rfl⟩
theorem dX5_readingOf_45 : zd cX5_readingOf 45 (.iload_n 2) 1 46 := ⟨by decide +kernel, rfl⟩
theorem dX5_readingOf_46 : zd cX5_readingOf 46 (.iadd) 1 47 := ⟨by decide +kernel, rfl⟩
theorem dX5_readingOf_47 : zd cX5_readingOf 47 (.ireturn) 1 48 := ⟨by decide +kernel, rfl⟩
theorem dX5_readingOf_48 : zd cX5_readingOf 48 (.bipush 100) 2 50 := ⟨by decide +kernel, rfl⟩
theorem dX5_readingOf_50 : zd cX5_readingOf 50 (.aload_n 0) 1 51 := ⟨by decide +kernel, rfl⟩
theorem dX5_readingOf_51 : zd cX5_readingOf 51 (.iload_n 3) 1 52 := ⟨by decide +kernel, rfl⟩
theorem dX5_readingOf_52 : zd cX5_readingOf 52 (.invokevirtual 29) 3 55 := ⟨by decide +kernel, rfl⟩
theorem dX5_readingOf_55 : zd cX5_readingOf 55 (.iadd) 1 56 := ⟨by decide +kernel, rfl⟩
theorem dX5_readingOf_56 : zd cX5_readingOf 56 (.ireturn) 1 57 := ⟨by decide +kernel, rfl⟩
theorem dX6_init_0 : zd cX6_init 0 (.aload_n 0) 1 1 := ⟨by decide +kernel, rfl⟩
theorem dX6_init_1 : zd cX6_init 1 (.invokespecial 3) 3 4 := ⟨by decide +kernel, rfl⟩
theorem dX6_init_4 : zd cX6_init 4 (.aload_n 0) 1 5 := ⟨by decide +kernel, rfl⟩
theorem dX6_init_5 : zd cX6_init 5 (.iconst 0) 1 6 := ⟨by decide +kernel, rfl⟩
theorem dX6_init_6 : zd cX6_init 6 (.putfield 9) 3 9 := ⟨by decide +kernel, rfl⟩
theorem dX6_init_9 : zd cX6_init 9 (.aload_n 0) 1 10 := ⟨by decide +kernel, rfl⟩
theorem dX6_init_10 : zd cX6_init 10 (.iload_n 1) 1 11 := ⟨by decide +kernel, rfl⟩
theorem dX6_init_11 : zd cX6_init 11 (.iconst 0) 1 12 := ⟨by decide +kernel, rfl⟩
theorem dX6_init_12 : zd cX6_init 12 (.invokestatic 15) 3 15 := ⟨by decide +kernel, rfl⟩
theorem dX6_init_15 : zd cX6_init 15 (.newarray .int) 2 17 := ⟨by decide +kernel, rfl⟩
theorem dX6_init_17 : zd cX6_init 17 (.putfield 21) 3 20 := ⟨by decide +kernel, rfl⟩
theorem dX6_init_20 : zd cX6_init 20 (.return_) 1 21 := ⟨by decide +kernel, rfl⟩
theorem dX6_isFull_0 : zd cX6_isFull 0 (.aload_n 0) 1 1 := ⟨by decide +kernel, rfl⟩
theorem dX6_isFull_1 : zd cX6_isFull 1 (.getfield 9) 3 4 := ⟨by decide +kernel, rfl⟩
theorem dX6_isFull_4 : zd cX6_isFull 4 (.aload_n 0) 1 5 := ⟨by decide +kernel, rfl⟩
theorem dX6_isFull_5 : zd cX6_isFull 5 (.getfield 21) 3 8 := ⟨by decide +kernel, rfl⟩
theorem dX6_isFull_8 : zd cX6_isFull 8 (.arraylength) 1 9 := ⟨by decide +kernel, rfl⟩
theorem dX6_isFull_9 : zd cX6_isFull 9 (.if_icmp .lt 7) 3 12 := ⟨by decide +kernel, rfl⟩
theorem dX6_isFull_12 : zd cX6_isFull 12 (.iconst 1) 1 13 := ⟨by decide +kernel, rfl⟩
theorem dX6_isFull_13 : zd cX6_isFull 13 (.goto 4) 3 16 := ⟨by decide +kernel, rfl⟩
theorem dX6_isFull_16 : zd cX6_isFull 16 (.iconst 0) 1 17 := ⟨by decide +kernel, rfl⟩
theorem dX6_isFull_17 : zd cX6_isFull 17 (.ireturn) 1 18 := ⟨by decide +kernel, rfl⟩
theorem dX6_append_0 : zd cX6_append 0 (.aload_n 0) 1 1 := ⟨by decide +kernel, rfl⟩
theorem dX6_append_1 : zd cX6_append 1 (.invokevirtual 25) 3 4 := ⟨by decide +kernel, rfl⟩
theorem dX6_append_4 : zd cX6_append 4 (.ifCond .ne 23) 3 7 := ⟨by decide +kernel, rfl⟩
theorem dX6_append_7 : zd cX6_append 7 (.aload_n 0) 1 8 := ⟨by decide +kernel, rfl⟩
theorem dX6_append_8 : zd cX6_append 8 (.getfield 21) 3 11 := ⟨by decide +kernel, rfl⟩
theorem dX6_append_11 : zd cX6_append 11 (.aload_n 0) 1 12 := ⟨by decide +kernel, rfl⟩
theorem dX6_append_12 : zd cX6_append 12 (.getfield 9) 3 15 := ⟨by decide +kernel, rfl⟩
theorem dX6_append_15 : zd cX6_append 15 (.iload_n 1) 1 16 := ⟨by decide +kernel, rfl⟩
theorem dX6_append_16 : zd cX6_append 16 (.iastore) 1 17 := ⟨by decide +kernel, rfl⟩
theorem dX6_append_17 : zd cX6_append 17 (.aload_n 0) 1 18 := ⟨by decide +kernel, rfl⟩
theorem dX6_append_18 : zd cX6_append 18 (.dup) 1 19 := ⟨by decide +kernel, rfl⟩
theorem dX6_append_19 : zd cX6_append 19 (.getfield 9) 3 22 := ⟨by decide +kernel, rfl⟩
theorem dX6_append_22 : zd cX6_append 22 (.iconst 1) 1 23 := ⟨by decide +kernel, rfl⟩
theorem dX6_append_23 : zd cX6_append 23 (.iadd) 1 24 := ⟨by decide +kernel, rfl⟩
theorem dX6_append_24 : zd cX6_append 24 (.putfield 9) 3 27 := ⟨by decide +kernel, rfl⟩
theorem dX6_append_27 : zd cX6_append 27 (.aload_n 0) 1 28 := ⟨by decide +kernel, rfl⟩
theorem dX6_append_28 : zd cX6_append 28 (.getfield 9) 3 31 := ⟨by decide +kernel, rfl⟩
theorem dX6_append_31 : zd cX6_append 31 (.ireturn) 1 32 := ⟨by decide +kernel, rfl⟩
theorem dX6_empty_0 : zd cX6_empty 0 (.aload_n 0) 1 1 := ⟨by decide +kernel, rfl⟩
theorem dX6_empty_1 : zd cX6_empty 1 (.getfield 9) 3 4 := ⟨by decide +kernel, rfl⟩
theorem dX6_empty_4 : zd cX6_empty 4 (.istore_n 1) 1 5 := ⟨by decide +kernel, rfl⟩
theorem dX6_empty_5 : zd cX6_empty 5 (.aload_n 0) 1 6 := ⟨by decide +kernel, rfl⟩
theorem dX6_empty_6 : zd cX6_empty 6 (.iconst 0) 1 7 := ⟨by decide +kernel, rfl⟩
theorem dX6_empty_7 : zd cX6_empty 7 (.putfield 9) 3 10 := ⟨by decide +kernel, rfl⟩
theorem dX6_empty_10 : zd cX6_empty 10 (.iload_n 1) 1 11 := ⟨by decide +kernel, rfl⟩
theorem dX6_empty_11 : zd cX6_empty 11 (.ireturn) 1 12 := ⟨by decide +kernel, rfl⟩
theorem dX6_last_0 : zd cX6_last 0 (.aload_n 0) 1 1 := ⟨by decide +kernel, rfl⟩
theorem dX6_last_1 : zd cX6_last 1 (.getfield 9) 3 4 := ⟨by decide +kernel, rfl⟩
theorem dX6_last_4 : zd cX6_last 4 (.ifCond .le 17) 3 7 := ⟨by decide +kernel, rfl⟩
theorem dX6_last_7 : zd cX6_last 7 (.aload_n 0) 1 8 := ⟨by decide +kernel, rfl⟩
theorem dX6_last_8 : zd cX6_last 8 (.getfield 21) 3 11 := ⟨by decide +kernel, rfl⟩
theorem dX6_last_11 : zd cX6_last 11 (.aload_n 0) 1 12 := ⟨by decide +kernel, rfl⟩
theorem dX6_last_12 : zd cX6_last 12 (.getfield 9) 3 15 := ⟨by decide +kernel, rfl⟩
theorem dX6_last_15 : zd cX6_last 15 (.iconst 1) 1 16 := ⟨by decide +kernel, rfl⟩
theorem dX6_last_16 : zd cX6_last 16 (.isub) 1 17 := ⟨by decide +kernel, rfl⟩
theorem dX6_last_17 : zd cX6_last 17 (.iaload) 1 18 := ⟨by decide +kernel, rfl⟩
theorem dX6_last_18 : zd cX6_last 18 (.goto 4) 3 21 := ⟨by decide +kernel, rfl⟩
theorem dX6_last_21 : zd cX6_last 21 (.iconst (-1)) 1 22 := ⟨by decide +kernel, rfl⟩
theorem dX6_last_22 : zd cX6_last 22 (.ireturn) 1 23 := ⟨by decide +kernel, rfl⟩
theorem dX6_digestOnto_0 : zd cX6_digestOnto 0 (.iconst 0) 1 1 := ⟨by decide +kernel, rfl⟩
theorem dX6_digestOnto_1 : zd cX6_digestOnto 1 (.istore_n 3) 1 2 := ⟨by decide +kernel, rfl⟩
theorem dX6_digestOnto_2 : zd cX6_digestOnto 2 (.iload_n 3) 1 3 := ⟨by decide +kernel, rfl⟩
theorem dX6_digestOnto_3 : zd cX6_digestOnto 3 (.aload_n 0) 1 4 := ⟨by decide +kernel, rfl⟩
theorem dX6_digestOnto_4 : zd cX6_digestOnto 4 (.getfield 9) 3 7 := ⟨by decide +kernel, rfl⟩
theorem dX6_digestOnto_7 : zd cX6_digestOnto 7 (.if_icmp .ge 23) 3 10 := ⟨by decide +kernel, rfl⟩
theorem dX6_digestOnto_10 : zd cX6_digestOnto 10 (.ldc2_w 29) 3 13 := ⟨by decide +kernel, rfl⟩
theorem dX6_digestOnto_13 : zd cX6_digestOnto 13 (.lload_n 1) 1 14 := ⟨by decide +kernel, rfl⟩
theorem dX6_digestOnto_14 : zd cX6_digestOnto 14 (.lmul) 1 15 := ⟨by decide +kernel, rfl⟩
theorem dX6_digestOnto_15 : zd cX6_digestOnto 15 (.aload_n 0) 1 16 := ⟨by decide +kernel, rfl⟩
theorem dX6_digestOnto_16 : zd cX6_digestOnto 16 (.getfield 21) 3 19 := ⟨by decide +kernel, rfl⟩
theorem dX6_digestOnto_19 : zd cX6_digestOnto 19 (.iload_n 3) 1 20 := ⟨by decide +kernel, rfl⟩
theorem dX6_digestOnto_20 : zd cX6_digestOnto 20 (.iaload) 1 21 := ⟨by decide +kernel, rfl⟩
theorem dX6_digestOnto_21 : zd cX6_digestOnto 21 (.i2l) 1 22 := ⟨by decide +kernel, rfl⟩
theorem dX6_digestOnto_22 : zd cX6_digestOnto 22 (.ladd) 1 23 := ⟨by decide +kernel, rfl⟩
theorem dX6_digestOnto_23 : zd cX6_digestOnto 23 (.lstore_n 1) 1 24 := ⟨by decide +kernel, rfl⟩
theorem dX6_digestOnto_24 : zd cX6_digestOnto 24 (.iinc 3 1) 3 27 := ⟨by decide +kernel, rfl⟩
theorem dX6_digestOnto_27 : zd cX6_digestOnto 27 (.goto (-25)) 3 30 := ⟨by decide +kernel, rfl⟩
theorem dX6_digestOnto_30 : zd cX6_digestOnto 30 (.lload_n 1) 1 31 := ⟨by decide +kernel, rfl⟩
theorem dX6_digestOnto_31 : zd cX6_digestOnto 31 (.lreturn) 1 32 := ⟨by decide +kernel, rfl⟩
theorem dX7_init_0 : zd cX7_init 0 (.aload_n 0) 1 1 := ⟨by decide +kernel, rfl⟩
theorem dX7_init_1 : zd cX7_init 1 (.invokespecial 3) 3 4 := ⟨by decide +kernel, rfl⟩
theorem dX7_init_4 : zd cX7_init 4 (.aload_n 0) 1 5 := ⟨by decide +kernel, rfl⟩
theorem dX7_init_5 : zd cX7_init 5 (.new 9) 3 8 := ⟨by decide +kernel, rfl⟩
theorem dX7_init_8 : zd cX7_init 8 (.dup) 1 9 := ⟨by decide +kernel, rfl⟩
theorem dX7_init_9 : zd cX7_init 9 (.sipush 400) 3 12 := ⟨by decide +kernel, rfl⟩
theorem dX7_init_12 : zd cX7_init 12 (.invokespecial 13) 3 15 := ⟨by decide +kernel, rfl⟩
theorem dX7_init_15 : zd cX7_init 15 (.putfield 16) 3 18 := ⟨by decide +kernel, rfl⟩
theorem dX7_init_18 : zd cX7_init 18 (.aload_n 0) 1 19 := ⟨by decide +kernel, rfl⟩
theorem dX7_init_19 : zd cX7_init 19 (.iconst 0) 1 20 := ⟨by decide +kernel, rfl⟩
theorem dX7_init_20 : zd cX7_init 20 (.putfield 20) 3 23 := ⟨by decide +kernel, rfl⟩
theorem dX7_init_23 : zd cX7_init 23 (.aload_n 0) 1 24 := ⟨by decide +kernel, rfl⟩
theorem dX7_init_24 : zd cX7_init 24 (.iconst 4) 1 25 := ⟨by decide +kernel, rfl⟩
theorem dX7_init_25 : zd cX7_init 25 (.newarray .int) 2 27 := ⟨by decide +kernel, rfl⟩
theorem dX7_init_27 : zd cX7_init 27 (.putfield 24) 3 30 := ⟨by decide +kernel, rfl⟩
theorem dX7_init_30 : zd cX7_init 30 (.aload_n 0) 1 31 := ⟨by decide +kernel, rfl⟩
theorem dX7_init_31 : zd cX7_init 31 (.iconst 4) 1 32 := ⟨by decide +kernel, rfl⟩
theorem dX7_init_32 : zd cX7_init 32 (.newarray .int) 2 34 := ⟨by decide +kernel, rfl⟩
theorem dX7_init_34 : zd cX7_init 34 (.putfield 28) 3 37 := ⟨by decide +kernel, rfl⟩
theorem dX7_init_37 : zd cX7_init 37 (.aload_n 0) 1 38 := ⟨by decide +kernel, rfl⟩
theorem dX7_init_38 : zd cX7_init 38 (.iconst 4) 1 39 := ⟨by decide +kernel, rfl⟩
theorem dX7_init_39 : zd cX7_init 39 (.newarray .int) 2 41 := ⟨by decide +kernel, rfl⟩
theorem dX7_init_41 : zd cX7_init 41 (.putfield 31) 3 44 := ⟨by decide +kernel, rfl⟩
theorem dX7_init_44 : zd cX7_init 44 (.aload_n 0) 1 45 := ⟨by decide +kernel, rfl⟩
theorem dX7_init_45 : zd cX7_init 45 (.sipush 400) 3 48 := ⟨by decide +kernel, rfl⟩
theorem dX7_init_48 : zd cX7_init 48 (.newarray .int) 2 50 := ⟨by decide +kernel, rfl⟩
theorem dX7_init_50 : zd cX7_init 50 (.putfield 34) 3 53 := ⟨by decide +kernel, rfl⟩
theorem dX7_init_53 : zd cX7_init 53 (.aload_n 0) 1 54 := ⟨by decide +kernel, rfl⟩
theorem dX7_init_54 : zd cX7_init 54 (.iconst 0) 1 55 := ⟨by decide +kernel, rfl⟩
theorem dX7_init_55 : zd cX7_init 55 (.putfield 37) 3 58 := ⟨by decide +kernel, rfl⟩
theorem dX7_init_58 : zd cX7_init 58 (.aload_n 0) 1 59 := ⟨by decide +kernel, rfl⟩
theorem dX7_init_59 : zd cX7_init 59 (.iconst 0) 1 60 := ⟨by decide +kernel, rfl⟩
theorem dX7_init_60 : zd cX7_init 60 (.putfield 40) 3 63 := ⟨by decide +kernel, rfl⟩
theorem dX7_init_63 : zd cX7_init 63 (.aload_n 0) 1 64 := ⟨by decide +kernel, rfl⟩
theorem dX7_init_64 : zd cX7_init 64 (.iload_n 1) 1 65 := ⟨by decide +kernel, rfl⟩
theorem dX7_init_65 : zd cX7_init 65 (.putfield 43) 3 68 := ⟨by decide +kernel, rfl⟩
theorem dX7_init_68 : zd cX7_init 68 (.aload_n 0) 1 69 := ⟨by decide +kernel, rfl⟩
theorem dX7_init_69 : zd cX7_init 69 (.iload_n 2) 1 70 := ⟨by decide +kernel, rfl⟩
theorem dX7_init_70 : zd cX7_init 70 (.putfield 47) 3 73 := ⟨by decide +kernel, rfl⟩
theorem dX7_init_73 : zd cX7_init 73 (.aload_n 0) 1 74 := ⟨by decide +kernel, rfl⟩
theorem dX7_init_74 : zd cX7_init 74 (.iload_n 3) 1 75 := ⟨by decide +kernel, rfl⟩
theorem dX7_init_75 : zd cX7_init 75 (.putfield 50) 3 78 := ⟨by decide +kernel, rfl⟩
theorem dX7_init_78 : zd cX7_init 78 (.aload_n 0) 1 79 := ⟨by decide +kernel, rfl⟩
theorem dX7_init_79 : zd cX7_init 79 (.iload 4) 2 81 := ⟨by decide +kernel, rfl⟩
theorem dX7_init_81 : zd cX7_init 81 (.putfield 53) 3 84 := ⟨by decide +kernel, rfl⟩
theorem dX7_init_84 : zd cX7_init 84 (.return_) 1 85 := ⟨by decide +kernel, rfl⟩
theorem dX7_placeOf_0 : zd cX7_placeOf 0 (.aload_n 3) 1 1 := ⟨by decide +kernel, rfl⟩
theorem dX7_placeOf_1 : zd cX7_placeOf 1 (.iload_n 1) 1 2 := ⟨by decide +kernel, rfl⟩
theorem dX7_placeOf_2 : zd cX7_placeOf 2 (.iload_n 2) 1 3 := ⟨by decide +kernel, rfl⟩
theorem dX7_placeOf_3 : zd cX7_placeOf 3 (.aload_n 0) 1 4 := ⟨by decide +kernel, rfl⟩
theorem dX7_placeOf_4 : zd cX7_placeOf 4 (.getfield 47) 3 7 := ⟨by decide +kernel, rfl⟩
theorem dX7_placeOf_7 : zd cX7_placeOf 7 (.aload_n 0) 1 8 := ⟨by decide +kernel, rfl⟩
theorem dX7_placeOf_8 : zd cX7_placeOf 8 (.getfield 50) 3 11 := ⟨by decide +kernel, rfl⟩
theorem dX7_placeOf_11 : zd cX7_placeOf 11 (.invokevirtual 56) 3 14 := ⟨by decide +kernel, rfl⟩
theorem dX7_placeOf_14 : zd cX7_placeOf 14 (.istore 4) 2 16 := ⟨by decide +kernel, rfl⟩
theorem dX7_placeOf_16 : zd cX7_placeOf 16 (.aload_n 0) 1 17 := ⟨by decide +kernel, rfl⟩
theorem dX7_placeOf_17 : zd cX7_placeOf 17 (.getfield 53) 3 20 := ⟨by decide +kernel, rfl⟩
theorem dX7_placeOf_20 : zd cX7_placeOf 20 (.ifCond .eq 10) 3 23 := ⟨by decide +kernel, rfl⟩
theorem dX7_placeOf_23 : zd cX7_placeOf 23 (.iload_n 2) 1 24 := ⟨by decide +kernel, rfl⟩
theorem dX7_placeOf_24 : zd cX7_placeOf 24 (.iload 4) 2 26 := ⟨by decide +kernel, rfl⟩
theorem dX7_placeOf_26 : zd cX7_placeOf 26 (.isub) 1 27 := ⟨by decide +kernel, rfl⟩
theorem dX7_placeOf_27 : zd cX7_placeOf 27 (.goto 5) 3 30 := ⟨by decide +kernel, rfl⟩
theorem dX7_placeOf_30 : zd cX7_placeOf 30 (.iload 4) 2 32 := ⟨by decide +kernel, rfl⟩
theorem dX7_placeOf_32 : zd cX7_placeOf 32 (.ireturn) 1 33 := ⟨by decide +kernel, rfl⟩
theorem dX7_lastTo_0 : zd cX7_lastTo 0 (.aload_n 0) 1 1 := ⟨by decide +kernel, rfl⟩
theorem dX7_lastTo_1 : zd cX7_lastTo 1 (.getfield 20) 3 4 := ⟨by decide +kernel, rfl⟩
theorem dX7_lastTo_4 : zd cX7_lastTo 4 (.ifCond .le 17) 3 7 := ⟨by decide +kernel, rfl⟩
theorem dX7_lastTo_7 : zd cX7_lastTo 7 (.aload_n 0) 1 8 := ⟨by decide +kernel, rfl⟩
theorem dX7_lastTo_8 : zd cX7_lastTo 8 (.getfield 28) 3 11 := ⟨by decide +kernel, rfl⟩
theorem dX7_lastTo_11 : zd cX7_lastTo 11 (.aload_n 0) 1 12 := ⟨by decide +kernel, rfl⟩
theorem dX7_lastTo_12 : zd cX7_lastTo 12 (.getfield 20) 3 15 := ⟨by decide +kernel, rfl⟩
theorem dX7_lastTo_15 : zd cX7_lastTo 15 (.iconst 1) 1 16 := ⟨by decide +kernel, rfl⟩
theorem dX7_lastTo_16 : zd cX7_lastTo 16 (.isub) 1 17 := ⟨by decide +kernel, rfl⟩
theorem dX7_lastTo_17 : zd cX7_lastTo 17 (.iaload) 1 18 := ⟨by decide +kernel, rfl⟩
theorem dX7_lastTo_18 : zd cX7_lastTo 18 (.goto 4) 3 21 := ⟨by decide +kernel, rfl⟩
theorem dX7_lastTo_21 : zd cX7_lastTo 21 (.iconst 0) 1 22 := ⟨by decide +kernel, rfl⟩
theorem dX7_lastTo_22 : zd cX7_lastTo 22 (.ireturn) 1 23 := ⟨by decide +kernel, rfl⟩
theorem dX7_hasRoomFor_0 : zd cX7_hasRoomFor 0 (.aload_n 0) 1 1 := ⟨by decide +kernel, rfl⟩
theorem dX7_hasRoomFor_1 : zd cX7_hasRoomFor 1 (.getfield 20) 3 4 := ⟨by decide +kernel, rfl⟩
theorem dX7_hasRoomFor_4 : zd cX7_hasRoomFor 4 (.iconst 4) 1 5 := ⟨by decide +kernel, rfl⟩
theorem dX7_hasRoomFor_5 : zd cX7_hasRoomFor 5 (.if_icmp .ge 22) 3 8 := ⟨by decide +kernel, rfl⟩
theorem dX7_hasRoomFor_8 : zd cX7_hasRoomFor 8 (.iload_n 1) 1 9 := ⟨by decide +kernel, rfl⟩
theorem dX7_hasRoomFor_9 : zd cX7_hasRoomFor 9 (.sipush 400) 3 12 := ⟨by decide +kernel, rfl⟩
theorem dX7_hasRoomFor_12 : zd cX7_hasRoomFor 12 (.aload_n 0) 1 13 := ⟨by decide +kernel, rfl⟩
theorem dX7_hasRoomFor_13 : zd cX7_hasRoomFor 13 (.getfield 16) 3 16 := ⟨by decide +kernel, rfl⟩
theorem dX7_hasRoomFor_16 : zd cX7_hasRoomFor 16 (.getfield 62) 3 19 := ⟨by decide +kernel, rfl⟩
theorem dX7_hasRoomFor_19 : zd cX7_hasRoomFor 19 (.isub) 1 20 := ⟨by decide +kernel, rfl⟩
theorem dX7_hasRoomFor_20 : zd cX7_hasRoomFor 20 (.if_icmp .gt 7) 3 23 := ⟨by decide +kernel, rfl⟩
theorem dX7_hasRoomFor_23 : zd cX7_hasRoomFor 23 (.iconst 1) 1 24 := ⟨by decide +kernel, rfl⟩
theorem dX7_hasRoomFor_24 : zd cX7_hasRoomFor 24 (.goto 4) 3 27 := ⟨by decide +kernel, rfl⟩
theorem dX7_hasRoomFor_27 : zd cX7_hasRoomFor 27 (.iconst 0) 1 28 := ⟨by decide +kernel, rfl⟩
theorem dX7_hasRoomFor_28 : zd cX7_hasRoomFor 28 (.ireturn) 1 29 := ⟨by decide +kernel, rfl⟩
theorem dX7_addSpan_0 : zd cX7_addSpan 0 (.aload_n 0) 1 1 := ⟨by decide +kernel, rfl⟩
theorem dX7_addSpan_1 : zd cX7_addSpan 1 (.getfield 20) 3 4 := ⟨by decide +kernel, rfl⟩
theorem dX7_addSpan_4 : zd cX7_addSpan 4 (.iconst 4) 1 5 := ⟨by decide +kernel, rfl⟩
theorem dX7_addSpan_5 : zd cX7_addSpan 5 (.if_icmp .ge 8) 3 8 := ⟨by decide +kernel, rfl⟩
theorem dX7_addSpan_8 : zd cX7_addSpan 8 (.iload_n 3) 1 9 := ⟨by decide +kernel, rfl⟩
theorem dX7_addSpan_9 : zd cX7_addSpan 9 (.iconst 1) 1 10 := ⟨by decide +kernel, rfl⟩
theorem dX7_addSpan_10 : zd cX7_addSpan 10 (.if_icmp .ge 4) 3 13 := ⟨by decide +kernel, rfl⟩
theorem dX7_addSpan_13 : zd cX7_addSpan 13 (.return_) 1 14 := ⟨by decide +kernel, rfl⟩
theorem dX7_addSpan_14 : zd cX7_addSpan 14 (.aload_n 0) 1 15 := ⟨by decide +kernel, rfl⟩
theorem dX7_addSpan_15 : zd cX7_addSpan 15 (.getfield 24) 3 18 := ⟨by decide +kernel, rfl⟩
theorem dX7_addSpan_18 : zd cX7_addSpan 18 (.aload_n 0) 1 19 := ⟨by decide +kernel, rfl⟩
theorem dX7_addSpan_19 : zd cX7_addSpan 19 (.getfield 20) 3 22 := ⟨by decide +kernel, rfl⟩
theorem dX7_addSpan_22 : zd cX7_addSpan 22 (.iload_n 1) 1 23 := ⟨by decide +kernel, rfl⟩
theorem dX7_addSpan_23 : zd cX7_addSpan 23 (.iastore) 1 24 := ⟨by decide +kernel, rfl⟩
theorem dX7_addSpan_24 : zd cX7_addSpan 24 (.aload_n 0) 1 25 := ⟨by decide +kernel, rfl⟩
theorem dX7_addSpan_25 : zd cX7_addSpan 25 (.getfield 28) 3 28 := ⟨by decide +kernel, rfl⟩
theorem dX7_addSpan_28 : zd cX7_addSpan 28 (.aload_n 0) 1 29 := ⟨by decide +kernel, rfl⟩
theorem dX7_addSpan_29 : zd cX7_addSpan 29 (.getfield 20) 3 32 := ⟨by decide +kernel, rfl⟩
theorem dX7_addSpan_32 : zd cX7_addSpan 32 (.iload_n 2) 1 33 := ⟨by decide +kernel, rfl⟩
theorem dX7_addSpan_33 : zd cX7_addSpan 33 (.iastore) 1 34 := ⟨by decide +kernel, rfl⟩
theorem dX7_addSpan_34 : zd cX7_addSpan 34 (.aload_n 0) 1 35 := ⟨by decide +kernel, rfl⟩
theorem dX7_addSpan_35 : zd cX7_addSpan 35 (.getfield 31) 3 38 := ⟨by decide +kernel, rfl⟩
theorem dX7_addSpan_38 : zd cX7_addSpan 38 (.aload_n 0) 1 39 := ⟨by decide +kernel, rfl⟩
theorem dX7_addSpan_39 : zd cX7_addSpan 39 (.getfield 20) 3 42 := ⟨by decide +kernel, rfl⟩
theorem dX7_addSpan_42 : zd cX7_addSpan 42 (.iload_n 3) 1 43 := ⟨by decide +kernel, rfl⟩
theorem dX7_addSpan_43 : zd cX7_addSpan 43 (.iastore) 1 44 := ⟨by decide +kernel, rfl⟩
theorem dX7_addSpan_44 : zd cX7_addSpan 44 (.aload_n 0) 1 45 := ⟨by decide +kernel, rfl⟩
theorem dX7_addSpan_45 : zd cX7_addSpan 45 (.dup) 1 46 := ⟨by decide +kernel, rfl⟩
theorem dX7_addSpan_46 : zd cX7_addSpan 46 (.getfield 20) 3 49 := ⟨by decide +kernel, rfl⟩
theorem dX7_addSpan_49 : zd cX7_addSpan 49 (.iconst 1) 1 50 := ⟨by decide +kernel, rfl⟩
theorem dX7_addSpan_50 : zd cX7_addSpan 50 (.iadd) 1 51 := ⟨by decide +kernel, rfl⟩
theorem dX7_addSpan_51 : zd cX7_addSpan 51 (.putfield 20) 3 54 := ⟨by decide +kernel, rfl⟩
theorem dX7_addSpan_54 : zd cX7_addSpan 54 (.iload_n 1) 1 55 := ⟨by decide +kernel, rfl⟩
theorem dX7_addSpan_55 : zd cX7_addSpan 55 (.istore 4) 2 57 := ⟨by decide +kernel, rfl⟩
theorem dX7_addSpan_57 : zd cX7_addSpan 57 (.iload 4) 2 59 := ⟨by decide +kernel, rfl⟩
theorem dX7_addSpan_59 : zd cX7_addSpan 59 (.iload_n 2) 1 60 := ⟨by decide +kernel, rfl⟩
theorem dX7_addSpan_60 : zd cX7_addSpan 60 (.if_icmp .gt 32) 3 63 := ⟨by decide +kernel, rfl⟩
theorem dX7_addSpan_63 : zd cX7_addSpan 63 (.aload_n 0) 1 64 := ⟨by decide +kernel, rfl⟩
theorem dX7_addSpan_64 : zd cX7_addSpan 64 (.getfield 16) 3 67 := ⟨by decide +kernel, rfl⟩
theorem dX7_addSpan_67 : zd cX7_addSpan 67 (.invokevirtual 65) 3 70 := ⟨by decide +kernel, rfl⟩
theorem dX7_addSpan_70 : zd cX7_addSpan 70 (.ifCond .ne 22) 3 73 := ⟨by decide +kernel, rfl⟩
theorem dX7_addSpan_73 : zd cX7_addSpan 73 (.aload_n 0) 1 74 := ⟨by decide +kernel, rfl⟩
theorem dX7_addSpan_74 : zd cX7_addSpan 74 (.getfield 16) 3 77 := ⟨by decide +kernel, rfl⟩
theorem dX7_addSpan_77 : zd cX7_addSpan 77 (.iload 4) 2 79 := ⟨by decide +kernel, rfl⟩
theorem dX7_addSpan_79 : zd cX7_addSpan 79 (.invokevirtual 69) 3 82 := ⟨by decide +kernel, rfl⟩
theorem dX7_addSpan_82 : zd cX7_addSpan 82 (.pop) 1 83 := ⟨by decide +kernel, rfl⟩
theorem dX7_addSpan_83 : zd cX7_addSpan 83 (.iload 4) 2 85 := ⟨by decide +kernel, rfl⟩
theorem dX7_addSpan_85 : zd cX7_addSpan 85 (.iload_n 3) 1 86 := ⟨by decide +kernel, rfl⟩
theorem dX7_addSpan_86 : zd cX7_addSpan 86 (.iadd) 1 87 := ⟨by decide +kernel, rfl⟩
theorem dX7_addSpan_87 : zd cX7_addSpan 87 (.istore 4) 2 89 := ⟨by decide +kernel, rfl⟩
theorem dX7_addSpan_89 : zd cX7_addSpan 89 (.goto (-32)) 3 92 := ⟨by decide +kernel, rfl⟩
theorem dX7_addSpan_92 : zd cX7_addSpan 92 (.return_) 1 93 := ⟨by decide +kernel, rfl⟩
theorem dX7_numberAt_0 : zd cX7_numberAt 0 (.iload_n 1) 1 1 := ⟨by decide +kernel, rfl⟩
theorem dX7_numberAt_1 : zd cX7_numberAt 1 (.ifCond .lt 26) 3 4 := ⟨by decide +kernel, rfl⟩
theorem dX7_numberAt_4 : zd cX7_numberAt 4 (.iload_n 1) 1 5 := ⟨by decide +kernel, rfl⟩
theorem dX7_numberAt_5 : zd cX7_numberAt 5 (.aload_n 0) 1 6 := ⟨by decide +kernel, rfl⟩
theorem dX7_numberAt_6 : zd cX7_numberAt 6 (.getfield 16) 3 9 := ⟨by decide +kernel, rfl⟩
theorem dX7_numberAt_9 : zd cX7_numberAt 9 (.getfield 62) 3 12 := ⟨by decide +kernel, rfl⟩
theorem dX7_numberAt_12 : zd cX7_numberAt 12 (.if_icmp .ge 15) 3 15 := ⟨by decide +kernel, rfl⟩
theorem dX7_numberAt_15 : zd cX7_numberAt 15 (.aload_n 0) 1 16 := ⟨by decide +kernel, rfl⟩
theorem dX7_numberAt_16 : zd cX7_numberAt 16 (.getfield 16) 3 19 := ⟨by decide +kernel, rfl⟩
theorem dX7_numberAt_19 : zd cX7_numberAt 19 (.getfield 73) 3 22 := ⟨by decide +kernel, rfl⟩
theorem dX7_numberAt_22 : zd cX7_numberAt 22 (.iload_n 1) 1 23 := ⟨by decide +kernel, rfl⟩
theorem dX7_numberAt_23 : zd cX7_numberAt 23 (.iaload) 1 24 := ⟨by decide +kernel, rfl⟩
theorem dX7_numberAt_24 : zd cX7_numberAt 24 (.goto 4) 3 27 := ⟨by decide +kernel, rfl⟩
theorem dX7_numberAt_27 : zd cX7_numberAt 27 (.iconst (-1)) 1 28 := ⟨by decide +kernel, rfl⟩
theorem dX7_numberAt_28 : zd cX7_numberAt 28 (.ireturn) 1 29 := ⟨by decide +kernel, rfl⟩
theorem dX7_placeMarks_0 : zd cX7_placeMarks 0 (.aload_n 0) 1 1 := ⟨by decide +kernel, rfl⟩
theorem dX7_placeMarks_1 : zd cX7_placeMarks 1 (.getfield 40) 3 4 := ⟨by decide +kernel, rfl⟩
theorem dX7_placeMarks_4 : zd cX7_placeMarks 4 (.iload_n 1) 1 5 := ⟨by decide +kernel, rfl⟩
theorem dX7_placeMarks_5 : zd cX7_placeMarks 5 (.if_icmp .eq 13) 3 8 := ⟨by decide +kernel, rfl⟩
theorem dX7_placeMarks_8 : zd cX7_placeMarks 8 (.aload_n 0) 1 9 := ⟨by decide +kernel, rfl⟩
theorem dX7_placeMarks_9 : zd cX7_placeMarks 9 (.iload_n 1) 1 10 := ⟨by decide +kernel, rfl⟩
theorem dX7_placeMarks_10 : zd cX7_placeMarks 10 (.putfield 40) 3 13 := ⟨by decide +kernel, rfl⟩
theorem dX7_placeMarks_13 : zd cX7_placeMarks 13 (.aload_n 0) 1 14 := ⟨by decide +kernel, rfl⟩
theorem dX7_placeMarks_14 : zd cX7_placeMarks 14 (.iconst 0) 1 15 := ⟨by decide +kernel, rfl⟩
theorem dX7_placeMarks_15 : zd cX7_placeMarks 15 (.putfield 37) 3 18 := ⟨by decide +kernel, rfl⟩
theorem dX7_placeMarks_18 : zd cX7_placeMarks 18 (.aload_n 0) 1 19 := ⟨by decide +kernel, rfl⟩
theorem dX7_placeMarks_19 : zd cX7_placeMarks 19 (.getfield 37) 3 22 := ⟨by decide +kernel, rfl⟩
theorem dX7_placeMarks_22 : zd cX7_placeMarks 22 (.aload_n 0) 1 23 := ⟨by decide +kernel, rfl⟩
theorem dX7_placeMarks_23 : zd cX7_placeMarks 23 (.getfield 16) 3 26 := ⟨by decide +kernel, rfl⟩
theorem dX7_placeMarks_26 : zd cX7_placeMarks 26 (.getfield 62) 3 29 := ⟨by decide +kernel, rfl⟩
theorem dX7_placeMarks_29 : zd cX7_placeMarks 29 (.if_icmp .ge 43) 3 32 := ⟨by decide +kernel, rfl⟩
theorem dX7_placeMarks_32 : zd cX7_placeMarks 32 (.aload_n 0) 1 33 := ⟨by decide +kernel, rfl⟩
theorem dX7_placeMarks_33 : zd cX7_placeMarks 33 (.getfield 34) 3 36 := ⟨by decide +kernel, rfl⟩
theorem dX7_placeMarks_36 : zd cX7_placeMarks 36 (.aload_n 0) 1 37 := ⟨by decide +kernel, rfl⟩
theorem dX7_placeMarks_37 : zd cX7_placeMarks 37 (.getfield 37) 3 40 := ⟨by decide +kernel, rfl⟩
theorem dX7_placeMarks_40 : zd cX7_placeMarks 40 (.aload_n 0) 1 41 := ⟨by decide +kernel, rfl⟩
theorem dX7_placeMarks_41 : zd cX7_placeMarks 41 (.aload_n 0) 1 42 := ⟨by decide +kernel, rfl⟩
theorem dX7_placeMarks_42 : zd cX7_placeMarks 42 (.getfield 16) 3 45 := ⟨by decide +kernel, rfl⟩
theorem dX7_placeMarks_45 : zd cX7_placeMarks 45 (.getfield 73) 3 48 := ⟨by decide +kernel, rfl⟩
theorem dX7_placeMarks_48 : zd cX7_placeMarks 48 (.aload_n 0) 1 49 := ⟨by decide +kernel, rfl⟩
theorem dX7_placeMarks_49 : zd cX7_placeMarks 49 (.getfield 37) 3 52 := ⟨by decide +kernel, rfl⟩
theorem dX7_placeMarks_52 : zd cX7_placeMarks 52 (.iaload) 1 53 := ⟨by decide +kernel, rfl⟩
theorem dX7_placeMarks_53 : zd cX7_placeMarks 53 (.iload_n 1) 1 54 := ⟨by decide +kernel, rfl⟩
theorem dX7_placeMarks_54 : zd cX7_placeMarks 54 (.aload_n 2) 1 55 := ⟨by decide +kernel, rfl⟩
theorem dX7_placeMarks_55 : zd cX7_placeMarks 55 (.invokevirtual 76) 3 58 := ⟨by decide +kernel, rfl⟩
theorem dX7_placeMarks_58 : zd cX7_placeMarks 58 (.iastore) 1 59 := ⟨by decide +kernel, rfl⟩
theorem dX7_placeMarks_59 : zd cX7_placeMarks 59 (.aload_n 0) 1 60 := ⟨by decide +kernel, rfl⟩
theorem dX7_placeMarks_60 : zd cX7_placeMarks 60 (.dup) 1 61 := ⟨by decide +kernel, rfl⟩
theorem dX7_placeMarks_61 : zd cX7_placeMarks 61 (.getfield 37) 3 64 := ⟨by decide +kernel, rfl⟩
theorem dX7_placeMarks_64 : zd cX7_placeMarks 64 (.iconst 1) 1 65 := ⟨by decide +kernel, rfl⟩
theorem dX7_placeMarks_65 : zd cX7_placeMarks 65 (.iadd) 1 66 := ⟨by decide +kernel, rfl⟩
theorem dX7_placeMarks_66 : zd cX7_placeMarks 66 (.putfield 37) 3 69 := ⟨by decide +kernel, rfl⟩
theorem dX7_placeMarks_69 : zd cX7_placeMarks 69 (.goto (-51)) 3 72 := ⟨by decide +kernel, rfl⟩
theorem dX7_placeMarks_72 : zd cX7_placeMarks 72 (.return_) 1 73 := ⟨by decide +kernel, rfl⟩
theorem dX7_gapBehind_0 : zd cX7_gapBehind 0 (.iload_n 1) 1 1 := ⟨by decide +kernel, rfl⟩
theorem dX7_gapBehind_1 : zd cX7_gapBehind 1 (.ifCond .lt 37) 3 4 := ⟨by decide +kernel, rfl⟩
theorem dX7_gapBehind_4 : zd cX7_gapBehind 4 (.iload_n 1) 1 5 := ⟨by decide +kernel, rfl⟩
theorem dX7_gapBehind_5 : zd cX7_gapBehind 5 (.iconst 1) 1 6 := ⟨by decide +kernel, rfl⟩
theorem dX7_gapBehind_6 : zd cX7_gapBehind 6 (.iadd) 1 7 := ⟨by decide +kernel, rfl⟩
theorem dX7_gapBehind_7 : zd cX7_gapBehind 7 (.aload_n 0) 1 8 := ⟨by decide +kernel, rfl⟩
theorem dX7_gapBehind_8 : zd cX7_gapBehind 8 (.getfield 16) 3 11 := ⟨by decide +kernel, rfl⟩
theorem dX7_gapBehind_11 : zd cX7_gapBehind 11 (.getfield 62) 3 14 := ⟨by decide +kernel, rfl⟩
theorem dX7_gapBehind_14 : zd cX7_gapBehind 14 (.if_icmp .ge 24) 3 17 := ⟨by decide +kernel, rfl⟩
theorem dX7_gapBehind_17 : zd cX7_gapBehind 17 (.aload_n 0) 1 18 := ⟨by decide +kernel, rfl⟩
theorem dX7_gapBehind_18 : zd cX7_gapBehind 18 (.getfield 34) 3 21 := ⟨by decide +kernel, rfl⟩
theorem dX7_gapBehind_21 : zd cX7_gapBehind 21 (.iload_n 1) 1 22 := ⟨by decide +kernel, rfl⟩
theorem dX7_gapBehind_22 : zd cX7_gapBehind 22 (.iconst 1) 1 23 := ⟨by decide +kernel, rfl⟩
theorem dX7_gapBehind_23 : zd cX7_gapBehind 23 (.iadd) 1 24 := ⟨by decide +kernel, rfl⟩
theorem dX7_gapBehind_24 : zd cX7_gapBehind 24 (.iaload) 1 25 := ⟨by decide +kernel, rfl⟩
theorem dX7_gapBehind_25 : zd cX7_gapBehind 25 (.aload_n 0) 1 26 := ⟨by decide +kernel, rfl⟩
theorem dX7_gapBehind_26 : zd cX7_gapBehind 26 (.getfield 34) 3 29 := ⟨by decide +kernel, rfl⟩
theorem dX7_gapBehind_29 : zd cX7_gapBehind 29 (.iload_n 1) 1 30 := ⟨by decide +kernel, rfl⟩
theorem dX7_gapBehind_30 : zd cX7_gapBehind 30 (.iaload) 1 31 := ⟨by decide +kernel, rfl⟩
theorem dX7_gapBehind_31 : zd cX7_gapBehind 31 (.isub) 1 32 := ⟨by decide +kernel, rfl⟩
theorem dX7_gapBehind_32 : zd cX7_gapBehind 32 (.invokestatic 79) 3 35 := ⟨by decide +kernel, rfl⟩
theorem dX7_gapBehind_35 : zd cX7_gapBehind 35 (.goto 4) 3 38 := ⟨by decide +kernel, rfl⟩
theorem dX7_gapBehind_38 : zd cX7_gapBehind 38 (.iconst (-1)) 1 39 := ⟨by decide +kernel, rfl⟩
theorem dX7_gapBehind_39 : zd cX7_gapBehind 39 (.ireturn) 1 40 := ⟨by decide +kernel, rfl⟩
theorem dX7_firstOfClosest_0 : zd cX7_firstOfClosest 0 (.aload_n 0) 1 1 := ⟨by decide +kernel, rfl⟩
theorem dX7_firstOfClosest_1 : zd cX7_firstOfClosest 1 (.getfield 16) 3 4 := ⟨by decide +kernel, rfl⟩
theorem dX7_firstOfClosest_4 : zd cX7_firstOfClosest 4 (.getfield 62) 3 7 := ⟨by decide +kernel, rfl⟩
theorem dX7_firstOfClosest_7 : zd cX7_firstOfClosest 7 (.iconst 1) 1 8 := ⟨by decide +kernel, rfl⟩
theorem dX7_firstOfClosest_8 : zd cX7_firstOfClosest 8 (.if_icmp .le 7) 3 11 := ⟨by decide +kernel, rfl⟩
theorem dX7_firstOfClosest_11 : zd cX7_firstOfClosest 11 (.iconst 0) 1 12 := ⟨by decide +kernel, rfl⟩
theorem dX7_firstOfClosest_12 : zd cX7_firstOfClosest 12 (.goto 4) 3 15 := ⟨by decide +kernel, rfl⟩
theorem dX7_firstOfClosest_15 : zd cX7_firstOfClosest 15 (.iconst (-1)) 1 16 := ⟨by decide +kernel, rfl⟩
theorem dX7_firstOfClosest_16 : zd cX7_firstOfClosest 16 (.istore_n 1) 1 17 := ⟨by decide +kernel, rfl⟩
theorem dX7_firstOfClosest_17 : zd cX7_firstOfClosest 17 (.iconst 1) 1 18 := ⟨by decide +kernel, rfl⟩
theorem dX7_firstOfClosest_18 : zd cX7_firstOfClosest 18 (.istore_n 2) 1 19 := ⟨by decide +kernel, rfl⟩
theorem dX7_firstOfClosest_19 : zd cX7_firstOfClosest 19 (.iload_n 2) 1 20 := ⟨by decide +kernel, rfl⟩
theorem dX7_firstOfClosest_20 : zd cX7_firstOfClosest 20 (.iconst 1) 1 21 := ⟨by decide +kernel, rfl⟩
theorem dX7_firstOfClosest_21 : zd cX7_firstOfClosest 21 (.iadd) 1 22 := ⟨by decide +kernel, rfl⟩
theorem dX7_firstOfClosest_22 : zd cX7_firstOfClosest 22 (.aload_n 0) 1 23 := ⟨by decide +kernel, rfl⟩
theorem dX7_firstOfClosest_23 : zd cX7_firstOfClosest 23 (.getfield 16) 3 26 := ⟨by decide +kernel, rfl⟩
theorem dX7_firstOfClosest_26 : zd cX7_firstOfClosest 26 (.getfield 62) 3 29 := ⟨by decide +kernel, rfl⟩
theorem dX7_firstOfClosest_29 : zd cX7_firstOfClosest 29 (.if_icmp .ge 24) 3 32 := ⟨by decide +kernel, rfl⟩
theorem dX7_firstOfClosest_32 : zd cX7_firstOfClosest 32 (.aload_n 0) 1 33 := ⟨by decide +kernel, rfl⟩
theorem dX7_firstOfClosest_33 : zd cX7_firstOfClosest 33 (.iload_n 2) 1 34 := ⟨by decide +kernel, rfl⟩
theorem dX7_firstOfClosest_34 : zd cX7_firstOfClosest 34 (.invokevirtual 84) 3 37 := ⟨by decide +kernel, rfl⟩
theorem dX7_firstOfClosest_37 : zd cX7_firstOfClosest 37 (.aload_n 0) 1 38 := ⟨by decide +kernel, rfl⟩
theorem dX7_firstOfClosest_38 : zd cX7_firstOfClosest 38 (.iload_n 1) 1 39 := ⟨by decide +kernel, rfl⟩
theorem dX7_firstOfClosest_39 : zd cX7_firstOfClosest 39 (.invokevirtual 84) 3 42 := ⟨by decide +kernel, rfl⟩
theorem dX7_firstOfClosest_42 : zd cX7_firstOfClosest 42 (.if_icmp .ge 5) 3 45 := ⟨by decide +kernel, rfl⟩
theorem dX7_firstOfClosest_45 : zd cX7_firstOfClosest 45 (.iload_n 2) 1 46 := ⟨by decide +kernel, rfl⟩
theorem dX7_firstOfClosest_46 : zd cX7_firstOfClosest 46 (.istore_n 1) 1 47 := ⟨by decide +kernel, rfl⟩
theorem dX7_firstOfClosest_47 : zd cX7_firstOfClosest 47 (.iinc 2 1) 3 50 := ⟨by decide +kernel, rfl⟩
theorem dX7_firstOfClosest_50 : zd cX7_firstOfClosest 50 (.goto (-31)) 3 53 := ⟨by decide +kernel, rfl⟩
theorem dX7_firstOfClosest_53 : zd cX7_firstOfClosest 53 (.iload_n 1) 1 54 := ⟨by decide +kernel, rfl⟩
theorem dX7_firstOfClosest_54 : zd cX7_firstOfClosest 54 (.ireturn) 1 55 := ⟨by decide +kernel, rfl⟩
theorem dX7_nearestTo_0 : zd cX7_nearestTo 0 (.aload_n 0) 1 1 := ⟨by decide +kernel, rfl⟩
theorem dX7_nearestTo_1 : zd cX7_nearestTo 1 (.getfield 16) 3 4 := ⟨by decide +kernel, rfl⟩
theorem dX7_nearestTo_4 : zd cX7_nearestTo 4 (.getfield 62) 3 7 := ⟨by decide +kernel, rfl⟩
theorem dX7_nearestTo_7 : zd cX7_nearestTo 7 (.ifCond .le 7) 3 10 := ⟨by decide +kernel, rfl⟩
theorem dX7_nearestTo_10 : zd cX7_nearestTo 10 (.iconst 0) 1 11 := ⟨by decide +kernel, rfl⟩
theorem dX7_nearestTo_11 : zd cX7_nearestTo 11 (.goto 4) 3 14 := ⟨by decide +kernel, rfl⟩
theorem dX7_nearestTo_14 : zd cX7_nearestTo 14 (.iconst (-1)) 1 15 := ⟨by decide +kernel, rfl⟩
theorem dX7_nearestTo_15 : zd cX7_nearestTo 15 (.istore_n 2) 1 16 := ⟨by decide +kernel, rfl⟩
theorem dX7_nearestTo_16 : zd cX7_nearestTo 16 (.iconst 1) 1 17 := ⟨by decide +kernel, rfl⟩
theorem dX7_nearestTo_17 : zd cX7_nearestTo 17 (.istore_n 3) 1 18 := ⟨by decide +kernel, rfl⟩
theorem dX7_nearestTo_18 : zd cX7_nearestTo 18 (.iload_n 3) 1 19 := ⟨by decide +kernel, rfl⟩
theorem dX7_nearestTo_19 : zd cX7_nearestTo 19 (.aload_n 0) 1 20 := ⟨by decide +kernel, rfl⟩
theorem dX7_nearestTo_20 : zd cX7_nearestTo 20 (.getfield 16) 3 23 := ⟨by decide +kernel, rfl⟩
theorem dX7_nearestTo_23 : zd cX7_nearestTo 23 (.getfield 62) 3 26 := ⟨by decide +kernel, rfl⟩
theorem dX7_nearestTo_26 : zd cX7_nearestTo 26 (.if_icmp .ge 36) 3 29 := ⟨by decide +kernel, rfl⟩
theorem dX7_nearestTo_29 : zd cX7_nearestTo 29 (.aload_n 0) 1 30 := ⟨by decide +kernel, rfl⟩
theorem dX7_nearestTo_30 : zd cX7_nearestTo 30 (.getfield 34) 3 33 := ⟨by decide +kernel, rfl⟩
theorem dX7_nearestTo_33 : zd cX7_nearestTo 33 (.iload_n 3) 1 34 := ⟨by decide +kernel, rfl⟩
theorem dX7_nearestTo_34 : zd cX7_nearestTo 34 (.iaload) 1 35 := ⟨by decide +kernel, rfl⟩
theorem dX7_nearestTo_35 : zd cX7_nearestTo 35 (.iload_n 1) 1 36 := ⟨by decide +kernel, rfl⟩
theorem dX7_nearestTo_36 : zd cX7_nearestTo 36 (.isub) 1 37 := ⟨by decide +kernel, rfl⟩
theorem dX7_nearestTo_37 : zd cX7_nearestTo 37 (.invokestatic 79) 3 40 := ⟨by decide +kernel, rfl⟩
theorem dX7_nearestTo_40 : zd cX7_nearestTo 40 (.aload_n 0) 1 41 := ⟨by decide +kernel, rfl⟩
theorem dX7_nearestTo_41 : zd cX7_nearestTo 41 (.getfield 34) 3 44 := ⟨by decide +kernel, rfl⟩
theorem dX7_nearestTo_44 : zd cX7_nearestTo 44 (.iload_n 2) 1 45 := ⟨by decide +kernel, rfl⟩
theorem dX7_nearestTo_45 : zd cX7_nearestTo 45 (.iaload) 1 46 := ⟨by decide +kernel, rfl⟩
theorem dX7_nearestTo_46 : zd cX7_nearestTo 46 (.iload_n 1) 1 47 := ⟨by decide +kernel, rfl⟩
theorem dX7_nearestTo_47 : zd cX7_nearestTo 47 (.isub) 1 48 := ⟨by decide +kernel, rfl⟩
theorem dX7_nearestTo_48 : zd cX7_nearestTo 48 (.invokestatic 79) 3 51 := ⟨by decide +kernel, rfl⟩
theorem dX7_nearestTo_51 : zd cX7_nearestTo 51 (.if_icmp .ge 5) 3 54 := ⟨by decide +kernel, rfl⟩
theorem dX7_nearestTo_54 : zd cX7_nearestTo 54 (.iload_n 3) 1 55 := ⟨by decide +kernel, rfl⟩
theorem dX7_nearestTo_55 : zd cX7_nearestTo 55 (.istore_n 2) 1 56 := ⟨by decide +kernel, rfl⟩
theorem dX7_nearestTo_56 : zd cX7_nearestTo 56 (.iinc 3 1) 3 59 := ⟨by decide +kernel, rfl⟩
theorem dX7_nearestTo_59 : zd cX7_nearestTo 59 (.goto (-41)) 3 62 := ⟨by decide +kernel, rfl⟩
theorem dX7_nearestTo_62 : zd cX7_nearestTo 62 (.aload_n 0) 1 63 := ⟨by decide +kernel, rfl⟩
theorem dX7_nearestTo_63 : zd cX7_nearestTo 63 (.iload_n 2) 1 64 := ⟨by decide +kernel, rfl⟩
theorem dX7_nearestTo_64 : zd cX7_nearestTo 64 (.invokevirtual 87) 3 67 := ⟨by decide +kernel, rfl⟩
theorem dX7_nearestTo_67 : zd cX7_nearestTo 67 (.ireturn) 1 68 := ⟨by decide +kernel, rfl⟩
theorem dX7_readBetween_0 : zd cX7_readBetween 0 (.iconst 0) 1 1 := ⟨by decide +kernel, rfl⟩
theorem dX7_readBetween_1 : zd cX7_readBetween 1 (.istore_n 2) 1 2 := ⟨by decide +kernel, rfl⟩
theorem dX7_readBetween_2 : zd cX7_readBetween 2 (.iload_n 2) 1 3 := ⟨by decide +kernel, rfl⟩
theorem dX7_readBetween_3 : zd cX7_readBetween 3 (.iconst 1) 1 4 := ⟨by decide +kernel, rfl⟩
theorem dX7_readBetween_4 : zd cX7_readBetween 4 (.iadd) 1 5 := ⟨by decide +kernel, rfl⟩
theorem dX7_readBetween_5 : zd cX7_readBetween 5 (.aload_n 0) 1 6 := ⟨by decide +kernel, rfl⟩
theorem dX7_readBetween_6 : zd cX7_readBetween 6 (.getfield 16) 3 9 := ⟨by decide +kernel, rfl⟩
theorem dX7_readBetween_9 : zd cX7_readBetween 9 (.getfield 62) 3 12 := ⟨by decide +kernel, rfl⟩
theorem dX7_readBetween_12 : zd cX7_readBetween 12 (.if_icmp .ge 101) 3 15 := ⟨by decide +kernel, rfl⟩
theorem dX7_readBetween_15 : zd cX7_readBetween 15 (.aload_n 0) 1 16 := ⟨by decide +kernel, rfl⟩
theorem dX7_readBetween_16 : zd cX7_readBetween 16 (.getfield 34) 3 19 := ⟨by decide +kernel, rfl⟩
theorem dX7_readBetween_19 : zd cX7_readBetween 19 (.iload_n 2) 1 20 := ⟨by decide +kernel, rfl⟩
theorem dX7_readBetween_20 : zd cX7_readBetween 20 (.iaload) 1 21 := ⟨by decide +kernel, rfl⟩
theorem dX7_readBetween_21 : zd cX7_readBetween 21 (.istore_n 3) 1 22 := ⟨by decide +kernel, rfl⟩
theorem dX7_readBetween_22 : zd cX7_readBetween 22 (.aload_n 0) 1 23 := ⟨by decide +kernel, rfl⟩
theorem dX7_readBetween_23 : zd cX7_readBetween 23 (.getfield 34) 3 26 := ⟨by decide +kernel, rfl⟩
theorem dX7_readBetween_26 : zd cX7_readBetween 26 (.iload_n 2) 1 27 := ⟨by decide +kernel, rfl⟩
theorem dX7_readBetween_27 : zd cX7_readBetween 27 (.iconst 1) 1 28 := ⟨by decide +kernel, rfl⟩
theorem dX7_readBetween_28 : zd cX7_readBetween 28 (.iadd) 1 29 := ⟨by decide +kernel, rfl⟩
theorem dX7_readBetween_29 : zd cX7_readBetween 29 (.iaload) 1 30 := ⟨by decide +kernel, rfl⟩
theorem dX7_readBetween_30 : zd cX7_readBetween 30 (.istore 4) 2 32 := ⟨by decide +kernel, rfl⟩
theorem dX7_readBetween_32 : zd cX7_readBetween 32 (.iload_n 3) 1 33 := ⟨by decide +kernel, rfl⟩
theorem dX7_readBetween_33 : zd cX7_readBetween 33 (.iload 4) 2 35 := ⟨by decide +kernel, rfl⟩
theorem dX7_readBetween_35 : zd cX7_readBetween 35 (.if_icmp .eq 72) 3 38 := ⟨by decide +kernel, rfl⟩
theorem dX7_readBetween_38 : zd cX7_readBetween 38 (.iload_n 3) 1 39 := ⟨by decide +kernel, rfl⟩
theorem dX7_readBetween_39 : zd cX7_readBetween 39 (.iload 4) 2 41 := ⟨by decide +kernel, rfl⟩
theorem dX7_readBetween_41 : zd cX7_readBetween 41 (.invokestatic 90) 3 44 := ⟨by decide +kernel, rfl⟩
theorem dX7_readBetween_44 : zd cX7_readBetween 44 (.iload_n 1) 1 45 := ⟨by decide +kernel, rfl⟩
theorem dX7_readBetween_45 : zd cX7_readBetween 45 (.if_icmp .gt 62) 3 48 := ⟨by decide +kernel, rfl⟩
theorem dX7_readBetween_48 : zd cX7_readBetween 48 (.iload_n 1) 1 49 := ⟨by decide +kernel, rfl⟩
theorem dX7_readBetween_49 : zd cX7_readBetween 49 (.iload_n 3) 1 50 := ⟨by decide +kernel, rfl⟩
theorem dX7_readBetween_50 : zd cX7_readBetween 50 (.iload 4) 2 52 := ⟨by decide +kernel, rfl⟩
theorem dX7_readBetween_52 : zd cX7_readBetween 52 (.invokestatic 94) 3 55 := ⟨by decide +kernel, rfl⟩
theorem dX7_readBetween_55 : zd cX7_readBetween 55 (.if_icmp .gt 52) 3 58 := ⟨by decide +kernel, rfl⟩
theorem dX7_readBetween_58 : zd cX7_readBetween 58 (.aload_n 0) 1 59 := ⟨by decide +kernel, rfl⟩
theorem dX7_readBetween_59 : zd cX7_readBetween 59 (.getfield 16) 3 62 := ⟨by decide +kernel, rfl⟩
theorem dX7_readBetween_62 : zd cX7_readBetween 62 (.getfield 73) 3 65 := ⟨by decide +kernel, rfl⟩
theorem dX7_readBetween_65 : zd cX7_readBetween 65 (.iload_n 2) 1 66 := ⟨by decide +kernel, rfl⟩
theorem dX7_readBetween_66 : zd cX7_readBetween 66 (.iconst 1) 1 67 := ⟨by decide +kernel, rfl⟩
theorem dX7_readBetween_67 : zd cX7_readBetween 67 (.iadd) 1 68 := ⟨by decide +kernel, rfl⟩
theorem dX7_readBetween_68 : zd cX7_readBetween 68 (.iaload) 1 69 := ⟨by decide +kernel, rfl⟩
theorem dX7_readBetween_69 : zd cX7_readBetween 69 (.aload_n 0) 1 70 := ⟨by decide +kernel, rfl⟩
theorem dX7_readBetween_70 : zd cX7_readBetween 70 (.getfield 16) 3 73 := ⟨by decide +kernel, rfl⟩
theorem dX7_readBetween_73 : zd cX7_readBetween 73 (.getfield 73) 3 76 := ⟨by decide +kernel, rfl⟩
theorem dX7_readBetween_76 : zd cX7_readBetween 76 (.iload_n 2) 1 77 := ⟨by decide +kernel, rfl⟩
theorem dX7_readBetween_77 : zd cX7_readBetween 77 (.iaload) 1 78 := ⟨by decide +kernel, rfl⟩
theorem dX7_readBetween_78 : zd cX7_readBetween 78 (.isub) 1 79 := ⟨by decide +kernel, rfl⟩
theorem dX7_readBetween_79 : zd cX7_readBetween 79 (.i2l) 1 80 := ⟨by decide +kernel, rfl⟩
theorem dX7_readBetween_80 : zd cX7_readBetween 80 (.lstore 5) 2 82 := ⟨by decide +kernel, rfl⟩
theorem dX7_readBetween_82 : zd cX7_readBetween 82 (.aload_n 0) 1 83 := ⟨by decide +kernel, rfl⟩
theorem dX7_readBetween_83 : zd cX7_readBetween 83 (.getfield 16) 3 86 := ⟨by decide +kernel, rfl⟩
theorem dX7_readBetween_86 : zd cX7_readBetween 86 (.getfield 73) 3 89 := ⟨by decide +kernel, rfl⟩
theorem dX7_readBetween_89 : zd cX7_readBetween 89 (.iload_n 2) 1 90 := ⟨by decide +kernel, rfl⟩
theorem dX7_readBetween_90 : zd cX7_readBetween 90 (.iaload) 1 91 := ⟨by decide +kernel, rfl⟩
theorem dX7_readBetween_91 : zd cX7_readBetween 91 (.lload 5) 2 93 := ⟨by decide +kernel, rfl⟩
theorem dX7_readBetween_93 : zd cX7_readBetween 93 (.iload_n 1) 1 94 := ⟨by decide +kernel, rfl⟩
theorem dX7_readBetween_94 : zd cX7_readBetween 94 (.iload_n 3) 1 95 := ⟨by decide +kernel, rfl⟩
theorem dX7_readBetween_95 : zd cX7_readBetween 95 (.isub) 1 96 := ⟨by decide +kernel, rfl⟩
theorem dX7_readBetween_96 : zd cX7_readBetween 96 (.i2l) 1 97 := ⟨by decide +kernel, rfl⟩
theorem dX7_readBetween_97 : zd cX7_readBetween 97 (.lmul) 1 98 := ⟨by decide +kernel, rfl⟩
theorem dX7_readBetween_98 : zd cX7_readBetween 98 (.iload 4) 2 100 := ⟨by decide +kernel, rfl⟩
theorem dX7_readBetween_100 : zd cX7_readBetween 100 (.iload_n 3) 1 101 := ⟨by decide +kernel, rfl⟩
theorem dX7_readBetween_101 : zd cX7_readBetween 101 (.isub) 1 102 := ⟨by decide +kernel, rfl⟩
theorem dX7_readBetween_102 : zd cX7_readBetween 102 (.i2l) 1 103 := ⟨by decide +kernel, rfl⟩
theorem dX7_readBetween_103 : zd cX7_readBetween 103 (.ldiv) 1 104 := ⟨by decide +kernel, rfl⟩
theorem dX7_readBetween_104 : zd cX7_readBetween 104 (.l2i) 1 105 := ⟨by decide +kernel, rfl⟩
theorem dX7_readBetween_105 : zd cX7_readBetween 105 (.iadd) 1 106 := ⟨by decide +kernel, rfl⟩
theorem dX7_readBetween_106 : zd cX7_readBetween 106 (.ireturn) 1 107 := ⟨by decide +kernel, rfl⟩
theorem dX7_readBetween_107 : zd cX7_readBetween 107 (.iinc 2 1) 3 110 := ⟨by decide +kernel, rfl⟩
theorem dX7_readBetween_110 : zd cX7_readBetween 110 (.goto (-108)) 3 113 := ⟨by decide +kernel, rfl⟩
theorem dX7_readBetween_113 : zd cX7_readBetween 113 (.iconst (-1)) 1 114 := ⟨by decide +kernel, rfl⟩
theorem dX7_readBetween_114 : zd cX7_readBetween 114 (.ireturn) 1 115 := ⟨by decide +kernel, rfl⟩
theorem dX7_digestOnto_0 : zd cX7_digestOnto 0 (.ldc2_w 97) 3 3 := ⟨by decide +kernel, rfl⟩
theorem dX7_digestOnto_3 : zd cX7_digestOnto 3 (.lload_n 1) 1 4 := ⟨by decide +kernel, rfl⟩
theorem dX7_digestOnto_4 : zd cX7_digestOnto 4 (.lmul) 1 5 := ⟨by decide +kernel, rfl⟩
theorem dX7_digestOnto_5 : zd cX7_digestOnto 5 (.aload_n 0) 1 6 := ⟨by decide +kernel, rfl⟩
theorem dX7_digestOnto_6 : zd cX7_digestOnto 6 (.getfield 43) 3 9 := ⟨by decide +kernel, rfl⟩
theorem dX7_digestOnto_9 : zd cX7_digestOnto 9 (.ifCond .eq 7) 3 12 := ⟨by decide +kernel, rfl⟩
theorem dX7_digestOnto_12 : zd cX7_digestOnto 12 (.iconst 1) 1 13 := ⟨by decide +kernel, rfl⟩
theorem dX7_digestOnto_13 : zd cX7_digestOnto 13 (.goto 4) 3 16 := ⟨by decide +kernel, rfl⟩
theorem dX7_digestOnto_16 : zd cX7_digestOnto 16 (.iconst 0) 1 17 := ⟨by decide +kernel, rfl⟩
theorem dX7_digestOnto_17 : zd cX7_digestOnto 17 (.i2l) 1 18 := ⟨by decide +kernel, rfl⟩
theorem dX7_digestOnto_18 : zd cX7_digestOnto 18 (.ladd) 1 19 := ⟨by decide +kernel, rfl⟩
theorem dX7_digestOnto_19 : zd cX7_digestOnto 19 (.lstore_n 1) 1 20 := ⟨by decide +kernel, rfl⟩
theorem dX7_digestOnto_20 : zd cX7_digestOnto 20 (.ldc2_w 97) 3 23 := ⟨by decide +kernel, rfl⟩
theorem dX7_digestOnto_23 : zd cX7_digestOnto 23 (.lload_n 1) 1 24 := ⟨by decide +kernel, rfl⟩
theorem dX7_digestOnto_24 : zd cX7_digestOnto 24 (.lmul) 1 25 := ⟨by decide +kernel, rfl⟩
theorem dX7_digestOnto_25 : zd cX7_digestOnto 25 (.aload_n 0) 1 26 := ⟨by decide +kernel, rfl⟩
theorem dX7_digestOnto_26 : zd cX7_digestOnto 26 (.getfield 47) 3 29 := ⟨by decide +kernel, rfl⟩
theorem dX7_digestOnto_29 : zd cX7_digestOnto 29 (.i2l) 1 30 := ⟨by decide +kernel, rfl⟩
theorem dX7_digestOnto_30 : zd cX7_digestOnto 30 (.ladd) 1 31 := ⟨by decide +kernel, rfl⟩
theorem dX7_digestOnto_31 : zd cX7_digestOnto 31 (.lstore_n 1) 1 32 := ⟨by decide +kernel, rfl⟩
theorem dX7_digestOnto_32 : zd cX7_digestOnto 32 (.ldc2_w 97) 3 35 := ⟨by decide +kernel, rfl⟩
theorem dX7_digestOnto_35 : zd cX7_digestOnto 35 (.lload_n 1) 1 36 := ⟨by decide +kernel, rfl⟩
theorem dX7_digestOnto_36 : zd cX7_digestOnto 36 (.lmul) 1 37 := ⟨by decide +kernel, rfl⟩
theorem dX7_digestOnto_37 : zd cX7_digestOnto 37 (.aload_n 0) 1 38 := ⟨by decide +kernel, rfl⟩
theorem dX7_digestOnto_38 : zd cX7_digestOnto 38 (.getfield 50) 3 41 := ⟨by decide +kernel, rfl⟩
theorem dX7_digestOnto_41 : zd cX7_digestOnto 41 (.i2l) 1 42 := ⟨by decide +kernel, rfl⟩
theorem dX7_digestOnto_42 : zd cX7_digestOnto 42 (.ladd) 1 43 := ⟨by decide +kernel, rfl⟩
theorem dX7_digestOnto_43 : zd cX7_digestOnto 43 (.lstore_n 1) 1 44 := ⟨by decide +kernel, rfl⟩
theorem dX7_digestOnto_44 : zd cX7_digestOnto 44 (.ldc2_w 97) 3 47 := ⟨by decide +kernel, rfl⟩
theorem dX7_digestOnto_47 : zd cX7_digestOnto 47 (.lload_n 1) 1 48 := ⟨by decide +kernel, rfl⟩
theorem dX7_digestOnto_48 : zd cX7_digestOnto 48 (.lmul) 1 49 := ⟨by decide +kernel, rfl⟩
theorem dX7_digestOnto_49 : zd cX7_digestOnto 49 (.aload_n 0) 1 50 := ⟨by decide +kernel, rfl⟩
theorem dX7_digestOnto_50 : zd cX7_digestOnto 50 (.getfield 53) 3 53 := ⟨by decide +kernel, rfl⟩
theorem dX7_digestOnto_53 : zd cX7_digestOnto 53 (.ifCond .eq 7) 3 56 := ⟨by decide +kernel, rfl⟩
theorem dX7_digestOnto_56 : zd cX7_digestOnto 56 (.iconst 1) 1 57 := ⟨by decide +kernel, rfl⟩
theorem dX7_digestOnto_57 : zd cX7_digestOnto 57 (.goto 4) 3 60 := ⟨by decide +kernel, rfl⟩
theorem dX7_digestOnto_60 : zd cX7_digestOnto 60 (.iconst 0) 1 61 := ⟨by decide +kernel, rfl⟩
theorem dX7_digestOnto_61 : zd cX7_digestOnto 61 (.i2l) 1 62 := ⟨by decide +kernel, rfl⟩
theorem dX7_digestOnto_62 : zd cX7_digestOnto 62 (.ladd) 1 63 := ⟨by decide +kernel, rfl⟩
theorem dX7_digestOnto_63 : zd cX7_digestOnto 63 (.lstore_n 1) 1 64 := ⟨by decide +kernel, rfl⟩
theorem dX7_digestOnto_64 : zd cX7_digestOnto 64 (.iconst 0) 1 65 := ⟨by decide +kernel, rfl⟩
theorem dX7_digestOnto_65 : zd cX7_digestOnto 65 (.istore_n 3) 1 66 := ⟨by decide +kernel, rfl⟩
theorem dX7_digestOnto_66 : zd cX7_digestOnto 66 (.iload_n 3) 1 67 := ⟨by decide +kernel, rfl⟩
theorem dX7_digestOnto_67 : zd cX7_digestOnto 67 (.aload_n 0) 1 68 := ⟨by decide +kernel, rfl⟩
theorem dX7_digestOnto_68 : zd cX7_digestOnto 68 (.getfield 20) 3 71 := ⟨by decide +kernel, rfl⟩
theorem dX7_digestOnto_71 : zd cX7_digestOnto 71 (.if_icmp .ge 51) 3 74 := ⟨by decide +kernel, rfl⟩
theorem dX7_digestOnto_74 : zd cX7_digestOnto 74 (.ldc2_w 97) 3 77 := ⟨by decide +kernel, rfl⟩
theorem dX7_digestOnto_77 : zd cX7_digestOnto 77 (.lload_n 1) 1 78 := ⟨by decide +kernel, rfl⟩
theorem dX7_digestOnto_78 : zd cX7_digestOnto 78 (.lmul) 1 79 := ⟨by decide +kernel, rfl⟩
theorem dX7_digestOnto_79 : zd cX7_digestOnto 79 (.aload_n 0) 1 80 := ⟨by decide +kernel, rfl⟩
theorem dX7_digestOnto_80 : zd cX7_digestOnto 80 (.getfield 24) 3 83 := ⟨by decide +kernel, rfl⟩
theorem dX7_digestOnto_83 : zd cX7_digestOnto 83 (.iload_n 3) 1 84 := ⟨by decide +kernel, rfl⟩
theorem dX7_digestOnto_84 : zd cX7_digestOnto 84 (.iaload) 1 85 := ⟨by decide +kernel, rfl⟩
theorem dX7_digestOnto_85 : zd cX7_digestOnto 85 (.i2l) 1 86 := ⟨by decide +kernel, rfl⟩
theorem dX7_digestOnto_86 : zd cX7_digestOnto 86 (.ladd) 1 87 := ⟨by decide +kernel, rfl⟩
theorem dX7_digestOnto_87 : zd cX7_digestOnto 87 (.lstore_n 1) 1 88 := ⟨by decide +kernel, rfl⟩
theorem dX7_digestOnto_88 : zd cX7_digestOnto 88 (.ldc2_w 97) 3 91 := ⟨by decide +kernel, rfl⟩
theorem dX7_digestOnto_91 : zd cX7_digestOnto 91 (.lload_n 1) 1 92 := ⟨by decide +kernel, rfl⟩
theorem dX7_digestOnto_92 : zd cX7_digestOnto 92 (.lmul) 1 93 := ⟨by decide +kernel, rfl⟩
theorem dX7_digestOnto_93 : zd cX7_digestOnto 93 (.aload_n 0) 1 94 := ⟨by decide +kernel, rfl⟩
theorem dX7_digestOnto_94 : zd cX7_digestOnto 94 (.getfield 28) 3 97 := ⟨by decide +kernel, rfl⟩
theorem dX7_digestOnto_97 : zd cX7_digestOnto 97 (.iload_n 3) 1 98 := ⟨by decide +kernel, rfl⟩
theorem dX7_digestOnto_98 : zd cX7_digestOnto 98 (.iaload) 1 99 := ⟨by decide +kernel, rfl⟩
theorem dX7_digestOnto_99 : zd cX7_digestOnto 99 (.i2l) 1 100 := ⟨by decide +kernel, rfl⟩
theorem dX7_digestOnto_100 : zd cX7_digestOnto 100 (.ladd) 1 101 := ⟨by decide +kernel, rfl⟩
theorem dX7_digestOnto_101 : zd cX7_digestOnto 101 (.lstore_n 1) 1 102 := ⟨by decide +kernel, rfl⟩
theorem dX7_digestOnto_102 : zd cX7_digestOnto 102 (.ldc2_w 97) 3 105 := ⟨by decide +kernel, rfl⟩
theorem dX7_digestOnto_105 : zd cX7_digestOnto 105 (.lload_n 1) 1 106 := ⟨by decide +kernel, rfl⟩
theorem dX7_digestOnto_106 : zd cX7_digestOnto 106 (.lmul) 1 107 := ⟨by decide +kernel, rfl⟩
theorem dX7_digestOnto_107 : zd cX7_digestOnto 107 (.aload_n 0) 1 108 := ⟨by decide +kernel, rfl⟩
theorem dX7_digestOnto_108 : zd cX7_digestOnto 108 (.getfield 31) 3 111 := ⟨by decide +kernel, rfl⟩
theorem dX7_digestOnto_111 : zd cX7_digestOnto 111 (.iload_n 3) 1 112 := ⟨by decide +kernel, rfl⟩
theorem dX7_digestOnto_112 : zd cX7_digestOnto 112 (.iaload) 1 113 := ⟨by decide +kernel, rfl⟩
theorem dX7_digestOnto_113 : zd cX7_digestOnto 113 (.i2l) 1 114 := ⟨by decide +kernel, rfl⟩
theorem dX7_digestOnto_114 : zd cX7_digestOnto 114 (.ladd) 1 115 := ⟨by decide +kernel, rfl⟩
theorem dX7_digestOnto_115 : zd cX7_digestOnto 115 (.lstore_n 1) 1 116 := ⟨by decide +kernel, rfl⟩
theorem dX7_digestOnto_116 : zd cX7_digestOnto 116 (.iinc 3 1) 3 119 := ⟨by decide +kernel, rfl⟩
theorem dX7_digestOnto_119 : zd cX7_digestOnto 119 (.goto (-53)) 3 122 := ⟨by decide +kernel, rfl⟩
theorem dX7_digestOnto_122 : zd cX7_digestOnto 122 (.lload_n 1) 1 123 := ⟨by decide +kernel, rfl⟩
theorem dX7_digestOnto_123 : zd cX7_digestOnto 123 (.lreturn) 1 124 := ⟨by decide +kernel, rfl⟩
theorem dX8_init_0 : zd cX8_init 0 (.aload_n 0) 1 1 := ⟨by decide +kernel, rfl⟩
theorem dX8_init_1 : zd cX8_init 1 (.invokespecial 5) 3 4 := ⟨by decide +kernel, rfl⟩
theorem dX8_init_4 : zd cX8_init 4 (.aload_n 0) 1 5 := ⟨by decide +kernel, rfl⟩
theorem dX8_init_5 : zd cX8_init 5 (.iconst 4) 1 6 := ⟨by decide +kernel, rfl⟩
theorem dX8_init_6 : zd cX8_init 6 (.newarray .boolean) 2 8 := ⟨by decide +kernel, rfl⟩
theorem dX8_init_8 : zd cX8_init 8 (.putfield 11) 3 11 := ⟨by decide +kernel, rfl⟩
theorem dX8_init_11 : zd cX8_init 11 (.aload_n 0) 1 12 := ⟨by decide +kernel, rfl⟩
theorem dX8_init_12 : zd cX8_init 12 (.iconst 4) 1 13 := ⟨by decide +kernel, rfl⟩
theorem dX8_init_13 : zd cX8_init 13 (.newarray .boolean) 2 15 := ⟨by decide +kernel, rfl⟩
theorem dX8_init_15 : zd cX8_init 15 (.putfield 15) 3 18 := ⟨by decide +kernel, rfl⟩
theorem dX8_init_18 : zd cX8_init 18 (.aload_n 0) 1 19 := ⟨by decide +kernel, rfl⟩
theorem dX8_init_19 : zd cX8_init 19 (.iconst 3) 1 20 := ⟨by decide +kernel, rfl⟩
theorem dX8_init_20 : zd cX8_init 20 (.bipush 49) 2 22 := ⟨by decide +kernel, rfl⟩
theorem dX8_init_22 : zd cX8_init 22 (.multianewarray 18 2) 4 26 := ⟨by decide +kernel, rfl⟩
theorem dX8_init_26 : zd cX8_init 26 (.putfield 20) 3 29 := ⟨by decide +kernel, rfl⟩
theorem dX8_init_29 : zd cX8_init 29 (.aload_n 0) 1 30 := ⟨by decide +kernel, rfl⟩
theorem dX8_init_30 : zd cX8_init 30 (.iconst 3) 1 31 := ⟨by decide +kernel, rfl⟩
theorem dX8_init_31 : zd cX8_init 31 (.newarray .int) 2 33 := ⟨by decide +kernel, rfl⟩
theorem dX8_init_33 : zd cX8_init 33 (.putfield 23) 3 36 := ⟨by decide +kernel, rfl⟩
theorem dX8_init_36 : zd cX8_init 36 (.return_) 1 37 := ⟨by decide +kernel, rfl⟩
theorem dX8_forgetParts_0 : zd cX8_forgetParts 0 (.iconst 0) 1 1 := ⟨by decide +kernel, rfl⟩
theorem dX8_forgetParts_1 : zd cX8_forgetParts 1 (.istore_n 1) 1 2 := ⟨by decide +kernel, rfl⟩
theorem dX8_forgetParts_2 : zd cX8_forgetParts 2 (.iload_n 1) 1 3 := ⟨by decide +kernel, rfl⟩
theorem dX8_forgetParts_3 : zd cX8_forgetParts 3 (.iconst 3) 1 4 := ⟨by decide +kernel, rfl⟩
theorem dX8_forgetParts_4 : zd cX8_forgetParts 4 (.if_icmp .gt 23) 3 7 := ⟨by decide +kernel, rfl⟩
theorem dX8_forgetParts_7 : zd cX8_forgetParts 7 (.aload_n 0) 1 8 := ⟨by decide +kernel, rfl⟩
theorem dX8_forgetParts_8 : zd cX8_forgetParts 8 (.getfield 11) 3 11 := ⟨by decide +kernel, rfl⟩
theorem dX8_forgetParts_11 : zd cX8_forgetParts 11 (.iload_n 1) 1 12 := ⟨by decide +kernel, rfl⟩
theorem dX8_forgetParts_12 : zd cX8_forgetParts 12 (.iconst 0) 1 13 := ⟨by decide +kernel, rfl⟩
theorem dX8_forgetParts_13 : zd cX8_forgetParts 13 (.bastore) 1 14 := ⟨by decide +kernel, rfl⟩
theorem dX8_forgetParts_14 : zd cX8_forgetParts 14 (.aload_n 0) 1 15 := ⟨by decide +kernel, rfl⟩
theorem dX8_forgetParts_15 : zd cX8_forgetParts 15 (.getfield 15) 3 18 := ⟨by decide +kernel, rfl⟩
theorem dX8_forgetParts_18 : zd cX8_forgetParts 18 (.iload_n 1) 1 19 := ⟨by decide +kernel, rfl⟩
theorem dX8_forgetParts_19 : zd cX8_forgetParts 19 (.iconst 0) 1 20 := ⟨by decide +kernel, rfl⟩
theorem dX8_forgetParts_20 : zd cX8_forgetParts 20 (.bastore) 1 21 := ⟨by decide +kernel, rfl⟩
theorem dX8_forgetParts_21 : zd cX8_forgetParts 21 (.iinc 1 1) 3 24 := ⟨by decide +kernel, rfl⟩
theorem dX8_forgetParts_24 : zd cX8_forgetParts 24 (.goto (-22)) 3 27 := ⟨by decide +kernel, rfl⟩
theorem dX8_forgetParts_27 : zd cX8_forgetParts 27 (.return_) 1 28 := ⟨by decide +kernel, rfl⟩
theorem dX8_allow_0 : zd cX8_allow 0 (.iload_n 1) 1 1 := ⟨by decide +kernel, rfl⟩
theorem dX8_allow_1 : zd cX8_allow 1 (.iconst 1) 1 2 := ⟨by decide +kernel, rfl⟩
theorem dX8_allow_2 : zd cX8_allow 2 (.if_icmp .lt 8) 3 5 := ⟨by decide +kernel, rfl⟩
theorem dX8_allow_5 : zd cX8_allow 5 (.iload_n 1) 1 6 := ⟨by decide +kernel, rfl⟩
theorem dX8_allow_6 : zd cX8_allow 6 (.iconst 3) 1 7 := ⟨by decide +kernel, rfl⟩
theorem dX8_allow_7 : zd cX8_allow 7 (.if_icmp .le 4) 3 10 := ⟨by decide +kernel, rfl⟩
theorem dX8_allow_10 : zd cX8_allow 10 (.return_) 1 11 := ⟨by decide +kernel, rfl⟩
theorem dX8_allow_11 : zd cX8_allow 11 (.aload_n 0) 1 12 := ⟨by decide +kernel, rfl⟩
theorem dX8_allow_12 : zd cX8_allow 12 (.getfield 15) 3 15 := ⟨by decide +kernel, rfl⟩
theorem dX8_allow_15 : zd cX8_allow 15 (.iload_n 1) 1 16 := ⟨by decide +kernel, rfl⟩
theorem dX8_allow_16 : zd cX8_allow 16 (.iconst 1) 1 17 := ⟨by decide +kernel, rfl⟩
theorem dX8_allow_17 : zd cX8_allow 17 (.bastore) 1 18 := ⟨by decide +kernel, rfl⟩
theorem dX8_allow_18 : zd cX8_allow 18 (.iload_n 2) 1 19 := ⟨by decide +kernel, rfl⟩
theorem dX8_allow_19 : zd cX8_allow 19 (.ifCond .ne 10) 3 22 := ⟨by decide +kernel, rfl⟩
theorem dX8_allow_22 : zd cX8_allow 22 (.aload_n 0) 1 23 := ⟨by decide +kernel, rfl⟩
theorem dX8_allow_23 : zd cX8_allow 23 (.getfield 11) 3 26 := ⟨by decide +kernel, rfl⟩
theorem dX8_allow_26 : zd cX8_allow 26 (.iload_n 1) 1 27 := ⟨by decide +kernel, rfl⟩
theorem dX8_allow_27 : zd cX8_allow 27 (.iconst 1) 1 28 := ⟨by decide +kernel, rfl⟩
theorem dX8_allow_28 : zd cX8_allow 28 (.bastore) 1 29 := ⟨by decide +kernel, rfl⟩
theorem dX8_allow_29 : zd cX8_allow 29 (.return_) 1 30 := ⟨by decide +kernel, rfl⟩
theorem dX8_aimAt_0 : zd cX8_aimAt 0 (.aload_n 0) 1 1 := ⟨by decide +kernel, rfl⟩
theorem dX8_aimAt_1 : zd cX8_aimAt 1 (.aload_n 0) 1 2 := ⟨by decide +kernel, rfl⟩
theorem dX8_aimAt_2 : zd cX8_aimAt 2 (.getfield 20) 3 5 := ⟨by decide +kernel, rfl⟩
theorem dX8_aimAt_5 : zd cX8_aimAt 5 (.iconst 0) 1 6 := ⟨by decide +kernel, rfl⟩
theorem dX8_aimAt_6 : zd cX8_aimAt 6 (.aaload) 1 7 := ⟨by decide +kernel, rfl⟩
theorem dX8_aimAt_7 : zd cX8_aimAt 7 (.iload_n 1) 1 8 := ⟨by decide +kernel, rfl⟩
theorem dX8_aimAt_8 : zd cX8_aimAt 8 (.bipush 24) 2 10 := ⟨by decide +kernel, rfl⟩
theorem dX8_aimAt_10 : zd cX8_aimAt 10 (.iadd) 1 11 := ⟨by decide +kernel, rfl⟩
theorem dX8_aimAt_11 : zd cX8_aimAt 11 (.invokevirtual 27) 3 14 := ⟨by decide +kernel, rfl⟩
theorem dX8_aimAt_14 : zd cX8_aimAt 14 (.aload_n 0) 1 15 := ⟨by decide +kernel, rfl⟩
theorem dX8_aimAt_15 : zd cX8_aimAt 15 (.aload_n 0) 1 16 := ⟨by decide +kernel, rfl⟩
theorem dX8_aimAt_16 : zd cX8_aimAt 16 (.getfield 20) 3 19 := ⟨by decide +kernel, rfl⟩
theorem dX8_aimAt_19 : zd cX8_aimAt 19 (.iconst 1) 1 20 := ⟨by decide +kernel, rfl⟩
theorem dX8_aimAt_20 : zd cX8_aimAt 20 (.aaload) 1 21 := ⟨by decide +kernel, rfl⟩
theorem dX8_aimAt_21 : zd cX8_aimAt 21 (.iload_n 2) 1 22 := ⟨by decide +kernel, rfl⟩
theorem dX8_aimAt_22 : zd cX8_aimAt 22 (.bipush 24) 2 24 := ⟨by decide +kernel, rfl⟩
theorem dX8_aimAt_24 : zd cX8_aimAt 24 (.iadd) 1 25 := ⟨by decide +kernel, rfl⟩
theorem dX8_aimAt_25 : zd cX8_aimAt 25 (.invokevirtual 27) 3 28 := ⟨by decide +kernel, rfl⟩
theorem dX8_aimAt_28 : zd cX8_aimAt 28 (.aload_n 0) 1 29 := ⟨by decide +kernel, rfl⟩
theorem dX8_aimAt_29 : zd cX8_aimAt 29 (.aload_n 0) 1 30 := ⟨by decide +kernel, rfl⟩
theorem dX8_aimAt_30 : zd cX8_aimAt 30 (.getfield 20) 3 33 := ⟨by decide +kernel, rfl⟩
theorem dX8_aimAt_33 : zd cX8_aimAt 33 (.iconst 2) 1 34 := ⟨by decide +kernel, rfl⟩
theorem dX8_aimAt_34 : zd cX8_aimAt 34 (.aaload) 1 35 := ⟨by decide +kernel, rfl⟩
theorem dX8_aimAt_35 : zd cX8_aimAt 35 (.iload_n 3) 1 36 := ⟨by decide +kernel, rfl⟩
theorem dX8_aimAt_36 : zd cX8_aimAt 36 (.bipush 24) 2 38 := ⟨by decide +kernel, rfl⟩
theorem dX8_aimAt_38 : zd cX8_aimAt 38 (.iadd) 1 39 := ⟨by decide +kernel, rfl⟩
theorem dX8_aimAt_39 : zd cX8_aimAt 39 (.invokevirtual 27) 3 42 := ⟨by decide +kernel, rfl⟩
theorem dX8_aimAt_42 : zd cX8_aimAt 42 (.return_) 1 43 := ⟨by decide +kernel, rfl⟩
theorem dX8_measure_0 : zd cX8_measure 0 (.iconst 0) 1 1 := ⟨by decide +kernel, rfl⟩
theorem dX8_measure_1 : zd cX8_measure 1 (.istore_n 3) 1 2 := ⟨by decide +kernel, rfl⟩
theorem dX8_measure_2 : zd cX8_measure 2 (.iload_n 3) 1 3 := ⟨by decide +kernel, rfl⟩
theorem dX8_measure_3 : zd cX8_measure 3 (.bipush 49) 2 5 := ⟨by decide +kernel, rfl⟩
theorem dX8_measure_5 : zd cX8_measure 5 (.if_icmp .ge 22) 3 8 := ⟨by decide +kernel, rfl⟩
theorem dX8_measure_8 : zd cX8_measure 8 (.aload_n 1) 1 9 := ⟨by decide +kernel, rfl⟩
theorem dX8_measure_9 : zd cX8_measure 9 (.iload_n 3) 1 10 := ⟨by decide +kernel, rfl⟩
theorem dX8_measure_10 : zd cX8_measure 10 (.iload_n 3) 1 11 := ⟨by decide +kernel, rfl⟩
theorem dX8_measure_11 : zd cX8_measure 11 (.iload_n 2) 1 12 := ⟨by decide +kernel, rfl⟩
theorem dX8_measure_12 : zd cX8_measure 12 (.if_icmp .ne 7) 3 15 := ⟨by decide +kernel, rfl⟩
theorem dX8_measure_15 : zd cX8_measure 15 (.iconst 0) 1 16 := ⟨by decide +kernel, rfl⟩
theorem dX8_measure_16 : zd cX8_measure 16 (.goto 4) 3 19 := ⟨by decide +kernel, rfl⟩
theorem dX8_measure_19 : zd cX8_measure 19 (.iconst (-1)) 1 20 := ⟨by decide +kernel, rfl⟩
theorem dX8_measure_20 : zd cX8_measure 20 (.iastore) 1 21 := ⟨by decide +kernel, rfl⟩
theorem dX8_measure_21 : zd cX8_measure 21 (.iinc 3 1) 3 24 := ⟨by decide +kernel, rfl⟩
theorem dX8_measure_24 : zd cX8_measure 24 (.goto (-22)) 3 27 := ⟨by decide +kernel, rfl⟩
theorem dX8_measure_27 : zd cX8_measure 27 (.iconst 0) 1 28 := ⟨by decide +kernel, rfl⟩
theorem dX8_measure_28 : zd cX8_measure 28 (.istore_n 3) 1 29 := ⟨by decide +kernel, rfl⟩
theorem dX8_measure_29 : zd cX8_measure 29 (.iload_n 3) 1 30 := ⟨by decide +kernel, rfl⟩
theorem dX8_measure_30 : zd cX8_measure 30 (.bipush 49) 2 32 := ⟨by decide +kernel, rfl⟩
theorem dX8_measure_32 : zd cX8_measure 32 (.if_icmp .ge 40) 3 35 := ⟨by decide +kernel, rfl⟩
theorem dX8_measure_35 : zd cX8_measure 35 (.iconst 0) 1 36 := ⟨by decide +kernel, rfl⟩
theorem dX8_measure_36 : zd cX8_measure 36 (.istore 4) 2 38 := ⟨by decide +kernel, rfl⟩
theorem dX8_measure_38 : zd cX8_measure 38 (.iload 4) 2 40 := ⟨by decide +kernel, rfl⟩
theorem dX8_measure_40 : zd cX8_measure 40 (.bipush 49) 2 42 := ⟨by decide +kernel, rfl⟩
theorem dX8_measure_42 : zd cX8_measure 42 (.if_icmp .ge 24) 3 45 := ⟨by decide +kernel, rfl⟩
theorem dX8_measure_45 : zd cX8_measure 45 (.aload_n 1) 1 46 := ⟨by decide +kernel, rfl⟩
theorem dX8_measure_46 : zd cX8_measure 46 (.iload 4) 2 48 := ⟨by decide +kernel, rfl⟩
theorem dX8_measure_48 : zd cX8_measure 48 (.iaload) 1 49 := ⟨by decide +kernel, rfl⟩
theorem dX8_measure_49 : zd cX8_measure 49 (.iload_n 3) 1 50 := ⟨by decide +kernel, rfl⟩
theorem dX8_measure_50 : zd cX8_measure 50 (.if_icmp .ne 10) 3 53 := ⟨by decide +kernel, rfl⟩
theorem dX8_measure_53 : zd cX8_measure 53 (.aload_n 0) 1 54 := ⟨by decide +kernel, rfl⟩
theorem dX8_measure_54 : zd cX8_measure 54 (.aload_n 1) 1 55 := ⟨by decide +kernel, rfl⟩
theorem dX8_measure_55 : zd cX8_measure 55 (.iload 4) 2 57 := ⟨by decide +kernel, rfl⟩
theorem dX8_measure_57 : zd cX8_measure 57 (.invokevirtual 31) 3 60 := ⟨by decide +kernel, rfl⟩
theorem dX8_measure_60 : zd cX8_measure 60 (.iinc 4 1) 3 63 := ⟨by decide +kernel, rfl⟩
theorem dX8_measure_63 : zd cX8_measure 63 (.goto (-25)) 3 66 := ⟨by decide +kernel, rfl⟩
theorem dX8_measure_66 : zd cX8_measure 66 (.iinc 3 1) 3 69 := ⟨by decide +kernel, rfl⟩
theorem dX8_measure_69 : zd cX8_measure 69 (.goto (-40)) 3 72 := ⟨by decide +kernel, rfl⟩
theorem dX8_measure_72 : zd cX8_measure 72 (.return_) 1 73 := ⟨by decide +kernel, rfl⟩
theorem dX8_reachBack_0 : zd cX8_reachBack 0 (.iconst 1) 1 1 := ⟨by decide +kernel, rfl⟩
theorem dX8_reachBack_1 : zd cX8_reachBack 1 (.istore_n 3) 1 2 := ⟨by decide +kernel, rfl⟩
theorem dX8_reachBack_2 : zd cX8_reachBack 2 (.iload_n 3) 1 3 := ⟨by decide +kernel, rfl⟩
theorem dX8_reachBack_3 : zd cX8_reachBack 3 (.iconst 3) 1 4 := ⟨by decide +kernel, rfl⟩
theorem dX8_reachBack_4 : zd cX8_reachBack 4 (.if_icmp .gt 79) 3 7 := ⟨by decide +kernel, rfl⟩
theorem dX8_reachBack_7 : zd cX8_reachBack 7 (.aload_n 0) 1 8 := ⟨by decide +kernel, rfl⟩
theorem dX8_reachBack_8 : zd cX8_reachBack 8 (.getfield 11) 3 11 := ⟨by decide +kernel, rfl⟩
theorem dX8_reachBack_11 : zd cX8_reachBack 11 (.iload_n 3) 1 12 := ⟨by decide +kernel, rfl⟩
theorem dX8_reachBack_12 : zd cX8_reachBack 12 (.baload) 1 13 := ⟨by decide +kernel, rfl⟩
theorem dX8_reachBack_13 : zd cX8_reachBack 13 (.ifCond .eq 28) 3 16 := ⟨by decide +kernel, rfl⟩
theorem dX8_reachBack_16 : zd cX8_reachBack 16 (.iload_n 2) 1 17 := ⟨by decide +kernel, rfl⟩
theorem dX8_reachBack_17 : zd cX8_reachBack 17 (.iload_n 3) 1 18 := ⟨by decide +kernel, rfl⟩
theorem dX8_reachBack_18 : zd cX8_reachBack 18 (.isub) 1 19 := ⟨by decide +kernel, rfl⟩
theorem dX8_reachBack_19 : zd cX8_reachBack 19 (.ifCond .lt 22) 3 22 := ⟨by decide +kernel, rfl⟩
theorem dX8_reachBack_22 : zd cX8_reachBack 22 (.aload_n 1) 1 23 := ⟨by decide +kernel, rfl⟩
theorem dX8_reachBack_23 : zd cX8_reachBack 23 (.iload_n 2) 1 24 := ⟨by decide +kernel, rfl⟩
theorem dX8_reachBack_24 : zd cX8_reachBack 24 (.iload_n 3) 1 25 := ⟨by decide +kernel, rfl⟩
theorem dX8_reachBack_25 : zd cX8_reachBack 25 (.isub) 1 26 := ⟨by decide +kernel, rfl⟩
theorem dX8_reachBack_26 : zd cX8_reachBack 26 (.iaload) 1 27 := ⟨by decide +kernel, rfl⟩
theorem dX8_reachBack_27 : zd cX8_reachBack 27 (.iconst (-1)) 1 28 := ⟨by decide +kernel, rfl⟩
theorem dX8_reachBack_28 : zd cX8_reachBack 28 (.if_icmp .ne 13) 3 31 := ⟨by decide +kernel, rfl⟩
theorem dX8_reachBack_31 : zd cX8_reachBack 31 (.aload_n 1) 1 32 := ⟨by decide +kernel, rfl⟩
theorem dX8_reachBack_32 : zd cX8_reachBack 32 (.iload_n 2) 1 33 := ⟨by decide +kernel, rfl⟩
theorem dX8_reachBack_33 : zd cX8_reachBack 33 (.iload_n 3) 1 34 := ⟨by decide +kernel, rfl⟩
theorem dX8_reachBack_34 : zd cX8_reachBack 34 (.isub) 1 35 := ⟨by decide +kernel, rfl⟩
theorem dX8_reachBack_35 : zd cX8_reachBack 35 (.aload_n 1) 1 36 := ⟨by decide +kernel, rfl⟩
theorem dX8_reachBack_36 : zd cX8_reachBack 36 (.iload_n 2) 1 37 := ⟨by decide +kernel, rfl⟩
theorem dX8_reachBack_37 : zd cX8_reachBack 37 (.iaload) 1 38 := ⟨by decide +kernel, rfl⟩
theorem dX8_reachBack_38 : zd cX8_reachBack 38 (.iconst 1) 1 39 := ⟨by decide +kernel, rfl⟩
theorem dX8_reachBack_39 : zd cX8_reachBack 39 (.iadd) 1 40 := ⟨by decide +kernel, rfl⟩
theorem dX8_reachBack_40 : zd cX8_reachBack 40 (.iastore) 1 41 := ⟨by decide +kernel, rfl⟩
theorem dX8_reachBack_41 : zd cX8_reachBack 41 (.aload_n 0) 1 42 := ⟨by decide +kernel, rfl⟩
theorem dX8_reachBack_42 : zd cX8_reachBack 42 (.getfield 15) 3 45 := ⟨by decide +kernel, rfl⟩
theorem dX8_reachBack_45 : zd cX8_reachBack 45 (.iload_n 3) 1 46 := ⟨by decide +kernel, rfl⟩
theorem dX8_reachBack_46 : zd cX8_reachBack 46 (.baload) 1 47 := ⟨by decide +kernel, rfl⟩
theorem dX8_reachBack_47 : zd cX8_reachBack 47 (.ifCond .eq 30) 3 50 := ⟨by decide +kernel, rfl⟩
theorem dX8_reachBack_50 : zd cX8_reachBack 50 (.iload_n 2) 1 51 := ⟨by decide +kernel, rfl⟩
theorem dX8_reachBack_51 : zd cX8_reachBack 51 (.iload_n 3) 1 52 := ⟨by decide +kernel, rfl⟩
theorem dX8_reachBack_52 : zd cX8_reachBack 52 (.iadd) 1 53 := ⟨by decide +kernel, rfl⟩
theorem dX8_reachBack_53 : zd cX8_reachBack 53 (.bipush 49) 2 55 := ⟨by decide +kernel, rfl⟩
theorem dX8_reachBack_55 : zd cX8_reachBack 55 (.if_icmp .ge 22) 3 58 := ⟨by decide +kernel, rfl⟩
theorem dX8_reachBack_58 : zd cX8_reachBack 58 (.aload_n 1) 1 59 := ⟨by decide +kernel, rfl⟩
theorem dX8_reachBack_59 : zd cX8_reachBack 59 (.iload_n 2) 1 60 := ⟨by decide +kernel, rfl⟩
theorem dX8_reachBack_60 : zd cX8_reachBack 60 (.iload_n 3) 1 61 := ⟨by decide +kernel, rfl⟩
theorem dX8_reachBack_61 : zd cX8_reachBack 61 (.iadd) 1 62 := ⟨by decide +kernel, rfl⟩
theorem dX8_reachBack_62 : zd cX8_reachBack 62 (.iaload) 1 63 := ⟨by decide +kernel, rfl⟩
theorem dX8_reachBack_63 : zd cX8_reachBack 63 (.iconst (-1)) 1 64 := ⟨by decide +kernel, rfl⟩
theorem dX8_reachBack_64 : zd cX8_reachBack 64 (.if_icmp .ne 13) 3 67 := ⟨by decide +kernel, rfl⟩
theorem dX8_reachBack_67 : zd cX8_reachBack 67 (.aload_n 1) 1 68 := ⟨by decide +kernel, rfl⟩
theorem dX8_reachBack_68 : zd cX8_reachBack 68 (.iload_n 2) 1 69 := ⟨by decide +kernel, rfl⟩
theorem dX8_reachBack_69 : zd cX8_reachBack 69 (.iload_n 3) 1 70 := ⟨by decide +kernel, rfl⟩
theorem dX8_reachBack_70 : zd cX8_reachBack 70 (.iadd) 1 71 := ⟨by decide +kernel, rfl⟩
theorem dX8_reachBack_71 : zd cX8_reachBack 71 (.aload_n 1) 1 72 := ⟨by decide +kernel, rfl⟩
theorem dX8_reachBack_72 : zd cX8_reachBack 72 (.iload_n 2) 1 73 := ⟨by decide +kernel, rfl⟩
theorem dX8_reachBack_73 : zd cX8_reachBack 73 (.iaload) 1 74 := ⟨by decide +kernel, rfl⟩
theorem dX8_reachBack_74 : zd cX8_reachBack 74 (.iconst 1) 1 75 := ⟨by decide +kernel, rfl⟩
theorem dX8_reachBack_75 : zd cX8_reachBack 75 (.iadd) 1 76 := ⟨by decide +kernel, rfl⟩
theorem dX8_reachBack_76 : zd cX8_reachBack 76 (.iastore) 1 77 := ⟨by decide +kernel, rfl⟩
theorem dX8_reachBack_77 : zd cX8_reachBack 77 (.iinc 3 1) 3 80 := ⟨by decide +kernel, rfl⟩
theorem dX8_reachBack_80 : zd cX8_reachBack 80 (.goto (-78)) 3 83 := ⟨by decide +kernel, rfl⟩
theorem dX8_reachBack_83 : zd cX8_reachBack 83 (.return_) 1 84 := ⟨by decide +kernel, rfl⟩
theorem dX8_fewestToGoal_0 : zd cX8_fewestToGoal 0 (.iconst 0) 1 1 := ⟨by decide +kernel, rfl⟩
theorem dX8_fewestToGoal_1 : zd cX8_fewestToGoal 1 (.istore_n 1) 1 2 := ⟨by decide +kernel, rfl⟩
theorem dX8_fewestToGoal_2 : zd cX8_fewestToGoal 2 (.iconst 0) 1 3 := ⟨by decide +kernel, rfl⟩
theorem dX8_fewestToGoal_3 : zd cX8_fewestToGoal 3 (.istore_n 2) 1 4 := ⟨by decide +kernel, rfl⟩
theorem dX8_fewestToGoal_4 : zd cX8_fewestToGoal 4 (.iload_n 2) 1 5 := ⟨by decide +kernel, rfl⟩
theorem dX8_fewestToGoal_5 : zd cX8_fewestToGoal 5 (.iconst 3) 1 6 := ⟨by decide +kernel, rfl⟩
theorem dX8_fewestToGoal_6 : zd cX8_fewestToGoal 6 (.if_icmp .ge 36) 3 9 := ⟨by decide +kernel, rfl⟩
theorem dX8_fewestToGoal_9 : zd cX8_fewestToGoal 9 (.aload_n 0) 1 10 := ⟨by decide +kernel, rfl⟩
theorem dX8_fewestToGoal_10 : zd cX8_fewestToGoal 10 (.getfield 20) 3 13 := ⟨by decide +kernel, rfl⟩
theorem dX8_fewestToGoal_13 : zd cX8_fewestToGoal 13 (.iload_n 2) 1 14 := ⟨by decide +kernel, rfl⟩
theorem dX8_fewestToGoal_14 : zd cX8_fewestToGoal 14 (.aaload) 1 15 := ⟨by decide +kernel, rfl⟩
theorem dX8_fewestToGoal_15 : zd cX8_fewestToGoal 15 (.bipush 24) 2 17 := ⟨by decide +kernel, rfl⟩
theorem dX8_fewestToGoal_17 : zd cX8_fewestToGoal 17 (.iaload) 1 18 := ⟨by decide +kernel, rfl⟩
theorem dX8_fewestToGoal_18 : zd cX8_fewestToGoal 18 (.iconst (-1)) 1 19 := ⟨by decide +kernel, rfl⟩
theorem dX8_fewestToGoal_19 : zd cX8_fewestToGoal 19 (.if_icmp .ne 5) 3 22 := ⟨by decide +kernel, rfl⟩
theorem dX8_fewestToGoal_22 : zd cX8_fewestToGoal 22 (.iconst (-1)) 1 23 := ⟨by decide +kernel, rfl⟩
theorem dX8_fewestToGoal_23 : zd cX8_fewestToGoal 23 (.ireturn) 1 24 := ⟨by decide +kernel, rfl⟩
theorem dX8_fewestToGoal_24 : zd cX8_fewestToGoal 24 (.iload_n 1) 1 25 := ⟨by decide +kernel, rfl⟩
theorem dX8_fewestToGoal_25 : zd cX8_fewestToGoal 25 (.aload_n 0) 1 26 := ⟨by decide +kernel, rfl⟩
theorem dX8_fewestToGoal_26 : zd cX8_fewestToGoal 26 (.getfield 20) 3 29 := ⟨by decide +kernel, rfl⟩
theorem dX8_fewestToGoal_29 : zd cX8_fewestToGoal 29 (.iload_n 2) 1 30 := ⟨by decide +kernel, rfl⟩
theorem dX8_fewestToGoal_30 : zd cX8_fewestToGoal 30 (.aaload) 1 31 := ⟨by decide +kernel, rfl⟩
theorem dX8_fewestToGoal_31 : zd cX8_fewestToGoal 31 (.bipush 24) 2 33 := ⟨by decide +kernel, rfl⟩
theorem dX8_fewestToGoal_33 : zd cX8_fewestToGoal 33 (.iaload) 1 34 := ⟨by decide +kernel, rfl⟩
theorem dX8_fewestToGoal_34 : zd cX8_fewestToGoal 34 (.iadd) 1 35 := ⟨by decide +kernel, rfl⟩
theorem dX8_fewestToGoal_35 : zd cX8_fewestToGoal 35 (.istore_n 1) 1 36 := ⟨by decide +kernel, rfl⟩
theorem dX8_fewestToGoal_36 : zd cX8_fewestToGoal 36 (.iinc 2 1) 3 39 := ⟨by decide +kernel, rfl⟩
theorem dX8_fewestToGoal_39 : zd cX8_fewestToGoal 39 (.goto (-35)) 3 42 := ⟨by decide +kernel, rfl⟩
theorem dX8_fewestToGoal_42 : zd cX8_fewestToGoal 42 (.iload_n 1) 1 43 := ⟨by decide +kernel, rfl⟩
theorem dX8_fewestToGoal_43 : zd cX8_fewestToGoal 43 (.ireturn) 1 44 := ⟨by decide +kernel, rfl⟩
theorem dX8_codeAt_0 : zd cX8_codeAt 0 (.iload_n 1) 1 1 := ⟨by decide +kernel, rfl⟩
theorem dX8_codeAt_1 : zd cX8_codeAt 1 (.aload_n 0) 1 2 := ⟨by decide +kernel, rfl⟩
theorem dX8_codeAt_2 : zd cX8_codeAt 2 (.invokevirtual 34) 3 5 := ⟨by decide +kernel, rfl⟩
theorem dX8_codeAt_5 : zd cX8_codeAt 5 (.if_icmp .lt 5) 3 8 := ⟨by decide +kernel, rfl⟩
theorem dX8_codeAt_8 : zd cX8_codeAt 8 (.iconst (-1)) 1 9 := ⟨by decide +kernel, rfl⟩
theorem dX8_codeAt_9 : zd cX8_codeAt 9 (.ireturn) 1 10 := ⟨by decide +kernel, rfl⟩
theorem dX8_codeAt_10 : zd cX8_codeAt 10 (.iconst 0) 1 11 := ⟨by decide +kernel, rfl⟩
theorem dX8_codeAt_11 : zd cX8_codeAt 11 (.istore_n 2) 1 12 := ⟨by decide +kernel, rfl⟩
theorem dX8_codeAt_12 : zd cX8_codeAt 12 (.iload_n 2) 1 13 := ⟨by decide +kernel, rfl⟩
theorem dX8_codeAt_13 : zd cX8_codeAt 13 (.iconst 3) 1 14 := ⟨by decide +kernel, rfl⟩
theorem dX8_codeAt_14 : zd cX8_codeAt 14 (.if_icmp .ge 17) 3 17 := ⟨by decide +kernel, rfl⟩
theorem dX8_codeAt_17 : zd cX8_codeAt 17 (.aload_n 0) 1 18 := ⟨by decide +kernel, rfl⟩
theorem dX8_codeAt_18 : zd cX8_codeAt 18 (.getfield 23) 3 21 := ⟨by decide +kernel, rfl⟩
theorem dX8_codeAt_21 : zd cX8_codeAt 21 (.iload_n 2) 1 22 := ⟨by decide +kernel, rfl⟩
theorem dX8_codeAt_22 : zd cX8_codeAt 22 (.bipush 24) 2 24 := ⟨by decide +kernel, rfl⟩
theorem dX8_codeAt_24 : zd cX8_codeAt 24 (.iastore) 1 25 := ⟨by decide +kernel, rfl⟩
theorem dX8_codeAt_25 : zd cX8_codeAt 25 (.iinc 2 1) 3 28 := ⟨by decide +kernel, rfl⟩
theorem dX8_codeAt_28 : zd cX8_codeAt 28 (.goto (-16)) 3 31 := ⟨by decide +kernel, rfl⟩
theorem dX8_codeAt_31 : zd cX8_codeAt 31 (.iconst (-1)) 1 32 := ⟨by decide +kernel, rfl⟩
theorem dX8_codeAt_32 : zd cX8_codeAt 32 (.istore_n 2) 1 33 := ⟨by decide +kernel, rfl⟩
theorem dX8_codeAt_33 : zd cX8_codeAt 33 (.iconst 0) 1 34 := ⟨by decide +kernel, rfl⟩
theorem dX8_codeAt_34 : zd cX8_codeAt 34 (.istore_n 3) 1 35 := ⟨by decide +kernel, rfl⟩
theorem dX8_codeAt_35 : zd cX8_codeAt 35 (.iload_n 3) 1 36 := ⟨by decide +kernel, rfl⟩
theorem dX8_codeAt_36 : zd cX8_codeAt 36 (.iload_n 1) 1 37 := ⟨by decide +kernel, rfl⟩
theorem dX8_codeAt_37 : zd cX8_codeAt 37 (.if_icmp .gt 14) 3 40 := ⟨by decide +kernel, rfl⟩
theorem dX8_codeAt_40 : zd cX8_codeAt 40 (.aload_n 0) 1 41 := ⟨by decide +kernel, rfl⟩
theorem dX8_codeAt_41 : zd cX8_codeAt 41 (.invokevirtual 38) 3 44 := ⟨by decide +kernel, rfl⟩
theorem dX8_codeAt_44 : zd cX8_codeAt 44 (.istore_n 2) 1 45 := ⟨by decide +kernel, rfl⟩
theorem dX8_codeAt_45 : zd cX8_codeAt 45 (.iinc 3 1) 3 48 := ⟨by decide +kernel, rfl⟩
theorem dX8_codeAt_48 : zd cX8_codeAt 48 (.goto (-13)) 3 51 := ⟨by decide +kernel, rfl⟩
theorem dX8_codeAt_51 : zd cX8_codeAt 51 (.iload_n 2) 1 52 := ⟨by decide +kernel, rfl⟩
theorem dX8_codeAt_52 : zd cX8_codeAt 52 (.ireturn) 1 53 := ⟨by decide +kernel, rfl⟩
theorem dX8_makeFirst_0 : zd cX8_makeFirst 0 (.iconst 0) 1 1 := ⟨by decide +kernel, rfl⟩
theorem dX8_makeFirst_1 : zd cX8_makeFirst 1 (.istore_n 1) 1 2 := ⟨by decide +kernel, rfl⟩
theorem dX8_makeFirst_2 : zd cX8_makeFirst 2 (.iload_n 1) 1 3 := ⟨by decide +kernel, rfl⟩
theorem dX8_makeFirst_3 : zd cX8_makeFirst 3 (.iconst 1) 1 4 := ⟨by decide +kernel, rfl⟩
theorem dX8_makeFirst_4 : zd cX8_makeFirst 4 (.if_icmp .gt 115) 3 7 := ⟨by decide +kernel, rfl⟩
theorem dX8_makeFirst_7 : zd cX8_makeFirst 7 (.iconst 0) 1 8 := ⟨by decide +kernel, rfl⟩
theorem dX8_makeFirst_8 : zd cX8_makeFirst 8 (.istore_n 2) 1 9 := ⟨by decide +kernel, rfl⟩
theorem dX8_makeFirst_9 : zd cX8_makeFirst 9 (.iload_n 2) 1 10 := ⟨by decide +kernel, rfl⟩
theorem dX8_makeFirst_10 : zd cX8_makeFirst 10 (.iconst 3) 1 11 := ⟨by decide +kernel, rfl⟩
theorem dX8_makeFirst_11 : zd cX8_makeFirst 11 (.if_icmp .ge 102) 3 14 := ⟨by decide +kernel, rfl⟩
theorem dX8_makeFirst_14 : zd cX8_makeFirst 14 (.iconst 1) 1 15 := ⟨by decide +kernel, rfl⟩
theorem dX8_makeFirst_15 : zd cX8_makeFirst 15 (.istore_n 3) 1 16 := ⟨by decide +kernel, rfl⟩
theorem dX8_makeFirst_16 : zd cX8_makeFirst 16 (.iload_n 3) 1 17 := ⟨by decide +kernel, rfl⟩
theorem dX8_makeFirst_17 : zd cX8_makeFirst 17 (.iconst 3) 1 18 := ⟨by decide +kernel, rfl⟩
theorem dX8_makeFirst_18 : zd cX8_makeFirst 18 (.if_icmp .gt 89) 3 21 := ⟨by decide +kernel, rfl⟩
theorem dX8_makeFirst_21 : zd cX8_makeFirst 21 (.iload_n 1) 1 22 := ⟨by decide +kernel, rfl⟩
theorem dX8_makeFirst_22 : zd cX8_makeFirst 22 (.ifCond .ne 14) 3 25 := ⟨by decide +kernel, rfl⟩
theorem dX8_makeFirst_25 : zd cX8_makeFirst 25 (.aload_n 0) 1 26 := ⟨by decide +kernel, rfl⟩
theorem dX8_makeFirst_26 : zd cX8_makeFirst 26 (.getfield 23) 3 29 := ⟨by decide +kernel, rfl⟩
theorem dX8_makeFirst_29 : zd cX8_makeFirst 29 (.iload_n 2) 1 30 := ⟨by decide +kernel, rfl⟩
theorem dX8_makeFirst_30 : zd cX8_makeFirst 30 (.iaload) 1 31 := ⟨by decide +kernel, rfl⟩
theorem dX8_makeFirst_31 : zd cX8_makeFirst 31 (.iload_n 3) 1 32 := ⟨by decide +kernel, rfl⟩
theorem dX8_makeFirst_32 : zd cX8_makeFirst 32 (.iadd) 1 33 := ⟨by decide +kernel, rfl⟩
theorem dX8_makeFirst_33 : zd cX8_makeFirst 33 (.goto 11) 3 36 := ⟨by decide +kernel, rfl⟩
theorem dX8_makeFirst_36 : zd cX8_makeFirst 36 (.aload_n 0) 1 37 := ⟨by decide +kernel, rfl⟩
theorem dX8_makeFirst_37 : zd cX8_makeFirst 37 (.getfield 23) 3 40 := ⟨by decide +kernel, rfl⟩
theorem dX8_makeFirst_40 : zd cX8_makeFirst 40 (.iload_n 2) 1 41 := ⟨by decide +kernel, rfl⟩
theorem dX8_makeFirst_41 : zd cX8_makeFirst 41 (.iaload) 1 42 := ⟨by decide +kernel, rfl⟩
theorem dX8_makeFirst_42 : zd cX8_makeFirst 42 (.iload_n 3) 1 43 := ⟨by decide +kernel, rfl⟩
theorem dX8_makeFirst_43 : zd cX8_makeFirst 43 (.isub) 1 44 := ⟨by decide +kernel, rfl⟩
theorem dX8_makeFirst_44 : zd cX8_makeFirst 44 (.istore 4) 2 46 := ⟨by decide +kernel, rfl⟩
theorem dX8_makeFirst_46 : zd cX8_makeFirst 46 (.iload_n 1) 1 47 := ⟨by decide +kernel, rfl⟩
theorem dX8_makeFirst_47 : zd cX8_makeFirst 47 (.ifCond .ne 15) 3 50 := ⟨by decide +kernel, rfl⟩
theorem dX8_makeFirst_50 : zd cX8_makeFirst 50 (.aload_n 0) 1 51 := ⟨by decide +kernel, rfl⟩
theorem dX8_makeFirst_51 : zd cX8_makeFirst 51 (.getfield 11) 3 54 := ⟨by decide +kernel, rfl⟩
theorem dX8_makeFirst_54 : zd cX8_makeFirst 54 (.iload_n 3) 1 55 := ⟨by decide +kernel, rfl⟩
theorem dX8_makeFirst_55 : zd cX8_makeFirst 55 (.baload) 1 56 := ⟨by decide +kernel, rfl⟩
theorem dX8_makeFirst_56 : zd cX8_makeFirst 56 (.ifCond .eq 45) 3 59 := ⟨by decide +kernel, rfl⟩
theorem dX8_makeFirst_59 : zd cX8_makeFirst 59 (.goto 12) 3 62 := ⟨by decide +kernel, rfl⟩
theorem dX8_makeFirst_62 : zd cX8_makeFirst 62 (.aload_n 0) 1 63 := ⟨by decide +kernel, rfl⟩
theorem dX8_makeFirst_63 : zd cX8_makeFirst 63 (.getfield 15) 3 66 := ⟨by decide +kernel, rfl⟩
theorem dX8_makeFirst_66 : zd cX8_makeFirst 66 (.iload_n 3) 1 67 := ⟨by decide +kernel, rfl⟩
theorem dX8_makeFirst_67 : zd cX8_makeFirst 67 (.baload) 1 68 := ⟨by decide +kernel, rfl⟩
theorem dX8_makeFirst_68 : zd cX8_makeFirst 68 (.ifCond .eq 33) 3 71 := ⟨by decide +kernel, rfl⟩
theorem dX8_makeFirst_71 : zd cX8_makeFirst 71 (.aload_n 0) 1 72 := ⟨by decide +kernel, rfl⟩
theorem dX8_makeFirst_72 : zd cX8_makeFirst 72 (.iload_n 2) 1 73 := ⟨by decide +kernel, rfl⟩
theorem dX8_makeFirst_73 : zd cX8_makeFirst 73 (.iload 4) 2 75 := ⟨by decide +kernel, rfl⟩
theorem dX8_makeFirst_75 : zd cX8_makeFirst 75 (.invokevirtual 41) 3 78 := ⟨by decide +kernel, rfl⟩
theorem dX8_makeFirst_78 : zd cX8_makeFirst 78 (.ifCond .eq 23) 3 81 := ⟨by decide +kernel, rfl⟩
theorem dX8_makeFirst_81 : zd cX8_makeFirst 81 (.aload_n 0) 1 82 := ⟨by decide +kernel, rfl⟩
theorem dX8_makeFirst_82 : zd cX8_makeFirst 82 (.getfield 23) 3 85 := ⟨by decide +kernel, rfl⟩
theorem dX8_makeFirst_85 : zd cX8_makeFirst 85 (.iload_n 2) 1 86 := ⟨by decide +kernel, rfl⟩
theorem dX8_makeFirst_86 : zd cX8_makeFirst 86 (.iload 4) 2 88 := ⟨by decide +kernel, rfl⟩
theorem dX8_makeFirst_88 : zd cX8_makeFirst 88 (.iastore) 1 89 := ⟨by decide +kernel, rfl⟩
theorem dX8_makeFirst_89 : zd cX8_makeFirst 89 (.bipush 100) 2 91 := ⟨by decide +kernel, rfl⟩
theorem dX8_makeFirst_91 : zd cX8_makeFirst 91 (.iload_n 1) 1 92 := ⟨by decide +kernel, rfl⟩
theorem dX8_makeFirst_92 : zd cX8_makeFirst 92 (.imul) 1 93 := ⟨by decide +kernel, rfl⟩
theorem dX8_makeFirst_93 : zd cX8_makeFirst 93 (.bipush 10) 2 95 := ⟨by decide +kernel, rfl⟩
theorem dX8_makeFirst_95 : zd cX8_makeFirst 95 (.iload_n 2) 1 96 := ⟨by decide +kernel, rfl⟩
theorem dX8_makeFirst_96 : zd cX8_makeFirst 96 (.imul) 1 97 := ⟨by decide +kernel, rfl⟩
theorem dX8_makeFirst_97 : zd cX8_makeFirst 97 (.iadd) 1 98 := ⟨by decide +kernel, rfl⟩
theorem dX8_makeFirst_98 : zd cX8_makeFirst 98 (.iload_n 3) 1 99 := ⟨by decide +kernel, rfl⟩
theorem dX8_makeFirst_99 : zd cX8_makeFirst 99 (.iadd) 1 100 := ⟨by decide +kernel, rfl⟩
theorem dX8_makeFirst_100 : zd cX8_makeFirst 100 (.ireturn) 1 101 := ⟨by decide +kernel, rfl⟩
theorem dX8_makeFirst_101 : zd cX8_makeFirst 101 (.iinc 3 1) 3 104 := ⟨by decide +kernel, rfl⟩
theorem dX8_makeFirst_104 : zd cX8_makeFirst 104 (.goto (-88)) 3 107 := ⟨by decide +kernel, rfl⟩
theorem dX8_makeFirst_107 : zd cX8_makeFirst 107 (.iinc 2 1) 3 110 := ⟨by decide +kernel, rfl⟩
theorem dX8_makeFirst_110 : zd cX8_makeFirst 110 (.goto (-101)) 3 113 := ⟨by decide +kernel, rfl⟩
theorem dX8_makeFirst_113 : zd cX8_makeFirst 113 (.iinc 1 1) 3 116 := ⟨by decide +kernel, rfl⟩
theorem dX8_makeFirst_116 : zd cX8_makeFirst 116 (.goto (-114)) 3 119 := ⟨by decide +kernel, rfl⟩
theorem dX8_makeFirst_119 : zd cX8_makeFirst 119 (.iconst (-1)) 1 120 := ⟨by decide +kernel, rfl⟩
theorem dX8_makeFirst_120 : zd cX8_makeFirst 120 (.ireturn) 1 121 := ⟨by decide +kernel, rfl⟩
theorem dX8_isNearer_0 : zd cX8_isNearer 0 (.iload_n 2) 1 1 := ⟨by decide +kernel, rfl⟩
theorem dX8_isNearer_1 : zd cX8_isNearer 1 (.ifCond .lt 49) 3 4 := ⟨by decide +kernel, rfl⟩
theorem dX8_isNearer_4 : zd cX8_isNearer 4 (.iload_n 2) 1 5 := ⟨by decide +kernel, rfl⟩
theorem dX8_isNearer_5 : zd cX8_isNearer 5 (.bipush 49) 2 7 := ⟨by decide +kernel, rfl⟩
theorem dX8_isNearer_7 : zd cX8_isNearer 7 (.if_icmp .ge 43) 3 10 := ⟨by decide +kernel, rfl⟩
theorem dX8_isNearer_10 : zd cX8_isNearer 10 (.aload_n 0) 1 11 := ⟨by decide +kernel, rfl⟩
theorem dX8_isNearer_11 : zd cX8_isNearer 11 (.getfield 20) 3 14 := ⟨by decide +kernel, rfl⟩
theorem dX8_isNearer_14 : zd cX8_isNearer 14 (.iload_n 1) 1 15 := ⟨by decide +kernel, rfl⟩
theorem dX8_isNearer_15 : zd cX8_isNearer 15 (.aaload) 1 16 := ⟨by decide +kernel, rfl⟩
theorem dX8_isNearer_16 : zd cX8_isNearer 16 (.iload_n 2) 1 17 := ⟨by decide +kernel, rfl⟩
theorem dX8_isNearer_17 : zd cX8_isNearer 17 (.iaload) 1 18 := ⟨by decide +kernel, rfl⟩
theorem dX8_isNearer_18 : zd cX8_isNearer 18 (.iconst (-1)) 1 19 := ⟨by decide +kernel, rfl⟩
theorem dX8_isNearer_19 : zd cX8_isNearer 19 (.if_icmp .eq 31) 3 22 := ⟨by decide +kernel, rfl⟩
theorem dX8_isNearer_22 : zd cX8_isNearer 22 (.aload_n 0) 1 23 := ⟨by decide +kernel, rfl⟩
theorem dX8_isNearer_23 : zd cX8_isNearer 23 (.getfield 20) 3 26 := ⟨by decide +kernel, rfl⟩
theorem dX8_isNearer_26 : zd cX8_isNearer 26 (.iload_n 1) 1 27 := ⟨by decide +kernel, rfl⟩
theorem dX8_isNearer_27 : zd cX8_isNearer 27 (.aaload) 1 28 := ⟨by decide +kernel, rfl⟩
theorem dX8_isNearer_28 : zd cX8_isNearer 28 (.iload_n 2) 1 29 := ⟨by decide +kernel, rfl⟩
theorem dX8_isNearer_29 : zd cX8_isNearer 29 (.iaload) 1 30 := ⟨by decide +kernel, rfl⟩
theorem dX8_isNearer_30 : zd cX8_isNearer 30 (.aload_n 0) 1 31 := ⟨by decide +kernel, rfl⟩
theorem dX8_isNearer_31 : zd cX8_isNearer 31 (.getfield 20) 3 34 := ⟨by decide +kernel, rfl⟩
theorem dX8_isNearer_34 : zd cX8_isNearer 34 (.iload_n 1) 1 35 := ⟨by decide +kernel, rfl⟩
theorem dX8_isNearer_35 : zd cX8_isNearer 35 (.aaload) 1 36 := ⟨by decide +kernel, rfl⟩
theorem dX8_isNearer_36 : zd cX8_isNearer 36 (.aload_n 0) 1 37 := ⟨by decide +kernel, rfl⟩
theorem dX8_isNearer_37 : zd cX8_isNearer 37 (.getfield 23) 3 40 := ⟨by decide +kernel, rfl⟩
theorem dX8_isNearer_40 : zd cX8_isNearer 40 (.iload_n 1) 1 41 := ⟨by decide +kernel, rfl⟩
theorem dX8_isNearer_41 : zd cX8_isNearer 41 (.iaload) 1 42 := ⟨by decide +kernel, rfl⟩
theorem dX8_isNearer_42 : zd cX8_isNearer 42 (.iaload) 1 43 := ⟨by decide +kernel, rfl⟩
theorem dX8_isNearer_43 : zd cX8_isNearer 43 (.if_icmp .ge 7) 3 46 := ⟨by decide +kernel, rfl⟩
theorem dX8_isNearer_46 : zd cX8_isNearer 46 (.iconst 1) 1 47 := ⟨by decide +kernel, rfl⟩
theorem dX8_isNearer_47 : zd cX8_isNearer 47 (.goto 4) 3 50 := ⟨by decide +kernel, rfl⟩
theorem dX8_isNearer_50 : zd cX8_isNearer 50 (.iconst 0) 1 51 := ⟨by decide +kernel, rfl⟩
theorem dX8_isNearer_51 : zd cX8_isNearer 51 (.ireturn) 1 52 := ⟨by decide +kernel, rfl⟩
theorem dX9_init_0 : zd cX9_init 0 (.aload_n 0) 1 1 := ⟨by decide +kernel, rfl⟩
theorem dX9_init_1 : zd cX9_init 1 (.invokespecial 3) 3 4 := ⟨by decide +kernel, rfl⟩
theorem dX9_init_4 : zd cX9_init 4 (.aload_n 0) 1 5 := ⟨by decide +kernel, rfl⟩
theorem dX9_init_5 : zd cX9_init 5 (.new 9) 3 8 := ⟨by decide +kernel, rfl⟩
theorem dX9_init_8 : zd cX9_init 8 (.dup) 1 9 := ⟨by decide +kernel, rfl⟩
theorem dX9_init_9 : zd cX9_init 9 (.bipush 60) 2 11 := ⟨by decide +kernel, rfl⟩
theorem dX9_init_11 : zd cX9_init 11 (.invokespecial 13) 3 14 := ⟨by decide +kernel, rfl⟩
theorem dX9_init_14 : zd cX9_init 14 (.putfield 16) 3 17 := ⟨by decide +kernel, rfl⟩
theorem dX9_init_17 : zd cX9_init 17 (.return_) 1 18 := ⟨by decide +kernel, rfl⟩
theorem dX9_choose_0 : zd cX9_choose 0 (.iconst 0) 1 1 := ⟨by decide +kernel, rfl⟩
theorem dX9_choose_1 : zd cX9_choose 1 (.istore_n 3) 1 2 := ⟨by decide +kernel, rfl⟩
theorem dX9_choose_2 : zd cX9_choose 2 (.iconst 0) 1 3 := ⟨by decide +kernel, rfl⟩
theorem dX9_choose_3 : zd cX9_choose 3 (.istore 4) 2 5 := ⟨by decide +kernel, rfl⟩
theorem dX9_choose_5 : zd cX9_choose 5 (.iconst 0) 1 6 := ⟨by decide +kernel, rfl⟩
theorem dX9_choose_6 : zd cX9_choose 6 (.istore 5) 2 8 := ⟨by decide +kernel, rfl⟩
theorem dX9_choose_8 : zd cX9_choose 8 (.iload 5) 2 10 := ⟨by decide +kernel, rfl⟩
theorem dX9_choose_10 : zd cX9_choose 10 (.aload_n 0) 1 11 := ⟨by decide +kernel, rfl⟩
theorem dX9_choose_11 : zd cX9_choose 11 (.getfield 16) 3 14 := ⟨by decide +kernel, rfl⟩
theorem dX9_choose_14 : zd cX9_choose 14 (.getfield 20) 3 17 := ⟨by decide +kernel, rfl⟩
theorem dX9_choose_17 : zd cX9_choose 17 (.if_icmp .ge 49) 3 20 := ⟨by decide +kernel, rfl⟩
theorem dX9_choose_20 : zd cX9_choose 20 (.aload_n 0) 1 21 := ⟨by decide +kernel, rfl⟩
theorem dX9_choose_21 : zd cX9_choose 21 (.getfield 16) 3 24 := ⟨by decide +kernel, rfl⟩
theorem dX9_choose_24 : zd cX9_choose 24 (.getfield 24) 3 27 := ⟨by decide +kernel, rfl⟩
theorem dX9_choose_27 : zd cX9_choose 27 (.iload 5) 2 29 := ⟨by decide +kernel, rfl⟩
theorem dX9_choose_29 : zd cX9_choose 29 (.iaload) 1 30 := ⟨by decide +kernel, rfl⟩
theorem dX9_choose_30 : zd cX9_choose 30 (.istore 6) 2 32 := ⟨by decide +kernel, rfl⟩
theorem dX9_choose_32 : zd cX9_choose 32 (.iload_n 3) 1 33 := ⟨by decide +kernel, rfl⟩
theorem dX9_choose_33 : zd cX9_choose 33 (.ifCond .eq 12) 3 36 := ⟨by decide +kernel, rfl⟩
theorem dX9_choose_36 : zd cX9_choose 36 (.iload 6) 2 38 := ⟨by decide +kernel, rfl⟩
theorem dX9_choose_38 : zd cX9_choose 38 (.iload 4) 2 40 := ⟨by decide +kernel, rfl⟩
theorem dX9_choose_40 : zd cX9_choose 40 (.isub) 1 41 := ⟨by decide +kernel, rfl⟩
theorem dX9_choose_41 : zd cX9_choose 41 (.iload_n 1) 1 42 := ⟨by decide +kernel, rfl⟩
theorem dX9_choose_42 : zd cX9_choose 42 (.if_icmp .lt 18) 3 45 := ⟨by decide +kernel, rfl⟩
theorem dX9_choose_45 : zd cX9_choose 45 (.iload_n 3) 1 46 := ⟨by decide +kernel, rfl⟩
theorem dX9_choose_46 : zd cX9_choose 46 (.iload_n 2) 1 47 := ⟨by decide +kernel, rfl⟩
theorem dX9_choose_47 : zd cX9_choose 47 (.if_icmp .ne 6) 3 50 := ⟨by decide +kernel, rfl⟩
theorem dX9_choose_50 : zd cX9_choose 50 (.iload 6) 2 52 := ⟨by decide +kernel, rfl⟩
theorem dX9_choose_52 : zd cX9_choose 52 (.ireturn) 1 53 := ⟨by decide +kernel, rfl⟩
theorem dX9_choose_53 : zd cX9_choose 53 (.iload 6) 2 55 := ⟨by decide +kernel, rfl⟩
theorem dX9_choose_55 : zd cX9_choose 55 (.istore 4) 2 57 := ⟨by decide +kernel, rfl⟩
theorem dX9_choose_57 : zd cX9_choose 57 (.iinc 3 1) 3 60 := ⟨by decide +kernel, rfl⟩
theorem dX9_choose_60 : zd cX9_choose 60 (.iinc 5 1) 3 63 := ⟨by decide +kernel, rfl⟩
theorem dX9_choose_63 : zd cX9_choose 63 (.goto (-55)) 3 66 := ⟨by decide +kernel, rfl⟩
theorem dX9_choose_66 : zd cX9_choose 66 (.iload_n 2) 1 67 := ⟨by decide +kernel, rfl⟩
theorem dX9_choose_67 : zd cX9_choose 67 (.iconst (-1)) 1 68 := ⟨by decide +kernel, rfl⟩
theorem dX9_choose_68 : zd cX9_choose 68 (.if_icmp .ne 7) 3 71 := ⟨by decide +kernel, rfl⟩
theorem dX9_choose_71 : zd cX9_choose 71 (.iload_n 3) 1 72 := ⟨by decide +kernel, rfl⟩
theorem dX9_choose_72 : zd cX9_choose 72 (.goto 4) 3 75 := ⟨by decide +kernel, rfl⟩
theorem dX9_choose_75 : zd cX9_choose 75 (.iconst (-1)) 1 76 := ⟨by decide +kernel, rfl⟩
theorem dX9_choose_76 : zd cX9_choose 76 (.ireturn) 1 77 := ⟨by decide +kernel, rfl⟩
theorem dX10_init_0 : zd cX10_init 0 (.aload_n 0) 1 1 := ⟨by decide +kernel, rfl⟩
theorem dX10_init_1 : zd cX10_init 1 (.invokespecial 3) 3 4 := ⟨by decide +kernel, rfl⟩
theorem dX10_init_4 : zd cX10_init 4 (.aload_n 0) 1 5 := ⟨by decide +kernel, rfl⟩
theorem dX10_init_5 : zd cX10_init 5 (.lconst 0) 1 6 := ⟨by decide +kernel, rfl⟩
theorem dX10_init_6 : zd cX10_init 6 (.putfield 9) 3 9 := ⟨by decide +kernel, rfl⟩
theorem dX10_init_9 : zd cX10_init 9 (.aload_n 0) 1 10 := ⟨by decide +kernel, rfl⟩
theorem dX10_init_10 : zd cX10_init 10 (.lconst 0) 1 11 := ⟨by decide +kernel, rfl⟩
theorem dX10_init_11 : zd cX10_init 11 (.putfield 13) 3 14 := ⟨by decide +kernel, rfl⟩
theorem dX10_init_14 : zd cX10_init 14 (.return_) 1 15 := ⟨by decide +kernel, rfl⟩
theorem dX10_put_0 : zd cX10_put 0 (.aload_n 0) 1 1 := ⟨by decide +kernel, rfl⟩
theorem dX10_put_1 : zd cX10_put 1 (.lload_n 1) 1 2 := ⟨by decide +kernel, rfl⟩
theorem dX10_put_2 : zd cX10_put 2 (.putfield 9) 3 5 := ⟨by decide +kernel, rfl⟩
theorem dX10_put_5 : zd cX10_put 5 (.aload_n 0) 1 6 := ⟨by decide +kernel, rfl⟩
theorem dX10_put_6 : zd cX10_put 6 (.lload_n 3) 1 7 := ⟨by decide +kernel, rfl⟩
theorem dX10_put_7 : zd cX10_put 7 (.putfield 13) 3 10 := ⟨by decide +kernel, rfl⟩
theorem dX10_put_10 : zd cX10_put 10 (.return_) 1 11 := ⟨by decide +kernel, rfl⟩
theorem dX10_addPart_0 : zd cX10_addPart 0 (.iload_n 2) 1 1 := ⟨by decide +kernel, rfl⟩
theorem dX10_addPart_1 : zd cX10_addPart 1 (.iconst 1) 1 2 := ⟨by decide +kernel, rfl⟩
theorem dX10_addPart_2 : zd cX10_addPart 2 (.if_icmp .ge 4) 3 5 := ⟨by decide +kernel, rfl⟩
theorem dX10_addPart_5 : zd cX10_addPart 5 (.return_) 1 6 := ⟨by decide +kernel, rfl⟩
theorem dX10_addPart_6 : zd cX10_addPart 6 (.aload_n 1) 1 7 := ⟨by decide +kernel, rfl⟩
theorem dX10_addPart_7 : zd cX10_addPart 7 (.getfield 9) 3 10 := ⟨by decide +kernel, rfl⟩
theorem dX10_addPart_10 : zd cX10_addPart 10 (.iload_n 2) 1 11 := ⟨by decide +kernel, rfl⟩
theorem dX10_addPart_11 : zd cX10_addPart 11 (.i2l) 1 12 := ⟨by decide +kernel, rfl⟩
theorem dX10_addPart_12 : zd cX10_addPart 12 (.lrem) 1 13 := ⟨by decide +kernel, rfl⟩
theorem dX10_addPart_13 : zd cX10_addPart 13 (.lstore_n 3) 1 14 := ⟨by decide +kernel, rfl⟩
theorem dX10_addPart_14 : zd cX10_addPart 14 (.aload_n 0) 1 15 := ⟨by decide +kernel, rfl⟩
theorem dX10_addPart_15 : zd cX10_addPart 15 (.getfield 13) 3 18 := ⟨by decide +kernel, rfl⟩
theorem dX10_addPart_18 : zd cX10_addPart 18 (.lload_n 3) 1 19 := ⟨by decide +kernel, rfl⟩
theorem dX10_addPart_19 : zd cX10_addPart 19 (.bipush 44) 2 21 := ⟨by decide +kernel, rfl⟩
theorem dX10_addPart_21 : zd cX10_addPart 21 (.lshl) 1 22 := ⟨by decide +kernel, rfl⟩
theorem dX10_addPart_22 : zd cX10_addPart 22 (.aload_n 1) 1 23 := ⟨by decide +kernel, rfl⟩
theorem dX10_addPart_23 : zd cX10_addPart 23 (.getfield 13) 3 26 := ⟨by decide +kernel, rfl⟩
theorem dX10_addPart_26 : zd cX10_addPart 26 (.ladd) 1 27 := ⟨by decide +kernel, rfl⟩
theorem dX10_addPart_27 : zd cX10_addPart 27 (.iload_n 2) 1 28 := ⟨by decide +kernel, rfl⟩
theorem dX10_addPart_28 : zd cX10_addPart 28 (.i2l) 1 29 := ⟨by decide +kernel, rfl⟩
theorem dX10_addPart_29 : zd cX10_addPart 29 (.ldiv) 1 30 := ⟨by decide +kernel, rfl⟩
theorem dX10_addPart_30 : zd cX10_addPart 30 (.ladd) 1 31 := ⟨by decide +kernel, rfl⟩
theorem dX10_addPart_31 : zd cX10_addPart 31 (.lstore 5) 2 33 := ⟨by decide +kernel, rfl⟩
theorem dX10_addPart_33 : zd cX10_addPart 33 (.aload_n 0) 1 34 := ⟨by decide +kernel, rfl⟩
theorem dX10_addPart_34 : zd cX10_addPart 34 (.dup) 1 35 := ⟨by decide +kernel, rfl⟩
theorem dX10_addPart_35 : zd cX10_addPart 35 (.getfield 9) 3 38 := ⟨by decide +kernel, rfl⟩
theorem dX10_addPart_38 : zd cX10_addPart 38 (.aload_n 1) 1 39 := ⟨by decide +kernel, rfl⟩
theorem dX10_addPart_39 : zd cX10_addPart 39 (.getfield 9) 3 42 := ⟨by decide +kernel, rfl⟩
theorem dX10_addPart_42 : zd cX10_addPart 42 (.iload_n 2) 1 43 := ⟨by decide +kernel, rfl⟩
theorem dX10_addPart_43 : zd cX10_addPart 43 (.i2l) 1 44 := ⟨by decide +kernel, rfl⟩
theorem dX10_addPart_44 : zd cX10_addPart 44 (.ldiv) 1 45 := ⟨by decide +kernel, rfl⟩
theorem dX10_addPart_45 : zd cX10_addPart 45 (.lload 5) 2 47 := ⟨by decide +kernel, rfl⟩
theorem dX10_addPart_47 : zd cX10_addPart 47 (.bipush 44) 2 49 := ⟨by decide +kernel, rfl⟩
theorem dX10_addPart_49 : zd cX10_addPart 49 (.lshr) 1 50 := ⟨by decide +kernel, rfl⟩
theorem dX10_addPart_50 : zd cX10_addPart 50 (.ladd) 1 51 := ⟨by decide +kernel, rfl⟩
theorem dX10_addPart_51 : zd cX10_addPart 51 (.ladd) 1 52 := ⟨by decide +kernel, rfl⟩
theorem dX10_addPart_52 : zd cX10_addPart 52 (.putfield 9) 3 55 := ⟨by decide +kernel, rfl⟩
theorem dX10_addPart_55 : zd cX10_addPart 55 (.aload_n 0) 1 56 := ⟨by decide +kernel, rfl⟩
theorem dX10_addPart_56 : zd cX10_addPart 56 (.lload 5) 2 58 := ⟨by decide +kernel, rfl⟩
theorem dX10_addPart_58 : zd cX10_addPart 58 (.ldc2_w 16) 3 61 := ⟨by decide +kernel, rfl⟩
theorem dX10_addPart_61 : zd cX10_addPart 61 (.land) 1 62 := ⟨by decide +kernel, rfl⟩
theorem dX10_addPart_62 : zd cX10_addPart 62 (.putfield 13) 3 65 := ⟨by decide +kernel, rfl⟩
theorem dX10_addPart_65 : zd cX10_addPart 65 (.return_) 1 66 := ⟨by decide +kernel, rfl⟩
theorem dX10_subtract_0 : zd cX10_subtract 0 (.aload_n 0) 1 1 := ⟨by decide +kernel, rfl⟩
theorem dX10_subtract_1 : zd cX10_subtract 1 (.getfield 13) 3 4 := ⟨by decide +kernel, rfl⟩
theorem dX10_subtract_4 : zd cX10_subtract 4 (.aload_n 1) 1 5 := ⟨by decide +kernel, rfl⟩
theorem dX10_subtract_5 : zd cX10_subtract 5 (.getfield 13) 3 8 := ⟨by decide +kernel, rfl⟩
theorem dX10_subtract_8 : zd cX10_subtract 8 (.lsub) 1 9 := ⟨by decide +kernel, rfl⟩
theorem dX10_subtract_9 : zd cX10_subtract 9 (.lstore_n 2) 1 10 := ⟨by decide +kernel, rfl⟩
theorem dX10_subtract_10 : zd cX10_subtract 10 (.aload_n 0) 1 11 := ⟨by decide +kernel, rfl⟩
theorem dX10_subtract_11 : zd cX10_subtract 11 (.dup) 1 12 := ⟨by decide +kernel, rfl⟩
theorem dX10_subtract_12 : zd cX10_subtract 12 (.getfield 9) 3 15 := ⟨by decide +kernel, rfl⟩
theorem dX10_subtract_15 : zd cX10_subtract 15 (.lload_n 2) 1 16 := ⟨by decide +kernel, rfl⟩
theorem dX10_subtract_16 : zd cX10_subtract 16 (.bipush 44) 2 18 := ⟨by decide +kernel, rfl⟩
theorem dX10_subtract_18 : zd cX10_subtract 18 (.lshr) 1 19 := ⟨by decide +kernel, rfl⟩
theorem dX10_subtract_19 : zd cX10_subtract 19 (.aload_n 1) 1 20 := ⟨by decide +kernel, rfl⟩
theorem dX10_subtract_20 : zd cX10_subtract 20 (.getfield 9) 3 23 := ⟨by decide +kernel, rfl⟩
theorem dX10_subtract_23 : zd cX10_subtract 23 (.lsub) 1 24 := ⟨by decide +kernel, rfl⟩
theorem dX10_subtract_24 : zd cX10_subtract 24 (.ladd) 1 25 := ⟨by decide +kernel, rfl⟩
theorem dX10_subtract_25 : zd cX10_subtract 25 (.putfield 9) 3 28 := ⟨by decide +kernel, rfl⟩
theorem dX10_subtract_28 : zd cX10_subtract 28 (.aload_n 0) 1 29 := ⟨by decide +kernel, rfl⟩
theorem dX10_subtract_29 : zd cX10_subtract 29 (.lload_n 2) 1 30 := ⟨by decide +kernel, rfl⟩
theorem dX10_subtract_30 : zd cX10_subtract 30 (.ldc2_w 16) 3 33 := ⟨by decide +kernel, rfl⟩
theorem dX10_subtract_33 : zd cX10_subtract 33 (.land) 1 34 := ⟨by decide +kernel, rfl⟩
theorem dX10_subtract_34 : zd cX10_subtract 34 (.putfield 13) 3 37 := ⟨by decide +kernel, rfl⟩
theorem dX10_subtract_37 : zd cX10_subtract 37 (.return_) 1 38 := ⟨by decide +kernel, rfl⟩
theorem dX10_shrink_0 : zd cX10_shrink 0 (.iload_n 2) 1 1 := ⟨by decide +kernel, rfl⟩
theorem dX10_shrink_1 : zd cX10_shrink 1 (.iconst 1) 1 2 := ⟨by decide +kernel, rfl⟩
theorem dX10_shrink_2 : zd cX10_shrink 2 (.if_icmp .ge 4) 3 5 := ⟨by decide +kernel, rfl⟩
theorem dX10_shrink_5 : zd cX10_shrink 5 (.return_) 1 6 := ⟨by decide +kernel, rfl⟩
theorem dX10_shrink_6 : zd cX10_shrink 6 (.aload_n 0) 1 7 := ⟨by decide +kernel, rfl⟩
theorem dX10_shrink_7 : zd cX10_shrink 7 (.getfield 9) 3 10 := ⟨by decide +kernel, rfl⟩
theorem dX10_shrink_10 : zd cX10_shrink 10 (.iload_n 1) 1 11 := ⟨by decide +kernel, rfl⟩
theorem dX10_shrink_11 : zd cX10_shrink 11 (.i2l) 1 12 := ⟨by decide +kernel, rfl⟩
theorem dX10_shrink_12 : zd cX10_shrink 12 (.lmul) 1 13 := ⟨by decide +kernel, rfl⟩
theorem dX10_shrink_13 : zd cX10_shrink 13 (.lstore_n 3) 1 14 := ⟨by decide +kernel, rfl⟩
theorem dX10_shrink_14 : zd cX10_shrink 14 (.lload_n 3) 1 15 := ⟨by decide +kernel, rfl⟩
theorem dX10_shrink_15 : zd cX10_shrink 15 (.iload_n 2) 1 16 := ⟨by decide +kernel, rfl⟩
theorem dX10_shrink_16 : zd cX10_shrink 16 (.i2l) 1 17 := ⟨by decide +kernel, rfl⟩
theorem dX10_shrink_17 : zd cX10_shrink 17 (.lrem) 1 18 := ⟨by decide +kernel, rfl⟩
theorem dX10_shrink_18 : zd cX10_shrink 18 (.bipush 44) 2 20 := ⟨by decide +kernel, rfl⟩
theorem dX10_shrink_20 : zd cX10_shrink 20 (.lshl) 1 21 := ⟨by decide +kernel, rfl⟩
theorem dX10_shrink_21 : zd cX10_shrink 21 (.aload_n 0) 1 22 := ⟨by decide +kernel, rfl⟩
theorem dX10_shrink_22 : zd cX10_shrink 22 (.getfield 13) 3 25 := ⟨by decide +kernel, rfl⟩
theorem dX10_shrink_25 : zd cX10_shrink 25 (.iload_n 1) 1 26 := ⟨by decide +kernel, rfl⟩
theorem dX10_shrink_26 : zd cX10_shrink 26 (.i2l) 1 27 := ⟨by decide +kernel, rfl⟩
theorem dX10_shrink_27 : zd cX10_shrink 27 (.lmul) 1 28 := ⟨by decide +kernel, rfl⟩
theorem dX10_shrink_28 : zd cX10_shrink 28 (.ladd) 1 29 := ⟨by decide +kernel, rfl⟩
theorem dX10_shrink_29 : zd cX10_shrink 29 (.iload_n 2) 1 30 := ⟨by decide +kernel, rfl⟩
theorem dX10_shrink_30 : zd cX10_shrink 30 (.i2l) 1 31 := ⟨by decide +kernel, rfl⟩
theorem dX10_shrink_31 : zd cX10_shrink 31 (.ldiv) 1 32 := ⟨by decide +kernel, rfl⟩
theorem dX10_shrink_32 : zd cX10_shrink 32 (.lstore 5) 2 34 := ⟨by decide +kernel, rfl⟩
theorem dX10_shrink_34 : zd cX10_shrink 34 (.aload_n 0) 1 35 := ⟨by decide +kernel, rfl⟩
theorem dX10_shrink_35 : zd cX10_shrink 35 (.lload_n 3) 1 36 := ⟨by decide +kernel, rfl⟩
theorem dX10_shrink_36 : zd cX10_shrink 36 (.iload_n 2) 1 37 := ⟨by decide +kernel, rfl⟩
theorem dX10_shrink_37 : zd cX10_shrink 37 (.i2l) 1 38 := ⟨by decide +kernel, rfl⟩
theorem dX10_shrink_38 : zd cX10_shrink 38 (.ldiv) 1 39 := ⟨by decide +kernel, rfl⟩
theorem dX10_shrink_39 : zd cX10_shrink 39 (.lload 5) 2 41 := ⟨by decide +kernel, rfl⟩
theorem dX10_shrink_41 : zd cX10_shrink 41 (.bipush 44) 2 43 := ⟨by decide +kernel, rfl⟩
theorem dX10_shrink_43 : zd cX10_shrink 43 (.lshr) 1 44 := ⟨by decide +kernel, rfl⟩
theorem dX10_shrink_44 : zd cX10_shrink 44 (.ladd) 1 45 := ⟨by decide +kernel, rfl⟩
theorem dX10_shrink_45 : zd cX10_shrink 45 (.putfield 9) 3 48 := ⟨by decide +kernel, rfl⟩
theorem dX10_shrink_48 : zd cX10_shrink 48 (.aload_n 0) 1 49 := ⟨by decide +kernel, rfl⟩
theorem dX10_shrink_49 : zd cX10_shrink 49 (.lload 5) 2 51 := ⟨by decide +kernel, rfl⟩
theorem dX10_shrink_51 : zd cX10_shrink 51 (.ldc2_w 16) 3 54 := ⟨by decide +kernel, rfl⟩
theorem dX10_shrink_54 : zd cX10_shrink 54 (.land) 1 55 := ⟨by decide +kernel, rfl⟩
theorem dX10_shrink_55 : zd cX10_shrink 55 (.putfield 13) 3 58 := ⟨by decide +kernel, rfl⟩
theorem dX10_shrink_58 : zd cX10_shrink 58 (.return_) 1 59 := ⟨by decide +kernel, rfl⟩
theorem dX10_isZero_0 : zd cX10_isZero 0 (.aload_n 0) 1 1 := ⟨by decide +kernel, rfl⟩
theorem dX10_isZero_1 : zd cX10_isZero 1 (.getfield 9) 3 4 := ⟨by decide +kernel, rfl⟩
theorem dX10_isZero_4 : zd cX10_isZero 4 (.lconst 0) 1 5 := ⟨by decide +kernel, rfl⟩
theorem dX10_isZero_5 : zd cX10_isZero 5 (.lcmp) 1 6 := ⟨by decide +kernel, rfl⟩
theorem dX10_isZero_6 : zd cX10_isZero 6 (.ifCond .ne 16) 3 9 := ⟨by decide +kernel, rfl⟩
theorem dX10_isZero_9 : zd cX10_isZero 9 (.aload_n 0) 1 10 := ⟨by decide +kernel, rfl⟩
theorem dX10_isZero_10 : zd cX10_isZero 10 (.getfield 13) 3 13 := ⟨by decide +kernel, rfl⟩
theorem dX10_isZero_13 : zd cX10_isZero 13 (.lconst 0) 1 14 := ⟨by decide +kernel, rfl⟩
theorem dX10_isZero_14 : zd cX10_isZero 14 (.lcmp) 1 15 := ⟨by decide +kernel, rfl⟩
theorem dX10_isZero_15 : zd cX10_isZero 15 (.ifCond .ne 7) 3 18 := ⟨by decide +kernel, rfl⟩
theorem dX10_isZero_18 : zd cX10_isZero 18 (.iconst 1) 1 19 := ⟨by decide +kernel, rfl⟩
theorem dX10_isZero_19 : zd cX10_isZero 19 (.goto 4) 3 22 := ⟨by decide +kernel, rfl⟩
theorem dX10_isZero_22 : zd cX10_isZero 22 (.iconst 0) 1 23 := ⟨by decide +kernel, rfl⟩
theorem dX10_isZero_23 : zd cX10_isZero 23 (.ireturn) 1 24 := ⟨by decide +kernel, rfl⟩
theorem dX10_floorTimes_0 : zd cX10_floorTimes 0 (.aload_n 0) 1 1 := ⟨by decide +kernel, rfl⟩
theorem dX10_floorTimes_1 : zd cX10_floorTimes 1 (.getfield 9) 3 4 := ⟨by decide +kernel, rfl⟩
theorem dX10_floorTimes_4 : zd cX10_floorTimes 4 (.iload_n 1) 1 5 := ⟨by decide +kernel, rfl⟩
theorem dX10_floorTimes_5 : zd cX10_floorTimes 5 (.i2l) 1 6 := ⟨by decide +kernel, rfl⟩
theorem dX10_floorTimes_6 : zd cX10_floorTimes 6 (.lmul) 1 7 := ⟨by decide +kernel, rfl⟩
theorem dX10_floorTimes_7 : zd cX10_floorTimes 7 (.aload_n 0) 1 8 := ⟨by decide +kernel, rfl⟩
theorem dX10_floorTimes_8 : zd cX10_floorTimes 8 (.getfield 13) 3 11 := ⟨by decide +kernel, rfl⟩
theorem dX10_floorTimes_11 : zd cX10_floorTimes 11 (.iload_n 1) 1 12 := ⟨by decide +kernel, rfl⟩
theorem dX10_floorTimes_12 : zd cX10_floorTimes 12 (.i2l) 1 13 := ⟨by decide +kernel, rfl⟩
theorem dX10_floorTimes_13 : zd cX10_floorTimes 13 (.lmul) 1 14 := ⟨by decide +kernel, rfl⟩
theorem dX10_floorTimes_14 : zd cX10_floorTimes 14 (.bipush 44) 2 16 := ⟨by decide +kernel, rfl⟩
theorem dX10_floorTimes_16 : zd cX10_floorTimes 16 (.lshr) 1 17 := ⟨by decide +kernel, rfl⟩
theorem dX10_floorTimes_17 : zd cX10_floorTimes 17 (.ladd) 1 18 := ⟨by decide +kernel, rfl⟩
theorem dX10_floorTimes_18 : zd cX10_floorTimes 18 (.bipush 44) 2 20 := ⟨by decide +kernel, rfl⟩
theorem dX10_floorTimes_20 : zd cX10_floorTimes 20 (.lshr) 1 21 := ⟨by decide +kernel, rfl⟩
theorem dX10_floorTimes_21 : zd cX10_floorTimes 21 (.lreturn) 1 22 := ⟨by decide +kernel, rfl⟩
theorem dX11_init_0 : zd cX11_init 0 (.aload_n 0) 1 1 := ⟨by decide +kernel, rfl⟩
theorem dX11_init_1 : zd cX11_init 1 (.invokespecial 1) 3 4 := ⟨by decide +kernel, rfl⟩
theorem dX11_init_4 : zd cX11_init 4 (.aload_n 0) 1 5 := ⟨by decide +kernel, rfl⟩
theorem dX11_init_5 : zd cX11_init 5 (.new 7) 3 8 := ⟨by decide +kernel, rfl⟩
theorem dX11_init_8 : zd cX11_init 8 (.dup) 1 9 := ⟨by decide +kernel, rfl⟩
theorem dX11_init_9 : zd cX11_init 9 (.invokespecial 9) 3 12 := ⟨by decide +kernel, rfl⟩
theorem dX11_init_12 : zd cX11_init 12 (.putfield 10) 3 15 := ⟨by decide +kernel, rfl⟩
theorem dX11_init_15 : zd cX11_init 15 (.aload_n 0) 1 16 := ⟨by decide +kernel, rfl⟩
theorem dX11_init_16 : zd cX11_init 16 (.new 16) 3 19 := ⟨by decide +kernel, rfl⟩
theorem dX11_init_19 : zd cX11_init 19 (.dup) 1 20 := ⟨by decide +kernel, rfl⟩
theorem dX11_init_20 : zd cX11_init 20 (.invokespecial 18) 3 23 := ⟨by decide +kernel, rfl⟩
theorem dX11_init_23 : zd cX11_init 23 (.putfield 19) 3 26 := ⟨by decide +kernel, rfl⟩
theorem dX11_init_26 : zd cX11_init 26 (.aload_n 0) 1 27 := ⟨by decide +kernel, rfl⟩
theorem dX11_init_27 : zd cX11_init 27 (.bipush 8) 2 29 := ⟨by decide +kernel, rfl⟩
theorem dX11_init_29 : zd cX11_init 29 (.anewarray 23) 3 32 := ⟨by decide +kernel, rfl⟩
theorem dX11_init_32 : zd cX11_init 32 (.putfield 25) 3 35 := ⟨by decide +kernel, rfl⟩
theorem dX11_init_35 : zd cX11_init 35 (.aload_n 0) 1 36 := ⟨by decide +kernel, rfl⟩
theorem dX11_init_36 : zd cX11_init 36 (.new 29) 3 39 := ⟨by decide +kernel, rfl⟩
theorem dX11_init_39 : zd cX11_init 39 (.dup) 1 40 := ⟨by decide +kernel, rfl⟩
theorem dX11_init_40 : zd cX11_init 40 (.invokespecial 31) 3 43 := ⟨by decide +kernel, rfl⟩
theorem dX11_init_43 : zd cX11_init 43 (.putfield 32) 3 46 := ⟨by decide +kernel, rfl⟩
theorem dX11_init_46 : zd cX11_init 46 (.aload_n 0) 1 47 := ⟨by decide +kernel, rfl⟩
theorem dX11_init_47 : zd cX11_init 47 (.new 36) 3 50 := ⟨by decide +kernel, rfl⟩
theorem dX11_init_50 : zd cX11_init 50 (.dup) 1 51 := ⟨by decide +kernel, rfl⟩
theorem dX11_init_51 : zd cX11_init 51 (.invokespecial 38) 3 54 := ⟨by decide +kernel, rfl⟩
theorem dX11_init_54 : zd cX11_init 54 (.putfield 39) 3 57 := ⟨by decide +kernel, rfl⟩
theorem dX11_init_57 : zd cX11_init 57 (.aload_n 0) 1 58 := ⟨by decide +kernel, rfl⟩
theorem dX11_init_58 : zd cX11_init 58 (.new 43) 3 61 := ⟨by decide +kernel, rfl⟩
theorem dX11_init_61 : zd cX11_init 61 (.dup) 1 62 := ⟨by decide +kernel, rfl⟩
theorem dX11_init_62 : zd cX11_init 62 (.invokespecial 45) 3 65 := ⟨by decide +kernel, rfl⟩
theorem dX11_init_65 : zd cX11_init 65 (.putfield 46) 3 68 := ⟨by decide +kernel, rfl⟩
theorem dX11_init_68 : zd cX11_init 68 (.aload_n 0) 1 69 := ⟨by decide +kernel, rfl⟩
theorem dX11_init_69 : zd cX11_init 69 (.iconst 2) 1 70 := ⟨by decide +kernel, rfl⟩
theorem dX11_init_70 : zd cX11_init 70 (.anewarray 50) 3 73 := ⟨by decide +kernel, rfl⟩
theorem dX11_init_73 : zd cX11_init 73 (.putfield 52) 3 76 := ⟨by decide +kernel, rfl⟩
theorem dX11_init_76 : zd cX11_init 76 (.aload_n 0) 1 77 := ⟨by decide +kernel, rfl⟩
theorem dX11_init_77 : zd cX11_init 77 (.new 56) 3 80 := ⟨by decide +kernel, rfl⟩
theorem dX11_init_80 : zd cX11_init 80 (.dup) 1 81 := ⟨by decide +kernel, rfl⟩
theorem dX11_init_81 : zd cX11_init 81 (.invokespecial 58) 3 84 := ⟨by decide +kernel, rfl⟩
theorem dX11_init_84 : zd cX11_init 84 (.putfield 59) 3 87 := ⟨by decide +kernel, rfl⟩
theorem dX11_init_87 : zd cX11_init 87 (.aload_n 0) 1 88 := ⟨by decide +kernel, rfl⟩
theorem dX11_init_88 : zd cX11_init 88 (.new 63) 3 91 := ⟨by decide +kernel, rfl⟩
theorem dX11_init_91 : zd cX11_init 91 (.dup) 1 92 := ⟨by decide +kernel, rfl⟩
theorem dX11_init_92 : zd cX11_init 92 (.invokespecial 65) 3 95 := ⟨by decide +kernel, rfl⟩
theorem dX11_init_95 : zd cX11_init 95 (.putfield 66) 3 98 := ⟨by decide +kernel, rfl⟩
theorem dX11_init_98 : zd cX11_init 98 (.aload_n 0) 1 99 := ⟨by decide +kernel, rfl⟩
theorem dX11_init_99 : zd cX11_init 99 (.iconst 0) 1 100 := ⟨by decide +kernel, rfl⟩
theorem dX11_init_100 : zd cX11_init 100 (.putfield 70) 3 103 := ⟨by decide +kernel, rfl⟩
theorem dX11_init_103 : zd cX11_init 103 (.aload_n 0) 1 104 := ⟨by decide +kernel, rfl⟩
theorem dX11_init_104 : zd cX11_init 104 (.sipush 10000) 3 107 := ⟨by decide +kernel, rfl⟩
theorem dX11_init_107 : zd cX11_init 107 (.putfield 74) 3 110 := ⟨by decide +kernel, rfl⟩
theorem dX11_init_110 : zd cX11_init 110 (.aload_n 0) 1 111 := ⟨by decide +kernel, rfl⟩
theorem dX11_init_111 : zd cX11_init 111 (.iconst 0) 1 112 := ⟨by decide +kernel, rfl⟩
theorem dX11_init_112 : zd cX11_init 112 (.putfield 77) 3 115 := ⟨by decide +kernel, rfl⟩
theorem dX11_init_115 : zd cX11_init 115 (.iconst 0) 1 116 := ⟨by decide +kernel, rfl⟩
theorem dX11_init_116 : zd cX11_init 116 (.istore_n 1) 1 117 := ⟨by decide +kernel, rfl⟩
theorem dX11_init_117 : zd cX11_init 117 (.iload_n 1) 1 118 := ⟨by decide +kernel, rfl⟩
theorem dX11_init_118 : zd cX11_init 118 (.iconst 2) 1 119 := ⟨by decide +kernel, rfl⟩
theorem dX11_init_119 : zd cX11_init 119 (.if_icmp .ge 22) 3 122 := ⟨by decide +kernel, rfl⟩
theorem dX11_init_122 : zd cX11_init 122 (.aload_n 0) 1 123 := ⟨by decide +kernel, rfl⟩
theorem dX11_init_123 : zd cX11_init 123 (.getfield 52) 3 126 := ⟨by decide +kernel, rfl⟩
theorem dX11_init_126 : zd cX11_init 126 (.iload_n 1) 1 127 := ⟨by decide +kernel, rfl⟩
theorem dX11_init_127 : zd cX11_init 127 (.new 50) 3 130 := ⟨by decide +kernel, rfl⟩
theorem dX11_init_130 : zd cX11_init 130 (.dup) 1 131 := ⟨by decide +kernel, rfl⟩
theorem dX11_init_131 : zd cX11_init 131 (.invokespecial 80) 3 134 := ⟨by decide +kernel, rfl⟩
theorem dX11_init_134 : zd cX11_init 134 (.aastore) 1 135 := ⟨by decide +kernel, rfl⟩
theorem dX11_init_135 : zd cX11_init 135 (.iinc 1 1) 3 138 := ⟨by decide +kernel, rfl⟩
theorem dX11_init_138 : zd cX11_init 138 (.goto (-21)) 3 141 := ⟨by decide +kernel, rfl⟩
theorem dX11_init_141 : zd cX11_init 141 (.return_) 1 142 := ⟨by decide +kernel, rfl⟩
theorem dX11_rule_0 : zd cX11_rule 0 (.iload_n 1) 1 1 := ⟨by decide +kernel, rfl⟩
theorem dX11_rule_1 : zd cX11_rule 1 (.bipush 100) 2 3 := ⟨by decide +kernel, rfl⟩
theorem dX11_rule_3 : zd cX11_rule 3 (.if_icmp .lt 9) 3 6 := ⟨by decide +kernel, rfl⟩
theorem dX11_rule_6 : zd cX11_rule 6 (.iload_n 1) 1 7 := ⟨by decide +kernel, rfl⟩
theorem dX11_rule_7 : zd cX11_rule 7 (.ldc 81) 2 9 := ⟨by decide +kernel, rfl⟩
theorem dX11_rule_9 : zd cX11_rule 9 (.if_icmp .le 6) 3 12 := ⟨by decide +kernel, rfl⟩
theorem dX11_rule_12 : zd cX11_rule 12 (.bipush (-2)) 2 14 := ⟨by decide +kernel, rfl⟩
theorem dX11_rule_14 : zd cX11_rule 14 (.ireturn) 1 15 := ⟨by decide +kernel, rfl⟩
theorem dX11_rule_15 : zd cX11_rule 15 (.aload_n 0) 1 16 := ⟨by decide +kernel, rfl⟩
theorem dX11_rule_16 : zd cX11_rule 16 (.getfield 74) 3 19 := ⟨by decide +kernel, rfl⟩
theorem dX11_rule_19 : zd cX11_rule 19 (.istore_n 2) 1 20 := ⟨by decide +kernel, rfl⟩
theorem dX11_rule_20 : zd cX11_rule 20 (.aload_n 0) 1 21 := ⟨by decide +kernel, rfl⟩
theorem dX11_rule_21 : zd cX11_rule 21 (.iload_n 1) 1 22 := ⟨by decide +kernel, rfl⟩
theorem dX11_rule_22 : zd cX11_rule 22 (.putfield 74) 3 25 := ⟨by decide +kernel, rfl⟩
theorem dX11_rule_25 : zd cX11_rule 25 (.iload_n 2) 1 26 := ⟨by decide +kernel, rfl⟩
theorem dX11_rule_26 : zd cX11_rule 26 (.ireturn) 1 27 := ⟨by decide +kernel, rfl⟩
theorem dX11_scale_0 : zd cX11_scale 0 (.iload_n 2) 1 1 := ⟨by decide +kernel, rfl⟩
theorem dX11_scale_1 : zd cX11_scale 1 (.iconst 1) 1 2 := ⟨by decide +kernel, rfl⟩
theorem dX11_scale_2 : zd cX11_scale 2 (.if_icmp .lt 21) 3 5 := ⟨by decide +kernel, rfl⟩
theorem dX11_scale_5 : zd cX11_scale 5 (.iload_n 2) 1 6 := ⟨by decide +kernel, rfl⟩
theorem dX11_scale_6 : zd cX11_scale 6 (.iconst 3) 1 7 := ⟨by decide +kernel, rfl⟩
theorem dX11_scale_7 : zd cX11_scale 7 (.if_icmp .gt 16) 3 10 := ⟨by decide +kernel, rfl⟩
theorem dX11_scale_10 : zd cX11_scale 10 (.iload_n 3) 1 11 := ⟨by decide +kernel, rfl⟩
theorem dX11_scale_11 : zd cX11_scale 11 (.bipush 10) 2 13 := ⟨by decide +kernel, rfl⟩
theorem dX11_scale_13 : zd cX11_scale 13 (.if_icmp .lt 10) 3 16 := ⟨by decide +kernel, rfl⟩
theorem dX11_scale_16 : zd cX11_scale 16 (.iload_n 3) 1 17 := ⟨by decide +kernel, rfl⟩
theorem dX11_scale_17 : zd cX11_scale 17 (.sipush 990) 3 20 := ⟨by decide +kernel, rfl⟩
theorem dX11_scale_20 : zd cX11_scale 20 (.if_icmp .le 6) 3 23 := ⟨by decide +kernel, rfl⟩
theorem dX11_scale_23 : zd cX11_scale 23 (.bipush (-2)) 2 25 := ⟨by decide +kernel, rfl⟩
theorem dX11_scale_25 : zd cX11_scale 25 (.ireturn) 1 26 := ⟨by decide +kernel, rfl⟩
theorem dX11_scale_26 : zd cX11_scale 26 (.aload_n 0) 1 27 := ⟨by decide +kernel, rfl⟩
theorem dX11_scale_27 : zd cX11_scale 27 (.getfield 70) 3 30 := ⟨by decide +kernel, rfl⟩
theorem dX11_scale_30 : zd cX11_scale 30 (.bipush 8) 2 32 := ⟨by decide +kernel, rfl⟩
theorem dX11_scale_32 : zd cX11_scale 32 (.if_icmp .lt 6) 3 35 := ⟨by decide +kernel, rfl⟩
theorem dX11_scale_35 : zd cX11_scale 35 (.bipush (-4)) 2 37 := ⟨by decide +kernel, rfl⟩
theorem dX11_scale_37 : zd cX11_scale 37 (.ireturn) 1 38 := ⟨by decide +kernel, rfl⟩
theorem dX11_scale_38 : zd cX11_scale 38 (.aload_n 0) 1 39 := ⟨by decide +kernel, rfl⟩
theorem dX11_scale_39 : zd cX11_scale 39 (.getfield 25) 3 42 := ⟨by decide +kernel, rfl⟩
theorem dX11_scale_42 : zd cX11_scale 42 (.aload_n 0) 1 43 := ⟨by decide +kernel, rfl⟩
theorem dX11_scale_43 : zd cX11_scale 43 (.getfield 70) 3 46 := ⟨by decide +kernel, rfl⟩
theorem dX11_scale_46 : zd cX11_scale 46 (.new 23) 3 49 := ⟨by decide +kernel, rfl⟩
theorem dX11_scale_49 : zd cX11_scale 49 (.dup) 1 50 := ⟨by decide +kernel, rfl⟩
theorem dX11_scale_50 : zd cX11_scale 50 (.iload_n 1) 1 51 := ⟨by decide +kernel, rfl⟩
theorem dX11_scale_51 : zd cX11_scale 51 (.iload_n 2) 1 52 := ⟨by decide +kernel, rfl⟩
theorem dX11_scale_52 : zd cX11_scale 52 (.iload_n 3) 1 53 := ⟨by decide +kernel, rfl⟩
theorem dX11_scale_53 : zd cX11_scale 53 (.iload 4) 2 55 := ⟨by decide +kernel, rfl⟩
theorem dX11_scale_55 : zd cX11_scale 55 (.invokespecial 82) 3 58 := ⟨by decide +kernel, rfl⟩
theorem dX11_scale_58 : zd cX11_scale 58 (.aastore) 1 59 := ⟨by decide +kernel, rfl⟩
theorem dX11_scale_59 : zd cX11_scale 59 (.aload_n 0) 1 60 := ⟨by decide +kernel, rfl⟩
theorem dX11_scale_60 : zd cX11_scale 60 (.dup) 1 61 := ⟨by decide +kernel, rfl⟩
theorem dX11_scale_61 : zd cX11_scale 61 (.getfield 70) 3 64 := ⟨by decide +kernel, rfl⟩
theorem dX11_scale_64 : zd cX11_scale 64 (.iconst 1) 1 65 := ⟨by decide +kernel, rfl⟩
theorem dX11_scale_65 : zd cX11_scale 65 (.iadd) 1 66 := ⟨by decide +kernel, rfl⟩
theorem dX11_scale_66 : zd cX11_scale 66 (.putfield 70) 3 69 := ⟨by decide +kernel, rfl⟩
theorem dX11_scale_69 : zd cX11_scale 69 (.aload_n 0) 1 70 := ⟨by decide +kernel, rfl⟩
theorem dX11_scale_70 : zd cX11_scale 70 (.getfield 70) 3 73 := ⟨by decide +kernel, rfl⟩
theorem dX11_scale_73 : zd cX11_scale 73 (.iconst 1) 1 74 := ⟨by decide +kernel, rfl⟩
theorem dX11_scale_74 : zd cX11_scale 74 (.isub) 1 75 := ⟨by decide +kernel, rfl⟩
theorem dX11_scale_75 : zd cX11_scale 75 (.ireturn) 1 76 := ⟨by decide +kernel, rfl⟩
theorem dX11_place_0 : zd cX11_place 0 (.aload_n 0) 1 1 := ⟨by decide +kernel, rfl⟩
theorem dX11_place_1 : zd cX11_place 1 (.iload_n 1) 1 2 := ⟨by decide +kernel, rfl⟩
theorem dX11_place_2 : zd cX11_place 2 (.invokevirtual 85) 3 5 := ⟨by decide +kernel, rfl⟩
theorem dX11_place_5 : zd cX11_place 5 (.astore_n 3) 1 6 := ⟨by decide +kernel, rfl⟩
theorem dX11_place_6 : zd cX11_place 6 (.aload_n 3) 1 7 := ⟨by decide +kernel, rfl⟩
theorem dX11_place_7 : zd cX11_place 7 (.ifnull 10) 3 10 := ⟨by decide +kernel, rfl⟩
theorem dX11_place_10 : zd cX11_place 10 (.iload_n 2) 1 11 := ⟨by decide +kernel, rfl⟩
theorem dX11_place_11 : zd cX11_place 11 (.invokestatic 89) 3 14 := ⟨by decide +kernel, rfl⟩
theorem dX11_place_14 : zd cX11_place 14 (.ifCond .ne 6) 3 17 := ⟨by decide +kernel, rfl⟩
theorem dX11_place_17 : zd cX11_place 17 (.ldc 93) 2 19 := ⟨by decide +kernel, rfl⟩
theorem dX11_place_19 : zd cX11_place 19 (.ireturn) 1 20 := ⟨by decide +kernel, rfl⟩
theorem dX11_place_20 : zd cX11_place 20 (.aload_n 3) 1 21 := ⟨by decide +kernel, rfl⟩
theorem dX11_place_21 : zd cX11_place 21 (.iload_n 2) 1 22 := ⟨by decide +kernel, rfl⟩
theorem dX11_place_22 : zd cX11_place 22 (.aload_n 0) 1 23 := ⟨by decide +kernel, rfl⟩
theorem dX11_place_23 : zd cX11_place 23 (.getfield 74) 3 26 := ⟨by decide +kernel, rfl⟩
theorem dX11_place_26 : zd cX11_place 26 (.aload_n 0) 1 27 := ⟨by decide +kernel, rfl⟩
theorem dX11_place_27 : zd cX11_place 27 (.getfield 10) 3 30 := ⟨by decide +kernel, rfl⟩
theorem dX11_place_30 : zd cX11_place 30 (.invokevirtual 94) 3 33 := ⟨by decide +kernel, rfl⟩
theorem dX11_place_33 : zd cX11_place 33 (.ireturn) 1 34 := ⟨by decide +kernel, rfl⟩
theorem dX11_span_0 : zd cX11_span 0 (.aload_n 0) 1 1 := ⟨by decide +kernel, rfl⟩
theorem dX11_span_1 : zd cX11_span 1 (.iload_n 1) 1 2 := ⟨by decide +kernel, rfl⟩
theorem dX11_span_2 : zd cX11_span 2 (.invokevirtual 85) 3 5 := ⟨by decide +kernel, rfl⟩
theorem dX11_span_5 : zd cX11_span 5 (.astore 5) 2 7 := ⟨by decide +kernel, rfl⟩
theorem dX11_span_7 : zd cX11_span 7 (.aload 5) 2 9 := ⟨by decide +kernel, rfl⟩
theorem dX11_span_9 : zd cX11_span 9 (.ifnull 36) 3 12 := ⟨by decide +kernel, rfl⟩
theorem dX11_span_12 : zd cX11_span 12 (.iload_n 2) 1 13 := ⟨by decide +kernel, rfl⟩
theorem dX11_span_13 : zd cX11_span 13 (.invokestatic 89) 3 16 := ⟨by decide +kernel, rfl⟩
theorem dX11_span_16 : zd cX11_span 16 (.ifCond .eq 29) 3 19 := ⟨by decide +kernel, rfl⟩
theorem dX11_span_19 : zd cX11_span 19 (.iload_n 3) 1 20 := ⟨by decide +kernel, rfl⟩
theorem dX11_span_20 : zd cX11_span 20 (.invokestatic 89) 3 23 := ⟨by decide +kernel, rfl⟩
theorem dX11_span_23 : zd cX11_span 23 (.ifCond .eq 22) 3 26 := ⟨by decide +kernel, rfl⟩
theorem dX11_span_26 : zd cX11_span 26 (.iload_n 2) 1 27 := ⟨by decide +kernel, rfl⟩
theorem dX11_span_27 : zd cX11_span 27 (.iload_n 3) 1 28 := ⟨by decide +kernel, rfl⟩
theorem dX11_span_28 : zd cX11_span 28 (.if_icmp .gt 17) 3 31 := ⟨by decide +kernel, rfl⟩
theorem dX11_span_31 : zd cX11_span 31 (.iload 4) 2 33 := ⟨by decide +kernel, rfl⟩
theorem dX11_span_33 : zd cX11_span 33 (.iconst 1) 1 34 := ⟨by decide +kernel, rfl⟩
theorem dX11_span_34 : zd cX11_span 34 (.if_icmp .lt 11) 3 37 := ⟨by decide +kernel, rfl⟩
theorem dX11_span_37 : zd cX11_span 37 (.iload 4) 2 39 := ⟨by decide +kernel, rfl⟩
theorem dX11_span_39 : zd cX11_span 39 (.sipush 10000) 3 42 := ⟨by decide +kernel, rfl⟩
theorem dX11_span_42 : zd cX11_span 42 (.if_icmp .le 6) 3 45 := ⟨by decide +kernel, rfl⟩
theorem dX11_span_45 : zd cX11_span 45 (.bipush (-2)) 2 47 := ⟨by decide +kernel, rfl⟩
theorem dX11_span_47 : zd cX11_span 47 (.ireturn) 1 48 := ⟨by decide +kernel, rfl⟩
theorem dX11_span_48 : zd cX11_span 48 (.iload_n 2) 1 49 := ⟨by decide +kernel, rfl⟩
theorem dX11_span_49 : zd cX11_span 49 (.aload 5) 2 51 := ⟨by decide +kernel, rfl⟩
theorem dX11_span_51 : zd cX11_span 51 (.invokevirtual 98) 3 54 := ⟨by decide +kernel, rfl⟩
theorem dX11_span_54 : zd cX11_span 54 (.if_icmp .gt 6) 3 57 := ⟨by decide +kernel, rfl⟩
theorem dX11_span_57 : zd cX11_span 57 (.bipush (-3)) 2 59 := ⟨by decide +kernel, rfl⟩
theorem dX11_span_59 : zd cX11_span 59 (.ireturn) 1 60 := ⟨by decide +kernel, rfl⟩
theorem dX11_span_60 : zd cX11_span 60 (.iload_n 3) 1 61 := ⟨by decide +kernel, rfl⟩
theorem dX11_span_61 : zd cX11_span 61 (.iload_n 2) 1 62 := ⟨by decide +kernel, rfl⟩
theorem dX11_span_62 : zd cX11_span 62 (.isub) 1 63 := ⟨by decide +kernel, rfl⟩
theorem dX11_span_63 : zd cX11_span 63 (.iload 4) 2 65 := ⟨by decide +kernel, rfl⟩
theorem dX11_span_65 : zd cX11_span 65 (.idiv) 1 66 := ⟨by decide +kernel, rfl⟩
theorem dX11_span_66 : zd cX11_span 66 (.iconst 1) 1 67 := ⟨by decide +kernel, rfl⟩
theorem dX11_span_67 : zd cX11_span 67 (.iadd) 1 68 := ⟨by decide +kernel, rfl⟩
theorem dX11_span_68 : zd cX11_span 68 (.istore 6) 2 70 := ⟨by decide +kernel, rfl⟩
theorem dX11_span_70 : zd cX11_span 70 (.aload 5) 2 72 := ⟨by decide +kernel, rfl⟩
theorem dX11_span_72 : zd cX11_span 72 (.iload 6) 2 74 := ⟨by decide +kernel, rfl⟩
theorem dX11_span_74 : zd cX11_span 74 (.invokevirtual 102) 3 77 := ⟨by decide +kernel, rfl⟩
theorem dX11_span_77 : zd cX11_span 77 (.ifCond .ne 6) 3 80 := ⟨by decide +kernel, rfl⟩
theorem dX11_span_80 : zd cX11_span 80 (.bipush (-4)) 2 82 := ⟨by decide +kernel, rfl⟩
theorem dX11_span_82 : zd cX11_span 82 (.ireturn) 1 83 := ⟨by decide +kernel, rfl⟩
theorem dX11_span_83 : zd cX11_span 83 (.aload 5) 2 85 := ⟨by decide +kernel, rfl⟩
theorem dX11_span_85 : zd cX11_span 85 (.iload_n 2) 1 86 := ⟨by decide +kernel, rfl⟩
theorem dX11_span_86 : zd cX11_span 86 (.iload_n 3) 1 87 := ⟨by decide +kernel, rfl⟩
theorem dX11_span_87 : zd cX11_span 87 (.iload 4) 2 89 := ⟨by decide +kernel, rfl⟩
theorem dX11_span_89 : zd cX11_span 89 (.invokevirtual 105) 3 92 := ⟨by decide +kernel, rfl⟩
theorem dX11_span_92 : zd cX11_span 92 (.iload 6) 2 94 := ⟨by decide +kernel, rfl⟩
theorem dX11_span_94 : zd cX11_span 94 (.ireturn) 1 95 := ⟨by decide +kernel, rfl⟩
theorem dX11_mark_0 : zd cX11_mark 0 (.aload_n 0) 1 1 := ⟨by decide +kernel, rfl⟩
theorem dX11_mark_1 : zd cX11_mark 1 (.iload_n 1) 1 2 := ⟨by decide +kernel, rfl⟩
theorem dX11_mark_2 : zd cX11_mark 2 (.invokevirtual 85) 3 5 := ⟨by decide +kernel, rfl⟩
theorem dX11_mark_5 : zd cX11_mark 5 (.astore_n 3) 1 6 := ⟨by decide +kernel, rfl⟩
theorem dX11_mark_6 : zd cX11_mark 6 (.aload_n 3) 1 7 := ⟨by decide +kernel, rfl⟩
theorem dX11_mark_7 : zd cX11_mark 7 (.ifnull 7) 3 10 := ⟨by decide +kernel, rfl⟩
theorem dX11_mark_10 : zd cX11_mark 10 (.iload_n 2) 1 11 := ⟨by decide +kernel, rfl⟩
theorem dX11_mark_11 : zd cX11_mark 11 (.ifCond .ge 6) 3 14 := ⟨by decide +kernel, rfl⟩
theorem dX11_mark_14 : zd cX11_mark 14 (.bipush (-2)) 2 16 := ⟨by decide +kernel, rfl⟩
theorem dX11_mark_16 : zd cX11_mark 16 (.ireturn) 1 17 := ⟨by decide +kernel, rfl⟩
theorem dX11_mark_17 : zd cX11_mark 17 (.aload_n 3) 1 18 := ⟨by decide +kernel, rfl⟩
theorem dX11_mark_18 : zd cX11_mark 18 (.iload_n 2) 1 19 := ⟨by decide +kernel, rfl⟩
theorem dX11_mark_19 : zd cX11_mark 19 (.invokevirtual 109) 3 22 := ⟨by decide +kernel, rfl⟩
theorem dX11_mark_22 : zd cX11_mark 22 (.ireturn) 1 23 := ⟨by decide +kernel, rfl⟩
theorem dX11_marks_0 : zd cX11_marks 0 (.aload_n 0) 1 1 := ⟨by decide +kernel, rfl⟩
theorem dX11_marks_1 : zd cX11_marks 1 (.iload_n 1) 1 2 := ⟨by decide +kernel, rfl⟩
theorem dX11_marks_2 : zd cX11_marks 2 (.invokevirtual 85) 3 5 := ⟨by decide +kernel, rfl⟩
theorem dX11_marks_5 : zd cX11_marks 5 (.astore_n 2) 1 6 := ⟨by decide +kernel, rfl⟩
theorem dX11_marks_6 : zd cX11_marks 6 (.aload_n 2) 1 7 := ⟨by decide +kernel, rfl⟩
theorem dX11_marks_7 : zd cX11_marks 7 (.ifnonnull 8) 3 10 := ⟨by decide +kernel, rfl⟩
theorem dX11_marks_10 : zd cX11_marks 10 (.bipush (-2)) 2 12 := ⟨by decide +kernel, rfl⟩
theorem dX11_marks_12 : zd cX11_marks 12 (.goto 10) 3 15 := ⟨by decide +kernel, rfl⟩
theorem dX11_marks_15 : zd cX11_marks 15 (.aload_n 2) 1 16 := ⟨by decide +kernel, rfl⟩
theorem dX11_marks_16 : zd cX11_marks 16 (.getfield 113) 3 19 := ⟨by decide +kernel, rfl⟩
theorem dX11_marks_19 : zd cX11_marks 19 (.getfield 117) 3 22 := ⟨by decide +kernel, rfl⟩
theorem dX11_marks_22 : zd cX11_marks 22 (.ireturn) 1 23 := ⟨by decide +kernel, rfl⟩
theorem dX11_closest_0 : zd cX11_closest 0 (.aload_n 0) 1 1 := ⟨by decide +kernel, rfl⟩
theorem dX11_closest_1 : zd cX11_closest 1 (.iload_n 1) 1 2 := ⟨by decide +kernel, rfl⟩
theorem dX11_closest_2 : zd cX11_closest 2 (.invokevirtual 85) 3 5 := ⟨by decide +kernel, rfl⟩
theorem dX11_closest_5 : zd cX11_closest 5 (.astore_n 3) 1 6 := ⟨by decide +kernel, rfl⟩
theorem dX11_closest_6 : zd cX11_closest 6 (.aload_n 3) 1 7 := ⟨by decide +kernel, rfl⟩
theorem dX11_closest_7 : zd cX11_closest 7 (.ifnull 12) 3 10 := ⟨by decide +kernel, rfl⟩
theorem dX11_closest_10 : zd cX11_closest 10 (.iload_n 2) 1 11 := ⟨by decide +kernel, rfl⟩
theorem dX11_closest_11 : zd cX11_closest 11 (.ifCond .lt 8) 3 14 := ⟨by decide +kernel, rfl⟩
theorem dX11_closest_14 : zd cX11_closest 14 (.iload_n 2) 1 15 := ⟨by decide +kernel, rfl⟩
theorem dX11_closest_15 : zd cX11_closest 15 (.iconst 1) 1 16 := ⟨by decide +kernel, rfl⟩
theorem dX11_closest_16 : zd cX11_closest 16 (.if_icmp .le 6) 3 19 := ⟨by decide +kernel, rfl⟩
theorem dX11_closest_19 : zd cX11_closest 19 (.bipush (-2)) 2 21 := ⟨by decide +kernel, rfl⟩
theorem dX11_closest_21 : zd cX11_closest 21 (.ireturn) 1 22 := ⟨by decide +kernel, rfl⟩
theorem dX11_closest_22 : zd cX11_closest 22 (.aload_n 3) 1 23 := ⟨by decide +kernel, rfl⟩
theorem dX11_closest_23 : zd cX11_closest 23 (.aload_n 0) 1 24 := ⟨by decide +kernel, rfl⟩
theorem dX11_closest_24 : zd cX11_closest 24 (.getfield 74) 3 27 := ⟨by decide +kernel, rfl⟩
theorem dX11_closest_27 : zd cX11_closest 27 (.aload_n 0) 1 28 := ⟨by decide +kernel, rfl⟩
theorem dX11_closest_28 : zd cX11_closest 28 (.getfield 10) 3 31 := ⟨by decide +kernel, rfl⟩
theorem dX11_closest_31 : zd cX11_closest 31 (.invokevirtual 122) 3 34 := ⟨by decide +kernel, rfl⟩
theorem dX11_closest_34 : zd cX11_closest 34 (.aload_n 3) 1 35 := ⟨by decide +kernel, rfl⟩
theorem dX11_closest_35 : zd cX11_closest 35 (.invokevirtual 126) 3 38 := ⟨by decide +kernel, rfl⟩
theorem dX11_closest_38 : zd cX11_closest 38 (.istore 4) 2 40 := ⟨by decide +kernel, rfl⟩
theorem dX11_closest_40 : zd cX11_closest 40 (.iload 4) 2 42 := ⟨by decide +kernel, rfl⟩
theorem dX11_closest_42 : zd cX11_closest 42 (.iconst (-1)) 1 43 := ⟨by decide +kernel, rfl⟩
theorem dX11_closest_43 : zd cX11_closest 43 (.if_icmp .ne 5) 3 46 := ⟨by decide +kernel, rfl⟩
theorem dX11_closest_46 : zd cX11_closest 46 (.iconst (-1)) 1 47 := ⟨by decide +kernel, rfl⟩
theorem dX11_closest_47 : zd cX11_closest 47 (.ireturn) 1 48 := ⟨by decide +kernel, rfl⟩
theorem dX11_closest_48 : zd cX11_closest 48 (.iload_n 2) 1 49 := ⟨by decide +kernel, rfl⟩
theorem dX11_closest_49 : zd cX11_closest 49 (.ifCond .ne 12) 3 52 := ⟨by decide +kernel, rfl⟩
theorem dX11_closest_52 : zd cX11_closest 52 (.aload_n 3) 1 53 := ⟨by decide +kernel, rfl⟩
theorem dX11_closest_53 : zd cX11_closest 53 (.iload 4) 2 55 := ⟨by decide +kernel, rfl⟩
theorem dX11_closest_55 : zd cX11_closest 55 (.invokevirtual 109) 3 58 := ⟨by decide +kernel, rfl⟩
theorem dX11_closest_58 : zd cX11_closest 58 (.goto 9) 3 61 := ⟨by decide +kernel, rfl⟩
theorem dX11_closest_61 : zd cX11_closest 61 (.aload_n 3) 1 62 := ⟨by decide +kernel, rfl⟩
theorem dX11_closest_62 : zd cX11_closest 62 (.iload 4) 2 64 := ⟨by decide +kernel, rfl⟩
theorem dX11_closest_64 : zd cX11_closest 64 (.invokevirtual 129) 3 67 := ⟨by decide +kernel, rfl⟩
theorem dX11_closest_67 : zd cX11_closest 67 (.ireturn) 1 68 := ⟨by decide +kernel, rfl⟩
theorem dX11_off_0 : zd cX11_off 0 (.iload_n 1) 1 1 := ⟨by decide +kernel, rfl⟩
theorem dX11_off_1 : zd cX11_off 1 (.ldc 132) 2 3 := ⟨by decide +kernel, rfl⟩
theorem dX11_off_3 : zd cX11_off 3 (.if_icmp .lt 9) 3 6 := ⟨by decide +kernel, rfl⟩
theorem dX11_off_6 : zd cX11_off 6 (.iload_n 1) 1 7 := ⟨by decide +kernel, rfl⟩
theorem dX11_off_7 : zd cX11_off 7 (.ldc 133) 2 9 := ⟨by decide +kernel, rfl⟩
theorem dX11_off_9 : zd cX11_off 9 (.if_icmp .le 6) 3 12 := ⟨by decide +kernel, rfl⟩
theorem dX11_off_12 : zd cX11_off 12 (.ldc 93) 2 14 := ⟨by decide +kernel, rfl⟩
theorem dX11_off_14 : zd cX11_off 14 (.ireturn) 1 15 := ⟨by decide +kernel, rfl⟩
theorem dX11_off_15 : zd cX11_off 15 (.aload_n 0) 1 16 := ⟨by decide +kernel, rfl⟩
theorem dX11_off_16 : zd cX11_off 16 (.getfield 77) 3 19 := ⟨by decide +kernel, rfl⟩
theorem dX11_off_19 : zd cX11_off 19 (.istore_n 2) 1 20 := ⟨by decide +kernel, rfl⟩
theorem dX11_off_20 : zd cX11_off 20 (.aload_n 0) 1 21 := ⟨by decide +kernel, rfl⟩
theorem dX11_off_21 : zd cX11_off 21 (.iload_n 1) 1 22 := ⟨by decide +kernel, rfl⟩
theorem dX11_off_22 : zd cX11_off 22 (.putfield 77) 3 25 := ⟨by decide +kernel, rfl⟩
theorem dX11_off_25 : zd cX11_off 25 (.iload_n 2) 1 26 := ⟨by decide +kernel, rfl⟩
theorem dX11_off_26 : zd cX11_off 26 (.ireturn) 1 27 := ⟨by decide +kernel, rfl⟩
theorem dX11_set_0 : zd cX11_set 0 (.aload_n 0) 1 1 := ⟨by decide +kernel, rfl⟩
theorem dX11_set_1 : zd cX11_set 1 (.iload_n 1) 1 2 := ⟨by decide +kernel, rfl⟩
theorem dX11_set_2 : zd cX11_set 2 (.invokevirtual 85) 3 5 := ⟨by decide +kernel, rfl⟩
theorem dX11_set_5 : zd cX11_set 5 (.astore 5) 2 7 := ⟨by decide +kernel, rfl⟩
theorem dX11_set_7 : zd cX11_set 7 (.aload_n 0) 1 8 := ⟨by decide +kernel, rfl⟩
theorem dX11_set_8 : zd cX11_set 8 (.iload_n 3) 1 9 := ⟨by decide +kernel, rfl⟩
theorem dX11_set_9 : zd cX11_set 9 (.invokevirtual 85) 3 12 := ⟨by decide +kernel, rfl⟩
theorem dX11_set_12 : zd cX11_set 12 (.astore 6) 2 14 := ⟨by decide +kernel, rfl⟩
theorem dX11_set_14 : zd cX11_set 14 (.aload 5) 2 16 := ⟨by decide +kernel, rfl⟩
theorem dX11_set_16 : zd cX11_set 16 (.ifnull 24) 3 19 := ⟨by decide +kernel, rfl⟩
theorem dX11_set_19 : zd cX11_set 19 (.aload 5) 2 21 := ⟨by decide +kernel, rfl⟩
theorem dX11_set_21 : zd cX11_set 21 (.getfield 134) 3 24 := ⟨by decide +kernel, rfl⟩
theorem dX11_set_24 : zd cX11_set 24 (.ifCond .eq 16) 3 27 := ⟨by decide +kernel, rfl⟩
theorem dX11_set_27 : zd cX11_set 27 (.aload 6) 2 29 := ⟨by decide +kernel, rfl⟩
theorem dX11_set_29 : zd cX11_set 29 (.ifnull 11) 3 32 := ⟨by decide +kernel, rfl⟩
theorem dX11_set_32 : zd cX11_set 32 (.aload 6) 2 34 := ⟨by decide +kernel, rfl⟩
theorem dX11_set_34 : zd cX11_set 34 (.getfield 134) 3 37 := ⟨by decide +kernel, rfl⟩
theorem dX11_set_37 : zd cX11_set 37 (.ifCond .eq 6) 3 40 := ⟨by decide +kernel, rfl⟩
theorem dX11_set_40 : zd cX11_set 40 (.ldc 93) 2 42 := ⟨by decide +kernel, rfl⟩
theorem dX11_set_42 : zd cX11_set 42 (.ireturn) 1 43 := ⟨by decide +kernel, rfl⟩
theorem dX11_set_43 : zd cX11_set 43 (.iload_n 2) 1 44 := ⟨by decide +kernel, rfl⟩
theorem dX11_set_44 : zd cX11_set 44 (.invokestatic 89) 3 47 := ⟨by decide +kernel, rfl⟩
theorem dX11_set_47 : zd cX11_set 47 (.ifCond .eq 11) 3 50 := ⟨by decide +kernel, rfl⟩
theorem dX11_set_50 : zd cX11_set 50 (.iload 4) 2 52 := ⟨by decide +kernel, rfl⟩
theorem dX11_set_52 : zd cX11_set 52 (.invokestatic 89) 3 55 := ⟨by decide +kernel, rfl⟩
theorem dX11_set_55 : zd cX11_set 55 (.ifCond .ne 6) 3 58 := ⟨by decide +kernel, rfl⟩
theorem dX11_set_58 : zd cX11_set 58 (.ldc 93) 2 60 := ⟨by decide +kernel, rfl⟩
theorem dX11_set_60 : zd cX11_set 60 (.ireturn) 1 61 := ⟨by decide +kernel, rfl⟩
theorem dX11_set_61 : zd cX11_set 61 (.aload_n 0) 1 62 := ⟨by decide +kernel, rfl⟩
theorem dX11_set_62 : zd cX11_set 62 (.aload 6) 2 64 := ⟨by decide +kernel, rfl⟩
theorem dX11_set_64 : zd cX11_set 64 (.iload 4) 2 66 := ⟨by decide +kernel, rfl⟩
theorem dX11_set_66 : zd cX11_set 66 (.aload_n 0) 1 67 := ⟨by decide +kernel, rfl⟩
theorem dX11_set_67 : zd cX11_set 67 (.getfield 74) 3 70 := ⟨by decide +kernel, rfl⟩
theorem dX11_set_70 : zd cX11_set 70 (.aload_n 0) 1 71 := ⟨by decide +kernel, rfl⟩
theorem dX11_set_71 : zd cX11_set 71 (.getfield 10) 3 74 := ⟨by decide +kernel, rfl⟩
theorem dX11_set_74 : zd cX11_set 74 (.invokevirtual 94) 3 77 := ⟨by decide +kernel, rfl⟩
theorem dX11_set_77 : zd cX11_set 77 (.aload 5) 2 79 := ⟨by decide +kernel, rfl⟩
theorem dX11_set_79 : zd cX11_set 79 (.iload_n 2) 1 80 := ⟨by decide +kernel, rfl⟩
theorem dX11_set_80 : zd cX11_set 80 (.aload_n 0) 1 81 := ⟨by decide +kernel, rfl⟩
theorem dX11_set_81 : zd cX11_set 81 (.getfield 74) 3 84 := ⟨by decide +kernel, rfl⟩
theorem dX11_set_84 : zd cX11_set 84 (.aload_n 0) 1 85 := ⟨by decide +kernel, rfl⟩
theorem dX11_set_85 : zd cX11_set 85 (.getfield 10) 3 88 := ⟨by decide +kernel, rfl⟩
theorem dX11_set_88 : zd cX11_set 88 (.invokevirtual 94) 3 91 := ⟨by decide +kernel, rfl⟩
theorem dX11_set_91 : zd cX11_set 91 (.isub) 1 92 := ⟨by decide +kernel, rfl⟩
theorem dX11_set_92 : zd cX11_set 92 (.putfield 77) 3 95 := ⟨by decide +kernel, rfl⟩
theorem dX11_set_95 : zd cX11_set 95 (.aload_n 0) 1 96 := ⟨by decide +kernel, rfl⟩
theorem dX11_set_96 : zd cX11_set 96 (.getfield 77) 3 99 := ⟨by decide +kernel, rfl⟩
theorem dX11_set_99 : zd cX11_set 99 (.ireturn) 1 100 := ⟨by decide +kernel, rfl⟩
theorem dX11_against_0 : zd cX11_against 0 (.aload_n 0) 1 1 := ⟨by decide +kernel, rfl⟩
theorem dX11_against_1 : zd cX11_against 1 (.iload_n 1) 1 2 := ⟨by decide +kernel, rfl⟩
theorem dX11_against_2 : zd cX11_against 2 (.invokevirtual 85) 3 5 := ⟨by decide +kernel, rfl⟩
theorem dX11_against_5 : zd cX11_against 5 (.astore 4) 2 7 := ⟨by decide +kernel, rfl⟩
theorem dX11_against_7 : zd cX11_against 7 (.aload_n 0) 1 8 := ⟨by decide +kernel, rfl⟩
theorem dX11_against_8 : zd cX11_against 8 (.iload_n 3) 1 9 := ⟨by decide +kernel, rfl⟩
theorem dX11_against_9 : zd cX11_against 9 (.invokevirtual 85) 3 12 := ⟨by decide +kernel, rfl⟩
theorem dX11_against_12 : zd cX11_against 12 (.astore 5) 2 14 := ⟨by decide +kernel, rfl⟩
theorem dX11_against_14 : zd cX11_against 14 (.aload 4) 2 16 := ⟨by decide +kernel, rfl⟩
theorem dX11_against_16 : zd cX11_against 16 (.ifnull 15) 3 19 := ⟨by decide +kernel, rfl⟩
theorem dX11_against_19 : zd cX11_against 19 (.iload_n 2) 1 20 := ⟨by decide +kernel, rfl⟩
theorem dX11_against_20 : zd cX11_against 20 (.invokestatic 89) 3 23 := ⟨by decide +kernel, rfl⟩
theorem dX11_against_23 : zd cX11_against 23 (.ifCond .eq 8) 3 26 := ⟨by decide +kernel, rfl⟩
theorem dX11_against_26 : zd cX11_against 26 (.aload 5) 2 28 := ⟨by decide +kernel, rfl⟩
theorem dX11_against_28 : zd cX11_against 28 (.ifnonnull 6) 3 31 := ⟨by decide +kernel, rfl⟩
theorem dX11_against_31 : zd cX11_against 31 (.ldc 93) 2 33 := ⟨by decide +kernel, rfl⟩
theorem dX11_against_33 : zd cX11_against 33 (.ireturn) 1 34 := ⟨by decide +kernel, rfl⟩
theorem dX11_against_34 : zd cX11_against 34 (.aload 4) 2 36 := ⟨by decide +kernel, rfl⟩
theorem dX11_against_36 : zd cX11_against 36 (.iload_n 2) 1 37 := ⟨by decide +kernel, rfl⟩
theorem dX11_against_37 : zd cX11_against 37 (.aload_n 0) 1 38 := ⟨by decide +kernel, rfl⟩
theorem dX11_against_38 : zd cX11_against 38 (.getfield 74) 3 41 := ⟨by decide +kernel, rfl⟩
theorem dX11_against_41 : zd cX11_against 41 (.aload_n 0) 1 42 := ⟨by decide +kernel, rfl⟩
theorem dX11_against_42 : zd cX11_against 42 (.getfield 10) 3 45 := ⟨by decide +kernel, rfl⟩
theorem dX11_against_45 : zd cX11_against 45 (.invokevirtual 94) 3 48 := ⟨by decide +kernel, rfl⟩
theorem dX11_against_48 : zd cX11_against 48 (.istore 6) 2 50 := ⟨by decide +kernel, rfl⟩
theorem dX11_against_50 : zd cX11_against 50 (.aload 4) 2 52 := ⟨by decide +kernel, rfl⟩
theorem dX11_against_52 : zd cX11_against 52 (.getfield 134) 3 55 := ⟨by decide +kernel, rfl⟩
theorem dX11_against_55 : zd cX11_against 55 (.ifCond .eq 12) 3 58 := ⟨by decide +kernel, rfl⟩
theorem dX11_against_58 : zd cX11_against 58 (.iload 6) 2 60 := ⟨by decide +kernel, rfl⟩
theorem dX11_against_60 : zd cX11_against 60 (.aload_n 0) 1 61 := ⟨by decide +kernel, rfl⟩
theorem dX11_against_61 : zd cX11_against 61 (.getfield 77) 3 64 := ⟨by decide +kernel, rfl⟩
theorem dX11_against_64 : zd cX11_against 64 (.iadd) 1 65 := ⟨by decide +kernel, rfl⟩
theorem dX11_against_65 : zd cX11_against 65 (.istore 6) 2 67 := ⟨by decide +kernel, rfl⟩
theorem dX11_against_67 : zd cX11_against 67 (.aload 5) 2 69 := ⟨by decide +kernel, rfl⟩
theorem dX11_against_69 : zd cX11_against 69 (.getfield 134) 3 72 := ⟨by decide +kernel, rfl⟩
theorem dX11_against_72 : zd cX11_against 72 (.ifCond .eq 12) 3 75 := ⟨by decide +kernel, rfl⟩
theorem dX11_against_75 : zd cX11_against 75 (.iload 6) 2 77 := ⟨by decide +kernel, rfl⟩
theorem dX11_against_77 : zd cX11_against 77 (.aload_n 0) 1 78 := ⟨by decide +kernel, rfl⟩
theorem dX11_against_78 : zd cX11_against 78 (.getfield 77) 3 81 := ⟨by decide +kernel, rfl⟩
theorem dX11_against_81 : zd cX11_against 81 (.isub) 1 82 := ⟨by decide +kernel, rfl⟩
theorem dX11_against_82 : zd cX11_against 82 (.istore 6) 2 84 := ⟨by decide +kernel, rfl⟩
theorem dX11_against_84 : zd cX11_against 84 (.iload 6) 2 86 := ⟨by decide +kernel, rfl⟩
theorem dX11_against_86 : zd cX11_against 86 (.ireturn) 1 87 := ⟨by decide +kernel, rfl⟩
theorem dX11_nearest_0 : zd cX11_nearest 0 (.aload_n 0) 1 1 := ⟨by decide +kernel, rfl⟩
theorem dX11_nearest_1 : zd cX11_nearest 1 (.iload_n 1) 1 2 := ⟨by decide +kernel, rfl⟩
theorem dX11_nearest_2 : zd cX11_nearest 2 (.invokevirtual 85) 3 5 := ⟨by decide +kernel, rfl⟩
theorem dX11_nearest_5 : zd cX11_nearest 5 (.astore_n 3) 1 6 := ⟨by decide +kernel, rfl⟩
theorem dX11_nearest_6 : zd cX11_nearest 6 (.aload_n 3) 1 7 := ⟨by decide +kernel, rfl⟩
theorem dX11_nearest_7 : zd cX11_nearest 7 (.ifnull 10) 3 10 := ⟨by decide +kernel, rfl⟩
theorem dX11_nearest_10 : zd cX11_nearest 10 (.iload_n 2) 1 11 := ⟨by decide +kernel, rfl⟩
theorem dX11_nearest_11 : zd cX11_nearest 11 (.invokestatic 138) 3 14 := ⟨by decide +kernel, rfl⟩
theorem dX11_nearest_14 : zd cX11_nearest 14 (.ifCond .ne 6) 3 17 := ⟨by decide +kernel, rfl⟩
theorem dX11_nearest_17 : zd cX11_nearest 17 (.bipush (-2)) 2 19 := ⟨by decide +kernel, rfl⟩
theorem dX11_nearest_19 : zd cX11_nearest 19 (.ireturn) 1 20 := ⟨by decide +kernel, rfl⟩
theorem dX11_nearest_20 : zd cX11_nearest 20 (.aload_n 3) 1 21 := ⟨by decide +kernel, rfl⟩
theorem dX11_nearest_21 : zd cX11_nearest 21 (.aload_n 0) 1 22 := ⟨by decide +kernel, rfl⟩
theorem dX11_nearest_22 : zd cX11_nearest 22 (.getfield 74) 3 25 := ⟨by decide +kernel, rfl⟩
theorem dX11_nearest_25 : zd cX11_nearest 25 (.aload_n 0) 1 26 := ⟨by decide +kernel, rfl⟩
theorem dX11_nearest_26 : zd cX11_nearest 26 (.getfield 10) 3 29 := ⟨by decide +kernel, rfl⟩
theorem dX11_nearest_29 : zd cX11_nearest 29 (.invokevirtual 122) 3 32 := ⟨by decide +kernel, rfl⟩
theorem dX11_nearest_32 : zd cX11_nearest 32 (.aload_n 3) 1 33 := ⟨by decide +kernel, rfl⟩
theorem dX11_nearest_33 : zd cX11_nearest 33 (.iload_n 2) 1 34 := ⟨by decide +kernel, rfl⟩
theorem dX11_nearest_34 : zd cX11_nearest 34 (.invokevirtual 141) 3 37 := ⟨by decide +kernel, rfl⟩
theorem dX11_nearest_37 : zd cX11_nearest 37 (.ireturn) 1 38 := ⟨by decide +kernel, rfl⟩
theorem dX11_between_0 : zd cX11_between 0 (.aload_n 0) 1 1 := ⟨by decide +kernel, rfl⟩
theorem dX11_between_1 : zd cX11_between 1 (.iload_n 1) 1 2 := ⟨by decide +kernel, rfl⟩
theorem dX11_between_2 : zd cX11_between 2 (.invokevirtual 85) 3 5 := ⟨by decide +kernel, rfl⟩
theorem dX11_between_5 : zd cX11_between 5 (.astore_n 3) 1 6 := ⟨by decide +kernel, rfl⟩
theorem dX11_between_6 : zd cX11_between 6 (.aload_n 3) 1 7 := ⟨by decide +kernel, rfl⟩
theorem dX11_between_7 : zd cX11_between 7 (.ifnull 10) 3 10 := ⟨by decide +kernel, rfl⟩
theorem dX11_between_10 : zd cX11_between 10 (.iload_n 2) 1 11 := ⟨by decide +kernel, rfl⟩
theorem dX11_between_11 : zd cX11_between 11 (.invokestatic 138) 3 14 := ⟨by decide +kernel, rfl⟩
theorem dX11_between_14 : zd cX11_between 14 (.ifCond .ne 6) 3 17 := ⟨by decide +kernel, rfl⟩
theorem dX11_between_17 : zd cX11_between 17 (.bipush (-2)) 2 19 := ⟨by decide +kernel, rfl⟩
theorem dX11_between_19 : zd cX11_between 19 (.ireturn) 1 20 := ⟨by decide +kernel, rfl⟩
theorem dX11_between_20 : zd cX11_between 20 (.aload_n 3) 1 21 := ⟨by decide +kernel, rfl⟩
theorem dX11_between_21 : zd cX11_between 21 (.aload_n 0) 1 22 := ⟨by decide +kernel, rfl⟩
theorem dX11_between_22 : zd cX11_between 22 (.getfield 74) 3 25 := ⟨by decide +kernel, rfl⟩
theorem dX11_between_25 : zd cX11_between 25 (.aload_n 0) 1 26 := ⟨by decide +kernel, rfl⟩
theorem dX11_between_26 : zd cX11_between 26 (.getfield 10) 3 29 := ⟨by decide +kernel, rfl⟩
theorem dX11_between_29 : zd cX11_between 29 (.invokevirtual 122) 3 32 := ⟨by decide +kernel, rfl⟩
theorem dX11_between_32 : zd cX11_between 32 (.aload_n 3) 1 33 := ⟨by decide +kernel, rfl⟩
theorem dX11_between_33 : zd cX11_between 33 (.iload_n 2) 1 34 := ⟨by decide +kernel, rfl⟩
theorem dX11_between_34 : zd cX11_between 34 (.invokevirtual 144) 3 37 := ⟨by decide +kernel, rfl⟩
theorem dX11_between_37 : zd cX11_between 37 (.ireturn) 1 38 := ⟨by decide +kernel, rfl⟩
theorem dX11_factor_0 : zd cX11_factor 0 (.iload_n 1) 1 1 := ⟨by decide +kernel, rfl⟩
theorem dX11_factor_1 : zd cX11_factor 1 (.invokestatic 147) 3 4 := ⟨by decide +kernel, rfl⟩
theorem dX11_factor_4 : zd cX11_factor 4 (.ifCond .ne 6) 3 7 := ⟨by decide +kernel, rfl⟩
theorem dX11_factor_7 : zd cX11_factor 7 (.bipush (-2)) 2 9 := ⟨by decide +kernel, rfl⟩
theorem dX11_factor_9 : zd cX11_factor 9 (.ireturn) 1 10 := ⟨by decide +kernel, rfl⟩
theorem dX11_factor_10 : zd cX11_factor 10 (.aload_n 0) 1 11 := ⟨by decide +kernel, rfl⟩
theorem dX11_factor_11 : zd cX11_factor 11 (.getfield 32) 3 14 := ⟨by decide +kernel, rfl⟩
theorem dX11_factor_14 : zd cX11_factor 14 (.getfield 150) 3 17 := ⟨by decide +kernel, rfl⟩
theorem dX11_factor_17 : zd cX11_factor 17 (.invokevirtual 153) 3 20 := ⟨by decide +kernel, rfl⟩
theorem dX11_factor_20 : zd cX11_factor 20 (.ifCond .eq 8) 3 23 := ⟨by decide +kernel, rfl⟩
theorem dX11_factor_23 : zd cX11_factor 23 (.bipush (-4)) 2 25 := ⟨by decide +kernel, rfl⟩
theorem dX11_factor_25 : zd cX11_factor 25 (.goto 14) 3 28 := ⟨by decide +kernel, rfl⟩
theorem dX11_factor_28 : zd cX11_factor 28 (.aload_n 0) 1 29 := ⟨by decide +kernel, rfl⟩
theorem dX11_factor_29 : zd cX11_factor 29 (.getfield 32) 3 32 := ⟨by decide +kernel, rfl⟩
theorem dX11_factor_32 : zd cX11_factor 32 (.getfield 150) 3 35 := ⟨by decide +kernel, rfl⟩
theorem dX11_factor_35 : zd cX11_factor 35 (.iload_n 1) 1 36 := ⟨by decide +kernel, rfl⟩
theorem dX11_factor_36 : zd cX11_factor 36 (.invokevirtual 157) 3 39 := ⟨by decide +kernel, rfl⟩
theorem dX11_factor_39 : zd cX11_factor 39 (.ireturn) 1 40 := ⟨by decide +kernel, rfl⟩
theorem dX11_clear_0 : zd cX11_clear 0 (.aload_n 0) 1 1 := ⟨by decide +kernel, rfl⟩
theorem dX11_clear_1 : zd cX11_clear 1 (.getfield 32) 3 4 := ⟨by decide +kernel, rfl⟩
theorem dX11_clear_4 : zd cX11_clear 4 (.getfield 150) 3 7 := ⟨by decide +kernel, rfl⟩
theorem dX11_clear_7 : zd cX11_clear 7 (.invokevirtual 160) 3 10 := ⟨by decide +kernel, rfl⟩
theorem dX11_clear_10 : zd cX11_clear 10 (.ireturn) 1 11 := ⟨by decide +kernel, rfl⟩
theorem dX11_chain_0 : zd cX11_chain 0 (.iload_n 1) 1 1 := ⟨by decide +kernel, rfl⟩
theorem dX11_chain_1 : zd cX11_chain 1 (.ifCond .lt 8) 3 4 := ⟨by decide +kernel, rfl⟩
theorem dX11_chain_4 : zd cX11_chain 4 (.iload_n 1) 1 5 := ⟨by decide +kernel, rfl⟩
theorem dX11_chain_5 : zd cX11_chain 5 (.iconst 4) 1 6 := ⟨by decide +kernel, rfl⟩
theorem dX11_chain_6 : zd cX11_chain 6 (.if_icmp .le 6) 3 9 := ⟨by decide +kernel, rfl⟩
theorem dX11_chain_9 : zd cX11_chain 9 (.ldc 93) 2 11 := ⟨by decide +kernel, rfl⟩
theorem dX11_chain_11 : zd cX11_chain 11 (.ireturn) 1 12 := ⟨by decide +kernel, rfl⟩
theorem dX11_chain_12 : zd cX11_chain 12 (.aload_n 0) 1 13 := ⟨by decide +kernel, rfl⟩
theorem dX11_chain_13 : zd cX11_chain 13 (.getfield 19) 3 16 := ⟨by decide +kernel, rfl⟩
theorem dX11_chain_16 : zd cX11_chain 16 (.aload_n 0) 1 17 := ⟨by decide +kernel, rfl⟩
theorem dX11_chain_17 : zd cX11_chain 17 (.getfield 74) 3 20 := ⟨by decide +kernel, rfl⟩
theorem dX11_chain_20 : zd cX11_chain 20 (.aload_n 0) 1 21 := ⟨by decide +kernel, rfl⟩
theorem dX11_chain_21 : zd cX11_chain 21 (.getfield 10) 3 24 := ⟨by decide +kernel, rfl⟩
theorem dX11_chain_24 : zd cX11_chain 24 (.invokevirtual 163) 3 27 := ⟨by decide +kernel, rfl⟩
theorem dX11_chain_27 : zd cX11_chain 27 (.aload_n 0) 1 28 := ⟨by decide +kernel, rfl⟩
theorem dX11_chain_28 : zd cX11_chain 28 (.getfield 32) 3 31 := ⟨by decide +kernel, rfl⟩
theorem dX11_chain_31 : zd cX11_chain 31 (.aload_n 0) 1 32 := ⟨by decide +kernel, rfl⟩
theorem dX11_chain_32 : zd cX11_chain 32 (.getfield 19) 3 35 := ⟨by decide +kernel, rfl⟩
theorem dX11_chain_35 : zd cX11_chain 35 (.invokevirtual 166) 3 38 := ⟨by decide +kernel, rfl⟩
theorem dX11_chain_38 : zd cX11_chain 38 (.iload_n 1) 1 39 := ⟨by decide +kernel, rfl⟩
theorem dX11_chain_39 : zd cX11_chain 39 (.tableswitch 83 0 3 #[29, 37, 52, 60]) 29 68 := ⟨by decide +kernel, rfl⟩
theorem dX11_chain_68 : zd cX11_chain 68 (.aload_n 0) 1 69 := ⟨by decide +kernel, rfl⟩
theorem dX11_chain_69 : zd cX11_chain 69 (.getfield 32) 3 72 := ⟨by decide +kernel, rfl⟩
theorem dX11_chain_72 : zd cX11_chain 72 (.getfield 170) 3 75 := ⟨by decide +kernel, rfl⟩
theorem dX11_chain_75 : zd cX11_chain 75 (.ireturn) 1 76 := ⟨by decide +kernel, rfl⟩
theorem dX11_chain_76 : zd cX11_chain 76 (.aload_n 0) 1 77 := ⟨by decide +kernel, rfl⟩
theorem dX11_chain_77 : zd cX11_chain 77 (.getfield 19) 3 80 := ⟨by decide +kernel, rfl⟩
theorem dX11_chain_80 : zd cX11_chain 80 (.aload_n 0) 1 81 := ⟨by decide +kernel, rfl⟩
theorem dX11_chain_81 : zd cX11_chain 81 (.getfield 32) 3 84 := ⟨by decide +kernel, rfl⟩
theorem dX11_chain_84 : zd cX11_chain 84 (.getfield 170) 3 87 := ⟨by decide +kernel, rfl⟩
theorem dX11_chain_87 : zd cX11_chain 87 (.invokevirtual 173) 3 90 := ⟨by decide +kernel, rfl⟩
theorem dX11_chain_90 : zd cX11_chain 90 (.ireturn) 1 91 := ⟨by decide +kernel, rfl⟩
theorem dX11_chain_91 : zd cX11_chain 91 (.aload_n 0) 1 92 := ⟨by decide +kernel, rfl⟩
theorem dX11_chain_92 : zd cX11_chain 92 (.getfield 32) 3 95 := ⟨by decide +kernel, rfl⟩
theorem dX11_chain_95 : zd cX11_chain 95 (.invokevirtual 176) 3 98 := ⟨by decide +kernel, rfl⟩
theorem dX11_chain_98 : zd cX11_chain 98 (.ireturn) 1 99 := ⟨by decide +kernel, rfl⟩
theorem dX11_chain_99 : zd cX11_chain 99 (.aload_n 0) 1 100 := ⟨by decide +kernel, rfl⟩
theorem dX11_chain_100 : zd cX11_chain 100 (.getfield 19) 3 103 := ⟨by decide +kernel, rfl⟩
theorem dX11_chain_103 : zd cX11_chain 103 (.aload_n 0) 1 104 := ⟨by decide +kernel, rfl⟩
theorem dX11_chain_104 : zd cX11_chain 104 (.getfield 32) 3 107 := ⟨by decide +kernel, rfl⟩
theorem dX11_chain_107 : zd cX11_chain 107 (.getfield 170) 3 110 := ⟨by decide +kernel, rfl⟩
theorem dX11_chain_110 : zd cX11_chain 110 (.invokevirtual 173) 3 113 := ⟨by decide +kernel, rfl⟩
theorem dX11_chain_113 : zd cX11_chain 113 (.aload_n 0) 1 114 := ⟨by decide +kernel, rfl⟩
theorem dX11_chain_114 : zd cX11_chain 114 (.getfield 32) 3 117 := ⟨by decide +kernel, rfl⟩
theorem dX11_chain_117 : zd cX11_chain 117 (.invokevirtual 176) 3 120 := ⟨by decide +kernel, rfl⟩
theorem dX11_chain_120 : zd cX11_chain 120 (.isub) 1 121 := ⟨by decide +kernel, rfl⟩
theorem dX11_chain_121 : zd cX11_chain 121 (.ireturn) 1 122 := ⟨by decide +kernel, rfl⟩
theorem dX11_chain_122 : zd cX11_chain 122 (.aload_n 0) 1 123 := ⟨by decide +kernel, rfl⟩
theorem dX11_chain_123 : zd cX11_chain 123 (.getfield 32) 3 126 := ⟨by decide +kernel, rfl⟩
theorem dX11_chain_126 : zd cX11_chain 126 (.getfield 179) 3 129 := ⟨by decide +kernel, rfl⟩
theorem dX11_chain_129 : zd cX11_chain 129 (.ireturn) 1 130 := ⟨by decide +kernel, rfl⟩
theorem dX11_pairs_0 : zd cX11_pairs 0 (.iload_n 1) 1 1 := ⟨by decide +kernel, rfl⟩
theorem dX11_pairs_1 : zd cX11_pairs 1 (.invokestatic 147) 3 4 := ⟨by decide +kernel, rfl⟩
theorem dX11_pairs_4 : zd cX11_pairs 4 (.ifCond .eq 38) 3 7 := ⟨by decide +kernel, rfl⟩
theorem dX11_pairs_7 : zd cX11_pairs 7 (.iload_n 2) 1 8 := ⟨by decide +kernel, rfl⟩
theorem dX11_pairs_8 : zd cX11_pairs 8 (.invokestatic 147) 3 11 := ⟨by decide +kernel, rfl⟩
theorem dX11_pairs_11 : zd cX11_pairs 11 (.ifCond .eq 31) 3 14 := ⟨by decide +kernel, rfl⟩
theorem dX11_pairs_14 : zd cX11_pairs 14 (.iload_n 1) 1 15 := ⟨by decide +kernel, rfl⟩
theorem dX11_pairs_15 : zd cX11_pairs 15 (.iload_n 2) 1 16 := ⟨by decide +kernel, rfl⟩
theorem dX11_pairs_16 : zd cX11_pairs 16 (.if_icmp .gt 26) 3 19 := ⟨by decide +kernel, rfl⟩
theorem dX11_pairs_19 : zd cX11_pairs 19 (.iload_n 3) 1 20 := ⟨by decide +kernel, rfl⟩
theorem dX11_pairs_20 : zd cX11_pairs 20 (.iconst 1) 1 21 := ⟨by decide +kernel, rfl⟩
theorem dX11_pairs_21 : zd cX11_pairs 21 (.if_icmp .lt 21) 3 24 := ⟨by decide +kernel, rfl⟩
theorem dX11_pairs_24 : zd cX11_pairs 24 (.iload_n 3) 1 25 := ⟨by decide +kernel, rfl⟩
theorem dX11_pairs_25 : zd cX11_pairs 25 (.sipush 10000) 3 28 := ⟨by decide +kernel, rfl⟩
theorem dX11_pairs_28 : zd cX11_pairs 28 (.if_icmp .gt 14) 3 31 := ⟨by decide +kernel, rfl⟩
theorem dX11_pairs_31 : zd cX11_pairs 31 (.iload 4) 2 33 := ⟨by decide +kernel, rfl⟩
theorem dX11_pairs_33 : zd cX11_pairs 33 (.ifCond .lt 9) 3 36 := ⟨by decide +kernel, rfl⟩
theorem dX11_pairs_36 : zd cX11_pairs 36 (.iload 4) 2 38 := ⟨by decide +kernel, rfl⟩
theorem dX11_pairs_38 : zd cX11_pairs 38 (.iconst 5) 1 39 := ⟨by decide +kernel, rfl⟩
theorem dX11_pairs_39 : zd cX11_pairs 39 (.if_icmp .le 6) 3 42 := ⟨by decide +kernel, rfl⟩
theorem dX11_pairs_42 : zd cX11_pairs 42 (.bipush (-2)) 2 44 := ⟨by decide +kernel, rfl⟩
theorem dX11_pairs_44 : zd cX11_pairs 44 (.ireturn) 1 45 := ⟨by decide +kernel, rfl⟩
theorem dX11_pairs_45 : zd cX11_pairs 45 (.iload_n 2) 1 46 := ⟨by decide +kernel, rfl⟩
theorem dX11_pairs_46 : zd cX11_pairs 46 (.iload_n 1) 1 47 := ⟨by decide +kernel, rfl⟩
theorem dX11_pairs_47 : zd cX11_pairs 47 (.isub) 1 48 := ⟨by decide +kernel, rfl⟩
theorem dX11_pairs_48 : zd cX11_pairs 48 (.iload_n 3) 1 49 := ⟨by decide +kernel, rfl⟩
theorem dX11_pairs_49 : zd cX11_pairs 49 (.idiv) 1 50 := ⟨by decide +kernel, rfl⟩
theorem dX11_pairs_50 : zd cX11_pairs 50 (.iconst 1) 1 51 := ⟨by decide +kernel, rfl⟩
theorem dX11_pairs_51 : zd cX11_pairs 51 (.iadd) 1 52 := ⟨by decide +kernel, rfl⟩
theorem dX11_pairs_52 : zd cX11_pairs 52 (.bipush 100) 2 54 := ⟨by decide +kernel, rfl⟩
theorem dX11_pairs_54 : zd cX11_pairs 54 (.if_icmp .le 6) 3 57 := ⟨by decide +kernel, rfl⟩
theorem dX11_pairs_57 : zd cX11_pairs 57 (.bipush (-2)) 2 59 := ⟨by decide +kernel, rfl⟩
theorem dX11_pairs_59 : zd cX11_pairs 59 (.ireturn) 1 60 := ⟨by decide +kernel, rfl⟩
theorem dX11_pairs_60 : zd cX11_pairs 60 (.aload_n 0) 1 61 := ⟨by decide +kernel, rfl⟩
theorem dX11_pairs_61 : zd cX11_pairs 61 (.getfield 19) 3 64 := ⟨by decide +kernel, rfl⟩
theorem dX11_pairs_64 : zd cX11_pairs 64 (.aload_n 0) 1 65 := ⟨by decide +kernel, rfl⟩
theorem dX11_pairs_65 : zd cX11_pairs 65 (.getfield 74) 3 68 := ⟨by decide +kernel, rfl⟩
theorem dX11_pairs_68 : zd cX11_pairs 68 (.aload_n 0) 1 69 := ⟨by decide +kernel, rfl⟩
theorem dX11_pairs_69 : zd cX11_pairs 69 (.getfield 10) 3 72 := ⟨by decide +kernel, rfl⟩
theorem dX11_pairs_72 : zd cX11_pairs 72 (.invokevirtual 163) 3 75 := ⟨by decide +kernel, rfl⟩
theorem dX11_pairs_75 : zd cX11_pairs 75 (.aload_n 0) 1 76 := ⟨by decide +kernel, rfl⟩
theorem dX11_pairs_76 : zd cX11_pairs 76 (.getfield 39) 3 79 := ⟨by decide +kernel, rfl⟩
theorem dX11_pairs_79 : zd cX11_pairs 79 (.iload_n 1) 1 80 := ⟨by decide +kernel, rfl⟩
theorem dX11_pairs_80 : zd cX11_pairs 80 (.iload_n 2) 1 81 := ⟨by decide +kernel, rfl⟩
theorem dX11_pairs_81 : zd cX11_pairs 81 (.iload_n 3) 1 82 := ⟨by decide +kernel, rfl⟩
theorem dX11_pairs_82 : zd cX11_pairs 82 (.aload_n 0) 1 83 := ⟨by decide +kernel, rfl⟩
theorem dX11_pairs_83 : zd cX11_pairs 83 (.getfield 19) 3 86 := ⟨by decide +kernel, rfl⟩
theorem dX11_pairs_86 : zd cX11_pairs 86 (.invokevirtual 182) 3 89 := ⟨by decide +kernel, rfl⟩
theorem dX11_pairs_89 : zd cX11_pairs 89 (.iload 4) 2 91 := ⟨by decide +kernel, rfl⟩
theorem dX11_pairs_91 : zd cX11_pairs 91 (.tableswitch 73 0 4 #[33, 41, 49, 57, 65]) 33 124 := ⟨by decide +kernel, rfl⟩
theorem dX11_pairs_124 : zd cX11_pairs 124 (.aload_n 0) 1 125 := ⟨by decide +kernel, rfl⟩
theorem dX11_pairs_125 : zd cX11_pairs 125 (.getfield 39) 3 128 := ⟨by decide +kernel, rfl⟩
theorem dX11_pairs_128 : zd cX11_pairs 128 (.getfield 186) 3 131 := ⟨by decide +kernel, rfl⟩
theorem dX11_pairs_131 : zd cX11_pairs 131 (.ireturn) 1 132 := ⟨by decide +kernel, rfl⟩
theorem dX11_pairs_132 : zd cX11_pairs 132 (.aload_n 0) 1 133 := ⟨by decide +kernel, rfl⟩
theorem dX11_pairs_133 : zd cX11_pairs 133 (.getfield 39) 3 136 := ⟨by decide +kernel, rfl⟩
theorem dX11_pairs_136 : zd cX11_pairs 136 (.getfield 189) 3 139 := ⟨by decide +kernel, rfl⟩
theorem dX11_pairs_139 : zd cX11_pairs 139 (.ireturn) 1 140 := ⟨by decide +kernel, rfl⟩
theorem dX11_pairs_140 : zd cX11_pairs 140 (.aload_n 0) 1 141 := ⟨by decide +kernel, rfl⟩
theorem dX11_pairs_141 : zd cX11_pairs 141 (.getfield 39) 3 144 := ⟨by decide +kernel, rfl⟩
theorem dX11_pairs_144 : zd cX11_pairs 144 (.getfield 192) 3 147 := ⟨by decide +kernel, rfl⟩
theorem dX11_pairs_147 : zd cX11_pairs 147 (.ireturn) 1 148 := ⟨by decide +kernel, rfl⟩
theorem dX11_pairs_148 : zd cX11_pairs 148 (.aload_n 0) 1 149 := ⟨by decide +kernel, rfl⟩
theorem dX11_pairs_149 : zd cX11_pairs 149 (.getfield 39) 3 152 := ⟨by decide +kernel, rfl⟩
theorem dX11_pairs_152 : zd cX11_pairs 152 (.getfield 195) 3 155 := ⟨by decide +kernel, rfl⟩
theorem dX11_pairs_155 : zd cX11_pairs 155 (.ireturn) 1 156 := ⟨by decide +kernel, rfl⟩
theorem dX11_pairs_156 : zd cX11_pairs 156 (.aload_n 0) 1 157 := ⟨by decide +kernel, rfl⟩
theorem dX11_pairs_157 : zd cX11_pairs 157 (.getfield 39) 3 160 := ⟨by decide +kernel, rfl⟩
theorem dX11_pairs_160 : zd cX11_pairs 160 (.getfield 198) 3 163 := ⟨by decide +kernel, rfl⟩
theorem dX11_pairs_163 : zd cX11_pairs 163 (.ireturn) 1 164 := ⟨by decide +kernel, rfl⟩
theorem dX11_pairs_164 : zd cX11_pairs 164 (.aload_n 0) 1 165 := ⟨by decide +kernel, rfl⟩
theorem dX11_pairs_165 : zd cX11_pairs 165 (.getfield 39) 3 168 := ⟨by decide +kernel, rfl⟩
theorem dX11_pairs_168 : zd cX11_pairs 168 (.getfield 201) 3 171 := ⟨by decide +kernel, rfl⟩
theorem dX11_pairs_171 : zd cX11_pairs 171 (.ireturn) 1 172 := ⟨by decide +kernel, rfl⟩
theorem dX11_fewest_0 : zd cX11_fewest 0 (.iload_n 1) 1 1 := ⟨by decide +kernel, rfl⟩
theorem dX11_fewest_1 : zd cX11_fewest 1 (.invokestatic 202) 3 4 := ⟨by decide +kernel, rfl⟩
theorem dX11_fewest_4 : zd cX11_fewest 4 (.ifCond .eq 17) 3 7 := ⟨by decide +kernel, rfl⟩
theorem dX11_fewest_7 : zd cX11_fewest 7 (.iload_n 2) 1 8 := ⟨by decide +kernel, rfl⟩
theorem dX11_fewest_8 : zd cX11_fewest 8 (.invokestatic 202) 3 11 := ⟨by decide +kernel, rfl⟩
theorem dX11_fewest_11 : zd cX11_fewest 11 (.ifCond .eq 10) 3 14 := ⟨by decide +kernel, rfl⟩
theorem dX11_fewest_14 : zd cX11_fewest 14 (.iload_n 3) 1 15 := ⟨by decide +kernel, rfl⟩
theorem dX11_fewest_15 : zd cX11_fewest 15 (.invokestatic 202) 3 18 := ⟨by decide +kernel, rfl⟩
theorem dX11_fewest_18 : zd cX11_fewest 18 (.ifCond .ne 6) 3 21 := ⟨by decide +kernel, rfl⟩
theorem dX11_fewest_21 : zd cX11_fewest 21 (.bipush (-2)) 2 23 := ⟨by decide +kernel, rfl⟩
theorem dX11_fewest_23 : zd cX11_fewest 23 (.ireturn) 1 24 := ⟨by decide +kernel, rfl⟩
theorem dX11_fewest_24 : zd cX11_fewest 24 (.aload_n 0) 1 25 := ⟨by decide +kernel, rfl⟩
theorem dX11_fewest_25 : zd cX11_fewest 25 (.iload_n 1) 1 26 := ⟨by decide +kernel, rfl⟩
theorem dX11_fewest_26 : zd cX11_fewest 26 (.iload_n 2) 1 27 := ⟨by decide +kernel, rfl⟩
theorem dX11_fewest_27 : zd cX11_fewest 27 (.iload_n 3) 1 28 := ⟨by decide +kernel, rfl⟩
theorem dX11_fewest_28 : zd cX11_fewest 28 (.invokevirtual 205) 3 31 := ⟨by decide +kernel, rfl⟩
theorem dX11_fewest_31 : zd cX11_fewest 31 (.aload_n 0) 1 32 := ⟨by decide +kernel, rfl⟩
theorem dX11_fewest_32 : zd cX11_fewest 32 (.getfield 46) 3 35 := ⟨by decide +kernel, rfl⟩
theorem dX11_fewest_35 : zd cX11_fewest 35 (.invokevirtual 208) 3 38 := ⟨by decide +kernel, rfl⟩
theorem dX11_fewest_38 : zd cX11_fewest 38 (.ireturn) 1 39 := ⟨by decide +kernel, rfl⟩
theorem dX11_setting_0 : zd cX11_setting 0 (.iload_n 1) 1 1 := ⟨by decide +kernel, rfl⟩
theorem dX11_setting_1 : zd cX11_setting 1 (.invokestatic 202) 3 4 := ⟨by decide +kernel, rfl⟩
theorem dX11_setting_4 : zd cX11_setting 4 (.ifCond .eq 22) 3 7 := ⟨by decide +kernel, rfl⟩
theorem dX11_setting_7 : zd cX11_setting 7 (.iload_n 2) 1 8 := ⟨by decide +kernel, rfl⟩
theorem dX11_setting_8 : zd cX11_setting 8 (.invokestatic 202) 3 11 := ⟨by decide +kernel, rfl⟩
theorem dX11_setting_11 : zd cX11_setting 11 (.ifCond .eq 15) 3 14 := ⟨by decide +kernel, rfl⟩
theorem dX11_setting_14 : zd cX11_setting 14 (.iload_n 3) 1 15 := ⟨by decide +kernel, rfl⟩
theorem dX11_setting_15 : zd cX11_setting 15 (.invokestatic 202) 3 18 := ⟨by decide +kernel, rfl⟩
theorem dX11_setting_18 : zd cX11_setting 18 (.ifCond .eq 8) 3 21 := ⟨by decide +kernel, rfl⟩
theorem dX11_setting_21 : zd cX11_setting 21 (.iload 4) 2 23 := ⟨by decide +kernel, rfl⟩
theorem dX11_setting_23 : zd cX11_setting 23 (.ifCond .ge 6) 3 26 := ⟨by decide +kernel, rfl⟩
theorem dX11_setting_26 : zd cX11_setting 26 (.bipush (-2)) 2 28 := ⟨by decide +kernel, rfl⟩
theorem dX11_setting_28 : zd cX11_setting 28 (.ireturn) 1 29 := ⟨by decide +kernel, rfl⟩
theorem dX11_setting_29 : zd cX11_setting 29 (.aload_n 0) 1 30 := ⟨by decide +kernel, rfl⟩
theorem dX11_setting_30 : zd cX11_setting 30 (.iload_n 1) 1 31 := ⟨by decide +kernel, rfl⟩
theorem dX11_setting_31 : zd cX11_setting 31 (.iload_n 2) 1 32 := ⟨by decide +kernel, rfl⟩
theorem dX11_setting_32 : zd cX11_setting 32 (.iload_n 3) 1 33 := ⟨by decide +kernel, rfl⟩
theorem dX11_setting_33 : zd cX11_setting 33 (.invokevirtual 205) 3 36 := ⟨by decide +kernel, rfl⟩
theorem dX11_setting_36 : zd cX11_setting 36 (.aload_n 0) 1 37 := ⟨by decide +kernel, rfl⟩
theorem dX11_setting_37 : zd cX11_setting 37 (.getfield 46) 3 40 := ⟨by decide +kernel, rfl⟩
theorem dX11_setting_40 : zd cX11_setting 40 (.iload 4) 2 42 := ⟨by decide +kernel, rfl⟩
theorem dX11_setting_42 : zd cX11_setting 42 (.invokevirtual 211) 3 45 := ⟨by decide +kernel, rfl⟩
theorem dX11_setting_45 : zd cX11_setting 45 (.ireturn) 1 46 := ⟨by decide +kernel, rfl⟩
theorem dX11_cut_0 : zd cX11_cut 0 (.iload_n 1) 1 1 := ⟨by decide +kernel, rfl⟩
theorem dX11_cut_1 : zd cX11_cut 1 (.invokestatic 214) 3 4 := ⟨by decide +kernel, rfl⟩
theorem dX11_cut_4 : zd cX11_cut 4 (.ifCond .eq 29) 3 7 := ⟨by decide +kernel, rfl⟩
theorem dX11_cut_7 : zd cX11_cut 7 (.iload_n 2) 1 8 := ⟨by decide +kernel, rfl⟩
theorem dX11_cut_8 : zd cX11_cut 8 (.ifCond .lt 25) 3 11 := ⟨by decide +kernel, rfl⟩
theorem dX11_cut_11 : zd cX11_cut 11 (.iload_n 2) 1 12 := ⟨by decide +kernel, rfl⟩
theorem dX11_cut_12 : zd cX11_cut 12 (.ldc 217) 2 14 := ⟨by decide +kernel, rfl⟩
theorem dX11_cut_14 : zd cX11_cut 14 (.if_icmp .gt 19) 3 17 := ⟨by decide +kernel, rfl⟩
theorem dX11_cut_17 : zd cX11_cut 17 (.iload_n 2) 1 18 := ⟨by decide +kernel, rfl⟩
theorem dX11_cut_18 : zd cX11_cut 18 (.aload_n 0) 1 19 := ⟨by decide +kernel, rfl⟩
theorem dX11_cut_19 : zd cX11_cut 19 (.getfield 52) 3 22 := ⟨by decide +kernel, rfl⟩
theorem dX11_cut_22 : zd cX11_cut 22 (.iload_n 1) 1 23 := ⟨by decide +kernel, rfl⟩
theorem dX11_cut_23 : zd cX11_cut 23 (.aaload) 1 24 := ⟨by decide +kernel, rfl⟩
theorem dX11_cut_24 : zd cX11_cut 24 (.getfield 218) 3 27 := ⟨by decide +kernel, rfl⟩
theorem dX11_cut_27 : zd cX11_cut 27 (.invokevirtual 221) 3 30 := ⟨by decide +kernel, rfl⟩
theorem dX11_cut_30 : zd cX11_cut 30 (.if_icmp .gt 6) 3 33 := ⟨by decide +kernel, rfl⟩
theorem dX11_cut_33 : zd cX11_cut 33 (.bipush (-2)) 2 35 := ⟨by decide +kernel, rfl⟩
theorem dX11_cut_35 : zd cX11_cut 35 (.ireturn) 1 36 := ⟨by decide +kernel, rfl⟩
theorem dX11_cut_36 : zd cX11_cut 36 (.aload_n 0) 1 37 := ⟨by decide +kernel, rfl⟩
theorem dX11_cut_37 : zd cX11_cut 37 (.getfield 52) 3 40 := ⟨by decide +kernel, rfl⟩
theorem dX11_cut_40 : zd cX11_cut 40 (.iload_n 1) 1 41 := ⟨by decide +kernel, rfl⟩
theorem dX11_cut_41 : zd cX11_cut 41 (.aaload) 1 42 := ⟨by decide +kernel, rfl⟩
theorem dX11_cut_42 : zd cX11_cut 42 (.getfield 218) 3 45 := ⟨by decide +kernel, rfl⟩
theorem dX11_cut_45 : zd cX11_cut 45 (.invokevirtual 153) 3 48 := ⟨by decide +kernel, rfl⟩
theorem dX11_cut_48 : zd cX11_cut 48 (.ifCond .eq 8) 3 51 := ⟨by decide +kernel, rfl⟩
theorem dX11_cut_51 : zd cX11_cut 51 (.bipush (-4)) 2 53 := ⟨by decide +kernel, rfl⟩
theorem dX11_cut_53 : zd cX11_cut 53 (.goto 16) 3 56 := ⟨by decide +kernel, rfl⟩
theorem dX11_cut_56 : zd cX11_cut 56 (.aload_n 0) 1 57 := ⟨by decide +kernel, rfl⟩
theorem dX11_cut_57 : zd cX11_cut 57 (.getfield 52) 3 60 := ⟨by decide +kernel, rfl⟩
theorem dX11_cut_60 : zd cX11_cut 60 (.iload_n 1) 1 61 := ⟨by decide +kernel, rfl⟩
theorem dX11_cut_61 : zd cX11_cut 61 (.aaload) 1 62 := ⟨by decide +kernel, rfl⟩
theorem dX11_cut_62 : zd cX11_cut 62 (.getfield 218) 3 65 := ⟨by decide +kernel, rfl⟩
theorem dX11_cut_65 : zd cX11_cut 65 (.iload_n 2) 1 66 := ⟨by decide +kernel, rfl⟩
theorem dX11_cut_66 : zd cX11_cut 66 (.invokevirtual 157) 3 69 := ⟨by decide +kernel, rfl⟩
theorem dX11_cut_69 : zd cX11_cut 69 (.ireturn) 1 70 := ⟨by decide +kernel, rfl⟩
theorem dX11_wipe_0 : zd cX11_wipe 0 (.iload_n 1) 1 1 := ⟨by decide +kernel, rfl⟩
theorem dX11_wipe_1 : zd cX11_wipe 1 (.invokestatic 214) 3 4 := ⟨by decide +kernel, rfl⟩
theorem dX11_wipe_4 : zd cX11_wipe 4 (.ifCond .eq 18) 3 7 := ⟨by decide +kernel, rfl⟩
theorem dX11_wipe_7 : zd cX11_wipe 7 (.aload_n 0) 1 8 := ⟨by decide +kernel, rfl⟩
theorem dX11_wipe_8 : zd cX11_wipe 8 (.getfield 52) 3 11 := ⟨by decide +kernel, rfl⟩
theorem dX11_wipe_11 : zd cX11_wipe 11 (.iload_n 1) 1 12 := ⟨by decide +kernel, rfl⟩
theorem dX11_wipe_12 : zd cX11_wipe 12 (.aaload) 1 13 := ⟨by decide +kernel, rfl⟩
theorem dX11_wipe_13 : zd cX11_wipe 13 (.getfield 218) 3 16 := ⟨by decide +kernel, rfl⟩
theorem dX11_wipe_16 : zd cX11_wipe 16 (.invokevirtual 160) 3 19 := ⟨by decide +kernel, rfl⟩
theorem dX11_wipe_19 : zd cX11_wipe 19 (.goto 5) 3 22 := ⟨by decide +kernel, rfl⟩
theorem dX11_wipe_22 : zd cX11_wipe 22 (.bipush (-2)) 2 24 := ⟨by decide +kernel, rfl⟩
theorem dX11_wipe_24 : zd cX11_wipe 24 (.ireturn) 1 25 := ⟨by decide +kernel, rfl⟩
theorem dX11_chosen_0 : zd cX11_chosen 0 (.iload_n 1) 1 1 := ⟨by decide +kernel, rfl⟩
theorem dX11_chosen_1 : zd cX11_chosen 1 (.invokestatic 214) 3 4 := ⟨by decide +kernel, rfl⟩
theorem dX11_chosen_4 : zd cX11_chosen 4 (.ifCond .eq 19) 3 7 := ⟨by decide +kernel, rfl⟩
theorem dX11_chosen_7 : zd cX11_chosen 7 (.iload_n 2) 1 8 := ⟨by decide +kernel, rfl⟩
theorem dX11_chosen_8 : zd cX11_chosen 8 (.iconst 1) 1 9 := ⟨by decide +kernel, rfl⟩
theorem dX11_chosen_9 : zd cX11_chosen 9 (.if_icmp .lt 14) 3 12 := ⟨by decide +kernel, rfl⟩
theorem dX11_chosen_12 : zd cX11_chosen 12 (.iload_n 2) 1 13 := ⟨by decide +kernel, rfl⟩
theorem dX11_chosen_13 : zd cX11_chosen 13 (.ldc 224) 2 15 := ⟨by decide +kernel, rfl⟩
theorem dX11_chosen_15 : zd cX11_chosen 15 (.if_icmp .gt 8) 3 18 := ⟨by decide +kernel, rfl⟩
theorem dX11_chosen_18 : zd cX11_chosen 18 (.iload_n 3) 1 19 := ⟨by decide +kernel, rfl⟩
theorem dX11_chosen_19 : zd cX11_chosen 19 (.iconst (-1)) 1 20 := ⟨by decide +kernel, rfl⟩
theorem dX11_chosen_20 : zd cX11_chosen 20 (.if_icmp .ge 6) 3 23 := ⟨by decide +kernel, rfl⟩
theorem dX11_chosen_23 : zd cX11_chosen 23 (.bipush (-2)) 2 25 := ⟨by decide +kernel, rfl⟩
theorem dX11_chosen_25 : zd cX11_chosen 25 (.ireturn) 1 26 := ⟨by decide +kernel, rfl⟩
theorem dX11_chosen_26 : zd cX11_chosen 26 (.aload_n 0) 1 27 := ⟨by decide +kernel, rfl⟩
theorem dX11_chosen_27 : zd cX11_chosen 27 (.getfield 52) 3 30 := ⟨by decide +kernel, rfl⟩
theorem dX11_chosen_30 : zd cX11_chosen 30 (.iload_n 1) 1 31 := ⟨by decide +kernel, rfl⟩
theorem dX11_chosen_31 : zd cX11_chosen 31 (.aaload) 1 32 := ⟨by decide +kernel, rfl⟩
theorem dX11_chosen_32 : zd cX11_chosen 32 (.iload_n 2) 1 33 := ⟨by decide +kernel, rfl⟩
theorem dX11_chosen_33 : zd cX11_chosen 33 (.iload_n 3) 1 34 := ⟨by decide +kernel, rfl⟩
theorem dX11_chosen_34 : zd cX11_chosen 34 (.invokevirtual 225) 3 37 := ⟨by decide +kernel, rfl⟩
theorem dX11_chosen_37 : zd cX11_chosen 37 (.ireturn) 1 38 := ⟨by decide +kernel, rfl⟩
theorem dX11_match_0 : zd cX11_match 0 (.iload_n 1) 1 1 := ⟨by decide +kernel, rfl⟩
theorem dX11_match_1 : zd cX11_match 1 (.ifCond .lt 8) 3 4 := ⟨by decide +kernel, rfl⟩
theorem dX11_match_4 : zd cX11_match 4 (.iload_n 1) 1 5 := ⟨by decide +kernel, rfl⟩
theorem dX11_match_5 : zd cX11_match 5 (.iconst 1) 1 6 := ⟨by decide +kernel, rfl⟩
theorem dX11_match_6 : zd cX11_match 6 (.if_icmp .le 6) 3 9 := ⟨by decide +kernel, rfl⟩
theorem dX11_match_9 : zd cX11_match 9 (.ldc 93) 2 11 := ⟨by decide +kernel, rfl⟩
theorem dX11_match_11 : zd cX11_match 11 (.ireturn) 1 12 := ⟨by decide +kernel, rfl⟩
theorem dX11_match_12 : zd cX11_match 12 (.aload_n 0) 1 13 := ⟨by decide +kernel, rfl⟩
theorem dX11_match_13 : zd cX11_match 13 (.getfield 52) 3 16 := ⟨by decide +kernel, rfl⟩
theorem dX11_match_16 : zd cX11_match 16 (.iconst 0) 1 17 := ⟨by decide +kernel, rfl⟩
theorem dX11_match_17 : zd cX11_match 17 (.aaload) 1 18 := ⟨by decide +kernel, rfl⟩
theorem dX11_match_18 : zd cX11_match 18 (.getfield 218) 3 21 := ⟨by decide +kernel, rfl⟩
theorem dX11_match_21 : zd cX11_match 21 (.getfield 117) 3 24 := ⟨by decide +kernel, rfl⟩
theorem dX11_match_24 : zd cX11_match 24 (.ifCond .eq 18) 3 27 := ⟨by decide +kernel, rfl⟩
theorem dX11_match_27 : zd cX11_match 27 (.aload_n 0) 1 28 := ⟨by decide +kernel, rfl⟩
theorem dX11_match_28 : zd cX11_match 28 (.getfield 52) 3 31 := ⟨by decide +kernel, rfl⟩
theorem dX11_match_31 : zd cX11_match 31 (.iconst 1) 1 32 := ⟨by decide +kernel, rfl⟩
theorem dX11_match_32 : zd cX11_match 32 (.aaload) 1 33 := ⟨by decide +kernel, rfl⟩
theorem dX11_match_33 : zd cX11_match 33 (.getfield 218) 3 36 := ⟨by decide +kernel, rfl⟩
theorem dX11_match_36 : zd cX11_match 36 (.getfield 117) 3 39 := ⟨by decide +kernel, rfl⟩
theorem dX11_match_39 : zd cX11_match 39 (.ifCond .ne 6) 3 42 := ⟨by decide +kernel, rfl⟩
theorem dX11_match_42 : zd cX11_match 42 (.ldc 93) 2 44 := ⟨by decide +kernel, rfl⟩
theorem dX11_match_44 : zd cX11_match 44 (.ireturn) 1 45 := ⟨by decide +kernel, rfl⟩
theorem dX11_match_45 : zd cX11_match 45 (.aload_n 0) 1 46 := ⟨by decide +kernel, rfl⟩
theorem dX11_match_46 : zd cX11_match 46 (.getfield 59) 3 49 := ⟨by decide +kernel, rfl⟩
theorem dX11_match_49 : zd cX11_match 49 (.aload_n 0) 1 50 := ⟨by decide +kernel, rfl⟩
theorem dX11_match_50 : zd cX11_match 50 (.getfield 52) 3 53 := ⟨by decide +kernel, rfl⟩
theorem dX11_match_53 : zd cX11_match 53 (.iconst 0) 1 54 := ⟨by decide +kernel, rfl⟩
theorem dX11_match_54 : zd cX11_match 54 (.aaload) 1 55 := ⟨by decide +kernel, rfl⟩
theorem dX11_match_55 : zd cX11_match 55 (.getfield 218) 3 58 := ⟨by decide +kernel, rfl⟩
theorem dX11_match_58 : zd cX11_match 58 (.aload_n 0) 1 59 := ⟨by decide +kernel, rfl⟩
theorem dX11_match_59 : zd cX11_match 59 (.getfield 52) 3 62 := ⟨by decide +kernel, rfl⟩
theorem dX11_match_62 : zd cX11_match 62 (.iconst 1) 1 63 := ⟨by decide +kernel, rfl⟩
theorem dX11_match_63 : zd cX11_match 63 (.aaload) 1 64 := ⟨by decide +kernel, rfl⟩
theorem dX11_match_64 : zd cX11_match 64 (.getfield 218) 3 67 := ⟨by decide +kernel, rfl⟩
theorem dX11_match_67 : zd cX11_match 67 (.invokevirtual 229) 3 70 := ⟨by decide +kernel, rfl⟩
theorem dX11_match_70 : zd cX11_match 70 (.iload_n 1) 1 71 := ⟨by decide +kernel, rfl⟩
theorem dX11_match_71 : zd cX11_match 71 (.ifCond .ne 13) 3 74 := ⟨by decide +kernel, rfl⟩
theorem dX11_match_74 : zd cX11_match 74 (.aload_n 0) 1 75 := ⟨by decide +kernel, rfl⟩
theorem dX11_match_75 : zd cX11_match 75 (.getfield 59) 3 78 := ⟨by decide +kernel, rfl⟩
theorem dX11_match_78 : zd cX11_match 78 (.getfield 233) 3 81 := ⟨by decide +kernel, rfl⟩
theorem dX11_match_81 : zd cX11_match 81 (.goto 10) 3 84 := ⟨by decide +kernel, rfl⟩
theorem dX11_match_84 : zd cX11_match 84 (.aload_n 0) 1 85 := ⟨by decide +kernel, rfl⟩
theorem dX11_match_85 : zd cX11_match 85 (.getfield 59) 3 88 := ⟨by decide +kernel, rfl⟩
theorem dX11_match_88 : zd cX11_match 88 (.getfield 236) 3 91 := ⟨by decide +kernel, rfl⟩
theorem dX11_match_91 : zd cX11_match 91 (.ireturn) 1 92 := ⟨by decide +kernel, rfl⟩
theorem dX11_law_0 : zd cX11_law 0 (.iload_n 1) 1 1 := ⟨by decide +kernel, rfl⟩
theorem dX11_law_1 : zd cX11_law 1 (.invokestatic 237) 3 4 := ⟨by decide +kernel, rfl⟩
theorem dX11_law_4 : zd cX11_law 4 (.ifCond .eq 14) 3 7 := ⟨by decide +kernel, rfl⟩
theorem dX11_law_7 : zd cX11_law 7 (.iload_n 2) 1 8 := ⟨by decide +kernel, rfl⟩
theorem dX11_law_8 : zd cX11_law 8 (.iconst 1) 1 9 := ⟨by decide +kernel, rfl⟩
theorem dX11_law_9 : zd cX11_law 9 (.if_icmp .lt 9) 3 12 := ⟨by decide +kernel, rfl⟩
theorem dX11_law_12 : zd cX11_law 12 (.iload_n 2) 1 13 := ⟨by decide +kernel, rfl⟩
theorem dX11_law_13 : zd cX11_law 13 (.bipush 60) 2 15 := ⟨by decide +kernel, rfl⟩
theorem dX11_law_15 : zd cX11_law 15 (.if_icmp .le 6) 3 18 := ⟨by decide +kernel, rfl⟩
theorem dX11_law_18 : zd cX11_law 18 (.bipush (-2)) 2 20 := ⟨by decide +kernel, rfl⟩
theorem dX11_law_20 : zd cX11_law 20 (.ireturn) 1 21 := ⟨by decide +kernel, rfl⟩
theorem dX11_law_21 : zd cX11_law 21 (.iload_n 1) 1 22 := ⟨by decide +kernel, rfl⟩
theorem dX11_law_22 : zd cX11_law 22 (.iload_n 2) 1 23 := ⟨by decide +kernel, rfl⟩
theorem dX11_law_23 : zd cX11_law 23 (.aload_n 0) 1 24 := ⟨by decide +kernel, rfl⟩
theorem dX11_law_24 : zd cX11_law 24 (.getfield 74) 3 27 := ⟨by decide +kernel, rfl⟩
theorem dX11_law_27 : zd cX11_law 27 (.invokestatic 240) 3 30 := ⟨by decide +kernel, rfl⟩
theorem dX11_law_30 : zd cX11_law 30 (.ireturn) 1 31 := ⟨by decide +kernel, rfl⟩
theorem dX11_doubled_0 : zd cX11_doubled 0 (.iload_n 1) 1 1 := ⟨by decide +kernel, rfl⟩
theorem dX11_doubled_1 : zd cX11_doubled 1 (.invokestatic 237) 3 4 := ⟨by decide +kernel, rfl⟩
theorem dX11_doubled_4 : zd cX11_doubled 4 (.ifCond .eq 18) 3 7 := ⟨by decide +kernel, rfl⟩
theorem dX11_doubled_7 : zd cX11_doubled 7 (.aload_n 0) 1 8 := ⟨by decide +kernel, rfl⟩
theorem dX11_doubled_8 : zd cX11_doubled 8 (.getfield 66) 3 11 := ⟨by decide +kernel, rfl⟩
theorem dX11_doubled_11 : zd cX11_doubled 11 (.iload_n 1) 1 12 := ⟨by decide +kernel, rfl⟩
theorem dX11_doubled_12 : zd cX11_doubled 12 (.aload_n 0) 1 13 := ⟨by decide +kernel, rfl⟩
theorem dX11_doubled_13 : zd cX11_doubled 13 (.getfield 74) 3 16 := ⟨by decide +kernel, rfl⟩
theorem dX11_doubled_16 : zd cX11_doubled 16 (.invokevirtual 243) 3 19 := ⟨by decide +kernel, rfl⟩
theorem dX11_doubled_19 : zd cX11_doubled 19 (.goto 5) 3 22 := ⟨by decide +kernel, rfl⟩
theorem dX11_doubled_22 : zd cX11_doubled 22 (.bipush (-2)) 2 24 := ⟨by decide +kernel, rfl⟩
theorem dX11_doubled_24 : zd cX11_doubled 24 (.ireturn) 1 25 := ⟨by decide +kernel, rfl⟩
theorem dX11_count_0 : zd cX11_count 0 (.iload_n 1) 1 1 := ⟨by decide +kernel, rfl⟩
theorem dX11_count_1 : zd cX11_count 1 (.tableswitch 100 0 6 #[43, 48, 53, 58, 69, 82, 95]) 43 44 := ⟨by decide +kernel, rfl⟩
theorem dX11_count_44 : zd cX11_count 44 (.aload_n 0) 1 45 := ⟨by decide +kernel, rfl⟩
theorem dX11_count_45 : zd cX11_count 45 (.getfield 70) 3 48 := ⟨by decide +kernel, rfl⟩
theorem dX11_count_48 : zd cX11_count 48 (.ireturn) 1 49 := ⟨by decide +kernel, rfl⟩
theorem dX11_count_49 : zd cX11_count 49 (.aload_n 0) 1 50 := ⟨by decide +kernel, rfl⟩
theorem dX11_count_50 : zd cX11_count 50 (.invokevirtual 246) 3 53 := ⟨by decide +kernel, rfl⟩
theorem dX11_count_53 : zd cX11_count 53 (.ireturn) 1 54 := ⟨by decide +kernel, rfl⟩
theorem dX11_count_54 : zd cX11_count 54 (.aload_n 0) 1 55 := ⟨by decide +kernel, rfl⟩
theorem dX11_count_55 : zd cX11_count 55 (.getfield 77) 3 58 := ⟨by decide +kernel, rfl⟩
theorem dX11_count_58 : zd cX11_count 58 (.ireturn) 1 59 := ⟨by decide +kernel, rfl⟩
theorem dX11_count_59 : zd cX11_count 59 (.aload_n 0) 1 60 := ⟨by decide +kernel, rfl⟩
theorem dX11_count_60 : zd cX11_count 60 (.getfield 32) 3 63 := ⟨by decide +kernel, rfl⟩
theorem dX11_count_63 : zd cX11_count 63 (.getfield 150) 3 66 := ⟨by decide +kernel, rfl⟩
theorem dX11_count_66 : zd cX11_count 66 (.getfield 117) 3 69 := ⟨by decide +kernel, rfl⟩
theorem dX11_count_69 : zd cX11_count 69 (.ireturn) 1 70 := ⟨by decide +kernel, rfl⟩
theorem dX11_count_70 : zd cX11_count 70 (.aload_n 0) 1 71 := ⟨by decide +kernel, rfl⟩
theorem dX11_count_71 : zd cX11_count 71 (.getfield 52) 3 74 := ⟨by decide +kernel, rfl⟩
theorem dX11_count_74 : zd cX11_count 74 (.iconst 0) 1 75 := ⟨by decide +kernel, rfl⟩
theorem dX11_count_75 : zd cX11_count 75 (.aaload) 1 76 := ⟨by decide +kernel, rfl⟩
theorem dX11_count_76 : zd cX11_count 76 (.getfield 218) 3 79 := ⟨by decide +kernel, rfl⟩
theorem dX11_count_79 : zd cX11_count 79 (.getfield 117) 3 82 := ⟨by decide +kernel, rfl⟩
theorem dX11_count_82 : zd cX11_count 82 (.ireturn) 1 83 := ⟨by decide +kernel, rfl⟩
theorem dX11_count_83 : zd cX11_count 83 (.aload_n 0) 1 84 := ⟨by decide +kernel, rfl⟩
theorem dX11_count_84 : zd cX11_count 84 (.getfield 52) 3 87 := ⟨by decide +kernel, rfl⟩
theorem dX11_count_87 : zd cX11_count 87 (.iconst 1) 1 88 := ⟨by decide +kernel, rfl⟩
theorem dX11_count_88 : zd cX11_count 88 (.aaload) 1 89 := ⟨by decide +kernel, rfl⟩
theorem dX11_count_89 : zd cX11_count 89 (.getfield 218) 3 92 := ⟨by decide +kernel, rfl⟩
theorem dX11_count_92 : zd cX11_count 92 (.getfield 117) 3 95 := ⟨by decide +kernel, rfl⟩
theorem dX11_count_95 : zd cX11_count 95 (.ireturn) 1 96 := ⟨by decide +kernel, rfl⟩
theorem dX11_count_96 : zd cX11_count 96 (.aload_n 0) 1 97 := ⟨by decide +kernel, rfl⟩
theorem dX11_count_97 : zd cX11_count 97 (.getfield 74) 3 100 := ⟨by decide +kernel, rfl⟩
theorem dX11_count_100 : zd cX11_count 100 (.ireturn) 1 101 := ⟨by decide +kernel, rfl⟩
theorem dX11_count_101 : zd cX11_count 101 (.ldc 93) 2 103 := ⟨by decide +kernel, rfl⟩
theorem dX11_count_103 : zd cX11_count 103 (.ireturn) 1 104 := ⟨by decide +kernel, rfl⟩
theorem dX11_digest_0 : zd cX11_digest 0 (.ldc2_w 249) 3 3 := ⟨by decide +kernel, rfl⟩
theorem dX11_digest_3 : zd cX11_digest 3 (.lstore_n 1) 1 4 := ⟨by decide +kernel, rfl⟩
theorem dX11_digest_4 : zd cX11_digest 4 (.iconst 0) 1 5 := ⟨by decide +kernel, rfl⟩
theorem dX11_digest_5 : zd cX11_digest 5 (.istore_n 3) 1 6 := ⟨by decide +kernel, rfl⟩
theorem dX11_digest_6 : zd cX11_digest 6 (.iload_n 3) 1 7 := ⟨by decide +kernel, rfl⟩
theorem dX11_digest_7 : zd cX11_digest 7 (.bipush 7) 2 9 := ⟨by decide +kernel, rfl⟩
theorem dX11_digest_9 : zd cX11_digest 9 (.if_icmp .ge 22) 3 12 := ⟨by decide +kernel, rfl⟩
theorem dX11_digest_12 : zd cX11_digest 12 (.ldc2_w 251) 3 15 := ⟨by decide +kernel, rfl⟩
theorem dX11_digest_15 : zd cX11_digest 15 (.lload_n 1) 1 16 := ⟨by decide +kernel, rfl⟩
theorem dX11_digest_16 : zd cX11_digest 16 (.lmul) 1 17 := ⟨by decide +kernel, rfl⟩
theorem dX11_digest_17 : zd cX11_digest 17 (.aload_n 0) 1 18 := ⟨by decide +kernel, rfl⟩
theorem dX11_digest_18 : zd cX11_digest 18 (.iload_n 3) 1 19 := ⟨by decide +kernel, rfl⟩
theorem dX11_digest_19 : zd cX11_digest 19 (.invokevirtual 253) 3 22 := ⟨by decide +kernel, rfl⟩
theorem dX11_digest_22 : zd cX11_digest 22 (.i2l) 1 23 := ⟨by decide +kernel, rfl⟩
theorem dX11_digest_23 : zd cX11_digest 23 (.ladd) 1 24 := ⟨by decide +kernel, rfl⟩
theorem dX11_digest_24 : zd cX11_digest 24 (.lstore_n 1) 1 25 := ⟨by decide +kernel, rfl⟩
theorem dX11_digest_25 : zd cX11_digest 25 (.iinc 3 1) 3 28 := ⟨by decide +kernel, rfl⟩
theorem dX11_digest_28 : zd cX11_digest 28 (.goto (-22)) 3 31 := ⟨by decide +kernel, rfl⟩
theorem dX11_digest_31 : zd cX11_digest 31 (.iconst 0) 1 32 := ⟨by decide +kernel, rfl⟩
theorem dX11_digest_32 : zd cX11_digest 32 (.istore_n 3) 1 33 := ⟨by decide +kernel, rfl⟩
theorem dX11_digest_33 : zd cX11_digest 33 (.iload_n 3) 1 34 := ⟨by decide +kernel, rfl⟩
theorem dX11_digest_34 : zd cX11_digest 34 (.aload_n 0) 1 35 := ⟨by decide +kernel, rfl⟩
theorem dX11_digest_35 : zd cX11_digest 35 (.getfield 70) 3 38 := ⟨by decide +kernel, rfl⟩
theorem dX11_digest_38 : zd cX11_digest 38 (.if_icmp .ge 52) 3 41 := ⟨by decide +kernel, rfl⟩
theorem dX11_digest_41 : zd cX11_digest 41 (.aload_n 0) 1 42 := ⟨by decide +kernel, rfl⟩
theorem dX11_digest_42 : zd cX11_digest 42 (.getfield 25) 3 45 := ⟨by decide +kernel, rfl⟩
theorem dX11_digest_45 : zd cX11_digest 45 (.iload_n 3) 1 46 := ⟨by decide +kernel, rfl⟩
theorem dX11_digest_46 : zd cX11_digest 46 (.aaload) 1 47 := ⟨by decide +kernel, rfl⟩
theorem dX11_digest_47 : zd cX11_digest 47 (.lload_n 1) 1 48 := ⟨by decide +kernel, rfl⟩
theorem dX11_digest_48 : zd cX11_digest 48 (.invokevirtual 256) 3 51 := ⟨by decide +kernel, rfl⟩
theorem dX11_digest_51 : zd cX11_digest 51 (.lstore_n 1) 1 52 := ⟨by decide +kernel, rfl⟩
theorem dX11_digest_52 : zd cX11_digest 52 (.ldc2_w 251) 3 55 := ⟨by decide +kernel, rfl⟩
theorem dX11_digest_55 : zd cX11_digest 55 (.lload_n 1) 1 56 := ⟨by decide +kernel, rfl⟩
theorem dX11_digest_56 : zd cX11_digest 56 (.lmul) 1 57 := ⟨by decide +kernel, rfl⟩
theorem dX11_digest_57 : zd cX11_digest 57 (.aload_n 0) 1 58 := ⟨by decide +kernel, rfl⟩
theorem dX11_digest_58 : zd cX11_digest 58 (.iload_n 3) 1 59 := ⟨by decide +kernel, rfl⟩
theorem dX11_digest_59 : zd cX11_digest 59 (.sipush 200) 3 62 := ⟨by decide +kernel, rfl⟩
theorem dX11_digest_62 : zd cX11_digest 62 (.invokevirtual 260) 3 65 := ⟨by decide +kernel, rfl⟩
theorem dX11_digest_65 : zd cX11_digest 65 (.i2l) 1 66 := ⟨by decide +kernel, rfl⟩
theorem dX11_digest_66 : zd cX11_digest 66 (.ladd) 1 67 := ⟨by decide +kernel, rfl⟩
theorem dX11_digest_67 : zd cX11_digest 67 (.lstore_n 1) 1 68 := ⟨by decide +kernel, rfl⟩
theorem dX11_digest_68 : zd cX11_digest 68 (.ldc2_w 251) 3 71 := ⟨by decide +kernel, rfl⟩
theorem dX11_digest_71 : zd cX11_digest 71 (.lload_n 1) 1 72 := ⟨by decide +kernel, rfl⟩
theorem dX11_digest_72 : zd cX11_digest 72 (.lmul) 1 73 := ⟨by decide +kernel, rfl⟩
theorem dX11_digest_73 : zd cX11_digest 73 (.aload_n 0) 1 74 := ⟨by decide +kernel, rfl⟩
theorem dX11_digest_74 : zd cX11_digest 74 (.iload_n 3) 1 75 := ⟨by decide +kernel, rfl⟩
theorem dX11_digest_75 : zd cX11_digest 75 (.sipush 300) 3 78 := ⟨by decide +kernel, rfl⟩
theorem dX11_digest_78 : zd cX11_digest 78 (.invokevirtual 260) 3 81 := ⟨by decide +kernel, rfl⟩
theorem dX11_digest_81 : zd cX11_digest 81 (.i2l) 1 82 := ⟨by decide +kernel, rfl⟩
theorem dX11_digest_82 : zd cX11_digest 82 (.ladd) 1 83 := ⟨by decide +kernel, rfl⟩
theorem dX11_digest_83 : zd cX11_digest 83 (.lstore_n 1) 1 84 := ⟨by decide +kernel, rfl⟩
theorem dX11_digest_84 : zd cX11_digest 84 (.iinc 3 1) 3 87 := ⟨by decide +kernel, rfl⟩
theorem dX11_digest_87 : zd cX11_digest 87 (.goto (-54)) 3 90 := ⟨by decide +kernel, rfl⟩
theorem dX11_digest_90 : zd cX11_digest 90 (.aload_n 0) 1 91 := ⟨by decide +kernel, rfl⟩
theorem dX11_digest_91 : zd cX11_digest 91 (.getfield 32) 3 94 := ⟨by decide +kernel, rfl⟩
theorem dX11_digest_94 : zd cX11_digest 94 (.getfield 150) 3 97 := ⟨by decide +kernel, rfl⟩
theorem dX11_digest_97 : zd cX11_digest 97 (.lload_n 1) 1 98 := ⟨by decide +kernel, rfl⟩
theorem dX11_digest_98 : zd cX11_digest 98 (.invokevirtual 262) 3 101 := ⟨by decide +kernel, rfl⟩
theorem dX11_digest_101 : zd cX11_digest 101 (.lstore_n 1) 1 102 := ⟨by decide +kernel, rfl⟩
theorem dX11_digest_102 : zd cX11_digest 102 (.iconst 0) 1 103 := ⟨by decide +kernel, rfl⟩
theorem dX11_digest_103 : zd cX11_digest 103 (.istore_n 3) 1 104 := ⟨by decide +kernel, rfl⟩
theorem dX11_digest_104 : zd cX11_digest 104 (.iload_n 3) 1 105 := ⟨by decide +kernel, rfl⟩
theorem dX11_digest_105 : zd cX11_digest 105 (.iconst 2) 1 106 := ⟨by decide +kernel, rfl⟩
theorem dX11_digest_106 : zd cX11_digest 106 (.if_icmp .ge 23) 3 109 := ⟨by decide +kernel, rfl⟩
theorem dX11_digest_109 : zd cX11_digest 109 (.aload_n 0) 1 110 := ⟨by decide +kernel, rfl⟩
theorem dX11_digest_110 : zd cX11_digest 110 (.getfield 52) 3 113 := ⟨by decide +kernel, rfl⟩
theorem dX11_digest_113 : zd cX11_digest 113 (.iload_n 3) 1 114 := ⟨by decide +kernel, rfl⟩
theorem dX11_digest_114 : zd cX11_digest 114 (.aaload) 1 115 := ⟨by decide +kernel, rfl⟩
theorem dX11_digest_115 : zd cX11_digest 115 (.getfield 218) 3 118 := ⟨by decide +kernel, rfl⟩
theorem dX11_digest_118 : zd cX11_digest 118 (.lload_n 1) 1 119 := ⟨by decide +kernel, rfl⟩
theorem dX11_digest_119 : zd cX11_digest 119 (.invokevirtual 262) 3 122 := ⟨by decide +kernel, rfl⟩
theorem dX11_digest_122 : zd cX11_digest 122 (.lstore_n 1) 1 123 := ⟨by decide +kernel, rfl⟩
theorem dX11_digest_123 : zd cX11_digest 123 (.iinc 3 1) 3 126 := ⟨by decide +kernel, rfl⟩
theorem dX11_digest_126 : zd cX11_digest 126 (.goto (-22)) 3 129 := ⟨by decide +kernel, rfl⟩
theorem dX11_digest_129 : zd cX11_digest 129 (.lload_n 1) 1 130 := ⟨by decide +kernel, rfl⟩
theorem dX11_digest_130 : zd cX11_digest 130 (.lreturn) 1 131 := ⟨by decide +kernel, rfl⟩
theorem dX11_scaleAt_0 : zd cX11_scaleAt 0 (.iload_n 1) 1 1 := ⟨by decide +kernel, rfl⟩
theorem dX11_scaleAt_1 : zd cX11_scaleAt 1 (.ifCond .lt 20) 3 4 := ⟨by decide +kernel, rfl⟩
theorem dX11_scaleAt_4 : zd cX11_scaleAt 4 (.iload_n 1) 1 5 := ⟨by decide +kernel, rfl⟩
theorem dX11_scaleAt_5 : zd cX11_scaleAt 5 (.aload_n 0) 1 6 := ⟨by decide +kernel, rfl⟩
theorem dX11_scaleAt_6 : zd cX11_scaleAt 6 (.getfield 70) 3 9 := ⟨by decide +kernel, rfl⟩
theorem dX11_scaleAt_9 : zd cX11_scaleAt 9 (.if_icmp .ge 12) 3 12 := ⟨by decide +kernel, rfl⟩
theorem dX11_scaleAt_12 : zd cX11_scaleAt 12 (.aload_n 0) 1 13 := ⟨by decide +kernel, rfl⟩
theorem dX11_scaleAt_13 : zd cX11_scaleAt 13 (.getfield 25) 3 16 := ⟨by decide +kernel, rfl⟩
theorem dX11_scaleAt_16 : zd cX11_scaleAt 16 (.iload_n 1) 1 17 := ⟨by decide +kernel, rfl⟩
theorem dX11_scaleAt_17 : zd cX11_scaleAt 17 (.aaload) 1 18 := ⟨by decide +kernel, rfl⟩
theorem dX11_scaleAt_18 : zd cX11_scaleAt 18 (.goto 4) 3 21 := ⟨by decide +kernel, rfl⟩
theorem dX11_scaleAt_21 : zd cX11_scaleAt 21 (.aconst_null) 1 22 := ⟨by decide +kernel, rfl⟩
theorem dX11_scaleAt_22 : zd cX11_scaleAt 22 (.areturn) 1 23 := ⟨by decide +kernel, rfl⟩
theorem dX11_isNumber_0 : zd cX11_isNumber 0 (.iload_n 0) 1 1 := ⟨by decide +kernel, rfl⟩
theorem dX11_isNumber_1 : zd cX11_isNumber 1 (.bipush 100) 2 3 := ⟨by decide +kernel, rfl⟩
theorem dX11_isNumber_3 : zd cX11_isNumber 3 (.if_icmp .lt 13) 3 6 := ⟨by decide +kernel, rfl⟩
theorem dX11_isNumber_6 : zd cX11_isNumber 6 (.iload_n 0) 1 7 := ⟨by decide +kernel, rfl⟩
theorem dX11_isNumber_7 : zd cX11_isNumber 7 (.ldc 224) 2 9 := ⟨by decide +kernel, rfl⟩
theorem dX11_isNumber_9 : zd cX11_isNumber 9 (.if_icmp .gt 7) 3 12 := ⟨by decide +kernel, rfl⟩
theorem dX11_isNumber_12 : zd cX11_isNumber 12 (.iconst 1) 1 13 := ⟨by decide +kernel, rfl⟩
theorem dX11_isNumber_13 : zd cX11_isNumber 13 (.goto 4) 3 16 := ⟨by decide +kernel, rfl⟩
theorem dX11_isNumber_16 : zd cX11_isNumber 16 (.iconst 0) 1 17 := ⟨by decide +kernel, rfl⟩
theorem dX11_isNumber_17 : zd cX11_isNumber 17 (.ireturn) 1 18 := ⟨by decide +kernel, rfl⟩
theorem dX11_isFactor_0 : zd cX11_isFactor 0 (.iload_n 0) 1 1 := ⟨by decide +kernel, rfl⟩
theorem dX11_isFactor_1 : zd cX11_isFactor 1 (.bipush 100) 2 3 := ⟨by decide +kernel, rfl⟩
theorem dX11_isFactor_3 : zd cX11_isFactor 3 (.if_icmp .lt 14) 3 6 := ⟨by decide +kernel, rfl⟩
theorem dX11_isFactor_6 : zd cX11_isFactor 6 (.iload_n 0) 1 7 := ⟨by decide +kernel, rfl⟩
theorem dX11_isFactor_7 : zd cX11_isFactor 7 (.sipush 999) 3 10 := ⟨by decide +kernel, rfl⟩
theorem dX11_isFactor_10 : zd cX11_isFactor 10 (.if_icmp .gt 7) 3 13 := ⟨by decide +kernel, rfl⟩
theorem dX11_isFactor_13 : zd cX11_isFactor 13 (.iconst 1) 1 14 := ⟨by decide +kernel, rfl⟩
theorem dX11_isFactor_14 : zd cX11_isFactor 14 (.goto 4) 3 17 := ⟨by decide +kernel, rfl⟩
theorem dX11_isFactor_17 : zd cX11_isFactor 17 (.iconst 0) 1 18 := ⟨by decide +kernel, rfl⟩
theorem dX11_isFactor_18 : zd cX11_isFactor 18 (.ireturn) 1 19 := ⟨by decide +kernel, rfl⟩
theorem dX11_isAskedPlace_0 : zd cX11_isAskedPlace 0 (.iload_n 0) 1 1 := ⟨by decide +kernel, rfl⟩
theorem dX11_isAskedPlace_1 : zd cX11_isAskedPlace 1 (.ldc_w 263) 3 4 := ⟨by decide +kernel, rfl⟩
theorem dX11_isAskedPlace_4 : zd cX11_isAskedPlace 4 (.if_icmp .lt 13) 3 7 := ⟨by decide +kernel, rfl⟩
theorem dX11_isAskedPlace_7 : zd cX11_isAskedPlace 7 (.iload_n 0) 1 8 := ⟨by decide +kernel, rfl⟩
theorem dX11_isAskedPlace_8 : zd cX11_isAskedPlace 8 (.ldc 217) 2 10 := ⟨by decide +kernel, rfl⟩
theorem dX11_isAskedPlace_10 : zd cX11_isAskedPlace 10 (.if_icmp .gt 7) 3 13 := ⟨by decide +kernel, rfl⟩
theorem dX11_isAskedPlace_13 : zd cX11_isAskedPlace 13 (.iconst 1) 1 14 := ⟨by decide +kernel, rfl⟩
theorem dX11_isAskedPlace_14 : zd cX11_isAskedPlace 14 (.goto 4) 3 17 := ⟨by decide +kernel, rfl⟩
theorem dX11_isAskedPlace_17 : zd cX11_isAskedPlace 17 (.iconst 0) 1 18 := ⟨by decide +kernel, rfl⟩
theorem dX11_isAskedPlace_18 : zd cX11_isAskedPlace 18 (.ireturn) 1 19 := ⟨by decide +kernel, rfl⟩
theorem dX11_isPower_0 : zd cX11_isPower 0 (.iload_n 0) 1 1 := ⟨by decide +kernel, rfl⟩
theorem dX11_isPower_1 : zd cX11_isPower 1 (.bipush (-8)) 2 3 := ⟨by decide +kernel, rfl⟩
theorem dX11_isPower_3 : zd cX11_isPower 3 (.if_icmp .lt 13) 3 6 := ⟨by decide +kernel, rfl⟩
theorem dX11_isPower_6 : zd cX11_isPower 6 (.iload_n 0) 1 7 := ⟨by decide +kernel, rfl⟩
theorem dX11_isPower_7 : zd cX11_isPower 7 (.bipush 8) 2 9 := ⟨by decide +kernel, rfl⟩
theorem dX11_isPower_9 : zd cX11_isPower 9 (.if_icmp .gt 7) 3 12 := ⟨by decide +kernel, rfl⟩
theorem dX11_isPower_12 : zd cX11_isPower 12 (.iconst 1) 1 13 := ⟨by decide +kernel, rfl⟩
theorem dX11_isPower_13 : zd cX11_isPower 13 (.goto 4) 3 16 := ⟨by decide +kernel, rfl⟩
theorem dX11_isPower_16 : zd cX11_isPower 16 (.iconst 0) 1 17 := ⟨by decide +kernel, rfl⟩
theorem dX11_isPower_17 : zd cX11_isPower 17 (.ireturn) 1 18 := ⟨by decide +kernel, rfl⟩
theorem dX11_isStrip_0 : zd cX11_isStrip 0 (.iload_n 0) 1 1 := ⟨by decide +kernel, rfl⟩
theorem dX11_isStrip_1 : zd cX11_isStrip 1 (.ifCond .lt 12) 3 4 := ⟨by decide +kernel, rfl⟩
theorem dX11_isStrip_4 : zd cX11_isStrip 4 (.iload_n 0) 1 5 := ⟨by decide +kernel, rfl⟩
theorem dX11_isStrip_5 : zd cX11_isStrip 5 (.iconst 2) 1 6 := ⟨by decide +kernel, rfl⟩
theorem dX11_isStrip_6 : zd cX11_isStrip 6 (.if_icmp .ge 7) 3 9 := ⟨by decide +kernel, rfl⟩
theorem dX11_isStrip_9 : zd cX11_isStrip 9 (.iconst 1) 1 10 := ⟨by decide +kernel, rfl⟩
theorem dX11_isStrip_10 : zd cX11_isStrip 10 (.goto 4) 3 13 := ⟨by decide +kernel, rfl⟩
theorem dX11_isStrip_13 : zd cX11_isStrip 13 (.iconst 0) 1 14 := ⟨by decide +kernel, rfl⟩
theorem dX11_isStrip_14 : zd cX11_isStrip 14 (.ireturn) 1 15 := ⟨by decide +kernel, rfl⟩
theorem dX11_scalesOnSlide_0 : zd cX11_scalesOnSlide 0 (.iconst 0) 1 1 := ⟨by decide +kernel, rfl⟩
theorem dX11_scalesOnSlide_1 : zd cX11_scalesOnSlide 1 (.istore_n 1) 1 2 := ⟨by decide +kernel, rfl⟩
theorem dX11_scalesOnSlide_2 : zd cX11_scalesOnSlide 2 (.iconst 0) 1 3 := ⟨by decide +kernel, rfl⟩
theorem dX11_scalesOnSlide_3 : zd cX11_scalesOnSlide 3 (.istore_n 2) 1 4 := ⟨by decide +kernel, rfl⟩
theorem dX11_scalesOnSlide_4 : zd cX11_scalesOnSlide 4 (.iload_n 2) 1 5 := ⟨by decide +kernel, rfl⟩
theorem dX11_scalesOnSlide_5 : zd cX11_scalesOnSlide 5 (.aload_n 0) 1 6 := ⟨by decide +kernel, rfl⟩
theorem dX11_scalesOnSlide_6 : zd cX11_scalesOnSlide 6 (.getfield 70) 3 9 := ⟨by decide +kernel, rfl⟩
theorem dX11_scalesOnSlide_9 : zd cX11_scalesOnSlide 9 (.if_icmp .ge 24) 3 12 := ⟨by decide +kernel, rfl⟩
theorem dX11_scalesOnSlide_12 : zd cX11_scalesOnSlide 12 (.aload_n 0) 1 13 := ⟨by decide +kernel, rfl⟩
theorem dX11_scalesOnSlide_13 : zd cX11_scalesOnSlide 13 (.getfield 25) 3 16 := ⟨by decide +kernel, rfl⟩
theorem dX11_scalesOnSlide_16 : zd cX11_scalesOnSlide 16 (.iload_n 2) 1 17 := ⟨by decide +kernel, rfl⟩
theorem dX11_scalesOnSlide_17 : zd cX11_scalesOnSlide 17 (.aaload) 1 18 := ⟨by decide +kernel, rfl⟩
theorem dX11_scalesOnSlide_18 : zd cX11_scalesOnSlide 18 (.getfield 134) 3 21 := ⟨by decide +kernel, rfl⟩
theorem dX11_scalesOnSlide_21 : zd cX11_scalesOnSlide 21 (.ifCond .eq 6) 3 24 := ⟨by decide +kernel, rfl⟩
theorem dX11_scalesOnSlide_24 : zd cX11_scalesOnSlide 24 (.iinc 1 1) 3 27 := ⟨by decide +kernel, rfl⟩
theorem dX11_scalesOnSlide_27 : zd cX11_scalesOnSlide 27 (.iinc 2 1) 3 30 := ⟨by decide +kernel, rfl⟩
theorem dX11_scalesOnSlide_30 : zd cX11_scalesOnSlide 30 (.goto (-26)) 3 33 := ⟨by decide +kernel, rfl⟩
theorem dX11_scalesOnSlide_33 : zd cX11_scalesOnSlide 33 (.iload_n 1) 1 34 := ⟨by decide +kernel, rfl⟩
theorem dX11_scalesOnSlide_34 : zd cX11_scalesOnSlide 34 (.ireturn) 1 35 := ⟨by decide +kernel, rfl⟩
theorem dX11_aimSettings_0 : zd cX11_aimSettings 0 (.aload_n 0) 1 1 := ⟨by decide +kernel, rfl⟩
theorem dX11_aimSettings_1 : zd cX11_aimSettings 1 (.getfield 46) 3 4 := ⟨by decide +kernel, rfl⟩
theorem dX11_aimSettings_4 : zd cX11_aimSettings 4 (.invokevirtual 264) 3 7 := ⟨by decide +kernel, rfl⟩
theorem dX11_aimSettings_7 : zd cX11_aimSettings 7 (.iconst 0) 1 8 := ⟨by decide +kernel, rfl⟩
theorem dX11_aimSettings_8 : zd cX11_aimSettings 8 (.istore 4) 2 10 := ⟨by decide +kernel, rfl⟩
theorem dX11_aimSettings_10 : zd cX11_aimSettings 10 (.iload 4) 2 12 := ⟨by decide +kernel, rfl⟩
theorem dX11_aimSettings_12 : zd cX11_aimSettings 12 (.aload_n 0) 1 13 := ⟨by decide +kernel, rfl⟩
theorem dX11_aimSettings_13 : zd cX11_aimSettings 13 (.getfield 70) 3 16 := ⟨by decide +kernel, rfl⟩
theorem dX11_aimSettings_16 : zd cX11_aimSettings 16 (.if_icmp .ge 49) 3 19 := ⟨by decide +kernel, rfl⟩
theorem dX11_aimSettings_19 : zd cX11_aimSettings 19 (.aload_n 0) 1 20 := ⟨by decide +kernel, rfl⟩
theorem dX11_aimSettings_20 : zd cX11_aimSettings 20 (.getfield 25) 3 23 := ⟨by decide +kernel, rfl⟩
theorem dX11_aimSettings_23 : zd cX11_aimSettings 23 (.iload 4) 2 25 := ⟨by decide +kernel, rfl⟩
theorem dX11_aimSettings_25 : zd cX11_aimSettings 25 (.aaload) 1 26 := ⟨by decide +kernel, rfl⟩
theorem dX11_aimSettings_26 : zd cX11_aimSettings 26 (.getfield 134) 3 29 := ⟨by decide +kernel, rfl⟩
theorem dX11_aimSettings_29 : zd cX11_aimSettings 29 (.ifCond .eq 30) 3 32 := ⟨by decide +kernel, rfl⟩
theorem dX11_aimSettings_32 : zd cX11_aimSettings 32 (.aload_n 0) 1 33 := ⟨by decide +kernel, rfl⟩
theorem dX11_aimSettings_33 : zd cX11_aimSettings 33 (.getfield 46) 3 36 := ⟨by decide +kernel, rfl⟩
theorem dX11_aimSettings_36 : zd cX11_aimSettings 36 (.aload_n 0) 1 37 := ⟨by decide +kernel, rfl⟩
theorem dX11_aimSettings_37 : zd cX11_aimSettings 37 (.getfield 25) 3 40 := ⟨by decide +kernel, rfl⟩
theorem dX11_aimSettings_40 : zd cX11_aimSettings 40 (.iload 4) 2 42 := ⟨by decide +kernel, rfl⟩
theorem dX11_aimSettings_42 : zd cX11_aimSettings 42 (.aaload) 1 43 := ⟨by decide +kernel, rfl⟩
theorem dX11_aimSettings_43 : zd cX11_aimSettings 43 (.getfield 267) 3 46 := ⟨by decide +kernel, rfl⟩
theorem dX11_aimSettings_46 : zd cX11_aimSettings 46 (.aload_n 0) 1 47 := ⟨by decide +kernel, rfl⟩
theorem dX11_aimSettings_47 : zd cX11_aimSettings 47 (.getfield 25) 3 50 := ⟨by decide +kernel, rfl⟩
theorem dX11_aimSettings_50 : zd cX11_aimSettings 50 (.iload 4) 2 52 := ⟨by decide +kernel, rfl⟩
theorem dX11_aimSettings_52 : zd cX11_aimSettings 52 (.aaload) 1 53 := ⟨by decide +kernel, rfl⟩
theorem dX11_aimSettings_53 : zd cX11_aimSettings 53 (.getfield 270) 3 56 := ⟨by decide +kernel, rfl⟩
theorem dX11_aimSettings_56 : zd cX11_aimSettings 56 (.invokevirtual 273) 3 59 := ⟨by decide +kernel, rfl⟩
theorem dX11_aimSettings_59 : zd cX11_aimSettings 59 (.iinc 4 1) 3 62 := ⟨by decide +kernel, rfl⟩
theorem dX11_aimSettings_62 : zd cX11_aimSettings 62 (.goto (-52)) 3 65 := ⟨by decide +kernel, rfl⟩
theorem dX11_aimSettings_65 : zd cX11_aimSettings 65 (.aload_n 0) 1 66 := ⟨by decide +kernel, rfl⟩
theorem dX11_aimSettings_66 : zd cX11_aimSettings 66 (.getfield 46) 3 69 := ⟨by decide +kernel, rfl⟩
theorem dX11_aimSettings_69 : zd cX11_aimSettings 69 (.iload_n 1) 1 70 := ⟨by decide +kernel, rfl⟩
theorem dX11_aimSettings_70 : zd cX11_aimSettings 70 (.iload_n 2) 1 71 := ⟨by decide +kernel, rfl⟩
theorem dX11_aimSettings_71 : zd cX11_aimSettings 71 (.iload_n 3) 1 72 := ⟨by decide +kernel, rfl⟩
theorem dX11_aimSettings_72 : zd cX11_aimSettings 72 (.invokevirtual 277) 3 75 := ⟨by decide +kernel, rfl⟩
theorem dX11_aimSettings_75 : zd cX11_aimSettings 75 (.return_) 1 76 := ⟨by decide +kernel, rfl⟩
theorem dJ9_floorDiv_f86c9_0 : zd cJ9_floorDiv_f86c9 0 (.lload_n 0) 1 1 := ⟨by decide +kernel, rfl⟩
theorem dJ9_floorDiv_f86c9_1 : zd cJ9_floorDiv_f86c9 1 (.lload_n 2) 1 2 := ⟨by decide +kernel, rfl⟩
theorem dJ9_floorDiv_f86c9_2 : zd cJ9_floorDiv_f86c9 2 (.ldiv) 1 3 := ⟨by decide +kernel, rfl⟩
theorem dJ9_floorDiv_f86c9_3 : zd cJ9_floorDiv_f86c9 3 (.lstore 4) 2 5 := ⟨by decide +kernel, rfl⟩
theorem dJ9_floorDiv_f86c9_5 : zd cJ9_floorDiv_f86c9 5 (.lload_n 0) 1 6 := ⟨by decide +kernel, rfl⟩
theorem dJ9_floorDiv_f86c9_6 : zd cJ9_floorDiv_f86c9 6 (.lload_n 2) 1 7 := ⟨by decide +kernel, rfl⟩
theorem dJ9_floorDiv_f86c9_7 : zd cJ9_floorDiv_f86c9 7 (.lxor) 1 8 := ⟨by decide +kernel, rfl⟩
theorem dJ9_floorDiv_f86c9_8 : zd cJ9_floorDiv_f86c9 8 (.lconst 0) 1 9 := ⟨by decide +kernel, rfl⟩
theorem dJ9_floorDiv_f86c9_9 : zd cJ9_floorDiv_f86c9 9 (.lcmp) 1 10 := ⟨by decide +kernel, rfl⟩
theorem dJ9_floorDiv_f86c9_10 : zd cJ9_floorDiv_f86c9 10 (.ifCond .ge 17) 3 13 := ⟨by decide +kernel, rfl⟩
theorem dJ9_floorDiv_f86c9_13 : zd cJ9_floorDiv_f86c9 13 (.lload 4) 2 15 := ⟨by decide +kernel, rfl⟩
theorem dJ9_floorDiv_f86c9_15 : zd cJ9_floorDiv_f86c9 15 (.lload_n 2) 1 16 := ⟨by decide +kernel, rfl⟩
theorem dJ9_floorDiv_f86c9_16 : zd cJ9_floorDiv_f86c9 16 (.lmul) 1 17 := ⟨by decide +kernel, rfl⟩
theorem dJ9_floorDiv_f86c9_17 : zd cJ9_floorDiv_f86c9 17 (.lload_n 0) 1 18 := ⟨by decide +kernel, rfl⟩
theorem dJ9_floorDiv_f86c9_18 : zd cJ9_floorDiv_f86c9 18 (.lcmp) 1 19 := ⟨by decide +kernel, rfl⟩
theorem dJ9_floorDiv_f86c9_19 : zd cJ9_floorDiv_f86c9 19 (.ifCond .eq 8) 3 22 := ⟨by decide +kernel, rfl⟩
theorem dJ9_floorDiv_f86c9_22 : zd cJ9_floorDiv_f86c9 22 (.lload 4) 2 24 := ⟨by decide +kernel, rfl⟩
theorem dJ9_floorDiv_f86c9_24 : zd cJ9_floorDiv_f86c9 24 (.lconst 1) 1 25 := ⟨by decide +kernel, rfl⟩
theorem dJ9_floorDiv_f86c9_25 : zd cJ9_floorDiv_f86c9 25 (.lsub) 1 26 := ⟨by decide +kernel, rfl⟩
theorem dJ9_floorDiv_f86c9_26 : zd cJ9_floorDiv_f86c9 26 (.lreturn) 1 27 := ⟨by decide +kernel, rfl⟩
theorem dJ9_floorDiv_f86c9_27 : zd cJ9_floorDiv_f86c9 27 (.lload 4) 2 29 := ⟨by decide +kernel, rfl⟩
theorem dJ9_floorDiv_f86c9_29 : zd cJ9_floorDiv_f86c9 29 (.lreturn) 1 30 := ⟨by decide +kernel, rfl⟩
theorem dJ9_abs_0f7a4_0 : zd cJ9_abs_0f7a4 0 (.iload_n 0) 1 1 := ⟨by decide +kernel, rfl⟩
theorem dJ9_abs_0f7a4_1 : zd cJ9_abs_0f7a4 1 (.ifCond .ge 8) 3 4 := ⟨by decide +kernel, rfl⟩
theorem dJ9_abs_0f7a4_4 : zd cJ9_abs_0f7a4 4 (.iload_n 0) 1 5 := ⟨by decide +kernel, rfl⟩
theorem dJ9_abs_0f7a4_5 : zd cJ9_abs_0f7a4 5 (.ineg) 1 6 := ⟨by decide +kernel, rfl⟩
theorem dJ9_abs_0f7a4_6 : zd cJ9_abs_0f7a4 6 (.goto 4) 3 9 := ⟨by decide +kernel, rfl⟩
theorem dJ9_abs_0f7a4_9 : zd cJ9_abs_0f7a4 9 (.iload_n 0) 1 10 := ⟨by decide +kernel, rfl⟩
theorem dJ9_abs_0f7a4_10 : zd cJ9_abs_0f7a4 10 (.ireturn) 1 11 := ⟨by decide +kernel, rfl⟩
theorem dJ9_max_7cf53_0 : zd cJ9_max_7cf53 0 (.iload_n 0) 1 1 := ⟨by decide +kernel, rfl⟩
theorem dJ9_max_7cf53_1 : zd cJ9_max_7cf53 1 (.iload_n 1) 1 2 := ⟨by decide +kernel, rfl⟩
theorem dJ9_max_7cf53_2 : zd cJ9_max_7cf53 2 (.if_icmp .lt 7) 3 5 := ⟨by decide +kernel, rfl⟩
theorem dJ9_max_7cf53_5 : zd cJ9_max_7cf53 5 (.iload_n 0) 1 6 := ⟨by decide +kernel, rfl⟩
theorem dJ9_max_7cf53_6 : zd cJ9_max_7cf53 6 (.goto 4) 3 9 := ⟨by decide +kernel, rfl⟩
theorem dJ9_max_7cf53_9 : zd cJ9_max_7cf53 9 (.iload_n 1) 1 10 := ⟨by decide +kernel, rfl⟩
theorem dJ9_max_7cf53_10 : zd cJ9_max_7cf53 10 (.ireturn) 1 11 := ⟨by decide +kernel, rfl⟩
theorem dJ9_min_7cf53_0 : zd cJ9_min_7cf53 0 (.iload_n 0) 1 1 := ⟨by decide +kernel, rfl⟩
theorem dJ9_min_7cf53_1 : zd cJ9_min_7cf53 1 (.iload_n 1) 1 2 := ⟨by decide +kernel, rfl⟩
theorem dJ9_min_7cf53_2 : zd cJ9_min_7cf53 2 (.if_icmp .gt 7) 3 5 := ⟨by decide +kernel, rfl⟩
theorem dJ9_min_7cf53_5 : zd cJ9_min_7cf53 5 (.iload_n 0) 1 6 := ⟨by decide +kernel, rfl⟩
theorem dJ9_min_7cf53_6 : zd cJ9_min_7cf53 6 (.goto 4) 3 9 := ⟨by decide +kernel, rfl⟩
theorem dJ9_min_7cf53_9 : zd cJ9_min_7cf53 9 (.iload_n 1) 1 10 := ⟨by decide +kernel, rfl⟩
theorem dJ9_min_7cf53_10 : zd cJ9_min_7cf53 10 (.ireturn) 1 11 := ⟨by decide +kernel, rfl⟩
end
section
theorem dX12_init_0 : zd cX12_init 0 (.aload_n 0) 1 1 := ⟨by decide +kernel, rfl⟩
theorem dX12_init_1 : zd cX12_init 1 (.invokespecial 1) 3 4 := ⟨by decide +kernel, rfl⟩
theorem dX12_init_4 : zd cX12_init 4 (.aload_n 0) 1 5 := ⟨by decide +kernel, rfl⟩
theorem dX12_init_5 : zd cX12_init 5 (.sipush 10000) 3 8 := ⟨by decide +kernel, rfl⟩
theorem dX12_init_8 : zd cX12_init 8 (.putfield 7) 3 11 := ⟨by decide +kernel, rfl⟩
theorem dX12_init_11 : zd cX12_init 11 (.aload_n 0) 1 12 := ⟨by decide +kernel, rfl⟩
theorem dX12_init_12 : zd cX12_init 12 (.bipush 8) 2 14 := ⟨by decide +kernel, rfl⟩
theorem dX12_init_14 : zd cX12_init 14 (.newarray .boolean) 2 16 := ⟨by decide +kernel, rfl⟩
theorem dX12_init_16 : zd cX12_init 16 (.putfield 13) 3 19 := ⟨by decide +kernel, rfl⟩
theorem dX12_init_19 : zd cX12_init 19 (.aload_n 0) 1 20 := ⟨by decide +kernel, rfl⟩
theorem dX12_init_20 : zd cX12_init 20 (.bipush 8) 2 22 := ⟨by decide +kernel, rfl⟩
theorem dX12_init_22 : zd cX12_init 22 (.newarray .int) 2 24 := ⟨by decide +kernel, rfl⟩
theorem dX12_init_24 : zd cX12_init 24 (.putfield 17) 3 27 := ⟨by decide +kernel, rfl⟩
theorem dX12_init_27 : zd cX12_init 27 (.aload_n 0) 1 28 := ⟨by decide +kernel, rfl⟩
theorem dX12_init_28 : zd cX12_init 28 (.bipush 8) 2 30 := ⟨by decide +kernel, rfl⟩
theorem dX12_init_30 : zd cX12_init 30 (.newarray .int) 2 32 := ⟨by decide +kernel, rfl⟩
theorem dX12_init_32 : zd cX12_init 32 (.putfield 21) 3 35 := ⟨by decide +kernel, rfl⟩
theorem dX12_init_35 : zd cX12_init 35 (.aload_n 0) 1 36 := ⟨by decide +kernel, rfl⟩
theorem dX12_init_36 : zd cX12_init 36 (.bipush 8) 2 38 := ⟨by decide +kernel, rfl⟩
theorem dX12_init_38 : zd cX12_init 38 (.newarray .boolean) 2 40 := ⟨by decide +kernel, rfl⟩
theorem dX12_init_40 : zd cX12_init 40 (.putfield 24) 3 43 := ⟨by decide +kernel, rfl⟩
theorem dX12_init_43 : zd cX12_init 43 (.aload_n 0) 1 44 := ⟨by decide +kernel, rfl⟩
theorem dX12_init_44 : zd cX12_init 44 (.bipush 8) 2 46 := ⟨by decide +kernel, rfl⟩
theorem dX12_init_46 : zd cX12_init 46 (.newarray .int) 2 48 := ⟨by decide +kernel, rfl⟩
theorem dX12_init_48 : zd cX12_init 48 (.putfield 27) 3 51 := ⟨by decide +kernel, rfl⟩
theorem dX12_init_51 : zd cX12_init 51 (.aload_n 0) 1 52 := ⟨by decide +kernel, rfl⟩
theorem dX12_init_52 : zd cX12_init 52 (.bipush 32) 2 54 := ⟨by decide +kernel, rfl⟩
theorem dX12_init_54 : zd cX12_init 54 (.newarray .int) 2 56 := ⟨by decide +kernel, rfl⟩
theorem dX12_init_56 : zd cX12_init 56 (.putfield 30) 3 59 := ⟨by decide +kernel, rfl⟩
theorem dX12_init_59 : zd cX12_init 59 (.aload_n 0) 1 60 := ⟨by decide +kernel, rfl⟩
theorem dX12_init_60 : zd cX12_init 60 (.bipush 32) 2 62 := ⟨by decide +kernel, rfl⟩
theorem dX12_init_62 : zd cX12_init 62 (.newarray .int) 2 64 := ⟨by decide +kernel, rfl⟩
theorem dX12_init_64 : zd cX12_init 64 (.putfield 33) 3 67 := ⟨by decide +kernel, rfl⟩
theorem dX12_init_67 : zd cX12_init 67 (.aload_n 0) 1 68 := ⟨by decide +kernel, rfl⟩
theorem dX12_init_68 : zd cX12_init 68 (.bipush 32) 2 70 := ⟨by decide +kernel, rfl⟩
theorem dX12_init_70 : zd cX12_init 70 (.newarray .int) 2 72 := ⟨by decide +kernel, rfl⟩
theorem dX12_init_72 : zd cX12_init 72 (.putfield 36) 3 75 := ⟨by decide +kernel, rfl⟩
theorem dX12_init_75 : zd cX12_init 75 (.aload_n 0) 1 76 := ⟨by decide +kernel, rfl⟩
theorem dX12_init_76 : zd cX12_init 76 (.bipush 12) 2 78 := ⟨by decide +kernel, rfl⟩
theorem dX12_init_78 : zd cX12_init 78 (.newarray .int) 2 80 := ⟨by decide +kernel, rfl⟩
theorem dX12_init_80 : zd cX12_init 80 (.putfield 39) 3 83 := ⟨by decide +kernel, rfl⟩
theorem dX12_init_83 : zd cX12_init 83 (.aload_n 0) 1 84 := ⟨by decide +kernel, rfl⟩
theorem dX12_init_84 : zd cX12_init 84 (.iconst 2) 1 85 := ⟨by decide +kernel, rfl⟩
theorem dX12_init_85 : zd cX12_init 85 (.newarray .int) 2 87 := ⟨by decide +kernel, rfl⟩
theorem dX12_init_87 : zd cX12_init 87 (.putfield 42) 3 90 := ⟨by decide +kernel, rfl⟩
theorem dX12_init_90 : zd cX12_init 90 (.aload_n 0) 1 91 := ⟨by decide +kernel, rfl⟩
theorem dX12_init_91 : zd cX12_init 91 (.bipush 120) 2 93 := ⟨by decide +kernel, rfl⟩
theorem dX12_init_93 : zd cX12_init 93 (.newarray .int) 2 95 := ⟨by decide +kernel, rfl⟩
theorem dX12_init_95 : zd cX12_init 95 (.putfield 45) 3 98 := ⟨by decide +kernel, rfl⟩
theorem dX12_init_98 : zd cX12_init 98 (.aload_n 0) 1 99 := ⟨by decide +kernel, rfl⟩
theorem dX12_init_99 : zd cX12_init 99 (.bipush 6) 2 101 := ⟨by decide +kernel, rfl⟩
theorem dX12_init_101 : zd cX12_init 101 (.newarray .long) 2 103 := ⟨by decide +kernel, rfl⟩
theorem dX12_init_103 : zd cX12_init 103 (.putfield 48) 3 106 := ⟨by decide +kernel, rfl⟩
theorem dX12_init_106 : zd cX12_init 106 (.aload_n 0) 1 107 := ⟨by decide +kernel, rfl⟩
theorem dX12_init_107 : zd cX12_init 107 (.bipush 6) 2 109 := ⟨by decide +kernel, rfl⟩
theorem dX12_init_109 : zd cX12_init 109 (.newarray .long) 2 111 := ⟨by decide +kernel, rfl⟩
theorem dX12_init_111 : zd cX12_init 111 (.putfield 52) 3 114 := ⟨by decide +kernel, rfl⟩
theorem dX12_init_114 : zd cX12_init 114 (.aload_n 0) 1 115 := ⟨by decide +kernel, rfl⟩
theorem dX12_init_115 : zd cX12_init 115 (.bipush 6) 2 117 := ⟨by decide +kernel, rfl⟩
theorem dX12_init_117 : zd cX12_init 117 (.newarray .long) 2 119 := ⟨by decide +kernel, rfl⟩
theorem dX12_init_119 : zd cX12_init 119 (.putfield 55) 3 122 := ⟨by decide +kernel, rfl⟩
theorem dX12_init_122 : zd cX12_init 122 (.aload_n 0) 1 123 := ⟨by decide +kernel, rfl⟩
theorem dX12_init_123 : zd cX12_init 123 (.bipush 6) 2 125 := ⟨by decide +kernel, rfl⟩
theorem dX12_init_125 : zd cX12_init 125 (.newarray .long) 2 127 := ⟨by decide +kernel, rfl⟩
theorem dX12_init_127 : zd cX12_init 127 (.putfield 58) 3 130 := ⟨by decide +kernel, rfl⟩
theorem dX12_init_130 : zd cX12_init 130 (.aload_n 0) 1 131 := ⟨by decide +kernel, rfl⟩
theorem dX12_init_131 : zd cX12_init 131 (.bipush 6) 2 133 := ⟨by decide +kernel, rfl⟩
theorem dX12_init_133 : zd cX12_init 133 (.newarray .long) 2 135 := ⟨by decide +kernel, rfl⟩
theorem dX12_init_135 : zd cX12_init 135 (.putfield 61) 3 138 := ⟨by decide +kernel, rfl⟩
theorem dX12_init_138 : zd cX12_init 138 (.aload_n 0) 1 139 := ⟨by decide +kernel, rfl⟩
theorem dX12_init_139 : zd cX12_init 139 (.bipush 6) 2 141 := ⟨by decide +kernel, rfl⟩
theorem dX12_init_141 : zd cX12_init 141 (.newarray .long) 2 143 := ⟨by decide +kernel, rfl⟩
theorem dX12_init_143 : zd cX12_init 143 (.putfield 64) 3 146 := ⟨by decide +kernel, rfl⟩
theorem dX12_init_146 : zd cX12_init 146 (.aload_n 0) 1 147 := ⟨by decide +kernel, rfl⟩
theorem dX12_init_147 : zd cX12_init 147 (.bipush 6) 2 149 := ⟨by decide +kernel, rfl⟩
theorem dX12_init_149 : zd cX12_init 149 (.newarray .long) 2 151 := ⟨by decide +kernel, rfl⟩
theorem dX12_init_151 : zd cX12_init 151 (.putfield 67) 3 154 := ⟨by decide +kernel, rfl⟩
theorem dX12_init_154 : zd cX12_init 154 (.aload_n 0) 1 155 := ⟨by decide +kernel, rfl⟩
theorem dX12_init_155 : zd cX12_init 155 (.bipush 6) 2 157 := ⟨by decide +kernel, rfl⟩
theorem dX12_init_157 : zd cX12_init 157 (.newarray .long) 2 159 := ⟨by decide +kernel, rfl⟩
theorem dX12_init_159 : zd cX12_init 159 (.putfield 70) 3 162 := ⟨by decide +kernel, rfl⟩
theorem dX12_init_162 : zd cX12_init 162 (.aload_n 0) 1 163 := ⟨by decide +kernel, rfl⟩
theorem dX12_init_163 : zd cX12_init 163 (.ldc 73) 2 165 := ⟨by decide +kernel, rfl⟩
theorem dX12_init_165 : zd cX12_init 165 (.newarray .int) 2 167 := ⟨by decide +kernel, rfl⟩
theorem dX12_init_167 : zd cX12_init 167 (.putfield 74) 3 170 := ⟨by decide +kernel, rfl⟩
theorem dX12_init_170 : zd cX12_init 170 (.aload_n 0) 1 171 := ⟨by decide +kernel, rfl⟩
theorem dX12_init_171 : zd cX12_init 171 (.sipush 900) 3 174 := ⟨by decide +kernel, rfl⟩
theorem dX12_init_174 : zd cX12_init 174 (.newarray .int) 2 176 := ⟨by decide +kernel, rfl⟩
theorem dX12_init_176 : zd cX12_init 176 (.putfield 77) 3 179 := ⟨by decide +kernel, rfl⟩
theorem dX12_init_179 : zd cX12_init 179 (.aload_n 0) 1 180 := ⟨by decide +kernel, rfl⟩
theorem dX12_init_180 : zd cX12_init 180 (.bipush 12) 2 182 := ⟨by decide +kernel, rfl⟩
theorem dX12_init_182 : zd cX12_init 182 (.newarray .int) 2 184 := ⟨by decide +kernel, rfl⟩
theorem dX12_init_184 : zd cX12_init 184 (.putfield 80) 3 187 := ⟨by decide +kernel, rfl⟩
theorem dX12_init_187 : zd cX12_init 187 (.aload_n 0) 1 188 := ⟨by decide +kernel, rfl⟩
theorem dX12_init_188 : zd cX12_init 188 (.bipush 65) 2 190 := ⟨by decide +kernel, rfl⟩
theorem dX12_init_190 : zd cX12_init 190 (.newarray .int) 2 192 := ⟨by decide +kernel, rfl⟩
theorem dX12_init_192 : zd cX12_init 192 (.putfield 83) 3 195 := ⟨by decide +kernel, rfl⟩
theorem dX12_init_195 : zd cX12_init 195 (.aload_n 0) 1 196 := ⟨by decide +kernel, rfl⟩
theorem dX12_init_196 : zd cX12_init 196 (.bipush 61) 2 198 := ⟨by decide +kernel, rfl⟩
theorem dX12_init_198 : zd cX12_init 198 (.newarray .int) 2 200 := ⟨by decide +kernel, rfl⟩
theorem dX12_init_200 : zd cX12_init 200 (.putfield 86) 3 203 := ⟨by decide +kernel, rfl⟩
theorem dX12_init_203 : zd cX12_init 203 (.aload_n 0) 1 204 := ⟨by decide +kernel, rfl⟩
theorem dX12_init_204 : zd cX12_init 204 (.ldc2_w 89) 3 207 := ⟨by decide +kernel, rfl⟩
theorem dX12_init_207 : zd cX12_init 207 (.lconst 1) 1 208 := ⟨by decide +kernel, rfl⟩
theorem dX12_init_208 : zd cX12_init 208 (.aload_n 0) 1 209 := ⟨by decide +kernel, rfl⟩
theorem dX12_init_209 : zd cX12_init 209 (.getfield 48) 3 212 := ⟨by decide +kernel, rfl⟩
theorem dX12_init_212 : zd cX12_init 212 (.invokevirtual 91) 3 215 := ⟨by decide +kernel, rfl⟩
theorem dX12_init_215 : zd cX12_init 215 (.aload_n 0) 1 216 := ⟨by decide +kernel, rfl⟩
theorem dX12_init_216 : zd cX12_init 216 (.ldc2_w 95) 3 219 := ⟨by decide +kernel, rfl⟩
theorem dX12_init_219 : zd cX12_init 219 (.ldc2_w 97) 3 222 := ⟨by decide +kernel, rfl⟩
theorem dX12_init_222 : zd cX12_init 222 (.aload_n 0) 1 223 := ⟨by decide +kernel, rfl⟩
theorem dX12_init_223 : zd cX12_init 223 (.getfield 52) 3 226 := ⟨by decide +kernel, rfl⟩
theorem dX12_init_226 : zd cX12_init 226 (.invokevirtual 91) 3 229 := ⟨by decide +kernel, rfl⟩
theorem dX12_init_229 : zd cX12_init 229 (.iconst 0) 1 230 := ⟨by decide +kernel, rfl⟩
theorem dX12_init_230 : zd cX12_init 230 (.istore_n 1) 1 231 := ⟨by decide +kernel, rfl⟩
theorem dX12_init_231 : zd cX12_init 231 (.iload_n 1) 1 232 := ⟨by decide +kernel, rfl⟩
theorem dX12_init_232 : zd cX12_init 232 (.iconst 3) 1 233 := ⟨by decide +kernel, rfl⟩
theorem dX12_init_233 : zd cX12_init 233 (.if_icmp .ge 20) 3 236 := ⟨by decide +kernel, rfl⟩
theorem dX12_init_236 : zd cX12_init 236 (.aload_n 0) 1 237 := ⟨by decide +kernel, rfl⟩
theorem dX12_init_237 : zd cX12_init 237 (.getfield 52) 3 240 := ⟨by decide +kernel, rfl⟩
theorem dX12_init_240 : zd cX12_init 240 (.aload_n 0) 1 241 := ⟨by decide +kernel, rfl⟩
theorem dX12_init_241 : zd cX12_init 241 (.getfield 48) 3 244 := ⟨by decide +kernel, rfl⟩
theorem dX12_init_244 : zd cX12_init 244 (.invokestatic 99) 3 247 := ⟨by decide +kernel, rfl⟩
theorem dX12_init_247 : zd cX12_init 247 (.iinc 1 1) 3 250 := ⟨by decide +kernel, rfl⟩
theorem dX12_init_250 : zd cX12_init 250 (.goto (-19)) 3 253 := ⟨by decide +kernel, rfl⟩
theorem dX12_init_253 : zd cX12_init 253 (.return_) 1 254 := ⟨by decide +kernel, rfl⟩
theorem dX12_in_0 : zd cX12_in 0 (.lload_n 0) 1 1 := ⟨by decide +kernel, rfl⟩
theorem dX12_in_1 : zd cX12_in 1 (.lload_n 2) 1 2 := ⟨by decide +kernel, rfl⟩
theorem dX12_in_2 : zd cX12_in 2 (.lcmp) 1 3 := ⟨by decide +kernel, rfl⟩
theorem dX12_in_3 : zd cX12_in 3 (.ifCond .lt 14) 3 6 := ⟨by decide +kernel, rfl⟩
theorem dX12_in_6 : zd cX12_in 6 (.lload_n 0) 1 7 := ⟨by decide +kernel, rfl⟩
theorem dX12_in_7 : zd cX12_in 7 (.lload 4) 2 9 := ⟨by decide +kernel, rfl⟩
theorem dX12_in_9 : zd cX12_in 9 (.lcmp) 1 10 := ⟨by decide +kernel, rfl⟩
theorem dX12_in_10 : zd cX12_in 10 (.ifCond .gt 7) 3 13 := ⟨by decide +kernel, rfl⟩
theorem dX12_in_13 : zd cX12_in 13 (.iconst 1) 1 14 := ⟨by decide +kernel, rfl⟩
theorem dX12_in_14 : zd cX12_in 14 (.goto 4) 3 17 := ⟨by decide +kernel, rfl⟩
theorem dX12_in_17 : zd cX12_in 17 (.iconst 0) 1 18 := ⟨by decide +kernel, rfl⟩
theorem dX12_in_18 : zd cX12_in 18 (.ireturn) 1 19 := ⟨by decide +kernel, rfl⟩
theorem dX12_sets_0 : zd cX12_sets 0 (.iconst 0) 1 1 := ⟨by decide +kernel, rfl⟩
theorem dX12_sets_1 : zd cX12_sets 1 (.istore_n 3) 1 2 := ⟨by decide +kernel, rfl⟩
theorem dX12_sets_2 : zd cX12_sets 2 (.iload_n 3) 1 3 := ⟨by decide +kernel, rfl⟩
theorem dX12_sets_3 : zd cX12_sets 3 (.bipush 6) 2 5 := ⟨by decide +kernel, rfl⟩
theorem dX12_sets_5 : zd cX12_sets 5 (.if_icmp .ge 13) 3 8 := ⟨by decide +kernel, rfl⟩
theorem dX12_sets_8 : zd cX12_sets 8 (.aload_n 0) 1 9 := ⟨by decide +kernel, rfl⟩
theorem dX12_sets_9 : zd cX12_sets 9 (.iload_n 3) 1 10 := ⟨by decide +kernel, rfl⟩
theorem dX12_sets_10 : zd cX12_sets 10 (.lconst 0) 1 11 := ⟨by decide +kernel, rfl⟩
theorem dX12_sets_11 : zd cX12_sets 11 (.lastore) 1 12 := ⟨by decide +kernel, rfl⟩
theorem dX12_sets_12 : zd cX12_sets 12 (.iinc 3 1) 3 15 := ⟨by decide +kernel, rfl⟩
theorem dX12_sets_15 : zd cX12_sets 15 (.goto (-13)) 3 18 := ⟨by decide +kernel, rfl⟩
theorem dX12_sets_18 : zd cX12_sets 18 (.aload_n 0) 1 19 := ⟨by decide +kernel, rfl⟩
theorem dX12_sets_19 : zd cX12_sets 19 (.iconst 0) 1 20 := ⟨by decide +kernel, rfl⟩
theorem dX12_sets_20 : zd cX12_sets 20 (.lload_n 1) 1 21 := ⟨by decide +kernel, rfl⟩
theorem dX12_sets_21 : zd cX12_sets 21 (.lastore) 1 22 := ⟨by decide +kernel, rfl⟩
theorem dX12_sets_22 : zd cX12_sets 22 (.return_) 1 23 := ⟨by decide +kernel, rfl⟩
theorem dX12_copies_0 : zd cX12_copies 0 (.iconst 0) 1 1 := ⟨by decide +kernel, rfl⟩
theorem dX12_copies_1 : zd cX12_copies 1 (.istore_n 2) 1 2 := ⟨by decide +kernel, rfl⟩
theorem dX12_copies_2 : zd cX12_copies 2 (.iload_n 2) 1 3 := ⟨by decide +kernel, rfl⟩
theorem dX12_copies_3 : zd cX12_copies 3 (.bipush 6) 2 5 := ⟨by decide +kernel, rfl⟩
theorem dX12_copies_5 : zd cX12_copies 5 (.if_icmp .ge 15) 3 8 := ⟨by decide +kernel, rfl⟩
theorem dX12_copies_8 : zd cX12_copies 8 (.aload_n 1) 1 9 := ⟨by decide +kernel, rfl⟩
theorem dX12_copies_9 : zd cX12_copies 9 (.iload_n 2) 1 10 := ⟨by decide +kernel, rfl⟩
theorem dX12_copies_10 : zd cX12_copies 10 (.aload_n 0) 1 11 := ⟨by decide +kernel, rfl⟩
theorem dX12_copies_11 : zd cX12_copies 11 (.iload_n 2) 1 12 := ⟨by decide +kernel, rfl⟩
theorem dX12_copies_12 : zd cX12_copies 12 (.laload) 1 13 := ⟨by decide +kernel, rfl⟩
theorem dX12_copies_13 : zd cX12_copies 13 (.lastore) 1 14 := ⟨by decide +kernel, rfl⟩
theorem dX12_copies_14 : zd cX12_copies 14 (.iinc 2 1) 3 17 := ⟨by decide +kernel, rfl⟩
theorem dX12_copies_17 : zd cX12_copies 17 (.goto (-15)) 3 20 := ⟨by decide +kernel, rfl⟩
theorem dX12_copies_20 : zd cX12_copies 20 (.return_) 1 21 := ⟨by decide +kernel, rfl⟩
theorem dX12_adds_0 : zd cX12_adds 0 (.lconst 0) 1 1 := ⟨by decide +kernel, rfl⟩
theorem dX12_adds_1 : zd cX12_adds 1 (.lstore_n 2) 1 2 := ⟨by decide +kernel, rfl⟩
theorem dX12_adds_2 : zd cX12_adds 2 (.iconst 5) 1 3 := ⟨by decide +kernel, rfl⟩
theorem dX12_adds_3 : zd cX12_adds 3 (.istore 4) 2 5 := ⟨by decide +kernel, rfl⟩
theorem dX12_adds_5 : zd cX12_adds 5 (.iload 4) 2 7 := ⟨by decide +kernel, rfl⟩
theorem dX12_adds_7 : zd cX12_adds 7 (.ifCond .lt 54) 3 10 := ⟨by decide +kernel, rfl⟩
theorem dX12_adds_10 : zd cX12_adds 10 (.aload_n 0) 1 11 := ⟨by decide +kernel, rfl⟩
theorem dX12_adds_11 : zd cX12_adds 11 (.iload 4) 2 13 := ⟨by decide +kernel, rfl⟩
theorem dX12_adds_13 : zd cX12_adds 13 (.laload) 1 14 := ⟨by decide +kernel, rfl⟩
theorem dX12_adds_14 : zd cX12_adds 14 (.aload_n 1) 1 15 := ⟨by decide +kernel, rfl⟩
theorem dX12_adds_15 : zd cX12_adds 15 (.iload 4) 2 17 := ⟨by decide +kernel, rfl⟩
theorem dX12_adds_17 : zd cX12_adds 17 (.laload) 1 18 := ⟨by decide +kernel, rfl⟩
theorem dX12_adds_18 : zd cX12_adds 18 (.ladd) 1 19 := ⟨by decide +kernel, rfl⟩
theorem dX12_adds_19 : zd cX12_adds 19 (.lload_n 2) 1 20 := ⟨by decide +kernel, rfl⟩
theorem dX12_adds_20 : zd cX12_adds 20 (.ladd) 1 21 := ⟨by decide +kernel, rfl⟩
theorem dX12_adds_21 : zd cX12_adds 21 (.lstore 5) 2 23 := ⟨by decide +kernel, rfl⟩
theorem dX12_adds_23 : zd cX12_adds 23 (.lconst 0) 1 24 := ⟨by decide +kernel, rfl⟩
theorem dX12_adds_24 : zd cX12_adds 24 (.lstore_n 2) 1 25 := ⟨by decide +kernel, rfl⟩
theorem dX12_adds_25 : zd cX12_adds 25 (.iload 4) 2 27 := ⟨by decide +kernel, rfl⟩
theorem dX12_adds_27 : zd cX12_adds 27 (.ifCond .le 22) 3 30 := ⟨by decide +kernel, rfl⟩
theorem dX12_adds_30 : zd cX12_adds 30 (.lload 5) 2 32 := ⟨by decide +kernel, rfl⟩
theorem dX12_adds_32 : zd cX12_adds 32 (.ldc2_w 103) 3 35 := ⟨by decide +kernel, rfl⟩
theorem dX12_adds_35 : zd cX12_adds 35 (.lcmp) 1 36 := ⟨by decide +kernel, rfl⟩
theorem dX12_adds_36 : zd cX12_adds 36 (.ifCond .lt 13) 3 39 := ⟨by decide +kernel, rfl⟩
theorem dX12_adds_39 : zd cX12_adds 39 (.lload 5) 2 41 := ⟨by decide +kernel, rfl⟩
theorem dX12_adds_41 : zd cX12_adds 41 (.ldc2_w 103) 3 44 := ⟨by decide +kernel, rfl⟩
theorem dX12_adds_44 : zd cX12_adds 44 (.lsub) 1 45 := ⟨by decide +kernel, rfl⟩
theorem dX12_adds_45 : zd cX12_adds 45 (.lstore 5) 2 47 := ⟨by decide +kernel, rfl⟩
theorem dX12_adds_47 : zd cX12_adds 47 (.lconst 1) 1 48 := ⟨by decide +kernel, rfl⟩
theorem dX12_adds_48 : zd cX12_adds 48 (.lstore_n 2) 1 49 := ⟨by decide +kernel, rfl⟩
theorem dX12_adds_49 : zd cX12_adds 49 (.aload_n 0) 1 50 := ⟨by decide +kernel, rfl⟩
theorem dX12_adds_50 : zd cX12_adds 50 (.iload 4) 2 52 := ⟨by decide +kernel, rfl⟩
theorem dX12_adds_52 : zd cX12_adds 52 (.lload 5) 2 54 := ⟨by decide +kernel, rfl⟩
theorem dX12_adds_54 : zd cX12_adds 54 (.lastore) 1 55 := ⟨by decide +kernel, rfl⟩
theorem dX12_adds_55 : zd cX12_adds 55 (.iinc 4 (-1)) 3 58 := ⟨by decide +kernel, rfl⟩
theorem dX12_adds_58 : zd cX12_adds 58 (.goto (-53)) 3 61 := ⟨by decide +kernel, rfl⟩
theorem dX12_adds_61 : zd cX12_adds 61 (.return_) 1 62 := ⟨by decide +kernel, rfl⟩
theorem dX12_takes_0 : zd cX12_takes 0 (.lconst 0) 1 1 := ⟨by decide +kernel, rfl⟩
theorem dX12_takes_1 : zd cX12_takes 1 (.lstore_n 2) 1 2 := ⟨by decide +kernel, rfl⟩
theorem dX12_takes_2 : zd cX12_takes 2 (.iconst 5) 1 3 := ⟨by decide +kernel, rfl⟩
theorem dX12_takes_3 : zd cX12_takes 3 (.istore 4) 2 5 := ⟨by decide +kernel, rfl⟩
theorem dX12_takes_5 : zd cX12_takes 5 (.iload 4) 2 7 := ⟨by decide +kernel, rfl⟩
theorem dX12_takes_7 : zd cX12_takes 7 (.ifCond .lt 52) 3 10 := ⟨by decide +kernel, rfl⟩
theorem dX12_takes_10 : zd cX12_takes 10 (.aload_n 0) 1 11 := ⟨by decide +kernel, rfl⟩
theorem dX12_takes_11 : zd cX12_takes 11 (.iload 4) 2 13 := ⟨by decide +kernel, rfl⟩
theorem dX12_takes_13 : zd cX12_takes 13 (.laload) 1 14 := ⟨by decide +kernel, rfl⟩
theorem dX12_takes_14 : zd cX12_takes 14 (.aload_n 1) 1 15 := ⟨by decide +kernel, rfl⟩
theorem dX12_takes_15 : zd cX12_takes 15 (.iload 4) 2 17 := ⟨by decide +kernel, rfl⟩
theorem dX12_takes_17 : zd cX12_takes 17 (.laload) 1 18 := ⟨by decide +kernel, rfl⟩
theorem dX12_takes_18 : zd cX12_takes 18 (.lsub) 1 19 := ⟨by decide +kernel, rfl⟩
theorem dX12_takes_19 : zd cX12_takes 19 (.lload_n 2) 1 20 := ⟨by decide +kernel, rfl⟩
theorem dX12_takes_20 : zd cX12_takes 20 (.lsub) 1 21 := ⟨by decide +kernel, rfl⟩
theorem dX12_takes_21 : zd cX12_takes 21 (.lstore 5) 2 23 := ⟨by decide +kernel, rfl⟩
theorem dX12_takes_23 : zd cX12_takes 23 (.lconst 0) 1 24 := ⟨by decide +kernel, rfl⟩
theorem dX12_takes_24 : zd cX12_takes 24 (.lstore_n 2) 1 25 := ⟨by decide +kernel, rfl⟩
theorem dX12_takes_25 : zd cX12_takes 25 (.iload 4) 2 27 := ⟨by decide +kernel, rfl⟩
theorem dX12_takes_27 : zd cX12_takes 27 (.ifCond .le 20) 3 30 := ⟨by decide +kernel, rfl⟩
theorem dX12_takes_30 : zd cX12_takes 30 (.lload 5) 2 32 := ⟨by decide +kernel, rfl⟩
theorem dX12_takes_32 : zd cX12_takes 32 (.lconst 0) 1 33 := ⟨by decide +kernel, rfl⟩
theorem dX12_takes_33 : zd cX12_takes 33 (.lcmp) 1 34 := ⟨by decide +kernel, rfl⟩
theorem dX12_takes_34 : zd cX12_takes 34 (.ifCond .ge 13) 3 37 := ⟨by decide +kernel, rfl⟩
theorem dX12_takes_37 : zd cX12_takes 37 (.lload 5) 2 39 := ⟨by decide +kernel, rfl⟩
theorem dX12_takes_39 : zd cX12_takes 39 (.ldc2_w 103) 3 42 := ⟨by decide +kernel, rfl⟩
theorem dX12_takes_42 : zd cX12_takes 42 (.ladd) 1 43 := ⟨by decide +kernel, rfl⟩
theorem dX12_takes_43 : zd cX12_takes 43 (.lstore 5) 2 45 := ⟨by decide +kernel, rfl⟩
theorem dX12_takes_45 : zd cX12_takes 45 (.lconst 1) 1 46 := ⟨by decide +kernel, rfl⟩
theorem dX12_takes_46 : zd cX12_takes 46 (.lstore_n 2) 1 47 := ⟨by decide +kernel, rfl⟩
theorem dX12_takes_47 : zd cX12_takes 47 (.aload_n 0) 1 48 := ⟨by decide +kernel, rfl⟩
theorem dX12_takes_48 : zd cX12_takes 48 (.iload 4) 2 50 := ⟨by decide +kernel, rfl⟩
theorem dX12_takes_50 : zd cX12_takes 50 (.lload 5) 2 52 := ⟨by decide +kernel, rfl⟩
theorem dX12_takes_52 : zd cX12_takes 52 (.lastore) 1 53 := ⟨by decide +kernel, rfl⟩
theorem dX12_takes_53 : zd cX12_takes 53 (.iinc 4 (-1)) 3 56 := ⟨by decide +kernel, rfl⟩
theorem dX12_takes_56 : zd cX12_takes 56 (.goto (-51)) 3 59 := ⟨by decide +kernel, rfl⟩
theorem dX12_takes_59 : zd cX12_takes 59 (.return_) 1 60 := ⟨by decide +kernel, rfl⟩
theorem dX12_times_0 : zd cX12_times 0 (.lconst 0) 1 1 := ⟨by decide +kernel, rfl⟩
theorem dX12_times_1 : zd cX12_times 1 (.lstore_n 3) 1 2 := ⟨by decide +kernel, rfl⟩
theorem dX12_times_2 : zd cX12_times 2 (.iconst 5) 1 3 := ⟨by decide +kernel, rfl⟩
theorem dX12_times_3 : zd cX12_times 3 (.istore 5) 2 5 := ⟨by decide +kernel, rfl⟩
theorem dX12_times_5 : zd cX12_times 5 (.iload 5) 2 7 := ⟨by decide +kernel, rfl⟩
theorem dX12_times_7 : zd cX12_times 7 (.ifCond .le 64) 3 10 := ⟨by decide +kernel, rfl⟩
theorem dX12_times_10 : zd cX12_times 10 (.aload_n 0) 1 11 := ⟨by decide +kernel, rfl⟩
theorem dX12_times_11 : zd cX12_times 11 (.iload 5) 2 13 := ⟨by decide +kernel, rfl⟩
theorem dX12_times_13 : zd cX12_times 13 (.laload) 1 14 := ⟨by decide +kernel, rfl⟩
theorem dX12_times_14 : zd cX12_times 14 (.lload_n 1) 1 15 := ⟨by decide +kernel, rfl⟩
theorem dX12_times_15 : zd cX12_times 15 (.lmul) 1 16 := ⟨by decide +kernel, rfl⟩
theorem dX12_times_16 : zd cX12_times 16 (.lload_n 3) 1 17 := ⟨by decide +kernel, rfl⟩
theorem dX12_times_17 : zd cX12_times 17 (.ladd) 1 18 := ⟨by decide +kernel, rfl⟩
theorem dX12_times_18 : zd cX12_times 18 (.lstore 6) 2 20 := ⟨by decide +kernel, rfl⟩
theorem dX12_times_20 : zd cX12_times 20 (.lload 6) 2 22 := ⟨by decide +kernel, rfl⟩
theorem dX12_times_22 : zd cX12_times 22 (.lconst 0) 1 23 := ⟨by decide +kernel, rfl⟩
theorem dX12_times_23 : zd cX12_times 23 (.lcmp) 1 24 := ⟨by decide +kernel, rfl⟩
theorem dX12_times_24 : zd cX12_times 24 (.ifCond .lt 12) 3 27 := ⟨by decide +kernel, rfl⟩
theorem dX12_times_27 : zd cX12_times 27 (.lload 6) 2 29 := ⟨by decide +kernel, rfl⟩
theorem dX12_times_29 : zd cX12_times 29 (.ldc2_w 103) 3 32 := ⟨by decide +kernel, rfl⟩
theorem dX12_times_32 : zd cX12_times 32 (.ldiv) 1 33 := ⟨by decide +kernel, rfl⟩
theorem dX12_times_33 : zd cX12_times 33 (.goto 14) 3 36 := ⟨by decide +kernel, rfl⟩
theorem dX12_times_36 : zd cX12_times 36 (.ldc2_w 105) 3 39 := ⟨by decide +kernel, rfl⟩
theorem dX12_times_39 : zd cX12_times 39 (.lload 6) 2 41 := ⟨by decide +kernel, rfl⟩
theorem dX12_times_41 : zd cX12_times 41 (.lsub) 1 42 := ⟨by decide +kernel, rfl⟩
theorem dX12_times_42 : zd cX12_times 42 (.ldc2_w 103) 3 45 := ⟨by decide +kernel, rfl⟩
theorem dX12_times_45 : zd cX12_times 45 (.ldiv) 1 46 := ⟨by decide +kernel, rfl⟩
theorem dX12_times_46 : zd cX12_times 46 (.lneg) 1 47 := ⟨by decide +kernel, rfl⟩
theorem dX12_times_47 : zd cX12_times 47 (.lstore 8) 2 49 := ⟨by decide +kernel, rfl⟩
theorem dX12_times_49 : zd cX12_times 49 (.aload_n 0) 1 50 := ⟨by decide +kernel, rfl⟩
theorem dX12_times_50 : zd cX12_times 50 (.iload 5) 2 52 := ⟨by decide +kernel, rfl⟩
theorem dX12_times_52 : zd cX12_times 52 (.lload 6) 2 54 := ⟨by decide +kernel, rfl⟩
theorem dX12_times_54 : zd cX12_times 54 (.lload 8) 2 56 := ⟨by decide +kernel, rfl⟩
theorem dX12_times_56 : zd cX12_times 56 (.ldc2_w 103) 3 59 := ⟨by decide +kernel, rfl⟩
theorem dX12_times_59 : zd cX12_times 59 (.lmul) 1 60 := ⟨by decide +kernel, rfl⟩
theorem dX12_times_60 : zd cX12_times 60 (.lsub) 1 61 := ⟨by decide +kernel, rfl⟩
theorem dX12_times_61 : zd cX12_times 61 (.lastore) 1 62 := ⟨by decide +kernel, rfl⟩
theorem dX12_times_62 : zd cX12_times 62 (.lload 8) 2 64 := ⟨by decide +kernel, rfl⟩
theorem dX12_times_64 : zd cX12_times 64 (.lstore_n 3) 1 65 := ⟨by decide +kernel, rfl⟩
theorem dX12_times_65 : zd cX12_times 65 (.iinc 5 (-1)) 3 68 := ⟨by decide +kernel, rfl⟩
theorem dX12_times_68 : zd cX12_times 68 (.goto (-63)) 3 71 := ⟨by decide +kernel, rfl⟩
theorem dX12_times_71 : zd cX12_times 71 (.aload_n 0) 1 72 := ⟨by decide +kernel, rfl⟩
theorem dX12_times_72 : zd cX12_times 72 (.iconst 0) 1 73 := ⟨by decide +kernel, rfl⟩
theorem dX12_times_73 : zd cX12_times 73 (.aload_n 0) 1 74 := ⟨by decide +kernel, rfl⟩
theorem dX12_times_74 : zd cX12_times 74 (.iconst 0) 1 75 := ⟨by decide +kernel, rfl⟩
theorem dX12_times_75 : zd cX12_times 75 (.laload) 1 76 := ⟨by decide +kernel, rfl⟩
theorem dX12_times_76 : zd cX12_times 76 (.lload_n 1) 1 77 := ⟨by decide +kernel, rfl⟩
theorem dX12_times_77 : zd cX12_times 77 (.lmul) 1 78 := ⟨by decide +kernel, rfl⟩
theorem dX12_times_78 : zd cX12_times 78 (.lload_n 3) 1 79 := ⟨by decide +kernel, rfl⟩
theorem dX12_times_79 : zd cX12_times 79 (.ladd) 1 80 := ⟨by decide +kernel, rfl⟩
theorem dX12_times_80 : zd cX12_times 80 (.lastore) 1 81 := ⟨by decide +kernel, rfl⟩
theorem dX12_times_81 : zd cX12_times 81 (.return_) 1 82 := ⟨by decide +kernel, rfl⟩
theorem dX12_divides_0 : zd cX12_divides 0 (.lconst 0) 1 1 := ⟨by decide +kernel, rfl⟩
theorem dX12_divides_1 : zd cX12_divides 1 (.lstore_n 3) 1 2 := ⟨by decide +kernel, rfl⟩
theorem dX12_divides_2 : zd cX12_divides 2 (.iconst 0) 1 3 := ⟨by decide +kernel, rfl⟩
theorem dX12_divides_3 : zd cX12_divides 3 (.istore 5) 2 5 := ⟨by decide +kernel, rfl⟩
theorem dX12_divides_5 : zd cX12_divides 5 (.iload 5) 2 7 := ⟨by decide +kernel, rfl⟩
theorem dX12_divides_7 : zd cX12_divides 7 (.bipush 6) 2 9 := ⟨by decide +kernel, rfl⟩
theorem dX12_divides_9 : zd cX12_divides 9 (.if_icmp .ge 34) 3 12 := ⟨by decide +kernel, rfl⟩
theorem dX12_divides_12 : zd cX12_divides 12 (.lload_n 3) 1 13 := ⟨by decide +kernel, rfl⟩
theorem dX12_divides_13 : zd cX12_divides 13 (.ldc2_w 103) 3 16 := ⟨by decide +kernel, rfl⟩
theorem dX12_divides_16 : zd cX12_divides 16 (.lmul) 1 17 := ⟨by decide +kernel, rfl⟩
theorem dX12_divides_17 : zd cX12_divides 17 (.aload_n 0) 1 18 := ⟨by decide +kernel, rfl⟩
theorem dX12_divides_18 : zd cX12_divides 18 (.iload 5) 2 20 := ⟨by decide +kernel, rfl⟩
theorem dX12_divides_20 : zd cX12_divides 20 (.laload) 1 21 := ⟨by decide +kernel, rfl⟩
theorem dX12_divides_21 : zd cX12_divides 21 (.ladd) 1 22 := ⟨by decide +kernel, rfl⟩
theorem dX12_divides_22 : zd cX12_divides 22 (.lstore 6) 2 24 := ⟨by decide +kernel, rfl⟩
theorem dX12_divides_24 : zd cX12_divides 24 (.aload_n 0) 1 25 := ⟨by decide +kernel, rfl⟩
theorem dX12_divides_25 : zd cX12_divides 25 (.iload 5) 2 27 := ⟨by decide +kernel, rfl⟩
theorem dX12_divides_27 : zd cX12_divides 27 (.lload 6) 2 29 := ⟨by decide +kernel, rfl⟩
theorem dX12_divides_29 : zd cX12_divides 29 (.lload_n 1) 1 30 := ⟨by decide +kernel, rfl⟩
theorem dX12_divides_30 : zd cX12_divides 30 (.ldiv) 1 31 := ⟨by decide +kernel, rfl⟩
theorem dX12_divides_31 : zd cX12_divides 31 (.lastore) 1 32 := ⟨by decide +kernel, rfl⟩
theorem dX12_divides_32 : zd cX12_divides 32 (.lload 6) 2 34 := ⟨by decide +kernel, rfl⟩
theorem dX12_divides_34 : zd cX12_divides 34 (.lload_n 1) 1 35 := ⟨by decide +kernel, rfl⟩
theorem dX12_divides_35 : zd cX12_divides 35 (.lrem) 1 36 := ⟨by decide +kernel, rfl⟩
theorem dX12_divides_36 : zd cX12_divides 36 (.lstore_n 3) 1 37 := ⟨by decide +kernel, rfl⟩
theorem dX12_divides_37 : zd cX12_divides 37 (.iinc 5 1) 3 40 := ⟨by decide +kernel, rfl⟩
theorem dX12_divides_40 : zd cX12_divides 40 (.goto (-35)) 3 43 := ⟨by decide +kernel, rfl⟩
theorem dX12_divides_43 : zd cX12_divides 43 (.return_) 1 44 := ⟨by decide +kernel, rfl⟩
theorem dX12_isNought_0 : zd cX12_isNought 0 (.iconst 1) 1 1 := ⟨by decide +kernel, rfl⟩
theorem dX12_isNought_1 : zd cX12_isNought 1 (.istore_n 1) 1 2 := ⟨by decide +kernel, rfl⟩
theorem dX12_isNought_2 : zd cX12_isNought 2 (.iconst 0) 1 3 := ⟨by decide +kernel, rfl⟩
theorem dX12_isNought_3 : zd cX12_isNought 3 (.istore_n 2) 1 4 := ⟨by decide +kernel, rfl⟩
theorem dX12_isNought_4 : zd cX12_isNought 4 (.iload_n 2) 1 5 := ⟨by decide +kernel, rfl⟩
theorem dX12_isNought_5 : zd cX12_isNought 5 (.bipush 6) 2 7 := ⟨by decide +kernel, rfl⟩
theorem dX12_isNought_7 : zd cX12_isNought 7 (.if_icmp .ge 27) 3 10 := ⟨by decide +kernel, rfl⟩
theorem dX12_isNought_10 : zd cX12_isNought 10 (.iload_n 1) 1 11 := ⟨by decide +kernel, rfl⟩
theorem dX12_isNought_11 : zd cX12_isNought 11 (.ifCond .eq 15) 3 14 := ⟨by decide +kernel, rfl⟩
theorem dX12_isNought_14 : zd cX12_isNought 14 (.aload_n 0) 1 15 := ⟨by decide +kernel, rfl⟩
theorem dX12_isNought_15 : zd cX12_isNought 15 (.iload_n 2) 1 16 := ⟨by decide +kernel, rfl⟩
theorem dX12_isNought_16 : zd cX12_isNought 16 (.laload) 1 17 := ⟨by decide +kernel, rfl⟩
theorem dX12_isNought_17 : zd cX12_isNought 17 (.lconst 0) 1 18 := ⟨by decide +kernel, rfl⟩
theorem dX12_isNought_18 : zd cX12_isNought 18 (.lcmp) 1 19 := ⟨by decide +kernel, rfl⟩
theorem dX12_isNought_19 : zd cX12_isNought 19 (.ifCond .ne 7) 3 22 := ⟨by decide +kernel, rfl⟩
theorem dX12_isNought_22 : zd cX12_isNought 22 (.iconst 1) 1 23 := ⟨by decide +kernel, rfl⟩
theorem dX12_isNought_23 : zd cX12_isNought 23 (.goto 4) 3 26 := ⟨by decide +kernel, rfl⟩
theorem dX12_isNought_26 : zd cX12_isNought 26 (.iconst 0) 1 27 := ⟨by decide +kernel, rfl⟩
theorem dX12_isNought_27 : zd cX12_isNought 27 (.istore_n 1) 1 28 := ⟨by decide +kernel, rfl⟩
theorem dX12_isNought_28 : zd cX12_isNought 28 (.iinc 2 1) 3 31 := ⟨by decide +kernel, rfl⟩
theorem dX12_isNought_31 : zd cX12_isNought 31 (.goto (-27)) 3 34 := ⟨by decide +kernel, rfl⟩
theorem dX12_isNought_34 : zd cX12_isNought 34 (.iload_n 1) 1 35 := ⟨by decide +kernel, rfl⟩
theorem dX12_isNought_35 : zd cX12_isNought 35 (.ireturn) 1 36 := ⟨by decide +kernel, rfl⟩
theorem dX12_isLess_0 : zd cX12_isLess 0 (.iconst 0) 1 1 := ⟨by decide +kernel, rfl⟩
theorem dX12_isLess_1 : zd cX12_isLess 1 (.istore_n 2) 1 2 := ⟨by decide +kernel, rfl⟩
theorem dX12_isLess_2 : zd cX12_isLess 2 (.iload_n 2) 1 3 := ⟨by decide +kernel, rfl⟩
theorem dX12_isLess_3 : zd cX12_isLess 3 (.bipush 6) 2 5 := ⟨by decide +kernel, rfl⟩
theorem dX12_isLess_5 : zd cX12_isLess 5 (.if_icmp .ge 35) 3 8 := ⟨by decide +kernel, rfl⟩
theorem dX12_isLess_8 : zd cX12_isLess 8 (.aload_n 0) 1 9 := ⟨by decide +kernel, rfl⟩
theorem dX12_isLess_9 : zd cX12_isLess 9 (.iload_n 2) 1 10 := ⟨by decide +kernel, rfl⟩
theorem dX12_isLess_10 : zd cX12_isLess 10 (.laload) 1 11 := ⟨by decide +kernel, rfl⟩
theorem dX12_isLess_11 : zd cX12_isLess 11 (.aload_n 1) 1 12 := ⟨by decide +kernel, rfl⟩
theorem dX12_isLess_12 : zd cX12_isLess 12 (.iload_n 2) 1 13 := ⟨by decide +kernel, rfl⟩
theorem dX12_isLess_13 : zd cX12_isLess 13 (.laload) 1 14 := ⟨by decide +kernel, rfl⟩
theorem dX12_isLess_14 : zd cX12_isLess 14 (.lcmp) 1 15 := ⟨by decide +kernel, rfl⟩
theorem dX12_isLess_15 : zd cX12_isLess 15 (.ifCond .eq 19) 3 18 := ⟨by decide +kernel, rfl⟩
theorem dX12_isLess_18 : zd cX12_isLess 18 (.aload_n 0) 1 19 := ⟨by decide +kernel, rfl⟩
theorem dX12_isLess_19 : zd cX12_isLess 19 (.iload_n 2) 1 20 := ⟨by decide +kernel, rfl⟩
theorem dX12_isLess_20 : zd cX12_isLess 20 (.laload) 1 21 := ⟨by decide +kernel, rfl⟩
theorem dX12_isLess_21 : zd cX12_isLess 21 (.aload_n 1) 1 22 := ⟨by decide +kernel, rfl⟩
theorem dX12_isLess_22 : zd cX12_isLess 22 (.iload_n 2) 1 23 := ⟨by decide +kernel, rfl⟩
theorem dX12_isLess_23 : zd cX12_isLess 23 (.laload) 1 24 := ⟨by decide +kernel, rfl⟩
theorem dX12_isLess_24 : zd cX12_isLess 24 (.lcmp) 1 25 := ⟨by decide +kernel, rfl⟩
theorem dX12_isLess_25 : zd cX12_isLess 25 (.ifCond .ge 7) 3 28 := ⟨by decide +kernel, rfl⟩
theorem dX12_isLess_28 : zd cX12_isLess 28 (.iconst 1) 1 29 := ⟨by decide +kernel, rfl⟩
theorem dX12_isLess_29 : zd cX12_isLess 29 (.goto 4) 3 32 := ⟨by decide +kernel, rfl⟩
theorem dX12_isLess_32 : zd cX12_isLess 32 (.iconst 0) 1 33 := ⟨by decide +kernel, rfl⟩
theorem dX12_isLess_33 : zd cX12_isLess 33 (.ireturn) 1 34 := ⟨by decide +kernel, rfl⟩
theorem dX12_isLess_34 : zd cX12_isLess 34 (.iinc 2 1) 3 37 := ⟨by decide +kernel, rfl⟩
theorem dX12_isLess_37 : zd cX12_isLess 37 (.goto (-35)) 3 40 := ⟨by decide +kernel, rfl⟩
theorem dX12_isLess_40 : zd cX12_isLess 40 (.iconst 0) 1 41 := ⟨by decide +kernel, rfl⟩
theorem dX12_isLess_41 : zd cX12_isLess 41 (.ireturn) 1 42 := ⟨by decide +kernel, rfl⟩
theorem dX12_natural_0 : zd cX12_natural 0 (.lload_n 1) 1 1 := ⟨by decide +kernel, rfl⟩
theorem dX12_natural_1 : zd cX12_natural 1 (.lload_n 3) 1 2 := ⟨by decide +kernel, rfl⟩
theorem dX12_natural_2 : zd cX12_natural 2 (.lsub) 1 3 := ⟨by decide +kernel, rfl⟩
theorem dX12_natural_3 : zd cX12_natural 3 (.lstore 6) 2 5 := ⟨by decide +kernel, rfl⟩
theorem dX12_natural_5 : zd cX12_natural 5 (.lload_n 1) 1 6 := ⟨by decide +kernel, rfl⟩
theorem dX12_natural_6 : zd cX12_natural 6 (.lload_n 3) 1 7 := ⟨by decide +kernel, rfl⟩
theorem dX12_natural_7 : zd cX12_natural 7 (.ladd) 1 8 := ⟨by decide +kernel, rfl⟩
theorem dX12_natural_8 : zd cX12_natural 8 (.lstore 8) 2 10 := ⟨by decide +kernel, rfl⟩
theorem dX12_natural_10 : zd cX12_natural 10 (.aload 5) 2 12 := ⟨by decide +kernel, rfl⟩
theorem dX12_natural_12 : zd cX12_natural 12 (.lconst 0) 1 13 := ⟨by decide +kernel, rfl⟩
theorem dX12_natural_13 : zd cX12_natural 13 (.invokestatic 107) 3 16 := ⟨by decide +kernel, rfl⟩
theorem dX12_natural_16 : zd cX12_natural 16 (.aload_n 0) 1 17 := ⟨by decide +kernel, rfl⟩
theorem dX12_natural_17 : zd cX12_natural 17 (.getfield 55) 3 20 := ⟨by decide +kernel, rfl⟩
theorem dX12_natural_20 : zd cX12_natural 20 (.ldc2_w 89) 3 23 := ⟨by decide +kernel, rfl⟩
theorem dX12_natural_23 : zd cX12_natural 23 (.lload 6) 2 25 := ⟨by decide +kernel, rfl⟩
theorem dX12_natural_25 : zd cX12_natural 25 (.lmul) 1 26 := ⟨by decide +kernel, rfl⟩
theorem dX12_natural_26 : zd cX12_natural 26 (.invokestatic 107) 3 29 := ⟨by decide +kernel, rfl⟩
theorem dX12_natural_29 : zd cX12_natural 29 (.aload_n 0) 1 30 := ⟨by decide +kernel, rfl⟩
theorem dX12_natural_30 : zd cX12_natural 30 (.getfield 55) 3 33 := ⟨by decide +kernel, rfl⟩
theorem dX12_natural_33 : zd cX12_natural 33 (.lload 8) 2 35 := ⟨by decide +kernel, rfl⟩
theorem dX12_natural_35 : zd cX12_natural 35 (.invokestatic 111) 3 38 := ⟨by decide +kernel, rfl⟩
theorem dX12_natural_38 : zd cX12_natural 38 (.lconst 1) 1 39 := ⟨by decide +kernel, rfl⟩
theorem dX12_natural_39 : zd cX12_natural 39 (.lstore 10) 2 41 := ⟨by decide +kernel, rfl⟩
theorem dX12_natural_41 : zd cX12_natural 41 (.aload_n 0) 1 42 := ⟨by decide +kernel, rfl⟩
theorem dX12_natural_42 : zd cX12_natural 42 (.getfield 55) 3 45 := ⟨by decide +kernel, rfl⟩
theorem dX12_natural_45 : zd cX12_natural 45 (.invokestatic 114) 3 48 := ⟨by decide +kernel, rfl⟩
theorem dX12_natural_48 : zd cX12_natural 48 (.ifCond .ne 79) 3 51 := ⟨by decide +kernel, rfl⟩
theorem dX12_natural_51 : zd cX12_natural 51 (.aload_n 0) 1 52 := ⟨by decide +kernel, rfl⟩
theorem dX12_natural_52 : zd cX12_natural 52 (.getfield 55) 3 55 := ⟨by decide +kernel, rfl⟩
theorem dX12_natural_55 : zd cX12_natural 55 (.aload_n 0) 1 56 := ⟨by decide +kernel, rfl⟩
theorem dX12_natural_56 : zd cX12_natural 56 (.getfield 58) 3 59 := ⟨by decide +kernel, rfl⟩
theorem dX12_natural_59 : zd cX12_natural 59 (.invokestatic 118) 3 62 := ⟨by decide +kernel, rfl⟩
theorem dX12_natural_62 : zd cX12_natural 62 (.aload_n 0) 1 63 := ⟨by decide +kernel, rfl⟩
theorem dX12_natural_63 : zd cX12_natural 63 (.getfield 58) 3 66 := ⟨by decide +kernel, rfl⟩
theorem dX12_natural_66 : zd cX12_natural 66 (.lload 10) 2 68 := ⟨by decide +kernel, rfl⟩
theorem dX12_natural_68 : zd cX12_natural 68 (.invokestatic 111) 3 71 := ⟨by decide +kernel, rfl⟩
theorem dX12_natural_71 : zd cX12_natural 71 (.aload 5) 2 73 := ⟨by decide +kernel, rfl⟩
theorem dX12_natural_73 : zd cX12_natural 73 (.aload_n 0) 1 74 := ⟨by decide +kernel, rfl⟩
theorem dX12_natural_74 : zd cX12_natural 74 (.getfield 58) 3 77 := ⟨by decide +kernel, rfl⟩
theorem dX12_natural_77 : zd cX12_natural 77 (.invokestatic 99) 3 80 := ⟨by decide +kernel, rfl⟩
theorem dX12_natural_80 : zd cX12_natural 80 (.aload_n 0) 1 81 := ⟨by decide +kernel, rfl⟩
theorem dX12_natural_81 : zd cX12_natural 81 (.getfield 55) 3 84 := ⟨by decide +kernel, rfl⟩
theorem dX12_natural_84 : zd cX12_natural 84 (.lload 6) 2 86 := ⟨by decide +kernel, rfl⟩
theorem dX12_natural_86 : zd cX12_natural 86 (.invokestatic 121) 3 89 := ⟨by decide +kernel, rfl⟩
theorem dX12_natural_89 : zd cX12_natural 89 (.aload_n 0) 1 90 := ⟨by decide +kernel, rfl⟩
theorem dX12_natural_90 : zd cX12_natural 90 (.getfield 55) 3 93 := ⟨by decide +kernel, rfl⟩
theorem dX12_natural_93 : zd cX12_natural 93 (.lload 8) 2 95 := ⟨by decide +kernel, rfl⟩
theorem dX12_natural_95 : zd cX12_natural 95 (.invokestatic 111) 3 98 := ⟨by decide +kernel, rfl⟩
theorem dX12_natural_98 : zd cX12_natural 98 (.aload_n 0) 1 99 := ⟨by decide +kernel, rfl⟩
theorem dX12_natural_99 : zd cX12_natural 99 (.getfield 55) 3 102 := ⟨by decide +kernel, rfl⟩
theorem dX12_natural_102 : zd cX12_natural 102 (.lload 6) 2 104 := ⟨by decide +kernel, rfl⟩
theorem dX12_natural_104 : zd cX12_natural 104 (.invokestatic 121) 3 107 := ⟨by decide +kernel, rfl⟩
theorem dX12_natural_107 : zd cX12_natural 107 (.aload_n 0) 1 108 := ⟨by decide +kernel, rfl⟩
theorem dX12_natural_108 : zd cX12_natural 108 (.getfield 55) 3 111 := ⟨by decide +kernel, rfl⟩
theorem dX12_natural_111 : zd cX12_natural 111 (.lload 8) 2 113 := ⟨by decide +kernel, rfl⟩
theorem dX12_natural_113 : zd cX12_natural 113 (.invokestatic 111) 3 116 := ⟨by decide +kernel, rfl⟩
theorem dX12_natural_116 : zd cX12_natural 116 (.lload 10) 2 118 := ⟨by decide +kernel, rfl⟩
theorem dX12_natural_118 : zd cX12_natural 118 (.ldc2_w 89) 3 121 := ⟨by decide +kernel, rfl⟩
theorem dX12_natural_121 : zd cX12_natural 121 (.ladd) 1 122 := ⟨by decide +kernel, rfl⟩
theorem dX12_natural_122 : zd cX12_natural 122 (.lstore 10) 2 124 := ⟨by decide +kernel, rfl⟩
theorem dX12_natural_124 : zd cX12_natural 124 (.goto (-83)) 3 127 := ⟨by decide +kernel, rfl⟩
theorem dX12_natural_127 : zd cX12_natural 127 (.return_) 1 128 := ⟨by decide +kernel, rfl⟩
theorem dX12_logOf_0 : zd cX12_logOf 0 (.lconst 1) 1 1 := ⟨by decide +kernel, rfl⟩
theorem dX12_logOf_1 : zd cX12_logOf 1 (.lstore 4) 2 3 := ⟨by decide +kernel, rfl⟩
theorem dX12_logOf_3 : zd cX12_logOf 3 (.iconst 0) 1 4 := ⟨by decide +kernel, rfl⟩
theorem dX12_logOf_4 : zd cX12_logOf 4 (.istore 6) 2 6 := ⟨by decide +kernel, rfl⟩
theorem dX12_logOf_6 : zd cX12_logOf 6 (.ldc2_w 89) 3 9 := ⟨by decide +kernel, rfl⟩
theorem dX12_logOf_9 : zd cX12_logOf 9 (.lload 4) 2 11 := ⟨by decide +kernel, rfl⟩
theorem dX12_logOf_11 : zd cX12_logOf 11 (.lmul) 1 12 := ⟨by decide +kernel, rfl⟩
theorem dX12_logOf_12 : zd cX12_logOf 12 (.lload_n 1) 1 13 := ⟨by decide +kernel, rfl⟩
theorem dX12_logOf_13 : zd cX12_logOf 13 (.lcmp) 1 14 := ⟨by decide +kernel, rfl⟩
theorem dX12_logOf_14 : zd cX12_logOf 14 (.ifCond .gt 17) 3 17 := ⟨by decide +kernel, rfl⟩
theorem dX12_logOf_17 : zd cX12_logOf 17 (.lload 4) 2 19 := ⟨by decide +kernel, rfl⟩
theorem dX12_logOf_19 : zd cX12_logOf 19 (.ldc2_w 89) 3 22 := ⟨by decide +kernel, rfl⟩
theorem dX12_logOf_22 : zd cX12_logOf 22 (.lmul) 1 23 := ⟨by decide +kernel, rfl⟩
theorem dX12_logOf_23 : zd cX12_logOf 23 (.lstore 4) 2 25 := ⟨by decide +kernel, rfl⟩
theorem dX12_logOf_25 : zd cX12_logOf 25 (.iinc 6 1) 3 28 := ⟨by decide +kernel, rfl⟩
theorem dX12_logOf_28 : zd cX12_logOf 28 (.goto (-22)) 3 31 := ⟨by decide +kernel, rfl⟩
theorem dX12_logOf_31 : zd cX12_logOf 31 (.aload_n 0) 1 32 := ⟨by decide +kernel, rfl⟩
theorem dX12_logOf_32 : zd cX12_logOf 32 (.lload_n 1) 1 33 := ⟨by decide +kernel, rfl⟩
theorem dX12_logOf_33 : zd cX12_logOf 33 (.lload 4) 2 35 := ⟨by decide +kernel, rfl⟩
theorem dX12_logOf_35 : zd cX12_logOf 35 (.aload_n 3) 1 36 := ⟨by decide +kernel, rfl⟩
theorem dX12_logOf_36 : zd cX12_logOf 36 (.invokevirtual 91) 3 39 := ⟨by decide +kernel, rfl⟩
theorem dX12_logOf_39 : zd cX12_logOf 39 (.iconst 0) 1 40 := ⟨by decide +kernel, rfl⟩
theorem dX12_logOf_40 : zd cX12_logOf 40 (.istore 7) 2 42 := ⟨by decide +kernel, rfl⟩
theorem dX12_logOf_42 : zd cX12_logOf 42 (.iload 7) 2 44 := ⟨by decide +kernel, rfl⟩
theorem dX12_logOf_44 : zd cX12_logOf 44 (.iload 6) 2 46 := ⟨by decide +kernel, rfl⟩
theorem dX12_logOf_46 : zd cX12_logOf 46 (.if_icmp .ge 17) 3 49 := ⟨by decide +kernel, rfl⟩
theorem dX12_logOf_49 : zd cX12_logOf 49 (.aload_n 3) 1 50 := ⟨by decide +kernel, rfl⟩
theorem dX12_logOf_50 : zd cX12_logOf 50 (.aload_n 0) 1 51 := ⟨by decide +kernel, rfl⟩
theorem dX12_logOf_51 : zd cX12_logOf 51 (.getfield 48) 3 54 := ⟨by decide +kernel, rfl⟩
theorem dX12_logOf_54 : zd cX12_logOf 54 (.invokestatic 99) 3 57 := ⟨by decide +kernel, rfl⟩
theorem dX12_logOf_57 : zd cX12_logOf 57 (.iinc 7 1) 3 60 := ⟨by decide +kernel, rfl⟩
theorem dX12_logOf_60 : zd cX12_logOf 60 (.goto (-18)) 3 63 := ⟨by decide +kernel, rfl⟩
theorem dX12_logOf_63 : zd cX12_logOf 63 (.return_) 1 64 := ⟨by decide +kernel, rfl⟩
theorem dX12_down_0 : zd cX12_down 0 (.lload_n 0) 1 1 := ⟨by decide +kernel, rfl⟩
theorem dX12_down_1 : zd cX12_down 1 (.lconst 0) 1 2 := ⟨by decide +kernel, rfl⟩
theorem dX12_down_2 : zd cX12_down 2 (.lcmp) 1 3 := ⟨by decide +kernel, rfl⟩
theorem dX12_down_3 : zd cX12_down 3 (.ifCond .lt 9) 3 6 := ⟨by decide +kernel, rfl⟩
theorem dX12_down_6 : zd cX12_down 6 (.lload_n 0) 1 7 := ⟨by decide +kernel, rfl⟩
theorem dX12_down_7 : zd cX12_down 7 (.lload_n 2) 1 8 := ⟨by decide +kernel, rfl⟩
theorem dX12_down_8 : zd cX12_down 8 (.ldiv) 1 9 := ⟨by decide +kernel, rfl⟩
theorem dX12_down_9 : zd cX12_down 9 (.goto 11) 3 12 := ⟨by decide +kernel, rfl⟩
theorem dX12_down_12 : zd cX12_down 12 (.lload_n 2) 1 13 := ⟨by decide +kernel, rfl⟩
theorem dX12_down_13 : zd cX12_down 13 (.lconst 1) 1 14 := ⟨by decide +kernel, rfl⟩
theorem dX12_down_14 : zd cX12_down 14 (.lsub) 1 15 := ⟨by decide +kernel, rfl⟩
theorem dX12_down_15 : zd cX12_down 15 (.lload_n 0) 1 16 := ⟨by decide +kernel, rfl⟩
theorem dX12_down_16 : zd cX12_down 16 (.lsub) 1 17 := ⟨by decide +kernel, rfl⟩
theorem dX12_down_17 : zd cX12_down 17 (.lload_n 2) 1 18 := ⟨by decide +kernel, rfl⟩
theorem dX12_down_18 : zd cX12_down 18 (.ldiv) 1 19 := ⟨by decide +kernel, rfl⟩
theorem dX12_down_19 : zd cX12_down 19 (.lneg) 1 20 := ⟨by decide +kernel, rfl⟩
theorem dX12_down_20 : zd cX12_down 20 (.lreturn) 1 21 := ⟨by decide +kernel, rfl⟩
theorem dX12_tens_0 : zd cX12_tens 0 (.lload_n 0) 1 1 := ⟨by decide +kernel, rfl⟩
theorem dX12_tens_1 : zd cX12_tens 1 (.lstore 4) 2 3 := ⟨by decide +kernel, rfl⟩
theorem dX12_tens_3 : zd cX12_tens 3 (.lload_n 2) 1 4 := ⟨by decide +kernel, rfl⟩
theorem dX12_tens_4 : zd cX12_tens 4 (.lstore 6) 2 6 := ⟨by decide +kernel, rfl⟩
theorem dX12_tens_6 : zd cX12_tens 6 (.sipush 1000) 3 9 := ⟨by decide +kernel, rfl⟩
theorem dX12_tens_9 : zd cX12_tens 9 (.istore 8) 2 11 := ⟨by decide +kernel, rfl⟩
theorem dX12_tens_11 : zd cX12_tens 11 (.lload 4) 2 13 := ⟨by decide +kernel, rfl⟩
theorem dX12_tens_13 : zd cX12_tens 13 (.lload 6) 2 15 := ⟨by decide +kernel, rfl⟩
theorem dX12_tens_15 : zd cX12_tens 15 (.lcmp) 1 16 := ⟨by decide +kernel, rfl⟩
theorem dX12_tens_16 : zd cX12_tens 16 (.ifCond .ge 17) 3 19 := ⟨by decide +kernel, rfl⟩
theorem dX12_tens_19 : zd cX12_tens 19 (.lload 4) 2 21 := ⟨by decide +kernel, rfl⟩
theorem dX12_tens_21 : zd cX12_tens 21 (.ldc2_w 124) 3 24 := ⟨by decide +kernel, rfl⟩
theorem dX12_tens_24 : zd cX12_tens 24 (.lmul) 1 25 := ⟨by decide +kernel, rfl⟩
theorem dX12_tens_25 : zd cX12_tens 25 (.lstore 4) 2 27 := ⟨by decide +kernel, rfl⟩
theorem dX12_tens_27 : zd cX12_tens 27 (.iinc 8 (-1)) 3 30 := ⟨by decide +kernel, rfl⟩
theorem dX12_tens_30 : zd cX12_tens 30 (.goto (-19)) 3 33 := ⟨by decide +kernel, rfl⟩
theorem dX12_tens_33 : zd cX12_tens 33 (.lload 4) 2 35 := ⟨by decide +kernel, rfl⟩
theorem dX12_tens_35 : zd cX12_tens 35 (.lload 6) 2 37 := ⟨by decide +kernel, rfl⟩
theorem dX12_tens_37 : zd cX12_tens 37 (.lcmp) 1 38 := ⟨by decide +kernel, rfl⟩
theorem dX12_tens_38 : zd cX12_tens 38 (.ifCond .le 17) 3 41 := ⟨by decide +kernel, rfl⟩
theorem dX12_tens_41 : zd cX12_tens 41 (.lload 6) 2 43 := ⟨by decide +kernel, rfl⟩
theorem dX12_tens_43 : zd cX12_tens 43 (.ldc2_w 124) 3 46 := ⟨by decide +kernel, rfl⟩
theorem dX12_tens_46 : zd cX12_tens 46 (.lmul) 1 47 := ⟨by decide +kernel, rfl⟩
theorem dX12_tens_47 : zd cX12_tens 47 (.lstore 6) 2 49 := ⟨by decide +kernel, rfl⟩
theorem dX12_tens_49 : zd cX12_tens 49 (.iinc 8 1) 3 52 := ⟨by decide +kernel, rfl⟩
theorem dX12_tens_52 : zd cX12_tens 52 (.goto (-19)) 3 55 := ⟨by decide +kernel, rfl⟩
theorem dX12_tens_55 : zd cX12_tens 55 (.lload 4) 2 57 := ⟨by decide +kernel, rfl⟩
theorem dX12_tens_57 : zd cX12_tens 57 (.lload 6) 2 59 := ⟨by decide +kernel, rfl⟩
theorem dX12_tens_59 : zd cX12_tens 59 (.lcmp) 1 60 := ⟨by decide +kernel, rfl⟩
theorem dX12_tens_60 : zd cX12_tens 60 (.ifCond .ne 8) 3 63 := ⟨by decide +kernel, rfl⟩
theorem dX12_tens_63 : zd cX12_tens 63 (.iload 8) 2 65 := ⟨by decide +kernel, rfl⟩
theorem dX12_tens_65 : zd cX12_tens 65 (.goto 4) 3 68 := ⟨by decide +kernel, rfl⟩
theorem dX12_tens_68 : zd cX12_tens 68 (.iconst 0) 1 69 := ⟨by decide +kernel, rfl⟩
theorem dX12_tens_69 : zd cX12_tens 69 (.ireturn) 1 70 := ⟨by decide +kernel, rfl⟩
theorem dX12_nearestOf_0 : zd cX12_nearestOf 0 (.lload_n 1) 1 1 := ⟨by decide +kernel, rfl⟩
theorem dX12_nearestOf_1 : zd cX12_nearestOf 1 (.lload_n 3) 1 2 := ⟨by decide +kernel, rfl⟩
theorem dX12_nearestOf_2 : zd cX12_nearestOf 2 (.invokestatic 126) 3 5 := ⟨by decide +kernel, rfl⟩
theorem dX12_nearestOf_5 : zd cX12_nearestOf 5 (.istore 6) 2 7 := ⟨by decide +kernel, rfl⟩
theorem dX12_nearestOf_7 : zd cX12_nearestOf 7 (.iload 6) 2 9 := ⟨by decide +kernel, rfl⟩
theorem dX12_nearestOf_9 : zd cX12_nearestOf 9 (.ifCond .le 36) 3 12 := ⟨by decide +kernel, rfl⟩
theorem dX12_nearestOf_12 : zd cX12_nearestOf 12 (.ldc2_w 89) 3 15 := ⟨by decide +kernel, rfl⟩
theorem dX12_nearestOf_15 : zd cX12_nearestOf 15 (.aload_n 0) 1 16 := ⟨by decide +kernel, rfl⟩
theorem dX12_nearestOf_16 : zd cX12_nearestOf 16 (.getfield 7) 3 19 := ⟨by decide +kernel, rfl⟩
theorem dX12_nearestOf_19 : zd cX12_nearestOf 19 (.i2l) 1 20 := ⟨by decide +kernel, rfl⟩
theorem dX12_nearestOf_20 : zd cX12_nearestOf 20 (.lmul) 1 21 := ⟨by decide +kernel, rfl⟩
theorem dX12_nearestOf_21 : zd cX12_nearestOf 21 (.iload 6) 2 23 := ⟨by decide +kernel, rfl⟩
theorem dX12_nearestOf_23 : zd cX12_nearestOf 23 (.sipush 1000) 3 26 := ⟨by decide +kernel, rfl⟩
theorem dX12_nearestOf_26 : zd cX12_nearestOf 26 (.isub) 1 27 := ⟨by decide +kernel, rfl⟩
theorem dX12_nearestOf_27 : zd cX12_nearestOf 27 (.i2l) 1 28 := ⟨by decide +kernel, rfl⟩
theorem dX12_nearestOf_28 : zd cX12_nearestOf 28 (.lmul) 1 29 := ⟨by decide +kernel, rfl⟩
theorem dX12_nearestOf_29 : zd cX12_nearestOf 29 (.iload 5) 2 31 := ⟨by decide +kernel, rfl⟩
theorem dX12_nearestOf_31 : zd cX12_nearestOf 31 (.i2l) 1 32 := ⟨by decide +kernel, rfl⟩
theorem dX12_nearestOf_32 : zd cX12_nearestOf 32 (.ladd) 1 33 := ⟨by decide +kernel, rfl⟩
theorem dX12_nearestOf_33 : zd cX12_nearestOf 33 (.ldc2_w 89) 3 36 := ⟨by decide +kernel, rfl⟩
theorem dX12_nearestOf_36 : zd cX12_nearestOf 36 (.iload 5) 2 38 := ⟨by decide +kernel, rfl⟩
theorem dX12_nearestOf_38 : zd cX12_nearestOf 38 (.i2l) 1 39 := ⟨by decide +kernel, rfl⟩
theorem dX12_nearestOf_39 : zd cX12_nearestOf 39 (.lmul) 1 40 := ⟨by decide +kernel, rfl⟩
theorem dX12_nearestOf_40 : zd cX12_nearestOf 40 (.invokestatic 130) 3 43 := ⟨by decide +kernel, rfl⟩
theorem dX12_nearestOf_43 : zd cX12_nearestOf 43 (.l2i) 1 44 := ⟨by decide +kernel, rfl⟩
theorem dX12_nearestOf_44 : zd cX12_nearestOf 44 (.ireturn) 1 45 := ⟨by decide +kernel, rfl⟩
theorem dX12_nearestOf_45 : zd cX12_nearestOf 45 (.aload_n 0) 1 46 := ⟨by decide +kernel, rfl⟩
theorem dX12_nearestOf_46 : zd cX12_nearestOf 46 (.lload_n 1) 1 47 := ⟨by decide +kernel, rfl⟩
theorem dX12_nearestOf_47 : zd cX12_nearestOf 47 (.aload_n 0) 1 48 := ⟨by decide +kernel, rfl⟩
theorem dX12_nearestOf_48 : zd cX12_nearestOf 48 (.getfield 61) 3 51 := ⟨by decide +kernel, rfl⟩
theorem dX12_nearestOf_51 : zd cX12_nearestOf 51 (.invokevirtual 134) 3 54 := ⟨by decide +kernel, rfl⟩
theorem dX12_nearestOf_54 : zd cX12_nearestOf 54 (.aload_n 0) 1 55 := ⟨by decide +kernel, rfl⟩
theorem dX12_nearestOf_55 : zd cX12_nearestOf 55 (.lload_n 3) 1 56 := ⟨by decide +kernel, rfl⟩
theorem dX12_nearestOf_56 : zd cX12_nearestOf 56 (.aload_n 0) 1 57 := ⟨by decide +kernel, rfl⟩
theorem dX12_nearestOf_57 : zd cX12_nearestOf 57 (.getfield 64) 3 60 := ⟨by decide +kernel, rfl⟩
theorem dX12_nearestOf_60 : zd cX12_nearestOf 60 (.invokevirtual 134) 3 63 := ⟨by decide +kernel, rfl⟩
theorem dX12_nearestOf_63 : zd cX12_nearestOf 63 (.ldc2_w 138) 3 66 := ⟨by decide +kernel, rfl⟩
theorem dX12_nearestOf_66 : zd cX12_nearestOf 66 (.lstore 7) 2 68 := ⟨by decide +kernel, rfl⟩
theorem dX12_nearestOf_68 : zd cX12_nearestOf 68 (.ldc2_w 140) 3 71 := ⟨by decide +kernel, rfl⟩
theorem dX12_nearestOf_71 : zd cX12_nearestOf 71 (.lstore 9) 2 73 := ⟨by decide +kernel, rfl⟩
theorem dX12_nearestOf_73 : zd cX12_nearestOf 73 (.lload 7) 2 75 := ⟨by decide +kernel, rfl⟩
theorem dX12_nearestOf_75 : zd cX12_nearestOf 75 (.lload 9) 2 77 := ⟨by decide +kernel, rfl⟩
theorem dX12_nearestOf_77 : zd cX12_nearestOf 77 (.lcmp) 1 78 := ⟨by decide +kernel, rfl⟩
theorem dX12_nearestOf_78 : zd cX12_nearestOf 78 (.ifCond .ge 116) 3 81 := ⟨by decide +kernel, rfl⟩
theorem dX12_nearestOf_81 : zd cX12_nearestOf 81 (.lload 7) 2 83 := ⟨by decide +kernel, rfl⟩
theorem dX12_nearestOf_83 : zd cX12_nearestOf 83 (.lload 9) 2 85 := ⟨by decide +kernel, rfl⟩
theorem dX12_nearestOf_85 : zd cX12_nearestOf 85 (.ladd) 1 86 := ⟨by decide +kernel, rfl⟩
theorem dX12_nearestOf_86 : zd cX12_nearestOf 86 (.lconst 1) 1 87 := ⟨by decide +kernel, rfl⟩
theorem dX12_nearestOf_87 : zd cX12_nearestOf 87 (.ladd) 1 88 := ⟨by decide +kernel, rfl⟩
theorem dX12_nearestOf_88 : zd cX12_nearestOf 88 (.ldc2_w 89) 3 91 := ⟨by decide +kernel, rfl⟩
theorem dX12_nearestOf_91 : zd cX12_nearestOf 91 (.invokestatic 130) 3 94 := ⟨by decide +kernel, rfl⟩
theorem dX12_nearestOf_94 : zd cX12_nearestOf 94 (.lstore 11) 2 96 := ⟨by decide +kernel, rfl⟩
theorem dX12_nearestOf_96 : zd cX12_nearestOf 96 (.aload_n 0) 1 97 := ⟨by decide +kernel, rfl⟩
theorem dX12_nearestOf_97 : zd cX12_nearestOf 97 (.getfield 61) 3 100 := ⟨by decide +kernel, rfl⟩
theorem dX12_nearestOf_100 : zd cX12_nearestOf 100 (.aload_n 0) 1 101 := ⟨by decide +kernel, rfl⟩
theorem dX12_nearestOf_101 : zd cX12_nearestOf 101 (.getfield 67) 3 104 := ⟨by decide +kernel, rfl⟩
theorem dX12_nearestOf_104 : zd cX12_nearestOf 104 (.invokestatic 118) 3 107 := ⟨by decide +kernel, rfl⟩
theorem dX12_nearestOf_107 : zd cX12_nearestOf 107 (.aload_n 0) 1 108 := ⟨by decide +kernel, rfl⟩
theorem dX12_nearestOf_108 : zd cX12_nearestOf 108 (.getfield 67) 3 111 := ⟨by decide +kernel, rfl⟩
theorem dX12_nearestOf_111 : zd cX12_nearestOf 111 (.aload_n 0) 1 112 := ⟨by decide +kernel, rfl⟩
theorem dX12_nearestOf_112 : zd cX12_nearestOf 112 (.getfield 64) 3 115 := ⟨by decide +kernel, rfl⟩
theorem dX12_nearestOf_115 : zd cX12_nearestOf 115 (.invokestatic 142) 3 118 := ⟨by decide +kernel, rfl⟩
theorem dX12_nearestOf_118 : zd cX12_nearestOf 118 (.aload_n 0) 1 119 := ⟨by decide +kernel, rfl⟩
theorem dX12_nearestOf_119 : zd cX12_nearestOf 119 (.getfield 67) 3 122 := ⟨by decide +kernel, rfl⟩
theorem dX12_nearestOf_122 : zd cX12_nearestOf 122 (.ldc2_w 89) 3 125 := ⟨by decide +kernel, rfl⟩
theorem dX12_nearestOf_125 : zd cX12_nearestOf 125 (.aload_n 0) 1 126 := ⟨by decide +kernel, rfl⟩
theorem dX12_nearestOf_126 : zd cX12_nearestOf 126 (.getfield 7) 3 129 := ⟨by decide +kernel, rfl⟩
theorem dX12_nearestOf_129 : zd cX12_nearestOf 129 (.i2l) 1 130 := ⟨by decide +kernel, rfl⟩
theorem dX12_nearestOf_130 : zd cX12_nearestOf 130 (.lmul) 1 131 := ⟨by decide +kernel, rfl⟩
theorem dX12_nearestOf_131 : zd cX12_nearestOf 131 (.invokestatic 121) 3 134 := ⟨by decide +kernel, rfl⟩
theorem dX12_nearestOf_134 : zd cX12_nearestOf 134 (.aload_n 0) 1 135 := ⟨by decide +kernel, rfl⟩
theorem dX12_nearestOf_135 : zd cX12_nearestOf 135 (.getfield 52) 3 138 := ⟨by decide +kernel, rfl⟩
theorem dX12_nearestOf_138 : zd cX12_nearestOf 138 (.aload_n 0) 1 139 := ⟨by decide +kernel, rfl⟩
theorem dX12_nearestOf_139 : zd cX12_nearestOf 139 (.getfield 70) 3 142 := ⟨by decide +kernel, rfl⟩
theorem dX12_nearestOf_142 : zd cX12_nearestOf 142 (.invokestatic 118) 3 145 := ⟨by decide +kernel, rfl⟩
theorem dX12_nearestOf_145 : zd cX12_nearestOf 145 (.aload_n 0) 1 146 := ⟨by decide +kernel, rfl⟩
theorem dX12_nearestOf_146 : zd cX12_nearestOf 146 (.getfield 70) 3 149 := ⟨by decide +kernel, rfl⟩
theorem dX12_nearestOf_149 : zd cX12_nearestOf 149 (.ldc2_w 89) 3 152 := ⟨by decide +kernel, rfl⟩
theorem dX12_nearestOf_152 : zd cX12_nearestOf 152 (.lload 11) 2 154 := ⟨by decide +kernel, rfl⟩
theorem dX12_nearestOf_154 : zd cX12_nearestOf 154 (.lmul) 1 155 := ⟨by decide +kernel, rfl⟩
theorem dX12_nearestOf_155 : zd cX12_nearestOf 155 (.lconst 1) 1 156 := ⟨by decide +kernel, rfl⟩
theorem dX12_nearestOf_156 : zd cX12_nearestOf 156 (.lsub) 1 157 := ⟨by decide +kernel, rfl⟩
theorem dX12_nearestOf_157 : zd cX12_nearestOf 157 (.iload 5) 2 159 := ⟨by decide +kernel, rfl⟩
theorem dX12_nearestOf_159 : zd cX12_nearestOf 159 (.i2l) 1 160 := ⟨by decide +kernel, rfl⟩
theorem dX12_nearestOf_160 : zd cX12_nearestOf 160 (.lmul) 1 161 := ⟨by decide +kernel, rfl⟩
theorem dX12_nearestOf_161 : zd cX12_nearestOf 161 (.invokestatic 121) 3 164 := ⟨by decide +kernel, rfl⟩
theorem dX12_nearestOf_164 : zd cX12_nearestOf 164 (.aload_n 0) 1 165 := ⟨by decide +kernel, rfl⟩
theorem dX12_nearestOf_165 : zd cX12_nearestOf 165 (.getfield 67) 3 168 := ⟨by decide +kernel, rfl⟩
theorem dX12_nearestOf_168 : zd cX12_nearestOf 168 (.aload_n 0) 1 169 := ⟨by decide +kernel, rfl⟩
theorem dX12_nearestOf_169 : zd cX12_nearestOf 169 (.getfield 70) 3 172 := ⟨by decide +kernel, rfl⟩
theorem dX12_nearestOf_172 : zd cX12_nearestOf 172 (.invokestatic 145) 3 175 := ⟨by decide +kernel, rfl⟩
theorem dX12_nearestOf_175 : zd cX12_nearestOf 175 (.ifCond .eq 12) 3 178 := ⟨by decide +kernel, rfl⟩
theorem dX12_nearestOf_178 : zd cX12_nearestOf 178 (.lload 11) 2 180 := ⟨by decide +kernel, rfl⟩
theorem dX12_nearestOf_180 : zd cX12_nearestOf 180 (.lconst 1) 1 181 := ⟨by decide +kernel, rfl⟩
theorem dX12_nearestOf_181 : zd cX12_nearestOf 181 (.lsub) 1 182 := ⟨by decide +kernel, rfl⟩
theorem dX12_nearestOf_182 : zd cX12_nearestOf 182 (.lstore 9) 2 184 := ⟨by decide +kernel, rfl⟩
theorem dX12_nearestOf_184 : zd cX12_nearestOf 184 (.goto 7) 3 187 := ⟨by decide +kernel, rfl⟩
theorem dX12_nearestOf_187 : zd cX12_nearestOf 187 (.lload 11) 2 189 := ⟨by decide +kernel, rfl⟩
theorem dX12_nearestOf_189 : zd cX12_nearestOf 189 (.lstore 7) 2 191 := ⟨by decide +kernel, rfl⟩
theorem dX12_nearestOf_191 : zd cX12_nearestOf 191 (.goto (-118)) 3 194 := ⟨by decide +kernel, rfl⟩
theorem dX12_nearestOf_194 : zd cX12_nearestOf 194 (.lload 7) 2 196 := ⟨by decide +kernel, rfl⟩
theorem dX12_nearestOf_196 : zd cX12_nearestOf 196 (.l2i) 1 197 := ⟨by decide +kernel, rfl⟩
theorem dX12_nearestOf_197 : zd cX12_nearestOf 197 (.ireturn) 1 198 := ⟨by decide +kernel, rfl⟩
theorem dX12_plain_0 : zd cX12_plain 0 (.aload_n 0) 1 1 := ⟨by decide +kernel, rfl⟩
theorem dX12_plain_1 : zd cX12_plain 1 (.iload_n 1) 1 2 := ⟨by decide +kernel, rfl⟩
theorem dX12_plain_2 : zd cX12_plain 2 (.i2l) 1 3 := ⟨by decide +kernel, rfl⟩
theorem dX12_plain_3 : zd cX12_plain 3 (.ldc2_w 149) 3 6 := ⟨by decide +kernel, rfl⟩
theorem dX12_plain_6 : zd cX12_plain 6 (.iconst 1) 1 7 := ⟨by decide +kernel, rfl⟩
theorem dX12_plain_7 : zd cX12_plain 7 (.invokevirtual 151) 3 10 := ⟨by decide +kernel, rfl⟩
theorem dX12_plain_10 : zd cX12_plain 10 (.ireturn) 1 11 := ⟨by decide +kernel, rfl⟩
theorem dX12_placeOf_0 : zd cX12_placeOf 0 (.aload_n 0) 1 1 := ⟨by decide +kernel, rfl⟩
theorem dX12_placeOf_1 : zd cX12_placeOf 1 (.getfield 155) 3 4 := ⟨by decide +kernel, rfl⟩
theorem dX12_placeOf_4 : zd cX12_placeOf 4 (.aload_n 0) 1 5 := ⟨by decide +kernel, rfl⟩
theorem dX12_placeOf_5 : zd cX12_placeOf 5 (.getfield 7) 3 8 := ⟨by decide +kernel, rfl⟩
theorem dX12_placeOf_8 : zd cX12_placeOf 8 (.if_icmp .eq 32) 3 11 := ⟨by decide +kernel, rfl⟩
theorem dX12_placeOf_11 : zd cX12_placeOf 11 (.aload_n 0) 1 12 := ⟨by decide +kernel, rfl⟩
theorem dX12_placeOf_12 : zd cX12_placeOf 12 (.aload_n 0) 1 13 := ⟨by decide +kernel, rfl⟩
theorem dX12_placeOf_13 : zd cX12_placeOf 13 (.getfield 7) 3 16 := ⟨by decide +kernel, rfl⟩
theorem dX12_placeOf_16 : zd cX12_placeOf 16 (.putfield 155) 3 19 := ⟨by decide +kernel, rfl⟩
theorem dX12_placeOf_19 : zd cX12_placeOf 19 (.iconst 0) 1 20 := ⟨by decide +kernel, rfl⟩
theorem dX12_placeOf_20 : zd cX12_placeOf 20 (.istore_n 3) 1 21 := ⟨by decide +kernel, rfl⟩
theorem dX12_placeOf_21 : zd cX12_placeOf 21 (.iload_n 3) 1 22 := ⟨by decide +kernel, rfl⟩
theorem dX12_placeOf_22 : zd cX12_placeOf 22 (.ldc 73) 2 24 := ⟨by decide +kernel, rfl⟩
theorem dX12_placeOf_24 : zd cX12_placeOf 24 (.if_icmp .ge 16) 3 27 := ⟨by decide +kernel, rfl⟩
theorem dX12_placeOf_27 : zd cX12_placeOf 27 (.aload_n 0) 1 28 := ⟨by decide +kernel, rfl⟩
theorem dX12_placeOf_28 : zd cX12_placeOf 28 (.getfield 74) 3 31 := ⟨by decide +kernel, rfl⟩
theorem dX12_placeOf_31 : zd cX12_placeOf 31 (.iload_n 3) 1 32 := ⟨by decide +kernel, rfl⟩
theorem dX12_placeOf_32 : zd cX12_placeOf 32 (.iconst 0) 1 33 := ⟨by decide +kernel, rfl⟩
theorem dX12_placeOf_33 : zd cX12_placeOf 33 (.iastore) 1 34 := ⟨by decide +kernel, rfl⟩
theorem dX12_placeOf_34 : zd cX12_placeOf 34 (.iinc 3 1) 3 37 := ⟨by decide +kernel, rfl⟩
theorem dX12_placeOf_37 : zd cX12_placeOf 37 (.goto (-16)) 3 40 := ⟨by decide +kernel, rfl⟩
theorem dX12_placeOf_40 : zd cX12_placeOf 40 (.ldc 158) 2 42 := ⟨by decide +kernel, rfl⟩
theorem dX12_placeOf_42 : zd cX12_placeOf 42 (.iload_n 1) 1 43 := ⟨by decide +kernel, rfl⟩
theorem dX12_placeOf_43 : zd cX12_placeOf 43 (.imul) 1 44 := ⟨by decide +kernel, rfl⟩
theorem dX12_placeOf_44 : zd cX12_placeOf 44 (.iload_n 2) 1 45 := ⟨by decide +kernel, rfl⟩
theorem dX12_placeOf_45 : zd cX12_placeOf 45 (.iadd) 1 46 := ⟨by decide +kernel, rfl⟩
theorem dX12_placeOf_46 : zd cX12_placeOf 46 (.istore_n 3) 1 47 := ⟨by decide +kernel, rfl⟩
theorem dX12_placeOf_47 : zd cX12_placeOf 47 (.aload_n 0) 1 48 := ⟨by decide +kernel, rfl⟩
theorem dX12_placeOf_48 : zd cX12_placeOf 48 (.getfield 74) 3 51 := ⟨by decide +kernel, rfl⟩
theorem dX12_placeOf_51 : zd cX12_placeOf 51 (.iload_n 3) 1 52 := ⟨by decide +kernel, rfl⟩
theorem dX12_placeOf_52 : zd cX12_placeOf 52 (.iaload) 1 53 := ⟨by decide +kernel, rfl⟩
theorem dX12_placeOf_53 : zd cX12_placeOf 53 (.ifCond .ne 35) 3 56 := ⟨by decide +kernel, rfl⟩
theorem dX12_placeOf_56 : zd cX12_placeOf 56 (.aload_n 0) 1 57 := ⟨by decide +kernel, rfl⟩
theorem dX12_placeOf_57 : zd cX12_placeOf 57 (.getfield 74) 3 60 := ⟨by decide +kernel, rfl⟩
theorem dX12_placeOf_60 : zd cX12_placeOf 60 (.iload_n 3) 1 61 := ⟨by decide +kernel, rfl⟩
theorem dX12_placeOf_61 : zd cX12_placeOf 61 (.ldc 159) 2 63 := ⟨by decide +kernel, rfl⟩
theorem dX12_placeOf_63 : zd cX12_placeOf 63 (.aload_n 0) 1 64 := ⟨by decide +kernel, rfl⟩
theorem dX12_placeOf_64 : zd cX12_placeOf 64 (.iload_n 2) 1 65 := ⟨by decide +kernel, rfl⟩
theorem dX12_placeOf_65 : zd cX12_placeOf 65 (.i2l) 1 66 := ⟨by decide +kernel, rfl⟩
theorem dX12_placeOf_66 : zd cX12_placeOf 66 (.ldc2_w 124) 3 69 := ⟨by decide +kernel, rfl⟩
theorem dX12_placeOf_69 : zd cX12_placeOf 69 (.aload_n 0) 1 70 := ⟨by decide +kernel, rfl⟩
theorem dX12_placeOf_70 : zd cX12_placeOf 70 (.getfield 21) 3 73 := ⟨by decide +kernel, rfl⟩
theorem dX12_placeOf_73 : zd cX12_placeOf 73 (.iload_n 1) 1 74 := ⟨by decide +kernel, rfl⟩
theorem dX12_placeOf_74 : zd cX12_placeOf 74 (.iaload) 1 75 := ⟨by decide +kernel, rfl⟩
theorem dX12_placeOf_75 : zd cX12_placeOf 75 (.i2l) 1 76 := ⟨by decide +kernel, rfl⟩
theorem dX12_placeOf_76 : zd cX12_placeOf 76 (.lmul) 1 77 := ⟨by decide +kernel, rfl⟩
theorem dX12_placeOf_77 : zd cX12_placeOf 77 (.aload_n 0) 1 78 := ⟨by decide +kernel, rfl⟩
theorem dX12_placeOf_78 : zd cX12_placeOf 78 (.getfield 17) 3 81 := ⟨by decide +kernel, rfl⟩
theorem dX12_placeOf_81 : zd cX12_placeOf 81 (.iload_n 1) 1 82 := ⟨by decide +kernel, rfl⟩
theorem dX12_placeOf_82 : zd cX12_placeOf 82 (.iaload) 1 83 := ⟨by decide +kernel, rfl⟩
theorem dX12_placeOf_83 : zd cX12_placeOf 83 (.invokevirtual 151) 3 86 := ⟨by decide +kernel, rfl⟩
theorem dX12_placeOf_86 : zd cX12_placeOf 86 (.iadd) 1 87 := ⟨by decide +kernel, rfl⟩
theorem dX12_placeOf_87 : zd cX12_placeOf 87 (.iastore) 1 88 := ⟨by decide +kernel, rfl⟩
theorem dX12_placeOf_88 : zd cX12_placeOf 88 (.aload_n 0) 1 89 := ⟨by decide +kernel, rfl⟩
theorem dX12_placeOf_89 : zd cX12_placeOf 89 (.getfield 74) 3 92 := ⟨by decide +kernel, rfl⟩
theorem dX12_placeOf_92 : zd cX12_placeOf 92 (.iload_n 3) 1 93 := ⟨by decide +kernel, rfl⟩
theorem dX12_placeOf_93 : zd cX12_placeOf 93 (.iaload) 1 94 := ⟨by decide +kernel, rfl⟩
theorem dX12_placeOf_94 : zd cX12_placeOf 94 (.ldc 159) 2 96 := ⟨by decide +kernel, rfl⟩
theorem dX12_placeOf_96 : zd cX12_placeOf 96 (.isub) 1 97 := ⟨by decide +kernel, rfl⟩
theorem dX12_placeOf_97 : zd cX12_placeOf 97 (.istore 4) 2 99 := ⟨by decide +kernel, rfl⟩
theorem dX12_placeOf_99 : zd cX12_placeOf 99 (.aload_n 0) 1 100 := ⟨by decide +kernel, rfl⟩
theorem dX12_placeOf_100 : zd cX12_placeOf 100 (.getfield 24) 3 103 := ⟨by decide +kernel, rfl⟩
theorem dX12_placeOf_103 : zd cX12_placeOf 103 (.iload_n 1) 1 104 := ⟨by decide +kernel, rfl⟩
theorem dX12_placeOf_104 : zd cX12_placeOf 104 (.baload) 1 105 := ⟨by decide +kernel, rfl⟩
theorem dX12_placeOf_105 : zd cX12_placeOf 105 (.ifCond .eq 13) 3 108 := ⟨by decide +kernel, rfl⟩
theorem dX12_placeOf_108 : zd cX12_placeOf 108 (.aload_n 0) 1 109 := ⟨by decide +kernel, rfl⟩
theorem dX12_placeOf_109 : zd cX12_placeOf 109 (.getfield 7) 3 112 := ⟨by decide +kernel, rfl⟩
theorem dX12_placeOf_112 : zd cX12_placeOf 112 (.iload 4) 2 114 := ⟨by decide +kernel, rfl⟩
theorem dX12_placeOf_114 : zd cX12_placeOf 114 (.isub) 1 115 := ⟨by decide +kernel, rfl⟩
theorem dX12_placeOf_115 : zd cX12_placeOf 115 (.goto 5) 3 118 := ⟨by decide +kernel, rfl⟩
theorem dX12_placeOf_118 : zd cX12_placeOf 118 (.iload 4) 2 120 := ⟨by decide +kernel, rfl⟩
theorem dX12_placeOf_120 : zd cX12_placeOf 120 (.ireturn) 1 121 := ⟨by decide +kernel, rfl⟩
theorem dX12_isScale_0 : zd cX12_isScale 0 (.iload_n 1) 1 1 := ⟨by decide +kernel, rfl⟩
theorem dX12_isScale_1 : zd cX12_isScale 1 (.i2l) 1 2 := ⟨by decide +kernel, rfl⟩
theorem dX12_isScale_2 : zd cX12_isScale 2 (.lconst 0) 1 3 := ⟨by decide +kernel, rfl⟩
theorem dX12_isScale_3 : zd cX12_isScale 3 (.aload_n 0) 1 4 := ⟨by decide +kernel, rfl⟩
theorem dX12_isScale_4 : zd cX12_isScale 4 (.getfield 160) 3 7 := ⟨by decide +kernel, rfl⟩
theorem dX12_isScale_7 : zd cX12_isScale 7 (.iconst 1) 1 8 := ⟨by decide +kernel, rfl⟩
theorem dX12_isScale_8 : zd cX12_isScale 8 (.isub) 1 9 := ⟨by decide +kernel, rfl⟩
theorem dX12_isScale_9 : zd cX12_isScale 9 (.i2l) 1 10 := ⟨by decide +kernel, rfl⟩
theorem dX12_isScale_10 : zd cX12_isScale 10 (.invokestatic 163) 3 13 := ⟨by decide +kernel, rfl⟩
theorem dX12_isScale_13 : zd cX12_isScale 13 (.ireturn) 1 14 := ⟨by decide +kernel, rfl⟩
theorem dX12_isNumber_0 : zd cX12_isNumber 0 (.iload_n 0) 1 1 := ⟨by decide +kernel, rfl⟩
theorem dX12_isNumber_1 : zd cX12_isNumber 1 (.i2l) 1 2 := ⟨by decide +kernel, rfl⟩
theorem dX12_isNumber_2 : zd cX12_isNumber 2 (.ldc2_w 149) 3 5 := ⟨by decide +kernel, rfl⟩
theorem dX12_isNumber_5 : zd cX12_isNumber 5 (.ldc2_w 167) 3 8 := ⟨by decide +kernel, rfl⟩
theorem dX12_isNumber_8 : zd cX12_isNumber 8 (.invokestatic 163) 3 11 := ⟨by decide +kernel, rfl⟩
theorem dX12_isNumber_11 : zd cX12_isNumber 11 (.ireturn) 1 12 := ⟨by decide +kernel, rfl⟩
theorem dX12_rule_0 : zd cX12_rule 0 (.iload_n 1) 1 1 := ⟨by decide +kernel, rfl⟩
theorem dX12_rule_1 : zd cX12_rule 1 (.i2l) 1 2 := ⟨by decide +kernel, rfl⟩
theorem dX12_rule_2 : zd cX12_rule 2 (.ldc2_w 149) 3 5 := ⟨by decide +kernel, rfl⟩
theorem dX12_rule_5 : zd cX12_rule 5 (.ldc2_w 169) 3 8 := ⟨by decide +kernel, rfl⟩
theorem dX12_rule_8 : zd cX12_rule 8 (.invokestatic 163) 3 11 := ⟨by decide +kernel, rfl⟩
theorem dX12_rule_11 : zd cX12_rule 11 (.ifCond .ne 6) 3 14 := ⟨by decide +kernel, rfl⟩
theorem dX12_rule_14 : zd cX12_rule 14 (.bipush (-2)) 2 16 := ⟨by decide +kernel, rfl⟩
theorem dX12_rule_16 : zd cX12_rule 16 (.ireturn) 1 17 := ⟨by decide +kernel, rfl⟩
theorem dX12_rule_17 : zd cX12_rule 17 (.aload_n 0) 1 18 := ⟨by decide +kernel, rfl⟩
theorem dX12_rule_18 : zd cX12_rule 18 (.getfield 7) 3 21 := ⟨by decide +kernel, rfl⟩
theorem dX12_rule_21 : zd cX12_rule 21 (.istore_n 2) 1 22 := ⟨by decide +kernel, rfl⟩
theorem dX12_rule_22 : zd cX12_rule 22 (.aload_n 0) 1 23 := ⟨by decide +kernel, rfl⟩
theorem dX12_rule_23 : zd cX12_rule 23 (.iload_n 1) 1 24 := ⟨by decide +kernel, rfl⟩
theorem dX12_rule_24 : zd cX12_rule 24 (.putfield 7) 3 27 := ⟨by decide +kernel, rfl⟩
theorem dX12_rule_27 : zd cX12_rule 27 (.iload_n 2) 1 28 := ⟨by decide +kernel, rfl⟩
theorem dX12_rule_28 : zd cX12_rule 28 (.ireturn) 1 29 := ⟨by decide +kernel, rfl⟩
theorem dX12_scale_0 : zd cX12_scale 0 (.iload_n 2) 1 1 := ⟨by decide +kernel, rfl⟩
theorem dX12_scale_1 : zd cX12_scale 1 (.i2l) 1 2 := ⟨by decide +kernel, rfl⟩
theorem dX12_scale_2 : zd cX12_scale 2 (.lconst 1) 1 3 := ⟨by decide +kernel, rfl⟩
theorem dX12_scale_3 : zd cX12_scale 3 (.ldc2_w 171) 3 6 := ⟨by decide +kernel, rfl⟩
theorem dX12_scale_6 : zd cX12_scale 6 (.invokestatic 163) 3 9 := ⟨by decide +kernel, rfl⟩
theorem dX12_scale_9 : zd cX12_scale 9 (.ifCond .eq 17) 3 12 := ⟨by decide +kernel, rfl⟩
theorem dX12_scale_12 : zd cX12_scale 12 (.iload_n 3) 1 13 := ⟨by decide +kernel, rfl⟩
theorem dX12_scale_13 : zd cX12_scale 13 (.i2l) 1 14 := ⟨by decide +kernel, rfl⟩
theorem dX12_scale_14 : zd cX12_scale 14 (.ldc2_w 124) 3 17 := ⟨by decide +kernel, rfl⟩
theorem dX12_scale_17 : zd cX12_scale 17 (.ldc2_w 173) 3 20 := ⟨by decide +kernel, rfl⟩
theorem dX12_scale_20 : zd cX12_scale 20 (.invokestatic 163) 3 23 := ⟨by decide +kernel, rfl⟩
theorem dX12_scale_23 : zd cX12_scale 23 (.ifCond .ne 6) 3 26 := ⟨by decide +kernel, rfl⟩
theorem dX12_scale_26 : zd cX12_scale 26 (.bipush (-2)) 2 28 := ⟨by decide +kernel, rfl⟩
theorem dX12_scale_28 : zd cX12_scale 28 (.ireturn) 1 29 := ⟨by decide +kernel, rfl⟩
theorem dX12_scale_29 : zd cX12_scale 29 (.aload_n 0) 1 30 := ⟨by decide +kernel, rfl⟩
theorem dX12_scale_30 : zd cX12_scale 30 (.getfield 160) 3 33 := ⟨by decide +kernel, rfl⟩
theorem dX12_scale_33 : zd cX12_scale 33 (.bipush 8) 2 35 := ⟨by decide +kernel, rfl⟩
theorem dX12_scale_35 : zd cX12_scale 35 (.if_icmp .ne 6) 3 38 := ⟨by decide +kernel, rfl⟩
theorem dX12_scale_38 : zd cX12_scale 38 (.bipush (-4)) 2 40 := ⟨by decide +kernel, rfl⟩
theorem dX12_scale_40 : zd cX12_scale 40 (.ireturn) 1 41 := ⟨by decide +kernel, rfl⟩
theorem dX12_scale_41 : zd cX12_scale 41 (.aload_n 0) 1 42 := ⟨by decide +kernel, rfl⟩
theorem dX12_scale_42 : zd cX12_scale 42 (.getfield 13) 3 45 := ⟨by decide +kernel, rfl⟩
theorem dX12_scale_45 : zd cX12_scale 45 (.aload_n 0) 1 46 := ⟨by decide +kernel, rfl⟩
theorem dX12_scale_46 : zd cX12_scale 46 (.getfield 160) 3 49 := ⟨by decide +kernel, rfl⟩
theorem dX12_scale_49 : zd cX12_scale 49 (.iload_n 1) 1 50 := ⟨by decide +kernel, rfl⟩
theorem dX12_scale_50 : zd cX12_scale 50 (.bastore) 1 51 := ⟨by decide +kernel, rfl⟩
theorem dX12_scale_51 : zd cX12_scale 51 (.aload_n 0) 1 52 := ⟨by decide +kernel, rfl⟩
theorem dX12_scale_52 : zd cX12_scale 52 (.getfield 17) 3 55 := ⟨by decide +kernel, rfl⟩
theorem dX12_scale_55 : zd cX12_scale 55 (.aload_n 0) 1 56 := ⟨by decide +kernel, rfl⟩
theorem dX12_scale_56 : zd cX12_scale 56 (.getfield 160) 3 59 := ⟨by decide +kernel, rfl⟩
theorem dX12_scale_59 : zd cX12_scale 59 (.iload_n 2) 1 60 := ⟨by decide +kernel, rfl⟩
theorem dX12_scale_60 : zd cX12_scale 60 (.iastore) 1 61 := ⟨by decide +kernel, rfl⟩
theorem dX12_scale_61 : zd cX12_scale 61 (.aload_n 0) 1 62 := ⟨by decide +kernel, rfl⟩
theorem dX12_scale_62 : zd cX12_scale 62 (.getfield 21) 3 65 := ⟨by decide +kernel, rfl⟩
theorem dX12_scale_65 : zd cX12_scale 65 (.aload_n 0) 1 66 := ⟨by decide +kernel, rfl⟩
theorem dX12_scale_66 : zd cX12_scale 66 (.getfield 160) 3 69 := ⟨by decide +kernel, rfl⟩
theorem dX12_scale_69 : zd cX12_scale 69 (.iload_n 3) 1 70 := ⟨by decide +kernel, rfl⟩
theorem dX12_scale_70 : zd cX12_scale 70 (.iastore) 1 71 := ⟨by decide +kernel, rfl⟩
theorem dX12_scale_71 : zd cX12_scale 71 (.aload_n 0) 1 72 := ⟨by decide +kernel, rfl⟩
theorem dX12_scale_72 : zd cX12_scale 72 (.getfield 24) 3 75 := ⟨by decide +kernel, rfl⟩
theorem dX12_scale_75 : zd cX12_scale 75 (.aload_n 0) 1 76 := ⟨by decide +kernel, rfl⟩
theorem dX12_scale_76 : zd cX12_scale 76 (.getfield 160) 3 79 := ⟨by decide +kernel, rfl⟩
theorem dX12_scale_79 : zd cX12_scale 79 (.iload 4) 2 81 := ⟨by decide +kernel, rfl⟩
theorem dX12_scale_81 : zd cX12_scale 81 (.bastore) 1 82 := ⟨by decide +kernel, rfl⟩
theorem dX12_scale_82 : zd cX12_scale 82 (.aload_n 0) 1 83 := ⟨by decide +kernel, rfl⟩
theorem dX12_scale_83 : zd cX12_scale 83 (.dup) 1 84 := ⟨by decide +kernel, rfl⟩
theorem dX12_scale_84 : zd cX12_scale 84 (.getfield 160) 3 87 := ⟨by decide +kernel, rfl⟩
theorem dX12_scale_87 : zd cX12_scale 87 (.iconst 1) 1 88 := ⟨by decide +kernel, rfl⟩
theorem dX12_scale_88 : zd cX12_scale 88 (.iadd) 1 89 := ⟨by decide +kernel, rfl⟩
theorem dX12_scale_89 : zd cX12_scale 89 (.putfield 160) 3 92 := ⟨by decide +kernel, rfl⟩
theorem dX12_scale_92 : zd cX12_scale 92 (.aload_n 0) 1 93 := ⟨by decide +kernel, rfl⟩
theorem dX12_scale_93 : zd cX12_scale 93 (.getfield 160) 3 96 := ⟨by decide +kernel, rfl⟩
theorem dX12_scale_96 : zd cX12_scale 96 (.iconst 1) 1 97 := ⟨by decide +kernel, rfl⟩
theorem dX12_scale_97 : zd cX12_scale 97 (.isub) 1 98 := ⟨by decide +kernel, rfl⟩
theorem dX12_scale_98 : zd cX12_scale 98 (.ireturn) 1 99 := ⟨by decide +kernel, rfl⟩
theorem dX12_place_0 : zd cX12_place 0 (.aload_n 0) 1 1 := ⟨by decide +kernel, rfl⟩
theorem dX12_place_1 : zd cX12_place 1 (.iload_n 1) 1 2 := ⟨by decide +kernel, rfl⟩
theorem dX12_place_2 : zd cX12_place 2 (.invokevirtual 175) 3 5 := ⟨by decide +kernel, rfl⟩
theorem dX12_place_5 : zd cX12_place 5 (.ifCond .eq 19) 3 8 := ⟨by decide +kernel, rfl⟩
theorem dX12_place_8 : zd cX12_place 8 (.iload_n 2) 1 9 := ⟨by decide +kernel, rfl⟩
theorem dX12_place_9 : zd cX12_place 9 (.invokestatic 179) 3 12 := ⟨by decide +kernel, rfl⟩
theorem dX12_place_12 : zd cX12_place 12 (.ifCond .eq 12) 3 15 := ⟨by decide +kernel, rfl⟩
theorem dX12_place_15 : zd cX12_place 15 (.aload_n 0) 1 16 := ⟨by decide +kernel, rfl⟩
theorem dX12_place_16 : zd cX12_place 16 (.iload_n 1) 1 17 := ⟨by decide +kernel, rfl⟩
theorem dX12_place_17 : zd cX12_place 17 (.iload_n 2) 1 18 := ⟨by decide +kernel, rfl⟩
theorem dX12_place_18 : zd cX12_place 18 (.invokevirtual 182) 3 21 := ⟨by decide +kernel, rfl⟩
theorem dX12_place_21 : zd cX12_place 21 (.goto 5) 3 24 := ⟨by decide +kernel, rfl⟩
theorem dX12_place_24 : zd cX12_place 24 (.ldc 186) 2 26 := ⟨by decide +kernel, rfl⟩
theorem dX12_place_26 : zd cX12_place 26 (.ireturn) 1 27 := ⟨by decide +kernel, rfl⟩
theorem dX12_spanMarks_0 : zd cX12_spanMarks 0 (.aload_n 0) 1 1 := ⟨by decide +kernel, rfl⟩
theorem dX12_spanMarks_1 : zd cX12_spanMarks 1 (.getfield 33) 3 4 := ⟨by decide +kernel, rfl⟩
theorem dX12_spanMarks_4 : zd cX12_spanMarks 4 (.iload_n 1) 1 5 := ⟨by decide +kernel, rfl⟩
theorem dX12_spanMarks_5 : zd cX12_spanMarks 5 (.iaload) 1 6 := ⟨by decide +kernel, rfl⟩
theorem dX12_spanMarks_6 : zd cX12_spanMarks 6 (.aload_n 0) 1 7 := ⟨by decide +kernel, rfl⟩
theorem dX12_spanMarks_7 : zd cX12_spanMarks 7 (.getfield 30) 3 10 := ⟨by decide +kernel, rfl⟩
theorem dX12_spanMarks_10 : zd cX12_spanMarks 10 (.iload_n 1) 1 11 := ⟨by decide +kernel, rfl⟩
theorem dX12_spanMarks_11 : zd cX12_spanMarks 11 (.iaload) 1 12 := ⟨by decide +kernel, rfl⟩
theorem dX12_spanMarks_12 : zd cX12_spanMarks 12 (.isub) 1 13 := ⟨by decide +kernel, rfl⟩
theorem dX12_spanMarks_13 : zd cX12_spanMarks 13 (.aload_n 0) 1 14 := ⟨by decide +kernel, rfl⟩
theorem dX12_spanMarks_14 : zd cX12_spanMarks 14 (.getfield 36) 3 17 := ⟨by decide +kernel, rfl⟩
theorem dX12_spanMarks_17 : zd cX12_spanMarks 17 (.iload_n 1) 1 18 := ⟨by decide +kernel, rfl⟩
theorem dX12_spanMarks_18 : zd cX12_spanMarks 18 (.iaload) 1 19 := ⟨by decide +kernel, rfl⟩
theorem dX12_spanMarks_19 : zd cX12_spanMarks 19 (.idiv) 1 20 := ⟨by decide +kernel, rfl⟩
theorem dX12_spanMarks_20 : zd cX12_spanMarks 20 (.iconst 1) 1 21 := ⟨by decide +kernel, rfl⟩
theorem dX12_spanMarks_21 : zd cX12_spanMarks 21 (.iadd) 1 22 := ⟨by decide +kernel, rfl⟩
theorem dX12_spanMarks_22 : zd cX12_spanMarks 22 (.ireturn) 1 23 := ⟨by decide +kernel, rfl⟩
theorem dX12_marksOf_0 : zd cX12_marksOf 0 (.iconst 0) 1 1 := ⟨by decide +kernel, rfl⟩
theorem dX12_marksOf_1 : zd cX12_marksOf 1 (.istore_n 2) 1 2 := ⟨by decide +kernel, rfl⟩
theorem dX12_marksOf_2 : zd cX12_marksOf 2 (.iconst 0) 1 3 := ⟨by decide +kernel, rfl⟩
theorem dX12_marksOf_3 : zd cX12_marksOf 3 (.istore_n 3) 1 4 := ⟨by decide +kernel, rfl⟩
theorem dX12_marksOf_4 : zd cX12_marksOf 4 (.iload_n 3) 1 5 := ⟨by decide +kernel, rfl⟩
theorem dX12_marksOf_5 : zd cX12_marksOf 5 (.aload_n 0) 1 6 := ⟨by decide +kernel, rfl⟩
theorem dX12_marksOf_6 : zd cX12_marksOf 6 (.getfield 27) 3 9 := ⟨by decide +kernel, rfl⟩
theorem dX12_marksOf_9 : zd cX12_marksOf 9 (.iload_n 1) 1 10 := ⟨by decide +kernel, rfl⟩
theorem dX12_marksOf_10 : zd cX12_marksOf 10 (.iaload) 1 11 := ⟨by decide +kernel, rfl⟩
theorem dX12_marksOf_11 : zd cX12_marksOf 11 (.if_icmp .ge 21) 3 14 := ⟨by decide +kernel, rfl⟩
theorem dX12_marksOf_14 : zd cX12_marksOf 14 (.iload_n 2) 1 15 := ⟨by decide +kernel, rfl⟩
theorem dX12_marksOf_15 : zd cX12_marksOf 15 (.aload_n 0) 1 16 := ⟨by decide +kernel, rfl⟩
theorem dX12_marksOf_16 : zd cX12_marksOf 16 (.iconst 4) 1 17 := ⟨by decide +kernel, rfl⟩
theorem dX12_marksOf_17 : zd cX12_marksOf 17 (.iload_n 1) 1 18 := ⟨by decide +kernel, rfl⟩
theorem dX12_marksOf_18 : zd cX12_marksOf 18 (.imul) 1 19 := ⟨by decide +kernel, rfl⟩
theorem dX12_marksOf_19 : zd cX12_marksOf 19 (.iload_n 3) 1 20 := ⟨by decide +kernel, rfl⟩
theorem dX12_marksOf_20 : zd cX12_marksOf 20 (.iadd) 1 21 := ⟨by decide +kernel, rfl⟩
theorem dX12_marksOf_21 : zd cX12_marksOf 21 (.invokevirtual 187) 3 24 := ⟨by decide +kernel, rfl⟩
theorem dX12_marksOf_24 : zd cX12_marksOf 24 (.iadd) 1 25 := ⟨by decide +kernel, rfl⟩
theorem dX12_marksOf_25 : zd cX12_marksOf 25 (.istore_n 2) 1 26 := ⟨by decide +kernel, rfl⟩
theorem dX12_marksOf_26 : zd cX12_marksOf 26 (.iinc 3 1) 3 29 := ⟨by decide +kernel, rfl⟩
theorem dX12_marksOf_29 : zd cX12_marksOf 29 (.goto (-25)) 3 32 := ⟨by decide +kernel, rfl⟩
theorem dX12_marksOf_32 : zd cX12_marksOf 32 (.iload_n 2) 1 33 := ⟨by decide +kernel, rfl⟩
theorem dX12_marksOf_33 : zd cX12_marksOf 33 (.ireturn) 1 34 := ⟨by decide +kernel, rfl⟩
theorem dX12_markOf_0 : zd cX12_markOf 0 (.iload_n 2) 1 1 := ⟨by decide +kernel, rfl⟩
theorem dX12_markOf_1 : zd cX12_markOf 1 (.istore_n 3) 1 2 := ⟨by decide +kernel, rfl⟩
theorem dX12_markOf_2 : zd cX12_markOf 2 (.iconst 4) 1 3 := ⟨by decide +kernel, rfl⟩
theorem dX12_markOf_3 : zd cX12_markOf 3 (.iload_n 1) 1 4 := ⟨by decide +kernel, rfl⟩
theorem dX12_markOf_4 : zd cX12_markOf 4 (.imul) 1 5 := ⟨by decide +kernel, rfl⟩
theorem dX12_markOf_5 : zd cX12_markOf 5 (.istore 4) 2 7 := ⟨by decide +kernel, rfl⟩
theorem dX12_markOf_7 : zd cX12_markOf 7 (.iload_n 3) 1 8 := ⟨by decide +kernel, rfl⟩
theorem dX12_markOf_8 : zd cX12_markOf 8 (.aload_n 0) 1 9 := ⟨by decide +kernel, rfl⟩
theorem dX12_markOf_9 : zd cX12_markOf 9 (.iload 4) 2 11 := ⟨by decide +kernel, rfl⟩
theorem dX12_markOf_11 : zd cX12_markOf 11 (.invokevirtual 187) 3 14 := ⟨by decide +kernel, rfl⟩
theorem dX12_markOf_14 : zd cX12_markOf 14 (.if_icmp .lt 18) 3 17 := ⟨by decide +kernel, rfl⟩
theorem dX12_markOf_17 : zd cX12_markOf 17 (.iload_n 3) 1 18 := ⟨by decide +kernel, rfl⟩
theorem dX12_markOf_18 : zd cX12_markOf 18 (.aload_n 0) 1 19 := ⟨by decide +kernel, rfl⟩
theorem dX12_markOf_19 : zd cX12_markOf 19 (.iload 4) 2 21 := ⟨by decide +kernel, rfl⟩
theorem dX12_markOf_21 : zd cX12_markOf 21 (.invokevirtual 187) 3 24 := ⟨by decide +kernel, rfl⟩
theorem dX12_markOf_24 : zd cX12_markOf 24 (.isub) 1 25 := ⟨by decide +kernel, rfl⟩
theorem dX12_markOf_25 : zd cX12_markOf 25 (.istore_n 3) 1 26 := ⟨by decide +kernel, rfl⟩
theorem dX12_markOf_26 : zd cX12_markOf 26 (.iinc 4 1) 3 29 := ⟨by decide +kernel, rfl⟩
theorem dX12_markOf_29 : zd cX12_markOf 29 (.goto (-22)) 3 32 := ⟨by decide +kernel, rfl⟩
theorem dX12_markOf_32 : zd cX12_markOf 32 (.aload_n 0) 1 33 := ⟨by decide +kernel, rfl⟩
theorem dX12_markOf_33 : zd cX12_markOf 33 (.getfield 30) 3 36 := ⟨by decide +kernel, rfl⟩
theorem dX12_markOf_36 : zd cX12_markOf 36 (.iload 4) 2 38 := ⟨by decide +kernel, rfl⟩
theorem dX12_markOf_38 : zd cX12_markOf 38 (.iaload) 1 39 := ⟨by decide +kernel, rfl⟩
theorem dX12_markOf_39 : zd cX12_markOf 39 (.iload_n 3) 1 40 := ⟨by decide +kernel, rfl⟩
theorem dX12_markOf_40 : zd cX12_markOf 40 (.aload_n 0) 1 41 := ⟨by decide +kernel, rfl⟩
theorem dX12_markOf_41 : zd cX12_markOf 41 (.getfield 36) 3 44 := ⟨by decide +kernel, rfl⟩
theorem dX12_markOf_44 : zd cX12_markOf 44 (.iload 4) 2 46 := ⟨by decide +kernel, rfl⟩
theorem dX12_markOf_46 : zd cX12_markOf 46 (.iaload) 1 47 := ⟨by decide +kernel, rfl⟩
theorem dX12_markOf_47 : zd cX12_markOf 47 (.imul) 1 48 := ⟨by decide +kernel, rfl⟩
theorem dX12_markOf_48 : zd cX12_markOf 48 (.iadd) 1 49 := ⟨by decide +kernel, rfl⟩
theorem dX12_markOf_49 : zd cX12_markOf 49 (.ireturn) 1 50 := ⟨by decide +kernel, rfl⟩
theorem dX12_span_0 : zd cX12_span 0 (.aload_n 0) 1 1 := ⟨by decide +kernel, rfl⟩
theorem dX12_span_1 : zd cX12_span 1 (.iload_n 1) 1 2 := ⟨by decide +kernel, rfl⟩
theorem dX12_span_2 : zd cX12_span 2 (.invokevirtual 175) 3 5 := ⟨by decide +kernel, rfl⟩
theorem dX12_span_5 : zd cX12_span 5 (.ifCond .eq 35) 3 8 := ⟨by decide +kernel, rfl⟩
theorem dX12_span_8 : zd cX12_span 8 (.iload_n 2) 1 9 := ⟨by decide +kernel, rfl⟩
theorem dX12_span_9 : zd cX12_span 9 (.invokestatic 179) 3 12 := ⟨by decide +kernel, rfl⟩
theorem dX12_span_12 : zd cX12_span 12 (.ifCond .eq 28) 3 15 := ⟨by decide +kernel, rfl⟩
theorem dX12_span_15 : zd cX12_span 15 (.iload_n 3) 1 16 := ⟨by decide +kernel, rfl⟩
theorem dX12_span_16 : zd cX12_span 16 (.invokestatic 179) 3 19 := ⟨by decide +kernel, rfl⟩
theorem dX12_span_19 : zd cX12_span 19 (.ifCond .eq 21) 3 22 := ⟨by decide +kernel, rfl⟩
theorem dX12_span_22 : zd cX12_span 22 (.iload_n 2) 1 23 := ⟨by decide +kernel, rfl⟩
theorem dX12_span_23 : zd cX12_span 23 (.iload_n 3) 1 24 := ⟨by decide +kernel, rfl⟩
theorem dX12_span_24 : zd cX12_span 24 (.if_icmp .gt 16) 3 27 := ⟨by decide +kernel, rfl⟩
theorem dX12_span_27 : zd cX12_span 27 (.iload 4) 2 29 := ⟨by decide +kernel, rfl⟩
theorem dX12_span_29 : zd cX12_span 29 (.i2l) 1 30 := ⟨by decide +kernel, rfl⟩
theorem dX12_span_30 : zd cX12_span 30 (.lconst 1) 1 31 := ⟨by decide +kernel, rfl⟩
theorem dX12_span_31 : zd cX12_span 31 (.ldc2_w 191) 3 34 := ⟨by decide +kernel, rfl⟩
theorem dX12_span_34 : zd cX12_span 34 (.invokestatic 163) 3 37 := ⟨by decide +kernel, rfl⟩
theorem dX12_span_37 : zd cX12_span 37 (.ifCond .ne 6) 3 40 := ⟨by decide +kernel, rfl⟩
theorem dX12_span_40 : zd cX12_span 40 (.bipush (-2)) 2 42 := ⟨by decide +kernel, rfl⟩
theorem dX12_span_42 : zd cX12_span 42 (.ireturn) 1 43 := ⟨by decide +kernel, rfl⟩
theorem dX12_span_43 : zd cX12_span 43 (.aload_n 0) 1 44 := ⟨by decide +kernel, rfl⟩
theorem dX12_span_44 : zd cX12_span 44 (.getfield 27) 3 47 := ⟨by decide +kernel, rfl⟩
theorem dX12_span_47 : zd cX12_span 47 (.iload_n 1) 1 48 := ⟨by decide +kernel, rfl⟩
theorem dX12_span_48 : zd cX12_span 48 (.iaload) 1 49 := ⟨by decide +kernel, rfl⟩
theorem dX12_span_49 : zd cX12_span 49 (.ifCond .le 27) 3 52 := ⟨by decide +kernel, rfl⟩
theorem dX12_span_52 : zd cX12_span 52 (.iload_n 2) 1 53 := ⟨by decide +kernel, rfl⟩
theorem dX12_span_53 : zd cX12_span 53 (.aload_n 0) 1 54 := ⟨by decide +kernel, rfl⟩
theorem dX12_span_54 : zd cX12_span 54 (.getfield 33) 3 57 := ⟨by decide +kernel, rfl⟩
theorem dX12_span_57 : zd cX12_span 57 (.iconst 4) 1 58 := ⟨by decide +kernel, rfl⟩
theorem dX12_span_58 : zd cX12_span 58 (.iload_n 1) 1 59 := ⟨by decide +kernel, rfl⟩
theorem dX12_span_59 : zd cX12_span 59 (.imul) 1 60 := ⟨by decide +kernel, rfl⟩
theorem dX12_span_60 : zd cX12_span 60 (.aload_n 0) 1 61 := ⟨by decide +kernel, rfl⟩
theorem dX12_span_61 : zd cX12_span 61 (.getfield 27) 3 64 := ⟨by decide +kernel, rfl⟩
theorem dX12_span_64 : zd cX12_span 64 (.iload_n 1) 1 65 := ⟨by decide +kernel, rfl⟩
theorem dX12_span_65 : zd cX12_span 65 (.iaload) 1 66 := ⟨by decide +kernel, rfl⟩
theorem dX12_span_66 : zd cX12_span 66 (.iadd) 1 67 := ⟨by decide +kernel, rfl⟩
theorem dX12_span_67 : zd cX12_span 67 (.iconst 1) 1 68 := ⟨by decide +kernel, rfl⟩
theorem dX12_span_68 : zd cX12_span 68 (.isub) 1 69 := ⟨by decide +kernel, rfl⟩
theorem dX12_span_69 : zd cX12_span 69 (.iaload) 1 70 := ⟨by decide +kernel, rfl⟩
theorem dX12_span_70 : zd cX12_span 70 (.if_icmp .gt 6) 3 73 := ⟨by decide +kernel, rfl⟩
theorem dX12_span_73 : zd cX12_span 73 (.bipush (-3)) 2 75 := ⟨by decide +kernel, rfl⟩
theorem dX12_span_75 : zd cX12_span 75 (.ireturn) 1 76 := ⟨by decide +kernel, rfl⟩
theorem dX12_span_76 : zd cX12_span 76 (.iload_n 3) 1 77 := ⟨by decide +kernel, rfl⟩
theorem dX12_span_77 : zd cX12_span 77 (.iload_n 2) 1 78 := ⟨by decide +kernel, rfl⟩
theorem dX12_span_78 : zd cX12_span 78 (.isub) 1 79 := ⟨by decide +kernel, rfl⟩
theorem dX12_span_79 : zd cX12_span 79 (.iload 4) 2 81 := ⟨by decide +kernel, rfl⟩
theorem dX12_span_81 : zd cX12_span 81 (.idiv) 1 82 := ⟨by decide +kernel, rfl⟩
theorem dX12_span_82 : zd cX12_span 82 (.iconst 1) 1 83 := ⟨by decide +kernel, rfl⟩
theorem dX12_span_83 : zd cX12_span 83 (.iadd) 1 84 := ⟨by decide +kernel, rfl⟩
theorem dX12_span_84 : zd cX12_span 84 (.istore 5) 2 86 := ⟨by decide +kernel, rfl⟩
theorem dX12_span_86 : zd cX12_span 86 (.aload_n 0) 1 87 := ⟨by decide +kernel, rfl⟩
theorem dX12_span_87 : zd cX12_span 87 (.getfield 27) 3 90 := ⟨by decide +kernel, rfl⟩
theorem dX12_span_90 : zd cX12_span 90 (.iload_n 1) 1 91 := ⟨by decide +kernel, rfl⟩
theorem dX12_span_91 : zd cX12_span 91 (.iaload) 1 92 := ⟨by decide +kernel, rfl⟩
theorem dX12_span_92 : zd cX12_span 92 (.iconst 4) 1 93 := ⟨by decide +kernel, rfl⟩
theorem dX12_span_93 : zd cX12_span 93 (.if_icmp .eq 17) 3 96 := ⟨by decide +kernel, rfl⟩
theorem dX12_span_96 : zd cX12_span 96 (.aload_n 0) 1 97 := ⟨by decide +kernel, rfl⟩
theorem dX12_span_97 : zd cX12_span 97 (.iload_n 1) 1 98 := ⟨by decide +kernel, rfl⟩
theorem dX12_span_98 : zd cX12_span 98 (.invokevirtual 193) 3 101 := ⟨by decide +kernel, rfl⟩
theorem dX12_span_101 : zd cX12_span 101 (.iload 5) 2 103 := ⟨by decide +kernel, rfl⟩
theorem dX12_span_103 : zd cX12_span 103 (.iadd) 1 104 := ⟨by decide +kernel, rfl⟩
theorem dX12_span_104 : zd cX12_span 104 (.sipush 400) 3 107 := ⟨by decide +kernel, rfl⟩
theorem dX12_span_107 : zd cX12_span 107 (.if_icmp .le 6) 3 110 := ⟨by decide +kernel, rfl⟩
theorem dX12_span_110 : zd cX12_span 110 (.bipush (-4)) 2 112 := ⟨by decide +kernel, rfl⟩
theorem dX12_span_112 : zd cX12_span 112 (.ireturn) 1 113 := ⟨by decide +kernel, rfl⟩
theorem dX12_span_113 : zd cX12_span 113 (.iconst 4) 1 114 := ⟨by decide +kernel, rfl⟩
theorem dX12_span_114 : zd cX12_span 114 (.iload_n 1) 1 115 := ⟨by decide +kernel, rfl⟩
theorem dX12_span_115 : zd cX12_span 115 (.imul) 1 116 := ⟨by decide +kernel, rfl⟩
theorem dX12_span_116 : zd cX12_span 116 (.aload_n 0) 1 117 := ⟨by decide +kernel, rfl⟩
theorem dX12_span_117 : zd cX12_span 117 (.getfield 27) 3 120 := ⟨by decide +kernel, rfl⟩
theorem dX12_span_120 : zd cX12_span 120 (.iload_n 1) 1 121 := ⟨by decide +kernel, rfl⟩
theorem dX12_span_121 : zd cX12_span 121 (.iaload) 1 122 := ⟨by decide +kernel, rfl⟩
theorem dX12_span_122 : zd cX12_span 122 (.iadd) 1 123 := ⟨by decide +kernel, rfl⟩
theorem dX12_span_123 : zd cX12_span 123 (.istore 6) 2 125 := ⟨by decide +kernel, rfl⟩
theorem dX12_span_125 : zd cX12_span 125 (.aload_n 0) 1 126 := ⟨by decide +kernel, rfl⟩
theorem dX12_span_126 : zd cX12_span 126 (.getfield 30) 3 129 := ⟨by decide +kernel, rfl⟩
theorem dX12_span_129 : zd cX12_span 129 (.iload 6) 2 131 := ⟨by decide +kernel, rfl⟩
theorem dX12_span_131 : zd cX12_span 131 (.iload_n 2) 1 132 := ⟨by decide +kernel, rfl⟩
theorem dX12_span_132 : zd cX12_span 132 (.iastore) 1 133 := ⟨by decide +kernel, rfl⟩
theorem dX12_span_133 : zd cX12_span 133 (.aload_n 0) 1 134 := ⟨by decide +kernel, rfl⟩
theorem dX12_span_134 : zd cX12_span 134 (.getfield 33) 3 137 := ⟨by decide +kernel, rfl⟩
theorem dX12_span_137 : zd cX12_span 137 (.iload 6) 2 139 := ⟨by decide +kernel, rfl⟩
theorem dX12_span_139 : zd cX12_span 139 (.iload_n 3) 1 140 := ⟨by decide +kernel, rfl⟩
theorem dX12_span_140 : zd cX12_span 140 (.iastore) 1 141 := ⟨by decide +kernel, rfl⟩
theorem dX12_span_141 : zd cX12_span 141 (.aload_n 0) 1 142 := ⟨by decide +kernel, rfl⟩
theorem dX12_span_142 : zd cX12_span 142 (.getfield 36) 3 145 := ⟨by decide +kernel, rfl⟩
theorem dX12_span_145 : zd cX12_span 145 (.iload 6) 2 147 := ⟨by decide +kernel, rfl⟩
theorem dX12_span_147 : zd cX12_span 147 (.iload 4) 2 149 := ⟨by decide +kernel, rfl⟩
theorem dX12_span_149 : zd cX12_span 149 (.iastore) 1 150 := ⟨by decide +kernel, rfl⟩
theorem dX12_span_150 : zd cX12_span 150 (.aload_n 0) 1 151 := ⟨by decide +kernel, rfl⟩
theorem dX12_span_151 : zd cX12_span 151 (.getfield 27) 3 154 := ⟨by decide +kernel, rfl⟩
theorem dX12_span_154 : zd cX12_span 154 (.iload_n 1) 1 155 := ⟨by decide +kernel, rfl⟩
theorem dX12_span_155 : zd cX12_span 155 (.dup2) 1 156 := ⟨by decide +kernel, rfl⟩
theorem dX12_span_156 : zd cX12_span 156 (.iaload) 1 157 := ⟨by decide +kernel, rfl⟩
theorem dX12_span_157 : zd cX12_span 157 (.iconst 1) 1 158 := ⟨by decide +kernel, rfl⟩
theorem dX12_span_158 : zd cX12_span 158 (.iadd) 1 159 := ⟨by decide +kernel, rfl⟩
theorem dX12_span_159 : zd cX12_span 159 (.iastore) 1 160 := ⟨by decide +kernel, rfl⟩
theorem dX12_span_160 : zd cX12_span 160 (.iload 5) 2 162 := ⟨by decide +kernel, rfl⟩
theorem dX12_span_162 : zd cX12_span 162 (.ireturn) 1 163 := ⟨by decide +kernel, rfl⟩
theorem dX12_mark_0 : zd cX12_mark 0 (.aload_n 0) 1 1 := ⟨by decide +kernel, rfl⟩
theorem dX12_mark_1 : zd cX12_mark 1 (.iload_n 1) 1 2 := ⟨by decide +kernel, rfl⟩
theorem dX12_mark_2 : zd cX12_mark 2 (.invokevirtual 175) 3 5 := ⟨by decide +kernel, rfl⟩
theorem dX12_mark_5 : zd cX12_mark 5 (.ifCond .eq 7) 3 8 := ⟨by decide +kernel, rfl⟩
theorem dX12_mark_8 : zd cX12_mark 8 (.iload_n 2) 1 9 := ⟨by decide +kernel, rfl⟩
theorem dX12_mark_9 : zd cX12_mark 9 (.ifCond .ge 6) 3 12 := ⟨by decide +kernel, rfl⟩
theorem dX12_mark_12 : zd cX12_mark 12 (.bipush (-2)) 2 14 := ⟨by decide +kernel, rfl⟩
theorem dX12_mark_14 : zd cX12_mark 14 (.ireturn) 1 15 := ⟨by decide +kernel, rfl⟩
theorem dX12_mark_15 : zd cX12_mark 15 (.iload_n 2) 1 16 := ⟨by decide +kernel, rfl⟩
theorem dX12_mark_16 : zd cX12_mark 16 (.aload_n 0) 1 17 := ⟨by decide +kernel, rfl⟩
theorem dX12_mark_17 : zd cX12_mark 17 (.iload_n 1) 1 18 := ⟨by decide +kernel, rfl⟩
theorem dX12_mark_18 : zd cX12_mark 18 (.invokevirtual 193) 3 21 := ⟨by decide +kernel, rfl⟩
theorem dX12_mark_21 : zd cX12_mark 21 (.if_icmp .ge 12) 3 24 := ⟨by decide +kernel, rfl⟩
theorem dX12_mark_24 : zd cX12_mark 24 (.aload_n 0) 1 25 := ⟨by decide +kernel, rfl⟩
theorem dX12_mark_25 : zd cX12_mark 25 (.iload_n 1) 1 26 := ⟨by decide +kernel, rfl⟩
theorem dX12_mark_26 : zd cX12_mark 26 (.iload_n 2) 1 27 := ⟨by decide +kernel, rfl⟩
theorem dX12_mark_27 : zd cX12_mark 27 (.invokevirtual 196) 3 30 := ⟨by decide +kernel, rfl⟩
theorem dX12_mark_30 : zd cX12_mark 30 (.goto 4) 3 33 := ⟨by decide +kernel, rfl⟩
theorem dX12_mark_33 : zd cX12_mark 33 (.iconst (-1)) 1 34 := ⟨by decide +kernel, rfl⟩
theorem dX12_mark_34 : zd cX12_mark 34 (.ireturn) 1 35 := ⟨by decide +kernel, rfl⟩
theorem dX12_marks_0 : zd cX12_marks 0 (.aload_n 0) 1 1 := ⟨by decide +kernel, rfl⟩
theorem dX12_marks_1 : zd cX12_marks 1 (.iload_n 1) 1 2 := ⟨by decide +kernel, rfl⟩
theorem dX12_marks_2 : zd cX12_marks 2 (.invokevirtual 175) 3 5 := ⟨by decide +kernel, rfl⟩
theorem dX12_marks_5 : zd cX12_marks 5 (.ifCond .eq 11) 3 8 := ⟨by decide +kernel, rfl⟩
theorem dX12_marks_8 : zd cX12_marks 8 (.aload_n 0) 1 9 := ⟨by decide +kernel, rfl⟩
theorem dX12_marks_9 : zd cX12_marks 9 (.iload_n 1) 1 10 := ⟨by decide +kernel, rfl⟩
theorem dX12_marks_10 : zd cX12_marks 10 (.invokevirtual 193) 3 13 := ⟨by decide +kernel, rfl⟩
theorem dX12_marks_13 : zd cX12_marks 13 (.goto 5) 3 16 := ⟨by decide +kernel, rfl⟩
theorem dX12_marks_16 : zd cX12_marks 16 (.bipush (-2)) 2 18 := ⟨by decide +kernel, rfl⟩
theorem dX12_marks_18 : zd cX12_marks 18 (.ireturn) 1 19 := ⟨by decide +kernel, rfl⟩
theorem dX12_size_0 : zd cX12_size 0 (.iload_n 0) 1 1 := ⟨by decide +kernel, rfl⟩
theorem dX12_size_1 : zd cX12_size 1 (.ifCond .ge 8) 3 4 := ⟨by decide +kernel, rfl⟩
theorem dX12_size_4 : zd cX12_size 4 (.iload_n 0) 1 5 := ⟨by decide +kernel, rfl⟩
theorem dX12_size_5 : zd cX12_size 5 (.ineg) 1 6 := ⟨by decide +kernel, rfl⟩
theorem dX12_size_6 : zd cX12_size 6 (.goto 4) 3 9 := ⟨by decide +kernel, rfl⟩
theorem dX12_size_9 : zd cX12_size 9 (.iload_n 0) 1 10 := ⟨by decide +kernel, rfl⟩
theorem dX12_size_10 : zd cX12_size 10 (.ireturn) 1 11 := ⟨by decide +kernel, rfl⟩
theorem dX12_closest_0 : zd cX12_closest 0 (.aload_n 0) 1 1 := ⟨by decide +kernel, rfl⟩
theorem dX12_closest_1 : zd cX12_closest 1 (.iload_n 1) 1 2 := ⟨by decide +kernel, rfl⟩
theorem dX12_closest_2 : zd cX12_closest 2 (.invokevirtual 175) 3 5 := ⟨by decide +kernel, rfl⟩
theorem dX12_closest_5 : zd cX12_closest 5 (.ifCond .eq 13) 3 8 := ⟨by decide +kernel, rfl⟩
theorem dX12_closest_8 : zd cX12_closest 8 (.iload_n 2) 1 9 := ⟨by decide +kernel, rfl⟩
theorem dX12_closest_9 : zd cX12_closest 9 (.i2l) 1 10 := ⟨by decide +kernel, rfl⟩
theorem dX12_closest_10 : zd cX12_closest 10 (.lconst 0) 1 11 := ⟨by decide +kernel, rfl⟩
theorem dX12_closest_11 : zd cX12_closest 11 (.lconst 1) 1 12 := ⟨by decide +kernel, rfl⟩
theorem dX12_closest_12 : zd cX12_closest 12 (.invokestatic 163) 3 15 := ⟨by decide +kernel, rfl⟩
theorem dX12_closest_15 : zd cX12_closest 15 (.ifCond .ne 6) 3 18 := ⟨by decide +kernel, rfl⟩
theorem dX12_closest_18 : zd cX12_closest 18 (.bipush (-2)) 2 20 := ⟨by decide +kernel, rfl⟩
theorem dX12_closest_20 : zd cX12_closest 20 (.ireturn) 1 21 := ⟨by decide +kernel, rfl⟩
theorem dX12_closest_21 : zd cX12_closest 21 (.aload_n 0) 1 22 := ⟨by decide +kernel, rfl⟩
theorem dX12_closest_22 : zd cX12_closest 22 (.iload_n 1) 1 23 := ⟨by decide +kernel, rfl⟩
theorem dX12_closest_23 : zd cX12_closest 23 (.invokevirtual 193) 3 26 := ⟨by decide +kernel, rfl⟩
theorem dX12_closest_26 : zd cX12_closest 26 (.istore_n 3) 1 27 := ⟨by decide +kernel, rfl⟩
theorem dX12_closest_27 : zd cX12_closest 27 (.iload_n 3) 1 28 := ⟨by decide +kernel, rfl⟩
theorem dX12_closest_28 : zd cX12_closest 28 (.iconst 2) 1 29 := ⟨by decide +kernel, rfl⟩
theorem dX12_closest_29 : zd cX12_closest 29 (.if_icmp .ge 5) 3 32 := ⟨by decide +kernel, rfl⟩
theorem dX12_closest_32 : zd cX12_closest 32 (.iconst (-1)) 1 33 := ⟨by decide +kernel, rfl⟩
theorem dX12_closest_33 : zd cX12_closest 33 (.ireturn) 1 34 := ⟨by decide +kernel, rfl⟩
theorem dX12_closest_34 : zd cX12_closest 34 (.iconst 0) 1 35 := ⟨by decide +kernel, rfl⟩
theorem dX12_closest_35 : zd cX12_closest 35 (.istore 4) 2 37 := ⟨by decide +kernel, rfl⟩
theorem dX12_closest_37 : zd cX12_closest 37 (.iconst (-1)) 1 38 := ⟨by decide +kernel, rfl⟩
theorem dX12_closest_38 : zd cX12_closest 38 (.istore 5) 2 40 := ⟨by decide +kernel, rfl⟩
theorem dX12_closest_40 : zd cX12_closest 40 (.aload_n 0) 1 41 := ⟨by decide +kernel, rfl⟩
theorem dX12_closest_41 : zd cX12_closest 41 (.iload_n 1) 1 42 := ⟨by decide +kernel, rfl⟩
theorem dX12_closest_42 : zd cX12_closest 42 (.aload_n 0) 1 43 := ⟨by decide +kernel, rfl⟩
theorem dX12_closest_43 : zd cX12_closest 43 (.iload_n 1) 1 44 := ⟨by decide +kernel, rfl⟩
theorem dX12_closest_44 : zd cX12_closest 44 (.iconst 0) 1 45 := ⟨by decide +kernel, rfl⟩
theorem dX12_closest_45 : zd cX12_closest 45 (.invokevirtual 196) 3 48 := ⟨by decide +kernel, rfl⟩
theorem dX12_closest_48 : zd cX12_closest 48 (.invokevirtual 182) 3 51 := ⟨by decide +kernel, rfl⟩
theorem dX12_closest_51 : zd cX12_closest 51 (.istore 6) 2 53 := ⟨by decide +kernel, rfl⟩
theorem dX12_closest_53 : zd cX12_closest 53 (.iconst 1) 1 54 := ⟨by decide +kernel, rfl⟩
theorem dX12_closest_54 : zd cX12_closest 54 (.istore 7) 2 56 := ⟨by decide +kernel, rfl⟩
theorem dX12_closest_56 : zd cX12_closest 56 (.iload 7) 2 58 := ⟨by decide +kernel, rfl⟩
theorem dX12_closest_58 : zd cX12_closest 58 (.iload_n 3) 1 59 := ⟨by decide +kernel, rfl⟩
theorem dX12_closest_59 : zd cX12_closest 59 (.if_icmp .ge 86) 3 62 := ⟨by decide +kernel, rfl⟩
theorem dX12_closest_62 : zd cX12_closest 62 (.aload_n 0) 1 63 := ⟨by decide +kernel, rfl⟩
theorem dX12_closest_63 : zd cX12_closest 63 (.iload_n 1) 1 64 := ⟨by decide +kernel, rfl⟩
theorem dX12_closest_64 : zd cX12_closest 64 (.aload_n 0) 1 65 := ⟨by decide +kernel, rfl⟩
theorem dX12_closest_65 : zd cX12_closest 65 (.iload_n 1) 1 66 := ⟨by decide +kernel, rfl⟩
theorem dX12_closest_66 : zd cX12_closest 66 (.iload 7) 2 68 := ⟨by decide +kernel, rfl⟩
theorem dX12_closest_68 : zd cX12_closest 68 (.invokevirtual 196) 3 71 := ⟨by decide +kernel, rfl⟩
theorem dX12_closest_71 : zd cX12_closest 71 (.invokevirtual 182) 3 74 := ⟨by decide +kernel, rfl⟩
theorem dX12_closest_74 : zd cX12_closest 74 (.istore 8) 2 76 := ⟨by decide +kernel, rfl⟩
theorem dX12_closest_76 : zd cX12_closest 76 (.iload 8) 2 78 := ⟨by decide +kernel, rfl⟩
theorem dX12_closest_78 : zd cX12_closest 78 (.iload 6) 2 80 := ⟨by decide +kernel, rfl⟩
theorem dX12_closest_80 : zd cX12_closest 80 (.isub) 1 81 := ⟨by decide +kernel, rfl⟩
theorem dX12_closest_81 : zd cX12_closest 81 (.invokestatic 199) 3 84 := ⟨by decide +kernel, rfl⟩
theorem dX12_closest_84 : zd cX12_closest 84 (.istore 9) 2 86 := ⟨by decide +kernel, rfl⟩
theorem dX12_closest_86 : zd cX12_closest 86 (.iload 5) 2 88 := ⟨by decide +kernel, rfl⟩
theorem dX12_closest_88 : zd cX12_closest 88 (.ifCond .lt 10) 3 91 := ⟨by decide +kernel, rfl⟩
theorem dX12_closest_91 : zd cX12_closest 91 (.iload 9) 2 93 := ⟨by decide +kernel, rfl⟩
theorem dX12_closest_93 : zd cX12_closest 93 (.iload 5) 2 95 := ⟨by decide +kernel, rfl⟩
theorem dX12_closest_95 : zd cX12_closest 95 (.if_icmp .ge 15) 3 98 := ⟨by decide +kernel, rfl⟩
theorem dX12_closest_98 : zd cX12_closest 98 (.aload_n 0) 1 99 := ⟨by decide +kernel, rfl⟩
theorem dX12_closest_99 : zd cX12_closest 99 (.iload_n 1) 1 100 := ⟨by decide +kernel, rfl⟩
theorem dX12_closest_100 : zd cX12_closest 100 (.iload 7) 2 102 := ⟨by decide +kernel, rfl⟩
theorem dX12_closest_102 : zd cX12_closest 102 (.iconst 1) 1 103 := ⟨by decide +kernel, rfl⟩
theorem dX12_closest_103 : zd cX12_closest 103 (.isub) 1 104 := ⟨by decide +kernel, rfl⟩
theorem dX12_closest_104 : zd cX12_closest 104 (.invokevirtual 196) 3 107 := ⟨by decide +kernel, rfl⟩
theorem dX12_closest_107 : zd cX12_closest 107 (.goto 5) 3 110 := ⟨by decide +kernel, rfl⟩
theorem dX12_closest_110 : zd cX12_closest 110 (.iload 4) 2 112 := ⟨by decide +kernel, rfl⟩
theorem dX12_closest_112 : zd cX12_closest 112 (.istore 4) 2 114 := ⟨by decide +kernel, rfl⟩
theorem dX12_closest_114 : zd cX12_closest 114 (.iload 5) 2 116 := ⟨by decide +kernel, rfl⟩
theorem dX12_closest_116 : zd cX12_closest 116 (.ifCond .lt 10) 3 119 := ⟨by decide +kernel, rfl⟩
theorem dX12_closest_119 : zd cX12_closest 119 (.iload 9) 2 121 := ⟨by decide +kernel, rfl⟩
theorem dX12_closest_121 : zd cX12_closest 121 (.iload 5) 2 123 := ⟨by decide +kernel, rfl⟩
theorem dX12_closest_123 : zd cX12_closest 123 (.if_icmp .ge 8) 3 126 := ⟨by decide +kernel, rfl⟩
theorem dX12_closest_126 : zd cX12_closest 126 (.iload 9) 2 128 := ⟨by decide +kernel, rfl⟩
theorem dX12_closest_128 : zd cX12_closest 128 (.goto 5) 3 131 := ⟨by decide +kernel, rfl⟩
theorem dX12_closest_131 : zd cX12_closest 131 (.iload 5) 2 133 := ⟨by decide +kernel, rfl⟩
theorem dX12_closest_133 : zd cX12_closest 133 (.istore 5) 2 135 := ⟨by decide +kernel, rfl⟩
theorem dX12_closest_135 : zd cX12_closest 135 (.iload 8) 2 137 := ⟨by decide +kernel, rfl⟩
theorem dX12_closest_137 : zd cX12_closest 137 (.istore 6) 2 139 := ⟨by decide +kernel, rfl⟩
theorem dX12_closest_139 : zd cX12_closest 139 (.iinc 7 1) 3 142 := ⟨by decide +kernel, rfl⟩
theorem dX12_closest_142 : zd cX12_closest 142 (.goto (-86)) 3 145 := ⟨by decide +kernel, rfl⟩
theorem dX12_closest_145 : zd cX12_closest 145 (.iload_n 2) 1 146 := ⟨by decide +kernel, rfl⟩
theorem dX12_closest_146 : zd cX12_closest 146 (.ifCond .ne 8) 3 149 := ⟨by decide +kernel, rfl⟩
theorem dX12_closest_149 : zd cX12_closest 149 (.iload 4) 2 151 := ⟨by decide +kernel, rfl⟩
theorem dX12_closest_151 : zd cX12_closest 151 (.goto 5) 3 154 := ⟨by decide +kernel, rfl⟩
theorem dX12_closest_154 : zd cX12_closest 154 (.iload 5) 2 156 := ⟨by decide +kernel, rfl⟩
theorem dX12_closest_156 : zd cX12_closest 156 (.ireturn) 1 157 := ⟨by decide +kernel, rfl⟩
theorem dX12_off_0 : zd cX12_off 0 (.iload_n 1) 1 1 := ⟨by decide +kernel, rfl⟩
theorem dX12_off_1 : zd cX12_off 1 (.i2l) 1 2 := ⟨by decide +kernel, rfl⟩
theorem dX12_off_2 : zd cX12_off 2 (.ldc2_w 202) 3 5 := ⟨by decide +kernel, rfl⟩
theorem dX12_off_5 : zd cX12_off 5 (.ldc2_w 204) 3 8 := ⟨by decide +kernel, rfl⟩
theorem dX12_off_8 : zd cX12_off 8 (.invokestatic 163) 3 11 := ⟨by decide +kernel, rfl⟩
theorem dX12_off_11 : zd cX12_off 11 (.ifCond .ne 6) 3 14 := ⟨by decide +kernel, rfl⟩
theorem dX12_off_14 : zd cX12_off 14 (.ldc 186) 2 16 := ⟨by decide +kernel, rfl⟩
theorem dX12_off_16 : zd cX12_off 16 (.ireturn) 1 17 := ⟨by decide +kernel, rfl⟩
theorem dX12_off_17 : zd cX12_off 17 (.aload_n 0) 1 18 := ⟨by decide +kernel, rfl⟩
theorem dX12_off_18 : zd cX12_off 18 (.getfield 206) 3 21 := ⟨by decide +kernel, rfl⟩
theorem dX12_off_21 : zd cX12_off 21 (.istore_n 2) 1 22 := ⟨by decide +kernel, rfl⟩
theorem dX12_off_22 : zd cX12_off 22 (.aload_n 0) 1 23 := ⟨by decide +kernel, rfl⟩
theorem dX12_off_23 : zd cX12_off 23 (.iload_n 1) 1 24 := ⟨by decide +kernel, rfl⟩
theorem dX12_off_24 : zd cX12_off 24 (.putfield 206) 3 27 := ⟨by decide +kernel, rfl⟩
theorem dX12_off_27 : zd cX12_off 27 (.iload_n 2) 1 28 := ⟨by decide +kernel, rfl⟩
theorem dX12_off_28 : zd cX12_off 28 (.ireturn) 1 29 := ⟨by decide +kernel, rfl⟩
theorem dX12_set_0 : zd cX12_set 0 (.aload_n 0) 1 1 := ⟨by decide +kernel, rfl⟩
theorem dX12_set_1 : zd cX12_set 1 (.iload_n 1) 1 2 := ⟨by decide +kernel, rfl⟩
theorem dX12_set_2 : zd cX12_set 2 (.invokevirtual 175) 3 5 := ⟨by decide +kernel, rfl⟩
theorem dX12_set_5 : zd cX12_set 5 (.ifCond .eq 44) 3 8 := ⟨by decide +kernel, rfl⟩
theorem dX12_set_8 : zd cX12_set 8 (.iload_n 2) 1 9 := ⟨by decide +kernel, rfl⟩
theorem dX12_set_9 : zd cX12_set 9 (.invokestatic 179) 3 12 := ⟨by decide +kernel, rfl⟩
theorem dX12_set_12 : zd cX12_set 12 (.ifCond .eq 37) 3 15 := ⟨by decide +kernel, rfl⟩
theorem dX12_set_15 : zd cX12_set 15 (.aload_n 0) 1 16 := ⟨by decide +kernel, rfl⟩
theorem dX12_set_16 : zd cX12_set 16 (.iload_n 3) 1 17 := ⟨by decide +kernel, rfl⟩
theorem dX12_set_17 : zd cX12_set 17 (.invokevirtual 175) 3 20 := ⟨by decide +kernel, rfl⟩
theorem dX12_set_20 : zd cX12_set 20 (.ifCond .eq 29) 3 23 := ⟨by decide +kernel, rfl⟩
theorem dX12_set_23 : zd cX12_set 23 (.iload 4) 2 25 := ⟨by decide +kernel, rfl⟩
theorem dX12_set_25 : zd cX12_set 25 (.invokestatic 179) 3 28 := ⟨by decide +kernel, rfl⟩
theorem dX12_set_28 : zd cX12_set 28 (.ifCond .eq 21) 3 31 := ⟨by decide +kernel, rfl⟩
theorem dX12_set_31 : zd cX12_set 31 (.aload_n 0) 1 32 := ⟨by decide +kernel, rfl⟩
theorem dX12_set_32 : zd cX12_set 32 (.getfield 13) 3 35 := ⟨by decide +kernel, rfl⟩
theorem dX12_set_35 : zd cX12_set 35 (.iload_n 1) 1 36 := ⟨by decide +kernel, rfl⟩
theorem dX12_set_36 : zd cX12_set 36 (.baload) 1 37 := ⟨by decide +kernel, rfl⟩
theorem dX12_set_37 : zd cX12_set 37 (.ifCond .eq 12) 3 40 := ⟨by decide +kernel, rfl⟩
theorem dX12_set_40 : zd cX12_set 40 (.aload_n 0) 1 41 := ⟨by decide +kernel, rfl⟩
theorem dX12_set_41 : zd cX12_set 41 (.getfield 13) 3 44 := ⟨by decide +kernel, rfl⟩
theorem dX12_set_44 : zd cX12_set 44 (.iload_n 3) 1 45 := ⟨by decide +kernel, rfl⟩
theorem dX12_set_45 : zd cX12_set 45 (.baload) 1 46 := ⟨by decide +kernel, rfl⟩
theorem dX12_set_46 : zd cX12_set 46 (.ifCond .eq 6) 3 49 := ⟨by decide +kernel, rfl⟩
theorem dX12_set_49 : zd cX12_set 49 (.ldc 186) 2 51 := ⟨by decide +kernel, rfl⟩
theorem dX12_set_51 : zd cX12_set 51 (.ireturn) 1 52 := ⟨by decide +kernel, rfl⟩
theorem dX12_set_52 : zd cX12_set 52 (.aload_n 0) 1 53 := ⟨by decide +kernel, rfl⟩
theorem dX12_set_53 : zd cX12_set 53 (.aload_n 0) 1 54 := ⟨by decide +kernel, rfl⟩
theorem dX12_set_54 : zd cX12_set 54 (.iload_n 3) 1 55 := ⟨by decide +kernel, rfl⟩
theorem dX12_set_55 : zd cX12_set 55 (.iload 4) 2 57 := ⟨by decide +kernel, rfl⟩
theorem dX12_set_57 : zd cX12_set 57 (.invokevirtual 182) 3 60 := ⟨by decide +kernel, rfl⟩
theorem dX12_set_60 : zd cX12_set 60 (.aload_n 0) 1 61 := ⟨by decide +kernel, rfl⟩
theorem dX12_set_61 : zd cX12_set 61 (.iload_n 1) 1 62 := ⟨by decide +kernel, rfl⟩
theorem dX12_set_62 : zd cX12_set 62 (.iload_n 2) 1 63 := ⟨by decide +kernel, rfl⟩
theorem dX12_set_63 : zd cX12_set 63 (.invokevirtual 182) 3 66 := ⟨by decide +kernel, rfl⟩
theorem dX12_set_66 : zd cX12_set 66 (.isub) 1 67 := ⟨by decide +kernel, rfl⟩
theorem dX12_set_67 : zd cX12_set 67 (.putfield 206) 3 70 := ⟨by decide +kernel, rfl⟩
theorem dX12_set_70 : zd cX12_set 70 (.aload_n 0) 1 71 := ⟨by decide +kernel, rfl⟩
theorem dX12_set_71 : zd cX12_set 71 (.getfield 206) 3 74 := ⟨by decide +kernel, rfl⟩
theorem dX12_set_74 : zd cX12_set 74 (.ireturn) 1 75 := ⟨by decide +kernel, rfl⟩
theorem dX12_against_0 : zd cX12_against 0 (.aload_n 0) 1 1 := ⟨by decide +kernel, rfl⟩
theorem dX12_against_1 : zd cX12_against 1 (.iload_n 1) 1 2 := ⟨by decide +kernel, rfl⟩
theorem dX12_against_2 : zd cX12_against 2 (.invokevirtual 175) 3 5 := ⟨by decide +kernel, rfl⟩
theorem dX12_against_5 : zd cX12_against 5 (.ifCond .eq 18) 3 8 := ⟨by decide +kernel, rfl⟩
theorem dX12_against_8 : zd cX12_against 8 (.iload_n 2) 1 9 := ⟨by decide +kernel, rfl⟩
theorem dX12_against_9 : zd cX12_against 9 (.invokestatic 179) 3 12 := ⟨by decide +kernel, rfl⟩
theorem dX12_against_12 : zd cX12_against 12 (.ifCond .eq 11) 3 15 := ⟨by decide +kernel, rfl⟩
theorem dX12_against_15 : zd cX12_against 15 (.aload_n 0) 1 16 := ⟨by decide +kernel, rfl⟩
theorem dX12_against_16 : zd cX12_against 16 (.iload_n 3) 1 17 := ⟨by decide +kernel, rfl⟩
theorem dX12_against_17 : zd cX12_against 17 (.invokevirtual 175) 3 20 := ⟨by decide +kernel, rfl⟩
theorem dX12_against_20 : zd cX12_against 20 (.ifCond .ne 6) 3 23 := ⟨by decide +kernel, rfl⟩
theorem dX12_against_23 : zd cX12_against 23 (.ldc 186) 2 25 := ⟨by decide +kernel, rfl⟩
theorem dX12_against_25 : zd cX12_against 25 (.ireturn) 1 26 := ⟨by decide +kernel, rfl⟩
theorem dX12_against_26 : zd cX12_against 26 (.aload_n 0) 1 27 := ⟨by decide +kernel, rfl⟩
theorem dX12_against_27 : zd cX12_against 27 (.iload_n 1) 1 28 := ⟨by decide +kernel, rfl⟩
theorem dX12_against_28 : zd cX12_against 28 (.iload_n 2) 1 29 := ⟨by decide +kernel, rfl⟩
theorem dX12_against_29 : zd cX12_against 29 (.invokevirtual 182) 3 32 := ⟨by decide +kernel, rfl⟩
theorem dX12_against_32 : zd cX12_against 32 (.aload_n 0) 1 33 := ⟨by decide +kernel, rfl⟩
theorem dX12_against_33 : zd cX12_against 33 (.getfield 13) 3 36 := ⟨by decide +kernel, rfl⟩
theorem dX12_against_36 : zd cX12_against 36 (.iload_n 1) 1 37 := ⟨by decide +kernel, rfl⟩
theorem dX12_against_37 : zd cX12_against 37 (.baload) 1 38 := ⟨by decide +kernel, rfl⟩
theorem dX12_against_38 : zd cX12_against 38 (.ifCond .eq 10) 3 41 := ⟨by decide +kernel, rfl⟩
theorem dX12_against_41 : zd cX12_against 41 (.aload_n 0) 1 42 := ⟨by decide +kernel, rfl⟩
theorem dX12_against_42 : zd cX12_against 42 (.getfield 206) 3 45 := ⟨by decide +kernel, rfl⟩
theorem dX12_against_45 : zd cX12_against 45 (.goto 4) 3 48 := ⟨by decide +kernel, rfl⟩
theorem dX12_against_48 : zd cX12_against 48 (.iconst 0) 1 49 := ⟨by decide +kernel, rfl⟩
theorem dX12_against_49 : zd cX12_against 49 (.iadd) 1 50 := ⟨by decide +kernel, rfl⟩
theorem dX12_against_50 : zd cX12_against 50 (.aload_n 0) 1 51 := ⟨by decide +kernel, rfl⟩
theorem dX12_against_51 : zd cX12_against 51 (.getfield 13) 3 54 := ⟨by decide +kernel, rfl⟩
theorem dX12_against_54 : zd cX12_against 54 (.iload_n 3) 1 55 := ⟨by decide +kernel, rfl⟩
theorem dX12_against_55 : zd cX12_against 55 (.baload) 1 56 := ⟨by decide +kernel, rfl⟩
theorem dX12_against_56 : zd cX12_against 56 (.ifCond .eq 10) 3 59 := ⟨by decide +kernel, rfl⟩
theorem dX12_against_59 : zd cX12_against 59 (.aload_n 0) 1 60 := ⟨by decide +kernel, rfl⟩
theorem dX12_against_60 : zd cX12_against 60 (.getfield 206) 3 63 := ⟨by decide +kernel, rfl⟩
theorem dX12_against_63 : zd cX12_against 63 (.goto 4) 3 66 := ⟨by decide +kernel, rfl⟩
theorem dX12_against_66 : zd cX12_against 66 (.iconst 0) 1 67 := ⟨by decide +kernel, rfl⟩
theorem dX12_against_67 : zd cX12_against 67 (.isub) 1 68 := ⟨by decide +kernel, rfl⟩
theorem dX12_against_68 : zd cX12_against 68 (.ireturn) 1 69 := ⟨by decide +kernel, rfl⟩
theorem dX12_isPlace_0 : zd cX12_isPlace 0 (.iload_n 0) 1 1 := ⟨by decide +kernel, rfl⟩
theorem dX12_isPlace_1 : zd cX12_isPlace 1 (.i2l) 1 2 := ⟨by decide +kernel, rfl⟩
theorem dX12_isPlace_2 : zd cX12_isPlace 2 (.ldc2_w 209) 3 5 := ⟨by decide +kernel, rfl⟩
theorem dX12_isPlace_5 : zd cX12_isPlace 5 (.ldc2_w 211) 3 8 := ⟨by decide +kernel, rfl⟩
theorem dX12_isPlace_8 : zd cX12_isPlace 8 (.invokestatic 163) 3 11 := ⟨by decide +kernel, rfl⟩
theorem dX12_isPlace_11 : zd cX12_isPlace 11 (.ireturn) 1 12 := ⟨by decide +kernel, rfl⟩
theorem dX12_nearest_0 : zd cX12_nearest 0 (.aload_n 0) 1 1 := ⟨by decide +kernel, rfl⟩
theorem dX12_nearest_1 : zd cX12_nearest 1 (.iload_n 1) 1 2 := ⟨by decide +kernel, rfl⟩
theorem dX12_nearest_2 : zd cX12_nearest 2 (.invokevirtual 175) 3 5 := ⟨by decide +kernel, rfl⟩
theorem dX12_nearest_5 : zd cX12_nearest 5 (.ifCond .eq 10) 3 8 := ⟨by decide +kernel, rfl⟩
theorem dX12_nearest_8 : zd cX12_nearest 8 (.iload_n 2) 1 9 := ⟨by decide +kernel, rfl⟩
theorem dX12_nearest_9 : zd cX12_nearest 9 (.invokestatic 213) 3 12 := ⟨by decide +kernel, rfl⟩
theorem dX12_nearest_12 : zd cX12_nearest 12 (.ifCond .ne 6) 3 15 := ⟨by decide +kernel, rfl⟩
theorem dX12_nearest_15 : zd cX12_nearest 15 (.bipush (-2)) 2 17 := ⟨by decide +kernel, rfl⟩
theorem dX12_nearest_17 : zd cX12_nearest 17 (.ireturn) 1 18 := ⟨by decide +kernel, rfl⟩
theorem dX12_nearest_18 : zd cX12_nearest 18 (.iconst (-1)) 1 19 := ⟨by decide +kernel, rfl⟩
theorem dX12_nearest_19 : zd cX12_nearest 19 (.istore_n 3) 1 20 := ⟨by decide +kernel, rfl⟩
theorem dX12_nearest_20 : zd cX12_nearest 20 (.iconst (-1)) 1 21 := ⟨by decide +kernel, rfl⟩
theorem dX12_nearest_21 : zd cX12_nearest 21 (.istore 4) 2 23 := ⟨by decide +kernel, rfl⟩
theorem dX12_nearest_23 : zd cX12_nearest 23 (.iconst 0) 1 24 := ⟨by decide +kernel, rfl⟩
theorem dX12_nearest_24 : zd cX12_nearest 24 (.istore 5) 2 26 := ⟨by decide +kernel, rfl⟩
theorem dX12_nearest_26 : zd cX12_nearest 26 (.iload 5) 2 28 := ⟨by decide +kernel, rfl⟩
theorem dX12_nearest_28 : zd cX12_nearest 28 (.aload_n 0) 1 29 := ⟨by decide +kernel, rfl⟩
theorem dX12_nearest_29 : zd cX12_nearest 29 (.iload_n 1) 1 30 := ⟨by decide +kernel, rfl⟩
theorem dX12_nearest_30 : zd cX12_nearest 30 (.invokevirtual 193) 3 33 := ⟨by decide +kernel, rfl⟩
theorem dX12_nearest_33 : zd cX12_nearest 33 (.if_icmp .ge 73) 3 36 := ⟨by decide +kernel, rfl⟩
theorem dX12_nearest_36 : zd cX12_nearest 36 (.aload_n 0) 1 37 := ⟨by decide +kernel, rfl⟩
theorem dX12_nearest_37 : zd cX12_nearest 37 (.iload_n 1) 1 38 := ⟨by decide +kernel, rfl⟩
theorem dX12_nearest_38 : zd cX12_nearest 38 (.aload_n 0) 1 39 := ⟨by decide +kernel, rfl⟩
theorem dX12_nearest_39 : zd cX12_nearest 39 (.iload_n 1) 1 40 := ⟨by decide +kernel, rfl⟩
theorem dX12_nearest_40 : zd cX12_nearest 40 (.iload 5) 2 42 := ⟨by decide +kernel, rfl⟩
theorem dX12_nearest_42 : zd cX12_nearest 42 (.invokevirtual 196) 3 45 := ⟨by decide +kernel, rfl⟩
theorem dX12_nearest_45 : zd cX12_nearest 45 (.invokevirtual 182) 3 48 := ⟨by decide +kernel, rfl⟩
theorem dX12_nearest_48 : zd cX12_nearest 48 (.iload_n 2) 1 49 := ⟨by decide +kernel, rfl⟩
theorem dX12_nearest_49 : zd cX12_nearest 49 (.isub) 1 50 := ⟨by decide +kernel, rfl⟩
theorem dX12_nearest_50 : zd cX12_nearest 50 (.invokestatic 199) 3 53 := ⟨by decide +kernel, rfl⟩
theorem dX12_nearest_53 : zd cX12_nearest 53 (.istore 6) 2 55 := ⟨by decide +kernel, rfl⟩
theorem dX12_nearest_55 : zd cX12_nearest 55 (.iload 4) 2 57 := ⟨by decide +kernel, rfl⟩
theorem dX12_nearest_57 : zd cX12_nearest 57 (.ifCond .lt 10) 3 60 := ⟨by decide +kernel, rfl⟩
theorem dX12_nearest_60 : zd cX12_nearest 60 (.iload 6) 2 62 := ⟨by decide +kernel, rfl⟩
theorem dX12_nearest_62 : zd cX12_nearest 62 (.iload 4) 2 64 := ⟨by decide +kernel, rfl⟩
theorem dX12_nearest_64 : zd cX12_nearest 64 (.if_icmp .ge 13) 3 67 := ⟨by decide +kernel, rfl⟩
theorem dX12_nearest_67 : zd cX12_nearest 67 (.aload_n 0) 1 68 := ⟨by decide +kernel, rfl⟩
theorem dX12_nearest_68 : zd cX12_nearest 68 (.iload_n 1) 1 69 := ⟨by decide +kernel, rfl⟩
theorem dX12_nearest_69 : zd cX12_nearest 69 (.iload 5) 2 71 := ⟨by decide +kernel, rfl⟩
theorem dX12_nearest_71 : zd cX12_nearest 71 (.invokevirtual 196) 3 74 := ⟨by decide +kernel, rfl⟩
theorem dX12_nearest_74 : zd cX12_nearest 74 (.goto 4) 3 77 := ⟨by decide +kernel, rfl⟩
theorem dX12_nearest_77 : zd cX12_nearest 77 (.iload_n 3) 1 78 := ⟨by decide +kernel, rfl⟩
theorem dX12_nearest_78 : zd cX12_nearest 78 (.istore_n 3) 1 79 := ⟨by decide +kernel, rfl⟩
theorem dX12_nearest_79 : zd cX12_nearest 79 (.iload 4) 2 81 := ⟨by decide +kernel, rfl⟩
theorem dX12_nearest_81 : zd cX12_nearest 81 (.ifCond .lt 10) 3 84 := ⟨by decide +kernel, rfl⟩
theorem dX12_nearest_84 : zd cX12_nearest 84 (.iload 6) 2 86 := ⟨by decide +kernel, rfl⟩
theorem dX12_nearest_86 : zd cX12_nearest 86 (.iload 4) 2 88 := ⟨by decide +kernel, rfl⟩
theorem dX12_nearest_88 : zd cX12_nearest 88 (.if_icmp .ge 8) 3 91 := ⟨by decide +kernel, rfl⟩
theorem dX12_nearest_91 : zd cX12_nearest 91 (.iload 6) 2 93 := ⟨by decide +kernel, rfl⟩
theorem dX12_nearest_93 : zd cX12_nearest 93 (.goto 5) 3 96 := ⟨by decide +kernel, rfl⟩
theorem dX12_nearest_96 : zd cX12_nearest 96 (.iload 4) 2 98 := ⟨by decide +kernel, rfl⟩
theorem dX12_nearest_98 : zd cX12_nearest 98 (.istore 4) 2 100 := ⟨by decide +kernel, rfl⟩
theorem dX12_nearest_100 : zd cX12_nearest 100 (.iinc 5 1) 3 103 := ⟨by decide +kernel, rfl⟩
theorem dX12_nearest_103 : zd cX12_nearest 103 (.goto (-77)) 3 106 := ⟨by decide +kernel, rfl⟩
theorem dX12_nearest_106 : zd cX12_nearest 106 (.iload_n 3) 1 107 := ⟨by decide +kernel, rfl⟩
theorem dX12_nearest_107 : zd cX12_nearest 107 (.ireturn) 1 108 := ⟨by decide +kernel, rfl⟩
theorem dX12_between_0 : zd cX12_between 0 (.aload_n 0) 1 1 := ⟨by decide +kernel, rfl⟩
theorem dX12_between_1 : zd cX12_between 1 (.iload_n 1) 1 2 := ⟨by decide +kernel, rfl⟩
theorem dX12_between_2 : zd cX12_between 2 (.invokevirtual 175) 3 5 := ⟨by decide +kernel, rfl⟩
theorem dX12_between_5 : zd cX12_between 5 (.ifCond .eq 10) 3 8 := ⟨by decide +kernel, rfl⟩
theorem dX12_between_8 : zd cX12_between 8 (.iload_n 2) 1 9 := ⟨by decide +kernel, rfl⟩
theorem dX12_between_9 : zd cX12_between 9 (.invokestatic 213) 3 12 := ⟨by decide +kernel, rfl⟩
theorem dX12_between_12 : zd cX12_between 12 (.ifCond .ne 6) 3 15 := ⟨by decide +kernel, rfl⟩
theorem dX12_between_15 : zd cX12_between 15 (.bipush (-2)) 2 17 := ⟨by decide +kernel, rfl⟩
theorem dX12_between_17 : zd cX12_between 17 (.ireturn) 1 18 := ⟨by decide +kernel, rfl⟩
theorem dX12_between_18 : zd cX12_between 18 (.aload_n 0) 1 19 := ⟨by decide +kernel, rfl⟩
theorem dX12_between_19 : zd cX12_between 19 (.iload_n 1) 1 20 := ⟨by decide +kernel, rfl⟩
theorem dX12_between_20 : zd cX12_between 20 (.invokevirtual 193) 3 23 := ⟨by decide +kernel, rfl⟩
theorem dX12_between_23 : zd cX12_between 23 (.istore_n 3) 1 24 := ⟨by decide +kernel, rfl⟩
theorem dX12_between_24 : zd cX12_between 24 (.iload_n 3) 1 25 := ⟨by decide +kernel, rfl⟩
theorem dX12_between_25 : zd cX12_between 25 (.ifCond .ne 7) 3 28 := ⟨by decide +kernel, rfl⟩
theorem dX12_between_28 : zd cX12_between 28 (.iconst 0) 1 29 := ⟨by decide +kernel, rfl⟩
theorem dX12_between_29 : zd cX12_between 29 (.goto 14) 3 32 := ⟨by decide +kernel, rfl⟩
theorem dX12_between_32 : zd cX12_between 32 (.aload_n 0) 1 33 := ⟨by decide +kernel, rfl⟩
theorem dX12_between_33 : zd cX12_between 33 (.iload_n 1) 1 34 := ⟨by decide +kernel, rfl⟩
theorem dX12_between_34 : zd cX12_between 34 (.aload_n 0) 1 35 := ⟨by decide +kernel, rfl⟩
theorem dX12_between_35 : zd cX12_between 35 (.iload_n 1) 1 36 := ⟨by decide +kernel, rfl⟩
theorem dX12_between_36 : zd cX12_between 36 (.iconst 0) 1 37 := ⟨by decide +kernel, rfl⟩
theorem dX12_between_37 : zd cX12_between 37 (.invokevirtual 196) 3 40 := ⟨by decide +kernel, rfl⟩
theorem dX12_between_40 : zd cX12_between 40 (.invokevirtual 182) 3 43 := ⟨by decide +kernel, rfl⟩
theorem dX12_between_43 : zd cX12_between 43 (.istore 4) 2 45 := ⟨by decide +kernel, rfl⟩
theorem dX12_between_45 : zd cX12_between 45 (.iconst 1) 1 46 := ⟨by decide +kernel, rfl⟩
theorem dX12_between_46 : zd cX12_between 46 (.istore 5) 2 48 := ⟨by decide +kernel, rfl⟩
theorem dX12_between_48 : zd cX12_between 48 (.iload 5) 2 50 := ⟨by decide +kernel, rfl⟩
theorem dX12_between_50 : zd cX12_between 50 (.iload_n 3) 1 51 := ⟨by decide +kernel, rfl⟩
theorem dX12_between_51 : zd cX12_between 51 (.if_icmp .ge 115) 3 54 := ⟨by decide +kernel, rfl⟩
theorem dX12_between_54 : zd cX12_between 54 (.aload_n 0) 1 55 := ⟨by decide +kernel, rfl⟩
theorem dX12_between_55 : zd cX12_between 55 (.iload_n 1) 1 56 := ⟨by decide +kernel, rfl⟩
theorem dX12_between_56 : zd cX12_between 56 (.aload_n 0) 1 57 := ⟨by decide +kernel, rfl⟩
theorem dX12_between_57 : zd cX12_between 57 (.iload_n 1) 1 58 := ⟨by decide +kernel, rfl⟩
theorem dX12_between_58 : zd cX12_between 58 (.iload 5) 2 60 := ⟨by decide +kernel, rfl⟩
theorem dX12_between_60 : zd cX12_between 60 (.invokevirtual 196) 3 63 := ⟨by decide +kernel, rfl⟩
theorem dX12_between_63 : zd cX12_between 63 (.invokevirtual 182) 3 66 := ⟨by decide +kernel, rfl⟩
theorem dX12_between_66 : zd cX12_between 66 (.istore 6) 2 68 := ⟨by decide +kernel, rfl⟩
theorem dX12_between_68 : zd cX12_between 68 (.iload 6) 2 70 := ⟨by decide +kernel, rfl⟩
theorem dX12_between_70 : zd cX12_between 70 (.iload 4) 2 72 := ⟨by decide +kernel, rfl⟩
theorem dX12_between_72 : zd cX12_between 72 (.if_icmp .eq 84) 3 75 := ⟨by decide +kernel, rfl⟩
theorem dX12_between_75 : zd cX12_between 75 (.iload_n 2) 1 76 := ⟨by decide +kernel, rfl⟩
theorem dX12_between_76 : zd cX12_between 76 (.i2l) 1 77 := ⟨by decide +kernel, rfl⟩
theorem dX12_between_77 : zd cX12_between 77 (.iload 4) 2 79 := ⟨by decide +kernel, rfl⟩
theorem dX12_between_79 : zd cX12_between 79 (.i2l) 1 80 := ⟨by decide +kernel, rfl⟩
theorem dX12_between_80 : zd cX12_between 80 (.iload 6) 2 82 := ⟨by decide +kernel, rfl⟩
theorem dX12_between_82 : zd cX12_between 82 (.i2l) 1 83 := ⟨by decide +kernel, rfl⟩
theorem dX12_between_83 : zd cX12_between 83 (.invokestatic 163) 3 86 := ⟨by decide +kernel, rfl⟩
theorem dX12_between_86 : zd cX12_between 86 (.ifCond .ne 17) 3 89 := ⟨by decide +kernel, rfl⟩
theorem dX12_between_89 : zd cX12_between 89 (.iload_n 2) 1 90 := ⟨by decide +kernel, rfl⟩
theorem dX12_between_90 : zd cX12_between 90 (.i2l) 1 91 := ⟨by decide +kernel, rfl⟩
theorem dX12_between_91 : zd cX12_between 91 (.iload 6) 2 93 := ⟨by decide +kernel, rfl⟩
theorem dX12_between_93 : zd cX12_between 93 (.i2l) 1 94 := ⟨by decide +kernel, rfl⟩
theorem dX12_between_94 : zd cX12_between 94 (.iload 4) 2 96 := ⟨by decide +kernel, rfl⟩
theorem dX12_between_96 : zd cX12_between 96 (.i2l) 1 97 := ⟨by decide +kernel, rfl⟩
theorem dX12_between_97 : zd cX12_between 97 (.invokestatic 163) 3 100 := ⟨by decide +kernel, rfl⟩
theorem dX12_between_100 : zd cX12_between 100 (.ifCond .eq 56) 3 103 := ⟨by decide +kernel, rfl⟩
theorem dX12_between_103 : zd cX12_between 103 (.aload_n 0) 1 104 := ⟨by decide +kernel, rfl⟩
theorem dX12_between_104 : zd cX12_between 104 (.iload_n 1) 1 105 := ⟨by decide +kernel, rfl⟩
theorem dX12_between_105 : zd cX12_between 105 (.iload 5) 2 107 := ⟨by decide +kernel, rfl⟩
theorem dX12_between_107 : zd cX12_between 107 (.invokevirtual 196) 3 110 := ⟨by decide +kernel, rfl⟩
theorem dX12_between_110 : zd cX12_between 110 (.aload_n 0) 1 111 := ⟨by decide +kernel, rfl⟩
theorem dX12_between_111 : zd cX12_between 111 (.iload_n 1) 1 112 := ⟨by decide +kernel, rfl⟩
theorem dX12_between_112 : zd cX12_between 112 (.iload 5) 2 114 := ⟨by decide +kernel, rfl⟩
theorem dX12_between_114 : zd cX12_between 114 (.iconst 1) 1 115 := ⟨by decide +kernel, rfl⟩
theorem dX12_between_115 : zd cX12_between 115 (.isub) 1 116 := ⟨by decide +kernel, rfl⟩
theorem dX12_between_116 : zd cX12_between 116 (.invokevirtual 196) 3 119 := ⟨by decide +kernel, rfl⟩
theorem dX12_between_119 : zd cX12_between 119 (.isub) 1 120 := ⟨by decide +kernel, rfl⟩
theorem dX12_between_120 : zd cX12_between 120 (.i2l) 1 121 := ⟨by decide +kernel, rfl⟩
theorem dX12_between_121 : zd cX12_between 121 (.lstore 7) 2 123 := ⟨by decide +kernel, rfl⟩
theorem dX12_between_123 : zd cX12_between 123 (.aload_n 0) 1 124 := ⟨by decide +kernel, rfl⟩
theorem dX12_between_124 : zd cX12_between 124 (.iload_n 1) 1 125 := ⟨by decide +kernel, rfl⟩
theorem dX12_between_125 : zd cX12_between 125 (.iload 5) 2 127 := ⟨by decide +kernel, rfl⟩
theorem dX12_between_127 : zd cX12_between 127 (.iconst 1) 1 128 := ⟨by decide +kernel, rfl⟩
theorem dX12_between_128 : zd cX12_between 128 (.isub) 1 129 := ⟨by decide +kernel, rfl⟩
theorem dX12_between_129 : zd cX12_between 129 (.invokevirtual 196) 3 132 := ⟨by decide +kernel, rfl⟩
theorem dX12_between_132 : zd cX12_between 132 (.lload 7) 2 134 := ⟨by decide +kernel, rfl⟩
theorem dX12_between_134 : zd cX12_between 134 (.iload_n 2) 1 135 := ⟨by decide +kernel, rfl⟩
theorem dX12_between_135 : zd cX12_between 135 (.iload 4) 2 137 := ⟨by decide +kernel, rfl⟩
theorem dX12_between_137 : zd cX12_between 137 (.isub) 1 138 := ⟨by decide +kernel, rfl⟩
theorem dX12_between_138 : zd cX12_between 138 (.invokestatic 199) 3 141 := ⟨by decide +kernel, rfl⟩
theorem dX12_between_141 : zd cX12_between 141 (.i2l) 1 142 := ⟨by decide +kernel, rfl⟩
theorem dX12_between_142 : zd cX12_between 142 (.lmul) 1 143 := ⟨by decide +kernel, rfl⟩
theorem dX12_between_143 : zd cX12_between 143 (.iload 6) 2 145 := ⟨by decide +kernel, rfl⟩
theorem dX12_between_145 : zd cX12_between 145 (.iload 4) 2 147 := ⟨by decide +kernel, rfl⟩
theorem dX12_between_147 : zd cX12_between 147 (.isub) 1 148 := ⟨by decide +kernel, rfl⟩
theorem dX12_between_148 : zd cX12_between 148 (.invokestatic 199) 3 151 := ⟨by decide +kernel, rfl⟩
theorem dX12_between_151 : zd cX12_between 151 (.i2l) 1 152 := ⟨by decide +kernel, rfl⟩
theorem dX12_between_152 : zd cX12_between 152 (.ldiv) 1 153 := ⟨by decide +kernel, rfl⟩
theorem dX12_between_153 : zd cX12_between 153 (.l2i) 1 154 := ⟨by decide +kernel, rfl⟩
theorem dX12_between_154 : zd cX12_between 154 (.iadd) 1 155 := ⟨by decide +kernel, rfl⟩
theorem dX12_between_155 : zd cX12_between 155 (.ireturn) 1 156 := ⟨by decide +kernel, rfl⟩
theorem dX12_between_156 : zd cX12_between 156 (.iload 6) 2 158 := ⟨by decide +kernel, rfl⟩
theorem dX12_between_158 : zd cX12_between 158 (.istore 4) 2 160 := ⟨by decide +kernel, rfl⟩
theorem dX12_between_160 : zd cX12_between 160 (.iinc 5 1) 3 163 := ⟨by decide +kernel, rfl⟩
theorem dX12_between_163 : zd cX12_between 163 (.goto (-115)) 3 166 := ⟨by decide +kernel, rfl⟩
theorem dX12_between_166 : zd cX12_between 166 (.iconst (-1)) 1 167 := ⟨by decide +kernel, rfl⟩
theorem dX12_between_167 : zd cX12_between 167 (.ireturn) 1 168 := ⟨by decide +kernel, rfl⟩
theorem dX12_factor_0 : zd cX12_factor 0 (.iload_n 1) 1 1 := ⟨by decide +kernel, rfl⟩
theorem dX12_factor_1 : zd cX12_factor 1 (.i2l) 1 2 := ⟨by decide +kernel, rfl⟩
theorem dX12_factor_2 : zd cX12_factor 2 (.ldc2_w 149) 3 5 := ⟨by decide +kernel, rfl⟩
theorem dX12_factor_5 : zd cX12_factor 5 (.ldc2_w 216) 3 8 := ⟨by decide +kernel, rfl⟩
theorem dX12_factor_8 : zd cX12_factor 8 (.invokestatic 163) 3 11 := ⟨by decide +kernel, rfl⟩
theorem dX12_factor_11 : zd cX12_factor 11 (.ifCond .ne 6) 3 14 := ⟨by decide +kernel, rfl⟩
theorem dX12_factor_14 : zd cX12_factor 14 (.bipush (-2)) 2 16 := ⟨by decide +kernel, rfl⟩
theorem dX12_factor_16 : zd cX12_factor 16 (.ireturn) 1 17 := ⟨by decide +kernel, rfl⟩
theorem dX12_factor_17 : zd cX12_factor 17 (.aload_n 0) 1 18 := ⟨by decide +kernel, rfl⟩
theorem dX12_factor_18 : zd cX12_factor 18 (.getfield 218) 3 21 := ⟨by decide +kernel, rfl⟩
theorem dX12_factor_21 : zd cX12_factor 21 (.bipush 12) 2 23 := ⟨by decide +kernel, rfl⟩
theorem dX12_factor_23 : zd cX12_factor 23 (.if_icmp .ne 6) 3 26 := ⟨by decide +kernel, rfl⟩
theorem dX12_factor_26 : zd cX12_factor 26 (.bipush (-4)) 2 28 := ⟨by decide +kernel, rfl⟩
theorem dX12_factor_28 : zd cX12_factor 28 (.ireturn) 1 29 := ⟨by decide +kernel, rfl⟩
theorem dX12_factor_29 : zd cX12_factor 29 (.aload_n 0) 1 30 := ⟨by decide +kernel, rfl⟩
theorem dX12_factor_30 : zd cX12_factor 30 (.getfield 39) 3 33 := ⟨by decide +kernel, rfl⟩
theorem dX12_factor_33 : zd cX12_factor 33 (.aload_n 0) 1 34 := ⟨by decide +kernel, rfl⟩
theorem dX12_factor_34 : zd cX12_factor 34 (.getfield 218) 3 37 := ⟨by decide +kernel, rfl⟩
theorem dX12_factor_37 : zd cX12_factor 37 (.iload_n 1) 1 38 := ⟨by decide +kernel, rfl⟩
theorem dX12_factor_38 : zd cX12_factor 38 (.iastore) 1 39 := ⟨by decide +kernel, rfl⟩
theorem dX12_factor_39 : zd cX12_factor 39 (.aload_n 0) 1 40 := ⟨by decide +kernel, rfl⟩
theorem dX12_factor_40 : zd cX12_factor 40 (.dup) 1 41 := ⟨by decide +kernel, rfl⟩
theorem dX12_factor_41 : zd cX12_factor 41 (.getfield 218) 3 44 := ⟨by decide +kernel, rfl⟩
theorem dX12_factor_44 : zd cX12_factor 44 (.iconst 1) 1 45 := ⟨by decide +kernel, rfl⟩
theorem dX12_factor_45 : zd cX12_factor 45 (.iadd) 1 46 := ⟨by decide +kernel, rfl⟩
theorem dX12_factor_46 : zd cX12_factor 46 (.putfield 218) 3 49 := ⟨by decide +kernel, rfl⟩
theorem dX12_factor_49 : zd cX12_factor 49 (.aload_n 0) 1 50 := ⟨by decide +kernel, rfl⟩
theorem dX12_factor_50 : zd cX12_factor 50 (.getfield 218) 3 53 := ⟨by decide +kernel, rfl⟩
theorem dX12_factor_53 : zd cX12_factor 53 (.ireturn) 1 54 := ⟨by decide +kernel, rfl⟩
theorem dX12_clear_0 : zd cX12_clear 0 (.aload_n 0) 1 1 := ⟨by decide +kernel, rfl⟩
theorem dX12_clear_1 : zd cX12_clear 1 (.getfield 218) 3 4 := ⟨by decide +kernel, rfl⟩
theorem dX12_clear_4 : zd cX12_clear 4 (.istore_n 1) 1 5 := ⟨by decide +kernel, rfl⟩
theorem dX12_clear_5 : zd cX12_clear 5 (.aload_n 0) 1 6 := ⟨by decide +kernel, rfl⟩
theorem dX12_clear_6 : zd cX12_clear 6 (.iconst 0) 1 7 := ⟨by decide +kernel, rfl⟩
theorem dX12_clear_7 : zd cX12_clear 7 (.putfield 218) 3 10 := ⟨by decide +kernel, rfl⟩
theorem dX12_clear_10 : zd cX12_clear 10 (.iload_n 1) 1 11 := ⟨by decide +kernel, rfl⟩
theorem dX12_clear_11 : zd cX12_clear 11 (.ireturn) 1 12 := ⟨by decide +kernel, rfl⟩
theorem dX12_plainOf_0 : zd cX12_plainOf 0 (.aload_n 0) 1 1 := ⟨by decide +kernel, rfl⟩
theorem dX12_plainOf_1 : zd cX12_plainOf 1 (.getfield 221) 3 4 := ⟨by decide +kernel, rfl⟩
theorem dX12_plainOf_4 : zd cX12_plainOf 4 (.aload_n 0) 1 5 := ⟨by decide +kernel, rfl⟩
theorem dX12_plainOf_5 : zd cX12_plainOf 5 (.getfield 7) 3 8 := ⟨by decide +kernel, rfl⟩
theorem dX12_plainOf_8 : zd cX12_plainOf 8 (.if_icmp .eq 40) 3 11 := ⟨by decide +kernel, rfl⟩
theorem dX12_plainOf_11 : zd cX12_plainOf 11 (.aload_n 0) 1 12 := ⟨by decide +kernel, rfl⟩
theorem dX12_plainOf_12 : zd cX12_plainOf 12 (.aload_n 0) 1 13 := ⟨by decide +kernel, rfl⟩
theorem dX12_plainOf_13 : zd cX12_plainOf 13 (.getfield 7) 3 16 := ⟨by decide +kernel, rfl⟩
theorem dX12_plainOf_16 : zd cX12_plainOf 16 (.putfield 221) 3 19 := ⟨by decide +kernel, rfl⟩
theorem dX12_plainOf_19 : zd cX12_plainOf 19 (.iconst 0) 1 20 := ⟨by decide +kernel, rfl⟩
theorem dX12_plainOf_20 : zd cX12_plainOf 20 (.istore_n 2) 1 21 := ⟨by decide +kernel, rfl⟩
theorem dX12_plainOf_21 : zd cX12_plainOf 21 (.iload_n 2) 1 22 := ⟨by decide +kernel, rfl⟩
theorem dX12_plainOf_22 : zd cX12_plainOf 22 (.sipush 900) 3 25 := ⟨by decide +kernel, rfl⟩
theorem dX12_plainOf_25 : zd cX12_plainOf 25 (.if_icmp .ge 23) 3 28 := ⟨by decide +kernel, rfl⟩
theorem dX12_plainOf_28 : zd cX12_plainOf 28 (.aload_n 0) 1 29 := ⟨by decide +kernel, rfl⟩
theorem dX12_plainOf_29 : zd cX12_plainOf 29 (.getfield 77) 3 32 := ⟨by decide +kernel, rfl⟩
theorem dX12_plainOf_32 : zd cX12_plainOf 32 (.iload_n 2) 1 33 := ⟨by decide +kernel, rfl⟩
theorem dX12_plainOf_33 : zd cX12_plainOf 33 (.aload_n 0) 1 34 := ⟨by decide +kernel, rfl⟩
theorem dX12_plainOf_34 : zd cX12_plainOf 34 (.bipush 100) 2 36 := ⟨by decide +kernel, rfl⟩
theorem dX12_plainOf_36 : zd cX12_plainOf 36 (.iload_n 2) 1 37 := ⟨by decide +kernel, rfl⟩
theorem dX12_plainOf_37 : zd cX12_plainOf 37 (.iadd) 1 38 := ⟨by decide +kernel, rfl⟩
theorem dX12_plainOf_38 : zd cX12_plainOf 38 (.invokevirtual 224) 3 41 := ⟨by decide +kernel, rfl⟩
theorem dX12_plainOf_41 : zd cX12_plainOf 41 (.iastore) 1 42 := ⟨by decide +kernel, rfl⟩
theorem dX12_plainOf_42 : zd cX12_plainOf 42 (.iinc 2 1) 3 45 := ⟨by decide +kernel, rfl⟩
theorem dX12_plainOf_45 : zd cX12_plainOf 45 (.goto (-24)) 3 48 := ⟨by decide +kernel, rfl⟩
theorem dX12_plainOf_48 : zd cX12_plainOf 48 (.aload_n 0) 1 49 := ⟨by decide +kernel, rfl⟩
theorem dX12_plainOf_49 : zd cX12_plainOf 49 (.getfield 77) 3 52 := ⟨by decide +kernel, rfl⟩
theorem dX12_plainOf_52 : zd cX12_plainOf 52 (.iload_n 1) 1 53 := ⟨by decide +kernel, rfl⟩
theorem dX12_plainOf_53 : zd cX12_plainOf 53 (.bipush 100) 2 55 := ⟨by decide +kernel, rfl⟩
theorem dX12_plainOf_55 : zd cX12_plainOf 55 (.isub) 1 56 := ⟨by decide +kernel, rfl⟩
theorem dX12_plainOf_56 : zd cX12_plainOf 56 (.iaload) 1 57 := ⟨by decide +kernel, rfl⟩
theorem dX12_plainOf_57 : zd cX12_plainOf 57 (.ireturn) 1 58 := ⟨by decide +kernel, rfl⟩
theorem dX12_reading_0 : zd cX12_reading 0 (.bipush 100) 2 2 := ⟨by decide +kernel, rfl⟩
theorem dX12_reading_2 : zd cX12_reading 2 (.istore_n 2) 1 3 := ⟨by decide +kernel, rfl⟩
theorem dX12_reading_3 : zd cX12_reading 3 (.bipush 101) 2 5 := ⟨by decide +kernel, rfl⟩
theorem dX12_reading_5 : zd cX12_reading 5 (.istore_n 3) 1 6 := ⟨by decide +kernel, rfl⟩
theorem dX12_reading_6 : zd cX12_reading 6 (.iload_n 3) 1 7 := ⟨by decide +kernel, rfl⟩
theorem dX12_reading_7 : zd cX12_reading 7 (.sipush 1000) 3 10 := ⟨by decide +kernel, rfl⟩
theorem dX12_reading_10 : zd cX12_reading 10 (.if_icmp .ge 38) 3 13 := ⟨by decide +kernel, rfl⟩
theorem dX12_reading_13 : zd cX12_reading 13 (.aload_n 0) 1 14 := ⟨by decide +kernel, rfl⟩
theorem dX12_reading_14 : zd cX12_reading 14 (.iload_n 3) 1 15 := ⟨by decide +kernel, rfl⟩
theorem dX12_reading_15 : zd cX12_reading 15 (.invokevirtual 227) 3 18 := ⟨by decide +kernel, rfl⟩
theorem dX12_reading_18 : zd cX12_reading 18 (.iload_n 1) 1 19 := ⟨by decide +kernel, rfl⟩
theorem dX12_reading_19 : zd cX12_reading 19 (.isub) 1 20 := ⟨by decide +kernel, rfl⟩
theorem dX12_reading_20 : zd cX12_reading 20 (.invokestatic 199) 3 23 := ⟨by decide +kernel, rfl⟩
theorem dX12_reading_23 : zd cX12_reading 23 (.aload_n 0) 1 24 := ⟨by decide +kernel, rfl⟩
theorem dX12_reading_24 : zd cX12_reading 24 (.iload_n 2) 1 25 := ⟨by decide +kernel, rfl⟩
theorem dX12_reading_25 : zd cX12_reading 25 (.invokevirtual 227) 3 28 := ⟨by decide +kernel, rfl⟩
theorem dX12_reading_28 : zd cX12_reading 28 (.iload_n 1) 1 29 := ⟨by decide +kernel, rfl⟩
theorem dX12_reading_29 : zd cX12_reading 29 (.isub) 1 30 := ⟨by decide +kernel, rfl⟩
theorem dX12_reading_30 : zd cX12_reading 30 (.invokestatic 199) 3 33 := ⟨by decide +kernel, rfl⟩
theorem dX12_reading_33 : zd cX12_reading 33 (.if_icmp .ge 7) 3 36 := ⟨by decide +kernel, rfl⟩
theorem dX12_reading_36 : zd cX12_reading 36 (.iload_n 3) 1 37 := ⟨by decide +kernel, rfl⟩
theorem dX12_reading_37 : zd cX12_reading 37 (.goto 4) 3 40 := ⟨by decide +kernel, rfl⟩
theorem dX12_reading_40 : zd cX12_reading 40 (.iload_n 2) 1 41 := ⟨by decide +kernel, rfl⟩
theorem dX12_reading_41 : zd cX12_reading 41 (.istore_n 2) 1 42 := ⟨by decide +kernel, rfl⟩
theorem dX12_reading_42 : zd cX12_reading 42 (.iinc 3 1) 3 45 := ⟨by decide +kernel, rfl⟩
theorem dX12_reading_45 : zd cX12_reading 45 (.goto (-39)) 3 48 := ⟨by decide +kernel, rfl⟩
theorem dX12_reading_48 : zd cX12_reading 48 (.iload_n 2) 1 49 := ⟨by decide +kernel, rfl⟩
theorem dX12_reading_49 : zd cX12_reading 49 (.ireturn) 1 50 := ⟨by decide +kernel, rfl⟩
theorem dX12_truth_0 : zd cX12_truth 0 (.iconst 0) 1 1 := ⟨by decide +kernel, rfl⟩
theorem dX12_truth_1 : zd cX12_truth 1 (.istore_n 1) 1 2 := ⟨by decide +kernel, rfl⟩
theorem dX12_truth_2 : zd cX12_truth 2 (.iload_n 1) 1 3 := ⟨by decide +kernel, rfl⟩
theorem dX12_truth_3 : zd cX12_truth 3 (.bipush 12) 2 5 := ⟨by decide +kernel, rfl⟩
theorem dX12_truth_5 : zd cX12_truth 5 (.if_icmp .ge 16) 3 8 := ⟨by decide +kernel, rfl⟩
theorem dX12_truth_8 : zd cX12_truth 8 (.aload_n 0) 1 9 := ⟨by decide +kernel, rfl⟩
theorem dX12_truth_9 : zd cX12_truth 9 (.getfield 80) 3 12 := ⟨by decide +kernel, rfl⟩
theorem dX12_truth_12 : zd cX12_truth 12 (.iload_n 1) 1 13 := ⟨by decide +kernel, rfl⟩
theorem dX12_truth_13 : zd cX12_truth 13 (.iconst 0) 1 14 := ⟨by decide +kernel, rfl⟩
theorem dX12_truth_14 : zd cX12_truth 14 (.iastore) 1 15 := ⟨by decide +kernel, rfl⟩
theorem dX12_truth_15 : zd cX12_truth 15 (.iinc 1 1) 3 18 := ⟨by decide +kernel, rfl⟩
theorem dX12_truth_18 : zd cX12_truth 18 (.goto (-16)) 3 21 := ⟨by decide +kernel, rfl⟩
theorem dX12_truth_21 : zd cX12_truth 21 (.aload_n 0) 1 22 := ⟨by decide +kernel, rfl⟩
theorem dX12_truth_22 : zd cX12_truth 22 (.getfield 80) 3 25 := ⟨by decide +kernel, rfl⟩
theorem dX12_truth_25 : zd cX12_truth 25 (.iconst 0) 1 26 := ⟨by decide +kernel, rfl⟩
theorem dX12_truth_26 : zd cX12_truth 26 (.bipush 100) 2 28 := ⟨by decide +kernel, rfl⟩
theorem dX12_truth_28 : zd cX12_truth 28 (.iastore) 1 29 := ⟨by decide +kernel, rfl⟩
theorem dX12_truth_29 : zd cX12_truth 29 (.iconst 0) 1 30 := ⟨by decide +kernel, rfl⟩
theorem dX12_truth_30 : zd cX12_truth 30 (.istore_n 1) 1 31 := ⟨by decide +kernel, rfl⟩
theorem dX12_truth_31 : zd cX12_truth 31 (.iload_n 1) 1 32 := ⟨by decide +kernel, rfl⟩
theorem dX12_truth_32 : zd cX12_truth 32 (.aload_n 0) 1 33 := ⟨by decide +kernel, rfl⟩
theorem dX12_truth_33 : zd cX12_truth 33 (.getfield 218) 3 36 := ⟨by decide +kernel, rfl⟩
theorem dX12_truth_36 : zd cX12_truth 36 (.if_icmp .ge 61) 3 39 := ⟨by decide +kernel, rfl⟩
theorem dX12_truth_39 : zd cX12_truth 39 (.iconst 0) 1 40 := ⟨by decide +kernel, rfl⟩
theorem dX12_truth_40 : zd cX12_truth 40 (.istore_n 2) 1 41 := ⟨by decide +kernel, rfl⟩
theorem dX12_truth_41 : zd cX12_truth 41 (.iconst 0) 1 42 := ⟨by decide +kernel, rfl⟩
theorem dX12_truth_42 : zd cX12_truth 42 (.istore_n 3) 1 43 := ⟨by decide +kernel, rfl⟩
theorem dX12_truth_43 : zd cX12_truth 43 (.iload_n 3) 1 44 := ⟨by decide +kernel, rfl⟩
theorem dX12_truth_44 : zd cX12_truth 44 (.bipush 12) 2 46 := ⟨by decide +kernel, rfl⟩
theorem dX12_truth_46 : zd cX12_truth 46 (.if_icmp .ge 45) 3 49 := ⟨by decide +kernel, rfl⟩
theorem dX12_truth_49 : zd cX12_truth 49 (.aload_n 0) 1 50 := ⟨by decide +kernel, rfl⟩
theorem dX12_truth_50 : zd cX12_truth 50 (.getfield 80) 3 53 := ⟨by decide +kernel, rfl⟩
theorem dX12_truth_53 : zd cX12_truth 53 (.iload_n 3) 1 54 := ⟨by decide +kernel, rfl⟩
theorem dX12_truth_54 : zd cX12_truth 54 (.iaload) 1 55 := ⟨by decide +kernel, rfl⟩
theorem dX12_truth_55 : zd cX12_truth 55 (.aload_n 0) 1 56 := ⟨by decide +kernel, rfl⟩
theorem dX12_truth_56 : zd cX12_truth 56 (.getfield 39) 3 59 := ⟨by decide +kernel, rfl⟩
theorem dX12_truth_59 : zd cX12_truth 59 (.iload_n 1) 1 60 := ⟨by decide +kernel, rfl⟩
theorem dX12_truth_60 : zd cX12_truth 60 (.iaload) 1 61 := ⟨by decide +kernel, rfl⟩
theorem dX12_truth_61 : zd cX12_truth 61 (.imul) 1 62 := ⟨by decide +kernel, rfl⟩
theorem dX12_truth_62 : zd cX12_truth 62 (.iload_n 2) 1 63 := ⟨by decide +kernel, rfl⟩
theorem dX12_truth_63 : zd cX12_truth 63 (.iadd) 1 64 := ⟨by decide +kernel, rfl⟩
theorem dX12_truth_64 : zd cX12_truth 64 (.istore 4) 2 66 := ⟨by decide +kernel, rfl⟩
theorem dX12_truth_66 : zd cX12_truth 66 (.aload_n 0) 1 67 := ⟨by decide +kernel, rfl⟩
theorem dX12_truth_67 : zd cX12_truth 67 (.getfield 80) 3 70 := ⟨by decide +kernel, rfl⟩
theorem dX12_truth_70 : zd cX12_truth 70 (.iload_n 3) 1 71 := ⟨by decide +kernel, rfl⟩
theorem dX12_truth_71 : zd cX12_truth 71 (.iload 4) 2 73 := ⟨by decide +kernel, rfl⟩
theorem dX12_truth_73 : zd cX12_truth 73 (.sipush 10000) 3 76 := ⟨by decide +kernel, rfl⟩
theorem dX12_truth_76 : zd cX12_truth 76 (.irem) 1 77 := ⟨by decide +kernel, rfl⟩
theorem dX12_truth_77 : zd cX12_truth 77 (.iastore) 1 78 := ⟨by decide +kernel, rfl⟩
theorem dX12_truth_78 : zd cX12_truth 78 (.iload 4) 2 80 := ⟨by decide +kernel, rfl⟩
theorem dX12_truth_80 : zd cX12_truth 80 (.sipush 10000) 3 83 := ⟨by decide +kernel, rfl⟩
theorem dX12_truth_83 : zd cX12_truth 83 (.idiv) 1 84 := ⟨by decide +kernel, rfl⟩
theorem dX12_truth_84 : zd cX12_truth 84 (.istore_n 2) 1 85 := ⟨by decide +kernel, rfl⟩
theorem dX12_truth_85 : zd cX12_truth 85 (.iinc 3 1) 3 88 := ⟨by decide +kernel, rfl⟩
theorem dX12_truth_88 : zd cX12_truth 88 (.goto (-45)) 3 91 := ⟨by decide +kernel, rfl⟩
theorem dX12_truth_91 : zd cX12_truth 91 (.iinc 1 1) 3 94 := ⟨by decide +kernel, rfl⟩
theorem dX12_truth_94 : zd cX12_truth 94 (.goto (-63)) 3 97 := ⟨by decide +kernel, rfl⟩
theorem dX12_truth_97 : zd cX12_truth 97 (.bipush 11) 2 99 := ⟨by decide +kernel, rfl⟩
theorem dX12_truth_99 : zd cX12_truth 99 (.istore_n 1) 1 100 := ⟨by decide +kernel, rfl⟩
theorem dX12_truth_100 : zd cX12_truth 100 (.aload_n 0) 1 101 := ⟨by decide +kernel, rfl⟩
theorem dX12_truth_101 : zd cX12_truth 101 (.getfield 80) 3 104 := ⟨by decide +kernel, rfl⟩
theorem dX12_truth_104 : zd cX12_truth 104 (.iload_n 1) 1 105 := ⟨by decide +kernel, rfl⟩
theorem dX12_truth_105 : zd cX12_truth 105 (.iaload) 1 106 := ⟨by decide +kernel, rfl⟩
theorem dX12_truth_106 : zd cX12_truth 106 (.ifCond .ne 9) 3 109 := ⟨by decide +kernel, rfl⟩
theorem dX12_truth_109 : zd cX12_truth 109 (.iinc 1 (-1)) 3 112 := ⟨by decide +kernel, rfl⟩
theorem dX12_truth_112 : zd cX12_truth 112 (.goto (-12)) 3 115 := ⟨by decide +kernel, rfl⟩
theorem dX12_truth_115 : zd cX12_truth 115 (.aload_n 0) 1 116 := ⟨by decide +kernel, rfl⟩
theorem dX12_truth_116 : zd cX12_truth 116 (.getfield 80) 3 119 := ⟨by decide +kernel, rfl⟩
theorem dX12_truth_119 : zd cX12_truth 119 (.iload_n 1) 1 120 := ⟨by decide +kernel, rfl⟩
theorem dX12_truth_120 : zd cX12_truth 120 (.iaload) 1 121 := ⟨by decide +kernel, rfl⟩
theorem dX12_truth_121 : zd cX12_truth 121 (.istore_n 2) 1 122 := ⟨by decide +kernel, rfl⟩
theorem dX12_truth_122 : zd cX12_truth 122 (.iload_n 1) 1 123 := ⟨by decide +kernel, rfl⟩
theorem dX12_truth_123 : zd cX12_truth 123 (.ifCond .le 14) 3 126 := ⟨by decide +kernel, rfl⟩
theorem dX12_truth_126 : zd cX12_truth 126 (.aload_n 0) 1 127 := ⟨by decide +kernel, rfl⟩
theorem dX12_truth_127 : zd cX12_truth 127 (.getfield 80) 3 130 := ⟨by decide +kernel, rfl⟩
theorem dX12_truth_130 : zd cX12_truth 130 (.iload_n 1) 1 131 := ⟨by decide +kernel, rfl⟩
theorem dX12_truth_131 : zd cX12_truth 131 (.iconst 1) 1 132 := ⟨by decide +kernel, rfl⟩
theorem dX12_truth_132 : zd cX12_truth 132 (.isub) 1 133 := ⟨by decide +kernel, rfl⟩
theorem dX12_truth_133 : zd cX12_truth 133 (.iaload) 1 134 := ⟨by decide +kernel, rfl⟩
theorem dX12_truth_134 : zd cX12_truth 134 (.goto 4) 3 137 := ⟨by decide +kernel, rfl⟩
theorem dX12_truth_137 : zd cX12_truth 137 (.iconst 0) 1 138 := ⟨by decide +kernel, rfl⟩
theorem dX12_truth_138 : zd cX12_truth 138 (.istore_n 3) 1 139 := ⟨by decide +kernel, rfl⟩
theorem dX12_truth_139 : zd cX12_truth 139 (.ldc2_w 191) 3 142 := ⟨by decide +kernel, rfl⟩
theorem dX12_truth_142 : zd cX12_truth 142 (.iload_n 2) 1 143 := ⟨by decide +kernel, rfl⟩
theorem dX12_truth_143 : zd cX12_truth 143 (.i2l) 1 144 := ⟨by decide +kernel, rfl⟩
theorem dX12_truth_144 : zd cX12_truth 144 (.lmul) 1 145 := ⟨by decide +kernel, rfl⟩
theorem dX12_truth_145 : zd cX12_truth 145 (.iload_n 3) 1 146 := ⟨by decide +kernel, rfl⟩
theorem dX12_truth_146 : zd cX12_truth 146 (.i2l) 1 147 := ⟨by decide +kernel, rfl⟩
theorem dX12_truth_147 : zd cX12_truth 147 (.ladd) 1 148 := ⟨by decide +kernel, rfl⟩
theorem dX12_truth_148 : zd cX12_truth 148 (.lstore 4) 2 150 := ⟨by decide +kernel, rfl⟩
theorem dX12_truth_150 : zd cX12_truth 150 (.lload 4) 2 152 := ⟨by decide +kernel, rfl⟩
theorem dX12_truth_152 : zd cX12_truth 152 (.ldc2_w 230) 3 155 := ⟨by decide +kernel, rfl⟩
theorem dX12_truth_155 : zd cX12_truth 155 (.lcmp) 1 156 := ⟨by decide +kernel, rfl⟩
theorem dX12_truth_156 : zd cX12_truth 156 (.ifCond .lt 14) 3 159 := ⟨by decide +kernel, rfl⟩
theorem dX12_truth_159 : zd cX12_truth 159 (.lload 4) 2 161 := ⟨by decide +kernel, rfl⟩
theorem dX12_truth_161 : zd cX12_truth 161 (.ldc2_w 124) 3 164 := ⟨by decide +kernel, rfl⟩
theorem dX12_truth_164 : zd cX12_truth 164 (.ldiv) 1 165 := ⟨by decide +kernel, rfl⟩
theorem dX12_truth_165 : zd cX12_truth 165 (.lstore 4) 2 167 := ⟨by decide +kernel, rfl⟩
theorem dX12_truth_167 : zd cX12_truth 167 (.goto (-17)) 3 170 := ⟨by decide +kernel, rfl⟩
theorem dX12_truth_170 : zd cX12_truth 170 (.lload 4) 2 172 := ⟨by decide +kernel, rfl⟩
theorem dX12_truth_172 : zd cX12_truth 172 (.l2i) 1 173 := ⟨by decide +kernel, rfl⟩
theorem dX12_truth_173 : zd cX12_truth 173 (.ireturn) 1 174 := ⟨by decide +kernel, rfl⟩
theorem dX12_chain_0 : zd cX12_chain 0 (.iload_n 1) 1 1 := ⟨by decide +kernel, rfl⟩
theorem dX12_chain_1 : zd cX12_chain 1 (.i2l) 1 2 := ⟨by decide +kernel, rfl⟩
theorem dX12_chain_2 : zd cX12_chain 2 (.lconst 0) 1 3 := ⟨by decide +kernel, rfl⟩
theorem dX12_chain_3 : zd cX12_chain 3 (.ldc2_w 97) 3 6 := ⟨by decide +kernel, rfl⟩
theorem dX12_chain_6 : zd cX12_chain 6 (.invokestatic 163) 3 9 := ⟨by decide +kernel, rfl⟩
theorem dX12_chain_9 : zd cX12_chain 9 (.ifCond .ne 6) 3 12 := ⟨by decide +kernel, rfl⟩
theorem dX12_chain_12 : zd cX12_chain 12 (.ldc 186) 2 14 := ⟨by decide +kernel, rfl⟩
theorem dX12_chain_14 : zd cX12_chain 14 (.ireturn) 1 15 := ⟨by decide +kernel, rfl⟩
theorem dX12_chain_15 : zd cX12_chain 15 (.iconst 0) 1 16 := ⟨by decide +kernel, rfl⟩
theorem dX12_chain_16 : zd cX12_chain 16 (.istore_n 2) 1 17 := ⟨by decide +kernel, rfl⟩
theorem dX12_chain_17 : zd cX12_chain 17 (.iconst 0) 1 18 := ⟨by decide +kernel, rfl⟩
theorem dX12_chain_18 : zd cX12_chain 18 (.istore_n 3) 1 19 := ⟨by decide +kernel, rfl⟩
theorem dX12_chain_19 : zd cX12_chain 19 (.iconst 0) 1 20 := ⟨by decide +kernel, rfl⟩
theorem dX12_chain_20 : zd cX12_chain 20 (.istore 4) 2 22 := ⟨by decide +kernel, rfl⟩
theorem dX12_chain_22 : zd cX12_chain 22 (.iload 4) 2 24 := ⟨by decide +kernel, rfl⟩
theorem dX12_chain_24 : zd cX12_chain 24 (.aload_n 0) 1 25 := ⟨by decide +kernel, rfl⟩
theorem dX12_chain_25 : zd cX12_chain 25 (.getfield 218) 3 28 := ⟨by decide +kernel, rfl⟩
theorem dX12_chain_28 : zd cX12_chain 28 (.if_icmp .ge 41) 3 31 := ⟨by decide +kernel, rfl⟩
theorem dX12_chain_31 : zd cX12_chain 31 (.iload_n 2) 1 32 := ⟨by decide +kernel, rfl⟩
theorem dX12_chain_32 : zd cX12_chain 32 (.aload_n 0) 1 33 := ⟨by decide +kernel, rfl⟩
theorem dX12_chain_33 : zd cX12_chain 33 (.aload_n 0) 1 34 := ⟨by decide +kernel, rfl⟩
theorem dX12_chain_34 : zd cX12_chain 34 (.getfield 39) 3 37 := ⟨by decide +kernel, rfl⟩
theorem dX12_chain_37 : zd cX12_chain 37 (.iload 4) 2 39 := ⟨by decide +kernel, rfl⟩
theorem dX12_chain_39 : zd cX12_chain 39 (.iaload) 1 40 := ⟨by decide +kernel, rfl⟩
theorem dX12_chain_40 : zd cX12_chain 40 (.invokevirtual 227) 3 43 := ⟨by decide +kernel, rfl⟩
theorem dX12_chain_43 : zd cX12_chain 43 (.iadd) 1 44 := ⟨by decide +kernel, rfl⟩
theorem dX12_chain_44 : zd cX12_chain 44 (.istore_n 2) 1 45 := ⟨by decide +kernel, rfl⟩
theorem dX12_chain_45 : zd cX12_chain 45 (.iload_n 2) 1 46 := ⟨by decide +kernel, rfl⟩
theorem dX12_chain_46 : zd cX12_chain 46 (.aload_n 0) 1 47 := ⟨by decide +kernel, rfl⟩
theorem dX12_chain_47 : zd cX12_chain 47 (.getfield 7) 3 50 := ⟨by decide +kernel, rfl⟩
theorem dX12_chain_50 : zd cX12_chain 50 (.if_icmp .lt 13) 3 53 := ⟨by decide +kernel, rfl⟩
theorem dX12_chain_53 : zd cX12_chain 53 (.iload_n 2) 1 54 := ⟨by decide +kernel, rfl⟩
theorem dX12_chain_54 : zd cX12_chain 54 (.aload_n 0) 1 55 := ⟨by decide +kernel, rfl⟩
theorem dX12_chain_55 : zd cX12_chain 55 (.getfield 7) 3 58 := ⟨by decide +kernel, rfl⟩
theorem dX12_chain_58 : zd cX12_chain 58 (.isub) 1 59 := ⟨by decide +kernel, rfl⟩
theorem dX12_chain_59 : zd cX12_chain 59 (.istore_n 2) 1 60 := ⟨by decide +kernel, rfl⟩
theorem dX12_chain_60 : zd cX12_chain 60 (.iinc 3 1) 3 63 := ⟨by decide +kernel, rfl⟩
theorem dX12_chain_63 : zd cX12_chain 63 (.iinc 4 1) 3 66 := ⟨by decide +kernel, rfl⟩
theorem dX12_chain_66 : zd cX12_chain 66 (.goto (-44)) 3 69 := ⟨by decide +kernel, rfl⟩
theorem dX12_chain_69 : zd cX12_chain 69 (.iload_n 1) 1 70 := ⟨by decide +kernel, rfl⟩
theorem dX12_chain_70 : zd cX12_chain 70 (.tableswitch 54 0 3 #[30, 32, 38, 43]) 30 100 := ⟨by decide +kernel, rfl⟩
theorem dX12_chain_100 : zd cX12_chain 100 (.iload_n 2) 1 101 := ⟨by decide +kernel, rfl⟩
theorem dX12_chain_101 : zd cX12_chain 101 (.ireturn) 1 102 := ⟨by decide +kernel, rfl⟩
theorem dX12_chain_102 : zd cX12_chain 102 (.aload_n 0) 1 103 := ⟨by decide +kernel, rfl⟩
theorem dX12_chain_103 : zd cX12_chain 103 (.iload_n 2) 1 104 := ⟨by decide +kernel, rfl⟩
theorem dX12_chain_104 : zd cX12_chain 104 (.invokevirtual 232) 3 107 := ⟨by decide +kernel, rfl⟩
theorem dX12_chain_107 : zd cX12_chain 107 (.ireturn) 1 108 := ⟨by decide +kernel, rfl⟩
theorem dX12_chain_108 : zd cX12_chain 108 (.aload_n 0) 1 109 := ⟨by decide +kernel, rfl⟩
theorem dX12_chain_109 : zd cX12_chain 109 (.invokevirtual 235) 3 112 := ⟨by decide +kernel, rfl⟩
theorem dX12_chain_112 : zd cX12_chain 112 (.ireturn) 1 113 := ⟨by decide +kernel, rfl⟩
theorem dX12_chain_113 : zd cX12_chain 113 (.aload_n 0) 1 114 := ⟨by decide +kernel, rfl⟩
theorem dX12_chain_114 : zd cX12_chain 114 (.iload_n 2) 1 115 := ⟨by decide +kernel, rfl⟩
theorem dX12_chain_115 : zd cX12_chain 115 (.invokevirtual 232) 3 118 := ⟨by decide +kernel, rfl⟩
theorem dX12_chain_118 : zd cX12_chain 118 (.aload_n 0) 1 119 := ⟨by decide +kernel, rfl⟩
theorem dX12_chain_119 : zd cX12_chain 119 (.invokevirtual 235) 3 122 := ⟨by decide +kernel, rfl⟩
theorem dX12_chain_122 : zd cX12_chain 122 (.isub) 1 123 := ⟨by decide +kernel, rfl⟩
theorem dX12_chain_123 : zd cX12_chain 123 (.ireturn) 1 124 := ⟨by decide +kernel, rfl⟩
theorem dX12_chain_124 : zd cX12_chain 124 (.iload_n 3) 1 125 := ⟨by decide +kernel, rfl⟩
theorem dX12_chain_125 : zd cX12_chain 125 (.ireturn) 1 126 := ⟨by decide +kernel, rfl⟩
theorem dX12_pairs_0 : zd cX12_pairs 0 (.iload_n 1) 1 1 := ⟨by decide +kernel, rfl⟩
theorem dX12_pairs_1 : zd cX12_pairs 1 (.i2l) 1 2 := ⟨by decide +kernel, rfl⟩
theorem dX12_pairs_2 : zd cX12_pairs 2 (.ldc2_w 149) 3 5 := ⟨by decide +kernel, rfl⟩
theorem dX12_pairs_5 : zd cX12_pairs 5 (.ldc2_w 216) 3 8 := ⟨by decide +kernel, rfl⟩
theorem dX12_pairs_8 : zd cX12_pairs 8 (.invokestatic 163) 3 11 := ⟨by decide +kernel, rfl⟩
theorem dX12_pairs_11 : zd cX12_pairs 11 (.ifCond .eq 53) 3 14 := ⟨by decide +kernel, rfl⟩
theorem dX12_pairs_14 : zd cX12_pairs 14 (.iload_n 2) 1 15 := ⟨by decide +kernel, rfl⟩
theorem dX12_pairs_15 : zd cX12_pairs 15 (.i2l) 1 16 := ⟨by decide +kernel, rfl⟩
theorem dX12_pairs_16 : zd cX12_pairs 16 (.iload_n 1) 1 17 := ⟨by decide +kernel, rfl⟩
theorem dX12_pairs_17 : zd cX12_pairs 17 (.i2l) 1 18 := ⟨by decide +kernel, rfl⟩
theorem dX12_pairs_18 : zd cX12_pairs 18 (.ldc2_w 216) 3 21 := ⟨by decide +kernel, rfl⟩
theorem dX12_pairs_21 : zd cX12_pairs 21 (.invokestatic 163) 3 24 := ⟨by decide +kernel, rfl⟩
theorem dX12_pairs_24 : zd cX12_pairs 24 (.ifCond .eq 40) 3 27 := ⟨by decide +kernel, rfl⟩
theorem dX12_pairs_27 : zd cX12_pairs 27 (.iload_n 3) 1 28 := ⟨by decide +kernel, rfl⟩
theorem dX12_pairs_28 : zd cX12_pairs 28 (.i2l) 1 29 := ⟨by decide +kernel, rfl⟩
theorem dX12_pairs_29 : zd cX12_pairs 29 (.lconst 1) 1 30 := ⟨by decide +kernel, rfl⟩
theorem dX12_pairs_30 : zd cX12_pairs 30 (.ldc2_w 216) 3 33 := ⟨by decide +kernel, rfl⟩
theorem dX12_pairs_33 : zd cX12_pairs 33 (.invokestatic 163) 3 36 := ⟨by decide +kernel, rfl⟩
theorem dX12_pairs_36 : zd cX12_pairs 36 (.ifCond .eq 28) 3 39 := ⟨by decide +kernel, rfl⟩
theorem dX12_pairs_39 : zd cX12_pairs 39 (.iload 4) 2 41 := ⟨by decide +kernel, rfl⟩
theorem dX12_pairs_41 : zd cX12_pairs 41 (.i2l) 1 42 := ⟨by decide +kernel, rfl⟩
theorem dX12_pairs_42 : zd cX12_pairs 42 (.lconst 0) 1 43 := ⟨by decide +kernel, rfl⟩
theorem dX12_pairs_43 : zd cX12_pairs 43 (.ldc2_w 95) 3 46 := ⟨by decide +kernel, rfl⟩
theorem dX12_pairs_46 : zd cX12_pairs 46 (.invokestatic 163) 3 49 := ⟨by decide +kernel, rfl⟩
theorem dX12_pairs_49 : zd cX12_pairs 49 (.ifCond .eq 15) 3 52 := ⟨by decide +kernel, rfl⟩
theorem dX12_pairs_52 : zd cX12_pairs 52 (.iload_n 2) 1 53 := ⟨by decide +kernel, rfl⟩
theorem dX12_pairs_53 : zd cX12_pairs 53 (.iload_n 1) 1 54 := ⟨by decide +kernel, rfl⟩
theorem dX12_pairs_54 : zd cX12_pairs 54 (.isub) 1 55 := ⟨by decide +kernel, rfl⟩
theorem dX12_pairs_55 : zd cX12_pairs 55 (.iload_n 3) 1 56 := ⟨by decide +kernel, rfl⟩
theorem dX12_pairs_56 : zd cX12_pairs 56 (.idiv) 1 57 := ⟨by decide +kernel, rfl⟩
theorem dX12_pairs_57 : zd cX12_pairs 57 (.iconst 1) 1 58 := ⟨by decide +kernel, rfl⟩
theorem dX12_pairs_58 : zd cX12_pairs 58 (.iadd) 1 59 := ⟨by decide +kernel, rfl⟩
theorem dX12_pairs_59 : zd cX12_pairs 59 (.bipush 100) 2 61 := ⟨by decide +kernel, rfl⟩
theorem dX12_pairs_61 : zd cX12_pairs 61 (.if_icmp .le 6) 3 64 := ⟨by decide +kernel, rfl⟩
theorem dX12_pairs_64 : zd cX12_pairs 64 (.bipush (-2)) 2 66 := ⟨by decide +kernel, rfl⟩
theorem dX12_pairs_66 : zd cX12_pairs 66 (.ireturn) 1 67 := ⟨by decide +kernel, rfl⟩
theorem dX12_pairs_67 : zd cX12_pairs 67 (.iconst (-1)) 1 68 := ⟨by decide +kernel, rfl⟩
theorem dX12_pairs_68 : zd cX12_pairs 68 (.istore 5) 2 70 := ⟨by decide +kernel, rfl⟩
theorem dX12_pairs_70 : zd cX12_pairs 70 (.iconst 0) 1 71 := ⟨by decide +kernel, rfl⟩
theorem dX12_pairs_71 : zd cX12_pairs 71 (.istore 6) 2 73 := ⟨by decide +kernel, rfl⟩
theorem dX12_pairs_73 : zd cX12_pairs 73 (.iconst 0) 1 74 := ⟨by decide +kernel, rfl⟩
theorem dX12_pairs_74 : zd cX12_pairs 74 (.istore 7) 2 76 := ⟨by decide +kernel, rfl⟩
theorem dX12_pairs_76 : zd cX12_pairs 76 (.iconst 0) 1 77 := ⟨by decide +kernel, rfl⟩
theorem dX12_pairs_77 : zd cX12_pairs 77 (.istore 8) 2 79 := ⟨by decide +kernel, rfl⟩
theorem dX12_pairs_79 : zd cX12_pairs 79 (.iconst 0) 1 80 := ⟨by decide +kernel, rfl⟩
theorem dX12_pairs_80 : zd cX12_pairs 80 (.istore 9) 2 82 := ⟨by decide +kernel, rfl⟩
theorem dX12_pairs_82 : zd cX12_pairs 82 (.iconst 0) 1 83 := ⟨by decide +kernel, rfl⟩
theorem dX12_pairs_83 : zd cX12_pairs 83 (.istore 10) 2 85 := ⟨by decide +kernel, rfl⟩
theorem dX12_pairs_85 : zd cX12_pairs 85 (.iload_n 1) 1 86 := ⟨by decide +kernel, rfl⟩
theorem dX12_pairs_86 : zd cX12_pairs 86 (.istore 11) 2 88 := ⟨by decide +kernel, rfl⟩
theorem dX12_pairs_88 : zd cX12_pairs 88 (.iload 11) 2 90 := ⟨by decide +kernel, rfl⟩
theorem dX12_pairs_90 : zd cX12_pairs 90 (.iload_n 2) 1 91 := ⟨by decide +kernel, rfl⟩
theorem dX12_pairs_91 : zd cX12_pairs 91 (.if_icmp .gt 229) 3 94 := ⟨by decide +kernel, rfl⟩
theorem dX12_pairs_94 : zd cX12_pairs 94 (.iload 11) 2 96 := ⟨by decide +kernel, rfl⟩
theorem dX12_pairs_96 : zd cX12_pairs 96 (.istore 12) 2 98 := ⟨by decide +kernel, rfl⟩
theorem dX12_pairs_98 : zd cX12_pairs 98 (.iload 12) 2 100 := ⟨by decide +kernel, rfl⟩
theorem dX12_pairs_100 : zd cX12_pairs 100 (.iload_n 2) 1 101 := ⟨by decide +kernel, rfl⟩
theorem dX12_pairs_101 : zd cX12_pairs 101 (.if_icmp .gt 210) 3 104 := ⟨by decide +kernel, rfl⟩
theorem dX12_pairs_104 : zd cX12_pairs 104 (.aload_n 0) 1 105 := ⟨by decide +kernel, rfl⟩
theorem dX12_pairs_105 : zd cX12_pairs 105 (.iload 11) 2 107 := ⟨by decide +kernel, rfl⟩
theorem dX12_pairs_107 : zd cX12_pairs 107 (.invokevirtual 227) 3 110 := ⟨by decide +kernel, rfl⟩
theorem dX12_pairs_110 : zd cX12_pairs 110 (.istore 13) 2 112 := ⟨by decide +kernel, rfl⟩
theorem dX12_pairs_112 : zd cX12_pairs 112 (.iload 10) 2 114 := ⟨by decide +kernel, rfl⟩
theorem dX12_pairs_114 : zd cX12_pairs 114 (.iload 13) 2 116 := ⟨by decide +kernel, rfl⟩
theorem dX12_pairs_116 : zd cX12_pairs 116 (.aload_n 0) 1 117 := ⟨by decide +kernel, rfl⟩
theorem dX12_pairs_117 : zd cX12_pairs 117 (.getfield 7) 3 120 := ⟨by decide +kernel, rfl⟩
theorem dX12_pairs_120 : zd cX12_pairs 120 (.if_icmp .lt 7) 3 123 := ⟨by decide +kernel, rfl⟩
theorem dX12_pairs_123 : zd cX12_pairs 123 (.iconst 1) 1 124 := ⟨by decide +kernel, rfl⟩
theorem dX12_pairs_124 : zd cX12_pairs 124 (.goto 4) 3 127 := ⟨by decide +kernel, rfl⟩
theorem dX12_pairs_127 : zd cX12_pairs 127 (.iconst 0) 1 128 := ⟨by decide +kernel, rfl⟩
theorem dX12_pairs_128 : zd cX12_pairs 128 (.iadd) 1 129 := ⟨by decide +kernel, rfl⟩
theorem dX12_pairs_129 : zd cX12_pairs 129 (.istore 10) 2 131 := ⟨by decide +kernel, rfl⟩
theorem dX12_pairs_131 : zd cX12_pairs 131 (.iload 13) 2 133 := ⟨by decide +kernel, rfl⟩
theorem dX12_pairs_133 : zd cX12_pairs 133 (.iload 13) 2 135 := ⟨by decide +kernel, rfl⟩
theorem dX12_pairs_135 : zd cX12_pairs 135 (.aload_n 0) 1 136 := ⟨by decide +kernel, rfl⟩
theorem dX12_pairs_136 : zd cX12_pairs 136 (.getfield 7) 3 139 := ⟨by decide +kernel, rfl⟩
theorem dX12_pairs_139 : zd cX12_pairs 139 (.if_icmp .lt 10) 3 142 := ⟨by decide +kernel, rfl⟩
theorem dX12_pairs_142 : zd cX12_pairs 142 (.aload_n 0) 1 143 := ⟨by decide +kernel, rfl⟩
theorem dX12_pairs_143 : zd cX12_pairs 143 (.getfield 7) 3 146 := ⟨by decide +kernel, rfl⟩
theorem dX12_pairs_146 : zd cX12_pairs 146 (.goto 4) 3 149 := ⟨by decide +kernel, rfl⟩
theorem dX12_pairs_149 : zd cX12_pairs 149 (.iconst 0) 1 150 := ⟨by decide +kernel, rfl⟩
theorem dX12_pairs_150 : zd cX12_pairs 150 (.isub) 1 151 := ⟨by decide +kernel, rfl⟩
theorem dX12_pairs_151 : zd cX12_pairs 151 (.istore 13) 2 153 := ⟨by decide +kernel, rfl⟩
theorem dX12_pairs_153 : zd cX12_pairs 153 (.iload 13) 2 155 := ⟨by decide +kernel, rfl⟩
theorem dX12_pairs_155 : zd cX12_pairs 155 (.aload_n 0) 1 156 := ⟨by decide +kernel, rfl⟩
theorem dX12_pairs_156 : zd cX12_pairs 156 (.iload 12) 2 158 := ⟨by decide +kernel, rfl⟩
theorem dX12_pairs_158 : zd cX12_pairs 158 (.invokevirtual 227) 3 161 := ⟨by decide +kernel, rfl⟩
theorem dX12_pairs_161 : zd cX12_pairs 161 (.iadd) 1 162 := ⟨by decide +kernel, rfl⟩
theorem dX12_pairs_162 : zd cX12_pairs 162 (.istore 13) 2 164 := ⟨by decide +kernel, rfl⟩
theorem dX12_pairs_164 : zd cX12_pairs 164 (.iload 10) 2 166 := ⟨by decide +kernel, rfl⟩
theorem dX12_pairs_166 : zd cX12_pairs 166 (.iload 13) 2 168 := ⟨by decide +kernel, rfl⟩
theorem dX12_pairs_168 : zd cX12_pairs 168 (.aload_n 0) 1 169 := ⟨by decide +kernel, rfl⟩
theorem dX12_pairs_169 : zd cX12_pairs 169 (.getfield 7) 3 172 := ⟨by decide +kernel, rfl⟩
theorem dX12_pairs_172 : zd cX12_pairs 172 (.if_icmp .lt 7) 3 175 := ⟨by decide +kernel, rfl⟩
theorem dX12_pairs_175 : zd cX12_pairs 175 (.iconst 1) 1 176 := ⟨by decide +kernel, rfl⟩
theorem dX12_pairs_176 : zd cX12_pairs 176 (.goto 4) 3 179 := ⟨by decide +kernel, rfl⟩
theorem dX12_pairs_179 : zd cX12_pairs 179 (.iconst 0) 1 180 := ⟨by decide +kernel, rfl⟩
theorem dX12_pairs_180 : zd cX12_pairs 180 (.iadd) 1 181 := ⟨by decide +kernel, rfl⟩
theorem dX12_pairs_181 : zd cX12_pairs 181 (.istore 10) 2 183 := ⟨by decide +kernel, rfl⟩
theorem dX12_pairs_183 : zd cX12_pairs 183 (.iload 13) 2 185 := ⟨by decide +kernel, rfl⟩
theorem dX12_pairs_185 : zd cX12_pairs 185 (.iload 13) 2 187 := ⟨by decide +kernel, rfl⟩
theorem dX12_pairs_187 : zd cX12_pairs 187 (.aload_n 0) 1 188 := ⟨by decide +kernel, rfl⟩
theorem dX12_pairs_188 : zd cX12_pairs 188 (.getfield 7) 3 191 := ⟨by decide +kernel, rfl⟩
theorem dX12_pairs_191 : zd cX12_pairs 191 (.if_icmp .lt 10) 3 194 := ⟨by decide +kernel, rfl⟩
theorem dX12_pairs_194 : zd cX12_pairs 194 (.aload_n 0) 1 195 := ⟨by decide +kernel, rfl⟩
theorem dX12_pairs_195 : zd cX12_pairs 195 (.getfield 7) 3 198 := ⟨by decide +kernel, rfl⟩
theorem dX12_pairs_198 : zd cX12_pairs 198 (.goto 4) 3 201 := ⟨by decide +kernel, rfl⟩
theorem dX12_pairs_201 : zd cX12_pairs 201 (.iconst 0) 1 202 := ⟨by decide +kernel, rfl⟩
theorem dX12_pairs_202 : zd cX12_pairs 202 (.isub) 1 203 := ⟨by decide +kernel, rfl⟩
theorem dX12_pairs_203 : zd cX12_pairs 203 (.istore 13) 2 205 := ⟨by decide +kernel, rfl⟩
theorem dX12_pairs_205 : zd cX12_pairs 205 (.iload 11) 2 207 := ⟨by decide +kernel, rfl⟩
theorem dX12_pairs_207 : zd cX12_pairs 207 (.iload 12) 2 209 := ⟨by decide +kernel, rfl⟩
theorem dX12_pairs_209 : zd cX12_pairs 209 (.imul) 1 210 := ⟨by decide +kernel, rfl⟩
theorem dX12_pairs_210 : zd cX12_pairs 210 (.istore 14) 2 212 := ⟨by decide +kernel, rfl⟩
theorem dX12_pairs_212 : zd cX12_pairs 212 (.iload 14) 2 214 := ⟨by decide +kernel, rfl⟩
theorem dX12_pairs_214 : zd cX12_pairs 214 (.sipush 1000) 3 217 := ⟨by decide +kernel, rfl⟩
theorem dX12_pairs_217 : zd cX12_pairs 217 (.if_icmp .lt 13) 3 220 := ⟨by decide +kernel, rfl⟩
theorem dX12_pairs_220 : zd cX12_pairs 220 (.iload 14) 2 222 := ⟨by decide +kernel, rfl⟩
theorem dX12_pairs_222 : zd cX12_pairs 222 (.bipush 10) 2 224 := ⟨by decide +kernel, rfl⟩
theorem dX12_pairs_224 : zd cX12_pairs 224 (.idiv) 1 225 := ⟨by decide +kernel, rfl⟩
theorem dX12_pairs_225 : zd cX12_pairs 225 (.istore 14) 2 227 := ⟨by decide +kernel, rfl⟩
theorem dX12_pairs_227 : zd cX12_pairs 227 (.goto (-15)) 3 230 := ⟨by decide +kernel, rfl⟩
theorem dX12_pairs_230 : zd cX12_pairs 230 (.aload_n 0) 1 231 := ⟨by decide +kernel, rfl⟩
theorem dX12_pairs_231 : zd cX12_pairs 231 (.iload 13) 2 233 := ⟨by decide +kernel, rfl⟩
theorem dX12_pairs_233 : zd cX12_pairs 233 (.invokevirtual 232) 3 236 := ⟨by decide +kernel, rfl⟩
theorem dX12_pairs_236 : zd cX12_pairs 236 (.iload 14) 2 238 := ⟨by decide +kernel, rfl⟩
theorem dX12_pairs_238 : zd cX12_pairs 238 (.isub) 1 239 := ⟨by decide +kernel, rfl⟩
theorem dX12_pairs_239 : zd cX12_pairs 239 (.invokestatic 199) 3 242 := ⟨by decide +kernel, rfl⟩
theorem dX12_pairs_242 : zd cX12_pairs 242 (.istore 15) 2 244 := ⟨by decide +kernel, rfl⟩
theorem dX12_pairs_244 : zd cX12_pairs 244 (.iload 15) 2 246 := ⟨by decide +kernel, rfl⟩
theorem dX12_pairs_246 : zd cX12_pairs 246 (.iload 5) 2 248 := ⟨by decide +kernel, rfl⟩
theorem dX12_pairs_248 : zd cX12_pairs 248 (.if_icmp .le 8) 3 251 := ⟨by decide +kernel, rfl⟩
theorem dX12_pairs_251 : zd cX12_pairs 251 (.iload 11) 2 253 := ⟨by decide +kernel, rfl⟩
theorem dX12_pairs_253 : zd cX12_pairs 253 (.goto 5) 3 256 := ⟨by decide +kernel, rfl⟩
theorem dX12_pairs_256 : zd cX12_pairs 256 (.iload 6) 2 258 := ⟨by decide +kernel, rfl⟩
theorem dX12_pairs_258 : zd cX12_pairs 258 (.istore 6) 2 260 := ⟨by decide +kernel, rfl⟩
theorem dX12_pairs_260 : zd cX12_pairs 260 (.iload 15) 2 262 := ⟨by decide +kernel, rfl⟩
theorem dX12_pairs_262 : zd cX12_pairs 262 (.iload 5) 2 264 := ⟨by decide +kernel, rfl⟩
theorem dX12_pairs_264 : zd cX12_pairs 264 (.if_icmp .le 8) 3 267 := ⟨by decide +kernel, rfl⟩
theorem dX12_pairs_267 : zd cX12_pairs 267 (.iload 12) 2 269 := ⟨by decide +kernel, rfl⟩
theorem dX12_pairs_269 : zd cX12_pairs 269 (.goto 5) 3 272 := ⟨by decide +kernel, rfl⟩
theorem dX12_pairs_272 : zd cX12_pairs 272 (.iload 7) 2 274 := ⟨by decide +kernel, rfl⟩
theorem dX12_pairs_274 : zd cX12_pairs 274 (.istore 7) 2 276 := ⟨by decide +kernel, rfl⟩
theorem dX12_pairs_276 : zd cX12_pairs 276 (.iload 15) 2 278 := ⟨by decide +kernel, rfl⟩
theorem dX12_pairs_278 : zd cX12_pairs 278 (.iload 5) 2 280 := ⟨by decide +kernel, rfl⟩
theorem dX12_pairs_280 : zd cX12_pairs 280 (.if_icmp .le 8) 3 283 := ⟨by decide +kernel, rfl⟩
theorem dX12_pairs_283 : zd cX12_pairs 283 (.iload 15) 2 285 := ⟨by decide +kernel, rfl⟩
theorem dX12_pairs_285 : zd cX12_pairs 285 (.goto 5) 3 288 := ⟨by decide +kernel, rfl⟩
theorem dX12_pairs_288 : zd cX12_pairs 288 (.iload 5) 2 290 := ⟨by decide +kernel, rfl⟩
theorem dX12_pairs_290 : zd cX12_pairs 290 (.istore 5) 2 292 := ⟨by decide +kernel, rfl⟩
theorem dX12_pairs_292 : zd cX12_pairs 292 (.iload 8) 2 294 := ⟨by decide +kernel, rfl⟩
theorem dX12_pairs_294 : zd cX12_pairs 294 (.iload 15) 2 296 := ⟨by decide +kernel, rfl⟩
theorem dX12_pairs_296 : zd cX12_pairs 296 (.iadd) 1 297 := ⟨by decide +kernel, rfl⟩
theorem dX12_pairs_297 : zd cX12_pairs 297 (.istore 8) 2 299 := ⟨by decide +kernel, rfl⟩
theorem dX12_pairs_299 : zd cX12_pairs 299 (.iinc 9 1) 3 302 := ⟨by decide +kernel, rfl⟩
theorem dX12_pairs_302 : zd cX12_pairs 302 (.iload 12) 2 304 := ⟨by decide +kernel, rfl⟩
theorem dX12_pairs_304 : zd cX12_pairs 304 (.iload_n 3) 1 305 := ⟨by decide +kernel, rfl⟩
theorem dX12_pairs_305 : zd cX12_pairs 305 (.iadd) 1 306 := ⟨by decide +kernel, rfl⟩
theorem dX12_pairs_306 : zd cX12_pairs 306 (.istore 12) 2 308 := ⟨by decide +kernel, rfl⟩
theorem dX12_pairs_308 : zd cX12_pairs 308 (.goto (-210)) 3 311 := ⟨by decide +kernel, rfl⟩
theorem dX12_pairs_311 : zd cX12_pairs 311 (.iload 11) 2 313 := ⟨by decide +kernel, rfl⟩
theorem dX12_pairs_313 : zd cX12_pairs 313 (.iload_n 3) 1 314 := ⟨by decide +kernel, rfl⟩
theorem dX12_pairs_314 : zd cX12_pairs 314 (.iadd) 1 315 := ⟨by decide +kernel, rfl⟩
theorem dX12_pairs_315 : zd cX12_pairs 315 (.istore 11) 2 317 := ⟨by decide +kernel, rfl⟩
theorem dX12_pairs_317 : zd cX12_pairs 317 (.goto (-229)) 3 320 := ⟨by decide +kernel, rfl⟩
theorem dX12_pairs_320 : zd cX12_pairs 320 (.iload 4) 2 322 := ⟨by decide +kernel, rfl⟩
theorem dX12_pairs_322 : zd cX12_pairs 322 (.ifCond .ne 8) 3 325 := ⟨by decide +kernel, rfl⟩
theorem dX12_pairs_325 : zd cX12_pairs 325 (.iload 5) 2 327 := ⟨by decide +kernel, rfl⟩
theorem dX12_pairs_327 : zd cX12_pairs 327 (.goto 49) 3 330 := ⟨by decide +kernel, rfl⟩
theorem dX12_pairs_330 : zd cX12_pairs 330 (.iload 4) 2 332 := ⟨by decide +kernel, rfl⟩
theorem dX12_pairs_332 : zd cX12_pairs 332 (.iconst 1) 1 333 := ⟨by decide +kernel, rfl⟩
theorem dX12_pairs_333 : zd cX12_pairs 333 (.if_icmp .ne 8) 3 336 := ⟨by decide +kernel, rfl⟩
theorem dX12_pairs_336 : zd cX12_pairs 336 (.iload 6) 2 338 := ⟨by decide +kernel, rfl⟩
theorem dX12_pairs_338 : zd cX12_pairs 338 (.goto 38) 3 341 := ⟨by decide +kernel, rfl⟩
theorem dX12_pairs_341 : zd cX12_pairs 341 (.iload 4) 2 343 := ⟨by decide +kernel, rfl⟩
theorem dX12_pairs_343 : zd cX12_pairs 343 (.iconst 2) 1 344 := ⟨by decide +kernel, rfl⟩
theorem dX12_pairs_344 : zd cX12_pairs 344 (.if_icmp .ne 8) 3 347 := ⟨by decide +kernel, rfl⟩
theorem dX12_pairs_347 : zd cX12_pairs 347 (.iload 7) 2 349 := ⟨by decide +kernel, rfl⟩
theorem dX12_pairs_349 : zd cX12_pairs 349 (.goto 27) 3 352 := ⟨by decide +kernel, rfl⟩
theorem dX12_pairs_352 : zd cX12_pairs 352 (.iload 4) 2 354 := ⟨by decide +kernel, rfl⟩
theorem dX12_pairs_354 : zd cX12_pairs 354 (.iconst 3) 1 355 := ⟨by decide +kernel, rfl⟩
theorem dX12_pairs_355 : zd cX12_pairs 355 (.if_icmp .ne 8) 3 358 := ⟨by decide +kernel, rfl⟩
theorem dX12_pairs_358 : zd cX12_pairs 358 (.iload 8) 2 360 := ⟨by decide +kernel, rfl⟩
theorem dX12_pairs_360 : zd cX12_pairs 360 (.goto 16) 3 363 := ⟨by decide +kernel, rfl⟩
theorem dX12_pairs_363 : zd cX12_pairs 363 (.iload 4) 2 365 := ⟨by decide +kernel, rfl⟩
theorem dX12_pairs_365 : zd cX12_pairs 365 (.iconst 4) 1 366 := ⟨by decide +kernel, rfl⟩
theorem dX12_pairs_366 : zd cX12_pairs 366 (.if_icmp .ne 8) 3 369 := ⟨by decide +kernel, rfl⟩
theorem dX12_pairs_369 : zd cX12_pairs 369 (.iload 9) 2 371 := ⟨by decide +kernel, rfl⟩
theorem dX12_pairs_371 : zd cX12_pairs 371 (.goto 5) 3 374 := ⟨by decide +kernel, rfl⟩
theorem dX12_pairs_374 : zd cX12_pairs 374 (.iload 10) 2 376 := ⟨by decide +kernel, rfl⟩
theorem dX12_pairs_376 : zd cX12_pairs 376 (.ireturn) 1 377 := ⟨by decide +kernel, rfl⟩
theorem dX12_lets_0 : zd cX12_lets 0 (.iconst 0) 1 1 := ⟨by decide +kernel, rfl⟩
theorem dX12_lets_1 : zd cX12_lets 1 (.istore_n 3) 1 2 := ⟨by decide +kernel, rfl⟩
theorem dX12_lets_2 : zd cX12_lets 2 (.iconst 0) 1 3 := ⟨by decide +kernel, rfl⟩
theorem dX12_lets_3 : zd cX12_lets 3 (.istore 4) 2 5 := ⟨by decide +kernel, rfl⟩
theorem dX12_lets_5 : zd cX12_lets 5 (.iload 4) 2 7 := ⟨by decide +kernel, rfl⟩
theorem dX12_lets_7 : zd cX12_lets 7 (.aload_n 0) 1 8 := ⟨by decide +kernel, rfl⟩
theorem dX12_lets_8 : zd cX12_lets 8 (.getfield 160) 3 11 := ⟨by decide +kernel, rfl⟩
theorem dX12_lets_11 : zd cX12_lets 11 (.if_icmp .ge 54) 3 14 := ⟨by decide +kernel, rfl⟩
theorem dX12_lets_14 : zd cX12_lets 14 (.iload_n 3) 1 15 := ⟨by decide +kernel, rfl⟩
theorem dX12_lets_15 : zd cX12_lets 15 (.ifCond .ne 38) 3 18 := ⟨by decide +kernel, rfl⟩
theorem dX12_lets_18 : zd cX12_lets 18 (.aload_n 0) 1 19 := ⟨by decide +kernel, rfl⟩
theorem dX12_lets_19 : zd cX12_lets 19 (.getfield 13) 3 22 := ⟨by decide +kernel, rfl⟩
theorem dX12_lets_22 : zd cX12_lets 22 (.iload 4) 2 24 := ⟨by decide +kernel, rfl⟩
theorem dX12_lets_24 : zd cX12_lets 24 (.baload) 1 25 := ⟨by decide +kernel, rfl⟩
theorem dX12_lets_25 : zd cX12_lets 25 (.ifCond .eq 32) 3 28 := ⟨by decide +kernel, rfl⟩
theorem dX12_lets_28 : zd cX12_lets 28 (.aload_n 0) 1 29 := ⟨by decide +kernel, rfl⟩
theorem dX12_lets_29 : zd cX12_lets 29 (.getfield 17) 3 32 := ⟨by decide +kernel, rfl⟩
theorem dX12_lets_32 : zd cX12_lets 32 (.iload 4) 2 34 := ⟨by decide +kernel, rfl⟩
theorem dX12_lets_34 : zd cX12_lets 34 (.iaload) 1 35 := ⟨by decide +kernel, rfl⟩
theorem dX12_lets_35 : zd cX12_lets 35 (.iload_n 1) 1 36 := ⟨by decide +kernel, rfl⟩
theorem dX12_lets_36 : zd cX12_lets 36 (.if_icmp .ne 21) 3 39 := ⟨by decide +kernel, rfl⟩
theorem dX12_lets_39 : zd cX12_lets 39 (.iload_n 2) 1 40 := ⟨by decide +kernel, rfl⟩
theorem dX12_lets_40 : zd cX12_lets 40 (.ifCond .lt 13) 3 43 := ⟨by decide +kernel, rfl⟩
theorem dX12_lets_43 : zd cX12_lets 43 (.aload_n 0) 1 44 := ⟨by decide +kernel, rfl⟩
theorem dX12_lets_44 : zd cX12_lets 44 (.getfield 24) 3 47 := ⟨by decide +kernel, rfl⟩
theorem dX12_lets_47 : zd cX12_lets 47 (.iload 4) 2 49 := ⟨by decide +kernel, rfl⟩
theorem dX12_lets_49 : zd cX12_lets 49 (.baload) 1 50 := ⟨by decide +kernel, rfl⟩
theorem dX12_lets_50 : zd cX12_lets 50 (.ifCond .ne 7) 3 53 := ⟨by decide +kernel, rfl⟩
theorem dX12_lets_53 : zd cX12_lets 53 (.iconst 1) 1 54 := ⟨by decide +kernel, rfl⟩
theorem dX12_lets_54 : zd cX12_lets 54 (.goto 4) 3 57 := ⟨by decide +kernel, rfl⟩
theorem dX12_lets_57 : zd cX12_lets 57 (.iconst 0) 1 58 := ⟨by decide +kernel, rfl⟩
theorem dX12_lets_58 : zd cX12_lets 58 (.istore_n 3) 1 59 := ⟨by decide +kernel, rfl⟩
theorem dX12_lets_59 : zd cX12_lets 59 (.iinc 4 1) 3 62 := ⟨by decide +kernel, rfl⟩
theorem dX12_lets_62 : zd cX12_lets 62 (.goto (-57)) 3 65 := ⟨by decide +kernel, rfl⟩
theorem dX12_lets_65 : zd cX12_lets 65 (.iload_n 3) 1 66 := ⟨by decide +kernel, rfl⟩
theorem dX12_lets_66 : zd cX12_lets 66 (.ireturn) 1 67 := ⟨by decide +kernel, rfl⟩
theorem dX12_spreads_0 : zd cX12_spreads 0 (.iconst 0) 1 1 := ⟨by decide +kernel, rfl⟩
theorem dX12_spreads_1 : zd cX12_spreads 1 (.istore_n 1) 1 2 := ⟨by decide +kernel, rfl⟩
theorem dX12_spreads_2 : zd cX12_spreads 2 (.iload_n 1) 1 3 := ⟨by decide +kernel, rfl⟩
theorem dX12_spreads_3 : zd cX12_spreads 3 (.bipush 65) 2 5 := ⟨by decide +kernel, rfl⟩
theorem dX12_spreads_5 : zd cX12_spreads 5 (.if_icmp .ge 28) 3 8 := ⟨by decide +kernel, rfl⟩
theorem dX12_spreads_8 : zd cX12_spreads 8 (.aload_n 0) 1 9 := ⟨by decide +kernel, rfl⟩
theorem dX12_spreads_9 : zd cX12_spreads 9 (.getfield 83) 3 12 := ⟨by decide +kernel, rfl⟩
theorem dX12_spreads_12 : zd cX12_spreads 12 (.iload_n 1) 1 13 := ⟨by decide +kernel, rfl⟩
theorem dX12_spreads_13 : zd cX12_spreads 13 (.iload_n 1) 1 14 := ⟨by decide +kernel, rfl⟩
theorem dX12_spreads_14 : zd cX12_spreads 14 (.bipush 32) 2 16 := ⟨by decide +kernel, rfl⟩
theorem dX12_spreads_16 : zd cX12_spreads 16 (.if_icmp .ne 7) 3 19 := ⟨by decide +kernel, rfl⟩
theorem dX12_spreads_19 : zd cX12_spreads 19 (.iconst 0) 1 20 := ⟨by decide +kernel, rfl⟩
theorem dX12_spreads_20 : zd cX12_spreads 20 (.goto 6) 3 23 := ⟨by decide +kernel, rfl⟩
theorem dX12_spreads_23 : zd cX12_spreads 23 (.sipush 999) 3 26 := ⟨by decide +kernel, rfl⟩
theorem dX12_spreads_26 : zd cX12_spreads 26 (.iastore) 1 27 := ⟨by decide +kernel, rfl⟩
theorem dX12_spreads_27 : zd cX12_spreads 27 (.iinc 1 1) 3 30 := ⟨by decide +kernel, rfl⟩
theorem dX12_spreads_30 : zd cX12_spreads 30 (.goto (-28)) 3 33 := ⟨by decide +kernel, rfl⟩
theorem dX12_spreads_33 : zd cX12_spreads 33 (.iconst 0) 1 34 := ⟨by decide +kernel, rfl⟩
theorem dX12_spreads_34 : zd cX12_spreads 34 (.istore_n 1) 1 35 := ⟨by decide +kernel, rfl⟩
theorem dX12_spreads_35 : zd cX12_spreads 35 (.iload_n 1) 1 36 := ⟨by decide +kernel, rfl⟩
theorem dX12_spreads_36 : zd cX12_spreads 36 (.bipush 65) 2 38 := ⟨by decide +kernel, rfl⟩
theorem dX12_spreads_38 : zd cX12_spreads 38 (.if_icmp .ge 104) 3 41 := ⟨by decide +kernel, rfl⟩
theorem dX12_spreads_41 : zd cX12_spreads 41 (.iconst 0) 1 42 := ⟨by decide +kernel, rfl⟩
theorem dX12_spreads_42 : zd cX12_spreads 42 (.istore_n 2) 1 43 := ⟨by decide +kernel, rfl⟩
theorem dX12_spreads_43 : zd cX12_spreads 43 (.iload_n 2) 1 44 := ⟨by decide +kernel, rfl⟩
theorem dX12_spreads_44 : zd cX12_spreads 44 (.bipush 65) 2 46 := ⟨by decide +kernel, rfl⟩
theorem dX12_spreads_46 : zd cX12_spreads 46 (.if_icmp .ge 90) 3 49 := ⟨by decide +kernel, rfl⟩
theorem dX12_spreads_49 : zd cX12_spreads 49 (.bipush (-3)) 2 51 := ⟨by decide +kernel, rfl⟩
theorem dX12_spreads_51 : zd cX12_spreads 51 (.istore_n 3) 1 52 := ⟨by decide +kernel, rfl⟩
theorem dX12_spreads_52 : zd cX12_spreads 52 (.iload_n 3) 1 53 := ⟨by decide +kernel, rfl⟩
theorem dX12_spreads_53 : zd cX12_spreads 53 (.iconst 4) 1 54 := ⟨by decide +kernel, rfl⟩
theorem dX12_spreads_54 : zd cX12_spreads 54 (.if_icmp .ge 76) 3 57 := ⟨by decide +kernel, rfl⟩
theorem dX12_spreads_57 : zd cX12_spreads 57 (.iload_n 2) 1 58 := ⟨by decide +kernel, rfl⟩
theorem dX12_spreads_58 : zd cX12_spreads 58 (.iload_n 3) 1 59 := ⟨by decide +kernel, rfl⟩
theorem dX12_spreads_59 : zd cX12_spreads 59 (.iadd) 1 60 := ⟨by decide +kernel, rfl⟩
theorem dX12_spreads_60 : zd cX12_spreads 60 (.istore 4) 2 62 := ⟨by decide +kernel, rfl⟩
theorem dX12_spreads_62 : zd cX12_spreads 62 (.iload_n 3) 1 63 := ⟨by decide +kernel, rfl⟩
theorem dX12_spreads_63 : zd cX12_spreads 63 (.ifCond .eq 61) 3 66 := ⟨by decide +kernel, rfl⟩
theorem dX12_spreads_66 : zd cX12_spreads 66 (.iload 4) 2 68 := ⟨by decide +kernel, rfl⟩
theorem dX12_spreads_68 : zd cX12_spreads 68 (.i2l) 1 69 := ⟨by decide +kernel, rfl⟩
theorem dX12_spreads_69 : zd cX12_spreads 69 (.lconst 0) 1 70 := ⟨by decide +kernel, rfl⟩
theorem dX12_spreads_70 : zd cX12_spreads 70 (.ldc2_w 239) 3 73 := ⟨by decide +kernel, rfl⟩
theorem dX12_spreads_73 : zd cX12_spreads 73 (.invokestatic 163) 3 76 := ⟨by decide +kernel, rfl⟩
theorem dX12_spreads_76 : zd cX12_spreads 76 (.ifCond .eq 48) 3 79 := ⟨by decide +kernel, rfl⟩
theorem dX12_spreads_79 : zd cX12_spreads 79 (.aload_n 0) 1 80 := ⟨by decide +kernel, rfl⟩
theorem dX12_spreads_80 : zd cX12_spreads 80 (.iload_n 3) 1 81 := ⟨by decide +kernel, rfl⟩
theorem dX12_spreads_81 : zd cX12_spreads 81 (.invokestatic 199) 3 84 := ⟨by decide +kernel, rfl⟩
theorem dX12_spreads_84 : zd cX12_spreads 84 (.iload_n 3) 1 85 := ⟨by decide +kernel, rfl⟩
theorem dX12_spreads_85 : zd cX12_spreads 85 (.invokevirtual 241) 3 88 := ⟨by decide +kernel, rfl⟩
theorem dX12_spreads_88 : zd cX12_spreads 88 (.ifCond .eq 36) 3 91 := ⟨by decide +kernel, rfl⟩
theorem dX12_spreads_91 : zd cX12_spreads 91 (.aload_n 0) 1 92 := ⟨by decide +kernel, rfl⟩
theorem dX12_spreads_92 : zd cX12_spreads 92 (.getfield 83) 3 95 := ⟨by decide +kernel, rfl⟩
theorem dX12_spreads_95 : zd cX12_spreads 95 (.iload_n 2) 1 96 := ⟨by decide +kernel, rfl⟩
theorem dX12_spreads_96 : zd cX12_spreads 96 (.iaload) 1 97 := ⟨by decide +kernel, rfl⟩
theorem dX12_spreads_97 : zd cX12_spreads 97 (.iconst 1) 1 98 := ⟨by decide +kernel, rfl⟩
theorem dX12_spreads_98 : zd cX12_spreads 98 (.iadd) 1 99 := ⟨by decide +kernel, rfl⟩
theorem dX12_spreads_99 : zd cX12_spreads 99 (.aload_n 0) 1 100 := ⟨by decide +kernel, rfl⟩
theorem dX12_spreads_100 : zd cX12_spreads 100 (.getfield 83) 3 103 := ⟨by decide +kernel, rfl⟩
theorem dX12_spreads_103 : zd cX12_spreads 103 (.iload 4) 2 105 := ⟨by decide +kernel, rfl⟩
theorem dX12_spreads_105 : zd cX12_spreads 105 (.iaload) 1 106 := ⟨by decide +kernel, rfl⟩
theorem dX12_spreads_106 : zd cX12_spreads 106 (.if_icmp .ge 18) 3 109 := ⟨by decide +kernel, rfl⟩
theorem dX12_spreads_109 : zd cX12_spreads 109 (.aload_n 0) 1 110 := ⟨by decide +kernel, rfl⟩
theorem dX12_spreads_110 : zd cX12_spreads 110 (.getfield 83) 3 113 := ⟨by decide +kernel, rfl⟩
theorem dX12_spreads_113 : zd cX12_spreads 113 (.iload 4) 2 115 := ⟨by decide +kernel, rfl⟩
theorem dX12_spreads_115 : zd cX12_spreads 115 (.aload_n 0) 1 116 := ⟨by decide +kernel, rfl⟩
theorem dX12_spreads_116 : zd cX12_spreads 116 (.getfield 83) 3 119 := ⟨by decide +kernel, rfl⟩
theorem dX12_spreads_119 : zd cX12_spreads 119 (.iload_n 2) 1 120 := ⟨by decide +kernel, rfl⟩
theorem dX12_spreads_120 : zd cX12_spreads 120 (.iaload) 1 121 := ⟨by decide +kernel, rfl⟩
theorem dX12_spreads_121 : zd cX12_spreads 121 (.iconst 1) 1 122 := ⟨by decide +kernel, rfl⟩
theorem dX12_spreads_122 : zd cX12_spreads 122 (.iadd) 1 123 := ⟨by decide +kernel, rfl⟩
theorem dX12_spreads_123 : zd cX12_spreads 123 (.iastore) 1 124 := ⟨by decide +kernel, rfl⟩
theorem dX12_spreads_124 : zd cX12_spreads 124 (.iinc 3 1) 3 127 := ⟨by decide +kernel, rfl⟩
theorem dX12_spreads_127 : zd cX12_spreads 127 (.goto (-75)) 3 130 := ⟨by decide +kernel, rfl⟩
theorem dX12_spreads_130 : zd cX12_spreads 130 (.iinc 2 1) 3 133 := ⟨by decide +kernel, rfl⟩
theorem dX12_spreads_133 : zd cX12_spreads 133 (.goto (-90)) 3 136 := ⟨by decide +kernel, rfl⟩
theorem dX12_spreads_136 : zd cX12_spreads 136 (.iinc 1 1) 3 139 := ⟨by decide +kernel, rfl⟩
theorem dX12_spreads_139 : zd cX12_spreads 139 (.goto (-104)) 3 142 := ⟨by decide +kernel, rfl⟩
theorem dX12_spreads_142 : zd cX12_spreads 142 (.return_) 1 143 := ⟨by decide +kernel, rfl⟩
theorem dX12_isPower_0 : zd cX12_isPower 0 (.iload_n 0) 1 1 := ⟨by decide +kernel, rfl⟩
theorem dX12_isPower_1 : zd cX12_isPower 1 (.i2l) 1 2 := ⟨by decide +kernel, rfl⟩
theorem dX12_isPower_2 : zd cX12_isPower 2 (.ldc2_w 245) 3 5 := ⟨by decide +kernel, rfl⟩
theorem dX12_isPower_5 : zd cX12_isPower 5 (.ldc2_w 247) 3 8 := ⟨by decide +kernel, rfl⟩
theorem dX12_isPower_8 : zd cX12_isPower 8 (.invokestatic 163) 3 11 := ⟨by decide +kernel, rfl⟩
theorem dX12_isPower_11 : zd cX12_isPower 11 (.ireturn) 1 12 := ⟨by decide +kernel, rfl⟩
theorem dX12_leastTo_0 : zd cX12_leastTo 0 (.aload_n 0) 1 1 := ⟨by decide +kernel, rfl⟩
theorem dX12_leastTo_1 : zd cX12_leastTo 1 (.getfield 83) 3 4 := ⟨by decide +kernel, rfl⟩
theorem dX12_leastTo_4 : zd cX12_leastTo 4 (.bipush 32) 2 6 := ⟨by decide +kernel, rfl⟩
theorem dX12_leastTo_6 : zd cX12_leastTo 6 (.iload_n 1) 1 7 := ⟨by decide +kernel, rfl⟩
theorem dX12_leastTo_7 : zd cX12_leastTo 7 (.iadd) 1 8 := ⟨by decide +kernel, rfl⟩
theorem dX12_leastTo_8 : zd cX12_leastTo 8 (.iaload) 1 9 := ⟨by decide +kernel, rfl⟩
theorem dX12_leastTo_9 : zd cX12_leastTo 9 (.aload_n 0) 1 10 := ⟨by decide +kernel, rfl⟩
theorem dX12_leastTo_10 : zd cX12_leastTo 10 (.getfield 83) 3 13 := ⟨by decide +kernel, rfl⟩
theorem dX12_leastTo_13 : zd cX12_leastTo 13 (.bipush 32) 2 15 := ⟨by decide +kernel, rfl⟩
theorem dX12_leastTo_15 : zd cX12_leastTo 15 (.iload_n 2) 1 16 := ⟨by decide +kernel, rfl⟩
theorem dX12_leastTo_16 : zd cX12_leastTo 16 (.iadd) 1 17 := ⟨by decide +kernel, rfl⟩
theorem dX12_leastTo_17 : zd cX12_leastTo 17 (.iaload) 1 18 := ⟨by decide +kernel, rfl⟩
theorem dX12_leastTo_18 : zd cX12_leastTo 18 (.iadd) 1 19 := ⟨by decide +kernel, rfl⟩
theorem dX12_leastTo_19 : zd cX12_leastTo 19 (.aload_n 0) 1 20 := ⟨by decide +kernel, rfl⟩
theorem dX12_leastTo_20 : zd cX12_leastTo 20 (.getfield 83) 3 23 := ⟨by decide +kernel, rfl⟩
theorem dX12_leastTo_23 : zd cX12_leastTo 23 (.bipush 32) 2 25 := ⟨by decide +kernel, rfl⟩
theorem dX12_leastTo_25 : zd cX12_leastTo 25 (.iload_n 3) 1 26 := ⟨by decide +kernel, rfl⟩
theorem dX12_leastTo_26 : zd cX12_leastTo 26 (.iadd) 1 27 := ⟨by decide +kernel, rfl⟩
theorem dX12_leastTo_27 : zd cX12_leastTo 27 (.iaload) 1 28 := ⟨by decide +kernel, rfl⟩
theorem dX12_leastTo_28 : zd cX12_leastTo 28 (.iadd) 1 29 := ⟨by decide +kernel, rfl⟩
theorem dX12_leastTo_29 : zd cX12_leastTo 29 (.istore 4) 2 31 := ⟨by decide +kernel, rfl⟩
theorem dX12_leastTo_31 : zd cX12_leastTo 31 (.iload 4) 2 33 := ⟨by decide +kernel, rfl⟩
theorem dX12_leastTo_33 : zd cX12_leastTo 33 (.sipush 999) 3 36 := ⟨by decide +kernel, rfl⟩
theorem dX12_leastTo_36 : zd cX12_leastTo 36 (.if_icmp .ge 8) 3 39 := ⟨by decide +kernel, rfl⟩
theorem dX12_leastTo_39 : zd cX12_leastTo 39 (.iload 4) 2 41 := ⟨by decide +kernel, rfl⟩
theorem dX12_leastTo_41 : zd cX12_leastTo 41 (.goto 4) 3 44 := ⟨by decide +kernel, rfl⟩
theorem dX12_leastTo_44 : zd cX12_leastTo 44 (.iconst (-1)) 1 45 := ⟨by decide +kernel, rfl⟩
theorem dX12_leastTo_45 : zd cX12_leastTo 45 (.ireturn) 1 46 := ⟨by decide +kernel, rfl⟩
theorem dX12_fewest_0 : zd cX12_fewest 0 (.iload_n 1) 1 1 := ⟨by decide +kernel, rfl⟩
theorem dX12_fewest_1 : zd cX12_fewest 1 (.invokestatic 249) 3 4 := ⟨by decide +kernel, rfl⟩
theorem dX12_fewest_4 : zd cX12_fewest 4 (.ifCond .eq 17) 3 7 := ⟨by decide +kernel, rfl⟩
theorem dX12_fewest_7 : zd cX12_fewest 7 (.iload_n 2) 1 8 := ⟨by decide +kernel, rfl⟩
theorem dX12_fewest_8 : zd cX12_fewest 8 (.invokestatic 249) 3 11 := ⟨by decide +kernel, rfl⟩
theorem dX12_fewest_11 : zd cX12_fewest 11 (.ifCond .eq 10) 3 14 := ⟨by decide +kernel, rfl⟩
theorem dX12_fewest_14 : zd cX12_fewest 14 (.iload_n 3) 1 15 := ⟨by decide +kernel, rfl⟩
theorem dX12_fewest_15 : zd cX12_fewest 15 (.invokestatic 249) 3 18 := ⟨by decide +kernel, rfl⟩
theorem dX12_fewest_18 : zd cX12_fewest 18 (.ifCond .ne 6) 3 21 := ⟨by decide +kernel, rfl⟩
theorem dX12_fewest_21 : zd cX12_fewest 21 (.bipush (-2)) 2 23 := ⟨by decide +kernel, rfl⟩
theorem dX12_fewest_23 : zd cX12_fewest 23 (.ireturn) 1 24 := ⟨by decide +kernel, rfl⟩
theorem dX12_fewest_24 : zd cX12_fewest 24 (.aload_n 0) 1 25 := ⟨by decide +kernel, rfl⟩
theorem dX12_fewest_25 : zd cX12_fewest 25 (.invokevirtual 252) 3 28 := ⟨by decide +kernel, rfl⟩
theorem dX12_fewest_28 : zd cX12_fewest 28 (.aload_n 0) 1 29 := ⟨by decide +kernel, rfl⟩
theorem dX12_fewest_29 : zd cX12_fewest 29 (.iload_n 1) 1 30 := ⟨by decide +kernel, rfl⟩
theorem dX12_fewest_30 : zd cX12_fewest 30 (.iload_n 2) 1 31 := ⟨by decide +kernel, rfl⟩
theorem dX12_fewest_31 : zd cX12_fewest 31 (.iload_n 3) 1 32 := ⟨by decide +kernel, rfl⟩
theorem dX12_fewest_32 : zd cX12_fewest 32 (.invokevirtual 255) 3 35 := ⟨by decide +kernel, rfl⟩
theorem dX12_fewest_35 : zd cX12_fewest 35 (.ireturn) 1 36 := ⟨by decide +kernel, rfl⟩
theorem dX12_setting_0 : zd cX12_setting 0 (.iload_n 1) 1 1 := ⟨by decide +kernel, rfl⟩
theorem dX12_setting_1 : zd cX12_setting 1 (.invokestatic 249) 3 4 := ⟨by decide +kernel, rfl⟩
theorem dX12_setting_4 : zd cX12_setting 4 (.ifCond .eq 22) 3 7 := ⟨by decide +kernel, rfl⟩
theorem dX12_setting_7 : zd cX12_setting 7 (.iload_n 2) 1 8 := ⟨by decide +kernel, rfl⟩
theorem dX12_setting_8 : zd cX12_setting 8 (.invokestatic 249) 3 11 := ⟨by decide +kernel, rfl⟩
theorem dX12_setting_11 : zd cX12_setting 11 (.ifCond .eq 15) 3 14 := ⟨by decide +kernel, rfl⟩
theorem dX12_setting_14 : zd cX12_setting 14 (.iload_n 3) 1 15 := ⟨by decide +kernel, rfl⟩
theorem dX12_setting_15 : zd cX12_setting 15 (.invokestatic 249) 3 18 := ⟨by decide +kernel, rfl⟩
theorem dX12_setting_18 : zd cX12_setting 18 (.ifCond .eq 8) 3 21 := ⟨by decide +kernel, rfl⟩
theorem dX12_setting_21 : zd cX12_setting 21 (.iload 4) 2 23 := ⟨by decide +kernel, rfl⟩
theorem dX12_setting_23 : zd cX12_setting 23 (.ifCond .ge 6) 3 26 := ⟨by decide +kernel, rfl⟩
theorem dX12_setting_26 : zd cX12_setting 26 (.bipush (-2)) 2 28 := ⟨by decide +kernel, rfl⟩
theorem dX12_setting_28 : zd cX12_setting 28 (.ireturn) 1 29 := ⟨by decide +kernel, rfl⟩
theorem dX12_setting_29 : zd cX12_setting 29 (.aload_n 0) 1 30 := ⟨by decide +kernel, rfl⟩
theorem dX12_setting_30 : zd cX12_setting 30 (.invokevirtual 252) 3 33 := ⟨by decide +kernel, rfl⟩
theorem dX12_setting_33 : zd cX12_setting 33 (.aload_n 0) 1 34 := ⟨by decide +kernel, rfl⟩
theorem dX12_setting_34 : zd cX12_setting 34 (.iload_n 1) 1 35 := ⟨by decide +kernel, rfl⟩
theorem dX12_setting_35 : zd cX12_setting 35 (.iload_n 2) 1 36 := ⟨by decide +kernel, rfl⟩
theorem dX12_setting_36 : zd cX12_setting 36 (.iload_n 3) 1 37 := ⟨by decide +kernel, rfl⟩
theorem dX12_setting_37 : zd cX12_setting 37 (.invokevirtual 255) 3 40 := ⟨by decide +kernel, rfl⟩
theorem dX12_setting_40 : zd cX12_setting 40 (.istore 5) 2 42 := ⟨by decide +kernel, rfl⟩
theorem dX12_setting_42 : zd cX12_setting 42 (.iload 4) 2 44 := ⟨by decide +kernel, rfl⟩
theorem dX12_setting_44 : zd cX12_setting 44 (.iload 5) 2 46 := ⟨by decide +kernel, rfl⟩
theorem dX12_setting_46 : zd cX12_setting 46 (.if_icmp .lt 5) 3 49 := ⟨by decide +kernel, rfl⟩
theorem dX12_setting_49 : zd cX12_setting 49 (.iconst (-1)) 1 50 := ⟨by decide +kernel, rfl⟩
theorem dX12_setting_50 : zd cX12_setting 50 (.ireturn) 1 51 := ⟨by decide +kernel, rfl⟩
theorem dX12_setting_51 : zd cX12_setting 51 (.iload_n 1) 1 52 := ⟨by decide +kernel, rfl⟩
theorem dX12_setting_52 : zd cX12_setting 52 (.istore 6) 2 54 := ⟨by decide +kernel, rfl⟩
theorem dX12_setting_54 : zd cX12_setting 54 (.iload_n 2) 1 55 := ⟨by decide +kernel, rfl⟩
theorem dX12_setting_55 : zd cX12_setting 55 (.istore 7) 2 57 := ⟨by decide +kernel, rfl⟩
theorem dX12_setting_57 : zd cX12_setting 57 (.iload_n 3) 1 58 := ⟨by decide +kernel, rfl⟩
theorem dX12_setting_58 : zd cX12_setting 58 (.istore 8) 2 60 := ⟨by decide +kernel, rfl⟩
theorem dX12_setting_60 : zd cX12_setting 60 (.iconst (-1)) 1 61 := ⟨by decide +kernel, rfl⟩
theorem dX12_setting_61 : zd cX12_setting 61 (.istore 9) 2 63 := ⟨by decide +kernel, rfl⟩
theorem dX12_setting_63 : zd cX12_setting 63 (.iconst 0) 1 64 := ⟨by decide +kernel, rfl⟩
theorem dX12_setting_64 : zd cX12_setting 64 (.istore 10) 2 66 := ⟨by decide +kernel, rfl⟩
theorem dX12_setting_66 : zd cX12_setting 66 (.iload 10) 2 68 := ⟨by decide +kernel, rfl⟩
theorem dX12_setting_68 : zd cX12_setting 68 (.iload 4) 2 70 := ⟨by decide +kernel, rfl⟩
theorem dX12_setting_70 : zd cX12_setting 70 (.if_icmp .gt 189) 3 73 := ⟨by decide +kernel, rfl⟩
theorem dX12_setting_73 : zd cX12_setting 73 (.iconst (-1)) 1 74 := ⟨by decide +kernel, rfl⟩
theorem dX12_setting_74 : zd cX12_setting 74 (.istore 9) 2 76 := ⟨by decide +kernel, rfl⟩
theorem dX12_setting_76 : zd cX12_setting 76 (.iconst 1) 1 77 := ⟨by decide +kernel, rfl⟩
theorem dX12_setting_77 : zd cX12_setting 77 (.istore 11) 2 79 := ⟨by decide +kernel, rfl⟩
theorem dX12_setting_79 : zd cX12_setting 79 (.iload 11) 2 81 := ⟨by decide +kernel, rfl⟩
theorem dX12_setting_81 : zd cX12_setting 81 (.bipush 124) 2 83 := ⟨by decide +kernel, rfl⟩
theorem dX12_setting_83 : zd cX12_setting 83 (.if_icmp .ge 167) 3 86 := ⟨by decide +kernel, rfl⟩
theorem dX12_setting_86 : zd cX12_setting 86 (.iload 9) 2 88 := ⟨by decide +kernel, rfl⟩
theorem dX12_setting_88 : zd cX12_setting 88 (.ifCond .ge 162) 3 91 := ⟨by decide +kernel, rfl⟩
theorem dX12_setting_91 : zd cX12_setting 91 (.iload 11) 2 93 := ⟨by decide +kernel, rfl⟩
theorem dX12_setting_93 : zd cX12_setting 93 (.bipush 10) 2 95 := ⟨by decide +kernel, rfl⟩
theorem dX12_setting_95 : zd cX12_setting 95 (.irem) 1 96 := ⟨by decide +kernel, rfl⟩
theorem dX12_setting_96 : zd cX12_setting 96 (.istore 12) 2 98 := ⟨by decide +kernel, rfl⟩
theorem dX12_setting_98 : zd cX12_setting 98 (.iload 11) 2 100 := ⟨by decide +kernel, rfl⟩
theorem dX12_setting_100 : zd cX12_setting 100 (.bipush 10) 2 102 := ⟨by decide +kernel, rfl⟩
theorem dX12_setting_102 : zd cX12_setting 102 (.idiv) 1 103 := ⟨by decide +kernel, rfl⟩
theorem dX12_setting_103 : zd cX12_setting 103 (.bipush 10) 2 105 := ⟨by decide +kernel, rfl⟩
theorem dX12_setting_105 : zd cX12_setting 105 (.irem) 1 106 := ⟨by decide +kernel, rfl⟩
theorem dX12_setting_106 : zd cX12_setting 106 (.istore 13) 2 108 := ⟨by decide +kernel, rfl⟩
theorem dX12_setting_108 : zd cX12_setting 108 (.iload 11) 2 110 := ⟨by decide +kernel, rfl⟩
theorem dX12_setting_110 : zd cX12_setting 110 (.bipush 100) 2 112 := ⟨by decide +kernel, rfl⟩
theorem dX12_setting_112 : zd cX12_setting 112 (.if_icmp .ge 7) 3 115 := ⟨by decide +kernel, rfl⟩
theorem dX12_setting_115 : zd cX12_setting 115 (.iconst 1) 1 116 := ⟨by decide +kernel, rfl⟩
theorem dX12_setting_116 : zd cX12_setting 116 (.goto 4) 3 119 := ⟨by decide +kernel, rfl⟩
theorem dX12_setting_119 : zd cX12_setting 119 (.iconst (-1)) 1 120 := ⟨by decide +kernel, rfl⟩
theorem dX12_setting_120 : zd cX12_setting 120 (.istore 14) 2 122 := ⟨by decide +kernel, rfl⟩
theorem dX12_setting_122 : zd cX12_setting 122 (.iload 12) 2 124 := ⟨by decide +kernel, rfl⟩
theorem dX12_setting_124 : zd cX12_setting 124 (.i2l) 1 125 := ⟨by decide +kernel, rfl⟩
theorem dX12_setting_125 : zd cX12_setting 125 (.lconst 1) 1 126 := ⟨by decide +kernel, rfl⟩
theorem dX12_setting_126 : zd cX12_setting 126 (.ldc2_w 171) 3 129 := ⟨by decide +kernel, rfl⟩
theorem dX12_setting_129 : zd cX12_setting 129 (.invokestatic 163) 3 132 := ⟨by decide +kernel, rfl⟩
theorem dX12_setting_132 : zd cX12_setting 132 (.ifCond .eq 112) 3 135 := ⟨by decide +kernel, rfl⟩
theorem dX12_setting_135 : zd cX12_setting 135 (.iload 13) 2 137 := ⟨by decide +kernel, rfl⟩
theorem dX12_setting_137 : zd cX12_setting 137 (.iconst 3) 1 138 := ⟨by decide +kernel, rfl⟩
theorem dX12_setting_138 : zd cX12_setting 138 (.if_icmp .ge 106) 3 141 := ⟨by decide +kernel, rfl⟩
theorem dX12_setting_141 : zd cX12_setting 141 (.aload_n 0) 1 142 := ⟨by decide +kernel, rfl⟩
theorem dX12_setting_142 : zd cX12_setting 142 (.iload 12) 2 144 := ⟨by decide +kernel, rfl⟩
theorem dX12_setting_144 : zd cX12_setting 144 (.iload 14) 2 146 := ⟨by decide +kernel, rfl⟩
theorem dX12_setting_146 : zd cX12_setting 146 (.invokevirtual 241) 3 149 := ⟨by decide +kernel, rfl⟩
theorem dX12_setting_149 : zd cX12_setting 149 (.ifCond .eq 95) 3 152 := ⟨by decide +kernel, rfl⟩
theorem dX12_setting_152 : zd cX12_setting 152 (.iload 6) 2 154 := ⟨by decide +kernel, rfl⟩
theorem dX12_setting_154 : zd cX12_setting 154 (.iload 13) 2 156 := ⟨by decide +kernel, rfl⟩
theorem dX12_setting_156 : zd cX12_setting 156 (.ifCond .ne 11) 3 159 := ⟨by decide +kernel, rfl⟩
theorem dX12_setting_159 : zd cX12_setting 159 (.iload 14) 2 161 := ⟨by decide +kernel, rfl⟩
theorem dX12_setting_161 : zd cX12_setting 161 (.iload 12) 2 163 := ⟨by decide +kernel, rfl⟩
theorem dX12_setting_163 : zd cX12_setting 163 (.imul) 1 164 := ⟨by decide +kernel, rfl⟩
theorem dX12_setting_164 : zd cX12_setting 164 (.goto 4) 3 167 := ⟨by decide +kernel, rfl⟩
theorem dX12_setting_167 : zd cX12_setting 167 (.iconst 0) 1 168 := ⟨by decide +kernel, rfl⟩
theorem dX12_setting_168 : zd cX12_setting 168 (.isub) 1 169 := ⟨by decide +kernel, rfl⟩
theorem dX12_setting_169 : zd cX12_setting 169 (.istore 15) 2 171 := ⟨by decide +kernel, rfl⟩
theorem dX12_setting_171 : zd cX12_setting 171 (.iload 7) 2 173 := ⟨by decide +kernel, rfl⟩
theorem dX12_setting_173 : zd cX12_setting 173 (.iload 13) 2 175 := ⟨by decide +kernel, rfl⟩
theorem dX12_setting_175 : zd cX12_setting 175 (.iconst 1) 1 176 := ⟨by decide +kernel, rfl⟩
theorem dX12_setting_176 : zd cX12_setting 176 (.if_icmp .ne 11) 3 179 := ⟨by decide +kernel, rfl⟩
theorem dX12_setting_179 : zd cX12_setting 179 (.iload 14) 2 181 := ⟨by decide +kernel, rfl⟩
theorem dX12_setting_181 : zd cX12_setting 181 (.iload 12) 2 183 := ⟨by decide +kernel, rfl⟩
theorem dX12_setting_183 : zd cX12_setting 183 (.imul) 1 184 := ⟨by decide +kernel, rfl⟩
theorem dX12_setting_184 : zd cX12_setting 184 (.goto 4) 3 187 := ⟨by decide +kernel, rfl⟩
theorem dX12_setting_187 : zd cX12_setting 187 (.iconst 0) 1 188 := ⟨by decide +kernel, rfl⟩
theorem dX12_setting_188 : zd cX12_setting 188 (.isub) 1 189 := ⟨by decide +kernel, rfl⟩
theorem dX12_setting_189 : zd cX12_setting 189 (.istore 16) 2 191 := ⟨by decide +kernel, rfl⟩
theorem dX12_setting_191 : zd cX12_setting 191 (.iload 8) 2 193 := ⟨by decide +kernel, rfl⟩
theorem dX12_setting_193 : zd cX12_setting 193 (.iload 13) 2 195 := ⟨by decide +kernel, rfl⟩
theorem dX12_setting_195 : zd cX12_setting 195 (.iconst 2) 1 196 := ⟨by decide +kernel, rfl⟩
theorem dX12_setting_196 : zd cX12_setting 196 (.if_icmp .ne 11) 3 199 := ⟨by decide +kernel, rfl⟩
theorem dX12_setting_199 : zd cX12_setting 199 (.iload 14) 2 201 := ⟨by decide +kernel, rfl⟩
theorem dX12_setting_201 : zd cX12_setting 201 (.iload 12) 2 203 := ⟨by decide +kernel, rfl⟩
theorem dX12_setting_203 : zd cX12_setting 203 (.imul) 1 204 := ⟨by decide +kernel, rfl⟩
theorem dX12_setting_204 : zd cX12_setting 204 (.goto 4) 3 207 := ⟨by decide +kernel, rfl⟩
theorem dX12_setting_207 : zd cX12_setting 207 (.iconst 0) 1 208 := ⟨by decide +kernel, rfl⟩
theorem dX12_setting_208 : zd cX12_setting 208 (.isub) 1 209 := ⟨by decide +kernel, rfl⟩
theorem dX12_setting_209 : zd cX12_setting 209 (.istore 17) 2 211 := ⟨by decide +kernel, rfl⟩
theorem dX12_setting_211 : zd cX12_setting 211 (.aload_n 0) 1 212 := ⟨by decide +kernel, rfl⟩
theorem dX12_setting_212 : zd cX12_setting 212 (.iload 15) 2 214 := ⟨by decide +kernel, rfl⟩
theorem dX12_setting_214 : zd cX12_setting 214 (.iload 16) 2 216 := ⟨by decide +kernel, rfl⟩
theorem dX12_setting_216 : zd cX12_setting 216 (.iload 17) 2 218 := ⟨by decide +kernel, rfl⟩
theorem dX12_setting_218 : zd cX12_setting 218 (.invokevirtual 255) 3 221 := ⟨by decide +kernel, rfl⟩
theorem dX12_setting_221 : zd cX12_setting 221 (.iload 5) 2 223 := ⟨by decide +kernel, rfl⟩
theorem dX12_setting_223 : zd cX12_setting 223 (.iconst 1) 1 224 := ⟨by decide +kernel, rfl⟩
theorem dX12_setting_224 : zd cX12_setting 224 (.isub) 1 225 := ⟨by decide +kernel, rfl⟩
theorem dX12_setting_225 : zd cX12_setting 225 (.if_icmp .ne 19) 3 228 := ⟨by decide +kernel, rfl⟩
theorem dX12_setting_228 : zd cX12_setting 228 (.iload 11) 2 230 := ⟨by decide +kernel, rfl⟩
theorem dX12_setting_230 : zd cX12_setting 230 (.istore 9) 2 232 := ⟨by decide +kernel, rfl⟩
theorem dX12_setting_232 : zd cX12_setting 232 (.iload 15) 2 234 := ⟨by decide +kernel, rfl⟩
theorem dX12_setting_234 : zd cX12_setting 234 (.istore 6) 2 236 := ⟨by decide +kernel, rfl⟩
theorem dX12_setting_236 : zd cX12_setting 236 (.iload 16) 2 238 := ⟨by decide +kernel, rfl⟩
theorem dX12_setting_238 : zd cX12_setting 238 (.istore 7) 2 240 := ⟨by decide +kernel, rfl⟩
theorem dX12_setting_240 : zd cX12_setting 240 (.iload 17) 2 242 := ⟨by decide +kernel, rfl⟩
theorem dX12_setting_242 : zd cX12_setting 242 (.istore 8) 2 244 := ⟨by decide +kernel, rfl⟩
theorem dX12_setting_244 : zd cX12_setting 244 (.iinc 11 1) 3 247 := ⟨by decide +kernel, rfl⟩
theorem dX12_setting_247 : zd cX12_setting 247 (.goto (-168)) 3 250 := ⟨by decide +kernel, rfl⟩
theorem dX12_setting_250 : zd cX12_setting 250 (.iinc 5 (-1)) 3 253 := ⟨by decide +kernel, rfl⟩
theorem dX12_setting_253 : zd cX12_setting 253 (.iinc 10 1) 3 256 := ⟨by decide +kernel, rfl⟩
theorem dX12_setting_256 : zd cX12_setting 256 (.goto (-190)) 3 259 := ⟨by decide +kernel, rfl⟩
theorem dX12_setting_259 : zd cX12_setting 259 (.iload 9) 2 261 := ⟨by decide +kernel, rfl⟩
theorem dX12_setting_261 : zd cX12_setting 261 (.ireturn) 1 262 := ⟨by decide +kernel, rfl⟩
theorem dX12_isStrip_0 : zd cX12_isStrip 0 (.iload_n 0) 1 1 := ⟨by decide +kernel, rfl⟩
theorem dX12_isStrip_1 : zd cX12_isStrip 1 (.i2l) 1 2 := ⟨by decide +kernel, rfl⟩
theorem dX12_isStrip_2 : zd cX12_isStrip 2 (.lconst 0) 1 3 := ⟨by decide +kernel, rfl⟩
theorem dX12_isStrip_3 : zd cX12_isStrip 3 (.lconst 1) 1 4 := ⟨by decide +kernel, rfl⟩
theorem dX12_isStrip_4 : zd cX12_isStrip 4 (.invokestatic 163) 3 7 := ⟨by decide +kernel, rfl⟩
theorem dX12_isStrip_7 : zd cX12_isStrip 7 (.ireturn) 1 8 := ⟨by decide +kernel, rfl⟩
theorem dX12_cut_0 : zd cX12_cut 0 (.iload_n 1) 1 1 := ⟨by decide +kernel, rfl⟩
theorem dX12_cut_1 : zd cX12_cut 1 (.invokestatic 259) 3 4 := ⟨by decide +kernel, rfl⟩
theorem dX12_cut_4 : zd cX12_cut 4 (.ifCond .eq 46) 3 7 := ⟨by decide +kernel, rfl⟩
theorem dX12_cut_7 : zd cX12_cut 7 (.iload_n 2) 1 8 := ⟨by decide +kernel, rfl⟩
theorem dX12_cut_8 : zd cX12_cut 8 (.i2l) 1 9 := ⟨by decide +kernel, rfl⟩
theorem dX12_cut_9 : zd cX12_cut 9 (.lconst 0) 1 10 := ⟨by decide +kernel, rfl⟩
theorem dX12_cut_10 : zd cX12_cut 10 (.ldc2_w 211) 3 13 := ⟨by decide +kernel, rfl⟩
theorem dX12_cut_13 : zd cX12_cut 13 (.invokestatic 163) 3 16 := ⟨by decide +kernel, rfl⟩
theorem dX12_cut_16 : zd cX12_cut 16 (.ifCond .eq 34) 3 19 := ⟨by decide +kernel, rfl⟩
theorem dX12_cut_19 : zd cX12_cut 19 (.aload_n 0) 1 20 := ⟨by decide +kernel, rfl⟩
theorem dX12_cut_20 : zd cX12_cut 20 (.getfield 42) 3 23 := ⟨by decide +kernel, rfl⟩
theorem dX12_cut_23 : zd cX12_cut 23 (.iload_n 1) 1 24 := ⟨by decide +kernel, rfl⟩
theorem dX12_cut_24 : zd cX12_cut 24 (.iaload) 1 25 := ⟨by decide +kernel, rfl⟩
theorem dX12_cut_25 : zd cX12_cut 25 (.ifCond .le 28) 3 28 := ⟨by decide +kernel, rfl⟩
theorem dX12_cut_28 : zd cX12_cut 28 (.iload_n 2) 1 29 := ⟨by decide +kernel, rfl⟩
theorem dX12_cut_29 : zd cX12_cut 29 (.aload_n 0) 1 30 := ⟨by decide +kernel, rfl⟩
theorem dX12_cut_30 : zd cX12_cut 30 (.getfield 45) 3 33 := ⟨by decide +kernel, rfl⟩
theorem dX12_cut_33 : zd cX12_cut 33 (.bipush 60) 2 35 := ⟨by decide +kernel, rfl⟩
theorem dX12_cut_35 : zd cX12_cut 35 (.iload_n 1) 1 36 := ⟨by decide +kernel, rfl⟩
theorem dX12_cut_36 : zd cX12_cut 36 (.imul) 1 37 := ⟨by decide +kernel, rfl⟩
theorem dX12_cut_37 : zd cX12_cut 37 (.aload_n 0) 1 38 := ⟨by decide +kernel, rfl⟩
theorem dX12_cut_38 : zd cX12_cut 38 (.getfield 42) 3 41 := ⟨by decide +kernel, rfl⟩
theorem dX12_cut_41 : zd cX12_cut 41 (.iload_n 1) 1 42 := ⟨by decide +kernel, rfl⟩
theorem dX12_cut_42 : zd cX12_cut 42 (.iaload) 1 43 := ⟨by decide +kernel, rfl⟩
theorem dX12_cut_43 : zd cX12_cut 43 (.iadd) 1 44 := ⟨by decide +kernel, rfl⟩
theorem dX12_cut_44 : zd cX12_cut 44 (.iconst 1) 1 45 := ⟨by decide +kernel, rfl⟩
theorem dX12_cut_45 : zd cX12_cut 45 (.isub) 1 46 := ⟨by decide +kernel, rfl⟩
theorem dX12_cut_46 : zd cX12_cut 46 (.iaload) 1 47 := ⟨by decide +kernel, rfl⟩
theorem dX12_cut_47 : zd cX12_cut 47 (.if_icmp .gt 6) 3 50 := ⟨by decide +kernel, rfl⟩
theorem dX12_cut_50 : zd cX12_cut 50 (.bipush (-2)) 2 52 := ⟨by decide +kernel, rfl⟩
theorem dX12_cut_52 : zd cX12_cut 52 (.ireturn) 1 53 := ⟨by decide +kernel, rfl⟩
theorem dX12_cut_53 : zd cX12_cut 53 (.aload_n 0) 1 54 := ⟨by decide +kernel, rfl⟩
theorem dX12_cut_54 : zd cX12_cut 54 (.getfield 42) 3 57 := ⟨by decide +kernel, rfl⟩
theorem dX12_cut_57 : zd cX12_cut 57 (.iload_n 1) 1 58 := ⟨by decide +kernel, rfl⟩
theorem dX12_cut_58 : zd cX12_cut 58 (.iaload) 1 59 := ⟨by decide +kernel, rfl⟩
theorem dX12_cut_59 : zd cX12_cut 59 (.bipush 60) 2 61 := ⟨by decide +kernel, rfl⟩
theorem dX12_cut_61 : zd cX12_cut 61 (.if_icmp .ne 6) 3 64 := ⟨by decide +kernel, rfl⟩
theorem dX12_cut_64 : zd cX12_cut 64 (.bipush (-4)) 2 66 := ⟨by decide +kernel, rfl⟩
theorem dX12_cut_66 : zd cX12_cut 66 (.ireturn) 1 67 := ⟨by decide +kernel, rfl⟩
theorem dX12_cut_67 : zd cX12_cut 67 (.aload_n 0) 1 68 := ⟨by decide +kernel, rfl⟩
theorem dX12_cut_68 : zd cX12_cut 68 (.getfield 45) 3 71 := ⟨by decide +kernel, rfl⟩
theorem dX12_cut_71 : zd cX12_cut 71 (.bipush 60) 2 73 := ⟨by decide +kernel, rfl⟩
theorem dX12_cut_73 : zd cX12_cut 73 (.iload_n 1) 1 74 := ⟨by decide +kernel, rfl⟩
theorem dX12_cut_74 : zd cX12_cut 74 (.imul) 1 75 := ⟨by decide +kernel, rfl⟩
theorem dX12_cut_75 : zd cX12_cut 75 (.aload_n 0) 1 76 := ⟨by decide +kernel, rfl⟩
theorem dX12_cut_76 : zd cX12_cut 76 (.getfield 42) 3 79 := ⟨by decide +kernel, rfl⟩
theorem dX12_cut_79 : zd cX12_cut 79 (.iload_n 1) 1 80 := ⟨by decide +kernel, rfl⟩
theorem dX12_cut_80 : zd cX12_cut 80 (.iaload) 1 81 := ⟨by decide +kernel, rfl⟩
theorem dX12_cut_81 : zd cX12_cut 81 (.iadd) 1 82 := ⟨by decide +kernel, rfl⟩
theorem dX12_cut_82 : zd cX12_cut 82 (.iload_n 2) 1 83 := ⟨by decide +kernel, rfl⟩
theorem dX12_cut_83 : zd cX12_cut 83 (.iastore) 1 84 := ⟨by decide +kernel, rfl⟩
theorem dX12_cut_84 : zd cX12_cut 84 (.aload_n 0) 1 85 := ⟨by decide +kernel, rfl⟩
theorem dX12_cut_85 : zd cX12_cut 85 (.getfield 42) 3 88 := ⟨by decide +kernel, rfl⟩
theorem dX12_cut_88 : zd cX12_cut 88 (.iload_n 1) 1 89 := ⟨by decide +kernel, rfl⟩
theorem dX12_cut_89 : zd cX12_cut 89 (.dup2) 1 90 := ⟨by decide +kernel, rfl⟩
theorem dX12_cut_90 : zd cX12_cut 90 (.iaload) 1 91 := ⟨by decide +kernel, rfl⟩
theorem dX12_cut_91 : zd cX12_cut 91 (.iconst 1) 1 92 := ⟨by decide +kernel, rfl⟩
theorem dX12_cut_92 : zd cX12_cut 92 (.iadd) 1 93 := ⟨by decide +kernel, rfl⟩
theorem dX12_cut_93 : zd cX12_cut 93 (.iastore) 1 94 := ⟨by decide +kernel, rfl⟩
theorem dX12_cut_94 : zd cX12_cut 94 (.aload_n 0) 1 95 := ⟨by decide +kernel, rfl⟩
theorem dX12_cut_95 : zd cX12_cut 95 (.getfield 42) 3 98 := ⟨by decide +kernel, rfl⟩
theorem dX12_cut_98 : zd cX12_cut 98 (.iload_n 1) 1 99 := ⟨by decide +kernel, rfl⟩
theorem dX12_cut_99 : zd cX12_cut 99 (.iaload) 1 100 := ⟨by decide +kernel, rfl⟩
theorem dX12_cut_100 : zd cX12_cut 100 (.ireturn) 1 101 := ⟨by decide +kernel, rfl⟩
theorem dX12_wipe_0 : zd cX12_wipe 0 (.iload_n 1) 1 1 := ⟨by decide +kernel, rfl⟩
theorem dX12_wipe_1 : zd cX12_wipe 1 (.invokestatic 259) 3 4 := ⟨by decide +kernel, rfl⟩
theorem dX12_wipe_4 : zd cX12_wipe 4 (.ifCond .ne 6) 3 7 := ⟨by decide +kernel, rfl⟩
theorem dX12_wipe_7 : zd cX12_wipe 7 (.bipush (-2)) 2 9 := ⟨by decide +kernel, rfl⟩
theorem dX12_wipe_9 : zd cX12_wipe 9 (.ireturn) 1 10 := ⟨by decide +kernel, rfl⟩
theorem dX12_wipe_10 : zd cX12_wipe 10 (.aload_n 0) 1 11 := ⟨by decide +kernel, rfl⟩
theorem dX12_wipe_11 : zd cX12_wipe 11 (.getfield 42) 3 14 := ⟨by decide +kernel, rfl⟩
theorem dX12_wipe_14 : zd cX12_wipe 14 (.iload_n 1) 1 15 := ⟨by decide +kernel, rfl⟩
theorem dX12_wipe_15 : zd cX12_wipe 15 (.iaload) 1 16 := ⟨by decide +kernel, rfl⟩
theorem dX12_wipe_16 : zd cX12_wipe 16 (.istore_n 2) 1 17 := ⟨by decide +kernel, rfl⟩
theorem dX12_wipe_17 : zd cX12_wipe 17 (.aload_n 0) 1 18 := ⟨by decide +kernel, rfl⟩
theorem dX12_wipe_18 : zd cX12_wipe 18 (.getfield 42) 3 21 := ⟨by decide +kernel, rfl⟩
theorem dX12_wipe_21 : zd cX12_wipe 21 (.iload_n 1) 1 22 := ⟨by decide +kernel, rfl⟩
theorem dX12_wipe_22 : zd cX12_wipe 22 (.iconst 0) 1 23 := ⟨by decide +kernel, rfl⟩
theorem dX12_wipe_23 : zd cX12_wipe 23 (.iastore) 1 24 := ⟨by decide +kernel, rfl⟩
theorem dX12_wipe_24 : zd cX12_wipe 24 (.iload_n 2) 1 25 := ⟨by decide +kernel, rfl⟩
theorem dX12_wipe_25 : zd cX12_wipe 25 (.ireturn) 1 26 := ⟨by decide +kernel, rfl⟩
theorem dX12_chosen_0 : zd cX12_chosen 0 (.iload_n 1) 1 1 := ⟨by decide +kernel, rfl⟩
theorem dX12_chosen_1 : zd cX12_chosen 1 (.invokestatic 259) 3 4 := ⟨by decide +kernel, rfl⟩
theorem dX12_chosen_4 : zd cX12_chosen 4 (.ifCond .eq 20) 3 7 := ⟨by decide +kernel, rfl⟩
theorem dX12_chosen_7 : zd cX12_chosen 7 (.iload_n 2) 1 8 := ⟨by decide +kernel, rfl⟩
theorem dX12_chosen_8 : zd cX12_chosen 8 (.i2l) 1 9 := ⟨by decide +kernel, rfl⟩
theorem dX12_chosen_9 : zd cX12_chosen 9 (.lconst 1) 1 10 := ⟨by decide +kernel, rfl⟩
theorem dX12_chosen_10 : zd cX12_chosen 10 (.ldc2_w 167) 3 13 := ⟨by decide +kernel, rfl⟩
theorem dX12_chosen_13 : zd cX12_chosen 13 (.invokestatic 163) 3 16 := ⟨by decide +kernel, rfl⟩
theorem dX12_chosen_16 : zd cX12_chosen 16 (.ifCond .eq 8) 3 19 := ⟨by decide +kernel, rfl⟩
theorem dX12_chosen_19 : zd cX12_chosen 19 (.iload_n 3) 1 20 := ⟨by decide +kernel, rfl⟩
theorem dX12_chosen_20 : zd cX12_chosen 20 (.iconst (-1)) 1 21 := ⟨by decide +kernel, rfl⟩
theorem dX12_chosen_21 : zd cX12_chosen 21 (.if_icmp .ge 6) 3 24 := ⟨by decide +kernel, rfl⟩
theorem dX12_chosen_24 : zd cX12_chosen 24 (.bipush (-2)) 2 26 := ⟨by decide +kernel, rfl⟩
theorem dX12_chosen_26 : zd cX12_chosen 26 (.ireturn) 1 27 := ⟨by decide +kernel, rfl⟩
theorem dX12_chosen_27 : zd cX12_chosen 27 (.iconst 0) 1 28 := ⟨by decide +kernel, rfl⟩
theorem dX12_chosen_28 : zd cX12_chosen 28 (.istore 4) 2 30 := ⟨by decide +kernel, rfl⟩
theorem dX12_chosen_30 : zd cX12_chosen 30 (.iconst 0) 1 31 := ⟨by decide +kernel, rfl⟩
theorem dX12_chosen_31 : zd cX12_chosen 31 (.istore 5) 2 33 := ⟨by decide +kernel, rfl⟩
theorem dX12_chosen_33 : zd cX12_chosen 33 (.iconst 0) 1 34 := ⟨by decide +kernel, rfl⟩
theorem dX12_chosen_34 : zd cX12_chosen 34 (.istore 6) 2 36 := ⟨by decide +kernel, rfl⟩
theorem dX12_chosen_36 : zd cX12_chosen 36 (.iload 6) 2 38 := ⟨by decide +kernel, rfl⟩
theorem dX12_chosen_38 : zd cX12_chosen 38 (.aload_n 0) 1 39 := ⟨by decide +kernel, rfl⟩
theorem dX12_chosen_39 : zd cX12_chosen 39 (.getfield 42) 3 42 := ⟨by decide +kernel, rfl⟩
theorem dX12_chosen_42 : zd cX12_chosen 42 (.iload_n 1) 1 43 := ⟨by decide +kernel, rfl⟩
theorem dX12_chosen_43 : zd cX12_chosen 43 (.iaload) 1 44 := ⟨by decide +kernel, rfl⟩
theorem dX12_chosen_44 : zd cX12_chosen 44 (.if_icmp .ge 53) 3 47 := ⟨by decide +kernel, rfl⟩
theorem dX12_chosen_47 : zd cX12_chosen 47 (.aload_n 0) 1 48 := ⟨by decide +kernel, rfl⟩
theorem dX12_chosen_48 : zd cX12_chosen 48 (.getfield 45) 3 51 := ⟨by decide +kernel, rfl⟩
theorem dX12_chosen_51 : zd cX12_chosen 51 (.bipush 60) 2 53 := ⟨by decide +kernel, rfl⟩
theorem dX12_chosen_53 : zd cX12_chosen 53 (.iload_n 1) 1 54 := ⟨by decide +kernel, rfl⟩
theorem dX12_chosen_54 : zd cX12_chosen 54 (.imul) 1 55 := ⟨by decide +kernel, rfl⟩
theorem dX12_chosen_55 : zd cX12_chosen 55 (.iload 6) 2 57 := ⟨by decide +kernel, rfl⟩
theorem dX12_chosen_57 : zd cX12_chosen 57 (.iadd) 1 58 := ⟨by decide +kernel, rfl⟩
theorem dX12_chosen_58 : zd cX12_chosen 58 (.iaload) 1 59 := ⟨by decide +kernel, rfl⟩
theorem dX12_chosen_59 : zd cX12_chosen 59 (.istore 7) 2 61 := ⟨by decide +kernel, rfl⟩
theorem dX12_chosen_61 : zd cX12_chosen 61 (.iload 4) 2 63 := ⟨by decide +kernel, rfl⟩
theorem dX12_chosen_63 : zd cX12_chosen 63 (.ifCond .eq 12) 3 66 := ⟨by decide +kernel, rfl⟩
theorem dX12_chosen_66 : zd cX12_chosen 66 (.iload 7) 2 68 := ⟨by decide +kernel, rfl⟩
theorem dX12_chosen_68 : zd cX12_chosen 68 (.iload 5) 2 70 := ⟨by decide +kernel, rfl⟩
theorem dX12_chosen_70 : zd cX12_chosen 70 (.iload_n 2) 1 71 := ⟨by decide +kernel, rfl⟩
theorem dX12_chosen_71 : zd cX12_chosen 71 (.iadd) 1 72 := ⟨by decide +kernel, rfl⟩
theorem dX12_chosen_72 : zd cX12_chosen 72 (.if_icmp .lt 19) 3 75 := ⟨by decide +kernel, rfl⟩
theorem dX12_chosen_75 : zd cX12_chosen 75 (.iload 4) 2 77 := ⟨by decide +kernel, rfl⟩
theorem dX12_chosen_77 : zd cX12_chosen 77 (.iload_n 3) 1 78 := ⟨by decide +kernel, rfl⟩
theorem dX12_chosen_78 : zd cX12_chosen 78 (.if_icmp .ne 6) 3 81 := ⟨by decide +kernel, rfl⟩
theorem dX12_chosen_81 : zd cX12_chosen 81 (.iload 7) 2 83 := ⟨by decide +kernel, rfl⟩
theorem dX12_chosen_83 : zd cX12_chosen 83 (.ireturn) 1 84 := ⟨by decide +kernel, rfl⟩
theorem dX12_chosen_84 : zd cX12_chosen 84 (.iinc 4 1) 3 87 := ⟨by decide +kernel, rfl⟩
theorem dX12_chosen_87 : zd cX12_chosen 87 (.iload 7) 2 89 := ⟨by decide +kernel, rfl⟩
theorem dX12_chosen_89 : zd cX12_chosen 89 (.istore 5) 2 91 := ⟨by decide +kernel, rfl⟩
theorem dX12_chosen_91 : zd cX12_chosen 91 (.iinc 6 1) 3 94 := ⟨by decide +kernel, rfl⟩
theorem dX12_chosen_94 : zd cX12_chosen 94 (.goto (-58)) 3 97 := ⟨by decide +kernel, rfl⟩
theorem dX12_chosen_97 : zd cX12_chosen 97 (.iload_n 3) 1 98 := ⟨by decide +kernel, rfl⟩
theorem dX12_chosen_98 : zd cX12_chosen 98 (.ifCond .ge 8) 3 101 := ⟨by decide +kernel, rfl⟩
theorem dX12_chosen_101 : zd cX12_chosen 101 (.iload 4) 2 103 := ⟨by decide +kernel, rfl⟩
theorem dX12_chosen_103 : zd cX12_chosen 103 (.goto 4) 3 106 := ⟨by decide +kernel, rfl⟩
theorem dX12_chosen_106 : zd cX12_chosen 106 (.iconst (-1)) 1 107 := ⟨by decide +kernel, rfl⟩
theorem dX12_chosen_107 : zd cX12_chosen 107 (.ireturn) 1 108 := ⟨by decide +kernel, rfl⟩
theorem dX12_has_0 : zd cX12_has 0 (.iconst 0) 1 1 := ⟨by decide +kernel, rfl⟩
theorem dX12_has_1 : zd cX12_has 1 (.istore_n 3) 1 2 := ⟨by decide +kernel, rfl⟩
theorem dX12_has_2 : zd cX12_has 2 (.iconst 0) 1 3 := ⟨by decide +kernel, rfl⟩
theorem dX12_has_3 : zd cX12_has 3 (.istore 4) 2 5 := ⟨by decide +kernel, rfl⟩
theorem dX12_has_5 : zd cX12_has 5 (.iload 4) 2 7 := ⟨by decide +kernel, rfl⟩
theorem dX12_has_7 : zd cX12_has 7 (.aload_n 0) 1 8 := ⟨by decide +kernel, rfl⟩
theorem dX12_has_8 : zd cX12_has 8 (.getfield 42) 3 11 := ⟨by decide +kernel, rfl⟩
theorem dX12_has_11 : zd cX12_has 11 (.iload_n 1) 1 12 := ⟨by decide +kernel, rfl⟩
theorem dX12_has_12 : zd cX12_has 12 (.iaload) 1 13 := ⟨by decide +kernel, rfl⟩
theorem dX12_has_13 : zd cX12_has 13 (.if_icmp .ge 35) 3 16 := ⟨by decide +kernel, rfl⟩
theorem dX12_has_16 : zd cX12_has 16 (.iload_n 3) 1 17 := ⟨by decide +kernel, rfl⟩
theorem dX12_has_17 : zd cX12_has 17 (.ifCond .ne 19) 3 20 := ⟨by decide +kernel, rfl⟩
theorem dX12_has_20 : zd cX12_has 20 (.aload_n 0) 1 21 := ⟨by decide +kernel, rfl⟩
theorem dX12_has_21 : zd cX12_has 21 (.getfield 45) 3 24 := ⟨by decide +kernel, rfl⟩
theorem dX12_has_24 : zd cX12_has 24 (.bipush 60) 2 26 := ⟨by decide +kernel, rfl⟩
theorem dX12_has_26 : zd cX12_has 26 (.iload_n 1) 1 27 := ⟨by decide +kernel, rfl⟩
theorem dX12_has_27 : zd cX12_has 27 (.imul) 1 28 := ⟨by decide +kernel, rfl⟩
theorem dX12_has_28 : zd cX12_has 28 (.iload 4) 2 30 := ⟨by decide +kernel, rfl⟩
theorem dX12_has_30 : zd cX12_has 30 (.iadd) 1 31 := ⟨by decide +kernel, rfl⟩
theorem dX12_has_31 : zd cX12_has 31 (.iaload) 1 32 := ⟨by decide +kernel, rfl⟩
theorem dX12_has_32 : zd cX12_has 32 (.iload_n 2) 1 33 := ⟨by decide +kernel, rfl⟩
theorem dX12_has_33 : zd cX12_has 33 (.if_icmp .ne 7) 3 36 := ⟨by decide +kernel, rfl⟩
theorem dX12_has_36 : zd cX12_has 36 (.iconst 1) 1 37 := ⟨by decide +kernel, rfl⟩
theorem dX12_has_37 : zd cX12_has 37 (.goto 4) 3 40 := ⟨by decide +kernel, rfl⟩
theorem dX12_has_40 : zd cX12_has 40 (.iconst 0) 1 41 := ⟨by decide +kernel, rfl⟩
theorem dX12_has_41 : zd cX12_has 41 (.istore_n 3) 1 42 := ⟨by decide +kernel, rfl⟩
theorem dX12_has_42 : zd cX12_has 42 (.iinc 4 1) 3 45 := ⟨by decide +kernel, rfl⟩
theorem dX12_has_45 : zd cX12_has 45 (.goto (-40)) 3 48 := ⟨by decide +kernel, rfl⟩
theorem dX12_has_48 : zd cX12_has 48 (.iload_n 3) 1 49 := ⟨by decide +kernel, rfl⟩
theorem dX12_has_49 : zd cX12_has 49 (.ireturn) 1 50 := ⟨by decide +kernel, rfl⟩
theorem dX12_match_0 : zd cX12_match 0 (.iload_n 1) 1 1 := ⟨by decide +kernel, rfl⟩
theorem dX12_match_1 : zd cX12_match 1 (.i2l) 1 2 := ⟨by decide +kernel, rfl⟩
theorem dX12_match_2 : zd cX12_match 2 (.lconst 0) 1 3 := ⟨by decide +kernel, rfl⟩
theorem dX12_match_3 : zd cX12_match 3 (.lconst 1) 1 4 := ⟨by decide +kernel, rfl⟩
theorem dX12_match_4 : zd cX12_match 4 (.invokestatic 163) 3 7 := ⟨by decide +kernel, rfl⟩
theorem dX12_match_7 : zd cX12_match 7 (.ifCond .eq 21) 3 10 := ⟨by decide +kernel, rfl⟩
theorem dX12_match_10 : zd cX12_match 10 (.aload_n 0) 1 11 := ⟨by decide +kernel, rfl⟩
theorem dX12_match_11 : zd cX12_match 11 (.getfield 42) 3 14 := ⟨by decide +kernel, rfl⟩
theorem dX12_match_14 : zd cX12_match 14 (.iconst 0) 1 15 := ⟨by decide +kernel, rfl⟩
theorem dX12_match_15 : zd cX12_match 15 (.iaload) 1 16 := ⟨by decide +kernel, rfl⟩
theorem dX12_match_16 : zd cX12_match 16 (.ifCond .eq 12) 3 19 := ⟨by decide +kernel, rfl⟩
theorem dX12_match_19 : zd cX12_match 19 (.aload_n 0) 1 20 := ⟨by decide +kernel, rfl⟩
theorem dX12_match_20 : zd cX12_match 20 (.getfield 42) 3 23 := ⟨by decide +kernel, rfl⟩
theorem dX12_match_23 : zd cX12_match 23 (.iconst 1) 1 24 := ⟨by decide +kernel, rfl⟩
theorem dX12_match_24 : zd cX12_match 24 (.iaload) 1 25 := ⟨by decide +kernel, rfl⟩
theorem dX12_match_25 : zd cX12_match 25 (.ifCond .ne 6) 3 28 := ⟨by decide +kernel, rfl⟩
theorem dX12_match_28 : zd cX12_match 28 (.ldc 186) 2 30 := ⟨by decide +kernel, rfl⟩
theorem dX12_match_30 : zd cX12_match 30 (.ireturn) 1 31 := ⟨by decide +kernel, rfl⟩
theorem dX12_match_31 : zd cX12_match 31 (.iconst 0) 1 32 := ⟨by decide +kernel, rfl⟩
theorem dX12_match_32 : zd cX12_match 32 (.istore_n 2) 1 33 := ⟨by decide +kernel, rfl⟩
theorem dX12_match_33 : zd cX12_match 33 (.iconst 0) 1 34 := ⟨by decide +kernel, rfl⟩
theorem dX12_match_34 : zd cX12_match 34 (.istore_n 3) 1 35 := ⟨by decide +kernel, rfl⟩
theorem dX12_match_35 : zd cX12_match 35 (.iconst 0) 1 36 := ⟨by decide +kernel, rfl⟩
theorem dX12_match_36 : zd cX12_match 36 (.istore 4) 2 38 := ⟨by decide +kernel, rfl⟩
theorem dX12_match_38 : zd cX12_match 38 (.iload 4) 2 40 := ⟨by decide +kernel, rfl⟩
theorem dX12_match_40 : zd cX12_match 40 (.aload_n 0) 1 41 := ⟨by decide +kernel, rfl⟩
theorem dX12_match_41 : zd cX12_match 41 (.getfield 42) 3 44 := ⟨by decide +kernel, rfl⟩
theorem dX12_match_44 : zd cX12_match 44 (.iconst 0) 1 45 := ⟨by decide +kernel, rfl⟩
theorem dX12_match_45 : zd cX12_match 45 (.iaload) 1 46 := ⟨by decide +kernel, rfl⟩
theorem dX12_match_46 : zd cX12_match 46 (.if_icmp .ge 163) 3 49 := ⟨by decide +kernel, rfl⟩
theorem dX12_match_49 : zd cX12_match 49 (.iconst 0) 1 50 := ⟨by decide +kernel, rfl⟩
theorem dX12_match_50 : zd cX12_match 50 (.istore 5) 2 52 := ⟨by decide +kernel, rfl⟩
theorem dX12_match_52 : zd cX12_match 52 (.iload 5) 2 54 := ⟨by decide +kernel, rfl⟩
theorem dX12_match_54 : zd cX12_match 54 (.aload_n 0) 1 55 := ⟨by decide +kernel, rfl⟩
theorem dX12_match_55 : zd cX12_match 55 (.getfield 42) 3 58 := ⟨by decide +kernel, rfl⟩
theorem dX12_match_58 : zd cX12_match 58 (.iconst 1) 1 59 := ⟨by decide +kernel, rfl⟩
theorem dX12_match_59 : zd cX12_match 59 (.iaload) 1 60 := ⟨by decide +kernel, rfl⟩
theorem dX12_match_60 : zd cX12_match 60 (.if_icmp .ge 143) 3 63 := ⟨by decide +kernel, rfl⟩
theorem dX12_match_63 : zd cX12_match 63 (.aload_n 0) 1 64 := ⟨by decide +kernel, rfl⟩
theorem dX12_match_64 : zd cX12_match 64 (.getfield 45) 3 67 := ⟨by decide +kernel, rfl⟩
theorem dX12_match_67 : zd cX12_match 67 (.iload 4) 2 69 := ⟨by decide +kernel, rfl⟩
theorem dX12_match_69 : zd cX12_match 69 (.iaload) 1 70 := ⟨by decide +kernel, rfl⟩
theorem dX12_match_70 : zd cX12_match 70 (.aload_n 0) 1 71 := ⟨by decide +kernel, rfl⟩
theorem dX12_match_71 : zd cX12_match 71 (.getfield 45) 3 74 := ⟨by decide +kernel, rfl⟩
theorem dX12_match_74 : zd cX12_match 74 (.bipush 60) 2 76 := ⟨by decide +kernel, rfl⟩
theorem dX12_match_76 : zd cX12_match 76 (.iload 5) 2 78 := ⟨by decide +kernel, rfl⟩
theorem dX12_match_78 : zd cX12_match 78 (.iadd) 1 79 := ⟨by decide +kernel, rfl⟩
theorem dX12_match_79 : zd cX12_match 79 (.iaload) 1 80 := ⟨by decide +kernel, rfl⟩
theorem dX12_match_80 : zd cX12_match 80 (.isub) 1 81 := ⟨by decide +kernel, rfl⟩
theorem dX12_match_81 : zd cX12_match 81 (.istore 6) 2 83 := ⟨by decide +kernel, rfl⟩
theorem dX12_match_83 : zd cX12_match 83 (.iconst 0) 1 84 := ⟨by decide +kernel, rfl⟩
theorem dX12_match_84 : zd cX12_match 84 (.istore 7) 2 86 := ⟨by decide +kernel, rfl⟩
theorem dX12_match_86 : zd cX12_match 86 (.iconst 0) 1 87 := ⟨by decide +kernel, rfl⟩
theorem dX12_match_87 : zd cX12_match 87 (.istore 8) 2 89 := ⟨by decide +kernel, rfl⟩
theorem dX12_match_89 : zd cX12_match 89 (.iload 8) 2 91 := ⟨by decide +kernel, rfl⟩
theorem dX12_match_91 : zd cX12_match 91 (.aload_n 0) 1 92 := ⟨by decide +kernel, rfl⟩
theorem dX12_match_92 : zd cX12_match 92 (.getfield 42) 3 95 := ⟨by decide +kernel, rfl⟩
theorem dX12_match_95 : zd cX12_match 95 (.iconst 1) 1 96 := ⟨by decide +kernel, rfl⟩
theorem dX12_match_96 : zd cX12_match 96 (.iaload) 1 97 := ⟨by decide +kernel, rfl⟩
theorem dX12_match_97 : zd cX12_match 97 (.if_icmp .ge 40) 3 100 := ⟨by decide +kernel, rfl⟩
theorem dX12_match_100 : zd cX12_match 100 (.iload 7) 2 102 := ⟨by decide +kernel, rfl⟩
theorem dX12_match_102 : zd cX12_match 102 (.aload_n 0) 1 103 := ⟨by decide +kernel, rfl⟩
theorem dX12_match_103 : zd cX12_match 103 (.iconst 0) 1 104 := ⟨by decide +kernel, rfl⟩
theorem dX12_match_104 : zd cX12_match 104 (.aload_n 0) 1 105 := ⟨by decide +kernel, rfl⟩
theorem dX12_match_105 : zd cX12_match 105 (.getfield 45) 3 108 := ⟨by decide +kernel, rfl⟩
theorem dX12_match_108 : zd cX12_match 108 (.bipush 60) 2 110 := ⟨by decide +kernel, rfl⟩
theorem dX12_match_110 : zd cX12_match 110 (.iload 8) 2 112 := ⟨by decide +kernel, rfl⟩
theorem dX12_match_112 : zd cX12_match 112 (.iadd) 1 113 := ⟨by decide +kernel, rfl⟩
theorem dX12_match_113 : zd cX12_match 113 (.iaload) 1 114 := ⟨by decide +kernel, rfl⟩
theorem dX12_match_114 : zd cX12_match 114 (.iload 6) 2 116 := ⟨by decide +kernel, rfl⟩
theorem dX12_match_116 : zd cX12_match 116 (.iadd) 1 117 := ⟨by decide +kernel, rfl⟩
theorem dX12_match_117 : zd cX12_match 117 (.invokevirtual 262) 3 120 := ⟨by decide +kernel, rfl⟩
theorem dX12_match_120 : zd cX12_match 120 (.ifCond .eq 7) 3 123 := ⟨by decide +kernel, rfl⟩
theorem dX12_match_123 : zd cX12_match 123 (.iconst 1) 1 124 := ⟨by decide +kernel, rfl⟩
theorem dX12_match_124 : zd cX12_match 124 (.goto 4) 3 127 := ⟨by decide +kernel, rfl⟩
theorem dX12_match_127 : zd cX12_match 127 (.iconst 0) 1 128 := ⟨by decide +kernel, rfl⟩
theorem dX12_match_128 : zd cX12_match 128 (.iadd) 1 129 := ⟨by decide +kernel, rfl⟩
theorem dX12_match_129 : zd cX12_match 129 (.istore 7) 2 131 := ⟨by decide +kernel, rfl⟩
theorem dX12_match_131 : zd cX12_match 131 (.iinc 8 1) 3 134 := ⟨by decide +kernel, rfl⟩
theorem dX12_match_134 : zd cX12_match 134 (.goto (-45)) 3 137 := ⟨by decide +kernel, rfl⟩
theorem dX12_match_137 : zd cX12_match 137 (.iload 6) 2 139 := ⟨by decide +kernel, rfl⟩
theorem dX12_match_139 : zd cX12_match 139 (.invokestatic 199) 3 142 := ⟨by decide +kernel, rfl⟩
theorem dX12_match_142 : zd cX12_match 142 (.iload_n 2) 1 143 := ⟨by decide +kernel, rfl⟩
theorem dX12_match_143 : zd cX12_match 143 (.invokestatic 199) 3 146 := ⟨by decide +kernel, rfl⟩
theorem dX12_match_146 : zd cX12_match 146 (.if_icmp .lt 21) 3 149 := ⟨by decide +kernel, rfl⟩
theorem dX12_match_149 : zd cX12_match 149 (.iload 6) 2 151 := ⟨by decide +kernel, rfl⟩
theorem dX12_match_151 : zd cX12_match 151 (.invokestatic 199) 3 154 := ⟨by decide +kernel, rfl⟩
theorem dX12_match_154 : zd cX12_match 154 (.iload_n 2) 1 155 := ⟨by decide +kernel, rfl⟩
theorem dX12_match_155 : zd cX12_match 155 (.invokestatic 199) 3 158 := ⟨by decide +kernel, rfl⟩
theorem dX12_match_158 : zd cX12_match 158 (.if_icmp .ne 13) 3 161 := ⟨by decide +kernel, rfl⟩
theorem dX12_match_161 : zd cX12_match 161 (.iload 6) 2 163 := ⟨by decide +kernel, rfl⟩
theorem dX12_match_163 : zd cX12_match 163 (.iload_n 2) 1 164 := ⟨by decide +kernel, rfl⟩
theorem dX12_match_164 : zd cX12_match 164 (.if_icmp .le 7) 3 167 := ⟨by decide +kernel, rfl⟩
theorem dX12_match_167 : zd cX12_match 167 (.iconst 1) 1 168 := ⟨by decide +kernel, rfl⟩
theorem dX12_match_168 : zd cX12_match 168 (.goto 4) 3 171 := ⟨by decide +kernel, rfl⟩
theorem dX12_match_171 : zd cX12_match 171 (.iconst 0) 1 172 := ⟨by decide +kernel, rfl⟩
theorem dX12_match_172 : zd cX12_match 172 (.istore 8) 2 174 := ⟨by decide +kernel, rfl⟩
theorem dX12_match_174 : zd cX12_match 174 (.iload 7) 2 176 := ⟨by decide +kernel, rfl⟩
theorem dX12_match_176 : zd cX12_match 176 (.iload_n 3) 1 177 := ⟨by decide +kernel, rfl⟩
theorem dX12_match_177 : zd cX12_match 177 (.if_icmp .gt 14) 3 180 := ⟨by decide +kernel, rfl⟩
theorem dX12_match_180 : zd cX12_match 180 (.iload 7) 2 182 := ⟨by decide +kernel, rfl⟩
theorem dX12_match_182 : zd cX12_match 182 (.iload_n 3) 1 183 := ⟨by decide +kernel, rfl⟩
theorem dX12_match_183 : zd cX12_match 183 (.if_icmp .ne 14) 3 186 := ⟨by decide +kernel, rfl⟩
theorem dX12_match_186 : zd cX12_match 186 (.iload 8) 2 188 := ⟨by decide +kernel, rfl⟩
theorem dX12_match_188 : zd cX12_match 188 (.ifCond .eq 9) 3 191 := ⟨by decide +kernel, rfl⟩
theorem dX12_match_191 : zd cX12_match 191 (.iload 7) 2 193 := ⟨by decide +kernel, rfl⟩
theorem dX12_match_193 : zd cX12_match 193 (.istore_n 3) 1 194 := ⟨by decide +kernel, rfl⟩
theorem dX12_match_194 : zd cX12_match 194 (.iload 6) 2 196 := ⟨by decide +kernel, rfl⟩
theorem dX12_match_196 : zd cX12_match 196 (.istore_n 2) 1 197 := ⟨by decide +kernel, rfl⟩
theorem dX12_match_197 : zd cX12_match 197 (.iinc 5 1) 3 200 := ⟨by decide +kernel, rfl⟩
theorem dX12_match_200 : zd cX12_match 200 (.goto (-148)) 3 203 := ⟨by decide +kernel, rfl⟩
theorem dX12_match_203 : zd cX12_match 203 (.iinc 4 1) 3 206 := ⟨by decide +kernel, rfl⟩
theorem dX12_match_206 : zd cX12_match 206 (.goto (-168)) 3 209 := ⟨by decide +kernel, rfl⟩
theorem dX12_match_209 : zd cX12_match 209 (.iload_n 1) 1 210 := ⟨by decide +kernel, rfl⟩
theorem dX12_match_210 : zd cX12_match 210 (.ifCond .ne 7) 3 213 := ⟨by decide +kernel, rfl⟩
theorem dX12_match_213 : zd cX12_match 213 (.iload_n 2) 1 214 := ⟨by decide +kernel, rfl⟩
theorem dX12_match_214 : zd cX12_match 214 (.goto 4) 3 217 := ⟨by decide +kernel, rfl⟩
theorem dX12_match_217 : zd cX12_match 217 (.iload_n 3) 1 218 := ⟨by decide +kernel, rfl⟩
theorem dX12_match_218 : zd cX12_match 218 (.ireturn) 1 219 := ⟨by decide +kernel, rfl⟩
theorem dX12_numberOf_0 : zd cX12_numberOf 0 (.iload_n 0) 1 1 := ⟨by decide +kernel, rfl⟩
theorem dX12_numberOf_1 : zd cX12_numberOf 1 (.ifCond .ne 11) 3 4 := ⟨by decide +kernel, rfl⟩
theorem dX12_numberOf_4 : zd cX12_numberOf 4 (.iload_n 1) 1 5 := ⟨by decide +kernel, rfl⟩
theorem dX12_numberOf_5 : zd cX12_numberOf 5 (.i2l) 1 6 := ⟨by decide +kernel, rfl⟩
theorem dX12_numberOf_6 : zd cX12_numberOf 6 (.iload_n 1) 1 7 := ⟨by decide +kernel, rfl⟩
theorem dX12_numberOf_7 : zd cX12_numberOf 7 (.i2l) 1 8 := ⟨by decide +kernel, rfl⟩
theorem dX12_numberOf_8 : zd cX12_numberOf 8 (.lmul) 1 9 := ⟨by decide +kernel, rfl⟩
theorem dX12_numberOf_9 : zd cX12_numberOf 9 (.goto 44) 3 12 := ⟨by decide +kernel, rfl⟩
theorem dX12_numberOf_12 : zd cX12_numberOf 12 (.iload_n 0) 1 13 := ⟨by decide +kernel, rfl⟩
theorem dX12_numberOf_13 : zd cX12_numberOf 13 (.iconst 1) 1 14 := ⟨by decide +kernel, rfl⟩
theorem dX12_numberOf_14 : zd cX12_numberOf 14 (.if_icmp .ne 14) 3 17 := ⟨by decide +kernel, rfl⟩
theorem dX12_numberOf_17 : zd cX12_numberOf 17 (.iload_n 1) 1 18 := ⟨by decide +kernel, rfl⟩
theorem dX12_numberOf_18 : zd cX12_numberOf 18 (.i2l) 1 19 := ⟨by decide +kernel, rfl⟩
theorem dX12_numberOf_19 : zd cX12_numberOf 19 (.iload_n 1) 1 20 := ⟨by decide +kernel, rfl⟩
theorem dX12_numberOf_20 : zd cX12_numberOf 20 (.i2l) 1 21 := ⟨by decide +kernel, rfl⟩
theorem dX12_numberOf_21 : zd cX12_numberOf 21 (.lmul) 1 22 := ⟨by decide +kernel, rfl⟩
theorem dX12_numberOf_22 : zd cX12_numberOf 22 (.iload_n 1) 1 23 := ⟨by decide +kernel, rfl⟩
theorem dX12_numberOf_23 : zd cX12_numberOf 23 (.i2l) 1 24 := ⟨by decide +kernel, rfl⟩
theorem dX12_numberOf_24 : zd cX12_numberOf 24 (.lmul) 1 25 := ⟨by decide +kernel, rfl⟩
theorem dX12_numberOf_25 : zd cX12_numberOf 25 (.goto 28) 3 28 := ⟨by decide +kernel, rfl⟩
theorem dX12_numberOf_28 : zd cX12_numberOf 28 (.iload_n 0) 1 29 := ⟨by decide +kernel, rfl⟩
theorem dX12_numberOf_29 : zd cX12_numberOf 29 (.iconst 2) 1 30 := ⟨by decide +kernel, rfl⟩
theorem dX12_numberOf_30 : zd cX12_numberOf 30 (.if_icmp .ne 12) 3 33 := ⟨by decide +kernel, rfl⟩
theorem dX12_numberOf_33 : zd cX12_numberOf 33 (.ldc2_w 211) 3 36 := ⟨by decide +kernel, rfl⟩
theorem dX12_numberOf_36 : zd cX12_numberOf 36 (.iload_n 1) 1 37 := ⟨by decide +kernel, rfl⟩
theorem dX12_numberOf_37 : zd cX12_numberOf 37 (.i2l) 1 38 := ⟨by decide +kernel, rfl⟩
theorem dX12_numberOf_38 : zd cX12_numberOf 38 (.ldiv) 1 39 := ⟨by decide +kernel, rfl⟩
theorem dX12_numberOf_39 : zd cX12_numberOf 39 (.goto 14) 3 42 := ⟨by decide +kernel, rfl⟩
theorem dX12_numberOf_42 : zd cX12_numberOf 42 (.iload_n 1) 1 43 := ⟨by decide +kernel, rfl⟩
theorem dX12_numberOf_43 : zd cX12_numberOf 43 (.i2l) 1 44 := ⟨by decide +kernel, rfl⟩
theorem dX12_numberOf_44 : zd cX12_numberOf 44 (.iload_n 1) 1 45 := ⟨by decide +kernel, rfl⟩
theorem dX12_numberOf_45 : zd cX12_numberOf 45 (.iconst 1) 1 46 := ⟨by decide +kernel, rfl⟩
theorem dX12_numberOf_46 : zd cX12_numberOf 46 (.iadd) 1 47 := ⟨by decide +kernel, rfl⟩
theorem dX12_numberOf_47 : zd cX12_numberOf 47 (.i2l) 1 48 := ⟨by decide +kernel, rfl⟩
theorem dX12_numberOf_48 : zd cX12_numberOf 48 (.lmul) 1 49 := ⟨by decide +kernel, rfl⟩
theorem dX12_numberOf_49 : zd cX12_numberOf 49 (.ldc2_w 89) 3 52 := ⟨by decide +kernel, rfl⟩
theorem dX12_numberOf_52 : zd cX12_numberOf 52 (.ldiv) 1 53 := ⟨by decide +kernel, rfl⟩
theorem dX12_numberOf_53 : zd cX12_numberOf 53 (.lreturn) 1 54 := ⟨by decide +kernel, rfl⟩
theorem dX12_lawPlace_0 : zd cX12_lawPlace 0 (.iload_n 1) 1 1 := ⟨by decide +kernel, rfl⟩
theorem dX12_lawPlace_1 : zd cX12_lawPlace 1 (.iload_n 1) 1 2 := ⟨by decide +kernel, rfl⟩
theorem dX12_lawPlace_2 : zd cX12_lawPlace 2 (.iconst 2) 1 3 := ⟨by decide +kernel, rfl⟩
theorem dX12_lawPlace_3 : zd cX12_lawPlace 3 (.if_icmp .ne 8) 3 6 := ⟨by decide +kernel, rfl⟩
theorem dX12_lawPlace_6 : zd cX12_lawPlace 6 (.bipush 60) 2 8 := ⟨by decide +kernel, rfl⟩
theorem dX12_lawPlace_8 : zd cX12_lawPlace 8 (.goto 4) 3 11 := ⟨by decide +kernel, rfl⟩
theorem dX12_lawPlace_11 : zd cX12_lawPlace 11 (.iconst 1) 1 12 := ⟨by decide +kernel, rfl⟩
theorem dX12_lawPlace_12 : zd cX12_lawPlace 12 (.invokestatic 265) 3 15 := ⟨by decide +kernel, rfl⟩
theorem dX12_lawPlace_15 : zd cX12_lawPlace 15 (.lstore_n 3) 1 16 := ⟨by decide +kernel, rfl⟩
theorem dX12_lawPlace_16 : zd cX12_lawPlace 16 (.iload_n 1) 1 17 := ⟨by decide +kernel, rfl⟩
theorem dX12_lawPlace_17 : zd cX12_lawPlace 17 (.iload_n 1) 1 18 := ⟨by decide +kernel, rfl⟩
theorem dX12_lawPlace_18 : zd cX12_lawPlace 18 (.iconst 2) 1 19 := ⟨by decide +kernel, rfl⟩
theorem dX12_lawPlace_19 : zd cX12_lawPlace 19 (.if_icmp .ne 7) 3 22 := ⟨by decide +kernel, rfl⟩
theorem dX12_lawPlace_22 : zd cX12_lawPlace 22 (.iconst 1) 1 23 := ⟨by decide +kernel, rfl⟩
theorem dX12_lawPlace_23 : zd cX12_lawPlace 23 (.goto 5) 3 26 := ⟨by decide +kernel, rfl⟩
theorem dX12_lawPlace_26 : zd cX12_lawPlace 26 (.bipush 60) 2 28 := ⟨by decide +kernel, rfl⟩
theorem dX12_lawPlace_28 : zd cX12_lawPlace 28 (.invokestatic 265) 3 31 := ⟨by decide +kernel, rfl⟩
theorem dX12_lawPlace_31 : zd cX12_lawPlace 31 (.lstore 5) 2 33 := ⟨by decide +kernel, rfl⟩
theorem dX12_lawPlace_33 : zd cX12_lawPlace 33 (.ldc2_w 89) 3 36 := ⟨by decide +kernel, rfl⟩
theorem dX12_lawPlace_36 : zd cX12_lawPlace 36 (.iload_n 1) 1 37 := ⟨by decide +kernel, rfl⟩
theorem dX12_lawPlace_37 : zd cX12_lawPlace 37 (.iload_n 2) 1 38 := ⟨by decide +kernel, rfl⟩
theorem dX12_lawPlace_38 : zd cX12_lawPlace 38 (.invokestatic 265) 3 41 := ⟨by decide +kernel, rfl⟩
theorem dX12_lawPlace_41 : zd cX12_lawPlace 41 (.lload_n 3) 1 42 := ⟨by decide +kernel, rfl⟩
theorem dX12_lawPlace_42 : zd cX12_lawPlace 42 (.lsub) 1 43 := ⟨by decide +kernel, rfl⟩
theorem dX12_lawPlace_43 : zd cX12_lawPlace 43 (.lmul) 1 44 := ⟨by decide +kernel, rfl⟩
theorem dX12_lawPlace_44 : zd cX12_lawPlace 44 (.aload_n 0) 1 45 := ⟨by decide +kernel, rfl⟩
theorem dX12_lawPlace_45 : zd cX12_lawPlace 45 (.getfield 7) 3 48 := ⟨by decide +kernel, rfl⟩
theorem dX12_lawPlace_48 : zd cX12_lawPlace 48 (.i2l) 1 49 := ⟨by decide +kernel, rfl⟩
theorem dX12_lawPlace_49 : zd cX12_lawPlace 49 (.lmul) 1 50 := ⟨by decide +kernel, rfl⟩
theorem dX12_lawPlace_50 : zd cX12_lawPlace 50 (.lload 5) 2 52 := ⟨by decide +kernel, rfl⟩
theorem dX12_lawPlace_52 : zd cX12_lawPlace 52 (.ladd) 1 53 := ⟨by decide +kernel, rfl⟩
theorem dX12_lawPlace_53 : zd cX12_lawPlace 53 (.lload_n 3) 1 54 := ⟨by decide +kernel, rfl⟩
theorem dX12_lawPlace_54 : zd cX12_lawPlace 54 (.lsub) 1 55 := ⟨by decide +kernel, rfl⟩
theorem dX12_lawPlace_55 : zd cX12_lawPlace 55 (.ldc2_w 89) 3 58 := ⟨by decide +kernel, rfl⟩
theorem dX12_lawPlace_58 : zd cX12_lawPlace 58 (.lload 5) 2 60 := ⟨by decide +kernel, rfl⟩
theorem dX12_lawPlace_60 : zd cX12_lawPlace 60 (.lload_n 3) 1 61 := ⟨by decide +kernel, rfl⟩
theorem dX12_lawPlace_61 : zd cX12_lawPlace 61 (.lsub) 1 62 := ⟨by decide +kernel, rfl⟩
theorem dX12_lawPlace_62 : zd cX12_lawPlace 62 (.lmul) 1 63 := ⟨by decide +kernel, rfl⟩
theorem dX12_lawPlace_63 : zd cX12_lawPlace 63 (.invokestatic 130) 3 66 := ⟨by decide +kernel, rfl⟩
theorem dX12_lawPlace_66 : zd cX12_lawPlace 66 (.l2i) 1 67 := ⟨by decide +kernel, rfl⟩
theorem dX12_lawPlace_67 : zd cX12_lawPlace 67 (.ireturn) 1 68 := ⟨by decide +kernel, rfl⟩
theorem dX12_law_0 : zd cX12_law 0 (.iload_n 1) 1 1 := ⟨by decide +kernel, rfl⟩
theorem dX12_law_1 : zd cX12_law 1 (.i2l) 1 2 := ⟨by decide +kernel, rfl⟩
theorem dX12_law_2 : zd cX12_law 2 (.lconst 0) 1 3 := ⟨by decide +kernel, rfl⟩
theorem dX12_law_3 : zd cX12_law 3 (.ldc2_w 171) 3 6 := ⟨by decide +kernel, rfl⟩
theorem dX12_law_6 : zd cX12_law 6 (.invokestatic 163) 3 9 := ⟨by decide +kernel, rfl⟩
theorem dX12_law_9 : zd cX12_law 9 (.ifCond .eq 24) 3 12 := ⟨by decide +kernel, rfl⟩
theorem dX12_law_12 : zd cX12_law 12 (.iload_n 2) 1 13 := ⟨by decide +kernel, rfl⟩
theorem dX12_law_13 : zd cX12_law 13 (.i2l) 1 14 := ⟨by decide +kernel, rfl⟩
theorem dX12_law_14 : zd cX12_law 14 (.lconst 1) 1 15 := ⟨by decide +kernel, rfl⟩
theorem dX12_law_15 : zd cX12_law 15 (.ldc2_w 269) 3 18 := ⟨by decide +kernel, rfl⟩
theorem dX12_law_18 : zd cX12_law 18 (.invokestatic 163) 3 21 := ⟨by decide +kernel, rfl⟩
theorem dX12_law_21 : zd cX12_law 21 (.ifCond .eq 12) 3 24 := ⟨by decide +kernel, rfl⟩
theorem dX12_law_24 : zd cX12_law 24 (.aload_n 0) 1 25 := ⟨by decide +kernel, rfl⟩
theorem dX12_law_25 : zd cX12_law 25 (.iload_n 1) 1 26 := ⟨by decide +kernel, rfl⟩
theorem dX12_law_26 : zd cX12_law 26 (.iload_n 2) 1 27 := ⟨by decide +kernel, rfl⟩
theorem dX12_law_27 : zd cX12_law 27 (.invokevirtual 271) 3 30 := ⟨by decide +kernel, rfl⟩
theorem dX12_law_30 : zd cX12_law 30 (.goto 5) 3 33 := ⟨by decide +kernel, rfl⟩
theorem dX12_law_33 : zd cX12_law 33 (.bipush (-2)) 2 35 := ⟨by decide +kernel, rfl⟩
theorem dX12_law_35 : zd cX12_law 35 (.ireturn) 1 36 := ⟨by decide +kernel, rfl⟩
theorem dX12_doubled_0 : zd cX12_doubled 0 (.iload_n 1) 1 1 := ⟨by decide +kernel, rfl⟩
theorem dX12_doubled_1 : zd cX12_doubled 1 (.i2l) 1 2 := ⟨by decide +kernel, rfl⟩
theorem dX12_doubled_2 : zd cX12_doubled 2 (.lconst 0) 1 3 := ⟨by decide +kernel, rfl⟩
theorem dX12_doubled_3 : zd cX12_doubled 3 (.ldc2_w 171) 3 6 := ⟨by decide +kernel, rfl⟩
theorem dX12_doubled_6 : zd cX12_doubled 6 (.invokestatic 163) 3 9 := ⟨by decide +kernel, rfl⟩
theorem dX12_doubled_9 : zd cX12_doubled 9 (.ifCond .ne 6) 3 12 := ⟨by decide +kernel, rfl⟩
theorem dX12_doubled_12 : zd cX12_doubled 12 (.bipush (-2)) 2 14 := ⟨by decide +kernel, rfl⟩
theorem dX12_doubled_14 : zd cX12_doubled 14 (.ireturn) 1 15 := ⟨by decide +kernel, rfl⟩
theorem dX12_doubled_15 : zd cX12_doubled 15 (.iconst 1) 1 16 := ⟨by decide +kernel, rfl⟩
theorem dX12_doubled_16 : zd cX12_doubled 16 (.istore_n 2) 1 17 := ⟨by decide +kernel, rfl⟩
theorem dX12_doubled_17 : zd cX12_doubled 17 (.iload_n 2) 1 18 := ⟨by decide +kernel, rfl⟩
theorem dX12_doubled_18 : zd cX12_doubled 18 (.bipush 60) 2 20 := ⟨by decide +kernel, rfl⟩
theorem dX12_doubled_20 : zd cX12_doubled 20 (.if_icmp .gt 21) 3 23 := ⟨by decide +kernel, rfl⟩
theorem dX12_doubled_23 : zd cX12_doubled 23 (.aload_n 0) 1 24 := ⟨by decide +kernel, rfl⟩
theorem dX12_doubled_24 : zd cX12_doubled 24 (.getfield 86) 3 27 := ⟨by decide +kernel, rfl⟩
theorem dX12_doubled_27 : zd cX12_doubled 27 (.iload_n 2) 1 28 := ⟨by decide +kernel, rfl⟩
theorem dX12_doubled_28 : zd cX12_doubled 28 (.aload_n 0) 1 29 := ⟨by decide +kernel, rfl⟩
theorem dX12_doubled_29 : zd cX12_doubled 29 (.iload_n 1) 1 30 := ⟨by decide +kernel, rfl⟩
theorem dX12_doubled_30 : zd cX12_doubled 30 (.iload_n 2) 1 31 := ⟨by decide +kernel, rfl⟩
theorem dX12_doubled_31 : zd cX12_doubled 31 (.invokevirtual 271) 3 34 := ⟨by decide +kernel, rfl⟩
theorem dX12_doubled_34 : zd cX12_doubled 34 (.iastore) 1 35 := ⟨by decide +kernel, rfl⟩
theorem dX12_doubled_35 : zd cX12_doubled 35 (.iinc 2 1) 3 38 := ⟨by decide +kernel, rfl⟩
theorem dX12_doubled_38 : zd cX12_doubled 38 (.goto (-21)) 3 41 := ⟨by decide +kernel, rfl⟩
theorem dX12_doubled_41 : zd cX12_doubled 41 (.iconst 0) 1 42 := ⟨by decide +kernel, rfl⟩
theorem dX12_doubled_42 : zd cX12_doubled 42 (.istore_n 2) 1 43 := ⟨by decide +kernel, rfl⟩
theorem dX12_doubled_43 : zd cX12_doubled 43 (.iconst 1) 1 44 := ⟨by decide +kernel, rfl⟩
theorem dX12_doubled_44 : zd cX12_doubled 44 (.istore_n 3) 1 45 := ⟨by decide +kernel, rfl⟩
theorem dX12_doubled_45 : zd cX12_doubled 45 (.iload_n 3) 1 46 := ⟨by decide +kernel, rfl⟩
theorem dX12_doubled_46 : zd cX12_doubled 46 (.bipush 60) 2 48 := ⟨by decide +kernel, rfl⟩
theorem dX12_doubled_48 : zd cX12_doubled 48 (.if_icmp .gt 95) 3 51 := ⟨by decide +kernel, rfl⟩
theorem dX12_doubled_51 : zd cX12_doubled 51 (.iload_n 3) 1 52 := ⟨by decide +kernel, rfl⟩
theorem dX12_doubled_52 : zd cX12_doubled 52 (.iconst 1) 1 53 := ⟨by decide +kernel, rfl⟩
theorem dX12_doubled_53 : zd cX12_doubled 53 (.iadd) 1 54 := ⟨by decide +kernel, rfl⟩
theorem dX12_doubled_54 : zd cX12_doubled 54 (.istore 4) 2 56 := ⟨by decide +kernel, rfl⟩
theorem dX12_doubled_56 : zd cX12_doubled 56 (.iload 4) 2 58 := ⟨by decide +kernel, rfl⟩
theorem dX12_doubled_58 : zd cX12_doubled 58 (.bipush 60) 2 60 := ⟨by decide +kernel, rfl⟩
theorem dX12_doubled_60 : zd cX12_doubled 60 (.if_icmp .gt 77) 3 63 := ⟨by decide +kernel, rfl⟩
theorem dX12_doubled_63 : zd cX12_doubled 63 (.iconst 0) 1 64 := ⟨by decide +kernel, rfl⟩
theorem dX12_doubled_64 : zd cX12_doubled 64 (.istore 5) 2 66 := ⟨by decide +kernel, rfl⟩
theorem dX12_doubled_66 : zd cX12_doubled 66 (.iconst 1) 1 67 := ⟨by decide +kernel, rfl⟩
theorem dX12_doubled_67 : zd cX12_doubled 67 (.istore 6) 2 69 := ⟨by decide +kernel, rfl⟩
theorem dX12_doubled_69 : zd cX12_doubled 69 (.iload 6) 2 71 := ⟨by decide +kernel, rfl⟩
theorem dX12_doubled_71 : zd cX12_doubled 71 (.bipush 60) 2 73 := ⟨by decide +kernel, rfl⟩
theorem dX12_doubled_73 : zd cX12_doubled 73 (.if_icmp .gt 45) 3 76 := ⟨by decide +kernel, rfl⟩
theorem dX12_doubled_76 : zd cX12_doubled 76 (.iload 5) 2 78 := ⟨by decide +kernel, rfl⟩
theorem dX12_doubled_78 : zd cX12_doubled 78 (.ifCond .ne 27) 3 81 := ⟨by decide +kernel, rfl⟩
theorem dX12_doubled_81 : zd cX12_doubled 81 (.aload_n 0) 1 82 := ⟨by decide +kernel, rfl⟩
theorem dX12_doubled_82 : zd cX12_doubled 82 (.getfield 86) 3 85 := ⟨by decide +kernel, rfl⟩
theorem dX12_doubled_85 : zd cX12_doubled 85 (.iload 6) 2 87 := ⟨by decide +kernel, rfl⟩
theorem dX12_doubled_87 : zd cX12_doubled 87 (.iaload) 1 88 := ⟨by decide +kernel, rfl⟩
theorem dX12_doubled_88 : zd cX12_doubled 88 (.aload_n 0) 1 89 := ⟨by decide +kernel, rfl⟩
theorem dX12_doubled_89 : zd cX12_doubled 89 (.getfield 86) 3 92 := ⟨by decide +kernel, rfl⟩
theorem dX12_doubled_92 : zd cX12_doubled 92 (.iload_n 3) 1 93 := ⟨by decide +kernel, rfl⟩
theorem dX12_doubled_93 : zd cX12_doubled 93 (.iaload) 1 94 := ⟨by decide +kernel, rfl⟩
theorem dX12_doubled_94 : zd cX12_doubled 94 (.aload_n 0) 1 95 := ⟨by decide +kernel, rfl⟩
theorem dX12_doubled_95 : zd cX12_doubled 95 (.getfield 86) 3 98 := ⟨by decide +kernel, rfl⟩
theorem dX12_doubled_98 : zd cX12_doubled 98 (.iload 4) 2 100 := ⟨by decide +kernel, rfl⟩
theorem dX12_doubled_100 : zd cX12_doubled 100 (.iaload) 1 101 := ⟨by decide +kernel, rfl⟩
theorem dX12_doubled_101 : zd cX12_doubled 101 (.iadd) 1 102 := ⟨by decide +kernel, rfl⟩
theorem dX12_doubled_102 : zd cX12_doubled 102 (.if_icmp .ne 7) 3 105 := ⟨by decide +kernel, rfl⟩
theorem dX12_doubled_105 : zd cX12_doubled 105 (.iconst 1) 1 106 := ⟨by decide +kernel, rfl⟩
theorem dX12_doubled_106 : zd cX12_doubled 106 (.goto 4) 3 109 := ⟨by decide +kernel, rfl⟩
theorem dX12_doubled_109 : zd cX12_doubled 109 (.iconst 0) 1 110 := ⟨by decide +kernel, rfl⟩
theorem dX12_doubled_110 : zd cX12_doubled 110 (.istore 5) 2 112 := ⟨by decide +kernel, rfl⟩
theorem dX12_doubled_112 : zd cX12_doubled 112 (.iinc 6 1) 3 115 := ⟨by decide +kernel, rfl⟩
theorem dX12_doubled_115 : zd cX12_doubled 115 (.goto (-46)) 3 118 := ⟨by decide +kernel, rfl⟩
theorem dX12_doubled_118 : zd cX12_doubled 118 (.iload_n 2) 1 119 := ⟨by decide +kernel, rfl⟩
theorem dX12_doubled_119 : zd cX12_doubled 119 (.iload 5) 2 121 := ⟨by decide +kernel, rfl⟩
theorem dX12_doubled_121 : zd cX12_doubled 121 (.ifCond .eq 7) 3 124 := ⟨by decide +kernel, rfl⟩
theorem dX12_doubled_124 : zd cX12_doubled 124 (.iconst 1) 1 125 := ⟨by decide +kernel, rfl⟩
theorem dX12_doubled_125 : zd cX12_doubled 125 (.goto 4) 3 128 := ⟨by decide +kernel, rfl⟩
theorem dX12_doubled_128 : zd cX12_doubled 128 (.iconst 0) 1 129 := ⟨by decide +kernel, rfl⟩
theorem dX12_doubled_129 : zd cX12_doubled 129 (.iadd) 1 130 := ⟨by decide +kernel, rfl⟩
theorem dX12_doubled_130 : zd cX12_doubled 130 (.istore_n 2) 1 131 := ⟨by decide +kernel, rfl⟩
theorem dX12_doubled_131 : zd cX12_doubled 131 (.iinc 4 1) 3 134 := ⟨by decide +kernel, rfl⟩
theorem dX12_doubled_134 : zd cX12_doubled 134 (.goto (-78)) 3 137 := ⟨by decide +kernel, rfl⟩
theorem dX12_doubled_137 : zd cX12_doubled 137 (.iinc 3 1) 3 140 := ⟨by decide +kernel, rfl⟩
theorem dX12_doubled_140 : zd cX12_doubled 140 (.goto (-95)) 3 143 := ⟨by decide +kernel, rfl⟩
theorem dX12_doubled_143 : zd cX12_doubled 143 (.iload_n 2) 1 144 := ⟨by decide +kernel, rfl⟩
theorem dX12_doubled_144 : zd cX12_doubled 144 (.ireturn) 1 145 := ⟨by decide +kernel, rfl⟩
theorem dX12_count_0 : zd cX12_count 0 (.iconst 0) 1 1 := ⟨by decide +kernel, rfl⟩
theorem dX12_count_1 : zd cX12_count 1 (.istore_n 2) 1 2 := ⟨by decide +kernel, rfl⟩
theorem dX12_count_2 : zd cX12_count 2 (.iconst 0) 1 3 := ⟨by decide +kernel, rfl⟩
theorem dX12_count_3 : zd cX12_count 3 (.istore_n 3) 1 4 := ⟨by decide +kernel, rfl⟩
theorem dX12_count_4 : zd cX12_count 4 (.iload_n 3) 1 5 := ⟨by decide +kernel, rfl⟩
theorem dX12_count_5 : zd cX12_count 5 (.aload_n 0) 1 6 := ⟨by decide +kernel, rfl⟩
theorem dX12_count_6 : zd cX12_count 6 (.getfield 160) 3 9 := ⟨by decide +kernel, rfl⟩
theorem dX12_count_9 : zd cX12_count 9 (.if_icmp .ge 26) 3 12 := ⟨by decide +kernel, rfl⟩
theorem dX12_count_12 : zd cX12_count 12 (.iload_n 2) 1 13 := ⟨by decide +kernel, rfl⟩
theorem dX12_count_13 : zd cX12_count 13 (.aload_n 0) 1 14 := ⟨by decide +kernel, rfl⟩
theorem dX12_count_14 : zd cX12_count 14 (.getfield 13) 3 17 := ⟨by decide +kernel, rfl⟩
theorem dX12_count_17 : zd cX12_count 17 (.iload_n 3) 1 18 := ⟨by decide +kernel, rfl⟩
theorem dX12_count_18 : zd cX12_count 18 (.baload) 1 19 := ⟨by decide +kernel, rfl⟩
theorem dX12_count_19 : zd cX12_count 19 (.ifCond .eq 7) 3 22 := ⟨by decide +kernel, rfl⟩
theorem dX12_count_22 : zd cX12_count 22 (.iconst 1) 1 23 := ⟨by decide +kernel, rfl⟩
theorem dX12_count_23 : zd cX12_count 23 (.goto 4) 3 26 := ⟨by decide +kernel, rfl⟩
theorem dX12_count_26 : zd cX12_count 26 (.iconst 0) 1 27 := ⟨by decide +kernel, rfl⟩
theorem dX12_count_27 : zd cX12_count 27 (.iadd) 1 28 := ⟨by decide +kernel, rfl⟩
theorem dX12_count_28 : zd cX12_count 28 (.istore_n 2) 1 29 := ⟨by decide +kernel, rfl⟩
theorem dX12_count_29 : zd cX12_count 29 (.iinc 3 1) 3 32 := ⟨by decide +kernel, rfl⟩
theorem dX12_count_32 : zd cX12_count 32 (.goto (-28)) 3 35 := ⟨by decide +kernel, rfl⟩
theorem dX12_count_35 : zd cX12_count 35 (.iload_n 1) 1 36 := ⟨by decide +kernel, rfl⟩
theorem dX12_count_36 : zd cX12_count 36 (.tableswitch 80 0 6 #[44, 49, 51, 56, 61, 68, 75]) 44 80 := ⟨by decide +kernel, rfl⟩
theorem dX12_count_80 : zd cX12_count 80 (.aload_n 0) 1 81 := ⟨by decide +kernel, rfl⟩
theorem dX12_count_81 : zd cX12_count 81 (.getfield 160) 3 84 := ⟨by decide +kernel, rfl⟩
theorem dX12_count_84 : zd cX12_count 84 (.ireturn) 1 85 := ⟨by decide +kernel, rfl⟩
theorem dX12_count_85 : zd cX12_count 85 (.iload_n 2) 1 86 := ⟨by decide +kernel, rfl⟩
theorem dX12_count_86 : zd cX12_count 86 (.ireturn) 1 87 := ⟨by decide +kernel, rfl⟩
theorem dX12_count_87 : zd cX12_count 87 (.aload_n 0) 1 88 := ⟨by decide +kernel, rfl⟩
theorem dX12_count_88 : zd cX12_count 88 (.getfield 206) 3 91 := ⟨by decide +kernel, rfl⟩
theorem dX12_count_91 : zd cX12_count 91 (.ireturn) 1 92 := ⟨by decide +kernel, rfl⟩
theorem dX12_count_92 : zd cX12_count 92 (.aload_n 0) 1 93 := ⟨by decide +kernel, rfl⟩
theorem dX12_count_93 : zd cX12_count 93 (.getfield 218) 3 96 := ⟨by decide +kernel, rfl⟩
theorem dX12_count_96 : zd cX12_count 96 (.ireturn) 1 97 := ⟨by decide +kernel, rfl⟩
theorem dX12_count_97 : zd cX12_count 97 (.aload_n 0) 1 98 := ⟨by decide +kernel, rfl⟩
theorem dX12_count_98 : zd cX12_count 98 (.getfield 42) 3 101 := ⟨by decide +kernel, rfl⟩
theorem dX12_count_101 : zd cX12_count 101 (.iconst 0) 1 102 := ⟨by decide +kernel, rfl⟩
theorem dX12_count_102 : zd cX12_count 102 (.iaload) 1 103 := ⟨by decide +kernel, rfl⟩
theorem dX12_count_103 : zd cX12_count 103 (.ireturn) 1 104 := ⟨by decide +kernel, rfl⟩
theorem dX12_count_104 : zd cX12_count 104 (.aload_n 0) 1 105 := ⟨by decide +kernel, rfl⟩
theorem dX12_count_105 : zd cX12_count 105 (.getfield 42) 3 108 := ⟨by decide +kernel, rfl⟩
theorem dX12_count_108 : zd cX12_count 108 (.iconst 1) 1 109 := ⟨by decide +kernel, rfl⟩
theorem dX12_count_109 : zd cX12_count 109 (.iaload) 1 110 := ⟨by decide +kernel, rfl⟩
theorem dX12_count_110 : zd cX12_count 110 (.ireturn) 1 111 := ⟨by decide +kernel, rfl⟩
theorem dX12_count_111 : zd cX12_count 111 (.aload_n 0) 1 112 := ⟨by decide +kernel, rfl⟩
theorem dX12_count_112 : zd cX12_count 112 (.getfield 7) 3 115 := ⟨by decide +kernel, rfl⟩
theorem dX12_count_115 : zd cX12_count 115 (.ireturn) 1 116 := ⟨by decide +kernel, rfl⟩
theorem dX12_count_116 : zd cX12_count 116 (.ldc 186) 2 118 := ⟨by decide +kernel, rfl⟩
theorem dX12_count_118 : zd cX12_count 118 (.ireturn) 1 119 := ⟨by decide +kernel, rfl⟩
theorem dX12_digest_0 : zd cX12_digest 0 (.ldc2_w 274) 3 3 := ⟨by decide +kernel, rfl⟩
theorem dX12_digest_3 : zd cX12_digest 3 (.lstore_n 1) 1 4 := ⟨by decide +kernel, rfl⟩
theorem dX12_digest_4 : zd cX12_digest 4 (.iconst 0) 1 5 := ⟨by decide +kernel, rfl⟩
theorem dX12_digest_5 : zd cX12_digest 5 (.istore_n 3) 1 6 := ⟨by decide +kernel, rfl⟩
theorem dX12_digest_6 : zd cX12_digest 6 (.iload_n 3) 1 7 := ⟨by decide +kernel, rfl⟩
theorem dX12_digest_7 : zd cX12_digest 7 (.bipush 7) 2 9 := ⟨by decide +kernel, rfl⟩
theorem dX12_digest_9 : zd cX12_digest 9 (.if_icmp .ge 22) 3 12 := ⟨by decide +kernel, rfl⟩
theorem dX12_digest_12 : zd cX12_digest 12 (.ldc2_w 276) 3 15 := ⟨by decide +kernel, rfl⟩
theorem dX12_digest_15 : zd cX12_digest 15 (.lload_n 1) 1 16 := ⟨by decide +kernel, rfl⟩
theorem dX12_digest_16 : zd cX12_digest 16 (.lmul) 1 17 := ⟨by decide +kernel, rfl⟩
theorem dX12_digest_17 : zd cX12_digest 17 (.aload_n 0) 1 18 := ⟨by decide +kernel, rfl⟩
theorem dX12_digest_18 : zd cX12_digest 18 (.iload_n 3) 1 19 := ⟨by decide +kernel, rfl⟩
theorem dX12_digest_19 : zd cX12_digest 19 (.invokevirtual 278) 3 22 := ⟨by decide +kernel, rfl⟩
theorem dX12_digest_22 : zd cX12_digest 22 (.i2l) 1 23 := ⟨by decide +kernel, rfl⟩
theorem dX12_digest_23 : zd cX12_digest 23 (.ladd) 1 24 := ⟨by decide +kernel, rfl⟩
theorem dX12_digest_24 : zd cX12_digest 24 (.lstore_n 1) 1 25 := ⟨by decide +kernel, rfl⟩
theorem dX12_digest_25 : zd cX12_digest 25 (.iinc 3 1) 3 28 := ⟨by decide +kernel, rfl⟩
theorem dX12_digest_28 : zd cX12_digest 28 (.goto (-22)) 3 31 := ⟨by decide +kernel, rfl⟩
theorem dX12_digest_31 : zd cX12_digest 31 (.iconst 0) 1 32 := ⟨by decide +kernel, rfl⟩
theorem dX12_digest_32 : zd cX12_digest 32 (.istore_n 3) 1 33 := ⟨by decide +kernel, rfl⟩
theorem dX12_digest_33 : zd cX12_digest 33 (.iload_n 3) 1 34 := ⟨by decide +kernel, rfl⟩
theorem dX12_digest_34 : zd cX12_digest 34 (.aload_n 0) 1 35 := ⟨by decide +kernel, rfl⟩
theorem dX12_digest_35 : zd cX12_digest 35 (.getfield 160) 3 38 := ⟨by decide +kernel, rfl⟩
theorem dX12_digest_38 : zd cX12_digest 38 (.if_icmp .ge 184) 3 41 := ⟨by decide +kernel, rfl⟩
theorem dX12_digest_41 : zd cX12_digest 41 (.ldc2_w 276) 3 44 := ⟨by decide +kernel, rfl⟩
theorem dX12_digest_44 : zd cX12_digest 44 (.lload_n 1) 1 45 := ⟨by decide +kernel, rfl⟩
theorem dX12_digest_45 : zd cX12_digest 45 (.lmul) 1 46 := ⟨by decide +kernel, rfl⟩
theorem dX12_digest_46 : zd cX12_digest 46 (.aload_n 0) 1 47 := ⟨by decide +kernel, rfl⟩
theorem dX12_digest_47 : zd cX12_digest 47 (.getfield 13) 3 50 := ⟨by decide +kernel, rfl⟩
theorem dX12_digest_50 : zd cX12_digest 50 (.iload_n 3) 1 51 := ⟨by decide +kernel, rfl⟩
theorem dX12_digest_51 : zd cX12_digest 51 (.baload) 1 52 := ⟨by decide +kernel, rfl⟩
theorem dX12_digest_52 : zd cX12_digest 52 (.ifCond .eq 7) 3 55 := ⟨by decide +kernel, rfl⟩
theorem dX12_digest_55 : zd cX12_digest 55 (.iconst 1) 1 56 := ⟨by decide +kernel, rfl⟩
theorem dX12_digest_56 : zd cX12_digest 56 (.goto 4) 3 59 := ⟨by decide +kernel, rfl⟩
theorem dX12_digest_59 : zd cX12_digest 59 (.iconst 0) 1 60 := ⟨by decide +kernel, rfl⟩
theorem dX12_digest_60 : zd cX12_digest 60 (.i2l) 1 61 := ⟨by decide +kernel, rfl⟩
theorem dX12_digest_61 : zd cX12_digest 61 (.ladd) 1 62 := ⟨by decide +kernel, rfl⟩
theorem dX12_digest_62 : zd cX12_digest 62 (.lstore_n 1) 1 63 := ⟨by decide +kernel, rfl⟩
theorem dX12_digest_63 : zd cX12_digest 63 (.ldc2_w 276) 3 66 := ⟨by decide +kernel, rfl⟩
theorem dX12_digest_66 : zd cX12_digest 66 (.lload_n 1) 1 67 := ⟨by decide +kernel, rfl⟩
theorem dX12_digest_67 : zd cX12_digest 67 (.lmul) 1 68 := ⟨by decide +kernel, rfl⟩
theorem dX12_digest_68 : zd cX12_digest 68 (.aload_n 0) 1 69 := ⟨by decide +kernel, rfl⟩
theorem dX12_digest_69 : zd cX12_digest 69 (.getfield 17) 3 72 := ⟨by decide +kernel, rfl⟩
theorem dX12_digest_72 : zd cX12_digest 72 (.iload_n 3) 1 73 := ⟨by decide +kernel, rfl⟩
theorem dX12_digest_73 : zd cX12_digest 73 (.iaload) 1 74 := ⟨by decide +kernel, rfl⟩
theorem dX12_digest_74 : zd cX12_digest 74 (.i2l) 1 75 := ⟨by decide +kernel, rfl⟩
theorem dX12_digest_75 : zd cX12_digest 75 (.ladd) 1 76 := ⟨by decide +kernel, rfl⟩
theorem dX12_digest_76 : zd cX12_digest 76 (.lstore_n 1) 1 77 := ⟨by decide +kernel, rfl⟩
theorem dX12_digest_77 : zd cX12_digest 77 (.ldc2_w 276) 3 80 := ⟨by decide +kernel, rfl⟩
theorem dX12_digest_80 : zd cX12_digest 80 (.lload_n 1) 1 81 := ⟨by decide +kernel, rfl⟩
theorem dX12_digest_81 : zd cX12_digest 81 (.lmul) 1 82 := ⟨by decide +kernel, rfl⟩
theorem dX12_digest_82 : zd cX12_digest 82 (.aload_n 0) 1 83 := ⟨by decide +kernel, rfl⟩
theorem dX12_digest_83 : zd cX12_digest 83 (.getfield 21) 3 86 := ⟨by decide +kernel, rfl⟩
theorem dX12_digest_86 : zd cX12_digest 86 (.iload_n 3) 1 87 := ⟨by decide +kernel, rfl⟩
theorem dX12_digest_87 : zd cX12_digest 87 (.iaload) 1 88 := ⟨by decide +kernel, rfl⟩
theorem dX12_digest_88 : zd cX12_digest 88 (.i2l) 1 89 := ⟨by decide +kernel, rfl⟩
theorem dX12_digest_89 : zd cX12_digest 89 (.ladd) 1 90 := ⟨by decide +kernel, rfl⟩
theorem dX12_digest_90 : zd cX12_digest 90 (.lstore_n 1) 1 91 := ⟨by decide +kernel, rfl⟩
theorem dX12_digest_91 : zd cX12_digest 91 (.ldc2_w 276) 3 94 := ⟨by decide +kernel, rfl⟩
theorem dX12_digest_94 : zd cX12_digest 94 (.lload_n 1) 1 95 := ⟨by decide +kernel, rfl⟩
theorem dX12_digest_95 : zd cX12_digest 95 (.lmul) 1 96 := ⟨by decide +kernel, rfl⟩
theorem dX12_digest_96 : zd cX12_digest 96 (.aload_n 0) 1 97 := ⟨by decide +kernel, rfl⟩
theorem dX12_digest_97 : zd cX12_digest 97 (.getfield 24) 3 100 := ⟨by decide +kernel, rfl⟩
theorem dX12_digest_100 : zd cX12_digest 100 (.iload_n 3) 1 101 := ⟨by decide +kernel, rfl⟩
theorem dX12_digest_101 : zd cX12_digest 101 (.baload) 1 102 := ⟨by decide +kernel, rfl⟩
theorem dX12_digest_102 : zd cX12_digest 102 (.ifCond .eq 7) 3 105 := ⟨by decide +kernel, rfl⟩
theorem dX12_digest_105 : zd cX12_digest 105 (.iconst 1) 1 106 := ⟨by decide +kernel, rfl⟩
theorem dX12_digest_106 : zd cX12_digest 106 (.goto 4) 3 109 := ⟨by decide +kernel, rfl⟩
theorem dX12_digest_109 : zd cX12_digest 109 (.iconst 0) 1 110 := ⟨by decide +kernel, rfl⟩
theorem dX12_digest_110 : zd cX12_digest 110 (.i2l) 1 111 := ⟨by decide +kernel, rfl⟩
theorem dX12_digest_111 : zd cX12_digest 111 (.ladd) 1 112 := ⟨by decide +kernel, rfl⟩
theorem dX12_digest_112 : zd cX12_digest 112 (.lstore_n 1) 1 113 := ⟨by decide +kernel, rfl⟩
theorem dX12_digest_113 : zd cX12_digest 113 (.iconst 4) 1 114 := ⟨by decide +kernel, rfl⟩
theorem dX12_digest_114 : zd cX12_digest 114 (.iload_n 3) 1 115 := ⟨by decide +kernel, rfl⟩
theorem dX12_digest_115 : zd cX12_digest 115 (.imul) 1 116 := ⟨by decide +kernel, rfl⟩
theorem dX12_digest_116 : zd cX12_digest 116 (.istore 4) 2 118 := ⟨by decide +kernel, rfl⟩
theorem dX12_digest_118 : zd cX12_digest 118 (.iload 4) 2 120 := ⟨by decide +kernel, rfl⟩
theorem dX12_digest_120 : zd cX12_digest 120 (.iconst 4) 1 121 := ⟨by decide +kernel, rfl⟩
theorem dX12_digest_121 : zd cX12_digest 121 (.iload_n 3) 1 122 := ⟨by decide +kernel, rfl⟩
theorem dX12_digest_122 : zd cX12_digest 122 (.imul) 1 123 := ⟨by decide +kernel, rfl⟩
theorem dX12_digest_123 : zd cX12_digest 123 (.aload_n 0) 1 124 := ⟨by decide +kernel, rfl⟩
theorem dX12_digest_124 : zd cX12_digest 124 (.getfield 27) 3 127 := ⟨by decide +kernel, rfl⟩
theorem dX12_digest_127 : zd cX12_digest 127 (.iload_n 3) 1 128 := ⟨by decide +kernel, rfl⟩
theorem dX12_digest_128 : zd cX12_digest 128 (.iaload) 1 129 := ⟨by decide +kernel, rfl⟩
theorem dX12_digest_129 : zd cX12_digest 129 (.iadd) 1 130 := ⟨by decide +kernel, rfl⟩
theorem dX12_digest_130 : zd cX12_digest 130 (.if_icmp .ge 54) 3 133 := ⟨by decide +kernel, rfl⟩
theorem dX12_digest_133 : zd cX12_digest 133 (.ldc2_w 276) 3 136 := ⟨by decide +kernel, rfl⟩
theorem dX12_digest_136 : zd cX12_digest 136 (.lload_n 1) 1 137 := ⟨by decide +kernel, rfl⟩
theorem dX12_digest_137 : zd cX12_digest 137 (.lmul) 1 138 := ⟨by decide +kernel, rfl⟩
theorem dX12_digest_138 : zd cX12_digest 138 (.aload_n 0) 1 139 := ⟨by decide +kernel, rfl⟩
theorem dX12_digest_139 : zd cX12_digest 139 (.getfield 30) 3 142 := ⟨by decide +kernel, rfl⟩
theorem dX12_digest_142 : zd cX12_digest 142 (.iload 4) 2 144 := ⟨by decide +kernel, rfl⟩
theorem dX12_digest_144 : zd cX12_digest 144 (.iaload) 1 145 := ⟨by decide +kernel, rfl⟩
theorem dX12_digest_145 : zd cX12_digest 145 (.i2l) 1 146 := ⟨by decide +kernel, rfl⟩
theorem dX12_digest_146 : zd cX12_digest 146 (.ladd) 1 147 := ⟨by decide +kernel, rfl⟩
theorem dX12_digest_147 : zd cX12_digest 147 (.lstore_n 1) 1 148 := ⟨by decide +kernel, rfl⟩
theorem dX12_digest_148 : zd cX12_digest 148 (.ldc2_w 276) 3 151 := ⟨by decide +kernel, rfl⟩
theorem dX12_digest_151 : zd cX12_digest 151 (.lload_n 1) 1 152 := ⟨by decide +kernel, rfl⟩
theorem dX12_digest_152 : zd cX12_digest 152 (.lmul) 1 153 := ⟨by decide +kernel, rfl⟩
theorem dX12_digest_153 : zd cX12_digest 153 (.aload_n 0) 1 154 := ⟨by decide +kernel, rfl⟩
theorem dX12_digest_154 : zd cX12_digest 154 (.getfield 33) 3 157 := ⟨by decide +kernel, rfl⟩
theorem dX12_digest_157 : zd cX12_digest 157 (.iload 4) 2 159 := ⟨by decide +kernel, rfl⟩
theorem dX12_digest_159 : zd cX12_digest 159 (.iaload) 1 160 := ⟨by decide +kernel, rfl⟩
theorem dX12_digest_160 : zd cX12_digest 160 (.i2l) 1 161 := ⟨by decide +kernel, rfl⟩
theorem dX12_digest_161 : zd cX12_digest 161 (.ladd) 1 162 := ⟨by decide +kernel, rfl⟩
theorem dX12_digest_162 : zd cX12_digest 162 (.lstore_n 1) 1 163 := ⟨by decide +kernel, rfl⟩
theorem dX12_digest_163 : zd cX12_digest 163 (.ldc2_w 276) 3 166 := ⟨by decide +kernel, rfl⟩
theorem dX12_digest_166 : zd cX12_digest 166 (.lload_n 1) 1 167 := ⟨by decide +kernel, rfl⟩
theorem dX12_digest_167 : zd cX12_digest 167 (.lmul) 1 168 := ⟨by decide +kernel, rfl⟩
theorem dX12_digest_168 : zd cX12_digest 168 (.aload_n 0) 1 169 := ⟨by decide +kernel, rfl⟩
theorem dX12_digest_169 : zd cX12_digest 169 (.getfield 36) 3 172 := ⟨by decide +kernel, rfl⟩
theorem dX12_digest_172 : zd cX12_digest 172 (.iload 4) 2 174 := ⟨by decide +kernel, rfl⟩
theorem dX12_digest_174 : zd cX12_digest 174 (.iaload) 1 175 := ⟨by decide +kernel, rfl⟩
theorem dX12_digest_175 : zd cX12_digest 175 (.i2l) 1 176 := ⟨by decide +kernel, rfl⟩
theorem dX12_digest_176 : zd cX12_digest 176 (.ladd) 1 177 := ⟨by decide +kernel, rfl⟩
theorem dX12_digest_177 : zd cX12_digest 177 (.lstore_n 1) 1 178 := ⟨by decide +kernel, rfl⟩
theorem dX12_digest_178 : zd cX12_digest 178 (.iinc 4 1) 3 181 := ⟨by decide +kernel, rfl⟩
theorem dX12_digest_181 : zd cX12_digest 181 (.goto (-63)) 3 184 := ⟨by decide +kernel, rfl⟩
theorem dX12_digest_184 : zd cX12_digest 184 (.ldc2_w 276) 3 187 := ⟨by decide +kernel, rfl⟩
theorem dX12_digest_187 : zd cX12_digest 187 (.lload_n 1) 1 188 := ⟨by decide +kernel, rfl⟩
theorem dX12_digest_188 : zd cX12_digest 188 (.lmul) 1 189 := ⟨by decide +kernel, rfl⟩
theorem dX12_digest_189 : zd cX12_digest 189 (.aload_n 0) 1 190 := ⟨by decide +kernel, rfl⟩
theorem dX12_digest_190 : zd cX12_digest 190 (.iload_n 3) 1 191 := ⟨by decide +kernel, rfl⟩
theorem dX12_digest_191 : zd cX12_digest 191 (.sipush 200) 3 194 := ⟨by decide +kernel, rfl⟩
theorem dX12_digest_194 : zd cX12_digest 194 (.invokevirtual 182) 3 197 := ⟨by decide +kernel, rfl⟩
theorem dX12_digest_197 : zd cX12_digest 197 (.i2l) 1 198 := ⟨by decide +kernel, rfl⟩
theorem dX12_digest_198 : zd cX12_digest 198 (.ladd) 1 199 := ⟨by decide +kernel, rfl⟩
theorem dX12_digest_199 : zd cX12_digest 199 (.lstore_n 1) 1 200 := ⟨by decide +kernel, rfl⟩
theorem dX12_digest_200 : zd cX12_digest 200 (.ldc2_w 276) 3 203 := ⟨by decide +kernel, rfl⟩
theorem dX12_digest_203 : zd cX12_digest 203 (.lload_n 1) 1 204 := ⟨by decide +kernel, rfl⟩
theorem dX12_digest_204 : zd cX12_digest 204 (.lmul) 1 205 := ⟨by decide +kernel, rfl⟩
theorem dX12_digest_205 : zd cX12_digest 205 (.aload_n 0) 1 206 := ⟨by decide +kernel, rfl⟩
theorem dX12_digest_206 : zd cX12_digest 206 (.iload_n 3) 1 207 := ⟨by decide +kernel, rfl⟩
theorem dX12_digest_207 : zd cX12_digest 207 (.sipush 300) 3 210 := ⟨by decide +kernel, rfl⟩
theorem dX12_digest_210 : zd cX12_digest 210 (.invokevirtual 182) 3 213 := ⟨by decide +kernel, rfl⟩
theorem dX12_digest_213 : zd cX12_digest 213 (.i2l) 1 214 := ⟨by decide +kernel, rfl⟩
theorem dX12_digest_214 : zd cX12_digest 214 (.ladd) 1 215 := ⟨by decide +kernel, rfl⟩
theorem dX12_digest_215 : zd cX12_digest 215 (.lstore_n 1) 1 216 := ⟨by decide +kernel, rfl⟩
theorem dX12_digest_216 : zd cX12_digest 216 (.iinc 3 1) 3 219 := ⟨by decide +kernel, rfl⟩
theorem dX12_digest_219 : zd cX12_digest 219 (.goto (-186)) 3 222 := ⟨by decide +kernel, rfl⟩
theorem dX12_digest_222 : zd cX12_digest 222 (.iconst 0) 1 223 := ⟨by decide +kernel, rfl⟩
theorem dX12_digest_223 : zd cX12_digest 223 (.istore_n 3) 1 224 := ⟨by decide +kernel, rfl⟩
theorem dX12_digest_224 : zd cX12_digest 224 (.iload_n 3) 1 225 := ⟨by decide +kernel, rfl⟩
theorem dX12_digest_225 : zd cX12_digest 225 (.aload_n 0) 1 226 := ⟨by decide +kernel, rfl⟩
theorem dX12_digest_226 : zd cX12_digest 226 (.getfield 218) 3 229 := ⟨by decide +kernel, rfl⟩
theorem dX12_digest_229 : zd cX12_digest 229 (.if_icmp .ge 23) 3 232 := ⟨by decide +kernel, rfl⟩
theorem dX12_digest_232 : zd cX12_digest 232 (.ldc2_w 276) 3 235 := ⟨by decide +kernel, rfl⟩
theorem dX12_digest_235 : zd cX12_digest 235 (.lload_n 1) 1 236 := ⟨by decide +kernel, rfl⟩
theorem dX12_digest_236 : zd cX12_digest 236 (.lmul) 1 237 := ⟨by decide +kernel, rfl⟩
theorem dX12_digest_237 : zd cX12_digest 237 (.aload_n 0) 1 238 := ⟨by decide +kernel, rfl⟩
theorem dX12_digest_238 : zd cX12_digest 238 (.getfield 39) 3 241 := ⟨by decide +kernel, rfl⟩
theorem dX12_digest_241 : zd cX12_digest 241 (.iload_n 3) 1 242 := ⟨by decide +kernel, rfl⟩
theorem dX12_digest_242 : zd cX12_digest 242 (.iaload) 1 243 := ⟨by decide +kernel, rfl⟩
theorem dX12_digest_243 : zd cX12_digest 243 (.i2l) 1 244 := ⟨by decide +kernel, rfl⟩
theorem dX12_digest_244 : zd cX12_digest 244 (.ladd) 1 245 := ⟨by decide +kernel, rfl⟩
theorem dX12_digest_245 : zd cX12_digest 245 (.lstore_n 1) 1 246 := ⟨by decide +kernel, rfl⟩
theorem dX12_digest_246 : zd cX12_digest 246 (.iinc 3 1) 3 249 := ⟨by decide +kernel, rfl⟩
theorem dX12_digest_249 : zd cX12_digest 249 (.goto (-25)) 3 252 := ⟨by decide +kernel, rfl⟩
theorem dX12_digest_252 : zd cX12_digest 252 (.iconst 0) 1 253 := ⟨by decide +kernel, rfl⟩
theorem dX12_digest_253 : zd cX12_digest 253 (.istore_n 3) 1 254 := ⟨by decide +kernel, rfl⟩
theorem dX12_digest_254 : zd cX12_digest 254 (.iload_n 3) 1 255 := ⟨by decide +kernel, rfl⟩
theorem dX12_digest_255 : zd cX12_digest 255 (.iconst 2) 1 256 := ⟨by decide +kernel, rfl⟩
theorem dX12_digest_256 : zd cX12_digest 256 (.if_icmp .ge 49) 3 259 := ⟨by decide +kernel, rfl⟩
theorem dX12_digest_259 : zd cX12_digest 259 (.iconst 0) 1 260 := ⟨by decide +kernel, rfl⟩
theorem dX12_digest_260 : zd cX12_digest 260 (.istore 4) 2 262 := ⟨by decide +kernel, rfl⟩
theorem dX12_digest_262 : zd cX12_digest 262 (.iload 4) 2 264 := ⟨by decide +kernel, rfl⟩
theorem dX12_digest_264 : zd cX12_digest 264 (.aload_n 0) 1 265 := ⟨by decide +kernel, rfl⟩
theorem dX12_digest_265 : zd cX12_digest 265 (.getfield 42) 3 268 := ⟨by decide +kernel, rfl⟩
theorem dX12_digest_268 : zd cX12_digest 268 (.iload_n 3) 1 269 := ⟨by decide +kernel, rfl⟩
theorem dX12_digest_269 : zd cX12_digest 269 (.iaload) 1 270 := ⟨by decide +kernel, rfl⟩
theorem dX12_digest_270 : zd cX12_digest 270 (.if_icmp .ge 29) 3 273 := ⟨by decide +kernel, rfl⟩
theorem dX12_digest_273 : zd cX12_digest 273 (.ldc2_w 276) 3 276 := ⟨by decide +kernel, rfl⟩
theorem dX12_digest_276 : zd cX12_digest 276 (.lload_n 1) 1 277 := ⟨by decide +kernel, rfl⟩
theorem dX12_digest_277 : zd cX12_digest 277 (.lmul) 1 278 := ⟨by decide +kernel, rfl⟩
theorem dX12_digest_278 : zd cX12_digest 278 (.aload_n 0) 1 279 := ⟨by decide +kernel, rfl⟩
theorem dX12_digest_279 : zd cX12_digest 279 (.getfield 45) 3 282 := ⟨by decide +kernel, rfl⟩
theorem dX12_digest_282 : zd cX12_digest 282 (.bipush 60) 2 284 := ⟨by decide +kernel, rfl⟩
theorem dX12_digest_284 : zd cX12_digest 284 (.iload_n 3) 1 285 := ⟨by decide +kernel, rfl⟩
theorem dX12_digest_285 : zd cX12_digest 285 (.imul) 1 286 := ⟨by decide +kernel, rfl⟩
theorem dX12_digest_286 : zd cX12_digest 286 (.iload 4) 2 288 := ⟨by decide +kernel, rfl⟩
theorem dX12_digest_288 : zd cX12_digest 288 (.iadd) 1 289 := ⟨by decide +kernel, rfl⟩
theorem dX12_digest_289 : zd cX12_digest 289 (.iaload) 1 290 := ⟨by decide +kernel, rfl⟩
theorem dX12_digest_290 : zd cX12_digest 290 (.i2l) 1 291 := ⟨by decide +kernel, rfl⟩
theorem dX12_digest_291 : zd cX12_digest 291 (.ladd) 1 292 := ⟨by decide +kernel, rfl⟩
theorem dX12_digest_292 : zd cX12_digest 292 (.lstore_n 1) 1 293 := ⟨by decide +kernel, rfl⟩
theorem dX12_digest_293 : zd cX12_digest 293 (.iinc 4 1) 3 296 := ⟨by decide +kernel, rfl⟩
theorem dX12_digest_296 : zd cX12_digest 296 (.goto (-34)) 3 299 := ⟨by decide +kernel, rfl⟩
theorem dX12_digest_299 : zd cX12_digest 299 (.iinc 3 1) 3 302 := ⟨by decide +kernel, rfl⟩
theorem dX12_digest_302 : zd cX12_digest 302 (.goto (-48)) 3 305 := ⟨by decide +kernel, rfl⟩
theorem dX12_digest_305 : zd cX12_digest 305 (.lload_n 1) 1 306 := ⟨by decide +kernel, rfl⟩
theorem dX12_digest_306 : zd cX12_digest 306 (.lreturn) 1 307 := ⟨by decide +kernel, rfl⟩
end
section
/-! THE TYPED STORE: a state is (size of the heap, kind and length of each cell, its references, its ints, its longs) -/
abbrev zS : Type := Nat × (Nat → Option (Nat × Nat)) × (Nat → Nat → Option Nat) × (Nat → Nat → Int32) × (Nat → Nat → Int64)
/-- what never changes: the tables' numbers, the arrays' classes, where the new cells begin -/
abbrev zG : Type := va_G × (Nat → ClassId) × Nat
def zv (kd : Nat) (r : Option Nat) (i : Int32) (j : Int64) : Value := match kd with
  | 0 => .int i
  | 1 => .long j
  | _ => va_rf r
def zfs (t : Nat) (r : Nat → Option Nat) (i : Nat → Int32) (j : Nat → Int64) : List Value := (List.range (zn t)).map (fun k => zv (zkd t k) (r k) (i k) (j k))
def zc (G : zG) (s : zS) (a : Nat) : va_E := match s.2.1 a with
  | none => .inl (0, 0, .inl (fun _ => 0))
  | some (t, n) => if t < 13 then .inr (t, zfs t (s.2.2.1 a) (s.2.2.2.1 a) (s.2.2.2.2 a)) else if t = 13 then .inl (G.2.1 0, n, .inl (s.2.2.2.1 a)) else if t = 14 then .inl (G.2.1 1, n, .inr (.inl (s.2.2.2.2 a))) else if t = 15 then .inl (G.2.1 2, n, .inl (s.2.2.2.1 a)) else .inl (G.2.1 (t - 13), n, .inr (.inr (.inr (.inr (s.2.2.1 a)))))
def ztys (G : zG) : List (ClassId × FieldType) := [(G.2.1 0, .int), (G.2.1 1, .long), (G.2.1 2, .boolean), (G.2.1 3, .object "SlideRules$Scale"), (G.2.1 4, .object "SlideRules$Strip"), (G.2.1 5, .array .int)]
def zA (G : zG) : Nat → Prop := fun q => G.2.2 ≤ q
def zH (G : zG) (s : zS) (H : Heap) : Prop := H.size = s.1 ∧ G.2.2 ≤ s.1 ∧ (∀ a : Nat, s.2.1 a ≠ none → G.2.2 ≤ a ∧ va_at G.1 vwCl (a, zc G s a) H) ∧ ∀ a : Nat, s.1 ≤ a → s.2.1 a = none ∧ (s.2.2.1 a = fun _ => none) ∧ (s.2.2.2.1 a = fun _ => 0) ∧ (s.2.2.2.2 a = fun _ => 0)
def zNs (U : State) : Prop := (∀ q ∈ zNest, va_Nw (.methodLinkNest q.1 q.2.1 q.2.2.1 q.2.2.2) U) ∧ va_AO "SlideRules$Scale" U ∧ va_AO "SlideRules$Strip" U
def zI (G : zG) (s : zS) (U : State) : Prop := zH G s U.heap ∧ va_K G.1 vwCl (ztys G) U ∧ zNs U
abbrev zE : Type := Program × Launch × Env × Room × State × MethodId × Array Value × List Frame × Method × Code × (State → Prop)
/-- the machine at pc comes to its goal, from every heap that holds the store -/
def zW (E : zE) (G : zG) (nL : Nat) (s : zS) (n k pc : Nat) (L : List (Nat × Value)) (st : List Value) : Prop := match E with
  | (p, l, e, R, u, m, args, below, meth, c, Q) => ∀ (H : Heap) (locs : List Loc) (ls : Array Slot), zH G s H → va_S (zA G) u.heap H locs → lv_has ls nL L → W p l e R u m args below meth c H locs n k Q (F0 m pc ls st)
def zX (E : zE) (G : zG) (cc : ByteArray) (nL : Nat) (own : String) (rm : Room) : Prop := match E with
  | (p, _, _, R, u, m, args, _, meth, c, _) => p.tables.exec = Jvm.exec ∧ c.code = cc ∧ c.maxLocals = nL ∧ u.vm.findClass own = some m.cls ∧ (∀ w ∈ zT, w.before args u = true) ∧ va_K G.1 vwCl (ztys G) u ∧ zNs u ∧ meth.locks = false ∧ G.2.2 ≤ u.heap.size ∧ R = rm
def zQ (G : zG) (P : Option Value → zS → Prop) : Array Value → State → Outcome → State → Prop := fun _ st oc t => (∃ v s, oc = .returned v ∧ P v s ∧ zI G s t) ∧ va_F (zA G) st t
def zR (E : zE) (G : zG) (P : Option Value → zS → Prop) (mc ms : Nat) (ret : Option FieldType) : Prop := match E with
  | (_, _, _, _, u, _, args, below, meth, _, Q) => Q = MQ below (zQ G P) args u mc ms (zA G) ∧ meth.sig.returnType = ret
/-- a contract at one start: arguments av, store s; the answer and the store behind are as P says; mc cells of ms places come -/
def zM (l : Launch) (G : zG) (y : MethodName) (cc : ByteArray) (maxL : Nat) (ret : Option FieldType) (rm : Room) (av : List Value) (s : zS) (P : Option Value → zS → Prop) (mc ms : Nat) : Prop :=
  Met l y (Cond.code y cc maxL ret :: zT) rm (va_Pc av (zI G s)) (zQ G P) mc ms (zA G)
theorem zNs.warm {s U : State} (hW : s.WarmedH U.vm) (h : zNs s) : zNs U := ⟨fun q hq => va_Nw.warmM hW (h.1 q hq), h.2.1.moved hW.alike, h.2.2.moved hW.alike⟩
theorem zNs.same {u U : State} (h : u.vm = U.vm) (hn : zNs u) : zNs U := ⟨fun q hq => va_Nw.same rfl h (hn.1 q hq), hn.2.1.moved (by rw [← h]; exact Vm.Alike.refl _), hn.2.2.moved (by rw [← h]; exact Vm.Alike.refl _)⟩
theorem zI.warm {G : zG} {z : zS} {s U : State} (hH : zH G z U.heap) (hK : va_K G.1 vwCl (ztys G) s) (hN : zNs s) (hW : s.WarmedH U.vm) : zI G z U := ⟨hH, va_K.moved hW.alike hK, hN.warm hW⟩
theorem zI.blind {G : zG} {s : zS} {av : List Value} : FrameBlind (va_Pc av (zI G s)) := fun a U g mk h => ⟨h.1, h.2.1, va_K.moved (u := U) (U := U.calling g mk a) (Vm.Alike.refl U.vm) h.2.2.1, zNs.same (u := U) (U := U.calling g mk a) rfl h.2.2.2⟩
theorem zMet_of {l : Launch} {y : MethodName} {ws ws' : List Cond} {rm : Room} {Pc : Array Value → State → Prop} {Qc : Array Value → State → Outcome → State → Prop} {mc ms : Nat} {free : Addr → Prop} {cc : ByteArray} {maxL : Nat} {ret : Option FieldType}
    (hy : plainFor y = true) (hw : ws = Cond.code y cc maxL ret :: ws')
    (body : ∀ p e s m args below meth c s₁, BodyLoose p l y (headSpec ws rm) cc maxL ret e s m args below meth c s₁ → c.maxLocals = maxL → Pc args s →
      W p l e (headSpec ws rm).room s m args below meth c s.heap [] 0 0 (MQ below Qc args s mc ms free) (entryFrame m args maxL)) : Met l y ws rm Pc Qc mc ms free := by
  refine MetFree.of_bodySF (code := cc) (maxLocals := maxL) (ret := ret) hy ?_ ?_
  · intro args s m h hn
    obtain ⟨meth, c, h1, h2, h3, h4, h5, h6, -, -⟩ := Cond.code_spec hn (atoms_spec (ws := ws) h _ (by rw [hw]; exact List.mem_cons_self))
    exact ⟨meth, c, h1, h2, h3, h4, h5, h6⟩
  · intro p e s m args below meth c s₁ B hml hP _
    have hh0 : s₁.heap = s.heap := by rw [B.state]; rfl
    obtain ⟨t, a1, o, b1, b2, b3⟩ := body p e s m args below meth c s₁ B hml hP s₁ hh0 (Stand.of_body B)
    exact ⟨t, o, a1, b1, b2, b3.1, b3.2⟩
theorem zM_of {l : Launch} {G : zG} {y : MethodName} {cc : ByteArray} {maxL na : Nat} {ret : Option FieldType} {rm : Room} {av : List Value} {s : zS} {P : Option Value → zS → Prop} {mc ms : Nat} (hc : zCd y cc maxL ret na) (hn : (lg_sl av).length ≤ maxL)
    (body : ∀ E : zE, zX E G cc maxL y.cls rm → zR E G P mc ms ret → E.2.1 = l → zW E G maxL s 0 0 0 (lv_args 0 av) []) : zM l G y cc maxL ret rm av s P mc ms := by
  refine zMet_of (cc := cc) (maxL := maxL) (ret := ret) hc.2.2.2 rfl ?_
  intro p e u m args below meth c s₁ B hml hv
  obtain ⟨rfl, hH, hK, hN⟩ := hv
  have hl := lv_entry av (n := maxL) hn
  rw [lg_entry_eq]
  exact body (p, l, e, (headSpec (Cond.code y cc maxL ret :: zT) rm).room, u, m, av.toArray, below, meth, c, MQ below (zQ G P) av.toArray u mc ms (zA G)) ⟨B.exec, B.bytes, hml, findClass_of_methodNamed B.named, fun w hw => atoms_spec B.pre w (List.mem_cons_of_mem _ hw), hK, hN, B.notSynchronized, by rw [hH.1]; exact hH.2.1, rfl⟩ ⟨rfl, B.returns⟩ rfl u.heap [] _ hH va_S.rf hl
end
section
/-! ROWS over the typed store, one an instruction (written by wip/gen/gen_rows.py) -/
def zu {α : Type} (f : Nat → Nat → α) (a k : Nat) (v : α) : Nat → Nat → α := fun b j => if b = a ∧ j = k then v else f b j
theorem zu_s {α : Type} {f : Nat → Nat → α} {a k : Nat} {v : α} : zu f a k v a k = v := if_pos ⟨rfl, rfl⟩
theorem zu_a {α : Type} {f : Nat → Nat → α} {a k b j : Nat} {v : α} (h : b ≠ a) : zu f a k v b j = f b j := if_neg fun q => h q.1
theorem zu_k {α : Type} {f : Nat → Nat → α} {a k b j : Nat} {v : α} (h : j ≠ k) : zu f a k v b j = f b j := if_neg fun q => h q.2
theorem zu_r {α : Type} {f : Nat → Nat → α} {a k b : Nat} {v : α} (h : b ≠ a) : zu f a k v b = f b := funext fun _ => zu_a h
theorem zu_ra {α : Type} {f : Nat → Nat → α} {a k : Nat} {v : α} : zu f a k v a = fun j => if j = k then v else f a j := by
  funext j
  by_cases h : j = k
  · subst h; simp [zu]
  · simp [zu, h]
def zlk (L : List (Nat × Value)) (i : Nat) : Option Value := L.lookup i
theorem zlk_mem {i : Nat} {v : Value} : ∀ {L : List (Nat × Value)}, zlk L i = some v → (i, v) ∈ L
  | [], h => by simp [zlk] at h
  | (j, w) :: L, h => by
    by_cases e : i = j
    · subst e
      simp [zlk, List.lookup] at h
      subst h
      exact List.mem_cons_self
    · have e2 : (i == j) = false := by simp [e]
      have h2 : zlk L i = some v := by simpa [zlk, List.lookup, e2] using h
      exact List.mem_cons_of_mem _ (zlk_mem h2)
theorem zlk_at {ls : Array Slot} {nL : Nat} {L : List (Nat × Value)} (h : lv_has ls nL L) {i : Nat} {v : Value} (hk : zlk L i = some v) : ls[i]? = some (.val v) := h.2.2 (i, v) (zlk_mem hk)
def zs1 (L : List (Nat × Value)) (i : Nat) (v : Value) : List (Nat × Value) := (i, v) :: L.filter (fun q => !(q.1 == i) && !(q.1 + 1 == i && q.2.category == 2))
def zs2 (L : List (Nat × Value)) (i : Nat) (v : Value) : List (Nat × Value) := (i, v) :: L.filter (fun q => !(q.1 == i) && (!(q.1 == i + 1) && !(q.1 + 1 == i && q.2.category == 2)))
section ZR
variable {E : zE} {G : zG} {cc : ByteArray} {nL : Nat} {own : String} {rm : Room} {s : zS} {n k pc nx : Nat} {L : List (Nat × Value)} {st : List Value}

theorem r_iadd (X : zX E G cc nL own rm) {x y : Int32} (d : zd cc pc (.iadd) 1 nx)
    (kk : zW E G nL s n k nx L (.int (x + y) :: st)) : zW E G nL s n k pc L (.int y :: .int x :: st) := by
  obtain ⟨p, l, e, R, u, m, args, below, meth, c, Q⟩ := E
  obtain ⟨hx, hb, hml, hown, hts, hK, hN, hlk, hB, rfl⟩ := X
  obtain ⟨d, rfl⟩ := d
  intro H locs ls hH hS hl
  exact lv_iadd hx hb d (kk H locs ls hH hS hl)
theorem r_isub (X : zX E G cc nL own rm) {x y : Int32} (d : zd cc pc (.isub) 1 nx)
    (kk : zW E G nL s n k nx L (.int (x - y) :: st)) : zW E G nL s n k pc L (.int y :: .int x :: st) := by
  obtain ⟨p, l, e, R, u, m, args, below, meth, c, Q⟩ := E
  obtain ⟨hx, hb, hml, hown, hts, hK, hN, hlk, hB, rfl⟩ := X
  obtain ⟨d, rfl⟩ := d
  intro H locs ls hH hS hl
  exact lv_isub hx hb d (kk H locs ls hH hS hl)
theorem r_imul (X : zX E G cc nL own rm) {x y : Int32} (d : zd cc pc (.imul) 1 nx)
    (kk : zW E G nL s n k nx L (.int (x * y) :: st)) : zW E G nL s n k pc L (.int y :: .int x :: st) := by
  obtain ⟨p, l, e, R, u, m, args, below, meth, c, Q⟩ := E
  obtain ⟨hx, hb, hml, hown, hts, hK, hN, hlk, hB, rfl⟩ := X
  obtain ⟨d, rfl⟩ := d
  intro H locs ls hH hS hl
  exact lv_imul hx hb d (kk H locs ls hH hS hl)
theorem r_iand (X : zX E G cc nL own rm) {x y : Int32} (d : zd cc pc (.iand) 1 nx)
    (kk : zW E G nL s n k nx L (.int (x &&& y) :: st)) : zW E G nL s n k pc L (.int y :: .int x :: st) := by
  obtain ⟨p, l, e, R, u, m, args, below, meth, c, Q⟩ := E
  obtain ⟨hx, hb, hml, hown, hts, hK, hN, hlk, hB, rfl⟩ := X
  obtain ⟨d, rfl⟩ := d
  intro H locs ls hH hS hl
  exact lv_iand hx hb d (kk H locs ls hH hS hl)
theorem r_ladd (X : zX E G cc nL own rm) {x y : Int64} (d : zd cc pc (.ladd) 1 nx)
    (kk : zW E G nL s n k nx L (.long (x + y) :: st)) : zW E G nL s n k pc L (.long y :: .long x :: st) := by
  obtain ⟨p, l, e, R, u, m, args, below, meth, c, Q⟩ := E
  obtain ⟨hx, hb, hml, hown, hts, hK, hN, hlk, hB, rfl⟩ := X
  obtain ⟨d, rfl⟩ := d
  intro H locs ls hH hS hl
  exact lv_ladd hx hb d (kk H locs ls hH hS hl)
theorem r_lsub (X : zX E G cc nL own rm) {x y : Int64} (d : zd cc pc (.lsub) 1 nx)
    (kk : zW E G nL s n k nx L (.long (x - y) :: st)) : zW E G nL s n k pc L (.long y :: .long x :: st) := by
  obtain ⟨p, l, e, R, u, m, args, below, meth, c, Q⟩ := E
  obtain ⟨hx, hb, hml, hown, hts, hK, hN, hlk, hB, rfl⟩ := X
  obtain ⟨d, rfl⟩ := d
  intro H locs ls hH hS hl
  exact lv_lsub hx hb d (kk H locs ls hH hS hl)
theorem r_lmul (X : zX E G cc nL own rm) {x y : Int64} (d : zd cc pc (.lmul) 1 nx)
    (kk : zW E G nL s n k nx L (.long (x * y) :: st)) : zW E G nL s n k pc L (.long y :: .long x :: st) := by
  obtain ⟨p, l, e, R, u, m, args, below, meth, c, Q⟩ := E
  obtain ⟨hx, hb, hml, hown, hts, hK, hN, hlk, hB, rfl⟩ := X
  obtain ⟨d, rfl⟩ := d
  intro H locs ls hH hS hl
  exact lv_lmul hx hb d (kk H locs ls hH hS hl)
theorem r_land (X : zX E G cc nL own rm) {x y : Int64} (d : zd cc pc (.land) 1 nx)
    (kk : zW E G nL s n k nx L (.long (x &&& y) :: st)) : zW E G nL s n k pc L (.long y :: .long x :: st) := by
  obtain ⟨p, l, e, R, u, m, args, below, meth, c, Q⟩ := E
  obtain ⟨hx, hb, hml, hown, hts, hK, hN, hlk, hB, rfl⟩ := X
  obtain ⟨d, rfl⟩ := d
  intro H locs ls hH hS hl
  exact lv_land hx hb d (kk H locs ls hH hS hl)
theorem r_idiv (X : zX E G cc nL own rm) {x y : Int32} (hne : ¬ y = 0) (d : zd cc pc (.idiv) 1 nx)
    (kk : zW E G nL s n k nx L (.int (x / y) :: st)) : zW E G nL s n k pc L (.int y :: .int x :: st) := by
  obtain ⟨p, l, e, R, u, m, args, below, meth, c, Q⟩ := E
  obtain ⟨hx, hb, hml, hown, hts, hK, hN, hlk, hB, rfl⟩ := X
  obtain ⟨d, rfl⟩ := d
  intro H locs ls hH hS hl
  exact lv_idiv hx hb d hne (kk H locs ls hH hS hl)
theorem r_irem (X : zX E G cc nL own rm) {x y : Int32} (hne : ¬ y = 0) (d : zd cc pc (.irem) 1 nx)
    (kk : zW E G nL s n k nx L (.int (x - x / y * y) :: st)) : zW E G nL s n k pc L (.int y :: .int x :: st) := by
  obtain ⟨p, l, e, R, u, m, args, below, meth, c, Q⟩ := E
  obtain ⟨hx, hb, hml, hown, hts, hK, hN, hlk, hB, rfl⟩ := X
  obtain ⟨d, rfl⟩ := d
  intro H locs ls hH hS hl
  exact lv_irem hx hb d hne (kk H locs ls hH hS hl)
theorem r_ldiv (X : zX E G cc nL own rm) {x y : Int64} (hne : ¬ y = 0) (d : zd cc pc (.ldiv) 1 nx)
    (kk : zW E G nL s n k nx L (.long (x / y) :: st)) : zW E G nL s n k pc L (.long y :: .long x :: st) := by
  obtain ⟨p, l, e, R, u, m, args, below, meth, c, Q⟩ := E
  obtain ⟨hx, hb, hml, hown, hts, hK, hN, hlk, hB, rfl⟩ := X
  obtain ⟨d, rfl⟩ := d
  intro H locs ls hH hS hl
  exact lv_ldiv hx hb d hne (kk H locs ls hH hS hl)
theorem r_lrem (X : zX E G cc nL own rm) {x y : Int64} (hne : ¬ y = 0) (d : zd cc pc (.lrem) 1 nx)
    (kk : zW E G nL s n k nx L (.long (x - x / y * y) :: st)) : zW E G nL s n k pc L (.long y :: .long x :: st) := by
  obtain ⟨p, l, e, R, u, m, args, below, meth, c, Q⟩ := E
  obtain ⟨hx, hb, hml, hown, hts, hK, hN, hlk, hB, rfl⟩ := X
  obtain ⟨d, rfl⟩ := d
  intro H locs ls hH hS hl
  exact lv_lrem hx hb d hne (kk H locs ls hH hS hl)
theorem r_ineg (X : zX E G cc nL own rm) {x : Int32} (d : zd cc pc (.ineg) 1 nx)
    (kk : zW E G nL s n k nx L (.int (-x) :: st)) : zW E G nL s n k pc L (.int x :: st) := by
  obtain ⟨p, l, e, R, u, m, args, below, meth, c, Q⟩ := E
  obtain ⟨hx, hb, hml, hown, hts, hK, hN, hlk, hB, rfl⟩ := X
  obtain ⟨d, rfl⟩ := d
  intro H locs ls hH hS hl
  exact lv_ineg hx hb d (kk H locs ls hH hS hl)
theorem r_lneg (X : zX E G cc nL own rm) {x : Int64} (d : zd cc pc (.lneg) 1 nx)
    (kk : zW E G nL s n k nx L (.long (-x) :: st)) : zW E G nL s n k pc L (.long x :: st) := by
  obtain ⟨p, l, e, R, u, m, args, below, meth, c, Q⟩ := E
  obtain ⟨hx, hb, hml, hown, hts, hK, hN, hlk, hB, rfl⟩ := X
  obtain ⟨d, rfl⟩ := d
  intro H locs ls hH hS hl
  exact lv_lneg hx hb d (kk H locs ls hH hS hl)
theorem r_i2l (X : zX E G cc nL own rm) {x : Int32} (d : zd cc pc (.i2l) 1 nx)
    (kk : zW E G nL s n k nx L (.long x.toInt64 :: st)) : zW E G nL s n k pc L (.int x :: st) := by
  obtain ⟨p, l, e, R, u, m, args, below, meth, c, Q⟩ := E
  obtain ⟨hx, hb, hml, hown, hts, hK, hN, hlk, hB, rfl⟩ := X
  obtain ⟨d, rfl⟩ := d
  intro H locs ls hH hS hl
  exact lv_i2l hx hb d rfl (kk H locs ls hH hS hl)
theorem r_l2i (X : zX E G cc nL own rm) {x : Int64} (d : zd cc pc (.l2i) 1 nx)
    (kk : zW E G nL s n k nx L (.int x.toInt32 :: st)) : zW E G nL s n k pc L (.long x :: st) := by
  obtain ⟨p, l, e, R, u, m, args, below, meth, c, Q⟩ := E
  obtain ⟨hx, hb, hml, hown, hts, hK, hN, hlk, hB, rfl⟩ := X
  obtain ⟨d, rfl⟩ := d
  intro H locs ls hH hS hl
  exact lv_l2i hx hb d rfl (kk H locs ls hH hS hl)
theorem r_lshl (X : zX E G cc nL own rm) {x : Int64} {y : Int32} (d : zd cc pc (.lshl) 1 nx)
    (kk : zW E G nL s n k nx L (.long (x <<< (y.toInt64 &&& 63)) :: st)) : zW E G nL s n k pc L (.int y :: .long x :: st) := by
  obtain ⟨p, l, e, R, u, m, args, below, meth, c, Q⟩ := E
  obtain ⟨hx, hb, hml, hown, hts, hK, hN, hlk, hB, rfl⟩ := X
  obtain ⟨d, rfl⟩ := d
  intro H locs ls hH hS hl
  exact lv_lshl hx hb d rfl (kk H locs ls hH hS hl)
theorem r_lshr (X : zX E G cc nL own rm) {x : Int64} {y : Int32} (d : zd cc pc (.lshr) 1 nx)
    (kk : zW E G nL s n k nx L (.long (x >>> (y.toInt64 &&& 63)) :: st)) : zW E G nL s n k pc L (.int y :: .long x :: st) := by
  obtain ⟨p, l, e, R, u, m, args, below, meth, c, Q⟩ := E
  obtain ⟨hx, hb, hml, hown, hts, hK, hN, hlk, hB, rfl⟩ := X
  obtain ⟨d, rfl⟩ := d
  intro H locs ls hH hS hl
  exact lv_lshr hx hb d rfl (kk H locs ls hH hS hl)
theorem r_dup (X : zX E G cc nL own rm) {v : Value} (hv : v.category = 1) (d : zd cc pc (.dup) 1 nx)
    (kk : zW E G nL s n k nx L (v :: v :: st)) : zW E G nL s n k pc L (v :: st) := by
  obtain ⟨p, l, e, R, u, m, args, below, meth, c, Q⟩ := E
  obtain ⟨hx, hb, hml, hown, hts, hK, hN, hlk, hB, rfl⟩ := X
  obtain ⟨d, rfl⟩ := d
  intro H locs ls hH hS hl
  exact lv_dup hx hb d hv (kk H locs ls hH hS hl)
theorem r_dup2 (X : zX E G cc nL own rm) {v w : Value} (hv : v.category = 1) (hw : w.category = 1) (d : zd cc pc (.dup2) 1 nx)
    (kk : zW E G nL s n k nx L (v :: w :: v :: w :: st)) : zW E G nL s n k pc L (v :: w :: st) := by
  obtain ⟨p, l, e, R, u, m, args, below, meth, c, Q⟩ := E
  obtain ⟨hx, hb, hml, hown, hts, hK, hN, hlk, hB, rfl⟩ := X
  obtain ⟨d, rfl⟩ := d
  intro H locs ls hH hS hl
  exact lv_dup2_11 hx hb d hv hw (kk H locs ls hH hS hl)
theorem r_pop (X : zX E G cc nL own rm) {v : Value} (hv : v.category = 1) (d : zd cc pc (.pop) 1 nx)
    (kk : zW E G nL s n k nx L (st)) : zW E G nL s n k pc L (v :: st) := by
  obtain ⟨p, l, e, R, u, m, args, below, meth, c, Q⟩ := E
  obtain ⟨hx, hb, hml, hown, hts, hK, hN, hlk, hB, rfl⟩ := X
  obtain ⟨d, rfl⟩ := d
  intro H locs ls hH hS hl
  exact lv_pop hx hb d hv (kk H locs ls hH hS hl)
theorem r_iconst (X : zX E G cc nL own rm) {i : Int} (v : Int32) (hv : Int32.ofInt i = v) (d : zd cc pc (.iconst i) 1 nx)
    (kk : zW E G nL s n k nx L (.int v :: st)) : zW E G nL s n k pc L (st) := by
  obtain ⟨p, l, e, R, u, m, args, below, meth, c, Q⟩ := E
  obtain ⟨hx, hb, hml, hown, hts, hK, hN, hlk, hB, rfl⟩ := X
  obtain ⟨d, rfl⟩ := d
  intro H locs ls hH hS hl
  exact lv_iconst hx hb d hv (kk H locs ls hH hS hl)
theorem r_bipush (X : zX E G cc nL own rm) {i : Int} (v : Int32) (hv : (Int8.ofInt i).toInt32 = v) (d : zd cc pc (.bipush i) 2 nx)
    (kk : zW E G nL s n k nx L (.int v :: st)) : zW E G nL s n k pc L (st) := by
  obtain ⟨p, l, e, R, u, m, args, below, meth, c, Q⟩ := E
  obtain ⟨hx, hb, hml, hown, hts, hK, hN, hlk, hB, rfl⟩ := X
  obtain ⟨d, rfl⟩ := d
  intro H locs ls hH hS hl
  exact lv_bipush hx hb d hv (kk H locs ls hH hS hl)
theorem r_sipush (X : zX E G cc nL own rm) {i : Int} (v : Int32) (hv : (Int16.ofInt i).toInt32 = v) (d : zd cc pc (.sipush i) 3 nx)
    (kk : zW E G nL s n k nx L (.int v :: st)) : zW E G nL s n k pc L (st) := by
  obtain ⟨p, l, e, R, u, m, args, below, meth, c, Q⟩ := E
  obtain ⟨hx, hb, hml, hown, hts, hK, hN, hlk, hB, rfl⟩ := X
  obtain ⟨d, rfl⟩ := d
  intro H locs ls hH hS hl
  exact lv_sipush hx hb d hv (kk H locs ls hH hS hl)
theorem r_lconst (X : zX E G cc nL own rm) {i : Fin 2} (v : Int64) (hv : Int64.ofNat (i : Nat) = v) (d : zd cc pc (.lconst i) 1 nx)
    (kk : zW E G nL s n k nx L (.long v :: st)) : zW E G nL s n k pc L (st) := by
  obtain ⟨p, l, e, R, u, m, args, below, meth, c, Q⟩ := E
  obtain ⟨hx, hb, hml, hown, hts, hK, hN, hlk, hB, rfl⟩ := X
  obtain ⟨d, rfl⟩ := d
  intro H locs ls hH hS hl
  exact lv_lconst hx hb d hv (kk H locs ls hH hS hl)
theorem r_ldc (X : zX E G cc nL own rm) {i : Nat} {v : Int32} (hc : Cond.constant own i v ∈ zT) (d : zd cc pc (.ldc i) 2 nx)
    (kk : zW E G nL s n k nx L (.int v :: st)) : zW E G nL s n k pc L (st) := by
  obtain ⟨p, l, e, R, u, m, args, below, meth, c, Q⟩ := E
  obtain ⟨hx, hb, hml, hown, hts, hK, hN, hlk, hB, rfl⟩ := X
  obtain ⟨d, rfl⟩ := d
  intro H locs ls hH hS hl
  exact lv_ldc hx hb hown (hts _ hc) d (kk H locs ls hH hS hl)
theorem r_ldcw (X : zX E G cc nL own rm) {i : Nat} {v : Int32} (hc : Cond.constant own i v ∈ zT) (d : zd cc pc (.ldc_w i) 3 nx)
    (kk : zW E G nL s n k nx L (.int v :: st)) : zW E G nL s n k pc L (st) := by
  obtain ⟨p, l, e, R, u, m, args, below, meth, c, Q⟩ := E
  obtain ⟨hx, hb, hml, hown, hts, hK, hN, hlk, hB, rfl⟩ := X
  obtain ⟨d, rfl⟩ := d
  intro H locs ls hH hS hl
  exact lv_ldcw hx hb hown (hts _ hc) d (kk H locs ls hH hS hl)
theorem r_ldc2 (X : zX E G cc nL own rm) {i : Nat} {v : Int64} (hc : Cond.constantLong own i v ∈ zT) (d : zd cc pc (.ldc2_w i) 3 nx)
    (kk : zW E G nL s n k nx L (.long v :: st)) : zW E G nL s n k pc L (st) := by
  obtain ⟨p, l, e, R, u, m, args, below, meth, c, Q⟩ := E
  obtain ⟨hx, hb, hml, hown, hts, hK, hN, hlk, hB, rfl⟩ := X
  obtain ⟨d, rfl⟩ := d
  intro H locs ls hH hS hl
  exact lv_ldc2 hx hb hown (hts _ hc) d (kk H locs ls hH hS hl)
theorem r_null (X : zX E G cc nL own rm)  (d : zd cc pc (.aconst_null) 1 nx)
    (kk : zW E G nL s n k nx L (.null :: st)) : zW E G nL s n k pc L (st) := by
  obtain ⟨p, l, e, R, u, m, args, below, meth, c, Q⟩ := E
  obtain ⟨hx, hb, hml, hown, hts, hK, hN, hlk, hB, rfl⟩ := X
  obtain ⟨d, rfl⟩ := d
  intro H locs ls hH hS hl
  exact lv_null hx hb d (kk H locs ls hH hS hl)
theorem r_iload_n (X : zX E G cc nL own rm) {i : Fin 4} {x : Int32} (hl : zlk L i = some (.int x)) (d : zd cc pc (.iload_n i) 1 nx)
    (kk : zW E G nL s n k nx L (.int x :: st)) : zW E G nL s n k pc L (st) := by
  obtain ⟨p, l, e, R, u, m, args, below, meth, c, Q⟩ := E
  obtain ⟨hx, hb, hml, hown, hts, hK, hN, hlk, hB, rfl⟩ := X
  obtain ⟨d, rfl⟩ := d
  intro H locs ls hH hS hl0
  exact lv_iload_n hx hb d rfl (zlk_at hl0 hl) (kk H locs ls hH hS hl0)
theorem r_iload (X : zX E G cc nL own rm) {i : Nat} {x : Int32} (hl : zlk L i = some (.int x)) (d : zd cc pc (.iload i) 2 nx)
    (kk : zW E G nL s n k nx L (.int x :: st)) : zW E G nL s n k pc L (st) := by
  obtain ⟨p, l, e, R, u, m, args, below, meth, c, Q⟩ := E
  obtain ⟨hx, hb, hml, hown, hts, hK, hN, hlk, hB, rfl⟩ := X
  obtain ⟨d, rfl⟩ := d
  intro H locs ls hH hS hl0
  exact lv_iload hx hb d (zlk_at hl0 hl) (kk H locs ls hH hS hl0)
theorem r_istore_n (X : zX E G cc nL own rm) {i : Fin 4} {x : Int32} (hi : (i : Nat) < nL) (d : zd cc pc (.istore_n i) 1 nx)
    (kk : zW E G nL s n k nx (zs1 L i (.int x)) (st)) : zW E G nL s n k pc L (.int x :: st) := by
  obtain ⟨p, l, e, R, u, m, args, below, meth, c, Q⟩ := E
  obtain ⟨hx, hb, hml, hown, hts, hK, hN, hlk, hB, rfl⟩ := X
  obtain ⟨d, rfl⟩ := d
  intro H locs ls hH hS hl
  exact lv_istore_n hx hb d rfl hl hi rfl (fun ls hl => kk H locs ls hH hS hl)
theorem r_istore (X : zX E G cc nL own rm) {i : Nat} {x : Int32} (hi : i < nL) (d : zd cc pc (.istore i) 2 nx)
    (kk : zW E G nL s n k nx (zs1 L i (.int x)) (st)) : zW E G nL s n k pc L (.int x :: st) := by
  obtain ⟨p, l, e, R, u, m, args, below, meth, c, Q⟩ := E
  obtain ⟨hx, hb, hml, hown, hts, hK, hN, hlk, hB, rfl⟩ := X
  obtain ⟨d, rfl⟩ := d
  intro H locs ls hH hS hl
  exact lv_istore hx hb d hl hi rfl (fun ls hl => kk H locs ls hH hS hl)
theorem r_lload_n (X : zX E G cc nL own rm) {i : Fin 4} {x : Int64} (hl : zlk L i = some (.long x)) (d : zd cc pc (.lload_n i) 1 nx)
    (kk : zW E G nL s n k nx L (.long x :: st)) : zW E G nL s n k pc L (st) := by
  obtain ⟨p, l, e, R, u, m, args, below, meth, c, Q⟩ := E
  obtain ⟨hx, hb, hml, hown, hts, hK, hN, hlk, hB, rfl⟩ := X
  obtain ⟨d, rfl⟩ := d
  intro H locs ls hH hS hl0
  exact lv_lload_n hx hb d rfl (zlk_at hl0 hl) (kk H locs ls hH hS hl0)
theorem r_lload (X : zX E G cc nL own rm) {i : Nat} {x : Int64} (hl : zlk L i = some (.long x)) (d : zd cc pc (.lload i) 2 nx)
    (kk : zW E G nL s n k nx L (.long x :: st)) : zW E G nL s n k pc L (st) := by
  obtain ⟨p, l, e, R, u, m, args, below, meth, c, Q⟩ := E
  obtain ⟨hx, hb, hml, hown, hts, hK, hN, hlk, hB, rfl⟩ := X
  obtain ⟨d, rfl⟩ := d
  intro H locs ls hH hS hl0
  exact lv_lload hx hb d (zlk_at hl0 hl) (kk H locs ls hH hS hl0)
theorem r_lstore_n (X : zX E G cc nL own rm) {i : Fin 4} {x : Int64} (hi : (i : Nat) + 1 < nL) (d : zd cc pc (.lstore_n i) 1 nx)
    (kk : zW E G nL s n k nx (zs2 L i (.long x)) (st)) : zW E G nL s n k pc L (.long x :: st) := by
  obtain ⟨p, l, e, R, u, m, args, below, meth, c, Q⟩ := E
  obtain ⟨hx, hb, hml, hown, hts, hK, hN, hlk, hB, rfl⟩ := X
  obtain ⟨d, rfl⟩ := d
  intro H locs ls hH hS hl
  exact lv_lstore_n hx hb d rfl hl hi rfl (fun ls hl => kk H locs ls hH hS hl)
theorem r_lstore (X : zX E G cc nL own rm) {i : Nat} {x : Int64} (hi : i + 1 < nL) (d : zd cc pc (.lstore i) 2 nx)
    (kk : zW E G nL s n k nx (zs2 L i (.long x)) (st)) : zW E G nL s n k pc L (.long x :: st) := by
  obtain ⟨p, l, e, R, u, m, args, below, meth, c, Q⟩ := E
  obtain ⟨hx, hb, hml, hown, hts, hK, hN, hlk, hB, rfl⟩ := X
  obtain ⟨d, rfl⟩ := d
  intro H locs ls hH hS hl
  exact lv_lstore hx hb d hl hi rfl (fun ls hl => kk H locs ls hH hS hl)
theorem r_aload_n (X : zX E G cc nL own rm) {i : Fin 4} {x : Nat} (hl : zlk L i = some (.ref x)) (d : zd cc pc (.aload_n i) 1 nx)
    (kk : zW E G nL s n k nx L (.ref x :: st)) : zW E G nL s n k pc L (st) := by
  obtain ⟨p, l, e, R, u, m, args, below, meth, c, Q⟩ := E
  obtain ⟨hx, hb, hml, hown, hts, hK, hN, hlk, hB, rfl⟩ := X
  obtain ⟨d, rfl⟩ := d
  intro H locs ls hH hS hl0
  exact lv_aload_n hx hb d rfl (zlk_at hl0 hl) (kk H locs ls hH hS hl0)
theorem r_aload (X : zX E G cc nL own rm) {i : Nat} {x : Nat} (hl : zlk L i = some (.ref x)) (d : zd cc pc (.aload i) 2 nx)
    (kk : zW E G nL s n k nx L (.ref x :: st)) : zW E G nL s n k pc L (st) := by
  obtain ⟨p, l, e, R, u, m, args, below, meth, c, Q⟩ := E
  obtain ⟨hx, hb, hml, hown, hts, hK, hN, hlk, hB, rfl⟩ := X
  obtain ⟨d, rfl⟩ := d
  intro H locs ls hH hS hl0
  exact lv_aload hx hb d (zlk_at hl0 hl) (kk H locs ls hH hS hl0)
theorem r_astore_n (X : zX E G cc nL own rm) {i : Fin 4} {x : Nat} (hi : (i : Nat) < nL) (d : zd cc pc (.astore_n i) 1 nx)
    (kk : zW E G nL s n k nx (zs1 L i (.ref x)) (st)) : zW E G nL s n k pc L (.ref x :: st) := by
  obtain ⟨p, l, e, R, u, m, args, below, meth, c, Q⟩ := E
  obtain ⟨hx, hb, hml, hown, hts, hK, hN, hlk, hB, rfl⟩ := X
  obtain ⟨d, rfl⟩ := d
  intro H locs ls hH hS hl
  exact lv_astore_n hx hb d rfl hl hi rfl (fun ls hl => kk H locs ls hH hS hl)
theorem r_astore (X : zX E G cc nL own rm) {i : Nat} {x : Nat} (hi : i < nL) (d : zd cc pc (.astore i) 2 nx)
    (kk : zW E G nL s n k nx (zs1 L i (.ref x)) (st)) : zW E G nL s n k pc L (.ref x :: st) := by
  obtain ⟨p, l, e, R, u, m, args, below, meth, c, Q⟩ := E
  obtain ⟨hx, hb, hml, hown, hts, hK, hN, hlk, hB, rfl⟩ := X
  obtain ⟨d, rfl⟩ := d
  intro H locs ls hH hS hl
  exact lv_astore hx hb d hl hi rfl (fun ls hl => kk H locs ls hH hS hl)
theorem r_aload_nN (X : zX E G cc nL own rm) {i : Fin 4} (hl : zlk L i = some .null) (d : zd cc pc (.aload_n i) 1 nx)
    (kk : zW E G nL s n k nx L (.null :: st)) : zW E G nL s n k pc L (st) := by
  obtain ⟨p, l, e, R, u, m, args, below, meth, c, Q⟩ := E
  obtain ⟨hx, hb, hml, hown, hts, hK, hN, hlk, hB, rfl⟩ := X
  obtain ⟨d, rfl⟩ := d
  intro H locs ls hH hS hl0
  exact lv_aload_nN hx hb d rfl (zlk_at hl0 hl) (kk H locs ls hH hS hl0)
theorem r_aloadN (X : zX E G cc nL own rm) {i : Nat} (hl : zlk L i = some .null) (d : zd cc pc (.aload i) 2 nx)
    (kk : zW E G nL s n k nx L (.null :: st)) : zW E G nL s n k pc L (st) := by
  obtain ⟨p, l, e, R, u, m, args, below, meth, c, Q⟩ := E
  obtain ⟨hx, hb, hml, hown, hts, hK, hN, hlk, hB, rfl⟩ := X
  obtain ⟨d, rfl⟩ := d
  intro H locs ls hH hS hl0
  exact lv_aloadN hx hb d (zlk_at hl0 hl) (kk H locs ls hH hS hl0)
theorem r_astore_nN (X : zX E G cc nL own rm) {i : Fin 4} (hi : (i : Nat) < nL) (d : zd cc pc (.astore_n i) 1 nx)
    (kk : zW E G nL s n k nx (zs1 L i .null) (st)) : zW E G nL s n k pc L (.null :: st) := by
  obtain ⟨p, l, e, R, u, m, args, below, meth, c, Q⟩ := E
  obtain ⟨hx, hb, hml, hown, hts, hK, hN, hlk, hB, rfl⟩ := X
  obtain ⟨d, rfl⟩ := d
  intro H locs ls hH hS hl
  exact lv_astore_nN hx hb d rfl hl hi rfl (fun ls hl => kk H locs ls hH hS hl)
theorem r_astoreN (X : zX E G cc nL own rm) {i : Nat} (hi : i < nL) (d : zd cc pc (.astore i) 2 nx)
    (kk : zW E G nL s n k nx (zs1 L i .null) (st)) : zW E G nL s n k pc L (.null :: st) := by
  obtain ⟨p, l, e, R, u, m, args, below, meth, c, Q⟩ := E
  obtain ⟨hx, hb, hml, hown, hts, hK, hN, hlk, hB, rfl⟩ := X
  obtain ⟨d, rfl⟩ := d
  intro H locs ls hH hS hl
  exact lv_astoreN hx hb d hl hi rfl (fun ls hl => kk H locs ls hH hS hl)
theorem zlk_pos {i : Nat} {v : Value} {L : List (Nat × Value)} (h : zlk L i = some v) : ∃ q : Nat, L[q]? = some (i, v) := List.getElem?_of_mem (zlk_mem h)
theorem r_iinc (X : zX E G cc nL own rm) {i : Nat} {c0 : Int} {x : Int32} (c1 : Int32) (hc : Int32.ofInt c0 = c1) (hl : zlk L i = some (.int x)) (hi : i < nL) (d : zd cc pc (.iinc i c0) 3 nx)
    (kk : zW E G nL s n k nx (zs1 L i (.int (x + c1))) (st)) : zW E G nL s n k pc L (st) := by
  obtain ⟨p, l, e, R, u, m, args, below, meth, c, Q⟩ := E
  obtain ⟨hx, hb, hml, hown, hts, hK, hN, hlk, hB, rfl⟩ := X
  obtain ⟨d, rfl⟩ := d
  intro H locs ls hH hS hl0
  obtain ⟨q, hq⟩ := zlk_pos hl
  exact lv_iinc hx hb d hl0 hq (by rw [hc]) hi rfl (fun ls hl => kk H locs ls hH hS hl)
theorem r_if_eq (X : zX E G cc nL own rm) {x : Int32} {off : Int} (tgt : Nat) (d : zd cc pc (.ifCond .eq off) 3 nx) (ht : (pc : Int) + off = (tgt : Int))
    (kt : x = 0 → zW E G nL s n k tgt L st) (kf : ¬ x = 0 → zW E G nL s n k nx L st) : zW E G nL s n k pc L (.int x :: st) := by
  obtain ⟨p, l, e, R, u, m, args, below, meth, c, Q⟩ := E
  obtain ⟨hx, hb, hml, hown, hts, hK, hN, hlk, hB, rfl⟩ := X
  obtain ⟨d, rfl⟩ := d
  intro H locs ls hH hS hl
  exact lv_if_eq hx hb d ht (fun h => kt h H locs ls hH hS hl) (fun h => kf h H locs ls hH hS hl)
theorem r_icmp_eq (X : zX E G cc nL own rm) {x y : Int32} {off : Int} (tgt : Nat) (d : zd cc pc (.if_icmp .eq off) 3 nx) (ht : (pc : Int) + off = (tgt : Int))
    (kt : x = y → zW E G nL s n k tgt L st) (kf : ¬ x = y → zW E G nL s n k nx L st) : zW E G nL s n k pc L (.int y :: .int x :: st) := by
  obtain ⟨p, l, e, R, u, m, args, below, meth, c, Q⟩ := E
  obtain ⟨hx, hb, hml, hown, hts, hK, hN, hlk, hB, rfl⟩ := X
  obtain ⟨d, rfl⟩ := d
  intro H locs ls hH hS hl
  exact lv_icmp_eq hx hb d ht (fun h => kt h H locs ls hH hS hl) (fun h => kf h H locs ls hH hS hl)
theorem r_if_ne (X : zX E G cc nL own rm) {x : Int32} {off : Int} (tgt : Nat) (d : zd cc pc (.ifCond .ne off) 3 nx) (ht : (pc : Int) + off = (tgt : Int))
    (kt : ¬ x = 0 → zW E G nL s n k tgt L st) (kf : x = 0 → zW E G nL s n k nx L st) : zW E G nL s n k pc L (.int x :: st) := by
  obtain ⟨p, l, e, R, u, m, args, below, meth, c, Q⟩ := E
  obtain ⟨hx, hb, hml, hown, hts, hK, hN, hlk, hB, rfl⟩ := X
  obtain ⟨d, rfl⟩ := d
  intro H locs ls hH hS hl
  exact lv_if_ne hx hb d ht (fun h => kt h H locs ls hH hS hl) (fun h => kf h H locs ls hH hS hl)
theorem r_icmp_ne (X : zX E G cc nL own rm) {x y : Int32} {off : Int} (tgt : Nat) (d : zd cc pc (.if_icmp .ne off) 3 nx) (ht : (pc : Int) + off = (tgt : Int))
    (kt : ¬ x = y → zW E G nL s n k tgt L st) (kf : x = y → zW E G nL s n k nx L st) : zW E G nL s n k pc L (.int y :: .int x :: st) := by
  obtain ⟨p, l, e, R, u, m, args, below, meth, c, Q⟩ := E
  obtain ⟨hx, hb, hml, hown, hts, hK, hN, hlk, hB, rfl⟩ := X
  obtain ⟨d, rfl⟩ := d
  intro H locs ls hH hS hl
  exact lv_icmp_ne hx hb d ht (fun h => kt h H locs ls hH hS hl) (fun h => kf h H locs ls hH hS hl)
theorem zlt {x y : Int32} : x < y ↔ x.toInt < y.toInt := Int32.lt_iff_toInt_lt
theorem zle {x y : Int32} : x ≤ y ↔ x.toInt ≤ y.toInt := Int32.le_iff_toInt_le
theorem r_if_lt (X : zX E G cc nL own rm) {x : Int32} {off : Int} (tgt : Nat) (d : zd cc pc (.ifCond .lt off) 3 nx) (ht : (pc : Int) + off = (tgt : Int))
    (kt : x.toInt < (0 : Int) → zW E G nL s n k tgt L st) (kf : (0 : Int) ≤ x.toInt → zW E G nL s n k nx L st) : zW E G nL s n k pc L (.int x :: st) := by
  obtain ⟨p, l, e, R, u, m, args, below, meth, c, Q⟩ := E
  obtain ⟨hx, hb, hml, hown, hts, hK, hN, hlk, hB, rfl⟩ := X
  obtain ⟨d, rfl⟩ := d
  intro H locs ls hH hS hl
  exact lv_if_lt hx hb d ht (fun h => kt (by rw [zlt] at h; simpa using h) H locs ls hH hS hl) (fun h => kf (by have h2 := mt zlt.mpr h; simp only [Int32.toInt_zero] at h2; omega) H locs ls hH hS hl)
theorem r_icmp_lt (X : zX E G cc nL own rm) {x y : Int32} {off : Int} (tgt : Nat) (d : zd cc pc (.if_icmp .lt off) 3 nx) (ht : (pc : Int) + off = (tgt : Int))
    (kt : x.toInt < y.toInt → zW E G nL s n k tgt L st) (kf : y.toInt ≤ x.toInt → zW E G nL s n k nx L st) : zW E G nL s n k pc L (.int y :: .int x :: st) := by
  obtain ⟨p, l, e, R, u, m, args, below, meth, c, Q⟩ := E
  obtain ⟨hx, hb, hml, hown, hts, hK, hN, hlk, hB, rfl⟩ := X
  obtain ⟨d, rfl⟩ := d
  intro H locs ls hH hS hl
  exact lv_icmp_lt hx hb d ht (fun h => kt (zlt.mp h) H locs ls hH hS hl) (fun h => kf (by have h2 := mt zlt.mpr h; omega) H locs ls hH hS hl)
theorem r_if_ge (X : zX E G cc nL own rm) {x : Int32} {off : Int} (tgt : Nat) (d : zd cc pc (.ifCond .ge off) 3 nx) (ht : (pc : Int) + off = (tgt : Int))
    (kt : (0 : Int) ≤ x.toInt → zW E G nL s n k tgt L st) (kf : x.toInt < (0 : Int) → zW E G nL s n k nx L st) : zW E G nL s n k pc L (.int x :: st) := by
  obtain ⟨p, l, e, R, u, m, args, below, meth, c, Q⟩ := E
  obtain ⟨hx, hb, hml, hown, hts, hK, hN, hlk, hB, rfl⟩ := X
  obtain ⟨d, rfl⟩ := d
  intro H locs ls hH hS hl
  exact lv_if_ge hx hb d ht (fun h => kt (by rw [zle] at h; simpa using h) H locs ls hH hS hl) (fun h => kf (by have h2 := mt zle.mpr h; simp only [Int32.toInt_zero] at h2; omega) H locs ls hH hS hl)
theorem r_icmp_ge (X : zX E G cc nL own rm) {x y : Int32} {off : Int} (tgt : Nat) (d : zd cc pc (.if_icmp .ge off) 3 nx) (ht : (pc : Int) + off = (tgt : Int))
    (kt : y.toInt ≤ x.toInt → zW E G nL s n k tgt L st) (kf : x.toInt < y.toInt → zW E G nL s n k nx L st) : zW E G nL s n k pc L (.int y :: .int x :: st) := by
  obtain ⟨p, l, e, R, u, m, args, below, meth, c, Q⟩ := E
  obtain ⟨hx, hb, hml, hown, hts, hK, hN, hlk, hB, rfl⟩ := X
  obtain ⟨d, rfl⟩ := d
  intro H locs ls hH hS hl
  exact lv_icmp_ge hx hb d ht (fun h => kt (zle.mp h) H locs ls hH hS hl) (fun h => kf (by have h2 := mt zle.mpr h; omega) H locs ls hH hS hl)
theorem r_if_gt (X : zX E G cc nL own rm) {x : Int32} {off : Int} (tgt : Nat) (d : zd cc pc (.ifCond .gt off) 3 nx) (ht : (pc : Int) + off = (tgt : Int))
    (kt : (0 : Int) < x.toInt → zW E G nL s n k tgt L st) (kf : x.toInt ≤ (0 : Int) → zW E G nL s n k nx L st) : zW E G nL s n k pc L (.int x :: st) := by
  obtain ⟨p, l, e, R, u, m, args, below, meth, c, Q⟩ := E
  obtain ⟨hx, hb, hml, hown, hts, hK, hN, hlk, hB, rfl⟩ := X
  obtain ⟨d, rfl⟩ := d
  intro H locs ls hH hS hl
  exact lv_if_gt hx hb d ht (fun h => kt (by rw [zlt] at h; simpa using h) H locs ls hH hS hl) (fun h => kf (by have h2 := mt zlt.mpr h; simp only [Int32.toInt_zero] at h2; omega) H locs ls hH hS hl)
theorem r_icmp_gt (X : zX E G cc nL own rm) {x y : Int32} {off : Int} (tgt : Nat) (d : zd cc pc (.if_icmp .gt off) 3 nx) (ht : (pc : Int) + off = (tgt : Int))
    (kt : y.toInt < x.toInt → zW E G nL s n k tgt L st) (kf : x.toInt ≤ y.toInt → zW E G nL s n k nx L st) : zW E G nL s n k pc L (.int y :: .int x :: st) := by
  obtain ⟨p, l, e, R, u, m, args, below, meth, c, Q⟩ := E
  obtain ⟨hx, hb, hml, hown, hts, hK, hN, hlk, hB, rfl⟩ := X
  obtain ⟨d, rfl⟩ := d
  intro H locs ls hH hS hl
  exact lv_icmp_gt hx hb d ht (fun h => kt (zlt.mp h) H locs ls hH hS hl) (fun h => kf (by have h2 := mt zlt.mpr h; omega) H locs ls hH hS hl)
theorem r_if_le (X : zX E G cc nL own rm) {x : Int32} {off : Int} (tgt : Nat) (d : zd cc pc (.ifCond .le off) 3 nx) (ht : (pc : Int) + off = (tgt : Int))
    (kt : x.toInt ≤ (0 : Int) → zW E G nL s n k tgt L st) (kf : (0 : Int) < x.toInt → zW E G nL s n k nx L st) : zW E G nL s n k pc L (.int x :: st) := by
  obtain ⟨p, l, e, R, u, m, args, below, meth, c, Q⟩ := E
  obtain ⟨hx, hb, hml, hown, hts, hK, hN, hlk, hB, rfl⟩ := X
  obtain ⟨d, rfl⟩ := d
  intro H locs ls hH hS hl
  exact lv_if_le hx hb d ht (fun h => kt (by rw [zle] at h; simpa using h) H locs ls hH hS hl) (fun h => kf (by have h2 := mt zle.mpr h; simp only [Int32.toInt_zero] at h2; omega) H locs ls hH hS hl)
theorem r_icmp_le (X : zX E G cc nL own rm) {x y : Int32} {off : Int} (tgt : Nat) (d : zd cc pc (.if_icmp .le off) 3 nx) (ht : (pc : Int) + off = (tgt : Int))
    (kt : x.toInt ≤ y.toInt → zW E G nL s n k tgt L st) (kf : y.toInt < x.toInt → zW E G nL s n k nx L st) : zW E G nL s n k pc L (.int y :: .int x :: st) := by
  obtain ⟨p, l, e, R, u, m, args, below, meth, c, Q⟩ := E
  obtain ⟨hx, hb, hml, hown, hts, hK, hN, hlk, hB, rfl⟩ := X
  obtain ⟨d, rfl⟩ := d
  intro H locs ls hH hS hl
  exact lv_icmp_le hx hb d ht (fun h => kt (zle.mp h) H locs ls hH hS hl) (fun h => kf (by have h2 := mt zle.mpr h; omega) H locs ls hH hS hl)
theorem zcmp_t (x y : Int64) : (lg_cmp x y).toInt = if y.toInt < x.toInt then 1 else if x.toInt = y.toInt then 0 else -1 := by
  unfold lg_cmp
  simp only [gt_iff_lt, Int64.lt_iff_toInt_lt, ← Int64.toInt_inj]
  split
  · rfl
  · split <;> rfl
theorem zcmp_0 (x y : Int64) : lg_cmp x y = 0 ↔ x.toInt = y.toInt := by
  rw [← Int32.toInt_inj, zcmp_t]
  simp only [Int32.toInt_zero]
  split
  · constructor <;> intro h <;> omega
  · split
    · constructor <;> intro h <;> omega
    · constructor <;> intro h <;> omega
theorem r_lcmp_lt (X : zX E G cc nL own rm) {x y : Int64} {off : Int} {p1 : Nat} (tgt : Nat) (d1 : zd cc pc .lcmp 1 p1) (d2 : zd cc p1 (.ifCond .lt off) 3 nx) (ht : (p1 : Int) + off = (tgt : Int))
    (kt : x.toInt < y.toInt → zW E G nL s n k tgt L st) (kf : y.toInt ≤ x.toInt → zW E G nL s n k nx L st) : zW E G nL s n k pc L (.long y :: .long x :: st) := by
  have h0 := zcmp_t x y
  have h00 := zcmp_0 x y
  have hw : zW E G nL s n k p1 L (.int (lg_cmp x y) :: st) := r_if_lt X tgt d2 ht (fun h => kt (by rw [h0] at h; (repeat' split at h) <;> omega)) (fun h => kf (by rw [h0] at h; (repeat' split at h) <;> omega))
  obtain ⟨p, l, e, R, u, m, args, below, meth, c, Q⟩ := E
  obtain ⟨hx, hb, hml, hown, hts, hK, hN, hlk, hB, rfl⟩ := X
  obtain ⟨d, rfl⟩ := d1
  intro H locs ls hH hS hl
  exact W.lcmp hx hb d (hw H locs ls hH hS hl)
theorem r_lcmp_ge (X : zX E G cc nL own rm) {x y : Int64} {off : Int} {p1 : Nat} (tgt : Nat) (d1 : zd cc pc .lcmp 1 p1) (d2 : zd cc p1 (.ifCond .ge off) 3 nx) (ht : (p1 : Int) + off = (tgt : Int))
    (kt : y.toInt ≤ x.toInt → zW E G nL s n k tgt L st) (kf : x.toInt < y.toInt → zW E G nL s n k nx L st) : zW E G nL s n k pc L (.long y :: .long x :: st) := by
  have h0 := zcmp_t x y
  have h00 := zcmp_0 x y
  have hw : zW E G nL s n k p1 L (.int (lg_cmp x y) :: st) := r_if_ge X tgt d2 ht (fun h => kt (by rw [h0] at h; (repeat' split at h) <;> omega)) (fun h => kf (by rw [h0] at h; (repeat' split at h) <;> omega))
  obtain ⟨p, l, e, R, u, m, args, below, meth, c, Q⟩ := E
  obtain ⟨hx, hb, hml, hown, hts, hK, hN, hlk, hB, rfl⟩ := X
  obtain ⟨d, rfl⟩ := d1
  intro H locs ls hH hS hl
  exact W.lcmp hx hb d (hw H locs ls hH hS hl)
theorem r_lcmp_gt (X : zX E G cc nL own rm) {x y : Int64} {off : Int} {p1 : Nat} (tgt : Nat) (d1 : zd cc pc .lcmp 1 p1) (d2 : zd cc p1 (.ifCond .gt off) 3 nx) (ht : (p1 : Int) + off = (tgt : Int))
    (kt : y.toInt < x.toInt → zW E G nL s n k tgt L st) (kf : x.toInt ≤ y.toInt → zW E G nL s n k nx L st) : zW E G nL s n k pc L (.long y :: .long x :: st) := by
  have h0 := zcmp_t x y
  have h00 := zcmp_0 x y
  have hw : zW E G nL s n k p1 L (.int (lg_cmp x y) :: st) := r_if_gt X tgt d2 ht (fun h => kt (by rw [h0] at h; (repeat' split at h) <;> omega)) (fun h => kf (by rw [h0] at h; (repeat' split at h) <;> omega))
  obtain ⟨p, l, e, R, u, m, args, below, meth, c, Q⟩ := E
  obtain ⟨hx, hb, hml, hown, hts, hK, hN, hlk, hB, rfl⟩ := X
  obtain ⟨d, rfl⟩ := d1
  intro H locs ls hH hS hl
  exact W.lcmp hx hb d (hw H locs ls hH hS hl)
theorem r_lcmp_le (X : zX E G cc nL own rm) {x y : Int64} {off : Int} {p1 : Nat} (tgt : Nat) (d1 : zd cc pc .lcmp 1 p1) (d2 : zd cc p1 (.ifCond .le off) 3 nx) (ht : (p1 : Int) + off = (tgt : Int))
    (kt : x.toInt ≤ y.toInt → zW E G nL s n k tgt L st) (kf : y.toInt < x.toInt → zW E G nL s n k nx L st) : zW E G nL s n k pc L (.long y :: .long x :: st) := by
  have h0 := zcmp_t x y
  have h00 := zcmp_0 x y
  have hw : zW E G nL s n k p1 L (.int (lg_cmp x y) :: st) := r_if_le X tgt d2 ht (fun h => kt (by rw [h0] at h; (repeat' split at h) <;> omega)) (fun h => kf (by rw [h0] at h; (repeat' split at h) <;> omega))
  obtain ⟨p, l, e, R, u, m, args, below, meth, c, Q⟩ := E
  obtain ⟨hx, hb, hml, hown, hts, hK, hN, hlk, hB, rfl⟩ := X
  obtain ⟨d, rfl⟩ := d1
  intro H locs ls hH hS hl
  exact W.lcmp hx hb d (hw H locs ls hH hS hl)
theorem r_lcmp_eq (X : zX E G cc nL own rm) {x y : Int64} {off : Int} {p1 : Nat} (tgt : Nat) (d1 : zd cc pc .lcmp 1 p1) (d2 : zd cc p1 (.ifCond .eq off) 3 nx) (ht : (p1 : Int) + off = (tgt : Int))
    (kt : x.toInt = y.toInt → zW E G nL s n k tgt L st) (kf : ¬ x.toInt = y.toInt → zW E G nL s n k nx L st) : zW E G nL s n k pc L (.long y :: .long x :: st) := by
  have h0 := zcmp_t x y
  have h00 := zcmp_0 x y
  have hw : zW E G nL s n k p1 L (.int (lg_cmp x y) :: st) := r_if_eq X tgt d2 ht (fun h => kt (h00.mp h)) (fun h => kf (fun q => h (h00.mpr q)))
  obtain ⟨p, l, e, R, u, m, args, below, meth, c, Q⟩ := E
  obtain ⟨hx, hb, hml, hown, hts, hK, hN, hlk, hB, rfl⟩ := X
  obtain ⟨d, rfl⟩ := d1
  intro H locs ls hH hS hl
  exact W.lcmp hx hb d (hw H locs ls hH hS hl)
theorem r_lcmp_ne (X : zX E G cc nL own rm) {x y : Int64} {off : Int} {p1 : Nat} (tgt : Nat) (d1 : zd cc pc .lcmp 1 p1) (d2 : zd cc p1 (.ifCond .ne off) 3 nx) (ht : (p1 : Int) + off = (tgt : Int))
    (kt : ¬ x.toInt = y.toInt → zW E G nL s n k tgt L st) (kf : x.toInt = y.toInt → zW E G nL s n k nx L st) : zW E G nL s n k pc L (.long y :: .long x :: st) := by
  have h0 := zcmp_t x y
  have h00 := zcmp_0 x y
  have hw : zW E G nL s n k p1 L (.int (lg_cmp x y) :: st) := r_if_ne X tgt d2 ht (fun h => kt (fun q => h (h00.mpr q))) (fun h => kf (h00.mp h))
  obtain ⟨p, l, e, R, u, m, args, below, meth, c, Q⟩ := E
  obtain ⟨hx, hb, hml, hown, hts, hK, hN, hlk, hB, rfl⟩ := X
  obtain ⟨d, rfl⟩ := d1
  intro H locs ls hH hS hl
  exact W.lcmp hx hb d (hw H locs ls hH hS hl)
theorem r_goto (X : zX E G cc nL own rm) {off : Int} (tgt : Nat) (d : zd cc pc (.goto off) 3 nx) (ht : (pc : Int) + off = (tgt : Int)) (kk : zW E G nL s n k tgt L st) : zW E G nL s n k pc L st := by
  obtain ⟨p, l, e, R, u, m, args, below, meth, c, Q⟩ := E
  obtain ⟨hx, hb, hml, hown, hts, hK, hN, hlk, hB, rfl⟩ := X
  obtain ⟨d, rfl⟩ := d
  intro H locs ls hH hS hl
  exact lv_goto hx hb d ht (kk H locs ls hH hS hl)
theorem r_ifnull (X : zX E G cc nL own rm) {x : Nat} {off : Int} (d : zd cc pc (.ifnull off) 3 nx) (kk : zW E G nL s n k nx L st) : zW E G nL s n k pc L (.ref x :: st) := by
  obtain ⟨p, l, e, R, u, m, args, below, meth, c, Q⟩ := E
  obtain ⟨hx, hb, hml, hown, hts, hK, hN, hlk, hB, rfl⟩ := X
  obtain ⟨d, rfl⟩ := d
  intro H locs ls hH hS hl
  exact lv_ifnull hx hb d (kk H locs ls hH hS hl)
theorem r_ifnullN (X : zX E G cc nL own rm) {off : Int} (tgt : Nat) (d : zd cc pc (.ifnull off) 3 nx) (ht : (pc : Int) + off = (tgt : Int)) (kk : zW E G nL s n k tgt L st) : zW E G nL s n k pc L (.null :: st) := by
  obtain ⟨p, l, e, R, u, m, args, below, meth, c, Q⟩ := E
  obtain ⟨hx, hb, hml, hown, hts, hK, hN, hlk, hB, rfl⟩ := X
  obtain ⟨d, rfl⟩ := d
  intro H locs ls hH hS hl
  exact lv_ifnullN hx hb d ht (kk H locs ls hH hS hl)
theorem r_ifnonnull (X : zX E G cc nL own rm) {x : Nat} {off : Int} (tgt : Nat) (d : zd cc pc (.ifnonnull off) 3 nx) (ht : (pc : Int) + off = (tgt : Int)) (kk : zW E G nL s n k tgt L st) : zW E G nL s n k pc L (.ref x :: st) := by
  obtain ⟨p, l, e, R, u, m, args, below, meth, c, Q⟩ := E
  obtain ⟨hx, hb, hml, hown, hts, hK, hN, hlk, hB, rfl⟩ := X
  obtain ⟨d, rfl⟩ := d
  intro H locs ls hH hS hl
  exact lv_ifnonnull hx hb d ht (kk H locs ls hH hS hl)
theorem r_ifnonnullN (X : zX E G cc nL own rm) {off : Int} (d : zd cc pc (.ifnonnull off) 3 nx) (kk : zW E G nL s n k nx L st) : zW E G nL s n k pc L (.null :: st) := by
  obtain ⟨p, l, e, R, u, m, args, below, meth, c, Q⟩ := E
  obtain ⟨hx, hb, hml, hown, hts, hK, hN, hlk, hB, rfl⟩ := X
  obtain ⟨d, rfl⟩ := d
  intro H locs ls hH hS hl
  exact lv_ifnonnullN hx hb d (kk H locs ls hH hS hl)
theorem r_tableIn (X : zX E G cc nL own rm) {dflt lo hi : Int} {offs : Array Int} {len : Nat} {x : Int32} {off j0 : Int} (tgt : Nat) (d : zd cc pc (.tableswitch dflt lo hi offs) len nx) (hx0 : x.toInt = lo + j0) (ho : offs[(j0 : Int).toNat]? = some off) (h0 : 0 ≤ j0) (h1 : lo + j0 ≤ hi) (ht : (pc : Int) + off = (tgt : Int)) (kk : zW E G nL s n k tgt L st) : zW E G nL s n k pc L (.int x :: st) := by
  obtain ⟨p, l, e, R, u, m, args, below, meth, c, Q⟩ := E
  obtain ⟨hx, hb, hml, hown, hts, hK, hN, hlk, hB, rfl⟩ := X
  obtain ⟨d, rfl⟩ := d
  intro H locs ls hH hS hl
  exact lv_tableIn hx hb d (by omega) (by omega) (by rw [show (x.toInt - lo) = j0 by omega]; exact ho) ht (kk H locs ls hH hS hl)
theorem r_tableOut (X : zX E G cc nL own rm) {dflt lo hi : Int} {offs : Array Int} {len : Nat} {x : Int32} (tgt : Nat) (d : zd cc pc (.tableswitch dflt lo hi offs) len nx) (h : x.toInt < lo ∨ hi < x.toInt) (ht : (pc : Int) + dflt = (tgt : Int)) (kk : zW E G nL s n k tgt L st) : zW E G nL s n k pc L (.int x :: st) := by
  obtain ⟨p, l, e, R, u, m, args, below, meth, c, Q⟩ := E
  obtain ⟨hx, hb, hml, hown, hts, hK, hN, hlk, hB, rfl⟩ := X
  obtain ⟨d, rfl⟩ := d
  intro H locs ls hH hS hl
  exact lv_tableOut hx hb d h ht (kk H locs ls hH hS hl)
theorem zW.sub {L2 : List (Nat × Value)} (h : ∀ q ∈ L2, q ∈ L) (kk : zW E G nL s n k pc L2 st) : zW E G nL s n k pc L st := by
  obtain ⟨p, l, e, R, u, m, args, below, meth, c, Q⟩ := E
  intro H locs ls hH hS hl
  exact kk H locs ls hH hS ⟨hl.1, hl.2.1, fun q hq => hl.2.2 q (h q hq)⟩
def zlks (L : List (Nat × Value)) : List (Nat × Value) → Prop
  | [] => True
  | (i, v) :: t => zlk L i = some v ∧ zlks L t
theorem zlks_mem {L : List (Nat × Value)} : ∀ {L2 : List (Nat × Value)}, zlks L L2 → ∀ q ∈ L2, q ∈ L
  | [], _, q, h => absurd h List.not_mem_nil
  | (i, v) :: t, h, q, hq => by
    rcases List.mem_cons.mp hq with rfl | hq
    · exact zlk_mem h.1
    · exact zlks_mem h.2 q hq
theorem zW.loc (L2 : List (Nat × Value)) (h : zlks L L2) (kk : zW E G nL s n k pc L2 st) : zW E G nL s n k pc L st := zW.sub (zlks_mem h) kk
theorem zW.widen {n2 k2 : Nat} (h1 : n ≤ n2) (h2 : k ≤ k2) (kk : zW E G nL s n2 k2 pc L st) : zW E G nL s n k pc L st := by
  obtain ⟨p, l, e, R, u, m, args, below, meth, c, Q⟩ := E
  intro H locs ls hH hS hl
  exact W.widen h1 h2 (kk H locs ls hH hS hl)
end ZR
end
section
/-! ROWS that touch the store -/
theorem zc_obj {G : zG} {z : Nat} {τ : Nat → Option (Nat × Nat)} {ρ : Nat → Nat → Option Nat} {ι : Nat → Nat → Int32} {κ : Nat → Nat → Int64} {a t N : Nat} (h : τ a = some (t, N)) (ht : t < 13) : zc G (z, τ, ρ, ι, κ) a = .inr (t, zfs t (ρ a) (ι a) (κ a)) := by
  simp only [zc, h, if_pos ht]
theorem zc_int {G : zG} {z : Nat} {τ : Nat → Option (Nat × Nat)} {ρ : Nat → Nat → Option Nat} {ι : Nat → Nat → Int32} {κ : Nat → Nat → Int64} {a N : Nat} (h : τ a = some (13, N)) : zc G (z, τ, ρ, ι, κ) a = .inl (G.2.1 0, N, .inl (ι a)) := by
  simp [zc, h]
theorem zc_long {G : zG} {z : Nat} {τ : Nat → Option (Nat × Nat)} {ρ : Nat → Nat → Option Nat} {ι : Nat → Nat → Int32} {κ : Nat → Nat → Int64} {a N : Nat} (h : τ a = some (14, N)) : zc G (z, τ, ρ, ι, κ) a = .inl (G.2.1 1, N, .inr (.inl (κ a))) := by
  simp [zc, h]
theorem zc_bool {G : zG} {z : Nat} {τ : Nat → Option (Nat × Nat)} {ρ : Nat → Nat → Option Nat} {ι : Nat → Nat → Int32} {κ : Nat → Nat → Int64} {a N : Nat} (h : τ a = some (15, N)) : zc G (z, τ, ρ, ι, κ) a = .inl (G.2.1 2, N, .inl (ι a)) := by
  simp [zc, h]
theorem zc_ref {G : zG} {z : Nat} {τ : Nat → Option (Nat × Nat)} {ρ : Nat → Nat → Option Nat} {ι : Nat → Nat → Int32} {κ : Nat → Nat → Int64} {a t N : Nat} (h : τ a = some (t, N)) (ht : 16 ≤ t) : zc G (z, τ, ρ, ι, κ) a = .inl (G.2.1 (t - 13), N, .inr (.inr (.inr (.inr (ρ a))))) := by
  simp only [zc, h]
  rw [if_neg (by omega), if_neg (by omega), if_neg (by omega), if_neg (by omega)]
theorem zfs_get {t k : Nat} {r : Nat → Option Nat} {i : Nat → Int32} {j : Nat → Int64} (hk : k < zn t) : (zfs t r i j)[k]? = some (zv (zkd t k) (r k) (i k) (j k)) := by
  simp [zfs, List.getElem?_map, List.getElem?_range hk]
theorem zfs_len {t : Nat} {r : Nat → Option Nat} {i : Nat → Int32} {j : Nat → Int64} : (zfs t r i j).length = zn t := by simp [zfs]
theorem zfs_set {t k : Nat} {r r2 : Nat → Option Nat} {i i2 : Nat → Int32} {j j2 : Nat → Int64} {v : Value} (hv : zv (zkd t k) (r2 k) (i2 k) (j2 k) = v) (ho : ∀ q, q ≠ k → r2 q = r q ∧ i2 q = i q ∧ j2 q = j q) : zfs t r2 i2 j2 = (zfs t r i j).set k v := by
  apply List.ext_getElem?
  intro q
  by_cases hq : q < zn t
  · by_cases e : q = k
    · subst e
      rw [zfs_get hq, List.getElem?_set_self (by rw [zfs_len]; exact hq), hv]
    · rw [zfs_get hq, List.getElem?_set_ne (Ne.symm e), zfs_get hq, (ho q e).1, (ho q e).2.1, (ho q e).2.2]
  · rw [List.getElem?_eq_none (by rw [zfs_len]; omega), List.getElem?_eq_none (by rw [List.length_set, zfs_len]; omega)]
theorem zsing {D : va_G} {cl : List vw_C} {q : Nat × va_E} {H : Heap} (h : va_at D cl q H) : va_P D cl [q] H := fun k x hx => by
  have hk : k < 1 := (List.getElem?_eq_some_iff.mp hx).1
  rw [show k = 0 by omega] at hx
  cases hx
  exact h
/-- one cell of the store is another -/
def zUp (G : zG) (s s2 : zS) (a : Nat) (e : va_E) : Prop := s2.1 = s.1 ∧ s2.2.1 = s.2.1 ∧ (∀ b, b ≠ a → zc G s2 b = zc G s b ∧ s2.2.2.1 b = s.2.2.1 b ∧ s2.2.2.2.1 b = s.2.2.2.1 b ∧ s2.2.2.2.2 b = s.2.2.2.2 b) ∧ zc G s2 a = e
theorem zH_lt {G : zG} {s : zS} {H : Heap} {a : Nat} (hH : zH G s H) (ha : s.2.1 a ≠ none) : a < s.1 := by
  have := (hH.2.2.1 a ha).2.lt
  rw [← hH.1]; exact this
theorem zH_up {G : zG} {s s2 : zS} {H H1 : Heap} {a : Nat} {e : va_E} (hH : zH G s H) (ha : s.2.1 a ≠ none) (hu : zUp G s s2 a e) (hat : va_at G.1 vwCl (a, e) H1) (hz : H1.size = H.size) (oq : ∀ q : Nat, q ≠ a → H1[q]? = H[q]?) : zH G s2 H1 := by
  obtain ⟨u1, u2, u3, u4⟩ := hu
  have hlt := zH_lt hH ha
  refine ⟨by rw [hz, hH.1, u1], by rw [u1]; exact hH.2.1, fun b hb => ?_, fun b hb => ?_⟩
  · rw [u2] at hb
    refine ⟨(hH.2.2.1 b hb).1, ?_⟩
    by_cases e2 : b = a
    · subst e2
      rw [u4]; exact hat
    · rw [(u3 b e2).1]
      exact (hH.2.2.1 b hb).2.kept (oq b e2)
  · rw [u1] at hb
    have e2 : b ≠ a := by omega
    have h := hH.2.2.2 b hb
    exact ⟨by rw [u2]; exact h.1, by rw [(u3 b e2).2.1]; exact h.2.1, by rw [(u3 b e2).2.2.1]; exact h.2.2.1, by rw [(u3 b e2).2.2.2]; exact h.2.2.2⟩
theorem zc_congr {G : zG} {z : Nat} {τ : Nat → Option (Nat × Nat)} {ρ ρ2 : Nat → Nat → Option Nat} {ι ι2 : Nat → Nat → Int32} {κ κ2 : Nat → Nat → Int64} {b : Nat} (h1 : ρ2 b = ρ b) (h2 : ι2 b = ι b) (h3 : κ2 b = κ b) : zc G (z, τ, ρ2, ι2, κ2) b = zc G (z, τ, ρ, ι, κ) b := by
  simp only [zc, h1, h2, h3]
section ZH
variable {E : zE} {G : zG} {cc : ByteArray} {nL : Nat} {own : String} {rm : Room} {n k pc nx : Nat} {L : List (Nat × Value)} {st : List Value} {z : Nat} {τ : Nat → Option (Nat × Nat)} {ρ : Nat → Nat → Option Nat} {ι : Nat → Nat → Int32} {κ : Nat → Nat → Int64} {a t N i j : Nat}
theorem zUp_I {v : Int32} (hτ : τ a = some (t, N)) (ht : t < 13) (hk : zkd t j = 0) : zUp G (z, τ, ρ, ι, κ) (z, τ, ρ, zu ι a j v, κ) a (.inr (t, (zfs t (ρ a) (ι a) (κ a)).set j (.int v))) :=
  ⟨rfl, rfl, fun b hb => ⟨zc_congr rfl (zu_r hb) rfl, rfl, zu_r hb, rfl⟩, by
    rw [zc_obj hτ ht]
    exact congrArg (fun x => Sum.inr (t, x)) (zfs_set (by rw [hk]; exact congrArg Value.int zu_s) (fun q hq => ⟨rfl, zu_k hq, rfl⟩))⟩
theorem zUp_J {v : Int64} (hτ : τ a = some (t, N)) (ht : t < 13) (hk : zkd t j = 1) : zUp G (z, τ, ρ, ι, κ) (z, τ, ρ, ι, zu κ a j v) a (.inr (t, (zfs t (ρ a) (ι a) (κ a)).set j (.long v))) :=
  ⟨rfl, rfl, fun b hb => ⟨zc_congr rfl rfl (zu_r hb), rfl, rfl, zu_r hb⟩, by
    rw [zc_obj hτ ht]
    exact congrArg (fun x => Sum.inr (t, x)) (zfs_set (by rw [hk]; exact congrArg Value.long zu_s) (fun q hq => ⟨rfl, rfl, zu_k hq⟩))⟩
theorem zUp_R {v : Option Nat} (hτ : τ a = some (t, N)) (ht : t < 13) (hk : zkd t j = 2) : zUp G (z, τ, ρ, ι, κ) (z, τ, zu ρ a j v, ι, κ) a (.inr (t, (zfs t (ρ a) (ι a) (κ a)).set j (va_rf v))) :=
  ⟨rfl, rfl, fun b hb => ⟨zc_congr (zu_r hb) rfl rfl, zu_r hb, rfl, rfl⟩, by
    rw [zc_obj hτ ht]
    exact congrArg (fun x => Sum.inr (t, x)) (zfs_set (by rw [hk]; exact congrArg va_rf zu_s) (fun q hq => ⟨zu_k hq, rfl, rfl⟩))⟩
theorem zgetG (X : zX E G cc nL own rm) {kd : Nat} {v : Value} (d : zd cc pc (.getfield i) 3 nx) (f : zF own i t j kd) (hτ : τ a = some (t, N)) (hv : zv kd (ρ a j) (ι a j) (κ a j) = v) (kk : zW E G nL (z, τ, ρ, ι, κ) n k nx L (v :: st)) : zW E G nL (z, τ, ρ, ι, κ) n k pc L (.ref a :: st) := by
  obtain ⟨p, l, e, R, u, m, args, below, meth, c, Q⟩ := E
  obtain ⟨hx, hb, hml, hown, hts, hK, hN, hlk, hB, rfl⟩ := X
  obtain ⟨d, rfl⟩ := d
  obtain ⟨ht, ⟨c1, c2, c3, c4, c5⟩, hk, hkd, hlink⟩ := f
  intro H locs ls hH hS hl
  have hat := (hH.2.2.1 a (show τ a ≠ none by rw [hτ]; simp)).2
  rw [zc_obj hτ ht] at hat
  refine va_get (D := G.1) (cl := vwCl) (C := (zr t).1) (T := (zr t).2.1) (N := (zr t).2.2) hx hb hts c5 hown hK (zsing hat) 0 rfl c1 j hk (hts _ hlink) (fun _ h => h) (v := v) ?_ d (kk H locs ls hH hS hl)
  rw [zfs_get (by rw [c2]; exact hk), hkd, hv]
theorem r_getI (X : zX E G cc nL own rm) (d : zd cc pc (.getfield i) 3 nx) (f : zF own i t j 0) (hτ : τ a = some (t, N)) (kk : zW E G nL (z, τ, ρ, ι, κ) n k nx L (.int (ι a j) :: st)) : zW E G nL (z, τ, ρ, ι, κ) n k pc L (.ref a :: st) := zgetG X d f hτ rfl kk
theorem r_getJ (X : zX E G cc nL own rm) (d : zd cc pc (.getfield i) 3 nx) (f : zF own i t j 1) (hτ : τ a = some (t, N)) (kk : zW E G nL (z, τ, ρ, ι, κ) n k nx L (.long (κ a j) :: st)) : zW E G nL (z, τ, ρ, ι, κ) n k pc L (.ref a :: st) := zgetG X d f hτ rfl kk
theorem r_getR (X : zX E G cc nL own rm) {b : Nat} (d : zd cc pc (.getfield i) 3 nx) (f : zF own i t j 2) (hτ : τ a = some (t, N)) (hρ : ρ a j = some b) (kk : zW E G nL (z, τ, ρ, ι, κ) n k nx L (.ref b :: st)) : zW E G nL (z, τ, ρ, ι, κ) n k pc L (.ref a :: st) := zgetG X d f hτ (by rw [hρ]; rfl) kk
theorem zputG (X : zX E G cc nL own rm) {kd : Nat} {v : Value} {s2 : zS} (d : zd cc pc (.putfield i) 3 nx) (f : zF own i t j kd) (hτ : τ a = some (t, N)) (hfin : ((zr t).2.1 j).2.2.2 = false) (hn : narrow (zty t j) v = v) (hfit : fits (zty t j) v = true) (hu : zUp G (z, τ, ρ, ι, κ) s2 a (.inr (t, (zfs t (ρ a) (ι a) (κ a)).set j v))) (kk : zW E G nL s2 n k nx L st) : zW E G nL (z, τ, ρ, ι, κ) n k pc L (v :: .ref a :: st) := by
  obtain ⟨p, l, e, R, u, m, args, below, meth, c, Q⟩ := E
  obtain ⟨hx, hb, hml, hown, hts, hK, hN, hlk, hB, rfl⟩ := X
  obtain ⟨d, rfl⟩ := d
  obtain ⟨ht, ⟨c1, c2, c3, c4, c5⟩, hk, hkd, hlink⟩ := f
  intro H locs ls hH hS hl
  have ha : τ a ≠ none := by rw [hτ]; simp
  obtain ⟨hA, hat⟩ := hH.2.2.1 a ha
  rw [zc_obj hτ ht] at hat
  have hap := va_apart (own := own) (C := (zr t).1) (T := (zr t).2.1) (N := (zr t).2.2) hts c5 (zty t) c3 c4 hK c1
  obtain ⟨r, h1, cell, q1, q2, q3, q4⟩ := hat
  obtain rfl : r = zr t := Option.some.inj (h1.symm.trans c1)
  obtain ⟨hSl, hfc, kC, hkC, hkind⟩ := hK.1 t _ c1
  obtain ⟨cf, kf, fi, f2, hi, hsl⟩ := hSl j hk
  have hlay := hts _ (c5 _ (u_in_lay hk))
  unfold u_lay at hlay
  rw [if_neg (by rw [hfin]; decide)] at hlay
  have hst := (u_facts hfc hkC (u_lays hts c5 hk) hi).1
  have h6 := u_store hfc hkC hkind hlay hi (c3 j hk) hn hfit
  refine W.putK hx hb (f := f2) ⟨hown, hts _ hlink, ⟨_, _, _, hi⟩, hst⟩ (by rw [q2]; exact h6) q1 q3 (by rw [hsl]; exact k2_hasslot (q4 j hk)) rfl rfl d fun H' e1 e2 e3 => ?_
  rw [hsl] at e1 ⊢
  exact kk H' _ ls (zH_up hH ha hu ⟨_, c1, t_OB.to (V := updV (vp_V (zfs t (ρ a) (ι a) (κ a))) j v) ⟨_, e1, q2, q3, t_set q4 hap hk v⟩ (fun q _ => vp_updV_set (by rw [zfs_len, c2]; exact hk) v q)⟩ e2 e3) (hS.put e2 e3 hA) hl
theorem r_putI (X : zX E G cc nL own rm) {v : Int32} (d : zd cc pc (.putfield i) 3 nx) (f : zF own i t j 0) (hτ : τ a = some (t, N)) (hfin : ((zr t).2.1 j).2.2.2 = false) (hty : zty t j = .int) (kk : zW E G nL (z, τ, ρ, zu ι a j v, κ) n k nx L st) : zW E G nL (z, τ, ρ, ι, κ) n k pc L (.int v :: .ref a :: st) :=
  zputG X d f hτ hfin (by rw [hty]; rfl) (by rw [hty]; rfl) (zUp_I hτ f.1 f.2.2.2.1) kk
theorem r_putJ (X : zX E G cc nL own rm) {v : Int64} (d : zd cc pc (.putfield i) 3 nx) (f : zF own i t j 1) (hτ : τ a = some (t, N)) (hfin : ((zr t).2.1 j).2.2.2 = false) (hty : zty t j = .long) (kk : zW E G nL (z, τ, ρ, ι, zu κ a j v) n k nx L st) : zW E G nL (z, τ, ρ, ι, κ) n k pc L (.long v :: .ref a :: st) :=
  zputG X d f hτ hfin (by rw [hty]; rfl) (by rw [hty]; rfl) (zUp_J hτ f.1 f.2.2.2.1) kk
theorem zputF (X : zX E G cc nL own rm) {P : Option Value → zS → Prop} {mc ms : Nat} {ret : Option FieldType} (hin : E.2.2.2.2.2.2.2.2.1.name = "<init>") {kd : Nat} {v : Value} {s2 : zS} (d : zd cc pc (.putfield i) 3 nx) (f : zF own i t j kd) (hτ : τ a = some (t, N)) (hfin : ((zr t).2.1 j).2.2.2 = true) (hdecl : ((zr t).2.1 j).1 = own) (hn : narrow (zty t j) v = v) (hfit : fits (zty t j) v = true) (hu : zUp G (z, τ, ρ, ι, κ) s2 a (.inr (t, (zfs t (ρ a) (ι a) (κ a)).set j v))) (kk : zW E G nL s2 n k nx L st) : zW E G nL (z, τ, ρ, ι, κ) n k pc L (v :: .ref a :: st) := by
  obtain ⟨p, l, e, R, u, m, args, below, meth, c, Q⟩ := E
  obtain ⟨hx, hb, hml, hown, hts, hK, hN, hlk, hB, rfl⟩ := X
  obtain ⟨d, rfl⟩ := d
  obtain ⟨ht, ⟨c1, c2, c3, c4, c5⟩, hk, hkd, hlink⟩ := f
  intro H locs ls hH hS hl
  have ha : τ a ≠ none := by rw [hτ]; simp
  obtain ⟨hA, hat⟩ := hH.2.2.1 a ha
  rw [zc_obj hτ ht] at hat
  have hap := va_apart (own := own) (C := (zr t).1) (T := (zr t).2.1) (N := (zr t).2.2) hts c5 (zty t) c3 c4 hK c1
  obtain ⟨r, h1, cell, q1, q2, q3, q4⟩ := hat
  obtain rfl : r = zr t := Option.some.inj (h1.symm.trans c1)
  obtain ⟨hSl, hfc, kC, hkC, hkind⟩ := hK.1 t _ c1
  obtain ⟨cf, kf, fi, f2, hi, hsl⟩ := hSl j hk
  have hlay := hts _ (c5 _ (u_in_lay hk))
  unfold u_lay at hlay
  rw [if_pos hfin] at hlay
  have hst := (u_facts hfc hkC (u_lays hts c5 hk) hi).1
  have hcf : m.cls = cf := by
    obtain ⟨_, _, c', _, _, _, -, -, hf', -, -, -, hown2, -⟩ := Cond.laysFinal_spec hlay
    have e1 : c' = cf := by have := hi.symm.trans hf'; simp at this; exact this.1.symm
    rw [hdecl] at hown2
    rw [← e1]; exact Option.some.inj (hown.symm.trans hown2)
  have h6 := u_fits hfc hkC hkind (Or.inr hlay) hi (c3 j hk) hn hfit
  refine W.putFinK hx hb hown (hts _ hlink) hi hst hcf hin (by rw [q2]; exact h6) q1 q3 (by rw [hsl]; exact k2_hasslot (q4 j hk)) rfl rfl d fun H' e1 e2 e3 => ?_
  rw [hsl] at e1 ⊢
  exact kk H' _ ls (zH_up hH ha hu ⟨_, c1, t_OB.to (V := updV (vp_V (zfs t (ρ a) (ι a) (κ a))) j v) ⟨_, e1, q2, q3, t_set q4 hap hk v⟩ (fun q _ => vp_updV_set (by rw [zfs_len, c2]; exact hk) v q)⟩ e2 e3) (hS.put e2 e3 hA) hl
theorem r_putFR (X : zX E G cc nL own rm) (hin : E.2.2.2.2.2.2.2.2.1.name = "<init>") {v : Nat} (d : zd cc pc (.putfield i) 3 nx) (f : zF own i t j 2) (hτ : τ a = some (t, N)) (hfin : ((zr t).2.1 j).2.2.2 = true) (hdecl : ((zr t).2.1 j).1 = own) (hn : narrow (zty t j) (.ref v) = .ref v) (hfit : fits (zty t j) (.ref v) = true) (kk : zW E G nL (z, τ, zu ρ a j (some v), ι, κ) n k nx L st) : zW E G nL (z, τ, ρ, ι, κ) n k pc L (.ref v :: .ref a :: st) :=
  zputF (P := fun _ _ => True) (mc := 0) (ms := 0) (ret := none) X hin d f hτ hfin hdecl hn hfit (zUp_R hτ f.1 f.2.2.2.1) kk
theorem r_putFI (X : zX E G cc nL own rm) (hin : E.2.2.2.2.2.2.2.2.1.name = "<init>") {v : Int32} (d : zd cc pc (.putfield i) 3 nx) (f : zF own i t j 0) (hτ : τ a = some (t, N)) (hfin : ((zr t).2.1 j).2.2.2 = true) (hdecl : ((zr t).2.1 j).1 = own) (hn : narrow (zty t j) (.int v) = .int v) (hfit : fits (zty t j) (.int v) = true) (kk : zW E G nL (z, τ, ρ, zu ι a j v, κ) n k nx L st) : zW E G nL (z, τ, ρ, ι, κ) n k pc L (.int v :: .ref a :: st) :=
  zputF (P := fun _ _ => True) (mc := 0) (ms := 0) (ret := none) X hin d f hτ hfin hdecl hn hfit (zUp_I hτ f.1 f.2.2.2.1) kk
end ZH
end
section
/-! ROWS: arrays, returns, calls, new -/
section ZA
variable {E : zE} {G : zG} {cc : ByteArray} {nL : Nat} {own : String} {rm : Room} {n k pc nx : Nat} {L : List (Nat × Value)} {st : List Value} {z : Nat} {τ : Nat → Option (Nat × Nat)} {ρ : Nat → Nat → Option Nat} {ι : Nat → Nat → Int32} {κ : Nat → Nat → Int64} {a t N : Nat} {i : Int32}
theorem r_iaload (X : zX E G cc nL own rm) (d : zd cc pc .iaload 1 nx) (hτ : τ a = some (13, N)) (hin : vp_in i N) (kk : zW E G nL (z, τ, ρ, ι, κ) n k nx L (.int (ι a i.toNatClampNeg) :: st)) : zW E G nL (z, τ, ρ, ι, κ) n k pc L (.int i :: .ref a :: st) := by
  obtain ⟨p, l, e, R, u, m, args, below, meth, c, Q⟩ := E
  obtain ⟨hx, hb, hml, hown, hts, hK, hN, hlk, hB, rfl⟩ := X
  obtain ⟨d, rfl⟩ := d
  intro H locs ls hH hS hl
  have hat := (hH.2.2.1 a (show τ a ≠ none by rw [hτ]; simp)).2
  rw [zc_int hτ] at hat
  exact va_iald hx hb hK (zsing hat) 0 0 rfl rfl hin d (kk H locs ls hH hS hl)
theorem r_zaload (X : zX E G cc nL own rm) (d : zd cc pc .baload 1 nx) (hτ : τ a = some (15, N)) (hin : vp_in i N) (kk : zW E G nL (z, τ, ρ, ι, κ) n k nx L (.int (ι a i.toNatClampNeg) :: st)) : zW E G nL (z, τ, ρ, ι, κ) n k pc L (.int i :: .ref a :: st) := by
  obtain ⟨p, l, e, R, u, m, args, below, meth, c, Q⟩ := E
  obtain ⟨hx, hb, hml, hown, hts, hK, hN, hlk, hB, rfl⟩ := X
  obtain ⟨d, rfl⟩ := d
  intro H locs ls hH hS hl
  have hat := (hH.2.2.1 a (show τ a ≠ none by rw [hτ]; simp)).2
  rw [zc_bool hτ] at hat
  exact va_zald hx hb hK (zsing hat) 0 2 rfl rfl hin d (kk H locs ls hH hS hl)
theorem r_laload (X : zX E G cc nL own rm) (d : zd cc pc .laload 1 nx) (hτ : τ a = some (14, N)) (hin : vp_in i N) (kk : zW E G nL (z, τ, ρ, ι, κ) n k nx L (.long (κ a i.toNatClampNeg) :: st)) : zW E G nL (z, τ, ρ, ι, κ) n k pc L (.int i :: .ref a :: st) := by
  obtain ⟨p, l, e, R, u, m, args, below, meth, c, Q⟩ := E
  obtain ⟨hx, hb, hml, hown, hts, hK, hN, hlk, hB, rfl⟩ := X
  obtain ⟨d, rfl⟩ := d
  intro H locs ls hH hS hl
  have hat := (hH.2.2.1 a (show τ a ≠ none by rw [hτ]; simp)).2
  rw [zc_long hτ] at hat
  exact va_lald hx hb hK (zsing hat) 0 1 rfl rfl hin d (kk H locs ls hH hS hl)
theorem zaaload {v : Value} {q : Nat} {ty : FieldType} (X : zX E G cc nL own rm) (d : zd cc pc .aaload 1 nx) (hτ : τ a = some (t, N)) (ht : 16 ≤ t) (hq : (ztys G)[q]? = some (G.2.1 (t - 13), ty)) (hty : ty.isReference = true) (hin : vp_in i N) (hv : va_rf (ρ a i.toNatClampNeg) = v) (kk : zW E G nL (z, τ, ρ, ι, κ) n k nx L (v :: st)) : zW E G nL (z, τ, ρ, ι, κ) n k pc L (.int i :: .ref a :: st) := by
  obtain ⟨p, l, e, R, u, m, args, below, meth, c, Q⟩ := E
  obtain ⟨hx, hb, hml, hown, hts, hK, hN, hlk, hB, rfl⟩ := X
  obtain ⟨d, rfl⟩ := d
  intro H locs ls hH hS hl
  have hat := (hH.2.2.1 a (show τ a ≠ none by rw [hτ]; simp)).2
  rw [zc_ref hτ ht] at hat
  have hlt : i.toNatClampNeg < N := Nat.not_le.mp fun q => hin (Or.inr q)
  subst hv
  exact W.aald (v := va_rf (ρ a i.toNatClampNeg)) (ty := ty) hx hb hat ((hK.2 q _ hq).1 N (fun j => va_rf (ρ a j))) hty (fun q => by cases q) (by show ¬ (i < 0 ∨ (arrV _ _ _).slots.size ≤ _); rw [arrV_size]; exact hin) (by show (arrV _ _ _).slots[_]? = _; rw [arrV_read _ _ hlt]) rfl rfl d (kk H locs ls hH hS hl)
theorem r_aaload {b : Nat} (X : zX E G cc nL own rm) (d : zd cc pc .aaload 1 nx) (hτ : τ a = some (t, N)) (ht : 16 ≤ t ∧ t ≤ 18) (hin : vp_in i N) (hv : ρ a i.toNatClampNeg = some b) (kk : zW E G nL (z, τ, ρ, ι, κ) n k nx L (.ref b :: st)) : zW E G nL (z, τ, ρ, ι, κ) n k pc L (.int i :: .ref a :: st) := by
  obtain ⟨h1, h2⟩ := ht
  obtain rfl | rfl | rfl : t = 16 ∨ t = 17 ∨ t = 18 := by omega
  · exact zaaload (q := 3) X d hτ (by decide) rfl rfl hin (by rw [hv]; rfl) kk
  · exact zaaload (q := 4) X d hτ (by decide) rfl rfl hin (by rw [hv]; rfl) kk
  · exact zaaload (q := 5) X d hτ (by decide) rfl rfl hin (by rw [hv]; rfl) kk
theorem r_alen (X : zX E G cc nL own rm) (d : zd cc pc .arraylength 1 nx) (hτ : τ a = some (13, N)) (kk : zW E G nL (z, τ, ρ, ι, κ) n k nx L (.int (Int32.ofNat N) :: st)) : zW E G nL (z, τ, ρ, ι, κ) n k pc L (.ref a :: st) := by
  obtain ⟨p, l, e, R, u, m, args, below, meth, c, Q⟩ := E
  obtain ⟨hx, hb, hml, hown, hts, hK, hN, hlk, hB, rfl⟩ := X
  obtain ⟨d, rfl⟩ := d
  intro H locs ls hH hS hl
  have hat := (hH.2.2.1 a (show τ a ≠ none by rw [hτ]; simp)).2
  rw [zc_int hτ] at hat
  exact va_alen hx hb hK (zsing hat) 0 0 rfl rfl rfl d (kk H locs ls hH hS hl)
theorem zup_fun {f : Nat → Nat → Int32} {x : Int32} {q : Nat} : zu f a q x a = upd (f a) q x := by
  funext j
  by_cases h : j = q
  · subst h; simp [zu, upd]
  · simp [zu, upd, h]
theorem zup_funL {f : Nat → Nat → Int64} {x : Int64} {q : Nat} : zu f a q x a = fun j => if j = q then x else f a j := zu_ra
theorem r_iastore {x : Int32} (X : zX E G cc nL own rm) (d : zd cc pc .iastore 1 nx) (hτ : τ a = some (13, N)) (hin : vp_in i N) (kk : zW E G nL (z, τ, ρ, zu ι a i.toNatClampNeg x, κ) n k nx L st) : zW E G nL (z, τ, ρ, ι, κ) n k pc L (.int x :: .int i :: .ref a :: st) := by
  obtain ⟨p, l, e, R, u, m, args, below, meth, c, Q⟩ := E
  obtain ⟨hx, hb, hml, hown, hts, hK, hN, hlk, hB, rfl⟩ := X
  obtain ⟨d, rfl⟩ := d
  intro H locs ls hH hS hl
  have ha : τ a ≠ none := by rw [hτ]; simp
  obtain ⟨hA, hat⟩ := hH.2.2.1 a ha
  rw [zc_int hτ] at hat
  refine W.iast hx hb hat ((hK.2 0 _ rfl).1 N (fun j => .int (ι a j))) (fun q => by cases q) (by show ¬ (i < 0 ∨ (arrV _ _ _).slots.size ≤ _); rw [arrV_size]; exact hin) rfl rfl d fun H1 e1 e2 e3 => ?_
  refine kk H1 _ ls (zH_up (e := .inl (G.2.1 0, N, .inl (zu ι a i.toNatClampNeg x a))) hH ha ⟨rfl, rfl, fun b hb => ⟨zc_congr rfl (zu_r hb) rfl, rfl, zu_r hb, rfl⟩, zc_int hτ⟩ ?_ e2 e3) (hS.put e2 e3 hA) hl
  show H1[a]? = some (vp_cell _ _)
  rw [e1]
  rw [vp_cell_i, vp_cell_i, arrV_store]
  congr 2
  funext q
  by_cases hq : q = i.toNatClampNeg
  · subst hq; simp [updV, zu]
  · simp [updV, zu, hq]
theorem r_zastore {x : Int32} (X : zX E G cc nL own rm) (d : zd cc pc .bastore 1 nx) (hτ : τ a = some (15, N)) (hin : vp_in i N) (hx01 : x = 0 ∨ x = 1) (kk : zW E G nL (z, τ, ρ, zu ι a i.toNatClampNeg x, κ) n k nx L st) : zW E G nL (z, τ, ρ, ι, κ) n k pc L (.int x :: .int i :: .ref a :: st) := by
  obtain ⟨p, l, e, R, u, m, args, below, meth, c, Q⟩ := E
  obtain ⟨hx, hb, hml, hown, hts, hK, hN, hlk, hB, rfl⟩ := X
  obtain ⟨d, rfl⟩ := d
  intro H locs ls hH hS hl
  have ha : τ a ≠ none := by rw [hτ]; simp
  obtain ⟨hA, hat⟩ := hH.2.2.1 a ha
  rw [zc_bool hτ] at hat
  have hnar : narrow .boolean (.int x) = .int x := by rcases hx01 with rfl | rfl <;> decide +kernel
  refine W.zast hx hb hat ((hK.2 2 _ rfl).1 N (fun j => .int (ι a j))) (fun q => by cases q) (by show ¬ (i < 0 ∨ (arrV _ _ _).slots.size ≤ _); rw [arrV_size]; exact hin) rfl rfl d fun H1 e1 e2 e3 => ?_
  refine kk H1 _ ls (zH_up (e := .inl (G.2.1 2, N, .inl (zu ι a i.toNatClampNeg x a))) hH ha ⟨rfl, rfl, fun b hb => ⟨zc_congr rfl (zu_r hb) rfl, rfl, zu_r hb, rfl⟩, zc_bool hτ⟩ ?_ e2 e3) (hS.put e2 e3 hA) hl
  show H1[a]? = some (vp_cell _ _)
  rw [e1, hnar]
  rw [vp_cell_i, vp_cell_i, arrV_store]
  congr 2
  funext q
  by_cases hq : q = i.toNatClampNeg
  · subst hq; simp [updV, zu]
  · simp [updV, zu, hq]
theorem r_lastore {x : Int64} (X : zX E G cc nL own rm) (d : zd cc pc .lastore 1 nx) (hτ : τ a = some (14, N)) (hin : vp_in i N) (kk : zW E G nL (z, τ, ρ, ι, zu κ a i.toNatClampNeg x) n k nx L st) : zW E G nL (z, τ, ρ, ι, κ) n k pc L (.long x :: .int i :: .ref a :: st) := by
  obtain ⟨p, l, e, R, u, m, args, below, meth, c, Q⟩ := E
  obtain ⟨hx, hb, hml, hown, hts, hK, hN, hlk, hB, rfl⟩ := X
  obtain ⟨d, rfl⟩ := d
  intro H locs ls hH hS hl
  have ha : τ a ≠ none := by rw [hτ]; simp
  obtain ⟨hA, hat⟩ := hH.2.2.1 a ha
  rw [zc_long hτ] at hat
  refine W.last hx hb hat ((hK.2 1 _ rfl).1 N (fun j => .long (κ a j))) (fun q => by cases q) (by show ¬ (i < 0 ∨ (arrV _ _ _).slots.size ≤ _); rw [arrV_size]; exact hin) rfl rfl d fun H1 e1 e2 e3 => ?_
  refine kk H1 _ ls (zH_up (e := .inl (G.2.1 1, N, .inr (.inl (zu κ a i.toNatClampNeg x a)))) hH ha ⟨rfl, rfl, fun b hb => ⟨zc_congr rfl rfl (zu_r hb), rfl, rfl, zu_r hb⟩, zc_long hτ⟩ ?_ e2 e3) (hS.put e2 e3 hA) hl
  show H1[a]? = some (vp_cell _ _)
  rw [e1]
  rw [vp_cell_l, vp_cell_l, arrV_store]
  congr 2
  funext q
  by_cases hq : q = i.toNatClampNeg
  · subst hq; simp [updV, zu]
  · simp [updV, zu, hq]
/-- a cell of class ci into an array of references of that class -/
theorem r_aastore {q ci N2 : Nat} {b : Nat} (X : zX E G cc nL own rm) (d : zd cc pc .aastore 1 nx) (hτ : τ a = some (t, N)) (ht : 16 ≤ t) (hq : (ztys G)[q]? = some (G.2.1 (t - 13), .object (zr ci).1)) (hci : ci < 13) (hcl : vwCl[ci]? = some (zr ci)) (hb0 : τ b = some (ci, N2)) (hin : vp_in i N) (kk : zW E G nL (z, τ, zu ρ a i.toNatClampNeg (some b), ι, κ) n k nx L st) : zW E G nL (z, τ, ρ, ι, κ) n k pc L (.ref b :: .int i :: .ref a :: st) := by
  obtain ⟨p, l, e, R, u, m, args, below, meth, c, Q⟩ := E
  obtain ⟨hx, hb, hml, hown, hts, hK, hN, hlk, hB, rfl⟩ := X
  obtain ⟨d, rfl⟩ := d
  intro H locs ls hH hS hl
  have ha : τ a ≠ none := by rw [hτ]; simp
  obtain ⟨hA, hat⟩ := hH.2.2.1 a ha
  have hatb := (hH.2.2.1 b (show τ b ≠ none by rw [hb0]; simp)).2
  rw [zc_ref hτ ht] at hat
  rw [zc_obj hb0 hci] at hatb
  have hlt : i.toNatClampNeg < N := Nat.not_le.mp fun q => hin (Or.inr q)
  have h0 : ¬ i < 0 := fun q => hin (Or.inl q)
  obtain ⟨r', hr', cellV, g1, g2, g3, -⟩ := hatb
  have hcls := (hK.1 ci _ hcl).2
  obtain ⟨kA, comp, k1, k2, k3, -⟩ := (hK.2 q _ hq).2
  obtain rfl : comp = G.1.1 ci := Option.some.inj (k3.symm.trans hcls.1)
  obtain ⟨kC, hkC, -⟩ := hcls.2
  refine W.aast hx hb hat (fun q h => by cases h) (fun h => by cases h) k1 k2 rfl hkC ⟨h0, by show _ < (arrV _ _ _).slots.size; rw [arrV_size]; exact hlt⟩ g1 (fun q h => by rw [g3] at h; cases h) (by rw [g2]; exact hkC) (by rw [g2]; exact va_assign hcls) rfl rfl d fun H1 e1 e2 e3 => ?_
  refine kk H1 _ ls (zH_up (e := .inl (G.2.1 (t - 13), N, .inr (.inr (.inr (.inr (zu ρ a i.toNatClampNeg (some b) a)))))) hH ha ⟨rfl, rfl, fun b hb => ⟨zc_congr (zu_r hb) rfl rfl, zu_r hb, rfl, rfl⟩, zc_ref hτ ht⟩ ?_ e2 e3) (hS.put e2 e3 hA) hl
  show H1[a]? = some (vp_cell _ _)
  rw [e1]
  rw [vp_cell_q, vp_cell_q, arrV_store]
  congr 2
  funext q
  by_cases hq : q = i.toNatClampNeg
  · subst hq; simp [updV, zu, va_rf]
  · simp [updV, zu, hq]
end ZA
section ZC
variable {E : zE} {G : zG} {cc : ByteArray} {nL : Nat} {own : String} {rm : Room} {n k pc nx : Nat} {L : List (Nat × Value)} {st : List Value} {s : zS} {P : Option Value → zS → Prop} {mc ms : Nat} {ret : Option FieldType}
theorem r_ireturn {ty : FieldType} {v : Int32} (X : zX E G cc nL own rm) (hR : zR E G P mc ms (some ty)) (d : zd cc pc .ireturn 1 nx) (hnar : narrow ty (.int v) = .int v) (hn : n ≤ mc) (hk : k ≤ ms) (hp : P (some (.int v)) s) : zW E G nL s n k pc L [.int v] := by
  obtain ⟨p, l, e, R, u, m, args, below, meth, c, Q⟩ := E
  obtain ⟨hx, hb, hml, hown, hts, hK, hN, hlk, hB, rfl⟩ := X
  obtain ⟨d, rfl⟩ := d
  obtain ⟨rfl, hr⟩ := hR
  intro H locs ls hH hS hl
  refine W.widen hn hk ?_
  exact W.zret hx hb hr hnar (fun t ht hW => ⟨⟨_, s, rfl, hp, zI.warm (by rw [ht]; exact hH) hK hN hW⟩, hS.F ht⟩) hS.2.2 d
theorem r_lreturn {v : Int64} (X : zX E G cc nL own rm) (hR : zR E G P mc ms (some .long)) (d : zd cc pc .lreturn 1 nx) (hn : n ≤ mc) (hk : k ≤ ms) (hp : P (some (.long v)) s) : zW E G nL s n k pc L [.long v] := by
  obtain ⟨p, l, e, R, u, m, args, below, meth, c, Q⟩ := E
  obtain ⟨hx, hb, hml, hown, hts, hK, hN, hlk, hB, rfl⟩ := X
  obtain ⟨d, rfl⟩ := d
  obtain ⟨rfl, hr⟩ := hR
  intro H locs ls hH hS hl
  refine W.widen hn hk ?_
  exact W.lret hx hb hr (fun t ht hW => ⟨⟨_, s, rfl, hp, zI.warm (by rw [ht]; exact hH) hK hN hW⟩, hS.F ht⟩) hS.2.2 d
theorem r_return (X : zX E G cc nL own rm) (hR : zR E G P mc ms none) (d : zd cc pc .return_ 1 nx) (hn : n ≤ mc) (hk : k ≤ ms) (hp : P none s) : zW E G nL s n k pc L [] := by
  obtain ⟨p, l, e, R, u, m, args, below, meth, c, Q⟩ := E
  obtain ⟨hx, hb, hml, hown, hts, hK, hN, hlk, hB, rfl⟩ := X
  obtain ⟨d, rfl⟩ := d
  obtain ⟨rfl, hr⟩ := hR
  intro H locs ls hH hS hl
  refine W.widen hn hk ?_
  exact W.vret hx hb hr (fun t ht hW => ⟨⟨_, s, rfl, hp, zI.warm (by rw [ht]; exact hH) hK hN hW⟩, hS.F ht⟩) hS.2.2 d
theorem r_areturn {C : String} {v : Value} (X : zX E G cc nL own rm) (hR : zR E G P mc ms (some (.object C))) (hv : v = .null ∨ ∃ a, v = .ref a) (d : zd cc pc .areturn 1 nx) (hn : n ≤ mc) (hk : k ≤ ms) (hp : P (some v) s) : zW E G nL s n k pc L [v] := by
  obtain ⟨p, l, e, R, u, m, args, below, meth, c, Q⟩ := E
  obtain ⟨hx, hb, hml, hown, hts, hK, hN, hlk, hB, rfl⟩ := X
  obtain ⟨d, rfl⟩ := d
  obtain ⟨rfl, hr⟩ := hR
  intro H locs ls hH hS hl
  refine W.widen hn hk ?_
  exact W.aret hx hb hr (Or.inl ⟨C, rfl⟩) hv (fun t ht hW => ⟨⟨_, s, rfl, hp, zI.warm (by rw [ht]; exact hH) hK hN hW⟩, hS.F ht⟩) hS.2.2 d
/-- behind a call -/
theorem zcall {p : Program} {l : Launch} {e : Env} {R : Room} {u : State} {m : MethodId} {args : Array Value} {below : List Frame} {meth : Method} {c : Code} {Q : State → Prop} {H : Heap} {locs : List Loc} {ls : Array Slot} {st0 : List Value} {av : Array Value} (hr : va_Run p l e R u m args below meth c H locs n k mc ms (F0 m pc ls st0) st (zQ G P av) (zA G)) (hS : va_S (zA G) u.heap H locs)
    (kk : ∀ v s2, P v s2 → ∀ (H1 : Heap) (locs1 : List Loc), zH G s2 H1 → va_S (zA G) u.heap H1 locs1 → W p l e R u m args below meth c H1 locs1 (n + mc) (k + ms) Q (F0 m (pc + 3) ls (v.toList ++ st))) : W p l e R u m args below meth c H locs n k Q (F0 m pc ls st0) := by
  intro T hT X
  obtain ⟨v, st₀, t, T', L, h0, X', hL, e1, e2, ⟨⟨v2, s2, hv, hp, hI⟩, hz, hk⟩, hst⟩ := hr T hT X
  obtain rfl : v = v2 := by cases hv; rfl
  rw [h0] at hz hk
  obtain ⟨t2, a1, b1⟩ := kk v s2 hp T'.heap (locs ++ L) (by rw [e1]; exact hI.1) ⟨Nat.le_trans hS.1 (by rw [e1]; exact hz), fun q h1 h2 => by rw [e1, hk q (Nat.lt_of_lt_of_le h1 hS.1) h2]; exact hS.2.1 q h1 h2, fun q hq => by
      rcases List.mem_append.mp hq with h | h
      · exact hS.2.2 q h
      · exact hL q h⟩ T' rfl X'
  exact ⟨t2, hst t2 a1, b1⟩
theorem zgood {y : MethodName} {cy : ByteArray} {ml : Nat} (h : Cond.code y cy ml ret ∈ zT) : GoodIn zT (Cond.code y cy ml ret :: zT) := fun w hw => by
  rcases List.mem_cons.mp hw with rfl | hw
  · exact ⟨h, zT_good _ h⟩
  · exact ⟨hw, zT_good _ hw⟩
/-- the room that a call wants: frames, words, cells, places; the words that stand below its arguments -/
def zRm (crm rm : Room) (ml mc ms n k : Nat) (st : List Value) : Prop := (crm.cells = mc ∧ crm.slots = ms) ∧ (crm.frames + 1 ≤ rm.frames ∧ 8 + (ml + 11) + crm.locals ≤ rm.locals) ∧ (n + mc ≤ rm.cells ∧ k + ms ≤ rm.slots) ∧ (st.map fun v => v.category).sum ≤ 8
theorem r_callV {i b t N na ml : Nat} {y : MethodName} {cy : ByteArray} {crm : Room} {stk As : List Value} (X : zX E G cc nL own rm) (d : zd cc pc (.invokevirtual i) 3 nx) (lk : zLV own i y) (hc : zCd y cy ml ret na) (hM : zM E.2.1 G y cy ml ret crm (.ref b :: As) s P mc ms) (hτ : s.2.1 b = some (t, N)) (ht : t < 13 ∧ vwCl[t]? = some (zr t) ∧ (zr t).1 = y.cls) (hst : stk = As.reverse ++ .ref b :: st) (hna : As.length = na) (hr : zRm crm rm ml mc ms n k st) (kk : ∀ v s2, P v s2 → zW E G nL s2 (n + mc) (k + ms) nx L (v.toList ++ st)) : zW E G nL s n k pc L stk := by
  obtain ⟨p, l, e, R, u, m, args, below, meth, c, Q⟩ := E
  obtain ⟨hx, hb, hml, hown, hts, hK, hN, hlk, hB, rfl⟩ := X
  obtain ⟨d, rfl⟩ := d
  obtain ⟨z, τ, ρ, ι, κ⟩ := s
  intro H locs ls hH hS hl
  have hat := (hH.2.2.1 b (show τ b ≠ none by rw [show τ b = _ from hτ]; simp)).2
  rw [zc_obj hτ ht.1] at hat
  have hrecv := va_recv hK (zsing hat) (ci := t) (q0 := 0) ht.2.1 rfl
  rw [ht.2.2] at hrecv
  refine zcall (va_runV (C := y.cls) (b := b) (n := na) (As := As) (rest := st) ⟨hx, hb, hml, hown, hts⟩ hM ⟨callB_of na hts (zgood hc.1) rfl hr.1.1 hr.1.2 (hts _ lk.2.2.2) (hts _ lk.1) ⟨hc.2.1.1, hc.2.1.2, hc.2.2.1⟩ hr.2.1, hts _ lk.2.1, hts _ lk.2.2.1⟩ ⟨zI.blind, hrecv, fun U hU hW => ⟨rfl, zI.warm (by rw [hU]; exact hH) hK hN hW⟩⟩ rfl hna (hl.1.trans rfl) hst (lv_room hr.2.2.2) d hr.2.2.1) hS (fun v s2 hp H1 locs1 hH1 hS1 => kk v s2 hp H1 locs1 ls hH1 hS1 hl)
theorem r_callS {i na ml : Nat} {y : MethodName} {cy : ByteArray} {crm : Room} {stk As : List Value} (X : zX E G cc nL own rm) (d : zd cc pc (.invokestatic i) 3 nx) (lk : zLS own i y) (hc : zCd y cy ml ret na) (hM : zM E.2.1 G y cy ml ret crm As s P mc ms) (hst : stk = As.reverse ++ st) (hna : As.length = na) (hr : zRm crm rm ml mc ms n k st) (kk : ∀ v s2, P v s2 → zW E G nL s2 (n + mc) (k + ms) nx L (v.toList ++ st)) : zW E G nL s n k pc L stk := by
  obtain ⟨p, l, e, R, u, m, args, below, meth, c, Q⟩ := E
  obtain ⟨hx, hb, hml, hown, hts, hK, hN, hlk, hB, rfl⟩ := X
  obtain ⟨d, rfl⟩ := d
  intro H locs ls hH hS hl
  refine zcall (va_runS (n := na) (As := As) (rest := st) ⟨hx, hb, hml, hown, hts⟩ hM ⟨callB_of na hts (zgood hc.1) rfl hr.1.1 hr.1.2 (hts _ lk.2.2) (hts _ lk.1) ⟨hc.2.1.1, hc.2.1.2, hc.2.2.1⟩ hr.2.1, hts _ lk.2.1⟩ ⟨zI.blind, fun U hU hW => ⟨rfl, zI.warm (by rw [hU]; exact hH) hK hN hW⟩⟩ rfl hna (hl.1.trans rfl) hst (lv_room hr.2.2.2) d hr.2.2.1) hS (fun v s2 hp H1 locs1 hH1 hS1 => kk v s2 hp H1 locs1 ls hH1 hS1 hl)
theorem r_callI {i b na ml : Nat} {y : MethodName} {cy : ByteArray} {crm : Room} {stk As : List Value} (X : zX E G cc nL own rm) (d : zd cc pc (.invokespecial i) 3 nx) (lk : zLI own i y) (hy : y.name = "<init>") (hc : zCd y cy ml none na) (hM : zM E.2.1 G y cy ml none crm (.ref b :: As) s P mc ms) (hst : stk = As.reverse ++ .ref b :: st) (hna : As.length = na) (hr : zRm crm rm ml mc ms n k st) (kk : ∀ v s2, P v s2 → zW E G nL s2 (n + mc) (k + ms) nx L (v.toList ++ st)) : zW E G nL s n k pc L stk := by
  obtain ⟨p, l, e, R, u, m, args, below, meth, c, Q⟩ := E
  obtain ⟨hx, hb, hml, hown, hts, hK, hN, hlk, hB, rfl⟩ := X
  obtain ⟨d, rfl⟩ := d
  intro H locs ls hH hS hl
  refine zcall (va_runI (b := b) (n := na) (As := As) (rest := st) ⟨hx, hb, hml, hown, hts⟩ hM ⟨callB_of na hts (zgood hc.1) rfl hr.1.1 hr.1.2 (hts _ lk.2.2) (hts _ lk.1) ⟨hc.2.1.1, hc.2.1.2, hc.2.2.1⟩ hr.2.1, hy, hts _ lk.2.1⟩ ⟨zI.blind, fun U hU hW => ⟨rfl, zI.warm (by rw [hU]; exact hH) hK hN hW⟩⟩ rfl hna (hl.1.trans rfl) hst (lv_room hr.2.2.2) d hr.2.2.1) hS (fun v s2 hp H1 locs1 hH1 hS1 => kk v s2 hp H1 locs1 ls hH1 hS1 hl)
theorem r_callIN {i b na ml : Nat} {y : MethodName} {host : String} {cy : ByteArray} {crm : Room} {stk As : List Value} (X : zX E G cc nL own rm) (d : zd cc pc (.invokespecial i) 3 nx) (lk : (own, i, y, host) ∈ zNest) (hini : Cond.initialized y.cls ∈ zT) (hinst : Cond.instanceMethod y ∈ zT) (hy : y.name = "<init>") (hc : zCd y cy ml none na) (hM : zM E.2.1 G y cy ml none crm (.ref b :: As) s P mc ms) (hst : stk = As.reverse ++ .ref b :: st) (hna : As.length = na) (hr : zRm crm rm ml mc ms n k st) (kk : ∀ v s2, P v s2 → zW E G nL s2 (n + mc) (k + ms) nx L (v.toList ++ st)) : zW E G nL s n k pc L stk := by
  obtain ⟨p, l, e, R, u, m, args, below, meth, c, Q⟩ := E
  obtain ⟨hx, hb, hml, hown, hts, hK, hN, hlk, hB, rfl⟩ := X
  obtain ⟨d, rfl⟩ := d
  intro H locs ls hH hS hl
  refine zcall (va_runIN (b := b) (n := na) (As := As) (rest := st) (host := host) ⟨hx, hb, hml, hown, hts⟩ hM ⟨va_cnB na hts (zgood hc.1) rfl hr.1.1 hr.1.2 (hN.1 _ lk) (hts _ hini) ⟨hc.2.1.1, hc.2.1.2, hc.2.2.1⟩ hr.2.1, hy, hts _ hinst⟩ ⟨zI.blind, fun U hU hW => ⟨rfl, zI.warm (by rw [hU]; exact hH) hK hN hW⟩⟩ rfl hna (hl.1.trans rfl) hst (lv_room hr.2.2.2) d hr.2.2.1) hS (fun v s2 hp H1 locs1 hH1 hS1 => kk v s2 hp H1 locs1 ls hH1 hS1 hl)
theorem r_callSN {i na ml : Nat} {y : MethodName} {host : String} {cy : ByteArray} {crm : Room} {stk As : List Value} (X : zX E G cc nL own rm) (d : zd cc pc (.invokestatic i) 3 nx) (lk : (own, i, y, host) ∈ zNest) (hini : Cond.initialized y.cls ∈ zT) (hstat : Cond.static y ∈ zT) (hc : zCd y cy ml ret na) (hM : zM E.2.1 G y cy ml ret crm As s P mc ms) (hst : stk = As.reverse ++ st) (hna : As.length = na) (hr : zRm crm rm ml mc ms n k st) (kk : ∀ v s2, P v s2 → zW E G nL s2 (n + mc) (k + ms) nx L (v.toList ++ st)) : zW E G nL s n k pc L stk := by
  obtain ⟨p, l, e, R, u, m, args, below, meth, c, Q⟩ := E
  obtain ⟨hx, hb, hml, hown, hts, hK, hN, hlk, hB, rfl⟩ := X
  obtain ⟨d, rfl⟩ := d
  intro H locs ls hH hS hl
  refine zcall (va_runSN (n := na) (As := As) (rest := st) (host := host) ⟨hx, hb, hml, hown, hts⟩ hM ⟨va_cnB na hts (zgood hc.1) rfl hr.1.1 hr.1.2 (hN.1 _ lk) (hts _ hini) ⟨hc.2.1.1, hc.2.1.2, hc.2.2.1⟩ hr.2.1, hts _ hstat, trivial⟩ ⟨zI.blind, fun U hU hW => ⟨rfl, zI.warm (by rw [hU]; exact hH) hK hN hW⟩⟩ rfl hna (hl.1.trans rfl) hst (lv_room hr.2.2.2) d hr.2.2.1) hS (fun v s2 hp H1 locs1 hH1 hS1 => kk v s2 hp H1 locs1 ls hH1 hS1 hl)
theorem r_objInit {i a : Nat} (X : zX E G cc nL own rm) (d : zd cc pc (.invokespecial i) 3 nx) (lk : Cond.methodLink own i objectInit ∈ zT) (hf : 1 ≤ rm.frames) (hr : (st.map fun v => v.category).sum + 12 ≤ rm.locals) (kk : zW E G nL s n k nx L st) : zW E G nL s n k pc L (.ref a :: st) := by
  obtain ⟨p, l, e, R, u, m, args, below, meth, c, Q⟩ := E
  obtain ⟨hx, hb, hml, hown, hts, hK, hN, hlk, hB, rfl⟩ := X
  obtain ⟨d, rfl⟩ := d
  intro H locs ls hH hS hl
  exact W.objInit hx hb hown (hts _ lk) (hts _ zobI) (hts _ zobC) rfl (by rw [hml]; exact hl.1) rfl d hf (by show 2 * 0 + _ + 12 ≤ _; omega) (kk H locs ls hH hS hl)
end ZC
end
section
/-! Row, Chain.begin (wip/gen/spec_a.py) -/
theorem znat {N : Nat} (h : N < 2 ^ 31) : (Int32.ofNat N).toInt = (N : Int) := nI_toInt h
theorem zaddI {x y : Int32} (h1 : -2147483648 ≤ x.toInt + y.toInt) (h2 : x.toInt + y.toInt ≤ 2147483647) : (x + y).toInt = x.toInt + y.toInt := by
  rw [Int32.toInt_add]
  exact Int.bmod_eq_of_le (by omega) (by omega)
theorem zsubI {x y : Int32} (h1 : -2147483648 ≤ x.toInt - y.toInt) (h2 : x.toInt - y.toInt ≤ 2147483647) : (x - y).toInt = x.toInt - y.toInt := by
  rw [Int32.toInt_sub]
  exact Int.bmod_eq_of_le (by omega) (by omega)
theorem zmulI {x y : Int32} (h1 : -2147483648 ≤ x.toInt * y.toInt) (h2 : x.toInt * y.toInt ≤ 2147483647) : (x * y).toInt = x.toInt * y.toInt := by
  rw [Int32.toInt_mul]
  exact Int.bmod_eq_of_le (by omega) (by omega)
theorem zi1 : (1 : Int32).toInt = 1 := rfl
theorem zsub1 {x : Int32} (h : 0 < x.toInt) : (x - 1).toInt = x.toInt - 1 := by
  have h2 := x.toInt_lt
  rw [zsubI (by rw [zi1]; omega) (by rw [zi1]; omega), zi1]
theorem zinc {x : Int32} (h : x.toInt < 2147483647) : (x + 1).toInt = x.toInt + 1 := by
  have h2 := x.le_toInt
  rw [zaddI (by rw [zi1]; omega) (by rw [zi1]; omega), zi1]
set_option maxHeartbeats 4000000 in
set_option maxRecDepth 100000 in
/-- Row.isFull -/
theorem c_X6_isFull (l : Launch) (G : zG) (z : Nat) (τ : Nat → Option (Nat × Nat)) (ρ : Nat → Nat → Option Nat) (ι : Nat → Nat → Int32) (κ : Nat → Nat → Int64) {a v M N : Nat} (hτ : τ a = some (6, M)) (hρ : ρ a 0 = some v) (hτv : τ v = some (13, N)) (hN : N < 2 ^ 31) : zM l G yX6_isFull cX6_isFull 1 (some .boolean) ({ frames := 0, cells := 0, slots := 0, locals := 0 } : Room) [.ref a] (z, τ, ρ, ι, κ) (fun v s => v = some (.int (if (N : Int) ≤ (ι a 1).toInt then 1 else 0)) ∧ s = (z, τ, ρ, ι, κ)) 0 0 := by
  refine zM_of zCd_X6_isFull (Nat.le_of_ble_eq_true rfl) ?_
  intro E X hR hE
  subst hE
  show zW E G 1 (z, τ, ρ, ι, κ) 0 0 0 [(0, .ref a)] []
  refine r_aload_n X (by rfl) dX6_isFull_0 ?_
  refine r_getI X dX6_isFull_1 zF_X6_9 hτ ?_
  refine r_aload_n X (by rfl) dX6_isFull_4 ?_
  refine r_getR X dX6_isFull_5 zF_X6_21 hτ hρ ?_
  refine r_alen X dX6_isFull_8 hτv ?_
  refine r_icmp_lt X 16 dX6_isFull_9 (by decide) (fun h9 => ?_) (fun h9 => ?_)
  · rw [znat hN] at h9
    refine r_iconst X 0 (by decide) dX6_isFull_16 ?_
    refine r_ireturn X hR dX6_isFull_17 rfl (Nat.zero_le _) (Nat.zero_le _) ?_
    exact ⟨by first | rw [if_neg (by omega)] | rw [if_pos (by omega)], rfl⟩
  · rw [znat hN] at h9
    refine r_iconst X 1 (by decide) dX6_isFull_12 ?_
    refine r_goto X 17 dX6_isFull_13 (by decide) ?_
    refine r_ireturn X hR dX6_isFull_17 rfl (Nat.zero_le _) (Nat.zero_le _) ?_
    exact ⟨by first | rw [if_neg (by omega)] | rw [if_pos (by omega)], rfl⟩
set_option maxHeartbeats 4000000 in
set_option maxRecDepth 100000 in
/-- Row.append, not full -/
theorem c_X6_append (l : Launch) (G : zG) (z : Nat) (τ : Nat → Option (Nat × Nat)) (ρ : Nat → Nat → Option Nat) (ι : Nat → Nat → Int32) (κ : Nat → Nat → Int64) {a v M N : Nat} (hτ : τ a = some (6, M)) (hρ : ρ a 0 = some v) (hτv : τ v = some (13, N)) (x : Int32) (hN : N < 2 ^ 31) (h0 : 0 ≤ (ι a 1).toInt) (h1 : (ι a 1).toInt < N) (hav : v ≠ a) : zM l G yX6_append cX6_append 2 (some .int) ({ frames := 1, cells := 0, slots := 0, locals := 20 } : Room) [.ref a, .int x] (z, τ, ρ, ι, κ) (fun v0 s => v0 = some (.int (ι a 1 + 1)) ∧ s = (z, τ, ρ, zu (zu ι v (ι a 1).toNatClampNeg x) a 1 (ι a 1 + 1), κ)) 0 0 := by
  refine zM_of zCd_X6_append (Nat.le_of_ble_eq_true rfl) ?_
  intro E X hR hE
  subst hE
  show zW E G 2 (z, τ, ρ, ι, κ) 0 0 0 [(0, .ref a), (1, .int x)] []
  refine r_aload_n X (by rfl) dX6_append_0 ?_
  refine r_callV X dX6_append_1 zLV_X6_25 zCd_X6_isFull (c_X6_isFull _ G z τ ρ ι κ hτ hρ hτv hN) hτ ⟨by decide, rfl, rfl⟩ rfl rfl ⟨⟨rfl, rfl⟩, ⟨by decide, by decide⟩, ⟨Nat.le_of_ble_eq_true rfl, Nat.le_of_ble_eq_true rfl⟩, Nat.le_of_ble_eq_true rfl⟩ ?_
  rintro _ _ ⟨rfl, rfl⟩
  rw [if_neg (by omega)]
  refine r_if_ne X 27 dX6_append_4 (by decide) (fun h4 => ?_) (fun h4 => ?_)
  · exact absurd h4 (by decide)
  · refine r_aload_n X (by rfl) dX6_append_7 ?_
    refine r_getR X dX6_append_8 zF_X6_21 hτ hρ ?_
    refine r_aload_n X (by rfl) dX6_append_11 ?_
    refine r_getI X dX6_append_12 zF_X6_9 hτ ?_
    refine r_iload_n X (by rfl) dX6_append_15 ?_
    refine r_iastore X dX6_append_16 hτv (vp_in_iff.mpr ⟨h0, h1⟩) ?_
    refine r_aload_n X (by rfl) dX6_append_17 ?_
    refine r_dup X rfl dX6_append_18 ?_
    refine r_getI X dX6_append_19 zF_X6_9 hτ ?_
    refine r_iconst X 1 (by decide) dX6_append_22 ?_
    refine r_iadd X dX6_append_23 ?_
    refine r_putI X dX6_append_24 zF_X6_9 hτ rfl rfl ?_
    refine r_aload_n X (by rfl) dX6_append_27 ?_
    refine r_getI X dX6_append_28 zF_X6_9 hτ ?_
    refine r_ireturn X hR dX6_append_31 rfl (Nat.zero_le _) (Nat.zero_le _) ?_
    rw [zu_a (Ne.symm hav)]
    exact ⟨by rw [zu_s], rfl⟩
set_option maxHeartbeats 4000000 in
set_option maxRecDepth 100000 in
/-- Row.empty -/
theorem c_X6_empty (l : Launch) (G : zG) (z : Nat) (τ : Nat → Option (Nat × Nat)) (ρ : Nat → Nat → Option Nat) (ι : Nat → Nat → Int32) (κ : Nat → Nat → Int64) {a M : Nat} (hτ : τ a = some (6, M)) : zM l G yX6_empty cX6_empty 2 (some .int) ({ frames := 0, cells := 0, slots := 0, locals := 0 } : Room) [.ref a] (z, τ, ρ, ι, κ) (fun v s => v = some (.int (ι a 1)) ∧ s = (z, τ, ρ, zu ι a 1 0, κ)) 0 0 := by
  refine zM_of zCd_X6_empty (Nat.le_of_ble_eq_true rfl) ?_
  intro E X hR hE
  subst hE
  show zW E G 2 (z, τ, ρ, ι, κ) 0 0 0 [(0, .ref a)] []
  refine r_aload_n X (by rfl) dX6_empty_0 ?_
  refine r_getI X dX6_empty_1 zF_X6_9 hτ ?_
  refine r_istore_n X (by decide) dX6_empty_4 ?_
  refine r_aload_n X (by rfl) dX6_empty_5 ?_
  refine r_iconst X 0 (by decide) dX6_empty_6 ?_
  refine r_putI X dX6_empty_7 zF_X6_9 hτ rfl rfl ?_
  refine r_iload_n X (by rfl) dX6_empty_10 ?_
  refine r_ireturn X hR dX6_empty_11 rfl (Nat.zero_le _) (Nat.zero_le _) ?_
  exact ⟨rfl, rfl⟩
set_option maxHeartbeats 4000000 in
set_option maxRecDepth 100000 in
/-- Row.last -/
theorem c_X6_last (l : Launch) (G : zG) (z : Nat) (τ : Nat → Option (Nat × Nat)) (ρ : Nat → Nat → Option Nat) (ι : Nat → Nat → Int32) (κ : Nat → Nat → Int64) {a v M N : Nat} (hτ : τ a = some (6, M)) (hρ : ρ a 0 = some v) (hτv : τ v = some (13, N)) (h0 : 0 ≤ (ι a 1).toInt) (h1 : (ι a 1).toInt ≤ N) : zM l G yX6_last cX6_last 1 (some .int) ({ frames := 0, cells := 0, slots := 0, locals := 0 } : Room) [.ref a] (z, τ, ρ, ι, κ) (fun v0 s => v0 = some (.int (if 0 < (ι a 1).toInt then ι v (ι a 1 - 1).toNatClampNeg else -1)) ∧ s = (z, τ, ρ, ι, κ)) 0 0 := by
  refine zM_of zCd_X6_last (Nat.le_of_ble_eq_true rfl) ?_
  intro E X hR hE
  subst hE
  show zW E G 1 (z, τ, ρ, ι, κ) 0 0 0 [(0, .ref a)] []
  refine r_aload_n X (by rfl) dX6_last_0 ?_
  refine r_getI X dX6_last_1 zF_X6_9 hτ ?_
  refine r_if_le X 21 dX6_last_4 (by decide) (fun h4 => ?_) (fun h4 => ?_)
  · refine r_iconst X (-1) (by decide) dX6_last_21 ?_
    refine r_ireturn X hR dX6_last_22 rfl (Nat.zero_le _) (Nat.zero_le _) ?_
    exact ⟨by first | rw [if_neg (by omega)] | rw [if_pos (by omega)], rfl⟩
  · refine r_aload_n X (by rfl) dX6_last_7 ?_
    refine r_getR X dX6_last_8 zF_X6_21 hτ hρ ?_
    refine r_aload_n X (by rfl) dX6_last_11 ?_
    refine r_getI X dX6_last_12 zF_X6_9 hτ ?_
    refine r_iconst X 1 (by decide) dX6_last_15 ?_
    refine r_isub X dX6_last_16 ?_
    refine r_iaload X dX6_last_17 hτv (vp_in_iff.mpr (by have := zsub1 h4; omega)) ?_
    refine r_goto X 22 dX6_last_18 (by decide) ?_
    refine r_ireturn X hR dX6_last_22 rfl (Nat.zero_le _) (Nat.zero_le _) ?_
    exact ⟨by first | rw [if_neg (by omega)] | rw [if_pos (by omega)], rfl⟩
set_option maxHeartbeats 4000000 in
set_option maxRecDepth 100000 in
/-- Chain.begin -/
theorem c_X0_begin (l : Launch) (G : zG) (z : Nat) (τ : Nat → Option (Nat × Nat)) (ρ : Nat → Nat → Option Nat) (ι : Nat → Nat → Int32) (κ : Nat → Nat → Int64) {a M : Nat} (hτ : τ a = some (0, M)) : zM l G yX0_begin cX0_begin 1 none ({ frames := 0, cells := 0, slots := 0, locals := 0 } : Room) [.ref a] (z, τ, ρ, ι, κ) (fun v s => v = none ∧ s = (z, τ, ρ, zu (zu ι a 1 0) a 2 0, κ)) 0 0 := by
  refine zM_of zCd_X0_begin (Nat.le_of_ble_eq_true rfl) ?_
  intro E X hR hE
  subst hE
  show zW E G 1 (z, τ, ρ, ι, κ) 0 0 0 [(0, .ref a)] []
  refine r_aload_n X (by rfl) dX0_begin_0 ?_
  refine r_iconst X 0 (by decide) dX0_begin_1 ?_
  refine r_putI X dX0_begin_2 zF_X0_20 hτ rfl rfl ?_
  refine r_aload_n X (by rfl) dX0_begin_5 ?_
  refine r_iconst X 0 (by decide) dX0_begin_6 ?_
  refine r_putI X dX0_begin_7 zF_X0_24 hτ rfl rfl ?_
  refine r_return X hR dX0_begin_10 (Nat.zero_le _) (Nat.zero_le _) ?_
  exact ⟨rfl, rfl⟩
end
