-- ===== PART A: goes FIRST, ahead of the names: the tables' words, and 'selects' of the private methods out of them =====
/-- a private method of a class that the tables say can be made, by its rows of tables_1 -/
def lw_okq (q : MethodName × Nat) : Prop := (q.1.cls ≠ "java/lang/invoke/MethodHandle" ∧ q.1.cls ≠ "java/lang/invoke/VarHandle") ∧ Cond.instantiable q.1.cls q.2 ∈ tables_1 ∧ Cond.privateMethod q.1 ∈ tables_1 ∧ Cond.instanceMethod q.1 ∈ tables_1
theorem lw_p0 : lw_okq (⟨"SlideRules$Logs", "addGrowth", "(LSlideRules$Wide;II)V"⟩, 5) := ⟨⟨by decide +kernel, by decide +kernel⟩, List.mem_of_getElem? (i := 24) (by decide +kernel), List.mem_of_getElem? (i := 46) (by decide +kernel), List.mem_of_getElem? (i := 47) (by decide +kernel)⟩
theorem lw_p1 : lw_okq (⟨"SlideRules", "scaleAt", "(I)LSlideRules$Scale;"⟩, 12) := ⟨⟨by decide +kernel, by decide +kernel⟩, List.mem_of_getElem? (i := 16) (by decide +kernel), List.mem_of_getElem? (i := 359) (by decide +kernel), List.mem_of_getElem? (i := 360) (by decide +kernel)⟩
theorem lw_p2 : lw_okq (⟨"SlideRules$Logs", "putLog", "(LSlideRules$Wide;I)V"⟩, 5) := ⟨⟨by decide +kernel, by decide +kernel⟩, List.mem_of_getElem? (i := 24) (by decide +kernel), List.mem_of_getElem? (i := 376) (by decide +kernel), List.mem_of_getElem? (i := 377) (by decide +kernel)⟩
theorem lw_p3 : lw_okq (⟨"SlideRules$PlainScale", "firstFrom", "(I)I"⟩, 2) := ⟨⟨by decide +kernel, by decide +kernel⟩, List.mem_of_getElem? (i := 85) (by decide +kernel), List.mem_of_getElem? (i := 537) (by decide +kernel), List.mem_of_getElem? (i := 538) (by decide +kernel)⟩
theorem lw_p4 : lw_okq (⟨"SlideRules$Chain", "multiplyOut", "()V"⟩, 4) := ⟨⟨by decide +kernel, by decide +kernel⟩, List.mem_of_getElem? (i := 103) (by decide +kernel), List.mem_of_getElem? (i := 545) (by decide +kernel), List.mem_of_getElem? (i := 546) (by decide +kernel)⟩
theorem lw_p5 : lw_okq (⟨"SlideRules$PairSums", "take", "(IILSlideRules$PlainScale;)V"⟩, 11) := ⟨⟨by decide +kernel, by decide +kernel⟩, List.mem_of_getElem? (i := 152) (by decide +kernel), List.mem_of_getElem? (i := 563) (by decide +kernel), List.mem_of_getElem? (i := 564) (by decide +kernel)⟩
theorem lw_p6 : lw_okq (⟨"SlideRules", "aimSettings", "(III)V"⟩, 12) := ⟨⟨by decide +kernel, by decide +kernel⟩, List.mem_of_getElem? (i := 16) (by decide +kernel), List.mem_of_getElem? (i := 579) (by decide +kernel), List.mem_of_getElem? (i := 580) (by decide +kernel)⟩
theorem lw_p7 : lw_okq (⟨"SlideRules$Settings", "measure", "([II)V"⟩, 4) := ⟨⟨by decide +kernel, by decide +kernel⟩, List.mem_of_getElem? (i := 200) (by decide +kernel), List.mem_of_getElem? (i := 595) (by decide +kernel), List.mem_of_getElem? (i := 596) (by decide +kernel)⟩
theorem lw_p8 : lw_okq (⟨"SlideRules$Settings", "reachBack", "([II)V"⟩, 4) := ⟨⟨by decide +kernel, by decide +kernel⟩, List.mem_of_getElem? (i := 200) (by decide +kernel), List.mem_of_getElem? (i := 599) (by decide +kernel), List.mem_of_getElem? (i := 600) (by decide +kernel)⟩
theorem lw_p9 : lw_okq (⟨"SlideRules$Settings", "makeFirst", "()I"⟩, 4) := ⟨⟨by decide +kernel, by decide +kernel⟩, List.mem_of_getElem? (i := 200) (by decide +kernel), List.mem_of_getElem? (i := 616) (by decide +kernel), List.mem_of_getElem? (i := 617) (by decide +kernel)⟩
theorem lw_p10 : lw_okq (⟨"SlideRules$Settings", "isNearer", "(II)Z"⟩, 4) := ⟨⟨by decide +kernel, by decide +kernel⟩, List.mem_of_getElem? (i := 200) (by decide +kernel), List.mem_of_getElem? (i := 620) (by decide +kernel), List.mem_of_getElem? (i := 621) (by decide +kernel)⟩
theorem lw_p11 : lw_okq (⟨"SlideRules$Match", "weigh", "(II)V"⟩, 2) := ⟨⟨by decide +kernel, by decide +kernel⟩, List.mem_of_getElem? (i := 224) (by decide +kernel), List.mem_of_getElem? (i := 659) (by decide +kernel), List.mem_of_getElem? (i := 660) (by decide +kernel)⟩
theorem lw_p12 : lw_okq (⟨"SlideRules$Laws", "doublesFrom", "(I)I"⟩, 1) := ⟨⟨by decide +kernel, by decide +kernel⟩, List.mem_of_getElem? (i := 239) (by decide +kernel), List.mem_of_getElem? (i := 691) (by decide +kernel), List.mem_of_getElem? (i := 692) (by decide +kernel)⟩
theorem lw_p13 : lw_okq (⟨"SlideRules", "scalesOnSlide", "()I"⟩, 12) := ⟨⟨by decide +kernel, by decide +kernel⟩, List.mem_of_getElem? (i := 16) (by decide +kernel), List.mem_of_getElem? (i := 699) (by decide +kernel), List.mem_of_getElem? (i := 700) (by decide +kernel)⟩
theorem lw_p14 : lw_okq (⟨"SlideRulesModel", "natural", "(JJ[J)V"⟩, 30) := ⟨⟨by decide +kernel, by decide +kernel⟩, List.mem_of_getElem? (i := 721) (by decide +kernel), List.mem_of_getElem? (i := 729) (by decide +kernel), List.mem_of_getElem? (i := 730) (by decide +kernel)⟩
theorem lw_p15 : lw_okq (⟨"SlideRulesModel", "isScale", "(I)Z"⟩, 30) := ⟨⟨by decide +kernel, by decide +kernel⟩, List.mem_of_getElem? (i := 721) (by decide +kernel), List.mem_of_getElem? (i := 866) (by decide +kernel), List.mem_of_getElem? (i := 867) (by decide +kernel)⟩
def lw_privs_1 : List (MethodName × Nat) := [(⟨"SlideRules$Logs", "addGrowth", "(LSlideRules$Wide;II)V"⟩, 5), (⟨"SlideRules", "scaleAt", "(I)LSlideRules$Scale;"⟩, 12), (⟨"SlideRules$Logs", "putLog", "(LSlideRules$Wide;I)V"⟩, 5), (⟨"SlideRules$PlainScale", "firstFrom", "(I)I"⟩, 2), (⟨"SlideRules$Chain", "multiplyOut", "()V"⟩, 4), (⟨"SlideRules$PairSums", "take", "(IILSlideRules$PlainScale;)V"⟩, 11), (⟨"SlideRules", "aimSettings", "(III)V"⟩, 12), (⟨"SlideRules$Settings", "measure", "([II)V"⟩, 4), (⟨"SlideRules$Settings", "reachBack", "([II)V"⟩, 4), (⟨"SlideRules$Settings", "makeFirst", "()I"⟩, 4), (⟨"SlideRules$Settings", "isNearer", "(II)Z"⟩, 4), (⟨"SlideRules$Match", "weigh", "(II)V"⟩, 2), (⟨"SlideRules$Laws", "doublesFrom", "(I)I"⟩, 1), (⟨"SlideRules", "scalesOnSlide", "()I"⟩, 12), (⟨"SlideRulesModel", "natural", "(JJ[J)V"⟩, 30), (⟨"SlideRulesModel", "isScale", "(I)Z"⟩, 30)]
theorem lw_r1 : ∀ q ∈ lw_privs_1, lw_okq q := List.forall_mem_cons.mpr ⟨lw_p0, List.forall_mem_cons.mpr ⟨lw_p1, List.forall_mem_cons.mpr ⟨lw_p2, List.forall_mem_cons.mpr ⟨lw_p3, List.forall_mem_cons.mpr ⟨lw_p4, List.forall_mem_cons.mpr ⟨lw_p5, List.forall_mem_cons.mpr ⟨lw_p6, List.forall_mem_cons.mpr ⟨lw_p7, List.forall_mem_cons.mpr ⟨lw_p8, List.forall_mem_cons.mpr ⟨lw_p9, List.forall_mem_cons.mpr ⟨lw_p10, List.forall_mem_cons.mpr ⟨lw_p11, List.forall_mem_cons.mpr ⟨lw_p12, List.forall_mem_cons.mpr ⟨lw_p13, List.forall_mem_cons.mpr ⟨lw_p14, List.forall_mem_cons.mpr ⟨lw_p15, fun _ h => absurd h List.not_mem_nil⟩⟩⟩⟩⟩⟩⟩⟩⟩⟩⟩⟩⟩⟩⟩⟩
theorem lw_p16 : lw_okq (⟨"SlideRulesModel", "placeOf", "(II)I"⟩, 30) := ⟨⟨by decide +kernel, by decide +kernel⟩, List.mem_of_getElem? (i := 721) (by decide +kernel), List.mem_of_getElem? (i := 874) (by decide +kernel), List.mem_of_getElem? (i := 875) (by decide +kernel)⟩
theorem lw_p17 : lw_okq (⟨"SlideRulesModel", "nearestOf", "(JJI)I"⟩, 30) := ⟨⟨by decide +kernel, by decide +kernel⟩, List.mem_of_getElem? (i := 721) (by decide +kernel), List.mem_of_getElem? (i := 880) (by decide +kernel), List.mem_of_getElem? (i := 881) (by decide +kernel)⟩
theorem lw_p18 : lw_okq (⟨"SlideRulesModel", "logOf", "(J[J)V"⟩, 30) := ⟨⟨by decide +kernel, by decide +kernel⟩, List.mem_of_getElem? (i := 721) (by decide +kernel), List.mem_of_getElem? (i := 890) (by decide +kernel), List.mem_of_getElem? (i := 891) (by decide +kernel)⟩
theorem lw_p19 : lw_okq (⟨"SlideRulesModel", "marksOf", "(I)I"⟩, 30) := ⟨⟨by decide +kernel, by decide +kernel⟩, List.mem_of_getElem? (i := 721) (by decide +kernel), List.mem_of_getElem? (i := 908) (by decide +kernel), List.mem_of_getElem? (i := 909) (by decide +kernel)⟩
theorem lw_p20 : lw_okq (⟨"SlideRulesModel", "spanMarks", "(I)I"⟩, 30) := ⟨⟨by decide +kernel, by decide +kernel⟩, List.mem_of_getElem? (i := 721) (by decide +kernel), List.mem_of_getElem? (i := 912) (by decide +kernel), List.mem_of_getElem? (i := 913) (by decide +kernel)⟩
theorem lw_p21 : lw_okq (⟨"SlideRulesModel", "markOf", "(II)I"⟩, 30) := ⟨⟨by decide +kernel, by decide +kernel⟩, List.mem_of_getElem? (i := 721) (by decide +kernel), List.mem_of_getElem? (i := 920) (by decide +kernel), List.mem_of_getElem? (i := 921) (by decide +kernel)⟩
theorem lw_p22 : lw_okq (⟨"SlideRulesModel", "plainOf", "(I)I"⟩, 30) := ⟨⟨by decide +kernel, by decide +kernel⟩, List.mem_of_getElem? (i := 721) (by decide +kernel), List.mem_of_getElem? (i := 975) (by decide +kernel), List.mem_of_getElem? (i := 976) (by decide +kernel)⟩
theorem lw_p23 : lw_okq (⟨"SlideRulesModel", "plain", "(I)I"⟩, 30) := ⟨⟨by decide +kernel, by decide +kernel⟩, List.mem_of_getElem? (i := 721) (by decide +kernel), List.mem_of_getElem? (i := 979) (by decide +kernel), List.mem_of_getElem? (i := 980) (by decide +kernel)⟩
theorem lw_p24 : lw_okq (⟨"SlideRulesModel", "reading", "(I)I"⟩, 30) := ⟨⟨by decide +kernel, by decide +kernel⟩, List.mem_of_getElem? (i := 721) (by decide +kernel), List.mem_of_getElem? (i := 983) (by decide +kernel), List.mem_of_getElem? (i := 984) (by decide +kernel)⟩
theorem lw_p25 : lw_okq (⟨"SlideRulesModel", "truth", "()I"⟩, 30) := ⟨⟨by decide +kernel, by decide +kernel⟩, List.mem_of_getElem? (i := 721) (by decide +kernel), List.mem_of_getElem? (i := 987) (by decide +kernel), List.mem_of_getElem? (i := 988) (by decide +kernel)⟩
theorem lw_p26 : lw_okq (⟨"SlideRulesModel", "spreads", "()V"⟩, 30) := ⟨⟨by decide +kernel, by decide +kernel⟩, List.mem_of_getElem? (i := 721) (by decide +kernel), List.mem_of_getElem? (i := 1005) (by decide +kernel), List.mem_of_getElem? (i := 1006) (by decide +kernel)⟩
theorem lw_p27 : lw_okq (⟨"SlideRulesModel", "lets", "(II)Z"⟩, 30) := ⟨⟨by decide +kernel, by decide +kernel⟩, List.mem_of_getElem? (i := 721) (by decide +kernel), List.mem_of_getElem? (i := 1010) (by decide +kernel), List.mem_of_getElem? (i := 1011) (by decide +kernel)⟩
theorem lw_p28 : lw_okq (⟨"SlideRulesModel", "leastTo", "(III)I"⟩, 30) := ⟨⟨by decide +kernel, by decide +kernel⟩, List.mem_of_getElem? (i := 721) (by decide +kernel), List.mem_of_getElem? (i := 1014) (by decide +kernel), List.mem_of_getElem? (i := 1015) (by decide +kernel)⟩
theorem lw_p29 : lw_okq (⟨"SlideRulesModel", "has", "(II)Z"⟩, 30) := ⟨⟨by decide +kernel, by decide +kernel⟩, List.mem_of_getElem? (i := 721) (by decide +kernel), List.mem_of_getElem? (i := 1041) (by decide +kernel), List.mem_of_getElem? (i := 1042) (by decide +kernel)⟩
theorem lw_p30 : lw_okq (⟨"SlideRulesModel", "lawPlace", "(II)I"⟩, 30) := ⟨⟨by decide +kernel, by decide +kernel⟩, List.mem_of_getElem? (i := 721) (by decide +kernel), List.mem_of_getElem? (i := 1050) (by decide +kernel), List.mem_of_getElem? (i := 1051) (by decide +kernel)⟩
def lw_privs_2 : List (MethodName × Nat) := [(⟨"SlideRulesModel", "placeOf", "(II)I"⟩, 30), (⟨"SlideRulesModel", "nearestOf", "(JJI)I"⟩, 30), (⟨"SlideRulesModel", "logOf", "(J[J)V"⟩, 30), (⟨"SlideRulesModel", "marksOf", "(I)I"⟩, 30), (⟨"SlideRulesModel", "spanMarks", "(I)I"⟩, 30), (⟨"SlideRulesModel", "markOf", "(II)I"⟩, 30), (⟨"SlideRulesModel", "plainOf", "(I)I"⟩, 30), (⟨"SlideRulesModel", "plain", "(I)I"⟩, 30), (⟨"SlideRulesModel", "reading", "(I)I"⟩, 30), (⟨"SlideRulesModel", "truth", "()I"⟩, 30), (⟨"SlideRulesModel", "spreads", "()V"⟩, 30), (⟨"SlideRulesModel", "lets", "(II)Z"⟩, 30), (⟨"SlideRulesModel", "leastTo", "(III)I"⟩, 30), (⟨"SlideRulesModel", "has", "(II)Z"⟩, 30), (⟨"SlideRulesModel", "lawPlace", "(II)I"⟩, 30)]
theorem lw_r2 : ∀ q ∈ lw_privs_2, lw_okq q := List.forall_mem_cons.mpr ⟨lw_p16, List.forall_mem_cons.mpr ⟨lw_p17, List.forall_mem_cons.mpr ⟨lw_p18, List.forall_mem_cons.mpr ⟨lw_p19, List.forall_mem_cons.mpr ⟨lw_p20, List.forall_mem_cons.mpr ⟨lw_p21, List.forall_mem_cons.mpr ⟨lw_p22, List.forall_mem_cons.mpr ⟨lw_p23, List.forall_mem_cons.mpr ⟨lw_p24, List.forall_mem_cons.mpr ⟨lw_p25, List.forall_mem_cons.mpr ⟨lw_p26, List.forall_mem_cons.mpr ⟨lw_p27, List.forall_mem_cons.mpr ⟨lw_p28, List.forall_mem_cons.mpr ⟨lw_p29, List.forall_mem_cons.mpr ⟨lw_p30, fun _ h => absurd h List.not_mem_nil⟩⟩⟩⟩⟩⟩⟩⟩⟩⟩⟩⟩⟩⟩⟩
def lw_privs : List (MethodName × Nat) := lw_privs_1 ++ (lw_privs_2)
def lw_tbl : List Cond := k2_sels lw_privs ++ tables_1
theorem lw_privs_ok : ∀ q ∈ lw_privs, lw_okq q := by
  show ∀ q ∈ lw_privs_1 ++ (lw_privs_2), lw_okq q
  exact List.forall_mem_append.mpr ⟨lw_r1, lw_r2⟩
/-! names, from what TURN prints of the program (NAMES.whole), by wip/gen/gen01.py -/
def RX0 : String := "SlideRules$Chain"
def TX0 : u_T := fun k => match k with
  | 0 => ("SlideRules$Chain", "factors", "LSlideRules$Row;", true)
  | 1 => ("SlideRules$Chain", "place", "I", false)
  | 2 => ("SlideRules$Chain", "pulled", "I", false)
  | _ => ("SlideRules$Chain", "limbs", "[J", true)
def tyX0 : Nat → FieldType := fun k => match k with
  | 0 => .object "SlideRules$Row"
  | 1 => .int
  | 2 => .int
  | _ => .array .long
theorem nmX0 : ∀ a, a < 4 → ∀ b, b < 4 → a ≠ b → (TX0 a).2.1 ≠ (TX0 b).2.1 := by decide +kernel
theorem tyX0_ok : ∀ k, k < 4 → parseFieldDescriptor (TX0 k).2.2.1 = some (tyX0 k) := by decide +kernel
abbrev cX0_init : ByteArray := prog_2_method_1_code
def yX0_init : MethodName := ⟨RX0, "<init>", "()V"⟩
abbrev cX0_begin : ByteArray := prog_2_method_2_code
def yX0_begin : MethodName := ⟨RX0, "begin", "()V"⟩
abbrev cX0_move : ByteArray := prog_2_method_3_code
def yX0_move : MethodName := ⟨RX0, "move", "(ILSlideRules$PlainScale;)V"⟩
abbrev cX0_walk : ByteArray := prog_2_method_4_code
def yX0_walk : MethodName := ⟨RX0, "walk", "(LSlideRules$PlainScale;)V"⟩
abbrev cX0_truth : ByteArray := prog_2_method_5_code
def yX0_truth : MethodName := ⟨RX0, "truth", "()I"⟩
abbrev cX0_multiplyOut : ByteArray := prog_2_method_6_code
def yX0_multiplyOut : MethodName := ⟨RX0, "multiplyOut", "()V"⟩
abbrev cX0_firstThree : ByteArray := prog_2_method_7_code
def yX0_firstThree : MethodName := ⟨RX0, "firstThree", "(J)I"⟩
def RX1 : String := "SlideRules$Laws"
def TX1 : u_T := fun k => match k with
  | _ => ("SlideRules$Laws", "places", "[I", true)
def tyX1 : Nat → FieldType := fun k => match k with
  | _ => .array .int
theorem nmX1 : ∀ a, a < 1 → ∀ b, b < 1 → a ≠ b → (TX1 a).2.1 ≠ (TX1 b).2.1 := by decide +kernel
theorem tyX1_ok : ∀ k, k < 1 → parseFieldDescriptor (TX1 k).2.2.1 = some (tyX1 k) := by decide +kernel
abbrev cX1_init : ByteArray := prog_3_method_1_code
def yX1_init : MethodName := ⟨RX1, "<init>", "()V"⟩
abbrev cX1_isLaw : ByteArray := prog_3_method_2_code
def yX1_isLaw : MethodName := ⟨RX1, "isLaw", "(I)Z"⟩
abbrev cX1_numberOf : ByteArray := prog_3_method_3_code
def yX1_numberOf : MethodName := ⟨RX1, "numberOf", "(II)J"⟩
abbrev cX1_inOrder : ByteArray := prog_3_method_4_code
def yX1_inOrder : MethodName := ⟨RX1, "inOrder", "(II)I"⟩
abbrev cX1_placeOf : ByteArray := prog_3_method_5_code
def yX1_placeOf : MethodName := ⟨RX1, "placeOf", "(III)I"⟩
abbrev cX1_doublesOf : ByteArray := prog_3_method_6_code
def yX1_doublesOf : MethodName := ⟨RX1, "doublesOf", "(II)I"⟩
abbrev cX1_doublesFrom : ByteArray := prog_3_method_7_code
def yX1_doublesFrom : MethodName := ⟨RX1, "doublesFrom", "(I)I"⟩
def RX2 : String := "SlideRules$Logs"
def TX2 : u_T := fun k => match k with
  | 0 => ("SlideRules$Logs", "highs", "[J", true)
  | 1 => ("SlideRules$Logs", "lows", "[J", true)
  | 2 => ("SlideRules$Logs", "term", "LSlideRules$Wide;", true)
  | 3 => ("SlideRules$Logs", "top", "LSlideRules$Wide;", true)
  | _ => ("SlideRules$Logs", "bottom", "LSlideRules$Wide;", true)
def tyX2 : Nat → FieldType := fun k => match k with
  | 0 => .array .long
  | 1 => .array .long
  | 2 => .object "SlideRules$Wide"
  | 3 => .object "SlideRules$Wide"
  | _ => .object "SlideRules$Wide"
theorem nmX2 : ∀ a, a < 5 → ∀ b, b < 5 → a ≠ b → (TX2 a).2.1 ≠ (TX2 b).2.1 := by decide +kernel
theorem tyX2_ok : ∀ k, k < 5 → parseFieldDescriptor (TX2 k).2.2.1 = some (tyX2 k) := by decide +kernel
abbrev cX2_init : ByteArray := prog_4_method_1_code
def yX2_init : MethodName := ⟨RX2, "<init>", "()V"⟩
abbrev cX2_addGrowth : ByteArray := prog_4_method_2_code
def yX2_addGrowth : MethodName := ⟨RX2, "addGrowth", "(LSlideRules$Wide;II)V"⟩
abbrev cX2_putLog : ByteArray := prog_4_method_3_code
def yX2_putLog : MethodName := ⟨RX2, "putLog", "(LSlideRules$Wide;I)V"⟩
abbrev cX2_placeOf : ByteArray := prog_4_method_4_code
def yX2_placeOf : MethodName := ⟨RX2, "placeOf", "(IIII)I"⟩
def RX3 : String := "SlideRules$Match"
def TX3 : u_T := fun k => match k with
  | 0 => ("SlideRules$Match", "shift", "I", false)
  | _ => ("SlideRules$Match", "many", "I", false)
def tyX3 : Nat → FieldType := fun k => match k with
  | 0 => .int
  | _ => .int
theorem nmX3 : ∀ a, a < 2 → ∀ b, b < 2 → a ≠ b → (TX3 a).2.1 ≠ (TX3 b).2.1 := by decide +kernel
theorem tyX3_ok : ∀ k, k < 2 → parseFieldDescriptor (TX3 k).2.2.1 = some (tyX3 k) := by decide +kernel
abbrev cX3_init : ByteArray := prog_5_method_1_code
def yX3_init : MethodName := ⟨RX3, "<init>", "()V"⟩
abbrev cX3_find : ByteArray := prog_5_method_2_code
def yX3_find : MethodName := ⟨RX3, "find", "(LSlideRules$Row;LSlideRules$Row;)V"⟩
abbrev cX3_alike : ByteArray := prog_5_method_3_code
def yX3_alike : MethodName := ⟨RX3, "alike", "(LSlideRules$Row;ILSlideRules$Row;I)I"⟩
abbrev cX3_weigh : ByteArray := prog_5_method_4_code
def yX3_weigh : MethodName := ⟨RX3, "weigh", "(II)V"⟩
def RX4 : String := "SlideRules$PairSums"
def TX4 : u_T := fun k => match k with
  | 0 => ("SlideRules$PairSums", "worst", "I", false)
  | 1 => ("SlideRules$PairSums", "worstA", "I", false)
  | 2 => ("SlideRules$PairSums", "worstB", "I", false)
  | 3 => ("SlideRules$PairSums", "sum", "I", false)
  | 4 => ("SlideRules$PairSums", "many", "I", false)
  | 5 => ("SlideRules$PairSums", "pulled", "I", false)
  | 6 => ("SlideRules$PairSums", "from", "I", false)
  | 7 => ("SlideRules$PairSums", "to", "I", false)
  | 8 => ("SlideRules$PairSums", "each", "I", false)
  | 9 => ("SlideRules$PairSums", "steps", "I", false)
  | _ => ("SlideRules$PairSums", "chain", "LSlideRules$Chain;", true)
def tyX4 : Nat → FieldType := fun k => match k with
  | 0 => .int
  | 1 => .int
  | 2 => .int
  | 3 => .int
  | 4 => .int
  | 5 => .int
  | 6 => .int
  | 7 => .int
  | 8 => .int
  | 9 => .int
  | _ => .object "SlideRules$Chain"
theorem nmX4 : ∀ a, a < 11 → ∀ b, b < 11 → a ≠ b → (TX4 a).2.1 ≠ (TX4 b).2.1 := by decide +kernel
theorem tyX4_ok : ∀ k, k < 11 → parseFieldDescriptor (TX4 k).2.2.1 = some (tyX4 k) := by decide +kernel
abbrev cX4_init : ByteArray := prog_6_method_1_code
def yX4_init : MethodName := ⟨RX4, "<init>", "()V"⟩
abbrev cX4_sumUp : ByteArray := prog_6_method_2_code
def yX4_sumUp : MethodName := ⟨RX4, "sumUp", "(IIILSlideRules$PlainScale;)V"⟩
abbrev cX4_take : ByteArray := prog_6_method_3_code
def yX4_take : MethodName := ⟨RX4, "take", "(IILSlideRules$PlainScale;)V"⟩
def RX5 : String := "SlideRules$PlainScale"
def TX5 : u_T := fun k => match k with
  | 0 => ("SlideRules$PlainScale", "steps", "I", false)
  | _ => ("SlideRules$PlainScale", "places", "[I", true)
def tyX5 : Nat → FieldType := fun k => match k with
  | 0 => .int
  | _ => .array .int
theorem nmX5 : ∀ a, a < 2 → ∀ b, b < 2 → a ≠ b → (TX5 a).2.1 ≠ (TX5 b).2.1 := by decide +kernel
theorem tyX5_ok : ∀ k, k < 2 → parseFieldDescriptor (TX5 k).2.2.1 = some (tyX5 k) := by decide +kernel
abbrev cX5_init : ByteArray := prog_7_method_1_code
def yX5_init : MethodName := ⟨RX5, "<init>", "()V"⟩
abbrev cX5_cutFor : ByteArray := prog_7_method_2_code
def yX5_cutFor : MethodName := ⟨RX5, "cutFor", "(ILSlideRules$Logs;)V"⟩
abbrev cX5_placeOf : ByteArray := prog_7_method_3_code
def yX5_placeOf : MethodName := ⟨RX5, "placeOf", "(I)I"⟩
abbrev cX5_firstFrom : ByteArray := prog_7_method_4_code
def yX5_firstFrom : MethodName := ⟨RX5, "firstFrom", "(I)I"⟩
abbrev cX5_readingOf : ByteArray := prog_7_method_5_code
def yX5_readingOf : MethodName := ⟨RX5, "readingOf", "(I)I"⟩
def RX6 : String := "SlideRules$Row"
def TX6 : u_T := fun k => match k with
  | 0 => ("SlideRules$Row", "values", "[I", true)
  | _ => ("SlideRules$Row", "size", "I", false)
def tyX6 : Nat → FieldType := fun k => match k with
  | 0 => .array .int
  | _ => .int
theorem nmX6 : ∀ a, a < 2 → ∀ b, b < 2 → a ≠ b → (TX6 a).2.1 ≠ (TX6 b).2.1 := by decide +kernel
theorem tyX6_ok : ∀ k, k < 2 → parseFieldDescriptor (TX6 k).2.2.1 = some (tyX6 k) := by decide +kernel
abbrev cX6_init : ByteArray := prog_8_method_1_code
def yX6_init : MethodName := ⟨RX6, "<init>", "(I)V"⟩
abbrev cX6_isFull : ByteArray := prog_8_method_2_code
def yX6_isFull : MethodName := ⟨RX6, "isFull", "()Z"⟩
abbrev cX6_append : ByteArray := prog_8_method_3_code
def yX6_append : MethodName := ⟨RX6, "append", "(I)I"⟩
abbrev cX6_empty : ByteArray := prog_8_method_4_code
def yX6_empty : MethodName := ⟨RX6, "empty", "()I"⟩
abbrev cX6_last : ByteArray := prog_8_method_5_code
def yX6_last : MethodName := ⟨RX6, "last", "()I"⟩
abbrev cX6_digestOnto : ByteArray := prog_8_method_6_code
def yX6_digestOnto : MethodName := ⟨RX6, "digestOnto", "(J)J"⟩
def RX7 : String := "SlideRules$Scale"
def TX7 : u_T := fun k => match k with
  | 0 => ("SlideRules$Scale", "onSlide", "Z", true)
  | 1 => ("SlideRules$Scale", "parts", "I", true)
  | 2 => ("SlideRules$Scale", "fold", "I", true)
  | 3 => ("SlideRules$Scale", "turned", "Z", true)
  | 4 => ("SlideRules$Scale", "marks", "LSlideRules$Row;", true)
  | 5 => ("SlideRules$Scale", "spans", "I", false)
  | 6 => ("SlideRules$Scale", "froms", "[I", true)
  | 7 => ("SlideRules$Scale", "tos", "[I", true)
  | 8 => ("SlideRules$Scale", "eachs", "[I", true)
  | 9 => ("SlideRules$Scale", "places", "[I", true)
  | 10 => ("SlideRules$Scale", "placed", "I", false)
  | _ => ("SlideRules$Scale", "placedSteps", "I", false)
def tyX7 : Nat → FieldType := fun k => match k with
  | 0 => .boolean
  | 1 => .int
  | 2 => .int
  | 3 => .boolean
  | 4 => .object "SlideRules$Row"
  | 5 => .int
  | 6 => .array .int
  | 7 => .array .int
  | 8 => .array .int
  | 9 => .array .int
  | 10 => .int
  | _ => .int
theorem nmX7 : ∀ a, a < 12 → ∀ b, b < 12 → a ≠ b → (TX7 a).2.1 ≠ (TX7 b).2.1 := by decide +kernel
theorem tyX7_ok : ∀ k, k < 12 → parseFieldDescriptor (TX7 k).2.2.1 = some (tyX7 k) := by decide +kernel
abbrev cX7_init : ByteArray := prog_9_method_1_code
def yX7_init : MethodName := ⟨RX7, "<init>", "(ZIIZ)V"⟩
abbrev cX7_placeOf : ByteArray := prog_9_method_2_code
def yX7_placeOf : MethodName := ⟨RX7, "placeOf", "(IILSlideRules$Logs;)I"⟩
abbrev cX7_lastTo : ByteArray := prog_9_method_3_code
def yX7_lastTo : MethodName := ⟨RX7, "lastTo", "()I"⟩
abbrev cX7_hasRoomFor : ByteArray := prog_9_method_4_code
def yX7_hasRoomFor : MethodName := ⟨RX7, "hasRoomFor", "(I)Z"⟩
abbrev cX7_addSpan : ByteArray := prog_9_method_5_code
def yX7_addSpan : MethodName := ⟨RX7, "addSpan", "(III)V"⟩
abbrev cX7_numberAt : ByteArray := prog_9_method_6_code
def yX7_numberAt : MethodName := ⟨RX7, "numberAt", "(I)I"⟩
abbrev cX7_placeMarks : ByteArray := prog_9_method_7_code
def yX7_placeMarks : MethodName := ⟨RX7, "placeMarks", "(ILSlideRules$Logs;)V"⟩
abbrev cX7_gapBehind : ByteArray := prog_9_method_8_code
def yX7_gapBehind : MethodName := ⟨RX7, "gapBehind", "(I)I"⟩
abbrev cX7_firstOfClosest : ByteArray := prog_9_method_9_code
def yX7_firstOfClosest : MethodName := ⟨RX7, "firstOfClosest", "()I"⟩
abbrev cX7_nearestTo : ByteArray := prog_9_method_10_code
def yX7_nearestTo : MethodName := ⟨RX7, "nearestTo", "(I)I"⟩
abbrev cX7_readBetween : ByteArray := prog_9_method_11_code
def yX7_readBetween : MethodName := ⟨RX7, "readBetween", "(I)I"⟩
abbrev cX7_digestOnto : ByteArray := prog_9_method_12_code
def yX7_digestOnto : MethodName := ⟨RX7, "digestOnto", "(J)J"⟩
def RX8 : String := "SlideRules$Settings"
def TX8 : u_T := fun k => match k with
  | 0 => ("SlideRules$Settings", "multiplies", "[Z", true)
  | 1 => ("SlideRules$Settings", "divides", "[Z", true)
  | 2 => ("SlideRules$Settings", "away", "[[I", true)
  | _ => ("SlideRules$Settings", "now", "[I", true)
def tyX8 : Nat → FieldType := fun k => match k with
  | 0 => .array .boolean
  | 1 => .array .boolean
  | 2 => .array (.array .int)
  | _ => .array .int
theorem nmX8 : ∀ a, a < 4 → ∀ b, b < 4 → a ≠ b → (TX8 a).2.1 ≠ (TX8 b).2.1 := by decide +kernel
theorem tyX8_ok : ∀ k, k < 4 → parseFieldDescriptor (TX8 k).2.2.1 = some (tyX8 k) := by decide +kernel
abbrev cX8_init : ByteArray := prog_10_method_1_code
def yX8_init : MethodName := ⟨RX8, "<init>", "()V"⟩
abbrev cX8_forgetParts : ByteArray := prog_10_method_2_code
def yX8_forgetParts : MethodName := ⟨RX8, "forgetParts", "()V"⟩
abbrev cX8_allow : ByteArray := prog_10_method_3_code
def yX8_allow : MethodName := ⟨RX8, "allow", "(IZ)V"⟩
abbrev cX8_aimAt : ByteArray := prog_10_method_4_code
def yX8_aimAt : MethodName := ⟨RX8, "aimAt", "(III)V"⟩
abbrev cX8_measure : ByteArray := prog_10_method_5_code
def yX8_measure : MethodName := ⟨RX8, "measure", "([II)V"⟩
abbrev cX8_reachBack : ByteArray := prog_10_method_6_code
def yX8_reachBack : MethodName := ⟨RX8, "reachBack", "([II)V"⟩
abbrev cX8_fewestToGoal : ByteArray := prog_10_method_7_code
def yX8_fewestToGoal : MethodName := ⟨RX8, "fewestToGoal", "()I"⟩
abbrev cX8_codeAt : ByteArray := prog_10_method_8_code
def yX8_codeAt : MethodName := ⟨RX8, "codeAt", "(I)I"⟩
abbrev cX8_makeFirst : ByteArray := prog_10_method_9_code
def yX8_makeFirst : MethodName := ⟨RX8, "makeFirst", "()I"⟩
abbrev cX8_isNearer : ByteArray := prog_10_method_10_code
def yX8_isNearer : MethodName := ⟨RX8, "isNearer", "(II)Z"⟩
def RX9 : String := "SlideRules$Strip"
def TX9 : u_T := fun k => match k with
  | _ => ("SlideRules$Strip", "places", "LSlideRules$Row;", true)
def tyX9 : Nat → FieldType := fun k => match k with
  | _ => .object "SlideRules$Row"
theorem nmX9 : ∀ a, a < 1 → ∀ b, b < 1 → a ≠ b → (TX9 a).2.1 ≠ (TX9 b).2.1 := by decide +kernel
theorem tyX9_ok : ∀ k, k < 1 → parseFieldDescriptor (TX9 k).2.2.1 = some (tyX9 k) := by decide +kernel
abbrev cX9_init : ByteArray := prog_11_method_1_code
def yX9_init : MethodName := ⟨RX9, "<init>", "()V"⟩
abbrev cX9_choose : ByteArray := prog_11_method_2_code
def yX9_choose : MethodName := ⟨RX9, "choose", "(II)I"⟩
def RX10 : String := "SlideRules$Wide"
def TX10 : u_T := fun k => match k with
  | 0 => ("SlideRules$Wide", "high", "J", false)
  | _ => ("SlideRules$Wide", "low", "J", false)
def tyX10 : Nat → FieldType := fun k => match k with
  | 0 => .long
  | _ => .long
theorem nmX10 : ∀ a, a < 2 → ∀ b, b < 2 → a ≠ b → (TX10 a).2.1 ≠ (TX10 b).2.1 := by decide +kernel
theorem tyX10_ok : ∀ k, k < 2 → parseFieldDescriptor (TX10 k).2.2.1 = some (tyX10 k) := by decide +kernel
abbrev cX10_init : ByteArray := prog_12_method_1_code
def yX10_init : MethodName := ⟨RX10, "<init>", "()V"⟩
abbrev cX10_put : ByteArray := prog_12_method_2_code
def yX10_put : MethodName := ⟨RX10, "put", "(JJ)V"⟩
abbrev cX10_addPart : ByteArray := prog_12_method_3_code
def yX10_addPart : MethodName := ⟨RX10, "addPart", "(LSlideRules$Wide;I)V"⟩
abbrev cX10_subtract : ByteArray := prog_12_method_4_code
def yX10_subtract : MethodName := ⟨RX10, "subtract", "(LSlideRules$Wide;)V"⟩
abbrev cX10_shrink : ByteArray := prog_12_method_5_code
def yX10_shrink : MethodName := ⟨RX10, "shrink", "(II)V"⟩
abbrev cX10_isZero : ByteArray := prog_12_method_6_code
def yX10_isZero : MethodName := ⟨RX10, "isZero", "()Z"⟩
abbrev cX10_floorTimes : ByteArray := prog_12_method_7_code
def yX10_floorTimes : MethodName := ⟨RX10, "floorTimes", "(I)J"⟩
def RX11 : String := "SlideRules"
def TX11 : u_T := fun k => match k with
  | 0 => ("SlideRules", "logs", "LSlideRules$Logs;", true)
  | 1 => ("SlideRules", "plain", "LSlideRules$PlainScale;", true)
  | 2 => ("SlideRules", "scales", "[LSlideRules$Scale;", true)
  | 3 => ("SlideRules", "chain", "LSlideRules$Chain;", true)
  | 4 => ("SlideRules", "sums", "LSlideRules$PairSums;", true)
  | 5 => ("SlideRules", "settings", "LSlideRules$Settings;", true)
  | 6 => ("SlideRules", "strips", "[LSlideRules$Strip;", true)
  | 7 => ("SlideRules", "match", "LSlideRules$Match;", true)
  | 8 => ("SlideRules", "laws", "LSlideRules$Laws;", true)
  | 9 => ("SlideRules", "scaleCount", "I", false)
  | 10 => ("SlideRules", "steps", "I", false)
  | _ => ("SlideRules", "off", "I", false)
def tyX11 : Nat → FieldType := fun k => match k with
  | 0 => .object "SlideRules$Logs"
  | 1 => .object "SlideRules$PlainScale"
  | 2 => .array (.object "SlideRules$Scale")
  | 3 => .object "SlideRules$Chain"
  | 4 => .object "SlideRules$PairSums"
  | 5 => .object "SlideRules$Settings"
  | 6 => .array (.object "SlideRules$Strip")
  | 7 => .object "SlideRules$Match"
  | 8 => .object "SlideRules$Laws"
  | 9 => .int
  | 10 => .int
  | _ => .int
theorem nmX11 : ∀ a, a < 12 → ∀ b, b < 12 → a ≠ b → (TX11 a).2.1 ≠ (TX11 b).2.1 := by decide +kernel
theorem tyX11_ok : ∀ k, k < 12 → parseFieldDescriptor (TX11 k).2.2.1 = some (tyX11 k) := by decide +kernel
abbrev cX11_init : ByteArray := prog_1_method_1_code
def yX11_init : MethodName := ⟨RX11, "<init>", "()V"⟩
abbrev cX11_rule : ByteArray := prog_1_method_2_code
def yX11_rule : MethodName := ⟨RX11, "rule", "(I)I"⟩
abbrev cX11_scale : ByteArray := prog_1_method_3_code
def yX11_scale : MethodName := ⟨RX11, "scale", "(ZIIZ)I"⟩
abbrev cX11_place : ByteArray := prog_1_method_4_code
def yX11_place : MethodName := ⟨RX11, "place", "(II)I"⟩
abbrev cX11_span : ByteArray := prog_1_method_5_code
def yX11_span : MethodName := ⟨RX11, "span", "(IIII)I"⟩
abbrev cX11_mark : ByteArray := prog_1_method_6_code
def yX11_mark : MethodName := ⟨RX11, "mark", "(II)I"⟩
abbrev cX11_marks : ByteArray := prog_1_method_7_code
def yX11_marks : MethodName := ⟨RX11, "marks", "(I)I"⟩
abbrev cX11_closest : ByteArray := prog_1_method_8_code
def yX11_closest : MethodName := ⟨RX11, "closest", "(II)I"⟩
abbrev cX11_off : ByteArray := prog_1_method_9_code
def yX11_off : MethodName := ⟨RX11, "off", "(I)I"⟩
abbrev cX11_set : ByteArray := prog_1_method_10_code
def yX11_set : MethodName := ⟨RX11, "set", "(IIII)I"⟩
abbrev cX11_against : ByteArray := prog_1_method_11_code
def yX11_against : MethodName := ⟨RX11, "against", "(III)I"⟩
abbrev cX11_nearest : ByteArray := prog_1_method_12_code
def yX11_nearest : MethodName := ⟨RX11, "nearest", "(II)I"⟩
abbrev cX11_between : ByteArray := prog_1_method_13_code
def yX11_between : MethodName := ⟨RX11, "between", "(II)I"⟩
abbrev cX11_factor : ByteArray := prog_1_method_14_code
def yX11_factor : MethodName := ⟨RX11, "factor", "(I)I"⟩
abbrev cX11_clear : ByteArray := prog_1_method_15_code
def yX11_clear : MethodName := ⟨RX11, "clear", "()I"⟩
abbrev cX11_chain : ByteArray := prog_1_method_16_code
def yX11_chain : MethodName := ⟨RX11, "chain", "(I)I"⟩
abbrev cX11_pairs : ByteArray := prog_1_method_17_code
def yX11_pairs : MethodName := ⟨RX11, "pairs", "(IIII)I"⟩
abbrev cX11_fewest : ByteArray := prog_1_method_18_code
def yX11_fewest : MethodName := ⟨RX11, "fewest", "(III)I"⟩
abbrev cX11_setting : ByteArray := prog_1_method_19_code
def yX11_setting : MethodName := ⟨RX11, "setting", "(IIII)I"⟩
abbrev cX11_cut : ByteArray := prog_1_method_20_code
def yX11_cut : MethodName := ⟨RX11, "cut", "(II)I"⟩
abbrev cX11_wipe : ByteArray := prog_1_method_21_code
def yX11_wipe : MethodName := ⟨RX11, "wipe", "(I)I"⟩
abbrev cX11_chosen : ByteArray := prog_1_method_22_code
def yX11_chosen : MethodName := ⟨RX11, "chosen", "(III)I"⟩
abbrev cX11_match : ByteArray := prog_1_method_23_code
def yX11_match : MethodName := ⟨RX11, "match", "(I)I"⟩
abbrev cX11_law : ByteArray := prog_1_method_24_code
def yX11_law : MethodName := ⟨RX11, "law", "(II)I"⟩
abbrev cX11_doubled : ByteArray := prog_1_method_25_code
def yX11_doubled : MethodName := ⟨RX11, "doubled", "(I)I"⟩
abbrev cX11_count : ByteArray := prog_1_method_26_code
def yX11_count : MethodName := ⟨RX11, "count", "(I)I"⟩
abbrev cX11_digest : ByteArray := prog_1_method_27_code
def yX11_digest : MethodName := ⟨RX11, "digest", "()J"⟩
abbrev cX11_scaleAt : ByteArray := prog_1_method_28_code
def yX11_scaleAt : MethodName := ⟨RX11, "scaleAt", "(I)LSlideRules$Scale;"⟩
abbrev cX11_isNumber : ByteArray := prog_1_method_29_code
def yX11_isNumber : MethodName := ⟨RX11, "isNumber", "(I)Z"⟩
abbrev cX11_isFactor : ByteArray := prog_1_method_30_code
def yX11_isFactor : MethodName := ⟨RX11, "isFactor", "(I)Z"⟩
abbrev cX11_isAskedPlace : ByteArray := prog_1_method_31_code
def yX11_isAskedPlace : MethodName := ⟨RX11, "isAskedPlace", "(I)Z"⟩
abbrev cX11_isPower : ByteArray := prog_1_method_32_code
def yX11_isPower : MethodName := ⟨RX11, "isPower", "(I)Z"⟩
abbrev cX11_isStrip : ByteArray := prog_1_method_33_code
def yX11_isStrip : MethodName := ⟨RX11, "isStrip", "(I)Z"⟩
abbrev cX11_scalesOnSlide : ByteArray := prog_1_method_34_code
def yX11_scalesOnSlide : MethodName := ⟨RX11, "scalesOnSlide", "()I"⟩
abbrev cX11_aimSettings : ByteArray := prog_1_method_35_code
def yX11_aimSettings : MethodName := ⟨RX11, "aimSettings", "(III)V"⟩
def RX12 : String := "SlideRulesModel"
def TX12 : u_T := fun k => match k with
  | 0 => ("SlideRulesModel", "length", "I", false)
  | 1 => ("SlideRulesModel", "scales", "I", false)
  | 2 => ("SlideRulesModel", "isSlide", "[Z", true)
  | 3 => ("SlideRulesModel", "parts", "[I", true)
  | 4 => ("SlideRulesModel", "fold", "[I", true)
  | 5 => ("SlideRulesModel", "isTurned", "[Z", true)
  | 6 => ("SlideRulesModel", "spans", "[I", true)
  | 7 => ("SlideRulesModel", "spanFrom", "[I", true)
  | 8 => ("SlideRulesModel", "spanTo", "[I", true)
  | 9 => ("SlideRulesModel", "spanBy", "[I", true)
  | 10 => ("SlideRulesModel", "off", "I", false)
  | 11 => ("SlideRulesModel", "factors", "I", false)
  | 12 => ("SlideRulesModel", "factor", "[I", true)
  | 13 => ("SlideRulesModel", "strips", "[I", true)
  | 14 => ("SlideRulesModel", "strip", "[I", true)
  | 15 => ("SlideRulesModel", "two", "[J", true)
  | 16 => ("SlideRulesModel", "ten", "[J", true)
  | 17 => ("SlideRulesModel", "term", "[J", true)
  | 18 => ("SlideRulesModel", "share", "[J", true)
  | 19 => ("SlideRulesModel", "one", "[J", true)
  | 20 => ("SlideRulesModel", "other", "[J", true)
  | 21 => ("SlideRulesModel", "left", "[J", true)
  | 22 => ("SlideRulesModel", "right", "[J", true)
  | 23 => ("SlideRulesModel", "found", "[I", true)
  | 24 => ("SlideRulesModel", "foundFor", "I", false)
  | 25 => ("SlideRulesModel", "plains", "[I", true)
  | 26 => ("SlideRulesModel", "plainsFor", "I", false)
  | 27 => ("SlideRulesModel", "figures", "[I", true)
  | 28 => ("SlideRulesModel", "least", "[I", true)
  | _ => ("SlideRulesModel", "laid", "[I", true)
def tyX12 : Nat → FieldType := fun k => match k with
  | 0 => .int
  | 1 => .int
  | 2 => .array .boolean
  | 3 => .array .int
  | 4 => .array .int
  | 5 => .array .boolean
  | 6 => .array .int
  | 7 => .array .int
  | 8 => .array .int
  | 9 => .array .int
  | 10 => .int
  | 11 => .int
  | 12 => .array .int
  | 13 => .array .int
  | 14 => .array .int
  | 15 => .array .long
  | 16 => .array .long
  | 17 => .array .long
  | 18 => .array .long
  | 19 => .array .long
  | 20 => .array .long
  | 21 => .array .long
  | 22 => .array .long
  | 23 => .array .int
  | 24 => .int
  | 25 => .array .int
  | 26 => .int
  | 27 => .array .int
  | 28 => .array .int
  | _ => .array .int
theorem nmX12 : ∀ a, a < 30 → ∀ b, b < 30 → a ≠ b → (TX12 a).2.1 ≠ (TX12 b).2.1 := by decide +kernel
theorem tyX12_ok : ∀ k, k < 30 → parseFieldDescriptor (TX12 k).2.2.1 = some (tyX12 k) := by decide +kernel
abbrev cX12_init : ByteArray := prog_14_method_1_code
def yX12_init : MethodName := ⟨RX12, "<init>", "()V"⟩
abbrev cX12_in : ByteArray := prog_14_method_2_code
def yX12_in : MethodName := ⟨RX12, "in", "(JJJ)Z"⟩
abbrev cX12_sets : ByteArray := prog_14_method_3_code
def yX12_sets : MethodName := ⟨RX12, "sets", "([JJ)V"⟩
abbrev cX12_copies : ByteArray := prog_14_method_4_code
def yX12_copies : MethodName := ⟨RX12, "copies", "([J[J)V"⟩
abbrev cX12_adds : ByteArray := prog_14_method_5_code
def yX12_adds : MethodName := ⟨RX12, "adds", "([J[J)V"⟩
abbrev cX12_takes : ByteArray := prog_14_method_6_code
def yX12_takes : MethodName := ⟨RX12, "takes", "([J[J)V"⟩
abbrev cX12_times : ByteArray := prog_14_method_7_code
def yX12_times : MethodName := ⟨RX12, "times", "([JJ)V"⟩
abbrev cX12_divides : ByteArray := prog_14_method_8_code
def yX12_divides : MethodName := ⟨RX12, "divides", "([JJ)V"⟩
abbrev cX12_isNought : ByteArray := prog_14_method_9_code
def yX12_isNought : MethodName := ⟨RX12, "isNought", "([J)Z"⟩
abbrev cX12_isLess : ByteArray := prog_14_method_10_code
def yX12_isLess : MethodName := ⟨RX12, "isLess", "([J[J)Z"⟩
abbrev cX12_natural : ByteArray := prog_14_method_11_code
def yX12_natural : MethodName := ⟨RX12, "natural", "(JJ[J)V"⟩
abbrev cX12_logOf : ByteArray := prog_14_method_12_code
def yX12_logOf : MethodName := ⟨RX12, "logOf", "(J[J)V"⟩
abbrev cX12_down : ByteArray := prog_14_method_13_code
def yX12_down : MethodName := ⟨RX12, "down", "(JJ)J"⟩
abbrev cX12_tens : ByteArray := prog_14_method_14_code
def yX12_tens : MethodName := ⟨RX12, "tens", "(JJ)I"⟩
abbrev cX12_nearestOf : ByteArray := prog_14_method_15_code
def yX12_nearestOf : MethodName := ⟨RX12, "nearestOf", "(JJI)I"⟩
abbrev cX12_plain : ByteArray := prog_14_method_16_code
def yX12_plain : MethodName := ⟨RX12, "plain", "(I)I"⟩
abbrev cX12_placeOf : ByteArray := prog_14_method_17_code
def yX12_placeOf : MethodName := ⟨RX12, "placeOf", "(II)I"⟩
abbrev cX12_isScale : ByteArray := prog_14_method_18_code
def yX12_isScale : MethodName := ⟨RX12, "isScale", "(I)Z"⟩
abbrev cX12_isNumber : ByteArray := prog_14_method_19_code
def yX12_isNumber : MethodName := ⟨RX12, "isNumber", "(I)Z"⟩
abbrev cX12_rule : ByteArray := prog_14_method_20_code
def yX12_rule : MethodName := ⟨RX12, "rule", "(I)I"⟩
abbrev cX12_scale : ByteArray := prog_14_method_21_code
def yX12_scale : MethodName := ⟨RX12, "scale", "(ZIIZ)I"⟩
abbrev cX12_place : ByteArray := prog_14_method_22_code
def yX12_place : MethodName := ⟨RX12, "place", "(II)I"⟩
abbrev cX12_spanMarks : ByteArray := prog_14_method_23_code
def yX12_spanMarks : MethodName := ⟨RX12, "spanMarks", "(I)I"⟩
abbrev cX12_marksOf : ByteArray := prog_14_method_24_code
def yX12_marksOf : MethodName := ⟨RX12, "marksOf", "(I)I"⟩
abbrev cX12_markOf : ByteArray := prog_14_method_25_code
def yX12_markOf : MethodName := ⟨RX12, "markOf", "(II)I"⟩
abbrev cX12_span : ByteArray := prog_14_method_26_code
def yX12_span : MethodName := ⟨RX12, "span", "(IIII)I"⟩
abbrev cX12_mark : ByteArray := prog_14_method_27_code
def yX12_mark : MethodName := ⟨RX12, "mark", "(II)I"⟩
abbrev cX12_marks : ByteArray := prog_14_method_28_code
def yX12_marks : MethodName := ⟨RX12, "marks", "(I)I"⟩
abbrev cX12_size : ByteArray := prog_14_method_29_code
def yX12_size : MethodName := ⟨RX12, "size", "(I)I"⟩
abbrev cX12_closest : ByteArray := prog_14_method_30_code
def yX12_closest : MethodName := ⟨RX12, "closest", "(II)I"⟩
abbrev cX12_off : ByteArray := prog_14_method_31_code
def yX12_off : MethodName := ⟨RX12, "off", "(I)I"⟩
abbrev cX12_set : ByteArray := prog_14_method_32_code
def yX12_set : MethodName := ⟨RX12, "set", "(IIII)I"⟩
abbrev cX12_against : ByteArray := prog_14_method_33_code
def yX12_against : MethodName := ⟨RX12, "against", "(III)I"⟩
abbrev cX12_isPlace : ByteArray := prog_14_method_34_code
def yX12_isPlace : MethodName := ⟨RX12, "isPlace", "(I)Z"⟩
abbrev cX12_nearest : ByteArray := prog_14_method_35_code
def yX12_nearest : MethodName := ⟨RX12, "nearest", "(II)I"⟩
abbrev cX12_between : ByteArray := prog_14_method_36_code
def yX12_between : MethodName := ⟨RX12, "between", "(II)I"⟩
abbrev cX12_factor : ByteArray := prog_14_method_37_code
def yX12_factor : MethodName := ⟨RX12, "factor", "(I)I"⟩
abbrev cX12_clear : ByteArray := prog_14_method_38_code
def yX12_clear : MethodName := ⟨RX12, "clear", "()I"⟩
abbrev cX12_plainOf : ByteArray := prog_14_method_39_code
def yX12_plainOf : MethodName := ⟨RX12, "plainOf", "(I)I"⟩
abbrev cX12_reading : ByteArray := prog_14_method_40_code
def yX12_reading : MethodName := ⟨RX12, "reading", "(I)I"⟩
abbrev cX12_truth : ByteArray := prog_14_method_41_code
def yX12_truth : MethodName := ⟨RX12, "truth", "()I"⟩
abbrev cX12_chain : ByteArray := prog_14_method_42_code
def yX12_chain : MethodName := ⟨RX12, "chain", "(I)I"⟩
abbrev cX12_pairs : ByteArray := prog_14_method_43_code
def yX12_pairs : MethodName := ⟨RX12, "pairs", "(IIII)I"⟩
abbrev cX12_lets : ByteArray := prog_14_method_44_code
def yX12_lets : MethodName := ⟨RX12, "lets", "(II)Z"⟩
abbrev cX12_spreads : ByteArray := prog_14_method_45_code
def yX12_spreads : MethodName := ⟨RX12, "spreads", "()V"⟩
abbrev cX12_isPower : ByteArray := prog_14_method_46_code
def yX12_isPower : MethodName := ⟨RX12, "isPower", "(I)Z"⟩
abbrev cX12_leastTo : ByteArray := prog_14_method_47_code
def yX12_leastTo : MethodName := ⟨RX12, "leastTo", "(III)I"⟩
abbrev cX12_fewest : ByteArray := prog_14_method_48_code
def yX12_fewest : MethodName := ⟨RX12, "fewest", "(III)I"⟩
abbrev cX12_setting : ByteArray := prog_14_method_49_code
def yX12_setting : MethodName := ⟨RX12, "setting", "(IIII)I"⟩
abbrev cX12_isStrip : ByteArray := prog_14_method_50_code
def yX12_isStrip : MethodName := ⟨RX12, "isStrip", "(I)Z"⟩
abbrev cX12_cut : ByteArray := prog_14_method_51_code
def yX12_cut : MethodName := ⟨RX12, "cut", "(II)I"⟩
abbrev cX12_wipe : ByteArray := prog_14_method_52_code
def yX12_wipe : MethodName := ⟨RX12, "wipe", "(I)I"⟩
abbrev cX12_chosen : ByteArray := prog_14_method_53_code
def yX12_chosen : MethodName := ⟨RX12, "chosen", "(III)I"⟩
abbrev cX12_has : ByteArray := prog_14_method_54_code
def yX12_has : MethodName := ⟨RX12, "has", "(II)Z"⟩
abbrev cX12_match : ByteArray := prog_14_method_55_code
def yX12_match : MethodName := ⟨RX12, "match", "(I)I"⟩
abbrev cX12_numberOf : ByteArray := prog_14_method_56_code
def yX12_numberOf : MethodName := ⟨RX12, "numberOf", "(II)J"⟩
abbrev cX12_lawPlace : ByteArray := prog_14_method_57_code
def yX12_lawPlace : MethodName := ⟨RX12, "lawPlace", "(II)I"⟩
abbrev cX12_law : ByteArray := prog_14_method_58_code
def yX12_law : MethodName := ⟨RX12, "law", "(II)I"⟩
abbrev cX12_doubled : ByteArray := prog_14_method_59_code
def yX12_doubled : MethodName := ⟨RX12, "doubled", "(I)I"⟩
abbrev cX12_count : ByteArray := prog_14_method_60_code
def yX12_count : MethodName := ⟨RX12, "count", "(I)I"⟩
abbrev cX12_digest : ByteArray := prog_14_method_61_code
def yX12_digest : MethodName := ⟨RX12, "digest", "()J"⟩
def RJ9 : String := "java/lang/Math"
def TJ9 : u_T := fun k => match k with
  | _ => ("", "", "", false)
def tyJ9 : Nat → FieldType := fun k => match k with
  | _ => .int
abbrev cJ9_floorDiv_f86c9 : ByteArray := prog_15_method_49_code
def yJ9_floorDiv_f86c9 : MethodName := ⟨RJ9, "floorDiv", "(JJ)J"⟩
abbrev cJ9_abs_0f7a4 : ByteArray := prog_15_method_59_code
def yJ9_abs_0f7a4 : MethodName := ⟨RJ9, "abs", "(I)I"⟩
abbrev cJ9_max_7cf53 : ByteArray := prog_15_method_65_code
def yJ9_max_7cf53 : MethodName := ⟨RJ9, "max", "(II)I"⟩
abbrev cJ9_min_7cf53 : ByteArray := prog_15_method_69_code
def yJ9_min_7cf53 : MethodName := ⟨RJ9, "min", "(II)I"⟩
def RL : String := "SlideRulesLaw"
abbrev cL_law : ByteArray := code
def yL_law : MethodName := ⟨RL, "law", "([I)Z"⟩
abbrev vwCl : List vw_C := [(RX0, TX0, 4), (RX1, TX1, 1), (RX2, TX2, 5), (RX3, TX3, 2), (RX4, TX4, 11), (RX5, TX5, 2), (RX6, TX6, 2), (RX7, TX7, 12), (RX8, TX8, 4), (RX9, TX9, 1), (RX10, TX10, 2), (RX11, TX11, 12), (RX12, TX12, 30)]
/-! the words that every method here is given -/
def zT : List Cond := lw_tbl.filter goodWord
theorem zin {w : Cond} (i : Nat) (h : lw_tbl[i]? = some w) (hg : goodWord w = true) : w ∈ zT := List.mem_filter.mpr ⟨List.mem_of_getElem? h, hg⟩
theorem zT_good : ∀ w ∈ zT, (w.onTables && w.keeps) = true ∨ ∃ ty, w = .arrayClass ty := fun _ h => good_of_word (List.mem_filter.mp h).2
def zsub : List Cond → List Cond → Bool
  | [], _ => true
  | _ :: _, [] => false
  | w :: ws, v :: vs => if w = v then goodWord w && zsub ws vs else zsub (w :: ws) vs
theorem zsub_mem : ∀ (vs ws : List Cond), zsub ws vs = true → ∀ w ∈ ws, w ∈ vs ∧ goodWord w = true
  | _, [], _, w, hw => absurd hw List.not_mem_nil
  | [], _ :: _, h, _, _ => by simp [zsub] at h
  | v :: vs, a :: ws, h, w, hw => by
    unfold zsub at h
    by_cases e : a = v
    · rw [if_pos e, Bool.and_eq_true] at h
      rcases List.mem_cons.mp hw with rfl | hw
      · exact ⟨by rw [e]; exact List.mem_cons_self, h.1⟩
      · have := zsub_mem vs ws h.2 w hw
        exact ⟨List.mem_cons_of_mem _ this.1, this.2⟩
    · rw [if_neg e] at h
      have := zsub_mem vs (a :: ws) h w hw
      exact ⟨List.mem_cons_of_mem _ this.1, this.2⟩
theorem zsub_in {ws : List Cond} (n : Nat) (h : zsub ws (lw_tbl.drop n) = true) : ∀ w ∈ ws, w ∈ zT := fun w hw => by
  have := zsub_mem _ _ h w hw
  exact List.mem_filter.mpr ⟨List.mem_of_mem_drop this.1, this.2⟩
def zwl_0 : List Cond := [Cond.selects "SlideRules$Logs" (⟨"SlideRules$Logs", "addGrowth", "(LSlideRules$Wide;II)V"⟩ : MethodName) (⟨"SlideRules$Logs", "addGrowth", "(LSlideRules$Wide;II)V"⟩ : MethodName),
  Cond.selects "SlideRules" (⟨"SlideRules", "scaleAt", "(I)LSlideRules$Scale;"⟩ : MethodName) (⟨"SlideRules", "scaleAt", "(I)LSlideRules$Scale;"⟩ : MethodName),
  Cond.selects "SlideRules$Logs" (⟨"SlideRules$Logs", "putLog", "(LSlideRules$Wide;I)V"⟩ : MethodName) (⟨"SlideRules$Logs", "putLog", "(LSlideRules$Wide;I)V"⟩ : MethodName),
  Cond.selects "SlideRules$PlainScale" (⟨"SlideRules$PlainScale", "firstFrom", "(I)I"⟩ : MethodName) (⟨"SlideRules$PlainScale", "firstFrom", "(I)I"⟩ : MethodName),
  Cond.selects "SlideRules$Chain" (⟨"SlideRules$Chain", "multiplyOut", "()V"⟩ : MethodName) (⟨"SlideRules$Chain", "multiplyOut", "()V"⟩ : MethodName),
  Cond.selects "SlideRules$PairSums" (⟨"SlideRules$PairSums", "take", "(IILSlideRules$PlainScale;)V"⟩ : MethodName) (⟨"SlideRules$PairSums", "take", "(IILSlideRules$PlainScale;)V"⟩ : MethodName),
  Cond.selects "SlideRules" (⟨"SlideRules", "aimSettings", "(III)V"⟩ : MethodName) (⟨"SlideRules", "aimSettings", "(III)V"⟩ : MethodName),
  Cond.selects "SlideRules$Settings" (⟨"SlideRules$Settings", "measure", "([II)V"⟩ : MethodName) (⟨"SlideRules$Settings", "measure", "([II)V"⟩ : MethodName),
  Cond.selects "SlideRules$Settings" (⟨"SlideRules$Settings", "reachBack", "([II)V"⟩ : MethodName) (⟨"SlideRules$Settings", "reachBack", "([II)V"⟩ : MethodName),
  Cond.selects "SlideRules$Settings" (⟨"SlideRules$Settings", "makeFirst", "()I"⟩ : MethodName) (⟨"SlideRules$Settings", "makeFirst", "()I"⟩ : MethodName),
  Cond.selects "SlideRules$Settings" (⟨"SlideRules$Settings", "isNearer", "(II)Z"⟩ : MethodName) (⟨"SlideRules$Settings", "isNearer", "(II)Z"⟩ : MethodName),
  Cond.selects "SlideRules$Match" (⟨"SlideRules$Match", "weigh", "(II)V"⟩ : MethodName) (⟨"SlideRules$Match", "weigh", "(II)V"⟩ : MethodName),
  Cond.selects "SlideRules$Laws" (⟨"SlideRules$Laws", "doublesFrom", "(I)I"⟩ : MethodName) (⟨"SlideRules$Laws", "doublesFrom", "(I)I"⟩ : MethodName),
  Cond.selects "SlideRules" (⟨"SlideRules", "scalesOnSlide", "()I"⟩ : MethodName) (⟨"SlideRules", "scalesOnSlide", "()I"⟩ : MethodName),
  Cond.selects "SlideRulesModel" (⟨"SlideRulesModel", "natural", "(JJ[J)V"⟩ : MethodName) (⟨"SlideRulesModel", "natural", "(JJ[J)V"⟩ : MethodName),
  Cond.selects "SlideRulesModel" (⟨"SlideRulesModel", "isScale", "(I)Z"⟩ : MethodName) (⟨"SlideRulesModel", "isScale", "(I)Z"⟩ : MethodName),
  Cond.selects "SlideRulesModel" (⟨"SlideRulesModel", "placeOf", "(II)I"⟩ : MethodName) (⟨"SlideRulesModel", "placeOf", "(II)I"⟩ : MethodName),
  Cond.selects "SlideRulesModel" (⟨"SlideRulesModel", "nearestOf", "(JJI)I"⟩ : MethodName) (⟨"SlideRulesModel", "nearestOf", "(JJI)I"⟩ : MethodName),
  Cond.selects "SlideRulesModel" (⟨"SlideRulesModel", "logOf", "(J[J)V"⟩ : MethodName) (⟨"SlideRulesModel", "logOf", "(J[J)V"⟩ : MethodName),
  Cond.selects "SlideRulesModel" (⟨"SlideRulesModel", "marksOf", "(I)I"⟩ : MethodName) (⟨"SlideRulesModel", "marksOf", "(I)I"⟩ : MethodName),
  Cond.selects "SlideRulesModel" (⟨"SlideRulesModel", "spanMarks", "(I)I"⟩ : MethodName) (⟨"SlideRulesModel", "spanMarks", "(I)I"⟩ : MethodName),
  Cond.selects "SlideRulesModel" (⟨"SlideRulesModel", "markOf", "(II)I"⟩ : MethodName) (⟨"SlideRulesModel", "markOf", "(II)I"⟩ : MethodName),
  Cond.selects "SlideRulesModel" (⟨"SlideRulesModel", "plainOf", "(I)I"⟩ : MethodName) (⟨"SlideRulesModel", "plainOf", "(I)I"⟩ : MethodName),
  Cond.selects "SlideRulesModel" (⟨"SlideRulesModel", "plain", "(I)I"⟩ : MethodName) (⟨"SlideRulesModel", "plain", "(I)I"⟩ : MethodName),
  Cond.selects "SlideRulesModel" (⟨"SlideRulesModel", "reading", "(I)I"⟩ : MethodName) (⟨"SlideRulesModel", "reading", "(I)I"⟩ : MethodName),
  Cond.selects "SlideRulesModel" (⟨"SlideRulesModel", "truth", "()I"⟩ : MethodName) (⟨"SlideRulesModel", "truth", "()I"⟩ : MethodName),
  Cond.selects "SlideRulesModel" (⟨"SlideRulesModel", "spreads", "()V"⟩ : MethodName) (⟨"SlideRulesModel", "spreads", "()V"⟩ : MethodName),
  Cond.selects "SlideRulesModel" (⟨"SlideRulesModel", "lets", "(II)Z"⟩ : MethodName) (⟨"SlideRulesModel", "lets", "(II)Z"⟩ : MethodName),
  Cond.selects "SlideRulesModel" (⟨"SlideRulesModel", "leastTo", "(III)I"⟩ : MethodName) (⟨"SlideRulesModel", "leastTo", "(III)I"⟩ : MethodName),
  Cond.selects "SlideRulesModel" (⟨"SlideRulesModel", "has", "(II)Z"⟩ : MethodName) (⟨"SlideRulesModel", "has", "(II)Z"⟩ : MethodName),
  Cond.selects "SlideRulesModel" (⟨"SlideRulesModel", "lawPlace", "(II)I"⟩ : MethodName) (⟨"SlideRulesModel", "lawPlace", "(II)I"⟩ : MethodName),
  Cond.initialized "SlideRulesLaw",
  Cond.initialized "SlideRules",
  Cond.initialized "SlideRules$Logs",
  Cond.initialized "SlideRules$Wide",
  Cond.initialized "SlideRules$PlainScale",
  Cond.initialized "SlideRules$Chain",
  Cond.initialized "SlideRules$Row",
  Cond.initialized "java/lang/Math",
  Cond.initialized "SlideRules$PairSums"]
theorem zwm_0 : ∀ w ∈ zwl_0, w ∈ zT := zsub_in 0 (by decide +kernel)
def zwl_1 : List Cond := [Cond.initialized "SlideRules$Settings",
  Cond.initialized "SlideRules$Match",
  Cond.initialized "SlideRules$Laws",
  Cond.initialized "SlideRules$Strip",
  Cond.initialized "SlideRulesModel",
  Cond.initialized "SlideRules$Scale",
  Cond.classLink "SlideRulesLaw" (7 : Nat) "SlideRules",
  Cond.instantiable "SlideRules" (12 : Nat),
  Cond.methodLink "SlideRulesLaw" (9 : Nat) ({ cls := "SlideRules", name := "<init>", desc := "()V" } : MethodName),
  Cond.instanceMethod ({ cls := "SlideRules", name := "<init>", desc := "()V" } : MethodName),
  Cond.code ({ cls := "SlideRules", name := "<init>", desc := "()V" } : MethodName) prog_1_method_1_code (2 : Nat) (Option.none : Option FieldType),
  Cond.methodLink "SlideRules" (1 : Nat) ({ cls := "java/lang/Object", name := "<init>", desc := "()V" } : MethodName),
  Cond.instanceMethod ({ cls := "java/lang/Object", name := "<init>", desc := "()V" } : MethodName),
  Cond.code ({ cls := "java/lang/Object", name := "<init>", desc := "()V" } : MethodName) object_method_1_code (1 : Nat) (Option.none : Option FieldType),
  Cond.classLink "SlideRules" (7 : Nat) "SlideRules$Logs",
  Cond.instantiable "SlideRules$Logs" (5 : Nat),
  Cond.methodLink "SlideRules" (9 : Nat) ({ cls := "SlideRules$Logs", name := "<init>", desc := "()V" } : MethodName),
  Cond.instanceMethod ({ cls := "SlideRules$Logs", name := "<init>", desc := "()V" } : MethodName),
  Cond.code ({ cls := "SlideRules$Logs", name := "<init>", desc := "()V" } : MethodName) prog_4_method_1_code (3 : Nat) (Option.none : Option FieldType),
  Cond.methodLink "SlideRules$Logs" (1 : Nat) ({ cls := "java/lang/Object", name := "<init>", desc := "()V" } : MethodName),
  Cond.classLink "SlideRules$Logs" (16 : Nat) "SlideRules$Wide",
  Cond.instantiable "SlideRules$Wide" (2 : Nat),
  Cond.instanceMethod ({ cls := "SlideRules$Wide", name := "<init>", desc := "()V" } : MethodName),
  Cond.code ({ cls := "SlideRules$Wide", name := "<init>", desc := "()V" } : MethodName) prog_12_method_1_code (1 : Nat) (Option.none : Option FieldType),
  Cond.methodLink "SlideRules$Wide" (3 : Nat) ({ cls := "java/lang/Object", name := "<init>", desc := "()V" } : MethodName),
  Cond.fieldLink "SlideRules$Wide" (9 : Nat) "SlideRules$Wide" "high" "J",
  Cond.fieldLink "SlideRules$Logs" (33 : Nat) "SlideRules$Wide" "high" "J",
  Cond.fieldLink "SlideRules$Wide" (13 : Nat) "SlideRules$Wide" "low" "J",
  Cond.fieldLink "SlideRules$Logs" (37 : Nat) "SlideRules$Wide" "low" "J",
  Cond.lays "SlideRules$Wide" "SlideRules$Wide" "high" "J",
  Cond.lays "SlideRules$Wide" "SlideRules$Wide" "low" "J",
  Cond.arrayClass FieldType.long,
  Cond.methodLink "SlideRules$Logs" (29 : Nat) ({ cls := "SlideRules$Logs", name := "addGrowth", desc := "(LSlideRules$Wide;II)V" } : MethodName),
  Cond.instanceMethod ({ cls := "SlideRules$Logs", name := "addGrowth", desc := "(LSlideRules$Wide;II)V" } : MethodName),
  Cond.code ({ cls := "SlideRules$Logs", name := "addGrowth", desc := "(LSlideRules$Wide;II)V" } : MethodName) prog_4_method_2_code (5 : Nat) (Option.none : Option FieldType),
  Cond.constantLong "SlideRules$Logs" (40 : Nat) (15280378647410 : Int64),
  Cond.constantLong "SlideRules$Logs" (42 : Nat) (9283927628714 : Int64),
  Cond.methodLink "SlideRules$Logs" (44 : Nat) ({ cls := "SlideRules$Wide", name := "put", desc := "(JJ)V" } : MethodName),
  Cond.instanceMethod ({ cls := "SlideRules$Wide", name := "put", desc := "(JJ)V" } : MethodName),
  Cond.selects "SlideRules$Wide" ({ cls := "SlideRules$Wide", name := "put", desc := "(JJ)V" } : MethodName) ({ cls := "SlideRules$Wide", name := "put", desc := "(JJ)V" } : MethodName)]
theorem zwm_1 : ∀ w ∈ zwl_1, w ∈ zT := zsub_in 40 (by decide +kernel)
def zwl_2 : List Cond := [Cond.code ({ cls := "SlideRules$Wide", name := "put", desc := "(JJ)V" } : MethodName) prog_12_method_2_code (5 : Nat) (Option.none : Option FieldType),
  Cond.methodLink "SlideRules$Logs" (48 : Nat) ({ cls := "SlideRules$Wide", name := "shrink", desc := "(II)V" } : MethodName),
  Cond.instanceMethod ({ cls := "SlideRules$Wide", name := "shrink", desc := "(II)V" } : MethodName),
  Cond.selects "SlideRules$Wide" ({ cls := "SlideRules$Wide", name := "shrink", desc := "(II)V" } : MethodName) ({ cls := "SlideRules$Wide", name := "shrink", desc := "(II)V" } : MethodName),
  Cond.code ({ cls := "SlideRules$Wide", name := "shrink", desc := "(II)V" } : MethodName) prog_12_method_5_code (7 : Nat) (Option.none : Option FieldType),
  Cond.constantLong "SlideRules$Wide" (16 : Nat) (17592186044415 : Int64),
  Cond.methodLink "SlideRules$Logs" (52 : Nat) ({ cls := "SlideRules$Wide", name := "isZero", desc := "()Z" } : MethodName),
  Cond.instanceMethod ({ cls := "SlideRules$Wide", name := "isZero", desc := "()Z" } : MethodName),
  Cond.selects "SlideRules$Wide" ({ cls := "SlideRules$Wide", name := "isZero", desc := "()Z" } : MethodName) ({ cls := "SlideRules$Wide", name := "isZero", desc := "()Z" } : MethodName),
  Cond.code ({ cls := "SlideRules$Wide", name := "isZero", desc := "()Z" } : MethodName) prog_12_method_6_code (1 : Nat) (Option.some FieldType.boolean),
  Cond.methodLink "SlideRules$Logs" (56 : Nat) ({ cls := "SlideRules$Wide", name := "addPart", desc := "(LSlideRules$Wide;I)V" } : MethodName),
  Cond.instanceMethod ({ cls := "SlideRules$Wide", name := "addPart", desc := "(LSlideRules$Wide;I)V" } : MethodName),
  Cond.selects "SlideRules$Wide" ({ cls := "SlideRules$Wide", name := "addPart", desc := "(LSlideRules$Wide;I)V" } : MethodName) ({ cls := "SlideRules$Wide", name := "addPart", desc := "(LSlideRules$Wide;I)V" } : MethodName),
  Cond.code ({ cls := "SlideRules$Wide", name := "addPart", desc := "(LSlideRules$Wide;I)V" } : MethodName) prog_12_method_3_code (7 : Nat) (Option.none : Option FieldType),
  Cond.fieldLink "SlideRules$Logs" (9 : Nat) "SlideRules$Logs" "highs" "[J",
  Cond.fieldLink "SlideRules$Logs" (13 : Nat) "SlideRules$Logs" "lows" "[J",
  Cond.fieldLink "SlideRules$Logs" (19 : Nat) "SlideRules$Logs" "term" "LSlideRules$Wide;",
  Cond.fieldLink "SlideRules$Logs" (23 : Nat) "SlideRules$Logs" "top" "LSlideRules$Wide;",
  Cond.fieldLink "SlideRules$Logs" (26 : Nat) "SlideRules$Logs" "bottom" "LSlideRules$Wide;",
  Cond.laysFinal "SlideRules$Logs" "SlideRules$Logs" "highs" "[J",
  Cond.laysFinal "SlideRules$Logs" "SlideRules$Logs" "lows" "[J",
  Cond.laysFinal "SlideRules$Logs" "SlideRules$Logs" "term" "LSlideRules$Wide;",
  Cond.laysFinal "SlideRules$Logs" "SlideRules$Logs" "top" "LSlideRules$Wide;",
  Cond.laysFinal "SlideRules$Logs" "SlideRules$Logs" "bottom" "LSlideRules$Wide;",
  Cond.classLink "SlideRules" (16 : Nat) "SlideRules$PlainScale",
  Cond.instantiable "SlideRules$PlainScale" (2 : Nat),
  Cond.instanceMethod ({ cls := "SlideRules$PlainScale", name := "<init>", desc := "()V" } : MethodName),
  Cond.code ({ cls := "SlideRules$PlainScale", name := "<init>", desc := "()V" } : MethodName) prog_7_method_1_code (1 : Nat) (Option.none : Option FieldType),
  Cond.methodLink "SlideRules$PlainScale" (3 : Nat) ({ cls := "java/lang/Object", name := "<init>", desc := "()V" } : MethodName),
  Cond.fieldLink "SlideRules$PlainScale" (9 : Nat) "SlideRules$PlainScale" "steps" "I",
  Cond.fieldLink "SlideRules$PairSums" (49 : Nat) "SlideRules$PlainScale" "steps" "I",
  Cond.fieldLink "SlideRules$Chain" (37 : Nat) "SlideRules$PlainScale" "steps" "I",
  Cond.fieldLink "SlideRules$PlainScale" (15 : Nat) "SlideRules$PlainScale" "places" "[I",
  Cond.lays "SlideRules$PlainScale" "SlideRules$PlainScale" "steps" "I",
  Cond.laysFinal "SlideRules$PlainScale" "SlideRules$PlainScale" "places" "[I",
  Cond.arrayClass FieldType.int,
  Cond.classLink "SlideRules" (23 : Nat) "SlideRules$Scale",
  Cond.classLink "SlideRules" (29 : Nat) "SlideRules$Chain",
  Cond.instantiable "SlideRules$Chain" (4 : Nat),
  Cond.instanceMethod ({ cls := "SlideRules$Chain", name := "<init>", desc := "()V" } : MethodName)]
theorem zwm_2 : ∀ w ∈ zwl_2, w ∈ zT := zsub_in 85 (by decide +kernel)
def zwl_3 : List Cond := [Cond.code ({ cls := "SlideRules$Chain", name := "<init>", desc := "()V" } : MethodName) prog_2_method_1_code (1 : Nat) (Option.none : Option FieldType),
  Cond.methodLink "SlideRules$Chain" (3 : Nat) ({ cls := "java/lang/Object", name := "<init>", desc := "()V" } : MethodName),
  Cond.classLink "SlideRules$Chain" (9 : Nat) "SlideRules$Row",
  Cond.instantiable "SlideRules$Row" (2 : Nat),
  Cond.methodLink "SlideRules$Chain" (13 : Nat) ({ cls := "SlideRules$Row", name := "<init>", desc := "(I)V" } : MethodName),
  Cond.instanceMethod ({ cls := "SlideRules$Row", name := "<init>", desc := "(I)V" } : MethodName),
  Cond.code ({ cls := "SlideRules$Row", name := "<init>", desc := "(I)V" } : MethodName) prog_8_method_1_code (2 : Nat) (Option.none : Option FieldType),
  Cond.methodLink "SlideRules$Row" (3 : Nat) ({ cls := "java/lang/Object", name := "<init>", desc := "()V" } : MethodName),
  Cond.methodLink "SlideRules$Row" (15 : Nat) ({ cls := "java/lang/Math", name := "max", desc := "(II)I" } : MethodName),
  Cond.static ({ cls := "java/lang/Math", name := "max", desc := "(II)I" } : MethodName),
  Cond.code ({ cls := "java/lang/Math", name := "max", desc := "(II)I" } : MethodName) prog_15_method_65_code (2 : Nat) (Option.some FieldType.int),
  Cond.fieldLink "SlideRules$Row" (21 : Nat) "SlideRules$Row" "values" "[I",
  Cond.fieldLink "SlideRules$Strip" (24 : Nat) "SlideRules$Row" "values" "[I",
  Cond.fieldLink "SlideRules$Match" (27 : Nat) "SlideRules$Row" "values" "[I",
  Cond.fieldLink "SlideRules$Chain" (46 : Nat) "SlideRules$Row" "values" "[I",
  Cond.fieldLink "SlideRules$Scale" (73 : Nat) "SlideRules$Row" "values" "[I",
  Cond.fieldLink "SlideRules$Row" (9 : Nat) "SlideRules$Row" "size" "I",
  Cond.fieldLink "SlideRules$Strip" (20 : Nat) "SlideRules$Row" "size" "I",
  Cond.fieldLink "SlideRules$Match" (16 : Nat) "SlideRules$Row" "size" "I",
  Cond.fieldLink "SlideRules$Chain" (43 : Nat) "SlideRules$Row" "size" "I",
  Cond.fieldLink "SlideRules$Scale" (62 : Nat) "SlideRules$Row" "size" "I",
  Cond.fieldLink "SlideRules" (117 : Nat) "SlideRules$Row" "size" "I",
  Cond.laysFinal "SlideRules$Row" "SlideRules$Row" "values" "[I",
  Cond.lays "SlideRules$Row" "SlideRules$Row" "size" "I",
  Cond.fieldLink "SlideRules$Chain" (16 : Nat) "SlideRules$Chain" "factors" "LSlideRules$Row;",
  Cond.fieldLink "SlideRules" (150 : Nat) "SlideRules$Chain" "factors" "LSlideRules$Row;",
  Cond.fieldLink "SlideRules$Chain" (20 : Nat) "SlideRules$Chain" "place" "I",
  Cond.fieldLink "SlideRules$PairSums" (63 : Nat) "SlideRules$Chain" "place" "I",
  Cond.fieldLink "SlideRules" (170 : Nat) "SlideRules$Chain" "place" "I",
  Cond.fieldLink "SlideRules$Chain" (24 : Nat) "SlideRules$Chain" "pulled" "I",
  Cond.fieldLink "SlideRules$PairSums" (79 : Nat) "SlideRules$Chain" "pulled" "I",
  Cond.fieldLink "SlideRules" (179 : Nat) "SlideRules$Chain" "pulled" "I",
  Cond.fieldLink "SlideRules$Chain" (27 : Nat) "SlideRules$Chain" "limbs" "[J",
  Cond.laysFinal "SlideRules$Chain" "SlideRules$Chain" "factors" "LSlideRules$Row;",
  Cond.lays "SlideRules$Chain" "SlideRules$Chain" "place" "I",
  Cond.lays "SlideRules$Chain" "SlideRules$Chain" "pulled" "I",
  Cond.laysFinal "SlideRules$Chain" "SlideRules$Chain" "limbs" "[J",
  Cond.classLink "SlideRules" (36 : Nat) "SlideRules$PairSums",
  Cond.instantiable "SlideRules$PairSums" (11 : Nat),
  Cond.instanceMethod ({ cls := "SlideRules$PairSums", name := "<init>", desc := "()V" } : MethodName)]
theorem zwm_3 : ∀ w ∈ zwl_3, w ∈ zT := zsub_in 137 (by decide +kernel)
def zwl_4 : List Cond := [Cond.code ({ cls := "SlideRules$PairSums", name := "<init>", desc := "()V" } : MethodName) prog_6_method_1_code (1 : Nat) (Option.none : Option FieldType),
  Cond.methodLink "SlideRules$PairSums" (3 : Nat) ({ cls := "java/lang/Object", name := "<init>", desc := "()V" } : MethodName),
  Cond.classLink "SlideRules$PairSums" (42 : Nat) "SlideRules$Chain",
  Cond.fieldLink "SlideRules$PairSums" (9 : Nat) "SlideRules$PairSums" "worst" "I",
  Cond.fieldLink "SlideRules" (186 : Nat) "SlideRules$PairSums" "worst" "I",
  Cond.fieldLink "SlideRules$PairSums" (15 : Nat) "SlideRules$PairSums" "worstA" "I",
  Cond.fieldLink "SlideRules" (189 : Nat) "SlideRules$PairSums" "worstA" "I",
  Cond.fieldLink "SlideRules$PairSums" (18 : Nat) "SlideRules$PairSums" "worstB" "I",
  Cond.fieldLink "SlideRules" (192 : Nat) "SlideRules$PairSums" "worstB" "I",
  Cond.fieldLink "SlideRules$PairSums" (21 : Nat) "SlideRules$PairSums" "sum" "I",
  Cond.fieldLink "SlideRules" (195 : Nat) "SlideRules$PairSums" "sum" "I",
  Cond.fieldLink "SlideRules$PairSums" (24 : Nat) "SlideRules$PairSums" "many" "I",
  Cond.fieldLink "SlideRules" (198 : Nat) "SlideRules$PairSums" "many" "I",
  Cond.fieldLink "SlideRules$PairSums" (27 : Nat) "SlideRules$PairSums" "pulled" "I",
  Cond.fieldLink "SlideRules" (201 : Nat) "SlideRules$PairSums" "pulled" "I",
  Cond.fieldLink "SlideRules$PairSums" (30 : Nat) "SlideRules$PairSums" "from" "I",
  Cond.fieldLink "SlideRules$PairSums" (33 : Nat) "SlideRules$PairSums" "to" "I",
  Cond.fieldLink "SlideRules$PairSums" (36 : Nat) "SlideRules$PairSums" "each" "I",
  Cond.fieldLink "SlideRules$PairSums" (39 : Nat) "SlideRules$PairSums" "steps" "I",
  Cond.fieldLink "SlideRules$PairSums" (45 : Nat) "SlideRules$PairSums" "chain" "LSlideRules$Chain;",
  Cond.lays "SlideRules$PairSums" "SlideRules$PairSums" "worst" "I",
  Cond.lays "SlideRules$PairSums" "SlideRules$PairSums" "worstA" "I",
  Cond.lays "SlideRules$PairSums" "SlideRules$PairSums" "worstB" "I",
  Cond.lays "SlideRules$PairSums" "SlideRules$PairSums" "sum" "I",
  Cond.lays "SlideRules$PairSums" "SlideRules$PairSums" "many" "I",
  Cond.lays "SlideRules$PairSums" "SlideRules$PairSums" "pulled" "I",
  Cond.lays "SlideRules$PairSums" "SlideRules$PairSums" "from" "I",
  Cond.lays "SlideRules$PairSums" "SlideRules$PairSums" "to" "I",
  Cond.lays "SlideRules$PairSums" "SlideRules$PairSums" "each" "I",
  Cond.lays "SlideRules$PairSums" "SlideRules$PairSums" "steps" "I",
  Cond.laysFinal "SlideRules$PairSums" "SlideRules$PairSums" "chain" "LSlideRules$Chain;",
  Cond.classLink "SlideRules" (43 : Nat) "SlideRules$Settings",
  Cond.instantiable "SlideRules$Settings" (4 : Nat),
  Cond.instanceMethod ({ cls := "SlideRules$Settings", name := "<init>", desc := "()V" } : MethodName),
  Cond.code ({ cls := "SlideRules$Settings", name := "<init>", desc := "()V" } : MethodName) prog_10_method_1_code (1 : Nat) (Option.none : Option FieldType),
  Cond.methodLink "SlideRules$Settings" (5 : Nat) ({ cls := "java/lang/Object", name := "<init>", desc := "()V" } : MethodName),
  Cond.classLink "SlideRules$Settings" (18 : Nat) "[[I",
  Cond.fieldLink "SlideRules$Settings" (11 : Nat) "SlideRules$Settings" "multiplies" "[Z",
  Cond.fieldLink "SlideRules$Settings" (15 : Nat) "SlideRules$Settings" "divides" "[Z",
  Cond.fieldLink "SlideRules$Settings" (20 : Nat) "SlideRules$Settings" "away" "[[I"]
theorem zwm_4 : ∀ w ∈ zwl_4, w ∈ zT := zsub_in 186 (by decide +kernel)
def zwl_5 : List Cond := [Cond.fieldLink "SlideRules$Settings" (23 : Nat) "SlideRules$Settings" "now" "[I",
  Cond.laysFinal "SlideRules$Settings" "SlideRules$Settings" "multiplies" "[Z",
  Cond.laysFinal "SlideRules$Settings" "SlideRules$Settings" "divides" "[Z",
  Cond.laysFinal "SlideRules$Settings" "SlideRules$Settings" "away" "[[I",
  Cond.laysFinal "SlideRules$Settings" "SlideRules$Settings" "now" "[I",
  Cond.arrayClass FieldType.boolean,
  Cond.classLink "SlideRules" (50 : Nat) "SlideRules$Strip",
  Cond.classLink "SlideRules" (56 : Nat) "SlideRules$Match",
  Cond.instantiable "SlideRules$Match" (2 : Nat),
  Cond.instanceMethod ({ cls := "SlideRules$Match", name := "<init>", desc := "()V" } : MethodName),
  Cond.code ({ cls := "SlideRules$Match", name := "<init>", desc := "()V" } : MethodName) prog_5_method_1_code (1 : Nat) (Option.none : Option FieldType),
  Cond.methodLink "SlideRules$Match" (1 : Nat) ({ cls := "java/lang/Object", name := "<init>", desc := "()V" } : MethodName),
  Cond.fieldLink "SlideRules$Match" (7 : Nat) "SlideRules$Match" "shift" "I",
  Cond.fieldLink "SlideRules" (233 : Nat) "SlideRules$Match" "shift" "I",
  Cond.fieldLink "SlideRules$Match" (13 : Nat) "SlideRules$Match" "many" "I",
  Cond.fieldLink "SlideRules" (236 : Nat) "SlideRules$Match" "many" "I",
  Cond.lays "SlideRules$Match" "SlideRules$Match" "shift" "I",
  Cond.lays "SlideRules$Match" "SlideRules$Match" "many" "I",
  Cond.classLink "SlideRules" (63 : Nat) "SlideRules$Laws",
  Cond.instantiable "SlideRules$Laws" (1 : Nat),
  Cond.instanceMethod ({ cls := "SlideRules$Laws", name := "<init>", desc := "()V" } : MethodName),
  Cond.code ({ cls := "SlideRules$Laws", name := "<init>", desc := "()V" } : MethodName) prog_3_method_1_code (1 : Nat) (Option.none : Option FieldType),
  Cond.methodLink "SlideRules$Laws" (1 : Nat) ({ cls := "java/lang/Object", name := "<init>", desc := "()V" } : MethodName),
  Cond.fieldLink "SlideRules$Laws" (9 : Nat) "SlideRules$Laws" "places" "[I",
  Cond.laysFinal "SlideRules$Laws" "SlideRules$Laws" "places" "[I",
  Cond.instantiable "SlideRules$Strip" (1 : Nat),
  Cond.instanceMethod ({ cls := "SlideRules$Strip", name := "<init>", desc := "()V" } : MethodName),
  Cond.code ({ cls := "SlideRules$Strip", name := "<init>", desc := "()V" } : MethodName) prog_11_method_1_code (1 : Nat) (Option.none : Option FieldType),
  Cond.methodLink "SlideRules$Strip" (3 : Nat) ({ cls := "java/lang/Object", name := "<init>", desc := "()V" } : MethodName),
  Cond.classLink "SlideRules$Strip" (9 : Nat) "SlideRules$Row",
  Cond.methodLink "SlideRules$Strip" (13 : Nat) ({ cls := "SlideRules$Row", name := "<init>", desc := "(I)V" } : MethodName),
  Cond.fieldLink "SlideRules$Strip" (16 : Nat) "SlideRules$Strip" "places" "LSlideRules$Row;",
  Cond.fieldLink "SlideRules" (218 : Nat) "SlideRules$Strip" "places" "LSlideRules$Row;",
  Cond.laysFinal "SlideRules$Strip" "SlideRules$Strip" "places" "LSlideRules$Row;",
  Cond.fieldLink "SlideRules" (10 : Nat) "SlideRules" "logs" "LSlideRules$Logs;",
  Cond.fieldLink "SlideRules" (19 : Nat) "SlideRules" "plain" "LSlideRules$PlainScale;",
  Cond.fieldLink "SlideRules" (25 : Nat) "SlideRules" "scales" "[LSlideRules$Scale;",
  Cond.fieldLink "SlideRules" (32 : Nat) "SlideRules" "chain" "LSlideRules$Chain;",
  Cond.fieldLink "SlideRules" (39 : Nat) "SlideRules" "sums" "LSlideRules$PairSums;",
  Cond.fieldLink "SlideRules" (46 : Nat) "SlideRules" "settings" "LSlideRules$Settings;"]
theorem zwm_5 : ∀ w ∈ zwl_5, w ∈ zT := zsub_in 241 (by decide +kernel)
def zwl_6 : List Cond := [Cond.fieldLink "SlideRules" (52 : Nat) "SlideRules" "strips" "[LSlideRules$Strip;",
  Cond.fieldLink "SlideRules" (59 : Nat) "SlideRules" "match" "LSlideRules$Match;",
  Cond.fieldLink "SlideRules" (66 : Nat) "SlideRules" "laws" "LSlideRules$Laws;",
  Cond.fieldLink "SlideRules" (70 : Nat) "SlideRules" "scaleCount" "I",
  Cond.fieldLink "SlideRules" (74 : Nat) "SlideRules" "steps" "I",
  Cond.fieldLink "SlideRules" (77 : Nat) "SlideRules" "off" "I",
  Cond.laysFinal "SlideRules" "SlideRules" "logs" "LSlideRules$Logs;",
  Cond.laysFinal "SlideRules" "SlideRules" "plain" "LSlideRules$PlainScale;",
  Cond.laysFinal "SlideRules" "SlideRules" "scales" "[LSlideRules$Scale;",
  Cond.laysFinal "SlideRules" "SlideRules" "chain" "LSlideRules$Chain;",
  Cond.laysFinal "SlideRules" "SlideRules" "sums" "LSlideRules$PairSums;",
  Cond.laysFinal "SlideRules" "SlideRules" "settings" "LSlideRules$Settings;",
  Cond.laysFinal "SlideRules" "SlideRules" "strips" "[LSlideRules$Strip;",
  Cond.laysFinal "SlideRules" "SlideRules" "match" "LSlideRules$Match;",
  Cond.laysFinal "SlideRules" "SlideRules" "laws" "LSlideRules$Laws;",
  Cond.lays "SlideRules" "SlideRules" "scaleCount" "I",
  Cond.lays "SlideRules" "SlideRules" "steps" "I",
  Cond.lays "SlideRules" "SlideRules" "off" "I",
  Cond.methodLink "SlideRulesLaw" (13 : Nat) ({ cls := "SlideRules", name := "rule", desc := "(I)I" } : MethodName),
  Cond.instanceMethod ({ cls := "SlideRules", name := "rule", desc := "(I)I" } : MethodName),
  Cond.selects "SlideRules" ({ cls := "SlideRules", name := "rule", desc := "(I)I" } : MethodName) ({ cls := "SlideRules", name := "rule", desc := "(I)I" } : MethodName),
  Cond.code ({ cls := "SlideRules", name := "rule", desc := "(I)I" } : MethodName) prog_1_method_2_code (3 : Nat) (Option.some FieldType.int),
  Cond.constant "SlideRules" (81 : Nat) (50000 : Int32),
  Cond.methodLink "SlideRulesLaw" (18 : Nat) ({ cls := "SlideRules", name := "scale", desc := "(ZIIZ)I" } : MethodName),
  Cond.instanceMethod ({ cls := "SlideRules", name := "scale", desc := "(ZIIZ)I" } : MethodName),
  Cond.selects "SlideRules" ({ cls := "SlideRules", name := "scale", desc := "(ZIIZ)I" } : MethodName) ({ cls := "SlideRules", name := "scale", desc := "(ZIIZ)I" } : MethodName),
  Cond.code ({ cls := "SlideRules", name := "scale", desc := "(ZIIZ)I" } : MethodName) prog_1_method_3_code (5 : Nat) (Option.some FieldType.int),
  Cond.instantiable "SlideRules$Scale" (12 : Nat),
  Cond.methodLink "SlideRules" (82 : Nat) ({ cls := "SlideRules$Scale", name := "<init>", desc := "(ZIIZ)V" } : MethodName),
  Cond.instanceMethod ({ cls := "SlideRules$Scale", name := "<init>", desc := "(ZIIZ)V" } : MethodName),
  Cond.code ({ cls := "SlideRules$Scale", name := "<init>", desc := "(ZIIZ)V" } : MethodName) prog_9_method_1_code (5 : Nat) (Option.none : Option FieldType),
  Cond.methodLink "SlideRules$Scale" (3 : Nat) ({ cls := "java/lang/Object", name := "<init>", desc := "()V" } : MethodName),
  Cond.classLink "SlideRules$Scale" (9 : Nat) "SlideRules$Row",
  Cond.methodLink "SlideRules$Scale" (13 : Nat) ({ cls := "SlideRules$Row", name := "<init>", desc := "(I)V" } : MethodName),
  Cond.fieldLink "SlideRules$Scale" (43 : Nat) "SlideRules$Scale" "onSlide" "Z",
  Cond.fieldLink "SlideRules" (134 : Nat) "SlideRules$Scale" "onSlide" "Z",
  Cond.fieldLink "SlideRules$Scale" (47 : Nat) "SlideRules$Scale" "parts" "I",
  Cond.fieldLink "SlideRules" (267 : Nat) "SlideRules$Scale" "parts" "I",
  Cond.fieldLink "SlideRules$Scale" (50 : Nat) "SlideRules$Scale" "fold" "I",
  Cond.fieldLink "SlideRules$Scale" (53 : Nat) "SlideRules$Scale" "turned" "Z"]
theorem zwm_6 : ∀ w ∈ zwl_6, w ∈ zT := zsub_in 297 (by decide +kernel)
def zwl_7 : List Cond := [Cond.fieldLink "SlideRules" (270 : Nat) "SlideRules$Scale" "turned" "Z",
  Cond.fieldLink "SlideRules$Scale" (16 : Nat) "SlideRules$Scale" "marks" "LSlideRules$Row;",
  Cond.fieldLink "SlideRules" (113 : Nat) "SlideRules$Scale" "marks" "LSlideRules$Row;",
  Cond.fieldLink "SlideRules$Scale" (20 : Nat) "SlideRules$Scale" "spans" "I",
  Cond.fieldLink "SlideRules$Scale" (24 : Nat) "SlideRules$Scale" "froms" "[I",
  Cond.fieldLink "SlideRules$Scale" (28 : Nat) "SlideRules$Scale" "tos" "[I",
  Cond.fieldLink "SlideRules$Scale" (31 : Nat) "SlideRules$Scale" "eachs" "[I",
  Cond.fieldLink "SlideRules$Scale" (34 : Nat) "SlideRules$Scale" "places" "[I",
  Cond.fieldLink "SlideRules$Scale" (37 : Nat) "SlideRules$Scale" "placed" "I",
  Cond.fieldLink "SlideRules$Scale" (40 : Nat) "SlideRules$Scale" "placedSteps" "I",
  Cond.laysFinal "SlideRules$Scale" "SlideRules$Scale" "onSlide" "Z",
  Cond.laysFinal "SlideRules$Scale" "SlideRules$Scale" "parts" "I",
  Cond.laysFinal "SlideRules$Scale" "SlideRules$Scale" "fold" "I",
  Cond.laysFinal "SlideRules$Scale" "SlideRules$Scale" "turned" "Z",
  Cond.laysFinal "SlideRules$Scale" "SlideRules$Scale" "marks" "LSlideRules$Row;",
  Cond.lays "SlideRules$Scale" "SlideRules$Scale" "spans" "I",
  Cond.laysFinal "SlideRules$Scale" "SlideRules$Scale" "froms" "[I",
  Cond.laysFinal "SlideRules$Scale" "SlideRules$Scale" "tos" "[I",
  Cond.laysFinal "SlideRules$Scale" "SlideRules$Scale" "eachs" "[I",
  Cond.laysFinal "SlideRules$Scale" "SlideRules$Scale" "places" "[I",
  Cond.lays "SlideRules$Scale" "SlideRules$Scale" "placed" "I",
  Cond.lays "SlideRules$Scale" "SlideRules$Scale" "placedSteps" "I",
  Cond.methodLink "SlideRulesLaw" (23 : Nat) ({ cls := "SlideRules", name := "place", desc := "(II)I" } : MethodName),
  Cond.instanceMethod ({ cls := "SlideRules", name := "place", desc := "(II)I" } : MethodName),
  Cond.selects "SlideRules" ({ cls := "SlideRules", name := "place", desc := "(II)I" } : MethodName) ({ cls := "SlideRules", name := "place", desc := "(II)I" } : MethodName),
  Cond.code ({ cls := "SlideRules", name := "place", desc := "(II)I" } : MethodName) prog_1_method_4_code (4 : Nat) (Option.some FieldType.int),
  Cond.methodLink "SlideRules" (85 : Nat) ({ cls := "SlideRules", name := "scaleAt", desc := "(I)LSlideRules$Scale;" } : MethodName),
  Cond.instanceMethod ({ cls := "SlideRules", name := "scaleAt", desc := "(I)LSlideRules$Scale;" } : MethodName),
  Cond.code ({ cls := "SlideRules", name := "scaleAt", desc := "(I)LSlideRules$Scale;" } : MethodName) prog_1_method_28_code (2 : Nat) (Option.some (FieldType.object "SlideRules$Scale")),
  Cond.methodLink "SlideRules" (89 : Nat) ({ cls := "SlideRules", name := "isNumber", desc := "(I)Z" } : MethodName),
  Cond.static ({ cls := "SlideRules", name := "isNumber", desc := "(I)Z" } : MethodName),
  Cond.code ({ cls := "SlideRules", name := "isNumber", desc := "(I)Z" } : MethodName) prog_1_method_29_code (1 : Nat) (Option.some FieldType.boolean),
  Cond.constant "SlideRules" (224 : Nat) (100000 : Int32),
  Cond.constant "SlideRules" (93 : Nat) (-2000000000 : Int32),
  Cond.methodLink "SlideRules" (94 : Nat) ({ cls := "SlideRules$Scale", name := "placeOf", desc := "(IILSlideRules$Logs;)I" } : MethodName),
  Cond.instanceMethod ({ cls := "SlideRules$Scale", name := "placeOf", desc := "(IILSlideRules$Logs;)I" } : MethodName),
  Cond.selects "SlideRules$Scale" ({ cls := "SlideRules$Scale", name := "placeOf", desc := "(IILSlideRules$Logs;)I" } : MethodName) ({ cls := "SlideRules$Scale", name := "placeOf", desc := "(IILSlideRules$Logs;)I" } : MethodName),
  Cond.code ({ cls := "SlideRules$Scale", name := "placeOf", desc := "(IILSlideRules$Logs;)I" } : MethodName) prog_9_method_2_code (5 : Nat) (Option.some FieldType.int),
  Cond.methodLink "SlideRules$Scale" (56 : Nat) ({ cls := "SlideRules$Logs", name := "placeOf", desc := "(IIII)I" } : MethodName),
  Cond.instanceMethod ({ cls := "SlideRules$Logs", name := "placeOf", desc := "(IIII)I" } : MethodName)]
theorem zwm_7 : ∀ w ∈ zwl_7, w ∈ zT := zsub_in 350 (by decide +kernel)
def zwl_8 : List Cond := [Cond.selects "SlideRules$Logs" ({ cls := "SlideRules$Logs", name := "placeOf", desc := "(IIII)I" } : MethodName) ({ cls := "SlideRules$Logs", name := "placeOf", desc := "(IIII)I" } : MethodName),
  Cond.code ({ cls := "SlideRules$Logs", name := "placeOf", desc := "(IIII)I" } : MethodName) prog_4_method_4_code (7 : Nat) (Option.some FieldType.int),
  Cond.methodLink "SlideRules$Logs" (60 : Nat) ({ cls := "SlideRules$Logs", name := "putLog", desc := "(LSlideRules$Wide;I)V" } : MethodName),
  Cond.instanceMethod ({ cls := "SlideRules$Logs", name := "putLog", desc := "(LSlideRules$Wide;I)V" } : MethodName),
  Cond.code ({ cls := "SlideRules$Logs", name := "putLog", desc := "(LSlideRules$Wide;I)V" } : MethodName) prog_4_method_3_code (7 : Nat) (Option.none : Option FieldType),
  Cond.methodLink "SlideRules$Logs" (63 : Nat) ({ cls := "SlideRules$Wide", name := "subtract", desc := "(LSlideRules$Wide;)V" } : MethodName),
  Cond.instanceMethod ({ cls := "SlideRules$Wide", name := "subtract", desc := "(LSlideRules$Wide;)V" } : MethodName),
  Cond.selects "SlideRules$Wide" ({ cls := "SlideRules$Wide", name := "subtract", desc := "(LSlideRules$Wide;)V" } : MethodName) ({ cls := "SlideRules$Wide", name := "subtract", desc := "(LSlideRules$Wide;)V" } : MethodName),
  Cond.code ({ cls := "SlideRules$Wide", name := "subtract", desc := "(LSlideRules$Wide;)V" } : MethodName) prog_12_method_4_code (4 : Nat) (Option.none : Option FieldType),
  Cond.methodLink "SlideRules$Logs" (67 : Nat) ({ cls := "SlideRules$Wide", name := "floorTimes", desc := "(I)J" } : MethodName),
  Cond.instanceMethod ({ cls := "SlideRules$Wide", name := "floorTimes", desc := "(I)J" } : MethodName),
  Cond.selects "SlideRules$Wide" ({ cls := "SlideRules$Wide", name := "floorTimes", desc := "(I)J" } : MethodName) ({ cls := "SlideRules$Wide", name := "floorTimes", desc := "(I)J" } : MethodName),
  Cond.code ({ cls := "SlideRules$Wide", name := "floorTimes", desc := "(I)J" } : MethodName) prog_12_method_7_code (2 : Nat) (Option.some FieldType.long),
  Cond.constantLong "SlideRules$Logs" (71 : Nat) (2 : Int64),
  Cond.methodLink "SlideRules$Logs" (73 : Nat) ({ cls := "java/lang/Math", name := "floorDiv", desc := "(JJ)J" } : MethodName),
  Cond.static ({ cls := "java/lang/Math", name := "floorDiv", desc := "(JJ)J" } : MethodName),
  Cond.code ({ cls := "java/lang/Math", name := "floorDiv", desc := "(JJ)J" } : MethodName) prog_15_method_49_code (6 : Nat) (Option.some FieldType.long),
  Cond.methodLink "SlideRulesLaw" (28 : Nat) ({ cls := "SlideRules", name := "span", desc := "(IIII)I" } : MethodName),
  Cond.instanceMethod ({ cls := "SlideRules", name := "span", desc := "(IIII)I" } : MethodName),
  Cond.selects "SlideRules" ({ cls := "SlideRules", name := "span", desc := "(IIII)I" } : MethodName) ({ cls := "SlideRules", name := "span", desc := "(IIII)I" } : MethodName),
  Cond.code ({ cls := "SlideRules", name := "span", desc := "(IIII)I" } : MethodName) prog_1_method_5_code (7 : Nat) (Option.some FieldType.int),
  Cond.methodLink "SlideRules" (98 : Nat) ({ cls := "SlideRules$Scale", name := "lastTo", desc := "()I" } : MethodName),
  Cond.instanceMethod ({ cls := "SlideRules$Scale", name := "lastTo", desc := "()I" } : MethodName),
  Cond.selects "SlideRules$Scale" ({ cls := "SlideRules$Scale", name := "lastTo", desc := "()I" } : MethodName) ({ cls := "SlideRules$Scale", name := "lastTo", desc := "()I" } : MethodName),
  Cond.code ({ cls := "SlideRules$Scale", name := "lastTo", desc := "()I" } : MethodName) prog_9_method_3_code (1 : Nat) (Option.some FieldType.int),
  Cond.methodLink "SlideRules" (102 : Nat) ({ cls := "SlideRules$Scale", name := "hasRoomFor", desc := "(I)Z" } : MethodName),
  Cond.instanceMethod ({ cls := "SlideRules$Scale", name := "hasRoomFor", desc := "(I)Z" } : MethodName),
  Cond.selects "SlideRules$Scale" ({ cls := "SlideRules$Scale", name := "hasRoomFor", desc := "(I)Z" } : MethodName) ({ cls := "SlideRules$Scale", name := "hasRoomFor", desc := "(I)Z" } : MethodName),
  Cond.code ({ cls := "SlideRules$Scale", name := "hasRoomFor", desc := "(I)Z" } : MethodName) prog_9_method_4_code (2 : Nat) (Option.some FieldType.boolean),
  Cond.methodLink "SlideRules" (105 : Nat) ({ cls := "SlideRules$Scale", name := "addSpan", desc := "(III)V" } : MethodName),
  Cond.instanceMethod ({ cls := "SlideRules$Scale", name := "addSpan", desc := "(III)V" } : MethodName),
  Cond.selects "SlideRules$Scale" ({ cls := "SlideRules$Scale", name := "addSpan", desc := "(III)V" } : MethodName) ({ cls := "SlideRules$Scale", name := "addSpan", desc := "(III)V" } : MethodName),
  Cond.code ({ cls := "SlideRules$Scale", name := "addSpan", desc := "(III)V" } : MethodName) prog_9_method_5_code (5 : Nat) (Option.none : Option FieldType),
  Cond.methodLink "SlideRules$Scale" (65 : Nat) ({ cls := "SlideRules$Row", name := "isFull", desc := "()Z" } : MethodName),
  Cond.instanceMethod ({ cls := "SlideRules$Row", name := "isFull", desc := "()Z" } : MethodName),
  Cond.selects "SlideRules$Row" ({ cls := "SlideRules$Row", name := "isFull", desc := "()Z" } : MethodName) ({ cls := "SlideRules$Row", name := "isFull", desc := "()Z" } : MethodName),
  Cond.code ({ cls := "SlideRules$Row", name := "isFull", desc := "()Z" } : MethodName) prog_8_method_2_code (1 : Nat) (Option.some FieldType.boolean),
  Cond.methodLink "SlideRules$Scale" (69 : Nat) ({ cls := "SlideRules$Row", name := "append", desc := "(I)I" } : MethodName),
  Cond.instanceMethod ({ cls := "SlideRules$Row", name := "append", desc := "(I)I" } : MethodName),
  Cond.selects "SlideRules$Row" ({ cls := "SlideRules$Row", name := "append", desc := "(I)I" } : MethodName) ({ cls := "SlideRules$Row", name := "append", desc := "(I)I" } : MethodName)]
theorem zwm_8 : ∀ w ∈ zwl_8, w ∈ zT := zsub_in 404 (by decide +kernel)
def zwl_9 : List Cond := [Cond.code ({ cls := "SlideRules$Row", name := "append", desc := "(I)I" } : MethodName) prog_8_method_3_code (2 : Nat) (Option.some FieldType.int),
  Cond.methodLink "SlideRules$Row" (25 : Nat) ({ cls := "SlideRules$Row", name := "isFull", desc := "()Z" } : MethodName),
  Cond.methodLink "SlideRulesLaw" (33 : Nat) ({ cls := "SlideRules", name := "mark", desc := "(II)I" } : MethodName),
  Cond.instanceMethod ({ cls := "SlideRules", name := "mark", desc := "(II)I" } : MethodName),
  Cond.selects "SlideRules" ({ cls := "SlideRules", name := "mark", desc := "(II)I" } : MethodName) ({ cls := "SlideRules", name := "mark", desc := "(II)I" } : MethodName),
  Cond.code ({ cls := "SlideRules", name := "mark", desc := "(II)I" } : MethodName) prog_1_method_6_code (4 : Nat) (Option.some FieldType.int),
  Cond.methodLink "SlideRules" (109 : Nat) ({ cls := "SlideRules$Scale", name := "numberAt", desc := "(I)I" } : MethodName),
  Cond.instanceMethod ({ cls := "SlideRules$Scale", name := "numberAt", desc := "(I)I" } : MethodName),
  Cond.selects "SlideRules$Scale" ({ cls := "SlideRules$Scale", name := "numberAt", desc := "(I)I" } : MethodName) ({ cls := "SlideRules$Scale", name := "numberAt", desc := "(I)I" } : MethodName),
  Cond.code ({ cls := "SlideRules$Scale", name := "numberAt", desc := "(I)I" } : MethodName) prog_9_method_6_code (2 : Nat) (Option.some FieldType.int),
  Cond.methodLink "SlideRulesLaw" (37 : Nat) ({ cls := "SlideRules", name := "marks", desc := "(I)I" } : MethodName),
  Cond.instanceMethod ({ cls := "SlideRules", name := "marks", desc := "(I)I" } : MethodName),
  Cond.selects "SlideRules" ({ cls := "SlideRules", name := "marks", desc := "(I)I" } : MethodName) ({ cls := "SlideRules", name := "marks", desc := "(I)I" } : MethodName),
  Cond.code ({ cls := "SlideRules", name := "marks", desc := "(I)I" } : MethodName) prog_1_method_7_code (3 : Nat) (Option.some FieldType.int),
  Cond.methodLink "SlideRulesLaw" (41 : Nat) ({ cls := "SlideRules", name := "closest", desc := "(II)I" } : MethodName),
  Cond.instanceMethod ({ cls := "SlideRules", name := "closest", desc := "(II)I" } : MethodName),
  Cond.selects "SlideRules" ({ cls := "SlideRules", name := "closest", desc := "(II)I" } : MethodName) ({ cls := "SlideRules", name := "closest", desc := "(II)I" } : MethodName),
  Cond.code ({ cls := "SlideRules", name := "closest", desc := "(II)I" } : MethodName) prog_1_method_8_code (5 : Nat) (Option.some FieldType.int),
  Cond.methodLink "SlideRules" (122 : Nat) ({ cls := "SlideRules$Scale", name := "placeMarks", desc := "(ILSlideRules$Logs;)V" } : MethodName),
  Cond.instanceMethod ({ cls := "SlideRules$Scale", name := "placeMarks", desc := "(ILSlideRules$Logs;)V" } : MethodName),
  Cond.selects "SlideRules$Scale" ({ cls := "SlideRules$Scale", name := "placeMarks", desc := "(ILSlideRules$Logs;)V" } : MethodName) ({ cls := "SlideRules$Scale", name := "placeMarks", desc := "(ILSlideRules$Logs;)V" } : MethodName),
  Cond.code ({ cls := "SlideRules$Scale", name := "placeMarks", desc := "(ILSlideRules$Logs;)V" } : MethodName) prog_9_method_7_code (3 : Nat) (Option.none : Option FieldType),
  Cond.methodLink "SlideRules$Scale" (76 : Nat) ({ cls := "SlideRules$Scale", name := "placeOf", desc := "(IILSlideRules$Logs;)I" } : MethodName),
  Cond.methodLink "SlideRules" (126 : Nat) ({ cls := "SlideRules$Scale", name := "firstOfClosest", desc := "()I" } : MethodName),
  Cond.instanceMethod ({ cls := "SlideRules$Scale", name := "firstOfClosest", desc := "()I" } : MethodName),
  Cond.selects "SlideRules$Scale" ({ cls := "SlideRules$Scale", name := "firstOfClosest", desc := "()I" } : MethodName) ({ cls := "SlideRules$Scale", name := "firstOfClosest", desc := "()I" } : MethodName),
  Cond.code ({ cls := "SlideRules$Scale", name := "firstOfClosest", desc := "()I" } : MethodName) prog_9_method_9_code (3 : Nat) (Option.some FieldType.int),
  Cond.methodLink "SlideRules$Scale" (84 : Nat) ({ cls := "SlideRules$Scale", name := "gapBehind", desc := "(I)I" } : MethodName),
  Cond.instanceMethod ({ cls := "SlideRules$Scale", name := "gapBehind", desc := "(I)I" } : MethodName),
  Cond.selects "SlideRules$Scale" ({ cls := "SlideRules$Scale", name := "gapBehind", desc := "(I)I" } : MethodName) ({ cls := "SlideRules$Scale", name := "gapBehind", desc := "(I)I" } : MethodName),
  Cond.code ({ cls := "SlideRules$Scale", name := "gapBehind", desc := "(I)I" } : MethodName) prog_9_method_8_code (2 : Nat) (Option.some FieldType.int),
  Cond.methodLink "SlideRules$Scale" (79 : Nat) ({ cls := "java/lang/Math", name := "abs", desc := "(I)I" } : MethodName),
  Cond.static ({ cls := "java/lang/Math", name := "abs", desc := "(I)I" } : MethodName),
  Cond.code ({ cls := "java/lang/Math", name := "abs", desc := "(I)I" } : MethodName) prog_15_method_59_code (1 : Nat) (Option.some FieldType.int),
  Cond.methodLink "SlideRules" (129 : Nat) ({ cls := "SlideRules$Scale", name := "gapBehind", desc := "(I)I" } : MethodName),
  Cond.methodLink "SlideRulesLaw" (45 : Nat) ({ cls := "SlideRules", name := "off", desc := "(I)I" } : MethodName),
  Cond.instanceMethod ({ cls := "SlideRules", name := "off", desc := "(I)I" } : MethodName),
  Cond.selects "SlideRules" ({ cls := "SlideRules", name := "off", desc := "(I)I" } : MethodName) ({ cls := "SlideRules", name := "off", desc := "(I)I" } : MethodName),
  Cond.code ({ cls := "SlideRules", name := "off", desc := "(I)I" } : MethodName) prog_1_method_9_code (3 : Nat) (Option.some FieldType.int),
  Cond.constant "SlideRules" (132 : Nat) (-200000 : Int32)]
theorem zwm_9 : ∀ w ∈ zwl_9, w ∈ zT := zsub_in 445 (by decide +kernel)
def zwl_10 : List Cond := [Cond.constant "SlideRules" (133 : Nat) (200000 : Int32),
  Cond.methodLink "SlideRulesLaw" (49 : Nat) ({ cls := "SlideRules", name := "set", desc := "(IIII)I" } : MethodName),
  Cond.instanceMethod ({ cls := "SlideRules", name := "set", desc := "(IIII)I" } : MethodName),
  Cond.selects "SlideRules" ({ cls := "SlideRules", name := "set", desc := "(IIII)I" } : MethodName) ({ cls := "SlideRules", name := "set", desc := "(IIII)I" } : MethodName),
  Cond.code ({ cls := "SlideRules", name := "set", desc := "(IIII)I" } : MethodName) prog_1_method_10_code (7 : Nat) (Option.some FieldType.int),
  Cond.methodLink "SlideRulesLaw" (53 : Nat) ({ cls := "SlideRules", name := "against", desc := "(III)I" } : MethodName),
  Cond.instanceMethod ({ cls := "SlideRules", name := "against", desc := "(III)I" } : MethodName),
  Cond.selects "SlideRules" ({ cls := "SlideRules", name := "against", desc := "(III)I" } : MethodName) ({ cls := "SlideRules", name := "against", desc := "(III)I" } : MethodName),
  Cond.code ({ cls := "SlideRules", name := "against", desc := "(III)I" } : MethodName) prog_1_method_11_code (7 : Nat) (Option.some FieldType.int),
  Cond.methodLink "SlideRulesLaw" (58 : Nat) ({ cls := "SlideRules", name := "nearest", desc := "(II)I" } : MethodName),
  Cond.instanceMethod ({ cls := "SlideRules", name := "nearest", desc := "(II)I" } : MethodName),
  Cond.selects "SlideRules" ({ cls := "SlideRules", name := "nearest", desc := "(II)I" } : MethodName) ({ cls := "SlideRules", name := "nearest", desc := "(II)I" } : MethodName),
  Cond.code ({ cls := "SlideRules", name := "nearest", desc := "(II)I" } : MethodName) prog_1_method_12_code (4 : Nat) (Option.some FieldType.int),
  Cond.methodLink "SlideRules" (138 : Nat) ({ cls := "SlideRules", name := "isAskedPlace", desc := "(I)Z" } : MethodName),
  Cond.static ({ cls := "SlideRules", name := "isAskedPlace", desc := "(I)Z" } : MethodName),
  Cond.code ({ cls := "SlideRules", name := "isAskedPlace", desc := "(I)Z" } : MethodName) prog_1_method_31_code (1 : Nat) (Option.some FieldType.boolean),
  Cond.constant "SlideRules" (263 : Nat) (-1000000 : Int32),
  Cond.constant "SlideRules" (217 : Nat) (1000000 : Int32),
  Cond.methodLink "SlideRules" (141 : Nat) ({ cls := "SlideRules$Scale", name := "nearestTo", desc := "(I)I" } : MethodName),
  Cond.instanceMethod ({ cls := "SlideRules$Scale", name := "nearestTo", desc := "(I)I" } : MethodName),
  Cond.selects "SlideRules$Scale" ({ cls := "SlideRules$Scale", name := "nearestTo", desc := "(I)I" } : MethodName) ({ cls := "SlideRules$Scale", name := "nearestTo", desc := "(I)I" } : MethodName),
  Cond.code ({ cls := "SlideRules$Scale", name := "nearestTo", desc := "(I)I" } : MethodName) prog_9_method_10_code (4 : Nat) (Option.some FieldType.int),
  Cond.methodLink "SlideRules$Scale" (87 : Nat) ({ cls := "SlideRules$Scale", name := "numberAt", desc := "(I)I" } : MethodName),
  Cond.methodLink "SlideRulesLaw" (62 : Nat) ({ cls := "SlideRules", name := "between", desc := "(II)I" } : MethodName),
  Cond.instanceMethod ({ cls := "SlideRules", name := "between", desc := "(II)I" } : MethodName),
  Cond.selects "SlideRules" ({ cls := "SlideRules", name := "between", desc := "(II)I" } : MethodName) ({ cls := "SlideRules", name := "between", desc := "(II)I" } : MethodName),
  Cond.code ({ cls := "SlideRules", name := "between", desc := "(II)I" } : MethodName) prog_1_method_13_code (4 : Nat) (Option.some FieldType.int),
  Cond.methodLink "SlideRules" (144 : Nat) ({ cls := "SlideRules$Scale", name := "readBetween", desc := "(I)I" } : MethodName),
  Cond.instanceMethod ({ cls := "SlideRules$Scale", name := "readBetween", desc := "(I)I" } : MethodName),
  Cond.selects "SlideRules$Scale" ({ cls := "SlideRules$Scale", name := "readBetween", desc := "(I)I" } : MethodName) ({ cls := "SlideRules$Scale", name := "readBetween", desc := "(I)I" } : MethodName),
  Cond.code ({ cls := "SlideRules$Scale", name := "readBetween", desc := "(I)I" } : MethodName) prog_9_method_11_code (7 : Nat) (Option.some FieldType.int),
  Cond.methodLink "SlideRules$Scale" (90 : Nat) ({ cls := "java/lang/Math", name := "min", desc := "(II)I" } : MethodName),
  Cond.static ({ cls := "java/lang/Math", name := "min", desc := "(II)I" } : MethodName),
  Cond.code ({ cls := "java/lang/Math", name := "min", desc := "(II)I" } : MethodName) prog_15_method_69_code (2 : Nat) (Option.some FieldType.int),
  Cond.methodLink "SlideRules$Scale" (94 : Nat) ({ cls := "java/lang/Math", name := "max", desc := "(II)I" } : MethodName),
  Cond.methodLink "SlideRulesLaw" (66 : Nat) ({ cls := "SlideRules", name := "factor", desc := "(I)I" } : MethodName),
  Cond.instanceMethod ({ cls := "SlideRules", name := "factor", desc := "(I)I" } : MethodName),
  Cond.selects "SlideRules" ({ cls := "SlideRules", name := "factor", desc := "(I)I" } : MethodName) ({ cls := "SlideRules", name := "factor", desc := "(I)I" } : MethodName),
  Cond.code ({ cls := "SlideRules", name := "factor", desc := "(I)I" } : MethodName) prog_1_method_14_code (2 : Nat) (Option.some FieldType.int),
  Cond.methodLink "SlideRules" (147 : Nat) ({ cls := "SlideRules", name := "isFactor", desc := "(I)Z" } : MethodName)]
theorem zwm_10 : ∀ w ∈ zwl_10, w ∈ zT := zsub_in 485 (by decide +kernel)
def zwl_11 : List Cond := [Cond.static ({ cls := "SlideRules", name := "isFactor", desc := "(I)Z" } : MethodName),
  Cond.code ({ cls := "SlideRules", name := "isFactor", desc := "(I)Z" } : MethodName) prog_1_method_30_code (1 : Nat) (Option.some FieldType.boolean),
  Cond.methodLink "SlideRules" (153 : Nat) ({ cls := "SlideRules$Row", name := "isFull", desc := "()Z" } : MethodName),
  Cond.methodLink "SlideRules" (157 : Nat) ({ cls := "SlideRules$Row", name := "append", desc := "(I)I" } : MethodName),
  Cond.methodLink "SlideRulesLaw" (70 : Nat) ({ cls := "SlideRules", name := "clear", desc := "()I" } : MethodName),
  Cond.instanceMethod ({ cls := "SlideRules", name := "clear", desc := "()I" } : MethodName),
  Cond.selects "SlideRules" ({ cls := "SlideRules", name := "clear", desc := "()I" } : MethodName) ({ cls := "SlideRules", name := "clear", desc := "()I" } : MethodName),
  Cond.code ({ cls := "SlideRules", name := "clear", desc := "()I" } : MethodName) prog_1_method_15_code (1 : Nat) (Option.some FieldType.int),
  Cond.methodLink "SlideRules" (160 : Nat) ({ cls := "SlideRules$Row", name := "empty", desc := "()I" } : MethodName),
  Cond.instanceMethod ({ cls := "SlideRules$Row", name := "empty", desc := "()I" } : MethodName),
  Cond.selects "SlideRules$Row" ({ cls := "SlideRules$Row", name := "empty", desc := "()I" } : MethodName) ({ cls := "SlideRules$Row", name := "empty", desc := "()I" } : MethodName),
  Cond.code ({ cls := "SlideRules$Row", name := "empty", desc := "()I" } : MethodName) prog_8_method_4_code (2 : Nat) (Option.some FieldType.int),
  Cond.methodLink "SlideRulesLaw" (75 : Nat) ({ cls := "SlideRules", name := "chain", desc := "(I)I" } : MethodName),
  Cond.instanceMethod ({ cls := "SlideRules", name := "chain", desc := "(I)I" } : MethodName),
  Cond.selects "SlideRules" ({ cls := "SlideRules", name := "chain", desc := "(I)I" } : MethodName) ({ cls := "SlideRules", name := "chain", desc := "(I)I" } : MethodName),
  Cond.code ({ cls := "SlideRules", name := "chain", desc := "(I)I" } : MethodName) prog_1_method_16_code (2 : Nat) (Option.some FieldType.int),
  Cond.methodLink "SlideRules" (163 : Nat) ({ cls := "SlideRules$PlainScale", name := "cutFor", desc := "(ILSlideRules$Logs;)V" } : MethodName),
  Cond.instanceMethod ({ cls := "SlideRules$PlainScale", name := "cutFor", desc := "(ILSlideRules$Logs;)V" } : MethodName),
  Cond.selects "SlideRules$PlainScale" ({ cls := "SlideRules$PlainScale", name := "cutFor", desc := "(ILSlideRules$Logs;)V" } : MethodName) ({ cls := "SlideRules$PlainScale", name := "cutFor", desc := "(ILSlideRules$Logs;)V" } : MethodName),
  Cond.code ({ cls := "SlideRules$PlainScale", name := "cutFor", desc := "(ILSlideRules$Logs;)V" } : MethodName) prog_7_method_2_code (4 : Nat) (Option.none : Option FieldType),
  Cond.methodLink "SlideRules$PlainScale" (19 : Nat) ({ cls := "SlideRules$Logs", name := "placeOf", desc := "(IIII)I" } : MethodName),
  Cond.methodLink "SlideRules" (166 : Nat) ({ cls := "SlideRules$Chain", name := "walk", desc := "(LSlideRules$PlainScale;)V" } : MethodName),
  Cond.instanceMethod ({ cls := "SlideRules$Chain", name := "walk", desc := "(LSlideRules$PlainScale;)V" } : MethodName),
  Cond.selects "SlideRules$Chain" ({ cls := "SlideRules$Chain", name := "walk", desc := "(LSlideRules$PlainScale;)V" } : MethodName) ({ cls := "SlideRules$Chain", name := "walk", desc := "(LSlideRules$PlainScale;)V" } : MethodName),
  Cond.code ({ cls := "SlideRules$Chain", name := "walk", desc := "(LSlideRules$PlainScale;)V" } : MethodName) prog_2_method_4_code (3 : Nat) (Option.none : Option FieldType),
  Cond.methodLink "SlideRules$Chain" (40 : Nat) ({ cls := "SlideRules$Chain", name := "begin", desc := "()V" } : MethodName),
  Cond.instanceMethod ({ cls := "SlideRules$Chain", name := "begin", desc := "()V" } : MethodName),
  Cond.selects "SlideRules$Chain" ({ cls := "SlideRules$Chain", name := "begin", desc := "()V" } : MethodName) ({ cls := "SlideRules$Chain", name := "begin", desc := "()V" } : MethodName),
  Cond.code ({ cls := "SlideRules$Chain", name := "begin", desc := "()V" } : MethodName) prog_2_method_2_code (1 : Nat) (Option.none : Option FieldType),
  Cond.methodLink "SlideRules$Chain" (50 : Nat) ({ cls := "SlideRules$Chain", name := "move", desc := "(ILSlideRules$PlainScale;)V" } : MethodName),
  Cond.instanceMethod ({ cls := "SlideRules$Chain", name := "move", desc := "(ILSlideRules$PlainScale;)V" } : MethodName),
  Cond.selects "SlideRules$Chain" ({ cls := "SlideRules$Chain", name := "move", desc := "(ILSlideRules$PlainScale;)V" } : MethodName) ({ cls := "SlideRules$Chain", name := "move", desc := "(ILSlideRules$PlainScale;)V" } : MethodName),
  Cond.code ({ cls := "SlideRules$Chain", name := "move", desc := "(ILSlideRules$PlainScale;)V" } : MethodName) prog_2_method_3_code (3 : Nat) (Option.none : Option FieldType),
  Cond.methodLink "SlideRules$Chain" (31 : Nat) ({ cls := "SlideRules$PlainScale", name := "placeOf", desc := "(I)I" } : MethodName),
  Cond.instanceMethod ({ cls := "SlideRules$PlainScale", name := "placeOf", desc := "(I)I" } : MethodName),
  Cond.selects "SlideRules$PlainScale" ({ cls := "SlideRules$PlainScale", name := "placeOf", desc := "(I)I" } : MethodName) ({ cls := "SlideRules$PlainScale", name := "placeOf", desc := "(I)I" } : MethodName),
  Cond.code ({ cls := "SlideRules$PlainScale", name := "placeOf", desc := "(I)I" } : MethodName) prog_7_method_3_code (2 : Nat) (Option.some FieldType.int),
  Cond.methodLink "SlideRules" (173 : Nat) ({ cls := "SlideRules$PlainScale", name := "readingOf", desc := "(I)I" } : MethodName),
  Cond.instanceMethod ({ cls := "SlideRules$PlainScale", name := "readingOf", desc := "(I)I" } : MethodName),
  Cond.selects "SlideRules$PlainScale" ({ cls := "SlideRules$PlainScale", name := "readingOf", desc := "(I)I" } : MethodName) ({ cls := "SlideRules$PlainScale", name := "readingOf", desc := "(I)I" } : MethodName)]
theorem zwm_11 : ∀ w ∈ zwl_11, w ∈ zT := zsub_in 525 (by decide +kernel)
def zwl_12 : List Cond := [Cond.code ({ cls := "SlideRules$PlainScale", name := "readingOf", desc := "(I)I" } : MethodName) prog_7_method_5_code (4 : Nat) (Option.some FieldType.int),
  Cond.methodLink "SlideRules$PlainScale" (29 : Nat) ({ cls := "SlideRules$PlainScale", name := "firstFrom", desc := "(I)I" } : MethodName),
  Cond.instanceMethod ({ cls := "SlideRules$PlainScale", name := "firstFrom", desc := "(I)I" } : MethodName),
  Cond.code ({ cls := "SlideRules$PlainScale", name := "firstFrom", desc := "(I)I" } : MethodName) prog_7_method_4_code (5 : Nat) (Option.some FieldType.int),
  Cond.methodLink "SlideRules" (176 : Nat) ({ cls := "SlideRules$Chain", name := "truth", desc := "()I" } : MethodName),
  Cond.instanceMethod ({ cls := "SlideRules$Chain", name := "truth", desc := "()I" } : MethodName),
  Cond.selects "SlideRules$Chain" ({ cls := "SlideRules$Chain", name := "truth", desc := "()I" } : MethodName) ({ cls := "SlideRules$Chain", name := "truth", desc := "()I" } : MethodName),
  Cond.code ({ cls := "SlideRules$Chain", name := "truth", desc := "()I" } : MethodName) prog_2_method_5_code (2 : Nat) (Option.some FieldType.int),
  Cond.methodLink "SlideRules$Chain" (54 : Nat) ({ cls := "SlideRules$Chain", name := "multiplyOut", desc := "()V" } : MethodName),
  Cond.instanceMethod ({ cls := "SlideRules$Chain", name := "multiplyOut", desc := "()V" } : MethodName),
  Cond.code ({ cls := "SlideRules$Chain", name := "multiplyOut", desc := "()V" } : MethodName) prog_2_method_6_code (7 : Nat) (Option.none : Option FieldType),
  Cond.constantLong "SlideRules$Chain" (57 : Nat) (1000000000 : Int64),
  Cond.methodLink "SlideRules$Chain" (59 : Nat) ({ cls := "SlideRules$Chain", name := "firstThree", desc := "(J)I" } : MethodName),
  Cond.static ({ cls := "SlideRules$Chain", name := "firstThree", desc := "(J)I" } : MethodName),
  Cond.code ({ cls := "SlideRules$Chain", name := "firstThree", desc := "(J)I" } : MethodName) prog_2_method_7_code (4 : Nat) (Option.some FieldType.int),
  Cond.constantLong "SlideRules$Chain" (63 : Nat) (999 : Int64),
  Cond.constantLong "SlideRules$Chain" (65 : Nat) (10 : Int64),
  Cond.methodLink "SlideRulesLaw" (79 : Nat) ({ cls := "SlideRules", name := "pairs", desc := "(IIII)I" } : MethodName),
  Cond.instanceMethod ({ cls := "SlideRules", name := "pairs", desc := "(IIII)I" } : MethodName),
  Cond.selects "SlideRules" ({ cls := "SlideRules", name := "pairs", desc := "(IIII)I" } : MethodName) ({ cls := "SlideRules", name := "pairs", desc := "(IIII)I" } : MethodName),
  Cond.code ({ cls := "SlideRules", name := "pairs", desc := "(IIII)I" } : MethodName) prog_1_method_17_code (5 : Nat) (Option.some FieldType.int),
  Cond.methodLink "SlideRules" (182 : Nat) ({ cls := "SlideRules$PairSums", name := "sumUp", desc := "(IIILSlideRules$PlainScale;)V" } : MethodName),
  Cond.instanceMethod ({ cls := "SlideRules$PairSums", name := "sumUp", desc := "(IIILSlideRules$PlainScale;)V" } : MethodName),
  Cond.selects "SlideRules$PairSums" ({ cls := "SlideRules$PairSums", name := "sumUp", desc := "(IIILSlideRules$PlainScale;)V" } : MethodName) ({ cls := "SlideRules$PairSums", name := "sumUp", desc := "(IIILSlideRules$PlainScale;)V" } : MethodName),
  Cond.code ({ cls := "SlideRules$PairSums", name := "sumUp", desc := "(IIILSlideRules$PlainScale;)V" } : MethodName) prog_6_method_2_code (7 : Nat) (Option.none : Option FieldType),
  Cond.methodLink "SlideRules$PairSums" (52 : Nat) ({ cls := "SlideRules$PairSums", name := "take", desc := "(IILSlideRules$PlainScale;)V" } : MethodName),
  Cond.instanceMethod ({ cls := "SlideRules$PairSums", name := "take", desc := "(IILSlideRules$PlainScale;)V" } : MethodName),
  Cond.code ({ cls := "SlideRules$PairSums", name := "take", desc := "(IILSlideRules$PlainScale;)V" } : MethodName) prog_6_method_3_code (5 : Nat) (Option.none : Option FieldType),
  Cond.methodLink "SlideRules$PairSums" (56 : Nat) ({ cls := "SlideRules$Chain", name := "begin", desc := "()V" } : MethodName),
  Cond.methodLink "SlideRules$PairSums" (59 : Nat) ({ cls := "SlideRules$Chain", name := "move", desc := "(ILSlideRules$PlainScale;)V" } : MethodName),
  Cond.methodLink "SlideRules$PairSums" (66 : Nat) ({ cls := "SlideRules$PlainScale", name := "readingOf", desc := "(I)I" } : MethodName),
  Cond.methodLink "SlideRules$PairSums" (70 : Nat) ({ cls := "SlideRules$Chain", name := "firstThree", desc := "(J)I" } : MethodName),
  Cond.methodLink "SlideRules$PairSums" (74 : Nat) ({ cls := "java/lang/Math", name := "abs", desc := "(I)I" } : MethodName),
  Cond.methodLink "SlideRulesLaw" (83 : Nat) ({ cls := "SlideRules", name := "fewest", desc := "(III)I" } : MethodName),
  Cond.instanceMethod ({ cls := "SlideRules", name := "fewest", desc := "(III)I" } : MethodName),
  Cond.selects "SlideRules" ({ cls := "SlideRules", name := "fewest", desc := "(III)I" } : MethodName) ({ cls := "SlideRules", name := "fewest", desc := "(III)I" } : MethodName),
  Cond.code ({ cls := "SlideRules", name := "fewest", desc := "(III)I" } : MethodName) prog_1_method_18_code (4 : Nat) (Option.some FieldType.int),
  Cond.methodLink "SlideRules" (202 : Nat) ({ cls := "SlideRules", name := "isPower", desc := "(I)Z" } : MethodName),
  Cond.static ({ cls := "SlideRules", name := "isPower", desc := "(I)Z" } : MethodName),
  Cond.code ({ cls := "SlideRules", name := "isPower", desc := "(I)Z" } : MethodName) prog_1_method_32_code (1 : Nat) (Option.some FieldType.boolean)]
theorem zwm_12 : ∀ w ∈ zwl_12, w ∈ zT := zsub_in 566 (by decide +kernel)
def zwl_13 : List Cond := [Cond.methodLink "SlideRules" (205 : Nat) ({ cls := "SlideRules", name := "aimSettings", desc := "(III)V" } : MethodName),
  Cond.instanceMethod ({ cls := "SlideRules", name := "aimSettings", desc := "(III)V" } : MethodName),
  Cond.code ({ cls := "SlideRules", name := "aimSettings", desc := "(III)V" } : MethodName) prog_1_method_35_code (5 : Nat) (Option.none : Option FieldType),
  Cond.methodLink "SlideRules" (264 : Nat) ({ cls := "SlideRules$Settings", name := "forgetParts", desc := "()V" } : MethodName),
  Cond.instanceMethod ({ cls := "SlideRules$Settings", name := "forgetParts", desc := "()V" } : MethodName),
  Cond.selects "SlideRules$Settings" ({ cls := "SlideRules$Settings", name := "forgetParts", desc := "()V" } : MethodName) ({ cls := "SlideRules$Settings", name := "forgetParts", desc := "()V" } : MethodName),
  Cond.code ({ cls := "SlideRules$Settings", name := "forgetParts", desc := "()V" } : MethodName) prog_10_method_2_code (2 : Nat) (Option.none : Option FieldType),
  Cond.methodLink "SlideRules" (273 : Nat) ({ cls := "SlideRules$Settings", name := "allow", desc := "(IZ)V" } : MethodName),
  Cond.instanceMethod ({ cls := "SlideRules$Settings", name := "allow", desc := "(IZ)V" } : MethodName),
  Cond.selects "SlideRules$Settings" ({ cls := "SlideRules$Settings", name := "allow", desc := "(IZ)V" } : MethodName) ({ cls := "SlideRules$Settings", name := "allow", desc := "(IZ)V" } : MethodName),
  Cond.code ({ cls := "SlideRules$Settings", name := "allow", desc := "(IZ)V" } : MethodName) prog_10_method_3_code (3 : Nat) (Option.none : Option FieldType),
  Cond.methodLink "SlideRules" (277 : Nat) ({ cls := "SlideRules$Settings", name := "aimAt", desc := "(III)V" } : MethodName),
  Cond.instanceMethod ({ cls := "SlideRules$Settings", name := "aimAt", desc := "(III)V" } : MethodName),
  Cond.selects "SlideRules$Settings" ({ cls := "SlideRules$Settings", name := "aimAt", desc := "(III)V" } : MethodName) ({ cls := "SlideRules$Settings", name := "aimAt", desc := "(III)V" } : MethodName),
  Cond.code ({ cls := "SlideRules$Settings", name := "aimAt", desc := "(III)V" } : MethodName) prog_10_method_4_code (4 : Nat) (Option.none : Option FieldType),
  Cond.methodLink "SlideRules$Settings" (27 : Nat) ({ cls := "SlideRules$Settings", name := "measure", desc := "([II)V" } : MethodName),
  Cond.instanceMethod ({ cls := "SlideRules$Settings", name := "measure", desc := "([II)V" } : MethodName),
  Cond.code ({ cls := "SlideRules$Settings", name := "measure", desc := "([II)V" } : MethodName) prog_10_method_5_code (5 : Nat) (Option.none : Option FieldType),
  Cond.methodLink "SlideRules$Settings" (31 : Nat) ({ cls := "SlideRules$Settings", name := "reachBack", desc := "([II)V" } : MethodName),
  Cond.instanceMethod ({ cls := "SlideRules$Settings", name := "reachBack", desc := "([II)V" } : MethodName),
  Cond.code ({ cls := "SlideRules$Settings", name := "reachBack", desc := "([II)V" } : MethodName) prog_10_method_6_code (4 : Nat) (Option.none : Option FieldType),
  Cond.methodLink "SlideRules" (208 : Nat) ({ cls := "SlideRules$Settings", name := "fewestToGoal", desc := "()I" } : MethodName),
  Cond.instanceMethod ({ cls := "SlideRules$Settings", name := "fewestToGoal", desc := "()I" } : MethodName),
  Cond.selects "SlideRules$Settings" ({ cls := "SlideRules$Settings", name := "fewestToGoal", desc := "()I" } : MethodName) ({ cls := "SlideRules$Settings", name := "fewestToGoal", desc := "()I" } : MethodName),
  Cond.code ({ cls := "SlideRules$Settings", name := "fewestToGoal", desc := "()I" } : MethodName) prog_10_method_7_code (3 : Nat) (Option.some FieldType.int),
  Cond.methodLink "SlideRulesLaw" (87 : Nat) ({ cls := "SlideRules", name := "setting", desc := "(IIII)I" } : MethodName),
  Cond.instanceMethod ({ cls := "SlideRules", name := "setting", desc := "(IIII)I" } : MethodName),
  Cond.selects "SlideRules" ({ cls := "SlideRules", name := "setting", desc := "(IIII)I" } : MethodName) ({ cls := "SlideRules", name := "setting", desc := "(IIII)I" } : MethodName),
  Cond.code ({ cls := "SlideRules", name := "setting", desc := "(IIII)I" } : MethodName) prog_1_method_19_code (5 : Nat) (Option.some FieldType.int),
  Cond.methodLink "SlideRules" (211 : Nat) ({ cls := "SlideRules$Settings", name := "codeAt", desc := "(I)I" } : MethodName),
  Cond.instanceMethod ({ cls := "SlideRules$Settings", name := "codeAt", desc := "(I)I" } : MethodName),
  Cond.selects "SlideRules$Settings" ({ cls := "SlideRules$Settings", name := "codeAt", desc := "(I)I" } : MethodName) ({ cls := "SlideRules$Settings", name := "codeAt", desc := "(I)I" } : MethodName),
  Cond.code ({ cls := "SlideRules$Settings", name := "codeAt", desc := "(I)I" } : MethodName) prog_10_method_8_code (4 : Nat) (Option.some FieldType.int),
  Cond.methodLink "SlideRules$Settings" (34 : Nat) ({ cls := "SlideRules$Settings", name := "fewestToGoal", desc := "()I" } : MethodName),
  Cond.methodLink "SlideRules$Settings" (38 : Nat) ({ cls := "SlideRules$Settings", name := "makeFirst", desc := "()I" } : MethodName),
  Cond.instanceMethod ({ cls := "SlideRules$Settings", name := "makeFirst", desc := "()I" } : MethodName),
  Cond.code ({ cls := "SlideRules$Settings", name := "makeFirst", desc := "()I" } : MethodName) prog_10_method_9_code (5 : Nat) (Option.some FieldType.int),
  Cond.methodLink "SlideRules$Settings" (41 : Nat) ({ cls := "SlideRules$Settings", name := "isNearer", desc := "(II)Z" } : MethodName),
  Cond.instanceMethod ({ cls := "SlideRules$Settings", name := "isNearer", desc := "(II)Z" } : MethodName),
  Cond.code ({ cls := "SlideRules$Settings", name := "isNearer", desc := "(II)Z" } : MethodName) prog_10_method_10_code (3 : Nat) (Option.some FieldType.boolean)]
theorem zwm_13 : ∀ w ∈ zwl_13, w ∈ zT := zsub_in 609 (by decide +kernel)
def zwl_14 : List Cond := [Cond.methodLink "SlideRulesLaw" (91 : Nat) ({ cls := "SlideRules", name := "cut", desc := "(II)I" } : MethodName),
  Cond.instanceMethod ({ cls := "SlideRules", name := "cut", desc := "(II)I" } : MethodName),
  Cond.selects "SlideRules" ({ cls := "SlideRules", name := "cut", desc := "(II)I" } : MethodName) ({ cls := "SlideRules", name := "cut", desc := "(II)I" } : MethodName),
  Cond.code ({ cls := "SlideRules", name := "cut", desc := "(II)I" } : MethodName) prog_1_method_20_code (3 : Nat) (Option.some FieldType.int),
  Cond.methodLink "SlideRules" (214 : Nat) ({ cls := "SlideRules", name := "isStrip", desc := "(I)Z" } : MethodName),
  Cond.static ({ cls := "SlideRules", name := "isStrip", desc := "(I)Z" } : MethodName),
  Cond.code ({ cls := "SlideRules", name := "isStrip", desc := "(I)Z" } : MethodName) prog_1_method_33_code (1 : Nat) (Option.some FieldType.boolean),
  Cond.methodLink "SlideRules" (221 : Nat) ({ cls := "SlideRules$Row", name := "last", desc := "()I" } : MethodName),
  Cond.instanceMethod ({ cls := "SlideRules$Row", name := "last", desc := "()I" } : MethodName),
  Cond.selects "SlideRules$Row" ({ cls := "SlideRules$Row", name := "last", desc := "()I" } : MethodName) ({ cls := "SlideRules$Row", name := "last", desc := "()I" } : MethodName),
  Cond.code ({ cls := "SlideRules$Row", name := "last", desc := "()I" } : MethodName) prog_8_method_5_code (1 : Nat) (Option.some FieldType.int),
  Cond.methodLink "SlideRulesLaw" (95 : Nat) ({ cls := "SlideRules", name := "wipe", desc := "(I)I" } : MethodName),
  Cond.instanceMethod ({ cls := "SlideRules", name := "wipe", desc := "(I)I" } : MethodName),
  Cond.selects "SlideRules" ({ cls := "SlideRules", name := "wipe", desc := "(I)I" } : MethodName) ({ cls := "SlideRules", name := "wipe", desc := "(I)I" } : MethodName),
  Cond.code ({ cls := "SlideRules", name := "wipe", desc := "(I)I" } : MethodName) prog_1_method_21_code (2 : Nat) (Option.some FieldType.int),
  Cond.methodLink "SlideRulesLaw" (99 : Nat) ({ cls := "SlideRules", name := "chosen", desc := "(III)I" } : MethodName),
  Cond.instanceMethod ({ cls := "SlideRules", name := "chosen", desc := "(III)I" } : MethodName),
  Cond.selects "SlideRules" ({ cls := "SlideRules", name := "chosen", desc := "(III)I" } : MethodName) ({ cls := "SlideRules", name := "chosen", desc := "(III)I" } : MethodName),
  Cond.code ({ cls := "SlideRules", name := "chosen", desc := "(III)I" } : MethodName) prog_1_method_22_code (4 : Nat) (Option.some FieldType.int),
  Cond.methodLink "SlideRules" (225 : Nat) ({ cls := "SlideRules$Strip", name := "choose", desc := "(II)I" } : MethodName),
  Cond.instanceMethod ({ cls := "SlideRules$Strip", name := "choose", desc := "(II)I" } : MethodName),
  Cond.selects "SlideRules$Strip" ({ cls := "SlideRules$Strip", name := "choose", desc := "(II)I" } : MethodName) ({ cls := "SlideRules$Strip", name := "choose", desc := "(II)I" } : MethodName),
  Cond.code ({ cls := "SlideRules$Strip", name := "choose", desc := "(II)I" } : MethodName) prog_11_method_2_code (7 : Nat) (Option.some FieldType.int),
  Cond.methodLink "SlideRulesLaw" (103 : Nat) ({ cls := "SlideRules", name := "match", desc := "(I)I" } : MethodName),
  Cond.instanceMethod ({ cls := "SlideRules", name := "match", desc := "(I)I" } : MethodName),
  Cond.selects "SlideRules" ({ cls := "SlideRules", name := "match", desc := "(I)I" } : MethodName) ({ cls := "SlideRules", name := "match", desc := "(I)I" } : MethodName),
  Cond.code ({ cls := "SlideRules", name := "match", desc := "(I)I" } : MethodName) prog_1_method_23_code (2 : Nat) (Option.some FieldType.int),
  Cond.methodLink "SlideRules" (229 : Nat) ({ cls := "SlideRules$Match", name := "find", desc := "(LSlideRules$Row;LSlideRules$Row;)V" } : MethodName),
  Cond.instanceMethod ({ cls := "SlideRules$Match", name := "find", desc := "(LSlideRules$Row;LSlideRules$Row;)V" } : MethodName),
  Cond.selects "SlideRules$Match" ({ cls := "SlideRules$Match", name := "find", desc := "(LSlideRules$Row;LSlideRules$Row;)V" } : MethodName) ({ cls := "SlideRules$Match", name := "find", desc := "(LSlideRules$Row;LSlideRules$Row;)V" } : MethodName),
  Cond.code ({ cls := "SlideRules$Match", name := "find", desc := "(LSlideRules$Row;LSlideRules$Row;)V" } : MethodName) prog_5_method_2_code (5 : Nat) (Option.none : Option FieldType),
  Cond.methodLink "SlideRules$Match" (21 : Nat) ({ cls := "java/lang/Math", name := "min", desc := "(II)I" } : MethodName),
  Cond.methodLink "SlideRules$Match" (31 : Nat) ({ cls := "SlideRules$Match", name := "alike", desc := "(LSlideRules$Row;ILSlideRules$Row;I)I" } : MethodName),
  Cond.static ({ cls := "SlideRules$Match", name := "alike", desc := "(LSlideRules$Row;ILSlideRules$Row;I)I" } : MethodName),
  Cond.code ({ cls := "SlideRules$Match", name := "alike", desc := "(LSlideRules$Row;ILSlideRules$Row;I)I" } : MethodName) prog_5_method_3_code (9 : Nat) (Option.some FieldType.int),
  Cond.methodLink "SlideRules$Match" (35 : Nat) ({ cls := "SlideRules$Match", name := "weigh", desc := "(II)V" } : MethodName),
  Cond.instanceMethod ({ cls := "SlideRules$Match", name := "weigh", desc := "(II)V" } : MethodName),
  Cond.code ({ cls := "SlideRules$Match", name := "weigh", desc := "(II)V" } : MethodName) prog_5_method_4_code (5 : Nat) (Option.none : Option FieldType),
  Cond.methodLink "SlideRules$Match" (39 : Nat) ({ cls := "java/lang/Math", name := "abs", desc := "(I)I" } : MethodName),
  Cond.methodLink "SlideRulesLaw" (107 : Nat) ({ cls := "SlideRules", name := "law", desc := "(II)I" } : MethodName)]
theorem zwm_14 : ∀ w ∈ zwl_14, w ∈ zT := zsub_in 654 (by decide +kernel)
def zwl_15 : List Cond := [Cond.instanceMethod ({ cls := "SlideRules", name := "law", desc := "(II)I" } : MethodName),
  Cond.selects "SlideRules" ({ cls := "SlideRules", name := "law", desc := "(II)I" } : MethodName) ({ cls := "SlideRules", name := "law", desc := "(II)I" } : MethodName),
  Cond.code ({ cls := "SlideRules", name := "law", desc := "(II)I" } : MethodName) prog_1_method_24_code (3 : Nat) (Option.some FieldType.int),
  Cond.methodLink "SlideRules" (237 : Nat) ({ cls := "SlideRules$Laws", name := "isLaw", desc := "(I)Z" } : MethodName),
  Cond.static ({ cls := "SlideRules$Laws", name := "isLaw", desc := "(I)Z" } : MethodName),
  Cond.code ({ cls := "SlideRules$Laws", name := "isLaw", desc := "(I)Z" } : MethodName) prog_3_method_2_code (1 : Nat) (Option.some FieldType.boolean),
  Cond.methodLink "SlideRules" (240 : Nat) ({ cls := "SlideRules$Laws", name := "placeOf", desc := "(III)I" } : MethodName),
  Cond.static ({ cls := "SlideRules$Laws", name := "placeOf", desc := "(III)I" } : MethodName),
  Cond.code ({ cls := "SlideRules$Laws", name := "placeOf", desc := "(III)I" } : MethodName) prog_3_method_5_code (7 : Nat) (Option.some FieldType.int),
  Cond.methodLink "SlideRules$Laws" (16 : Nat) ({ cls := "SlideRules$Laws", name := "inOrder", desc := "(II)I" } : MethodName),
  Cond.static ({ cls := "SlideRules$Laws", name := "inOrder", desc := "(II)I" } : MethodName),
  Cond.code ({ cls := "SlideRules$Laws", name := "inOrder", desc := "(II)I" } : MethodName) prog_3_method_4_code (2 : Nat) (Option.some FieldType.int),
  Cond.methodLink "SlideRules$Laws" (20 : Nat) ({ cls := "SlideRules$Laws", name := "numberOf", desc := "(II)J" } : MethodName),
  Cond.static ({ cls := "SlideRules$Laws", name := "numberOf", desc := "(II)J" } : MethodName),
  Cond.code ({ cls := "SlideRules$Laws", name := "numberOf", desc := "(II)J" } : MethodName) prog_3_method_3_code (2 : Nat) (Option.some FieldType.long),
  Cond.constant "SlideRules$Laws" (13 : Nat) (1000000 : Int32),
  Cond.constantLong "SlideRules$Laws" (14 : Nat) (2 : Int64),
  Cond.methodLink "SlideRulesLaw" (111 : Nat) ({ cls := "SlideRules", name := "doubled", desc := "(I)I" } : MethodName),
  Cond.instanceMethod ({ cls := "SlideRules", name := "doubled", desc := "(I)I" } : MethodName),
  Cond.selects "SlideRules" ({ cls := "SlideRules", name := "doubled", desc := "(I)I" } : MethodName) ({ cls := "SlideRules", name := "doubled", desc := "(I)I" } : MethodName),
  Cond.code ({ cls := "SlideRules", name := "doubled", desc := "(I)I" } : MethodName) prog_1_method_25_code (2 : Nat) (Option.some FieldType.int),
  Cond.methodLink "SlideRules" (243 : Nat) ({ cls := "SlideRules$Laws", name := "doublesOf", desc := "(II)I" } : MethodName),
  Cond.instanceMethod ({ cls := "SlideRules$Laws", name := "doublesOf", desc := "(II)I" } : MethodName),
  Cond.selects "SlideRules$Laws" ({ cls := "SlideRules$Laws", name := "doublesOf", desc := "(II)I" } : MethodName) ({ cls := "SlideRules$Laws", name := "doublesOf", desc := "(II)I" } : MethodName),
  Cond.code ({ cls := "SlideRules$Laws", name := "doublesOf", desc := "(II)I" } : MethodName) prog_3_method_6_code (5 : Nat) (Option.some FieldType.int),
  Cond.methodLink "SlideRules$Laws" (24 : Nat) ({ cls := "SlideRules$Laws", name := "placeOf", desc := "(III)I" } : MethodName),
  Cond.methodLink "SlideRules$Laws" (28 : Nat) ({ cls := "SlideRules$Laws", name := "doublesFrom", desc := "(I)I" } : MethodName),
  Cond.instanceMethod ({ cls := "SlideRules$Laws", name := "doublesFrom", desc := "(I)I" } : MethodName),
  Cond.code ({ cls := "SlideRules$Laws", name := "doublesFrom", desc := "(I)I" } : MethodName) prog_3_method_7_code (6 : Nat) (Option.some FieldType.int),
  Cond.methodLink "SlideRulesLaw" (115 : Nat) ({ cls := "SlideRules", name := "count", desc := "(I)I" } : MethodName),
  Cond.instanceMethod ({ cls := "SlideRules", name := "count", desc := "(I)I" } : MethodName),
  Cond.selects "SlideRules" ({ cls := "SlideRules", name := "count", desc := "(I)I" } : MethodName) ({ cls := "SlideRules", name := "count", desc := "(I)I" } : MethodName),
  Cond.code ({ cls := "SlideRules", name := "count", desc := "(I)I" } : MethodName) prog_1_method_26_code (2 : Nat) (Option.some FieldType.int),
  Cond.methodLink "SlideRules" (246 : Nat) ({ cls := "SlideRules", name := "scalesOnSlide", desc := "()I" } : MethodName),
  Cond.instanceMethod ({ cls := "SlideRules", name := "scalesOnSlide", desc := "()I" } : MethodName),
  Cond.code ({ cls := "SlideRules", name := "scalesOnSlide", desc := "()I" } : MethodName) prog_1_method_34_code (3 : Nat) (Option.some FieldType.int),
  Cond.methodLink "SlideRulesLaw" (119 : Nat) ({ cls := "SlideRules", name := "digest", desc := "()J" } : MethodName),
  Cond.instanceMethod ({ cls := "SlideRules", name := "digest", desc := "()J" } : MethodName),
  Cond.selects "SlideRules" ({ cls := "SlideRules", name := "digest", desc := "()J" } : MethodName) ({ cls := "SlideRules", name := "digest", desc := "()J" } : MethodName),
  Cond.code ({ cls := "SlideRules", name := "digest", desc := "()J" } : MethodName) prog_1_method_27_code (4 : Nat) (Option.some FieldType.long)]
theorem zwm_15 : ∀ w ∈ zwl_15, w ∈ zT := zsub_in 695 (by decide +kernel)
def zwl_16 : List Cond := [Cond.constantLong "SlideRules" (249 : Nat) (349 : Int64),
  Cond.constantLong "SlideRules" (251 : Nat) (31 : Int64),
  Cond.methodLink "SlideRules" (253 : Nat) ({ cls := "SlideRules", name := "count", desc := "(I)I" } : MethodName),
  Cond.methodLink "SlideRules" (256 : Nat) ({ cls := "SlideRules$Scale", name := "digestOnto", desc := "(J)J" } : MethodName),
  Cond.instanceMethod ({ cls := "SlideRules$Scale", name := "digestOnto", desc := "(J)J" } : MethodName),
  Cond.selects "SlideRules$Scale" ({ cls := "SlideRules$Scale", name := "digestOnto", desc := "(J)J" } : MethodName) ({ cls := "SlideRules$Scale", name := "digestOnto", desc := "(J)J" } : MethodName),
  Cond.code ({ cls := "SlideRules$Scale", name := "digestOnto", desc := "(J)J" } : MethodName) prog_9_method_12_code (4 : Nat) (Option.some FieldType.long),
  Cond.constantLong "SlideRules$Scale" (97 : Nat) (31 : Int64),
  Cond.methodLink "SlideRules" (260 : Nat) ({ cls := "SlideRules", name := "place", desc := "(II)I" } : MethodName),
  Cond.methodLink "SlideRules" (262 : Nat) ({ cls := "SlideRules$Row", name := "digestOnto", desc := "(J)J" } : MethodName),
  Cond.instanceMethod ({ cls := "SlideRules$Row", name := "digestOnto", desc := "(J)J" } : MethodName),
  Cond.selects "SlideRules$Row" ({ cls := "SlideRules$Row", name := "digestOnto", desc := "(J)J" } : MethodName) ({ cls := "SlideRules$Row", name := "digestOnto", desc := "(J)J" } : MethodName),
  Cond.code ({ cls := "SlideRules$Row", name := "digestOnto", desc := "(J)J" } : MethodName) prog_8_method_6_code (4 : Nat) (Option.some FieldType.long),
  Cond.constantLong "SlideRules$Row" (29 : Nat) (31 : Int64),
  Cond.classLink "SlideRulesLaw" (10 : Nat) "SlideRulesModel",
  Cond.instantiable "SlideRulesModel" (30 : Nat),
  Cond.methodLink "SlideRulesLaw" (12 : Nat) ({ cls := "SlideRulesModel", name := "<init>", desc := "()V" } : MethodName),
  Cond.instanceMethod ({ cls := "SlideRulesModel", name := "<init>", desc := "()V" } : MethodName),
  Cond.code ({ cls := "SlideRulesModel", name := "<init>", desc := "()V" } : MethodName) prog_14_method_1_code (2 : Nat) (Option.none : Option FieldType),
  Cond.methodLink "SlideRulesModel" (1 : Nat) ({ cls := "java/lang/Object", name := "<init>", desc := "()V" } : MethodName),
  Cond.constant "SlideRulesModel" (73 : Nat) (800008 : Int32),
  Cond.constantLong "SlideRulesModel" (89 : Nat) (2 : Int64),
  Cond.methodLink "SlideRulesModel" (91 : Nat) ({ cls := "SlideRulesModel", name := "natural", desc := "(JJ[J)V" } : MethodName),
  Cond.instanceMethod ({ cls := "SlideRulesModel", name := "natural", desc := "(JJ[J)V" } : MethodName),
  Cond.code ({ cls := "SlideRulesModel", name := "natural", desc := "(JJ[J)V" } : MethodName) prog_14_method_11_code (12 : Nat) (Option.none : Option FieldType),
  Cond.methodLink "SlideRulesModel" (107 : Nat) ({ cls := "SlideRulesModel", name := "sets", desc := "([JJ)V" } : MethodName),
  Cond.static ({ cls := "SlideRulesModel", name := "sets", desc := "([JJ)V" } : MethodName),
  Cond.code ({ cls := "SlideRulesModel", name := "sets", desc := "([JJ)V" } : MethodName) prog_14_method_3_code (4 : Nat) (Option.none : Option FieldType),
  Cond.methodLink "SlideRulesModel" (111 : Nat) ({ cls := "SlideRulesModel", name := "divides", desc := "([JJ)V" } : MethodName),
  Cond.static ({ cls := "SlideRulesModel", name := "divides", desc := "([JJ)V" } : MethodName),
  Cond.code ({ cls := "SlideRulesModel", name := "divides", desc := "([JJ)V" } : MethodName) prog_14_method_8_code (8 : Nat) (Option.none : Option FieldType),
  Cond.constantLong "SlideRulesModel" (103 : Nat) (1000000000 : Int64),
  Cond.methodLink "SlideRulesModel" (114 : Nat) ({ cls := "SlideRulesModel", name := "isNought", desc := "([J)Z" } : MethodName),
  Cond.static ({ cls := "SlideRulesModel", name := "isNought", desc := "([J)Z" } : MethodName),
  Cond.code ({ cls := "SlideRulesModel", name := "isNought", desc := "([J)Z" } : MethodName) prog_14_method_9_code (3 : Nat) (Option.some FieldType.boolean),
  Cond.methodLink "SlideRulesModel" (118 : Nat) ({ cls := "SlideRulesModel", name := "copies", desc := "([J[J)V" } : MethodName),
  Cond.static ({ cls := "SlideRulesModel", name := "copies", desc := "([J[J)V" } : MethodName),
  Cond.code ({ cls := "SlideRulesModel", name := "copies", desc := "([J[J)V" } : MethodName) prog_14_method_4_code (3 : Nat) (Option.none : Option FieldType),
  Cond.methodLink "SlideRulesModel" (99 : Nat) ({ cls := "SlideRulesModel", name := "adds", desc := "([J[J)V" } : MethodName),
  Cond.static ({ cls := "SlideRulesModel", name := "adds", desc := "([J[J)V" } : MethodName)]
theorem zwm_16 : ∀ w ∈ zwl_16, w ∈ zT := zsub_in 737 (by decide +kernel)
def zwl_17 : List Cond := [Cond.code ({ cls := "SlideRulesModel", name := "adds", desc := "([J[J)V" } : MethodName) prog_14_method_5_code (7 : Nat) (Option.none : Option FieldType),
  Cond.methodLink "SlideRulesModel" (121 : Nat) ({ cls := "SlideRulesModel", name := "times", desc := "([JJ)V" } : MethodName),
  Cond.static ({ cls := "SlideRulesModel", name := "times", desc := "([JJ)V" } : MethodName),
  Cond.code ({ cls := "SlideRulesModel", name := "times", desc := "([JJ)V" } : MethodName) prog_14_method_7_code (10 : Nat) (Option.none : Option FieldType),
  Cond.constantLong "SlideRulesModel" (105 : Nat) (999999999 : Int64),
  Cond.constantLong "SlideRulesModel" (95 : Nat) (5 : Int64),
  Cond.constantLong "SlideRulesModel" (97 : Nat) (4 : Int64),
  Cond.fieldLink "SlideRulesModel" (7 : Nat) "SlideRulesModel" "length" "I",
  Cond.fieldLink "SlideRulesModel" (160 : Nat) "SlideRulesModel" "scales" "I",
  Cond.fieldLink "SlideRulesModel" (13 : Nat) "SlideRulesModel" "isSlide" "[Z",
  Cond.fieldLink "SlideRulesModel" (17 : Nat) "SlideRulesModel" "parts" "[I",
  Cond.fieldLink "SlideRulesModel" (21 : Nat) "SlideRulesModel" "fold" "[I",
  Cond.fieldLink "SlideRulesModel" (24 : Nat) "SlideRulesModel" "isTurned" "[Z",
  Cond.fieldLink "SlideRulesModel" (27 : Nat) "SlideRulesModel" "spans" "[I",
  Cond.fieldLink "SlideRulesModel" (30 : Nat) "SlideRulesModel" "spanFrom" "[I",
  Cond.fieldLink "SlideRulesModel" (33 : Nat) "SlideRulesModel" "spanTo" "[I",
  Cond.fieldLink "SlideRulesModel" (36 : Nat) "SlideRulesModel" "spanBy" "[I",
  Cond.fieldLink "SlideRulesModel" (206 : Nat) "SlideRulesModel" "off" "I",
  Cond.fieldLink "SlideRulesModel" (218 : Nat) "SlideRulesModel" "factors" "I",
  Cond.fieldLink "SlideRulesModel" (39 : Nat) "SlideRulesModel" "factor" "[I",
  Cond.fieldLink "SlideRulesModel" (42 : Nat) "SlideRulesModel" "strips" "[I",
  Cond.fieldLink "SlideRulesModel" (45 : Nat) "SlideRulesModel" "strip" "[I",
  Cond.fieldLink "SlideRulesModel" (48 : Nat) "SlideRulesModel" "two" "[J",
  Cond.fieldLink "SlideRulesModel" (52 : Nat) "SlideRulesModel" "ten" "[J",
  Cond.fieldLink "SlideRulesModel" (55 : Nat) "SlideRulesModel" "term" "[J",
  Cond.fieldLink "SlideRulesModel" (58 : Nat) "SlideRulesModel" "share" "[J",
  Cond.fieldLink "SlideRulesModel" (61 : Nat) "SlideRulesModel" "one" "[J",
  Cond.fieldLink "SlideRulesModel" (64 : Nat) "SlideRulesModel" "other" "[J",
  Cond.fieldLink "SlideRulesModel" (67 : Nat) "SlideRulesModel" "left" "[J",
  Cond.fieldLink "SlideRulesModel" (70 : Nat) "SlideRulesModel" "right" "[J",
  Cond.fieldLink "SlideRulesModel" (74 : Nat) "SlideRulesModel" "found" "[I",
  Cond.fieldLink "SlideRulesModel" (155 : Nat) "SlideRulesModel" "foundFor" "I",
  Cond.fieldLink "SlideRulesModel" (77 : Nat) "SlideRulesModel" "plains" "[I",
  Cond.fieldLink "SlideRulesModel" (221 : Nat) "SlideRulesModel" "plainsFor" "I",
  Cond.fieldLink "SlideRulesModel" (80 : Nat) "SlideRulesModel" "figures" "[I",
  Cond.fieldLink "SlideRulesModel" (83 : Nat) "SlideRulesModel" "least" "[I",
  Cond.fieldLink "SlideRulesModel" (86 : Nat) "SlideRulesModel" "laid" "[I",
  Cond.lays "SlideRulesModel" "SlideRulesModel" "length" "I",
  Cond.lays "SlideRulesModel" "SlideRulesModel" "scales" "I",
  Cond.laysFinal "SlideRulesModel" "SlideRulesModel" "isSlide" "[Z"]
theorem zwm_17 : ∀ w ∈ zwl_17, w ∈ zT := zsub_in 778 (by decide +kernel)
def zwl_18 : List Cond := [Cond.laysFinal "SlideRulesModel" "SlideRulesModel" "parts" "[I",
  Cond.laysFinal "SlideRulesModel" "SlideRulesModel" "fold" "[I",
  Cond.laysFinal "SlideRulesModel" "SlideRulesModel" "isTurned" "[Z",
  Cond.laysFinal "SlideRulesModel" "SlideRulesModel" "spans" "[I",
  Cond.laysFinal "SlideRulesModel" "SlideRulesModel" "spanFrom" "[I",
  Cond.laysFinal "SlideRulesModel" "SlideRulesModel" "spanTo" "[I",
  Cond.laysFinal "SlideRulesModel" "SlideRulesModel" "spanBy" "[I",
  Cond.lays "SlideRulesModel" "SlideRulesModel" "off" "I",
  Cond.lays "SlideRulesModel" "SlideRulesModel" "factors" "I",
  Cond.laysFinal "SlideRulesModel" "SlideRulesModel" "factor" "[I",
  Cond.laysFinal "SlideRulesModel" "SlideRulesModel" "strips" "[I",
  Cond.laysFinal "SlideRulesModel" "SlideRulesModel" "strip" "[I",
  Cond.laysFinal "SlideRulesModel" "SlideRulesModel" "two" "[J",
  Cond.laysFinal "SlideRulesModel" "SlideRulesModel" "ten" "[J",
  Cond.laysFinal "SlideRulesModel" "SlideRulesModel" "term" "[J",
  Cond.laysFinal "SlideRulesModel" "SlideRulesModel" "share" "[J",
  Cond.laysFinal "SlideRulesModel" "SlideRulesModel" "one" "[J",
  Cond.laysFinal "SlideRulesModel" "SlideRulesModel" "other" "[J",
  Cond.laysFinal "SlideRulesModel" "SlideRulesModel" "left" "[J",
  Cond.laysFinal "SlideRulesModel" "SlideRulesModel" "right" "[J",
  Cond.laysFinal "SlideRulesModel" "SlideRulesModel" "found" "[I",
  Cond.lays "SlideRulesModel" "SlideRulesModel" "foundFor" "I",
  Cond.laysFinal "SlideRulesModel" "SlideRulesModel" "plains" "[I",
  Cond.lays "SlideRulesModel" "SlideRulesModel" "plainsFor" "I",
  Cond.laysFinal "SlideRulesModel" "SlideRulesModel" "figures" "[I",
  Cond.laysFinal "SlideRulesModel" "SlideRulesModel" "least" "[I",
  Cond.laysFinal "SlideRulesModel" "SlideRulesModel" "laid" "[I",
  Cond.methodLink "SlideRulesLaw" (17 : Nat) ({ cls := "SlideRulesModel", name := "rule", desc := "(I)I" } : MethodName),
  Cond.instanceMethod ({ cls := "SlideRulesModel", name := "rule", desc := "(I)I" } : MethodName),
  Cond.selects "SlideRulesModel" ({ cls := "SlideRulesModel", name := "rule", desc := "(I)I" } : MethodName) ({ cls := "SlideRulesModel", name := "rule", desc := "(I)I" } : MethodName),
  Cond.code ({ cls := "SlideRulesModel", name := "rule", desc := "(I)I" } : MethodName) prog_14_method_20_code (3 : Nat) (Option.some FieldType.int),
  Cond.constantLong "SlideRulesModel" (149 : Nat) (100 : Int64),
  Cond.constantLong "SlideRulesModel" (169 : Nat) (50000 : Int64),
  Cond.methodLink "SlideRulesModel" (163 : Nat) ({ cls := "SlideRulesModel", name := "in", desc := "(JJJ)Z" } : MethodName),
  Cond.static ({ cls := "SlideRulesModel", name := "in", desc := "(JJJ)Z" } : MethodName),
  Cond.code ({ cls := "SlideRulesModel", name := "in", desc := "(JJJ)Z" } : MethodName) prog_14_method_2_code (6 : Nat) (Option.some FieldType.boolean),
  Cond.methodLink "SlideRulesLaw" (22 : Nat) ({ cls := "SlideRulesModel", name := "scale", desc := "(ZIIZ)I" } : MethodName),
  Cond.instanceMethod ({ cls := "SlideRulesModel", name := "scale", desc := "(ZIIZ)I" } : MethodName),
  Cond.selects "SlideRulesModel" ({ cls := "SlideRulesModel", name := "scale", desc := "(ZIIZ)I" } : MethodName) ({ cls := "SlideRulesModel", name := "scale", desc := "(ZIIZ)I" } : MethodName),
  Cond.code ({ cls := "SlideRulesModel", name := "scale", desc := "(ZIIZ)I" } : MethodName) prog_14_method_21_code (5 : Nat) (Option.some FieldType.int)]
theorem zwm_18 : ∀ w ∈ zwl_18, w ∈ zT := zsub_in 821 (by decide +kernel)
def zwl_19 : List Cond := [Cond.constantLong "SlideRulesModel" (171 : Nat) (3 : Int64),
  Cond.constantLong "SlideRulesModel" (124 : Nat) (10 : Int64),
  Cond.constantLong "SlideRulesModel" (173 : Nat) (990 : Int64),
  Cond.methodLink "SlideRulesLaw" (27 : Nat) ({ cls := "SlideRulesModel", name := "place", desc := "(II)I" } : MethodName),
  Cond.instanceMethod ({ cls := "SlideRulesModel", name := "place", desc := "(II)I" } : MethodName),
  Cond.selects "SlideRulesModel" ({ cls := "SlideRulesModel", name := "place", desc := "(II)I" } : MethodName) ({ cls := "SlideRulesModel", name := "place", desc := "(II)I" } : MethodName),
  Cond.code ({ cls := "SlideRulesModel", name := "place", desc := "(II)I" } : MethodName) prog_14_method_22_code (3 : Nat) (Option.some FieldType.int),
  Cond.methodLink "SlideRulesModel" (175 : Nat) ({ cls := "SlideRulesModel", name := "isScale", desc := "(I)Z" } : MethodName),
  Cond.instanceMethod ({ cls := "SlideRulesModel", name := "isScale", desc := "(I)Z" } : MethodName),
  Cond.code ({ cls := "SlideRulesModel", name := "isScale", desc := "(I)Z" } : MethodName) prog_14_method_18_code (2 : Nat) (Option.some FieldType.boolean),
  Cond.methodLink "SlideRulesModel" (179 : Nat) ({ cls := "SlideRulesModel", name := "isNumber", desc := "(I)Z" } : MethodName),
  Cond.static ({ cls := "SlideRulesModel", name := "isNumber", desc := "(I)Z" } : MethodName),
  Cond.code ({ cls := "SlideRulesModel", name := "isNumber", desc := "(I)Z" } : MethodName) prog_14_method_19_code (1 : Nat) (Option.some FieldType.boolean),
  Cond.constantLong "SlideRulesModel" (167 : Nat) (100000 : Int64),
  Cond.methodLink "SlideRulesModel" (182 : Nat) ({ cls := "SlideRulesModel", name := "placeOf", desc := "(II)I" } : MethodName),
  Cond.instanceMethod ({ cls := "SlideRulesModel", name := "placeOf", desc := "(II)I" } : MethodName),
  Cond.code ({ cls := "SlideRulesModel", name := "placeOf", desc := "(II)I" } : MethodName) prog_14_method_17_code (5 : Nat) (Option.some FieldType.int),
  Cond.constant "SlideRulesModel" (158 : Nat) (100001 : Int32),
  Cond.constant "SlideRulesModel" (159 : Nat) (1000000 : Int32),
  Cond.methodLink "SlideRulesModel" (151 : Nat) ({ cls := "SlideRulesModel", name := "nearestOf", desc := "(JJI)I" } : MethodName),
  Cond.instanceMethod ({ cls := "SlideRulesModel", name := "nearestOf", desc := "(JJI)I" } : MethodName),
  Cond.code ({ cls := "SlideRulesModel", name := "nearestOf", desc := "(JJI)I" } : MethodName) prog_14_method_15_code (13 : Nat) (Option.some FieldType.int),
  Cond.methodLink "SlideRulesModel" (126 : Nat) ({ cls := "SlideRulesModel", name := "tens", desc := "(JJ)I" } : MethodName),
  Cond.static ({ cls := "SlideRulesModel", name := "tens", desc := "(JJ)I" } : MethodName),
  Cond.code ({ cls := "SlideRulesModel", name := "tens", desc := "(JJ)I" } : MethodName) prog_14_method_14_code (9 : Nat) (Option.some FieldType.int),
  Cond.methodLink "SlideRulesModel" (130 : Nat) ({ cls := "SlideRulesModel", name := "down", desc := "(JJ)J" } : MethodName),
  Cond.static ({ cls := "SlideRulesModel", name := "down", desc := "(JJ)J" } : MethodName),
  Cond.code ({ cls := "SlideRulesModel", name := "down", desc := "(JJ)J" } : MethodName) prog_14_method_13_code (4 : Nat) (Option.some FieldType.long),
  Cond.methodLink "SlideRulesModel" (134 : Nat) ({ cls := "SlideRulesModel", name := "logOf", desc := "(J[J)V" } : MethodName),
  Cond.instanceMethod ({ cls := "SlideRulesModel", name := "logOf", desc := "(J[J)V" } : MethodName),
  Cond.code ({ cls := "SlideRulesModel", name := "logOf", desc := "(J[J)V" } : MethodName) prog_14_method_12_code (8 : Nat) (Option.none : Option FieldType),
  Cond.constantLong "SlideRulesModel" (138 : Nat) (-400000 : Int64),
  Cond.constantLong "SlideRulesModel" (140 : Nat) (400000 : Int64),
  Cond.methodLink "SlideRulesModel" (142 : Nat) ({ cls := "SlideRulesModel", name := "takes", desc := "([J[J)V" } : MethodName),
  Cond.static ({ cls := "SlideRulesModel", name := "takes", desc := "([J[J)V" } : MethodName),
  Cond.code ({ cls := "SlideRulesModel", name := "takes", desc := "([J[J)V" } : MethodName) prog_14_method_6_code (7 : Nat) (Option.none : Option FieldType),
  Cond.methodLink "SlideRulesModel" (145 : Nat) ({ cls := "SlideRulesModel", name := "isLess", desc := "([J[J)Z" } : MethodName),
  Cond.static ({ cls := "SlideRulesModel", name := "isLess", desc := "([J[J)Z" } : MethodName),
  Cond.code ({ cls := "SlideRulesModel", name := "isLess", desc := "([J[J)Z" } : MethodName) prog_14_method_10_code (3 : Nat) (Option.some FieldType.boolean),
  Cond.constant "SlideRulesModel" (186 : Nat) (-2000000000 : Int32)]
theorem zwm_19 : ∀ w ∈ zwl_19, w ∈ zT := zsub_in 889 (by decide +kernel)
def zwl_20 : List Cond := [Cond.methodLink "SlideRulesLaw" (32 : Nat) ({ cls := "SlideRulesModel", name := "span", desc := "(IIII)I" } : MethodName),
  Cond.instanceMethod ({ cls := "SlideRulesModel", name := "span", desc := "(IIII)I" } : MethodName),
  Cond.selects "SlideRulesModel" ({ cls := "SlideRulesModel", name := "span", desc := "(IIII)I" } : MethodName) ({ cls := "SlideRulesModel", name := "span", desc := "(IIII)I" } : MethodName),
  Cond.code ({ cls := "SlideRulesModel", name := "span", desc := "(IIII)I" } : MethodName) prog_14_method_26_code (7 : Nat) (Option.some FieldType.int),
  Cond.constantLong "SlideRulesModel" (191 : Nat) (10000 : Int64),
  Cond.methodLink "SlideRulesModel" (193 : Nat) ({ cls := "SlideRulesModel", name := "marksOf", desc := "(I)I" } : MethodName),
  Cond.instanceMethod ({ cls := "SlideRulesModel", name := "marksOf", desc := "(I)I" } : MethodName),
  Cond.code ({ cls := "SlideRulesModel", name := "marksOf", desc := "(I)I" } : MethodName) prog_14_method_24_code (4 : Nat) (Option.some FieldType.int),
  Cond.methodLink "SlideRulesModel" (187 : Nat) ({ cls := "SlideRulesModel", name := "spanMarks", desc := "(I)I" } : MethodName),
  Cond.instanceMethod ({ cls := "SlideRulesModel", name := "spanMarks", desc := "(I)I" } : MethodName),
  Cond.code ({ cls := "SlideRulesModel", name := "spanMarks", desc := "(I)I" } : MethodName) prog_14_method_23_code (2 : Nat) (Option.some FieldType.int),
  Cond.methodLink "SlideRulesLaw" (36 : Nat) ({ cls := "SlideRulesModel", name := "mark", desc := "(II)I" } : MethodName),
  Cond.instanceMethod ({ cls := "SlideRulesModel", name := "mark", desc := "(II)I" } : MethodName),
  Cond.selects "SlideRulesModel" ({ cls := "SlideRulesModel", name := "mark", desc := "(II)I" } : MethodName) ({ cls := "SlideRulesModel", name := "mark", desc := "(II)I" } : MethodName),
  Cond.code ({ cls := "SlideRulesModel", name := "mark", desc := "(II)I" } : MethodName) prog_14_method_27_code (3 : Nat) (Option.some FieldType.int),
  Cond.methodLink "SlideRulesModel" (196 : Nat) ({ cls := "SlideRulesModel", name := "markOf", desc := "(II)I" } : MethodName),
  Cond.instanceMethod ({ cls := "SlideRulesModel", name := "markOf", desc := "(II)I" } : MethodName),
  Cond.code ({ cls := "SlideRulesModel", name := "markOf", desc := "(II)I" } : MethodName) prog_14_method_25_code (5 : Nat) (Option.some FieldType.int),
  Cond.methodLink "SlideRulesLaw" (40 : Nat) ({ cls := "SlideRulesModel", name := "marks", desc := "(I)I" } : MethodName),
  Cond.instanceMethod ({ cls := "SlideRulesModel", name := "marks", desc := "(I)I" } : MethodName),
  Cond.selects "SlideRulesModel" ({ cls := "SlideRulesModel", name := "marks", desc := "(I)I" } : MethodName) ({ cls := "SlideRulesModel", name := "marks", desc := "(I)I" } : MethodName),
  Cond.code ({ cls := "SlideRulesModel", name := "marks", desc := "(I)I" } : MethodName) prog_14_method_28_code (2 : Nat) (Option.some FieldType.int),
  Cond.methodLink "SlideRulesLaw" (44 : Nat) ({ cls := "SlideRulesModel", name := "closest", desc := "(II)I" } : MethodName),
  Cond.instanceMethod ({ cls := "SlideRulesModel", name := "closest", desc := "(II)I" } : MethodName),
  Cond.selects "SlideRulesModel" ({ cls := "SlideRulesModel", name := "closest", desc := "(II)I" } : MethodName) ({ cls := "SlideRulesModel", name := "closest", desc := "(II)I" } : MethodName),
  Cond.code ({ cls := "SlideRulesModel", name := "closest", desc := "(II)I" } : MethodName) prog_14_method_30_code (10 : Nat) (Option.some FieldType.int),
  Cond.methodLink "SlideRulesModel" (199 : Nat) ({ cls := "SlideRulesModel", name := "size", desc := "(I)I" } : MethodName),
  Cond.static ({ cls := "SlideRulesModel", name := "size", desc := "(I)I" } : MethodName),
  Cond.code ({ cls := "SlideRulesModel", name := "size", desc := "(I)I" } : MethodName) prog_14_method_29_code (1 : Nat) (Option.some FieldType.int),
  Cond.methodLink "SlideRulesLaw" (48 : Nat) ({ cls := "SlideRulesModel", name := "off", desc := "(I)I" } : MethodName),
  Cond.instanceMethod ({ cls := "SlideRulesModel", name := "off", desc := "(I)I" } : MethodName),
  Cond.selects "SlideRulesModel" ({ cls := "SlideRulesModel", name := "off", desc := "(I)I" } : MethodName) ({ cls := "SlideRulesModel", name := "off", desc := "(I)I" } : MethodName),
  Cond.code ({ cls := "SlideRulesModel", name := "off", desc := "(I)I" } : MethodName) prog_14_method_31_code (3 : Nat) (Option.some FieldType.int),
  Cond.constantLong "SlideRulesModel" (202 : Nat) (-200000 : Int64),
  Cond.constantLong "SlideRulesModel" (204 : Nat) (200000 : Int64),
  Cond.methodLink "SlideRulesLaw" (52 : Nat) ({ cls := "SlideRulesModel", name := "set", desc := "(IIII)I" } : MethodName),
  Cond.instanceMethod ({ cls := "SlideRulesModel", name := "set", desc := "(IIII)I" } : MethodName),
  Cond.selects "SlideRulesModel" ({ cls := "SlideRulesModel", name := "set", desc := "(IIII)I" } : MethodName) ({ cls := "SlideRulesModel", name := "set", desc := "(IIII)I" } : MethodName),
  Cond.code ({ cls := "SlideRulesModel", name := "set", desc := "(IIII)I" } : MethodName) prog_14_method_32_code (5 : Nat) (Option.some FieldType.int),
  Cond.methodLink "SlideRulesLaw" (57 : Nat) ({ cls := "SlideRulesModel", name := "against", desc := "(III)I" } : MethodName)]
theorem zwm_20 : ∀ w ∈ zwl_20, w ∈ zT := zsub_in 933 (by decide +kernel)
def zwl_21 : List Cond := [Cond.instanceMethod ({ cls := "SlideRulesModel", name := "against", desc := "(III)I" } : MethodName),
  Cond.selects "SlideRulesModel" ({ cls := "SlideRulesModel", name := "against", desc := "(III)I" } : MethodName) ({ cls := "SlideRulesModel", name := "against", desc := "(III)I" } : MethodName),
  Cond.code ({ cls := "SlideRulesModel", name := "against", desc := "(III)I" } : MethodName) prog_14_method_33_code (4 : Nat) (Option.some FieldType.int),
  Cond.methodLink "SlideRulesLaw" (61 : Nat) ({ cls := "SlideRulesModel", name := "nearest", desc := "(II)I" } : MethodName),
  Cond.instanceMethod ({ cls := "SlideRulesModel", name := "nearest", desc := "(II)I" } : MethodName),
  Cond.selects "SlideRulesModel" ({ cls := "SlideRulesModel", name := "nearest", desc := "(II)I" } : MethodName) ({ cls := "SlideRulesModel", name := "nearest", desc := "(II)I" } : MethodName),
  Cond.code ({ cls := "SlideRulesModel", name := "nearest", desc := "(II)I" } : MethodName) prog_14_method_35_code (7 : Nat) (Option.some FieldType.int),
  Cond.methodLink "SlideRulesModel" (213 : Nat) ({ cls := "SlideRulesModel", name := "isPlace", desc := "(I)Z" } : MethodName),
  Cond.static ({ cls := "SlideRulesModel", name := "isPlace", desc := "(I)Z" } : MethodName),
  Cond.code ({ cls := "SlideRulesModel", name := "isPlace", desc := "(I)Z" } : MethodName) prog_14_method_34_code (1 : Nat) (Option.some FieldType.boolean),
  Cond.constantLong "SlideRulesModel" (209 : Nat) (-1000000 : Int64),
  Cond.constantLong "SlideRulesModel" (211 : Nat) (1000000 : Int64),
  Cond.methodLink "SlideRulesLaw" (65 : Nat) ({ cls := "SlideRulesModel", name := "between", desc := "(II)I" } : MethodName),
  Cond.instanceMethod ({ cls := "SlideRulesModel", name := "between", desc := "(II)I" } : MethodName),
  Cond.selects "SlideRulesModel" ({ cls := "SlideRulesModel", name := "between", desc := "(II)I" } : MethodName) ({ cls := "SlideRulesModel", name := "between", desc := "(II)I" } : MethodName),
  Cond.code ({ cls := "SlideRulesModel", name := "between", desc := "(II)I" } : MethodName) prog_14_method_36_code (9 : Nat) (Option.some FieldType.int),
  Cond.methodLink "SlideRulesLaw" (69 : Nat) ({ cls := "SlideRulesModel", name := "factor", desc := "(I)I" } : MethodName),
  Cond.instanceMethod ({ cls := "SlideRulesModel", name := "factor", desc := "(I)I" } : MethodName),
  Cond.selects "SlideRulesModel" ({ cls := "SlideRulesModel", name := "factor", desc := "(I)I" } : MethodName) ({ cls := "SlideRulesModel", name := "factor", desc := "(I)I" } : MethodName),
  Cond.code ({ cls := "SlideRulesModel", name := "factor", desc := "(I)I" } : MethodName) prog_14_method_37_code (2 : Nat) (Option.some FieldType.int),
  Cond.constantLong "SlideRulesModel" (216 : Nat) (999 : Int64),
  Cond.methodLink "SlideRulesLaw" (74 : Nat) ({ cls := "SlideRulesModel", name := "clear", desc := "()I" } : MethodName),
  Cond.instanceMethod ({ cls := "SlideRulesModel", name := "clear", desc := "()I" } : MethodName),
  Cond.selects "SlideRulesModel" ({ cls := "SlideRulesModel", name := "clear", desc := "()I" } : MethodName) ({ cls := "SlideRulesModel", name := "clear", desc := "()I" } : MethodName),
  Cond.code ({ cls := "SlideRulesModel", name := "clear", desc := "()I" } : MethodName) prog_14_method_38_code (2 : Nat) (Option.some FieldType.int),
  Cond.methodLink "SlideRulesLaw" (78 : Nat) ({ cls := "SlideRulesModel", name := "chain", desc := "(I)I" } : MethodName),
  Cond.instanceMethod ({ cls := "SlideRulesModel", name := "chain", desc := "(I)I" } : MethodName),
  Cond.selects "SlideRulesModel" ({ cls := "SlideRulesModel", name := "chain", desc := "(I)I" } : MethodName) ({ cls := "SlideRulesModel", name := "chain", desc := "(I)I" } : MethodName),
  Cond.code ({ cls := "SlideRulesModel", name := "chain", desc := "(I)I" } : MethodName) prog_14_method_42_code (5 : Nat) (Option.some FieldType.int),
  Cond.methodLink "SlideRulesModel" (227 : Nat) ({ cls := "SlideRulesModel", name := "plainOf", desc := "(I)I" } : MethodName),
  Cond.instanceMethod ({ cls := "SlideRulesModel", name := "plainOf", desc := "(I)I" } : MethodName),
  Cond.code ({ cls := "SlideRulesModel", name := "plainOf", desc := "(I)I" } : MethodName) prog_14_method_39_code (3 : Nat) (Option.some FieldType.int),
  Cond.methodLink "SlideRulesModel" (224 : Nat) ({ cls := "SlideRulesModel", name := "plain", desc := "(I)I" } : MethodName),
  Cond.instanceMethod ({ cls := "SlideRulesModel", name := "plain", desc := "(I)I" } : MethodName),
  Cond.code ({ cls := "SlideRulesModel", name := "plain", desc := "(I)I" } : MethodName) prog_14_method_16_code (2 : Nat) (Option.some FieldType.int),
  Cond.methodLink "SlideRulesModel" (232 : Nat) ({ cls := "SlideRulesModel", name := "reading", desc := "(I)I" } : MethodName),
  Cond.instanceMethod ({ cls := "SlideRulesModel", name := "reading", desc := "(I)I" } : MethodName),
  Cond.code ({ cls := "SlideRulesModel", name := "reading", desc := "(I)I" } : MethodName) prog_14_method_40_code (4 : Nat) (Option.some FieldType.int),
  Cond.methodLink "SlideRulesModel" (235 : Nat) ({ cls := "SlideRulesModel", name := "truth", desc := "()I" } : MethodName),
  Cond.instanceMethod ({ cls := "SlideRulesModel", name := "truth", desc := "()I" } : MethodName)]
theorem zwm_21 : ∀ w ∈ zwl_21, w ∈ zT := zsub_in 976 (by decide +kernel)
def zwl_22 : List Cond := [Cond.code ({ cls := "SlideRulesModel", name := "truth", desc := "()I" } : MethodName) prog_14_method_41_code (6 : Nat) (Option.some FieldType.int),
  Cond.constantLong "SlideRulesModel" (230 : Nat) (1000 : Int64),
  Cond.methodLink "SlideRulesLaw" (82 : Nat) ({ cls := "SlideRulesModel", name := "pairs", desc := "(IIII)I" } : MethodName),
  Cond.instanceMethod ({ cls := "SlideRulesModel", name := "pairs", desc := "(IIII)I" } : MethodName),
  Cond.selects "SlideRulesModel" ({ cls := "SlideRulesModel", name := "pairs", desc := "(IIII)I" } : MethodName) ({ cls := "SlideRulesModel", name := "pairs", desc := "(IIII)I" } : MethodName),
  Cond.code ({ cls := "SlideRulesModel", name := "pairs", desc := "(IIII)I" } : MethodName) prog_14_method_43_code (16 : Nat) (Option.some FieldType.int),
  Cond.methodLink "SlideRulesLaw" (86 : Nat) ({ cls := "SlideRulesModel", name := "fewest", desc := "(III)I" } : MethodName),
  Cond.instanceMethod ({ cls := "SlideRulesModel", name := "fewest", desc := "(III)I" } : MethodName),
  Cond.selects "SlideRulesModel" ({ cls := "SlideRulesModel", name := "fewest", desc := "(III)I" } : MethodName) ({ cls := "SlideRulesModel", name := "fewest", desc := "(III)I" } : MethodName),
  Cond.code ({ cls := "SlideRulesModel", name := "fewest", desc := "(III)I" } : MethodName) prog_14_method_48_code (4 : Nat) (Option.some FieldType.int),
  Cond.methodLink "SlideRulesModel" (249 : Nat) ({ cls := "SlideRulesModel", name := "isPower", desc := "(I)Z" } : MethodName),
  Cond.static ({ cls := "SlideRulesModel", name := "isPower", desc := "(I)Z" } : MethodName),
  Cond.code ({ cls := "SlideRulesModel", name := "isPower", desc := "(I)Z" } : MethodName) prog_14_method_46_code (1 : Nat) (Option.some FieldType.boolean),
  Cond.constantLong "SlideRulesModel" (245 : Nat) (-8 : Int64),
  Cond.constantLong "SlideRulesModel" (247 : Nat) (8 : Int64),
  Cond.methodLink "SlideRulesModel" (252 : Nat) ({ cls := "SlideRulesModel", name := "spreads", desc := "()V" } : MethodName),
  Cond.instanceMethod ({ cls := "SlideRulesModel", name := "spreads", desc := "()V" } : MethodName),
  Cond.code ({ cls := "SlideRulesModel", name := "spreads", desc := "()V" } : MethodName) prog_14_method_45_code (5 : Nat) (Option.none : Option FieldType),
  Cond.constantLong "SlideRulesModel" (239 : Nat) (64 : Int64),
  Cond.methodLink "SlideRulesModel" (241 : Nat) ({ cls := "SlideRulesModel", name := "lets", desc := "(II)Z" } : MethodName),
  Cond.instanceMethod ({ cls := "SlideRulesModel", name := "lets", desc := "(II)Z" } : MethodName),
  Cond.code ({ cls := "SlideRulesModel", name := "lets", desc := "(II)Z" } : MethodName) prog_14_method_44_code (5 : Nat) (Option.some FieldType.boolean),
  Cond.methodLink "SlideRulesModel" (255 : Nat) ({ cls := "SlideRulesModel", name := "leastTo", desc := "(III)I" } : MethodName),
  Cond.instanceMethod ({ cls := "SlideRulesModel", name := "leastTo", desc := "(III)I" } : MethodName),
  Cond.code ({ cls := "SlideRulesModel", name := "leastTo", desc := "(III)I" } : MethodName) prog_14_method_47_code (5 : Nat) (Option.some FieldType.int),
  Cond.methodLink "SlideRulesLaw" (90 : Nat) ({ cls := "SlideRulesModel", name := "setting", desc := "(IIII)I" } : MethodName),
  Cond.instanceMethod ({ cls := "SlideRulesModel", name := "setting", desc := "(IIII)I" } : MethodName),
  Cond.selects "SlideRulesModel" ({ cls := "SlideRulesModel", name := "setting", desc := "(IIII)I" } : MethodName) ({ cls := "SlideRulesModel", name := "setting", desc := "(IIII)I" } : MethodName),
  Cond.code ({ cls := "SlideRulesModel", name := "setting", desc := "(IIII)I" } : MethodName) prog_14_method_49_code (18 : Nat) (Option.some FieldType.int),
  Cond.methodLink "SlideRulesLaw" (94 : Nat) ({ cls := "SlideRulesModel", name := "cut", desc := "(II)I" } : MethodName),
  Cond.instanceMethod ({ cls := "SlideRulesModel", name := "cut", desc := "(II)I" } : MethodName),
  Cond.selects "SlideRulesModel" ({ cls := "SlideRulesModel", name := "cut", desc := "(II)I" } : MethodName) ({ cls := "SlideRulesModel", name := "cut", desc := "(II)I" } : MethodName),
  Cond.code ({ cls := "SlideRulesModel", name := "cut", desc := "(II)I" } : MethodName) prog_14_method_51_code (3 : Nat) (Option.some FieldType.int),
  Cond.methodLink "SlideRulesModel" (259 : Nat) ({ cls := "SlideRulesModel", name := "isStrip", desc := "(I)Z" } : MethodName),
  Cond.static ({ cls := "SlideRulesModel", name := "isStrip", desc := "(I)Z" } : MethodName),
  Cond.code ({ cls := "SlideRulesModel", name := "isStrip", desc := "(I)Z" } : MethodName) prog_14_method_50_code (1 : Nat) (Option.some FieldType.boolean),
  Cond.methodLink "SlideRulesLaw" (98 : Nat) ({ cls := "SlideRulesModel", name := "wipe", desc := "(I)I" } : MethodName),
  Cond.instanceMethod ({ cls := "SlideRulesModel", name := "wipe", desc := "(I)I" } : MethodName),
  Cond.selects "SlideRulesModel" ({ cls := "SlideRulesModel", name := "wipe", desc := "(I)I" } : MethodName) ({ cls := "SlideRulesModel", name := "wipe", desc := "(I)I" } : MethodName),
  Cond.code ({ cls := "SlideRulesModel", name := "wipe", desc := "(I)I" } : MethodName) prog_14_method_52_code (3 : Nat) (Option.some FieldType.int)]
theorem zwm_22 : ∀ w ∈ zwl_22, w ∈ zT := zsub_in 1020 (by decide +kernel)
def zwl_23 : List Cond := [Cond.methodLink "SlideRulesLaw" (102 : Nat) ({ cls := "SlideRulesModel", name := "chosen", desc := "(III)I" } : MethodName),
  Cond.instanceMethod ({ cls := "SlideRulesModel", name := "chosen", desc := "(III)I" } : MethodName),
  Cond.selects "SlideRulesModel" ({ cls := "SlideRulesModel", name := "chosen", desc := "(III)I" } : MethodName) ({ cls := "SlideRulesModel", name := "chosen", desc := "(III)I" } : MethodName),
  Cond.code ({ cls := "SlideRulesModel", name := "chosen", desc := "(III)I" } : MethodName) prog_14_method_53_code (8 : Nat) (Option.some FieldType.int),
  Cond.methodLink "SlideRulesLaw" (106 : Nat) ({ cls := "SlideRulesModel", name := "match", desc := "(I)I" } : MethodName),
  Cond.instanceMethod ({ cls := "SlideRulesModel", name := "match", desc := "(I)I" } : MethodName),
  Cond.selects "SlideRulesModel" ({ cls := "SlideRulesModel", name := "match", desc := "(I)I" } : MethodName) ({ cls := "SlideRulesModel", name := "match", desc := "(I)I" } : MethodName),
  Cond.code ({ cls := "SlideRulesModel", name := "match", desc := "(I)I" } : MethodName) prog_14_method_55_code (9 : Nat) (Option.some FieldType.int),
  Cond.methodLink "SlideRulesModel" (262 : Nat) ({ cls := "SlideRulesModel", name := "has", desc := "(II)Z" } : MethodName),
  Cond.instanceMethod ({ cls := "SlideRulesModel", name := "has", desc := "(II)Z" } : MethodName),
  Cond.code ({ cls := "SlideRulesModel", name := "has", desc := "(II)Z" } : MethodName) prog_14_method_54_code (5 : Nat) (Option.some FieldType.boolean),
  Cond.methodLink "SlideRulesLaw" (110 : Nat) ({ cls := "SlideRulesModel", name := "law", desc := "(II)I" } : MethodName),
  Cond.instanceMethod ({ cls := "SlideRulesModel", name := "law", desc := "(II)I" } : MethodName),
  Cond.selects "SlideRulesModel" ({ cls := "SlideRulesModel", name := "law", desc := "(II)I" } : MethodName) ({ cls := "SlideRulesModel", name := "law", desc := "(II)I" } : MethodName),
  Cond.code ({ cls := "SlideRulesModel", name := "law", desc := "(II)I" } : MethodName) prog_14_method_58_code (3 : Nat) (Option.some FieldType.int),
  Cond.constantLong "SlideRulesModel" (269 : Nat) (60 : Int64),
  Cond.methodLink "SlideRulesModel" (271 : Nat) ({ cls := "SlideRulesModel", name := "lawPlace", desc := "(II)I" } : MethodName),
  Cond.instanceMethod ({ cls := "SlideRulesModel", name := "lawPlace", desc := "(II)I" } : MethodName),
  Cond.code ({ cls := "SlideRulesModel", name := "lawPlace", desc := "(II)I" } : MethodName) prog_14_method_57_code (7 : Nat) (Option.some FieldType.int),
  Cond.methodLink "SlideRulesModel" (265 : Nat) ({ cls := "SlideRulesModel", name := "numberOf", desc := "(II)J" } : MethodName),
  Cond.static ({ cls := "SlideRulesModel", name := "numberOf", desc := "(II)J" } : MethodName),
  Cond.code ({ cls := "SlideRulesModel", name := "numberOf", desc := "(II)J" } : MethodName) prog_14_method_56_code (2 : Nat) (Option.some FieldType.long),
  Cond.methodLink "SlideRulesLaw" (114 : Nat) ({ cls := "SlideRulesModel", name := "doubled", desc := "(I)I" } : MethodName),
  Cond.instanceMethod ({ cls := "SlideRulesModel", name := "doubled", desc := "(I)I" } : MethodName),
  Cond.selects "SlideRulesModel" ({ cls := "SlideRulesModel", name := "doubled", desc := "(I)I" } : MethodName) ({ cls := "SlideRulesModel", name := "doubled", desc := "(I)I" } : MethodName),
  Cond.code ({ cls := "SlideRulesModel", name := "doubled", desc := "(I)I" } : MethodName) prog_14_method_59_code (7 : Nat) (Option.some FieldType.int),
  Cond.methodLink "SlideRulesLaw" (118 : Nat) ({ cls := "SlideRulesModel", name := "count", desc := "(I)I" } : MethodName),
  Cond.instanceMethod ({ cls := "SlideRulesModel", name := "count", desc := "(I)I" } : MethodName),
  Cond.selects "SlideRulesModel" ({ cls := "SlideRulesModel", name := "count", desc := "(I)I" } : MethodName) ({ cls := "SlideRulesModel", name := "count", desc := "(I)I" } : MethodName),
  Cond.code ({ cls := "SlideRulesModel", name := "count", desc := "(I)I" } : MethodName) prog_14_method_60_code (4 : Nat) (Option.some FieldType.int),
  Cond.methodLink "SlideRulesLaw" (123 : Nat) ({ cls := "SlideRulesModel", name := "digest", desc := "()J" } : MethodName),
  Cond.instanceMethod ({ cls := "SlideRulesModel", name := "digest", desc := "()J" } : MethodName),
  Cond.selects "SlideRulesModel" ({ cls := "SlideRulesModel", name := "digest", desc := "()J" } : MethodName) ({ cls := "SlideRulesModel", name := "digest", desc := "()J" } : MethodName),
  Cond.code ({ cls := "SlideRulesModel", name := "digest", desc := "()J" } : MethodName) prog_14_method_61_code (5 : Nat) (Option.some FieldType.long),
  Cond.constantLong "SlideRulesModel" (274 : Nat) (349 : Int64),
  Cond.constantLong "SlideRulesModel" (276 : Nat) (31 : Int64),
  Cond.methodLink "SlideRulesModel" (278 : Nat) ({ cls := "SlideRulesModel", name := "count", desc := "(I)I" } : MethodName)]
theorem zwm_23 : ∀ w ∈ zwl_23, w ∈ zT := zsub_in 1063 (by decide +kernel)
def zr (t : Nat) : vw_C := vwCl.getD t (RX0, TX0, 4)
def zkd (t k : Nat) : Nat := match t with
  | 0 => [2, 0, 0, 2].getD k 2
  | 1 => [2].getD k 2
  | 2 => [2, 2, 2, 2, 2].getD k 2
  | 3 => [0, 0].getD k 2
  | 4 => [0, 0, 0, 0, 0, 0, 0, 0, 0, 0, 2].getD k 2
  | 5 => [0, 2].getD k 2
  | 6 => [2, 0].getD k 2
  | 7 => [0, 0, 0, 0, 2, 0, 2, 2, 2, 2, 0, 0].getD k 2
  | 8 => [2, 2, 2, 2].getD k 2
  | 9 => [2].getD k 2
  | 10 => [1, 1].getD k 2
  | 11 => [2, 2, 2, 2, 2, 2, 2, 2, 2, 0, 0, 0].getD k 2
  | 12 => [0, 0, 2, 2, 2, 2, 2, 2, 2, 2, 0, 0, 2, 2, 2, 2, 2, 2, 2, 2, 2, 2, 2, 2, 0, 2, 0, 2, 2, 2].getD k 2
  | _ => 2
def zn (t : Nat) : Nat := [4, 1, 5, 2, 11, 2, 2, 12, 4, 1, 2, 12, 30].getD t 0
def zty (t k : Nat) : FieldType := match t with
  | 0 => tyX0 k
  | 1 => tyX1 k
  | 2 => tyX2 k
  | 3 => tyX3 k
  | 4 => tyX4 k
  | 5 => tyX5 k
  | 6 => tyX6 k
  | 7 => tyX7 k
  | 8 => tyX8 k
  | 9 => tyX9 k
  | 10 => tyX10 k
  | 11 => tyX11 k
  | 12 => tyX12 k
  | _ => .int
/-- what a class's tables give -/
def zCl (t : Nat) : Prop := vwCl[t]? = some (zr t) ∧ zn t = (zr t).2.2 ∧ (∀ k, k < (zr t).2.2 → parseFieldDescriptor ((zr t).2.1 k).2.2.1 = some (zty t k)) ∧ (∀ a, a < (zr t).2.2 → ∀ b, b < (zr t).2.2 → a ≠ b → ((zr t).2.1 a).2.1 ≠ ((zr t).2.1 b).2.1) ∧ ∀ w ∈ u_ws (zr t).1 (zr t).2.1 (zr t).2.2, w ∈ zT
theorem zu_in {R : String} {T : u_T} {N : Nat} (h : ∀ k, k < N → u_lay R T k ∈ zT) : ∀ w ∈ u_ws R T N, w ∈ zT := fun w hw => by
  obtain ⟨k, hk, rfl⟩ := List.mem_map.mp hw
  exact h k (List.mem_range.mp hk)
theorem zly_0_0 : u_lay RX0 TX0 0 ∈ zT := zwm_3 _ (List.mem_of_getElem? (i := 33) rfl)
theorem zly_0_1 : u_lay RX0 TX0 1 ∈ zT := zwm_3 _ (List.mem_of_getElem? (i := 34) rfl)
theorem zly_0_2 : u_lay RX0 TX0 2 ∈ zT := zwm_3 _ (List.mem_of_getElem? (i := 35) rfl)
theorem zly_0_3 : u_lay RX0 TX0 3 ∈ zT := zwm_3 _ (List.mem_of_getElem? (i := 36) rfl)
theorem zCl_0 : zCl 0 := ⟨rfl, rfl, tyX0_ok, nmX0, zu_in (R := RX0) (T := TX0) (N := 4) (fun k hk => by
  match k, hk with
  | 0, _ => exact zly_0_0
  | 1, _ => exact zly_0_1
  | 2, _ => exact zly_0_2
  | 3, _ => exact zly_0_3
  | q + 4, hk => exact absurd hk (by omega))⟩
theorem zly_1_0 : u_lay RX1 TX1 0 ∈ zT := zwm_5 _ (List.mem_of_getElem? (i := 24) rfl)
theorem zCl_1 : zCl 1 := ⟨rfl, rfl, tyX1_ok, nmX1, zu_in (R := RX1) (T := TX1) (N := 1) (fun k hk => by
  match k, hk with
  | 0, _ => exact zly_1_0
  | q + 1, hk => exact absurd hk (by omega))⟩
theorem zly_2_0 : u_lay RX2 TX2 0 ∈ zT := zwm_2 _ (List.mem_of_getElem? (i := 19) rfl)
theorem zly_2_1 : u_lay RX2 TX2 1 ∈ zT := zwm_2 _ (List.mem_of_getElem? (i := 20) rfl)
theorem zly_2_2 : u_lay RX2 TX2 2 ∈ zT := zwm_2 _ (List.mem_of_getElem? (i := 21) rfl)
theorem zly_2_3 : u_lay RX2 TX2 3 ∈ zT := zwm_2 _ (List.mem_of_getElem? (i := 22) rfl)
theorem zly_2_4 : u_lay RX2 TX2 4 ∈ zT := zwm_2 _ (List.mem_of_getElem? (i := 23) rfl)
theorem zCl_2 : zCl 2 := ⟨rfl, rfl, tyX2_ok, nmX2, zu_in (R := RX2) (T := TX2) (N := 5) (fun k hk => by
  match k, hk with
  | 0, _ => exact zly_2_0
  | 1, _ => exact zly_2_1
  | 2, _ => exact zly_2_2
  | 3, _ => exact zly_2_3
  | 4, _ => exact zly_2_4
  | q + 5, hk => exact absurd hk (by omega))⟩
theorem zly_3_0 : u_lay RX3 TX3 0 ∈ zT := zwm_5 _ (List.mem_of_getElem? (i := 16) rfl)
theorem zly_3_1 : u_lay RX3 TX3 1 ∈ zT := zwm_5 _ (List.mem_of_getElem? (i := 17) rfl)
theorem zCl_3 : zCl 3 := ⟨rfl, rfl, tyX3_ok, nmX3, zu_in (R := RX3) (T := TX3) (N := 2) (fun k hk => by
  match k, hk with
  | 0, _ => exact zly_3_0
  | 1, _ => exact zly_3_1
  | q + 2, hk => exact absurd hk (by omega))⟩
theorem zly_4_0 : u_lay RX4 TX4 0 ∈ zT := zwm_4 _ (List.mem_of_getElem? (i := 20) rfl)
theorem zly_4_1 : u_lay RX4 TX4 1 ∈ zT := zwm_4 _ (List.mem_of_getElem? (i := 21) rfl)
theorem zly_4_2 : u_lay RX4 TX4 2 ∈ zT := zwm_4 _ (List.mem_of_getElem? (i := 22) rfl)
theorem zly_4_3 : u_lay RX4 TX4 3 ∈ zT := zwm_4 _ (List.mem_of_getElem? (i := 23) rfl)
theorem zly_4_4 : u_lay RX4 TX4 4 ∈ zT := zwm_4 _ (List.mem_of_getElem? (i := 24) rfl)
theorem zly_4_5 : u_lay RX4 TX4 5 ∈ zT := zwm_4 _ (List.mem_of_getElem? (i := 25) rfl)
theorem zly_4_6 : u_lay RX4 TX4 6 ∈ zT := zwm_4 _ (List.mem_of_getElem? (i := 26) rfl)
theorem zly_4_7 : u_lay RX4 TX4 7 ∈ zT := zwm_4 _ (List.mem_of_getElem? (i := 27) rfl)
theorem zly_4_8 : u_lay RX4 TX4 8 ∈ zT := zwm_4 _ (List.mem_of_getElem? (i := 28) rfl)
theorem zly_4_9 : u_lay RX4 TX4 9 ∈ zT := zwm_4 _ (List.mem_of_getElem? (i := 29) rfl)
theorem zly_4_10 : u_lay RX4 TX4 10 ∈ zT := zwm_4 _ (List.mem_of_getElem? (i := 30) rfl)
theorem zCl_4 : zCl 4 := ⟨rfl, rfl, tyX4_ok, nmX4, zu_in (R := RX4) (T := TX4) (N := 11) (fun k hk => by
  match k, hk with
  | 0, _ => exact zly_4_0
  | 1, _ => exact zly_4_1
  | 2, _ => exact zly_4_2
  | 3, _ => exact zly_4_3
  | 4, _ => exact zly_4_4
  | 5, _ => exact zly_4_5
  | 6, _ => exact zly_4_6
  | 7, _ => exact zly_4_7
  | 8, _ => exact zly_4_8
  | 9, _ => exact zly_4_9
  | 10, _ => exact zly_4_10
  | q + 11, hk => exact absurd hk (by omega))⟩
theorem zly_5_0 : u_lay RX5 TX5 0 ∈ zT := zwm_2 _ (List.mem_of_getElem? (i := 33) rfl)
theorem zly_5_1 : u_lay RX5 TX5 1 ∈ zT := zwm_2 _ (List.mem_of_getElem? (i := 34) rfl)
theorem zCl_5 : zCl 5 := ⟨rfl, rfl, tyX5_ok, nmX5, zu_in (R := RX5) (T := TX5) (N := 2) (fun k hk => by
  match k, hk with
  | 0, _ => exact zly_5_0
  | 1, _ => exact zly_5_1
  | q + 2, hk => exact absurd hk (by omega))⟩
theorem zly_6_0 : u_lay RX6 TX6 0 ∈ zT := zwm_3 _ (List.mem_of_getElem? (i := 22) rfl)
theorem zly_6_1 : u_lay RX6 TX6 1 ∈ zT := zwm_3 _ (List.mem_of_getElem? (i := 23) rfl)
theorem zCl_6 : zCl 6 := ⟨rfl, rfl, tyX6_ok, nmX6, zu_in (R := RX6) (T := TX6) (N := 2) (fun k hk => by
  match k, hk with
  | 0, _ => exact zly_6_0
  | 1, _ => exact zly_6_1
  | q + 2, hk => exact absurd hk (by omega))⟩
theorem zly_7_0 : u_lay RX7 TX7 0 ∈ zT := zwm_7 _ (List.mem_of_getElem? (i := 10) rfl)
theorem zly_7_1 : u_lay RX7 TX7 1 ∈ zT := zwm_7 _ (List.mem_of_getElem? (i := 11) rfl)
theorem zly_7_2 : u_lay RX7 TX7 2 ∈ zT := zwm_7 _ (List.mem_of_getElem? (i := 12) rfl)
theorem zly_7_3 : u_lay RX7 TX7 3 ∈ zT := zwm_7 _ (List.mem_of_getElem? (i := 13) rfl)
theorem zly_7_4 : u_lay RX7 TX7 4 ∈ zT := zwm_7 _ (List.mem_of_getElem? (i := 14) rfl)
theorem zly_7_5 : u_lay RX7 TX7 5 ∈ zT := zwm_7 _ (List.mem_of_getElem? (i := 15) rfl)
theorem zly_7_6 : u_lay RX7 TX7 6 ∈ zT := zwm_7 _ (List.mem_of_getElem? (i := 16) rfl)
theorem zly_7_7 : u_lay RX7 TX7 7 ∈ zT := zwm_7 _ (List.mem_of_getElem? (i := 17) rfl)
theorem zly_7_8 : u_lay RX7 TX7 8 ∈ zT := zwm_7 _ (List.mem_of_getElem? (i := 18) rfl)
theorem zly_7_9 : u_lay RX7 TX7 9 ∈ zT := zwm_7 _ (List.mem_of_getElem? (i := 19) rfl)
theorem zly_7_10 : u_lay RX7 TX7 10 ∈ zT := zwm_7 _ (List.mem_of_getElem? (i := 20) rfl)
theorem zly_7_11 : u_lay RX7 TX7 11 ∈ zT := zwm_7 _ (List.mem_of_getElem? (i := 21) rfl)
theorem zCl_7 : zCl 7 := ⟨rfl, rfl, tyX7_ok, nmX7, zu_in (R := RX7) (T := TX7) (N := 12) (fun k hk => by
  match k, hk with
  | 0, _ => exact zly_7_0
  | 1, _ => exact zly_7_1
  | 2, _ => exact zly_7_2
  | 3, _ => exact zly_7_3
  | 4, _ => exact zly_7_4
  | 5, _ => exact zly_7_5
  | 6, _ => exact zly_7_6
  | 7, _ => exact zly_7_7
  | 8, _ => exact zly_7_8
  | 9, _ => exact zly_7_9
  | 10, _ => exact zly_7_10
  | 11, _ => exact zly_7_11
  | q + 12, hk => exact absurd hk (by omega))⟩
theorem zly_8_0 : u_lay RX8 TX8 0 ∈ zT := zwm_5 _ (List.mem_of_getElem? (i := 1) rfl)
theorem zly_8_1 : u_lay RX8 TX8 1 ∈ zT := zwm_5 _ (List.mem_of_getElem? (i := 2) rfl)
theorem zly_8_2 : u_lay RX8 TX8 2 ∈ zT := zwm_5 _ (List.mem_of_getElem? (i := 3) rfl)
theorem zly_8_3 : u_lay RX8 TX8 3 ∈ zT := zwm_5 _ (List.mem_of_getElem? (i := 4) rfl)
theorem zCl_8 : zCl 8 := ⟨rfl, rfl, tyX8_ok, nmX8, zu_in (R := RX8) (T := TX8) (N := 4) (fun k hk => by
  match k, hk with
  | 0, _ => exact zly_8_0
  | 1, _ => exact zly_8_1
  | 2, _ => exact zly_8_2
  | 3, _ => exact zly_8_3
  | q + 4, hk => exact absurd hk (by omega))⟩
theorem zly_9_0 : u_lay RX9 TX9 0 ∈ zT := zwm_5 _ (List.mem_of_getElem? (i := 33) rfl)
theorem zCl_9 : zCl 9 := ⟨rfl, rfl, tyX9_ok, nmX9, zu_in (R := RX9) (T := TX9) (N := 1) (fun k hk => by
  match k, hk with
  | 0, _ => exact zly_9_0
  | q + 1, hk => exact absurd hk (by omega))⟩
theorem zly_10_0 : u_lay RX10 TX10 0 ∈ zT := zwm_1 _ (List.mem_of_getElem? (i := 29) rfl)
theorem zly_10_1 : u_lay RX10 TX10 1 ∈ zT := zwm_1 _ (List.mem_of_getElem? (i := 30) rfl)
theorem zCl_10 : zCl 10 := ⟨rfl, rfl, tyX10_ok, nmX10, zu_in (R := RX10) (T := TX10) (N := 2) (fun k hk => by
  match k, hk with
  | 0, _ => exact zly_10_0
  | 1, _ => exact zly_10_1
  | q + 2, hk => exact absurd hk (by omega))⟩
theorem zly_11_0 : u_lay RX11 TX11 0 ∈ zT := zwm_6 _ (List.mem_of_getElem? (i := 6) rfl)
theorem zly_11_1 : u_lay RX11 TX11 1 ∈ zT := zwm_6 _ (List.mem_of_getElem? (i := 7) rfl)
theorem zly_11_2 : u_lay RX11 TX11 2 ∈ zT := zwm_6 _ (List.mem_of_getElem? (i := 8) rfl)
theorem zly_11_3 : u_lay RX11 TX11 3 ∈ zT := zwm_6 _ (List.mem_of_getElem? (i := 9) rfl)
theorem zly_11_4 : u_lay RX11 TX11 4 ∈ zT := zwm_6 _ (List.mem_of_getElem? (i := 10) rfl)
theorem zly_11_5 : u_lay RX11 TX11 5 ∈ zT := zwm_6 _ (List.mem_of_getElem? (i := 11) rfl)
theorem zly_11_6 : u_lay RX11 TX11 6 ∈ zT := zwm_6 _ (List.mem_of_getElem? (i := 12) rfl)
theorem zly_11_7 : u_lay RX11 TX11 7 ∈ zT := zwm_6 _ (List.mem_of_getElem? (i := 13) rfl)
theorem zly_11_8 : u_lay RX11 TX11 8 ∈ zT := zwm_6 _ (List.mem_of_getElem? (i := 14) rfl)
theorem zly_11_9 : u_lay RX11 TX11 9 ∈ zT := zwm_6 _ (List.mem_of_getElem? (i := 15) rfl)
theorem zly_11_10 : u_lay RX11 TX11 10 ∈ zT := zwm_6 _ (List.mem_of_getElem? (i := 16) rfl)
theorem zly_11_11 : u_lay RX11 TX11 11 ∈ zT := zwm_6 _ (List.mem_of_getElem? (i := 17) rfl)
theorem zCl_11 : zCl 11 := ⟨rfl, rfl, tyX11_ok, nmX11, zu_in (R := RX11) (T := TX11) (N := 12) (fun k hk => by
  match k, hk with
  | 0, _ => exact zly_11_0
  | 1, _ => exact zly_11_1
  | 2, _ => exact zly_11_2
  | 3, _ => exact zly_11_3
  | 4, _ => exact zly_11_4
  | 5, _ => exact zly_11_5
  | 6, _ => exact zly_11_6
  | 7, _ => exact zly_11_7
  | 8, _ => exact zly_11_8
  | 9, _ => exact zly_11_9
  | 10, _ => exact zly_11_10
  | 11, _ => exact zly_11_11
  | q + 12, hk => exact absurd hk (by omega))⟩
theorem zly_12_0 : u_lay RX12 TX12 0 ∈ zT := zwm_17 _ (List.mem_of_getElem? (i := 37) rfl)
theorem zly_12_1 : u_lay RX12 TX12 1 ∈ zT := zwm_17 _ (List.mem_of_getElem? (i := 38) rfl)
theorem zly_12_2 : u_lay RX12 TX12 2 ∈ zT := zwm_17 _ (List.mem_of_getElem? (i := 39) rfl)
theorem zly_12_3 : u_lay RX12 TX12 3 ∈ zT := zwm_18 _ (List.mem_of_getElem? (i := 0) rfl)
theorem zly_12_4 : u_lay RX12 TX12 4 ∈ zT := zwm_18 _ (List.mem_of_getElem? (i := 1) rfl)
theorem zly_12_5 : u_lay RX12 TX12 5 ∈ zT := zwm_18 _ (List.mem_of_getElem? (i := 2) rfl)
theorem zly_12_6 : u_lay RX12 TX12 6 ∈ zT := zwm_18 _ (List.mem_of_getElem? (i := 3) rfl)
theorem zly_12_7 : u_lay RX12 TX12 7 ∈ zT := zwm_18 _ (List.mem_of_getElem? (i := 4) rfl)
theorem zly_12_8 : u_lay RX12 TX12 8 ∈ zT := zwm_18 _ (List.mem_of_getElem? (i := 5) rfl)
theorem zly_12_9 : u_lay RX12 TX12 9 ∈ zT := zwm_18 _ (List.mem_of_getElem? (i := 6) rfl)
theorem zly_12_10 : u_lay RX12 TX12 10 ∈ zT := zwm_18 _ (List.mem_of_getElem? (i := 7) rfl)
theorem zly_12_11 : u_lay RX12 TX12 11 ∈ zT := zwm_18 _ (List.mem_of_getElem? (i := 8) rfl)
theorem zly_12_12 : u_lay RX12 TX12 12 ∈ zT := zwm_18 _ (List.mem_of_getElem? (i := 9) rfl)
theorem zly_12_13 : u_lay RX12 TX12 13 ∈ zT := zwm_18 _ (List.mem_of_getElem? (i := 10) rfl)
theorem zly_12_14 : u_lay RX12 TX12 14 ∈ zT := zwm_18 _ (List.mem_of_getElem? (i := 11) rfl)
theorem zly_12_15 : u_lay RX12 TX12 15 ∈ zT := zwm_18 _ (List.mem_of_getElem? (i := 12) rfl)
theorem zly_12_16 : u_lay RX12 TX12 16 ∈ zT := zwm_18 _ (List.mem_of_getElem? (i := 13) rfl)
theorem zly_12_17 : u_lay RX12 TX12 17 ∈ zT := zwm_18 _ (List.mem_of_getElem? (i := 14) rfl)
theorem zly_12_18 : u_lay RX12 TX12 18 ∈ zT := zwm_18 _ (List.mem_of_getElem? (i := 15) rfl)
theorem zly_12_19 : u_lay RX12 TX12 19 ∈ zT := zwm_18 _ (List.mem_of_getElem? (i := 16) rfl)
theorem zly_12_20 : u_lay RX12 TX12 20 ∈ zT := zwm_18 _ (List.mem_of_getElem? (i := 17) rfl)
theorem zly_12_21 : u_lay RX12 TX12 21 ∈ zT := zwm_18 _ (List.mem_of_getElem? (i := 18) rfl)
theorem zly_12_22 : u_lay RX12 TX12 22 ∈ zT := zwm_18 _ (List.mem_of_getElem? (i := 19) rfl)
theorem zly_12_23 : u_lay RX12 TX12 23 ∈ zT := zwm_18 _ (List.mem_of_getElem? (i := 20) rfl)
theorem zly_12_24 : u_lay RX12 TX12 24 ∈ zT := zwm_18 _ (List.mem_of_getElem? (i := 21) rfl)
theorem zly_12_25 : u_lay RX12 TX12 25 ∈ zT := zwm_18 _ (List.mem_of_getElem? (i := 22) rfl)
theorem zly_12_26 : u_lay RX12 TX12 26 ∈ zT := zwm_18 _ (List.mem_of_getElem? (i := 23) rfl)
theorem zly_12_27 : u_lay RX12 TX12 27 ∈ zT := zwm_18 _ (List.mem_of_getElem? (i := 24) rfl)
theorem zly_12_28 : u_lay RX12 TX12 28 ∈ zT := zwm_18 _ (List.mem_of_getElem? (i := 25) rfl)
theorem zly_12_29 : u_lay RX12 TX12 29 ∈ zT := zwm_18 _ (List.mem_of_getElem? (i := 26) rfl)
theorem zCl_12 : zCl 12 := ⟨rfl, rfl, tyX12_ok, nmX12, zu_in (R := RX12) (T := TX12) (N := 30) (fun k hk => by
  match k, hk with
  | 0, _ => exact zly_12_0
  | 1, _ => exact zly_12_1
  | 2, _ => exact zly_12_2
  | 3, _ => exact zly_12_3
  | 4, _ => exact zly_12_4
  | 5, _ => exact zly_12_5
  | 6, _ => exact zly_12_6
  | 7, _ => exact zly_12_7
  | 8, _ => exact zly_12_8
  | 9, _ => exact zly_12_9
  | 10, _ => exact zly_12_10
  | 11, _ => exact zly_12_11
  | 12, _ => exact zly_12_12
  | 13, _ => exact zly_12_13
  | 14, _ => exact zly_12_14
  | 15, _ => exact zly_12_15
  | 16, _ => exact zly_12_16
  | 17, _ => exact zly_12_17
  | 18, _ => exact zly_12_18
  | 19, _ => exact zly_12_19
  | 20, _ => exact zly_12_20
  | 21, _ => exact zly_12_21
  | 22, _ => exact zly_12_22
  | 23, _ => exact zly_12_23
  | 24, _ => exact zly_12_24
  | 25, _ => exact zly_12_25
  | 26, _ => exact zly_12_26
  | 27, _ => exact zly_12_27
  | 28, _ => exact zly_12_28
  | 29, _ => exact zly_12_29
  | q + 30, hk => exact absurd hk (by omega))⟩
/-- a field's link: pool entry i of class own is slot k of class t, of kind kd -/
def zF (own : String) (i t k kd : Nat) : Prop := t < 13 ∧ zCl t ∧ k < (zr t).2.2 ∧ zkd t k = kd ∧ Cond.fieldLink own i ((zr t).2.1 k).1 ((zr t).2.1 k).2.1 ((zr t).2.1 k).2.2.1 ∈ zT
theorem zF_X10_9 : zF RX10 9 10 0 1 := ⟨by decide, zCl_10, by decide, rfl, zwm_1 _ (List.mem_of_getElem? (i := 25) rfl)⟩
theorem zF_X2_33 : zF RX2 33 10 0 1 := ⟨by decide, zCl_10, by decide, rfl, zwm_1 _ (List.mem_of_getElem? (i := 26) rfl)⟩
theorem zF_X10_13 : zF RX10 13 10 1 1 := ⟨by decide, zCl_10, by decide, rfl, zwm_1 _ (List.mem_of_getElem? (i := 27) rfl)⟩
theorem zF_X2_37 : zF RX2 37 10 1 1 := ⟨by decide, zCl_10, by decide, rfl, zwm_1 _ (List.mem_of_getElem? (i := 28) rfl)⟩
theorem zF_X2_9 : zF RX2 9 2 0 2 := ⟨by decide, zCl_2, by decide, rfl, zwm_2 _ (List.mem_of_getElem? (i := 14) rfl)⟩
theorem zF_X2_13 : zF RX2 13 2 1 2 := ⟨by decide, zCl_2, by decide, rfl, zwm_2 _ (List.mem_of_getElem? (i := 15) rfl)⟩
theorem zF_X2_19 : zF RX2 19 2 2 2 := ⟨by decide, zCl_2, by decide, rfl, zwm_2 _ (List.mem_of_getElem? (i := 16) rfl)⟩
theorem zF_X2_23 : zF RX2 23 2 3 2 := ⟨by decide, zCl_2, by decide, rfl, zwm_2 _ (List.mem_of_getElem? (i := 17) rfl)⟩
theorem zF_X2_26 : zF RX2 26 2 4 2 := ⟨by decide, zCl_2, by decide, rfl, zwm_2 _ (List.mem_of_getElem? (i := 18) rfl)⟩
theorem zF_X5_9 : zF RX5 9 5 0 0 := ⟨by decide, zCl_5, by decide, rfl, zwm_2 _ (List.mem_of_getElem? (i := 29) rfl)⟩
theorem zF_X4_49 : zF RX4 49 5 0 0 := ⟨by decide, zCl_5, by decide, rfl, zwm_2 _ (List.mem_of_getElem? (i := 30) rfl)⟩
theorem zF_X0_37 : zF RX0 37 5 0 0 := ⟨by decide, zCl_5, by decide, rfl, zwm_2 _ (List.mem_of_getElem? (i := 31) rfl)⟩
theorem zF_X5_15 : zF RX5 15 5 1 2 := ⟨by decide, zCl_5, by decide, rfl, zwm_2 _ (List.mem_of_getElem? (i := 32) rfl)⟩
theorem zF_X6_21 : zF RX6 21 6 0 2 := ⟨by decide, zCl_6, by decide, rfl, zwm_3 _ (List.mem_of_getElem? (i := 11) rfl)⟩
theorem zF_X9_24 : zF RX9 24 6 0 2 := ⟨by decide, zCl_6, by decide, rfl, zwm_3 _ (List.mem_of_getElem? (i := 12) rfl)⟩
theorem zF_X3_27 : zF RX3 27 6 0 2 := ⟨by decide, zCl_6, by decide, rfl, zwm_3 _ (List.mem_of_getElem? (i := 13) rfl)⟩
theorem zF_X0_46 : zF RX0 46 6 0 2 := ⟨by decide, zCl_6, by decide, rfl, zwm_3 _ (List.mem_of_getElem? (i := 14) rfl)⟩
theorem zF_X7_73 : zF RX7 73 6 0 2 := ⟨by decide, zCl_6, by decide, rfl, zwm_3 _ (List.mem_of_getElem? (i := 15) rfl)⟩
theorem zF_X6_9 : zF RX6 9 6 1 0 := ⟨by decide, zCl_6, by decide, rfl, zwm_3 _ (List.mem_of_getElem? (i := 16) rfl)⟩
theorem zF_X9_20 : zF RX9 20 6 1 0 := ⟨by decide, zCl_6, by decide, rfl, zwm_3 _ (List.mem_of_getElem? (i := 17) rfl)⟩
theorem zF_X3_16 : zF RX3 16 6 1 0 := ⟨by decide, zCl_6, by decide, rfl, zwm_3 _ (List.mem_of_getElem? (i := 18) rfl)⟩
theorem zF_X0_43 : zF RX0 43 6 1 0 := ⟨by decide, zCl_6, by decide, rfl, zwm_3 _ (List.mem_of_getElem? (i := 19) rfl)⟩
theorem zF_X7_62 : zF RX7 62 6 1 0 := ⟨by decide, zCl_6, by decide, rfl, zwm_3 _ (List.mem_of_getElem? (i := 20) rfl)⟩
theorem zF_X11_117 : zF RX11 117 6 1 0 := ⟨by decide, zCl_6, by decide, rfl, zwm_3 _ (List.mem_of_getElem? (i := 21) rfl)⟩
theorem zF_X0_16 : zF RX0 16 0 0 2 := ⟨by decide, zCl_0, by decide, rfl, zwm_3 _ (List.mem_of_getElem? (i := 24) rfl)⟩
theorem zF_X11_150 : zF RX11 150 0 0 2 := ⟨by decide, zCl_0, by decide, rfl, zwm_3 _ (List.mem_of_getElem? (i := 25) rfl)⟩
theorem zF_X0_20 : zF RX0 20 0 1 0 := ⟨by decide, zCl_0, by decide, rfl, zwm_3 _ (List.mem_of_getElem? (i := 26) rfl)⟩
theorem zF_X4_63 : zF RX4 63 0 1 0 := ⟨by decide, zCl_0, by decide, rfl, zwm_3 _ (List.mem_of_getElem? (i := 27) rfl)⟩
theorem zF_X11_170 : zF RX11 170 0 1 0 := ⟨by decide, zCl_0, by decide, rfl, zwm_3 _ (List.mem_of_getElem? (i := 28) rfl)⟩
theorem zF_X0_24 : zF RX0 24 0 2 0 := ⟨by decide, zCl_0, by decide, rfl, zwm_3 _ (List.mem_of_getElem? (i := 29) rfl)⟩
theorem zF_X4_79 : zF RX4 79 0 2 0 := ⟨by decide, zCl_0, by decide, rfl, zwm_3 _ (List.mem_of_getElem? (i := 30) rfl)⟩
theorem zF_X11_179 : zF RX11 179 0 2 0 := ⟨by decide, zCl_0, by decide, rfl, zwm_3 _ (List.mem_of_getElem? (i := 31) rfl)⟩
theorem zF_X0_27 : zF RX0 27 0 3 2 := ⟨by decide, zCl_0, by decide, rfl, zwm_3 _ (List.mem_of_getElem? (i := 32) rfl)⟩
theorem zF_X4_9 : zF RX4 9 4 0 0 := ⟨by decide, zCl_4, by decide, rfl, zwm_4 _ (List.mem_of_getElem? (i := 3) rfl)⟩
theorem zF_X11_186 : zF RX11 186 4 0 0 := ⟨by decide, zCl_4, by decide, rfl, zwm_4 _ (List.mem_of_getElem? (i := 4) rfl)⟩
theorem zF_X4_15 : zF RX4 15 4 1 0 := ⟨by decide, zCl_4, by decide, rfl, zwm_4 _ (List.mem_of_getElem? (i := 5) rfl)⟩
theorem zF_X11_189 : zF RX11 189 4 1 0 := ⟨by decide, zCl_4, by decide, rfl, zwm_4 _ (List.mem_of_getElem? (i := 6) rfl)⟩
theorem zF_X4_18 : zF RX4 18 4 2 0 := ⟨by decide, zCl_4, by decide, rfl, zwm_4 _ (List.mem_of_getElem? (i := 7) rfl)⟩
theorem zF_X11_192 : zF RX11 192 4 2 0 := ⟨by decide, zCl_4, by decide, rfl, zwm_4 _ (List.mem_of_getElem? (i := 8) rfl)⟩
theorem zF_X4_21 : zF RX4 21 4 3 0 := ⟨by decide, zCl_4, by decide, rfl, zwm_4 _ (List.mem_of_getElem? (i := 9) rfl)⟩
theorem zF_X11_195 : zF RX11 195 4 3 0 := ⟨by decide, zCl_4, by decide, rfl, zwm_4 _ (List.mem_of_getElem? (i := 10) rfl)⟩
theorem zF_X4_24 : zF RX4 24 4 4 0 := ⟨by decide, zCl_4, by decide, rfl, zwm_4 _ (List.mem_of_getElem? (i := 11) rfl)⟩
theorem zF_X11_198 : zF RX11 198 4 4 0 := ⟨by decide, zCl_4, by decide, rfl, zwm_4 _ (List.mem_of_getElem? (i := 12) rfl)⟩
theorem zF_X4_27 : zF RX4 27 4 5 0 := ⟨by decide, zCl_4, by decide, rfl, zwm_4 _ (List.mem_of_getElem? (i := 13) rfl)⟩
theorem zF_X11_201 : zF RX11 201 4 5 0 := ⟨by decide, zCl_4, by decide, rfl, zwm_4 _ (List.mem_of_getElem? (i := 14) rfl)⟩
theorem zF_X4_30 : zF RX4 30 4 6 0 := ⟨by decide, zCl_4, by decide, rfl, zwm_4 _ (List.mem_of_getElem? (i := 15) rfl)⟩
theorem zF_X4_33 : zF RX4 33 4 7 0 := ⟨by decide, zCl_4, by decide, rfl, zwm_4 _ (List.mem_of_getElem? (i := 16) rfl)⟩
theorem zF_X4_36 : zF RX4 36 4 8 0 := ⟨by decide, zCl_4, by decide, rfl, zwm_4 _ (List.mem_of_getElem? (i := 17) rfl)⟩
theorem zF_X4_39 : zF RX4 39 4 9 0 := ⟨by decide, zCl_4, by decide, rfl, zwm_4 _ (List.mem_of_getElem? (i := 18) rfl)⟩
theorem zF_X4_45 : zF RX4 45 4 10 2 := ⟨by decide, zCl_4, by decide, rfl, zwm_4 _ (List.mem_of_getElem? (i := 19) rfl)⟩
theorem zF_X8_11 : zF RX8 11 8 0 2 := ⟨by decide, zCl_8, by decide, rfl, zwm_4 _ (List.mem_of_getElem? (i := 37) rfl)⟩
theorem zF_X8_15 : zF RX8 15 8 1 2 := ⟨by decide, zCl_8, by decide, rfl, zwm_4 _ (List.mem_of_getElem? (i := 38) rfl)⟩
theorem zF_X8_20 : zF RX8 20 8 2 2 := ⟨by decide, zCl_8, by decide, rfl, zwm_4 _ (List.mem_of_getElem? (i := 39) rfl)⟩
theorem zF_X8_23 : zF RX8 23 8 3 2 := ⟨by decide, zCl_8, by decide, rfl, zwm_5 _ (List.mem_of_getElem? (i := 0) rfl)⟩
theorem zF_X3_7 : zF RX3 7 3 0 0 := ⟨by decide, zCl_3, by decide, rfl, zwm_5 _ (List.mem_of_getElem? (i := 12) rfl)⟩
theorem zF_X11_233 : zF RX11 233 3 0 0 := ⟨by decide, zCl_3, by decide, rfl, zwm_5 _ (List.mem_of_getElem? (i := 13) rfl)⟩
theorem zF_X3_13 : zF RX3 13 3 1 0 := ⟨by decide, zCl_3, by decide, rfl, zwm_5 _ (List.mem_of_getElem? (i := 14) rfl)⟩
theorem zF_X11_236 : zF RX11 236 3 1 0 := ⟨by decide, zCl_3, by decide, rfl, zwm_5 _ (List.mem_of_getElem? (i := 15) rfl)⟩
theorem zF_X1_9 : zF RX1 9 1 0 2 := ⟨by decide, zCl_1, by decide, rfl, zwm_5 _ (List.mem_of_getElem? (i := 23) rfl)⟩
theorem zF_X9_16 : zF RX9 16 9 0 2 := ⟨by decide, zCl_9, by decide, rfl, zwm_5 _ (List.mem_of_getElem? (i := 31) rfl)⟩
theorem zF_X11_218 : zF RX11 218 9 0 2 := ⟨by decide, zCl_9, by decide, rfl, zwm_5 _ (List.mem_of_getElem? (i := 32) rfl)⟩
theorem zF_X11_10 : zF RX11 10 11 0 2 := ⟨by decide, zCl_11, by decide, rfl, zwm_5 _ (List.mem_of_getElem? (i := 34) rfl)⟩
theorem zF_X11_19 : zF RX11 19 11 1 2 := ⟨by decide, zCl_11, by decide, rfl, zwm_5 _ (List.mem_of_getElem? (i := 35) rfl)⟩
theorem zF_X11_25 : zF RX11 25 11 2 2 := ⟨by decide, zCl_11, by decide, rfl, zwm_5 _ (List.mem_of_getElem? (i := 36) rfl)⟩
theorem zF_X11_32 : zF RX11 32 11 3 2 := ⟨by decide, zCl_11, by decide, rfl, zwm_5 _ (List.mem_of_getElem? (i := 37) rfl)⟩
theorem zF_X11_39 : zF RX11 39 11 4 2 := ⟨by decide, zCl_11, by decide, rfl, zwm_5 _ (List.mem_of_getElem? (i := 38) rfl)⟩
theorem zF_X11_46 : zF RX11 46 11 5 2 := ⟨by decide, zCl_11, by decide, rfl, zwm_5 _ (List.mem_of_getElem? (i := 39) rfl)⟩
theorem zF_X11_52 : zF RX11 52 11 6 2 := ⟨by decide, zCl_11, by decide, rfl, zwm_6 _ (List.mem_of_getElem? (i := 0) rfl)⟩
theorem zF_X11_59 : zF RX11 59 11 7 2 := ⟨by decide, zCl_11, by decide, rfl, zwm_6 _ (List.mem_of_getElem? (i := 1) rfl)⟩
theorem zF_X11_66 : zF RX11 66 11 8 2 := ⟨by decide, zCl_11, by decide, rfl, zwm_6 _ (List.mem_of_getElem? (i := 2) rfl)⟩
theorem zF_X11_70 : zF RX11 70 11 9 0 := ⟨by decide, zCl_11, by decide, rfl, zwm_6 _ (List.mem_of_getElem? (i := 3) rfl)⟩
theorem zF_X11_74 : zF RX11 74 11 10 0 := ⟨by decide, zCl_11, by decide, rfl, zwm_6 _ (List.mem_of_getElem? (i := 4) rfl)⟩
theorem zF_X11_77 : zF RX11 77 11 11 0 := ⟨by decide, zCl_11, by decide, rfl, zwm_6 _ (List.mem_of_getElem? (i := 5) rfl)⟩
theorem zF_X7_43 : zF RX7 43 7 0 0 := ⟨by decide, zCl_7, by decide, rfl, zwm_6 _ (List.mem_of_getElem? (i := 34) rfl)⟩
theorem zF_X11_134 : zF RX11 134 7 0 0 := ⟨by decide, zCl_7, by decide, rfl, zwm_6 _ (List.mem_of_getElem? (i := 35) rfl)⟩
theorem zF_X7_47 : zF RX7 47 7 1 0 := ⟨by decide, zCl_7, by decide, rfl, zwm_6 _ (List.mem_of_getElem? (i := 36) rfl)⟩
theorem zF_X11_267 : zF RX11 267 7 1 0 := ⟨by decide, zCl_7, by decide, rfl, zwm_6 _ (List.mem_of_getElem? (i := 37) rfl)⟩
theorem zF_X7_50 : zF RX7 50 7 2 0 := ⟨by decide, zCl_7, by decide, rfl, zwm_6 _ (List.mem_of_getElem? (i := 38) rfl)⟩
theorem zF_X7_53 : zF RX7 53 7 3 0 := ⟨by decide, zCl_7, by decide, rfl, zwm_6 _ (List.mem_of_getElem? (i := 39) rfl)⟩
theorem zF_X11_270 : zF RX11 270 7 3 0 := ⟨by decide, zCl_7, by decide, rfl, zwm_7 _ (List.mem_of_getElem? (i := 0) rfl)⟩
theorem zF_X7_16 : zF RX7 16 7 4 2 := ⟨by decide, zCl_7, by decide, rfl, zwm_7 _ (List.mem_of_getElem? (i := 1) rfl)⟩
theorem zF_X11_113 : zF RX11 113 7 4 2 := ⟨by decide, zCl_7, by decide, rfl, zwm_7 _ (List.mem_of_getElem? (i := 2) rfl)⟩
theorem zF_X7_20 : zF RX7 20 7 5 0 := ⟨by decide, zCl_7, by decide, rfl, zwm_7 _ (List.mem_of_getElem? (i := 3) rfl)⟩
theorem zF_X7_24 : zF RX7 24 7 6 2 := ⟨by decide, zCl_7, by decide, rfl, zwm_7 _ (List.mem_of_getElem? (i := 4) rfl)⟩
theorem zF_X7_28 : zF RX7 28 7 7 2 := ⟨by decide, zCl_7, by decide, rfl, zwm_7 _ (List.mem_of_getElem? (i := 5) rfl)⟩
theorem zF_X7_31 : zF RX7 31 7 8 2 := ⟨by decide, zCl_7, by decide, rfl, zwm_7 _ (List.mem_of_getElem? (i := 6) rfl)⟩
theorem zF_X7_34 : zF RX7 34 7 9 2 := ⟨by decide, zCl_7, by decide, rfl, zwm_7 _ (List.mem_of_getElem? (i := 7) rfl)⟩
theorem zF_X7_37 : zF RX7 37 7 10 0 := ⟨by decide, zCl_7, by decide, rfl, zwm_7 _ (List.mem_of_getElem? (i := 8) rfl)⟩
theorem zF_X7_40 : zF RX7 40 7 11 0 := ⟨by decide, zCl_7, by decide, rfl, zwm_7 _ (List.mem_of_getElem? (i := 9) rfl)⟩
theorem zF_X12_7 : zF RX12 7 12 0 0 := ⟨by decide, zCl_12, by decide, rfl, zwm_17 _ (List.mem_of_getElem? (i := 7) rfl)⟩
theorem zF_X12_160 : zF RX12 160 12 1 0 := ⟨by decide, zCl_12, by decide, rfl, zwm_17 _ (List.mem_of_getElem? (i := 8) rfl)⟩
theorem zF_X12_13 : zF RX12 13 12 2 2 := ⟨by decide, zCl_12, by decide, rfl, zwm_17 _ (List.mem_of_getElem? (i := 9) rfl)⟩
theorem zF_X12_17 : zF RX12 17 12 3 2 := ⟨by decide, zCl_12, by decide, rfl, zwm_17 _ (List.mem_of_getElem? (i := 10) rfl)⟩
theorem zF_X12_21 : zF RX12 21 12 4 2 := ⟨by decide, zCl_12, by decide, rfl, zwm_17 _ (List.mem_of_getElem? (i := 11) rfl)⟩
theorem zF_X12_24 : zF RX12 24 12 5 2 := ⟨by decide, zCl_12, by decide, rfl, zwm_17 _ (List.mem_of_getElem? (i := 12) rfl)⟩
theorem zF_X12_27 : zF RX12 27 12 6 2 := ⟨by decide, zCl_12, by decide, rfl, zwm_17 _ (List.mem_of_getElem? (i := 13) rfl)⟩
theorem zF_X12_30 : zF RX12 30 12 7 2 := ⟨by decide, zCl_12, by decide, rfl, zwm_17 _ (List.mem_of_getElem? (i := 14) rfl)⟩
theorem zF_X12_33 : zF RX12 33 12 8 2 := ⟨by decide, zCl_12, by decide, rfl, zwm_17 _ (List.mem_of_getElem? (i := 15) rfl)⟩
theorem zF_X12_36 : zF RX12 36 12 9 2 := ⟨by decide, zCl_12, by decide, rfl, zwm_17 _ (List.mem_of_getElem? (i := 16) rfl)⟩
theorem zF_X12_206 : zF RX12 206 12 10 0 := ⟨by decide, zCl_12, by decide, rfl, zwm_17 _ (List.mem_of_getElem? (i := 17) rfl)⟩
theorem zF_X12_218 : zF RX12 218 12 11 0 := ⟨by decide, zCl_12, by decide, rfl, zwm_17 _ (List.mem_of_getElem? (i := 18) rfl)⟩
theorem zF_X12_39 : zF RX12 39 12 12 2 := ⟨by decide, zCl_12, by decide, rfl, zwm_17 _ (List.mem_of_getElem? (i := 19) rfl)⟩
theorem zF_X12_42 : zF RX12 42 12 13 2 := ⟨by decide, zCl_12, by decide, rfl, zwm_17 _ (List.mem_of_getElem? (i := 20) rfl)⟩
theorem zF_X12_45 : zF RX12 45 12 14 2 := ⟨by decide, zCl_12, by decide, rfl, zwm_17 _ (List.mem_of_getElem? (i := 21) rfl)⟩
theorem zF_X12_48 : zF RX12 48 12 15 2 := ⟨by decide, zCl_12, by decide, rfl, zwm_17 _ (List.mem_of_getElem? (i := 22) rfl)⟩
theorem zF_X12_52 : zF RX12 52 12 16 2 := ⟨by decide, zCl_12, by decide, rfl, zwm_17 _ (List.mem_of_getElem? (i := 23) rfl)⟩
theorem zF_X12_55 : zF RX12 55 12 17 2 := ⟨by decide, zCl_12, by decide, rfl, zwm_17 _ (List.mem_of_getElem? (i := 24) rfl)⟩
theorem zF_X12_58 : zF RX12 58 12 18 2 := ⟨by decide, zCl_12, by decide, rfl, zwm_17 _ (List.mem_of_getElem? (i := 25) rfl)⟩
theorem zF_X12_61 : zF RX12 61 12 19 2 := ⟨by decide, zCl_12, by decide, rfl, zwm_17 _ (List.mem_of_getElem? (i := 26) rfl)⟩
theorem zF_X12_64 : zF RX12 64 12 20 2 := ⟨by decide, zCl_12, by decide, rfl, zwm_17 _ (List.mem_of_getElem? (i := 27) rfl)⟩
theorem zF_X12_67 : zF RX12 67 12 21 2 := ⟨by decide, zCl_12, by decide, rfl, zwm_17 _ (List.mem_of_getElem? (i := 28) rfl)⟩
theorem zF_X12_70 : zF RX12 70 12 22 2 := ⟨by decide, zCl_12, by decide, rfl, zwm_17 _ (List.mem_of_getElem? (i := 29) rfl)⟩
theorem zF_X12_74 : zF RX12 74 12 23 2 := ⟨by decide, zCl_12, by decide, rfl, zwm_17 _ (List.mem_of_getElem? (i := 30) rfl)⟩
theorem zF_X12_155 : zF RX12 155 12 24 0 := ⟨by decide, zCl_12, by decide, rfl, zwm_17 _ (List.mem_of_getElem? (i := 31) rfl)⟩
theorem zF_X12_77 : zF RX12 77 12 25 2 := ⟨by decide, zCl_12, by decide, rfl, zwm_17 _ (List.mem_of_getElem? (i := 32) rfl)⟩
theorem zF_X12_221 : zF RX12 221 12 26 0 := ⟨by decide, zCl_12, by decide, rfl, zwm_17 _ (List.mem_of_getElem? (i := 33) rfl)⟩
theorem zF_X12_80 : zF RX12 80 12 27 2 := ⟨by decide, zCl_12, by decide, rfl, zwm_17 _ (List.mem_of_getElem? (i := 34) rfl)⟩
theorem zF_X12_83 : zF RX12 83 12 28 2 := ⟨by decide, zCl_12, by decide, rfl, zwm_17 _ (List.mem_of_getElem? (i := 35) rfl)⟩
theorem zF_X12_86 : zF RX12 86 12 29 2 := ⟨by decide, zCl_12, by decide, rfl, zwm_17 _ (List.mem_of_getElem? (i := 36) rfl)⟩
/-- links of calls -/
def zLV (own : String) (i : Nat) (y : MethodName) : Prop := Cond.methodLink own i y ∈ zT ∧ Cond.instanceMethod y ∈ zT ∧ Cond.selects y.cls y y ∈ zT ∧ Cond.initialized y.cls ∈ zT
def zLS (own : String) (i : Nat) (y : MethodName) : Prop := Cond.methodLink own i y ∈ zT ∧ Cond.static y ∈ zT ∧ Cond.initialized y.cls ∈ zT
def zLI (own : String) (i : Nat) (y : MethodName) : Prop := Cond.methodLink own i y ∈ zT ∧ Cond.instanceMethod y ∈ zT ∧ Cond.initialized y.cls ∈ zT
def zCd (y : MethodName) (cc : ByteArray) (maxL : Nat) (ret : Option FieldType) (n : Nat) : Prop := Cond.code y cc maxL ret ∈ zT ∧ (y.cls ≠ "java/lang/invoke/MethodHandle" ∧ y.cls ≠ "java/lang/invoke/VarHandle") ∧ (parseMethodDescriptor y.desc).map (fun d => d.parameters.length) = some n ∧ plainFor y = true
theorem zini_L : Cond.initialized RL ∈ zT := zwm_0 _ (List.mem_of_getElem? (i := 31) rfl)
theorem zini_X11 : Cond.initialized RX11 ∈ zT := zwm_0 _ (List.mem_of_getElem? (i := 32) rfl)
theorem zini_X2 : Cond.initialized RX2 ∈ zT := zwm_0 _ (List.mem_of_getElem? (i := 33) rfl)
theorem zini_X10 : Cond.initialized RX10 ∈ zT := zwm_0 _ (List.mem_of_getElem? (i := 34) rfl)
theorem zini_X5 : Cond.initialized RX5 ∈ zT := zwm_0 _ (List.mem_of_getElem? (i := 35) rfl)
theorem zini_X0 : Cond.initialized RX0 ∈ zT := zwm_0 _ (List.mem_of_getElem? (i := 36) rfl)
theorem zini_X6 : Cond.initialized RX6 ∈ zT := zwm_0 _ (List.mem_of_getElem? (i := 37) rfl)
theorem zini_J9 : Cond.initialized RJ9 ∈ zT := zwm_0 _ (List.mem_of_getElem? (i := 38) rfl)
theorem zini_X4 : Cond.initialized RX4 ∈ zT := zwm_0 _ (List.mem_of_getElem? (i := 39) rfl)
theorem zini_X8 : Cond.initialized RX8 ∈ zT := zwm_1 _ (List.mem_of_getElem? (i := 0) rfl)
theorem zini_X3 : Cond.initialized RX3 ∈ zT := zwm_1 _ (List.mem_of_getElem? (i := 1) rfl)
theorem zini_X1 : Cond.initialized RX1 ∈ zT := zwm_1 _ (List.mem_of_getElem? (i := 2) rfl)
theorem zini_X9 : Cond.initialized RX9 ∈ zT := zwm_1 _ (List.mem_of_getElem? (i := 3) rfl)
theorem zini_X12 : Cond.initialized RX12 ∈ zT := zwm_1 _ (List.mem_of_getElem? (i := 4) rfl)
theorem zini_X7 : Cond.initialized RX7 ∈ zT := zwm_1 _ (List.mem_of_getElem? (i := 5) rfl)
theorem zinst_X0_init : Cond.instanceMethod yX0_init ∈ zT := zwm_2 _ (List.mem_of_getElem? (i := 39) rfl)
theorem zinst_X0_begin : Cond.instanceMethod yX0_begin ∈ zT := zwm_11 _ (List.mem_of_getElem? (i := 26) rfl)
theorem zsel_X0_begin : Cond.selects yX0_begin.cls yX0_begin yX0_begin ∈ zT := zwm_11 _ (List.mem_of_getElem? (i := 27) rfl)
theorem zinst_X0_move : Cond.instanceMethod yX0_move ∈ zT := zwm_11 _ (List.mem_of_getElem? (i := 30) rfl)
theorem zsel_X0_move : Cond.selects yX0_move.cls yX0_move yX0_move ∈ zT := zwm_11 _ (List.mem_of_getElem? (i := 31) rfl)
theorem zinst_X0_walk : Cond.instanceMethod yX0_walk ∈ zT := zwm_11 _ (List.mem_of_getElem? (i := 22) rfl)
theorem zsel_X0_walk : Cond.selects yX0_walk.cls yX0_walk yX0_walk ∈ zT := zwm_11 _ (List.mem_of_getElem? (i := 23) rfl)
theorem zinst_X0_truth : Cond.instanceMethod yX0_truth ∈ zT := zwm_12 _ (List.mem_of_getElem? (i := 5) rfl)
theorem zsel_X0_truth : Cond.selects yX0_truth.cls yX0_truth yX0_truth ∈ zT := zwm_12 _ (List.mem_of_getElem? (i := 6) rfl)
theorem zinst_X0_multiplyOut : Cond.instanceMethod yX0_multiplyOut ∈ zT := zwm_12 _ (List.mem_of_getElem? (i := 9) rfl)
theorem zsel_X0_multiplyOut : Cond.selects yX0_multiplyOut.cls yX0_multiplyOut yX0_multiplyOut ∈ zT := zwm_0 _ (List.mem_of_getElem? (i := 4) rfl)
theorem zstat_X0_firstThree : Cond.static yX0_firstThree ∈ zT := zwm_12 _ (List.mem_of_getElem? (i := 13) rfl)
theorem zinst_X1_init : Cond.instanceMethod yX1_init ∈ zT := zwm_5 _ (List.mem_of_getElem? (i := 20) rfl)
theorem zstat_X1_isLaw : Cond.static yX1_isLaw ∈ zT := zwm_15 _ (List.mem_of_getElem? (i := 4) rfl)
theorem zstat_X1_numberOf : Cond.static yX1_numberOf ∈ zT := zwm_15 _ (List.mem_of_getElem? (i := 13) rfl)
theorem zstat_X1_inOrder : Cond.static yX1_inOrder ∈ zT := zwm_15 _ (List.mem_of_getElem? (i := 10) rfl)
theorem zstat_X1_placeOf : Cond.static yX1_placeOf ∈ zT := zwm_15 _ (List.mem_of_getElem? (i := 7) rfl)
theorem zinst_X1_doublesOf : Cond.instanceMethod yX1_doublesOf ∈ zT := zwm_15 _ (List.mem_of_getElem? (i := 22) rfl)
theorem zsel_X1_doublesOf : Cond.selects yX1_doublesOf.cls yX1_doublesOf yX1_doublesOf ∈ zT := zwm_15 _ (List.mem_of_getElem? (i := 23) rfl)
theorem zinst_X1_doublesFrom : Cond.instanceMethod yX1_doublesFrom ∈ zT := zwm_15 _ (List.mem_of_getElem? (i := 27) rfl)
theorem zsel_X1_doublesFrom : Cond.selects yX1_doublesFrom.cls yX1_doublesFrom yX1_doublesFrom ∈ zT := zwm_0 _ (List.mem_of_getElem? (i := 12) rfl)
theorem zinst_X2_init : Cond.instanceMethod yX2_init ∈ zT := zwm_1 _ (List.mem_of_getElem? (i := 17) rfl)
theorem zinst_X2_addGrowth : Cond.instanceMethod yX2_addGrowth ∈ zT := zwm_1 _ (List.mem_of_getElem? (i := 33) rfl)
theorem zsel_X2_addGrowth : Cond.selects yX2_addGrowth.cls yX2_addGrowth yX2_addGrowth ∈ zT := zwm_0 _ (List.mem_of_getElem? (i := 0) rfl)
theorem zinst_X2_putLog : Cond.instanceMethod yX2_putLog ∈ zT := zwm_8 _ (List.mem_of_getElem? (i := 3) rfl)
theorem zsel_X2_putLog : Cond.selects yX2_putLog.cls yX2_putLog yX2_putLog ∈ zT := zwm_0 _ (List.mem_of_getElem? (i := 2) rfl)
theorem zinst_X2_placeOf : Cond.instanceMethod yX2_placeOf ∈ zT := zwm_7 _ (List.mem_of_getElem? (i := 39) rfl)
theorem zsel_X2_placeOf : Cond.selects yX2_placeOf.cls yX2_placeOf yX2_placeOf ∈ zT := zwm_8 _ (List.mem_of_getElem? (i := 0) rfl)
theorem zinst_X3_init : Cond.instanceMethod yX3_init ∈ zT := zwm_5 _ (List.mem_of_getElem? (i := 9) rfl)
theorem zinst_X3_find : Cond.instanceMethod yX3_find ∈ zT := zwm_14 _ (List.mem_of_getElem? (i := 28) rfl)
theorem zsel_X3_find : Cond.selects yX3_find.cls yX3_find yX3_find ∈ zT := zwm_14 _ (List.mem_of_getElem? (i := 29) rfl)
theorem zstat_X3_alike : Cond.static yX3_alike ∈ zT := zwm_14 _ (List.mem_of_getElem? (i := 33) rfl)
theorem zinst_X3_weigh : Cond.instanceMethod yX3_weigh ∈ zT := zwm_14 _ (List.mem_of_getElem? (i := 36) rfl)
theorem zsel_X3_weigh : Cond.selects yX3_weigh.cls yX3_weigh yX3_weigh ∈ zT := zwm_0 _ (List.mem_of_getElem? (i := 11) rfl)
theorem zinst_X4_init : Cond.instanceMethod yX4_init ∈ zT := zwm_3 _ (List.mem_of_getElem? (i := 39) rfl)
theorem zinst_X4_sumUp : Cond.instanceMethod yX4_sumUp ∈ zT := zwm_12 _ (List.mem_of_getElem? (i := 22) rfl)
theorem zsel_X4_sumUp : Cond.selects yX4_sumUp.cls yX4_sumUp yX4_sumUp ∈ zT := zwm_12 _ (List.mem_of_getElem? (i := 23) rfl)
theorem zinst_X4_take : Cond.instanceMethod yX4_take ∈ zT := zwm_12 _ (List.mem_of_getElem? (i := 26) rfl)
theorem zsel_X4_take : Cond.selects yX4_take.cls yX4_take yX4_take ∈ zT := zwm_0 _ (List.mem_of_getElem? (i := 5) rfl)
theorem zinst_X5_init : Cond.instanceMethod yX5_init ∈ zT := zwm_2 _ (List.mem_of_getElem? (i := 26) rfl)
theorem zinst_X5_cutFor : Cond.instanceMethod yX5_cutFor ∈ zT := zwm_11 _ (List.mem_of_getElem? (i := 17) rfl)
theorem zsel_X5_cutFor : Cond.selects yX5_cutFor.cls yX5_cutFor yX5_cutFor ∈ zT := zwm_11 _ (List.mem_of_getElem? (i := 18) rfl)
theorem zinst_X5_placeOf : Cond.instanceMethod yX5_placeOf ∈ zT := zwm_11 _ (List.mem_of_getElem? (i := 34) rfl)
theorem zsel_X5_placeOf : Cond.selects yX5_placeOf.cls yX5_placeOf yX5_placeOf ∈ zT := zwm_11 _ (List.mem_of_getElem? (i := 35) rfl)
theorem zinst_X5_firstFrom : Cond.instanceMethod yX5_firstFrom ∈ zT := zwm_12 _ (List.mem_of_getElem? (i := 2) rfl)
theorem zsel_X5_firstFrom : Cond.selects yX5_firstFrom.cls yX5_firstFrom yX5_firstFrom ∈ zT := zwm_0 _ (List.mem_of_getElem? (i := 3) rfl)
theorem zinst_X5_readingOf : Cond.instanceMethod yX5_readingOf ∈ zT := zwm_11 _ (List.mem_of_getElem? (i := 38) rfl)
theorem zsel_X5_readingOf : Cond.selects yX5_readingOf.cls yX5_readingOf yX5_readingOf ∈ zT := zwm_11 _ (List.mem_of_getElem? (i := 39) rfl)
theorem zinst_X6_init : Cond.instanceMethod yX6_init ∈ zT := zwm_3 _ (List.mem_of_getElem? (i := 5) rfl)
theorem zinst_X6_isFull : Cond.instanceMethod yX6_isFull ∈ zT := zwm_8 _ (List.mem_of_getElem? (i := 34) rfl)
theorem zsel_X6_isFull : Cond.selects yX6_isFull.cls yX6_isFull yX6_isFull ∈ zT := zwm_8 _ (List.mem_of_getElem? (i := 35) rfl)
theorem zinst_X6_append : Cond.instanceMethod yX6_append ∈ zT := zwm_8 _ (List.mem_of_getElem? (i := 38) rfl)
theorem zsel_X6_append : Cond.selects yX6_append.cls yX6_append yX6_append ∈ zT := zwm_8 _ (List.mem_of_getElem? (i := 39) rfl)
theorem zinst_X6_empty : Cond.instanceMethod yX6_empty ∈ zT := zwm_11 _ (List.mem_of_getElem? (i := 9) rfl)
theorem zsel_X6_empty : Cond.selects yX6_empty.cls yX6_empty yX6_empty ∈ zT := zwm_11 _ (List.mem_of_getElem? (i := 10) rfl)
theorem zinst_X6_last : Cond.instanceMethod yX6_last ∈ zT := zwm_14 _ (List.mem_of_getElem? (i := 8) rfl)
theorem zsel_X6_last : Cond.selects yX6_last.cls yX6_last yX6_last ∈ zT := zwm_14 _ (List.mem_of_getElem? (i := 9) rfl)
theorem zinst_X6_digestOnto : Cond.instanceMethod yX6_digestOnto ∈ zT := zwm_16 _ (List.mem_of_getElem? (i := 10) rfl)
theorem zsel_X6_digestOnto : Cond.selects yX6_digestOnto.cls yX6_digestOnto yX6_digestOnto ∈ zT := zwm_16 _ (List.mem_of_getElem? (i := 11) rfl)
theorem zinst_X7_init : Cond.instanceMethod yX7_init ∈ zT := zwm_6 _ (List.mem_of_getElem? (i := 29) rfl)
theorem zinst_X7_placeOf : Cond.instanceMethod yX7_placeOf ∈ zT := zwm_7 _ (List.mem_of_getElem? (i := 35) rfl)
theorem zsel_X7_placeOf : Cond.selects yX7_placeOf.cls yX7_placeOf yX7_placeOf ∈ zT := zwm_7 _ (List.mem_of_getElem? (i := 36) rfl)
theorem zinst_X7_lastTo : Cond.instanceMethod yX7_lastTo ∈ zT := zwm_8 _ (List.mem_of_getElem? (i := 22) rfl)
theorem zsel_X7_lastTo : Cond.selects yX7_lastTo.cls yX7_lastTo yX7_lastTo ∈ zT := zwm_8 _ (List.mem_of_getElem? (i := 23) rfl)
theorem zinst_X7_hasRoomFor : Cond.instanceMethod yX7_hasRoomFor ∈ zT := zwm_8 _ (List.mem_of_getElem? (i := 26) rfl)
theorem zsel_X7_hasRoomFor : Cond.selects yX7_hasRoomFor.cls yX7_hasRoomFor yX7_hasRoomFor ∈ zT := zwm_8 _ (List.mem_of_getElem? (i := 27) rfl)
theorem zinst_X7_addSpan : Cond.instanceMethod yX7_addSpan ∈ zT := zwm_8 _ (List.mem_of_getElem? (i := 30) rfl)
theorem zsel_X7_addSpan : Cond.selects yX7_addSpan.cls yX7_addSpan yX7_addSpan ∈ zT := zwm_8 _ (List.mem_of_getElem? (i := 31) rfl)
theorem zinst_X7_numberAt : Cond.instanceMethod yX7_numberAt ∈ zT := zwm_9 _ (List.mem_of_getElem? (i := 7) rfl)
theorem zsel_X7_numberAt : Cond.selects yX7_numberAt.cls yX7_numberAt yX7_numberAt ∈ zT := zwm_9 _ (List.mem_of_getElem? (i := 8) rfl)
theorem zinst_X7_placeMarks : Cond.instanceMethod yX7_placeMarks ∈ zT := zwm_9 _ (List.mem_of_getElem? (i := 19) rfl)
theorem zsel_X7_placeMarks : Cond.selects yX7_placeMarks.cls yX7_placeMarks yX7_placeMarks ∈ zT := zwm_9 _ (List.mem_of_getElem? (i := 20) rfl)
theorem zinst_X7_gapBehind : Cond.instanceMethod yX7_gapBehind ∈ zT := zwm_9 _ (List.mem_of_getElem? (i := 28) rfl)
theorem zsel_X7_gapBehind : Cond.selects yX7_gapBehind.cls yX7_gapBehind yX7_gapBehind ∈ zT := zwm_9 _ (List.mem_of_getElem? (i := 29) rfl)
theorem zinst_X7_firstOfClosest : Cond.instanceMethod yX7_firstOfClosest ∈ zT := zwm_9 _ (List.mem_of_getElem? (i := 24) rfl)
theorem zsel_X7_firstOfClosest : Cond.selects yX7_firstOfClosest.cls yX7_firstOfClosest yX7_firstOfClosest ∈ zT := zwm_9 _ (List.mem_of_getElem? (i := 25) rfl)
theorem zinst_X7_nearestTo : Cond.instanceMethod yX7_nearestTo ∈ zT := zwm_10 _ (List.mem_of_getElem? (i := 19) rfl)
theorem zsel_X7_nearestTo : Cond.selects yX7_nearestTo.cls yX7_nearestTo yX7_nearestTo ∈ zT := zwm_10 _ (List.mem_of_getElem? (i := 20) rfl)
theorem zinst_X7_readBetween : Cond.instanceMethod yX7_readBetween ∈ zT := zwm_10 _ (List.mem_of_getElem? (i := 28) rfl)
theorem zsel_X7_readBetween : Cond.selects yX7_readBetween.cls yX7_readBetween yX7_readBetween ∈ zT := zwm_10 _ (List.mem_of_getElem? (i := 29) rfl)
theorem zinst_X7_digestOnto : Cond.instanceMethod yX7_digestOnto ∈ zT := zwm_16 _ (List.mem_of_getElem? (i := 4) rfl)
theorem zsel_X7_digestOnto : Cond.selects yX7_digestOnto.cls yX7_digestOnto yX7_digestOnto ∈ zT := zwm_16 _ (List.mem_of_getElem? (i := 5) rfl)
theorem zinst_X8_init : Cond.instanceMethod yX8_init ∈ zT := zwm_4 _ (List.mem_of_getElem? (i := 33) rfl)
theorem zinst_X8_forgetParts : Cond.instanceMethod yX8_forgetParts ∈ zT := zwm_13 _ (List.mem_of_getElem? (i := 4) rfl)
theorem zsel_X8_forgetParts : Cond.selects yX8_forgetParts.cls yX8_forgetParts yX8_forgetParts ∈ zT := zwm_13 _ (List.mem_of_getElem? (i := 5) rfl)
theorem zinst_X8_allow : Cond.instanceMethod yX8_allow ∈ zT := zwm_13 _ (List.mem_of_getElem? (i := 8) rfl)
theorem zsel_X8_allow : Cond.selects yX8_allow.cls yX8_allow yX8_allow ∈ zT := zwm_13 _ (List.mem_of_getElem? (i := 9) rfl)
theorem zinst_X8_aimAt : Cond.instanceMethod yX8_aimAt ∈ zT := zwm_13 _ (List.mem_of_getElem? (i := 12) rfl)
theorem zsel_X8_aimAt : Cond.selects yX8_aimAt.cls yX8_aimAt yX8_aimAt ∈ zT := zwm_13 _ (List.mem_of_getElem? (i := 13) rfl)
theorem zinst_X8_measure : Cond.instanceMethod yX8_measure ∈ zT := zwm_13 _ (List.mem_of_getElem? (i := 16) rfl)
theorem zsel_X8_measure : Cond.selects yX8_measure.cls yX8_measure yX8_measure ∈ zT := zwm_0 _ (List.mem_of_getElem? (i := 7) rfl)
theorem zinst_X8_reachBack : Cond.instanceMethod yX8_reachBack ∈ zT := zwm_13 _ (List.mem_of_getElem? (i := 19) rfl)
theorem zsel_X8_reachBack : Cond.selects yX8_reachBack.cls yX8_reachBack yX8_reachBack ∈ zT := zwm_0 _ (List.mem_of_getElem? (i := 8) rfl)
theorem zinst_X8_fewestToGoal : Cond.instanceMethod yX8_fewestToGoal ∈ zT := zwm_13 _ (List.mem_of_getElem? (i := 22) rfl)
theorem zsel_X8_fewestToGoal : Cond.selects yX8_fewestToGoal.cls yX8_fewestToGoal yX8_fewestToGoal ∈ zT := zwm_13 _ (List.mem_of_getElem? (i := 23) rfl)
theorem zinst_X8_codeAt : Cond.instanceMethod yX8_codeAt ∈ zT := zwm_13 _ (List.mem_of_getElem? (i := 30) rfl)
theorem zsel_X8_codeAt : Cond.selects yX8_codeAt.cls yX8_codeAt yX8_codeAt ∈ zT := zwm_13 _ (List.mem_of_getElem? (i := 31) rfl)
theorem zinst_X8_makeFirst : Cond.instanceMethod yX8_makeFirst ∈ zT := zwm_13 _ (List.mem_of_getElem? (i := 35) rfl)
theorem zsel_X8_makeFirst : Cond.selects yX8_makeFirst.cls yX8_makeFirst yX8_makeFirst ∈ zT := zwm_0 _ (List.mem_of_getElem? (i := 9) rfl)
theorem zinst_X8_isNearer : Cond.instanceMethod yX8_isNearer ∈ zT := zwm_13 _ (List.mem_of_getElem? (i := 38) rfl)
theorem zsel_X8_isNearer : Cond.selects yX8_isNearer.cls yX8_isNearer yX8_isNearer ∈ zT := zwm_0 _ (List.mem_of_getElem? (i := 10) rfl)
theorem zinst_X9_init : Cond.instanceMethod yX9_init ∈ zT := zwm_5 _ (List.mem_of_getElem? (i := 26) rfl)
theorem zinst_X9_choose : Cond.instanceMethod yX9_choose ∈ zT := zwm_14 _ (List.mem_of_getElem? (i := 20) rfl)
theorem zsel_X9_choose : Cond.selects yX9_choose.cls yX9_choose yX9_choose ∈ zT := zwm_14 _ (List.mem_of_getElem? (i := 21) rfl)
theorem zinst_X10_init : Cond.instanceMethod yX10_init ∈ zT := zwm_1 _ (List.mem_of_getElem? (i := 22) rfl)
theorem zinst_X10_put : Cond.instanceMethod yX10_put ∈ zT := zwm_1 _ (List.mem_of_getElem? (i := 38) rfl)
theorem zsel_X10_put : Cond.selects yX10_put.cls yX10_put yX10_put ∈ zT := zwm_1 _ (List.mem_of_getElem? (i := 39) rfl)
theorem zinst_X10_addPart : Cond.instanceMethod yX10_addPart ∈ zT := zwm_2 _ (List.mem_of_getElem? (i := 11) rfl)
theorem zsel_X10_addPart : Cond.selects yX10_addPart.cls yX10_addPart yX10_addPart ∈ zT := zwm_2 _ (List.mem_of_getElem? (i := 12) rfl)
theorem zinst_X10_subtract : Cond.instanceMethod yX10_subtract ∈ zT := zwm_8 _ (List.mem_of_getElem? (i := 6) rfl)
theorem zsel_X10_subtract : Cond.selects yX10_subtract.cls yX10_subtract yX10_subtract ∈ zT := zwm_8 _ (List.mem_of_getElem? (i := 7) rfl)
theorem zinst_X10_shrink : Cond.instanceMethod yX10_shrink ∈ zT := zwm_2 _ (List.mem_of_getElem? (i := 2) rfl)
theorem zsel_X10_shrink : Cond.selects yX10_shrink.cls yX10_shrink yX10_shrink ∈ zT := zwm_2 _ (List.mem_of_getElem? (i := 3) rfl)
theorem zinst_X10_isZero : Cond.instanceMethod yX10_isZero ∈ zT := zwm_2 _ (List.mem_of_getElem? (i := 7) rfl)
theorem zsel_X10_isZero : Cond.selects yX10_isZero.cls yX10_isZero yX10_isZero ∈ zT := zwm_2 _ (List.mem_of_getElem? (i := 8) rfl)
theorem zinst_X10_floorTimes : Cond.instanceMethod yX10_floorTimes ∈ zT := zwm_8 _ (List.mem_of_getElem? (i := 10) rfl)
theorem zsel_X10_floorTimes : Cond.selects yX10_floorTimes.cls yX10_floorTimes yX10_floorTimes ∈ zT := zwm_8 _ (List.mem_of_getElem? (i := 11) rfl)
theorem zinst_X11_init : Cond.instanceMethod yX11_init ∈ zT := zwm_1 _ (List.mem_of_getElem? (i := 9) rfl)
theorem zinst_X11_rule : Cond.instanceMethod yX11_rule ∈ zT := zwm_6 _ (List.mem_of_getElem? (i := 19) rfl)
theorem zsel_X11_rule : Cond.selects yX11_rule.cls yX11_rule yX11_rule ∈ zT := zwm_6 _ (List.mem_of_getElem? (i := 20) rfl)
theorem zinst_X11_scale : Cond.instanceMethod yX11_scale ∈ zT := zwm_6 _ (List.mem_of_getElem? (i := 24) rfl)
theorem zsel_X11_scale : Cond.selects yX11_scale.cls yX11_scale yX11_scale ∈ zT := zwm_6 _ (List.mem_of_getElem? (i := 25) rfl)
theorem zinst_X11_place : Cond.instanceMethod yX11_place ∈ zT := zwm_7 _ (List.mem_of_getElem? (i := 23) rfl)
theorem zsel_X11_place : Cond.selects yX11_place.cls yX11_place yX11_place ∈ zT := zwm_7 _ (List.mem_of_getElem? (i := 24) rfl)
theorem zinst_X11_span : Cond.instanceMethod yX11_span ∈ zT := zwm_8 _ (List.mem_of_getElem? (i := 18) rfl)
theorem zsel_X11_span : Cond.selects yX11_span.cls yX11_span yX11_span ∈ zT := zwm_8 _ (List.mem_of_getElem? (i := 19) rfl)
theorem zinst_X11_mark : Cond.instanceMethod yX11_mark ∈ zT := zwm_9 _ (List.mem_of_getElem? (i := 3) rfl)
theorem zsel_X11_mark : Cond.selects yX11_mark.cls yX11_mark yX11_mark ∈ zT := zwm_9 _ (List.mem_of_getElem? (i := 4) rfl)
theorem zinst_X11_marks : Cond.instanceMethod yX11_marks ∈ zT := zwm_9 _ (List.mem_of_getElem? (i := 11) rfl)
theorem zsel_X11_marks : Cond.selects yX11_marks.cls yX11_marks yX11_marks ∈ zT := zwm_9 _ (List.mem_of_getElem? (i := 12) rfl)
theorem zinst_X11_closest : Cond.instanceMethod yX11_closest ∈ zT := zwm_9 _ (List.mem_of_getElem? (i := 15) rfl)
theorem zsel_X11_closest : Cond.selects yX11_closest.cls yX11_closest yX11_closest ∈ zT := zwm_9 _ (List.mem_of_getElem? (i := 16) rfl)
theorem zinst_X11_off : Cond.instanceMethod yX11_off ∈ zT := zwm_9 _ (List.mem_of_getElem? (i := 36) rfl)
theorem zsel_X11_off : Cond.selects yX11_off.cls yX11_off yX11_off ∈ zT := zwm_9 _ (List.mem_of_getElem? (i := 37) rfl)
theorem zinst_X11_set : Cond.instanceMethod yX11_set ∈ zT := zwm_10 _ (List.mem_of_getElem? (i := 2) rfl)
theorem zsel_X11_set : Cond.selects yX11_set.cls yX11_set yX11_set ∈ zT := zwm_10 _ (List.mem_of_getElem? (i := 3) rfl)
theorem zinst_X11_against : Cond.instanceMethod yX11_against ∈ zT := zwm_10 _ (List.mem_of_getElem? (i := 6) rfl)
theorem zsel_X11_against : Cond.selects yX11_against.cls yX11_against yX11_against ∈ zT := zwm_10 _ (List.mem_of_getElem? (i := 7) rfl)
theorem zinst_X11_nearest : Cond.instanceMethod yX11_nearest ∈ zT := zwm_10 _ (List.mem_of_getElem? (i := 10) rfl)
theorem zsel_X11_nearest : Cond.selects yX11_nearest.cls yX11_nearest yX11_nearest ∈ zT := zwm_10 _ (List.mem_of_getElem? (i := 11) rfl)
theorem zinst_X11_between : Cond.instanceMethod yX11_between ∈ zT := zwm_10 _ (List.mem_of_getElem? (i := 24) rfl)
theorem zsel_X11_between : Cond.selects yX11_between.cls yX11_between yX11_between ∈ zT := zwm_10 _ (List.mem_of_getElem? (i := 25) rfl)
theorem zinst_X11_factor : Cond.instanceMethod yX11_factor ∈ zT := zwm_10 _ (List.mem_of_getElem? (i := 36) rfl)
theorem zsel_X11_factor : Cond.selects yX11_factor.cls yX11_factor yX11_factor ∈ zT := zwm_10 _ (List.mem_of_getElem? (i := 37) rfl)
theorem zinst_X11_clear : Cond.instanceMethod yX11_clear ∈ zT := zwm_11 _ (List.mem_of_getElem? (i := 5) rfl)
theorem zsel_X11_clear : Cond.selects yX11_clear.cls yX11_clear yX11_clear ∈ zT := zwm_11 _ (List.mem_of_getElem? (i := 6) rfl)
theorem zinst_X11_chain : Cond.instanceMethod yX11_chain ∈ zT := zwm_11 _ (List.mem_of_getElem? (i := 13) rfl)
theorem zsel_X11_chain : Cond.selects yX11_chain.cls yX11_chain yX11_chain ∈ zT := zwm_11 _ (List.mem_of_getElem? (i := 14) rfl)
theorem zinst_X11_pairs : Cond.instanceMethod yX11_pairs ∈ zT := zwm_12 _ (List.mem_of_getElem? (i := 18) rfl)
theorem zsel_X11_pairs : Cond.selects yX11_pairs.cls yX11_pairs yX11_pairs ∈ zT := zwm_12 _ (List.mem_of_getElem? (i := 19) rfl)
theorem zinst_X11_fewest : Cond.instanceMethod yX11_fewest ∈ zT := zwm_12 _ (List.mem_of_getElem? (i := 34) rfl)
theorem zsel_X11_fewest : Cond.selects yX11_fewest.cls yX11_fewest yX11_fewest ∈ zT := zwm_12 _ (List.mem_of_getElem? (i := 35) rfl)
theorem zinst_X11_setting : Cond.instanceMethod yX11_setting ∈ zT := zwm_13 _ (List.mem_of_getElem? (i := 26) rfl)
theorem zsel_X11_setting : Cond.selects yX11_setting.cls yX11_setting yX11_setting ∈ zT := zwm_13 _ (List.mem_of_getElem? (i := 27) rfl)
theorem zinst_X11_cut : Cond.instanceMethod yX11_cut ∈ zT := zwm_14 _ (List.mem_of_getElem? (i := 1) rfl)
theorem zsel_X11_cut : Cond.selects yX11_cut.cls yX11_cut yX11_cut ∈ zT := zwm_14 _ (List.mem_of_getElem? (i := 2) rfl)
theorem zinst_X11_wipe : Cond.instanceMethod yX11_wipe ∈ zT := zwm_14 _ (List.mem_of_getElem? (i := 12) rfl)
theorem zsel_X11_wipe : Cond.selects yX11_wipe.cls yX11_wipe yX11_wipe ∈ zT := zwm_14 _ (List.mem_of_getElem? (i := 13) rfl)
theorem zinst_X11_chosen : Cond.instanceMethod yX11_chosen ∈ zT := zwm_14 _ (List.mem_of_getElem? (i := 16) rfl)
theorem zsel_X11_chosen : Cond.selects yX11_chosen.cls yX11_chosen yX11_chosen ∈ zT := zwm_14 _ (List.mem_of_getElem? (i := 17) rfl)
theorem zinst_X11_match : Cond.instanceMethod yX11_match ∈ zT := zwm_14 _ (List.mem_of_getElem? (i := 24) rfl)
theorem zsel_X11_match : Cond.selects yX11_match.cls yX11_match yX11_match ∈ zT := zwm_14 _ (List.mem_of_getElem? (i := 25) rfl)
theorem zinst_X11_law : Cond.instanceMethod yX11_law ∈ zT := zwm_15 _ (List.mem_of_getElem? (i := 0) rfl)
theorem zsel_X11_law : Cond.selects yX11_law.cls yX11_law yX11_law ∈ zT := zwm_15 _ (List.mem_of_getElem? (i := 1) rfl)
theorem zinst_X11_doubled : Cond.instanceMethod yX11_doubled ∈ zT := zwm_15 _ (List.mem_of_getElem? (i := 18) rfl)
theorem zsel_X11_doubled : Cond.selects yX11_doubled.cls yX11_doubled yX11_doubled ∈ zT := zwm_15 _ (List.mem_of_getElem? (i := 19) rfl)
theorem zinst_X11_count : Cond.instanceMethod yX11_count ∈ zT := zwm_15 _ (List.mem_of_getElem? (i := 30) rfl)
theorem zsel_X11_count : Cond.selects yX11_count.cls yX11_count yX11_count ∈ zT := zwm_15 _ (List.mem_of_getElem? (i := 31) rfl)
theorem zinst_X11_digest : Cond.instanceMethod yX11_digest ∈ zT := zwm_15 _ (List.mem_of_getElem? (i := 37) rfl)
theorem zsel_X11_digest : Cond.selects yX11_digest.cls yX11_digest yX11_digest ∈ zT := zwm_15 _ (List.mem_of_getElem? (i := 38) rfl)
theorem zinst_X11_scaleAt : Cond.instanceMethod yX11_scaleAt ∈ zT := zwm_7 _ (List.mem_of_getElem? (i := 27) rfl)
theorem zsel_X11_scaleAt : Cond.selects yX11_scaleAt.cls yX11_scaleAt yX11_scaleAt ∈ zT := zwm_0 _ (List.mem_of_getElem? (i := 1) rfl)
theorem zstat_X11_isNumber : Cond.static yX11_isNumber ∈ zT := zwm_7 _ (List.mem_of_getElem? (i := 30) rfl)
theorem zstat_X11_isFactor : Cond.static yX11_isFactor ∈ zT := zwm_11 _ (List.mem_of_getElem? (i := 0) rfl)
theorem zstat_X11_isAskedPlace : Cond.static yX11_isAskedPlace ∈ zT := zwm_10 _ (List.mem_of_getElem? (i := 14) rfl)
theorem zstat_X11_isPower : Cond.static yX11_isPower ∈ zT := zwm_12 _ (List.mem_of_getElem? (i := 38) rfl)
theorem zstat_X11_isStrip : Cond.static yX11_isStrip ∈ zT := zwm_14 _ (List.mem_of_getElem? (i := 5) rfl)
theorem zinst_X11_scalesOnSlide : Cond.instanceMethod yX11_scalesOnSlide ∈ zT := zwm_15 _ (List.mem_of_getElem? (i := 34) rfl)
theorem zsel_X11_scalesOnSlide : Cond.selects yX11_scalesOnSlide.cls yX11_scalesOnSlide yX11_scalesOnSlide ∈ zT := zwm_0 _ (List.mem_of_getElem? (i := 13) rfl)
theorem zinst_X11_aimSettings : Cond.instanceMethod yX11_aimSettings ∈ zT := zwm_13 _ (List.mem_of_getElem? (i := 1) rfl)
theorem zsel_X11_aimSettings : Cond.selects yX11_aimSettings.cls yX11_aimSettings yX11_aimSettings ∈ zT := zwm_0 _ (List.mem_of_getElem? (i := 6) rfl)
theorem zinst_X12_init : Cond.instanceMethod yX12_init ∈ zT := zwm_16 _ (List.mem_of_getElem? (i := 17) rfl)
theorem zstat_X12_in : Cond.static yX12_in ∈ zT := zwm_18 _ (List.mem_of_getElem? (i := 34) rfl)
theorem zstat_X12_sets : Cond.static yX12_sets ∈ zT := zwm_16 _ (List.mem_of_getElem? (i := 26) rfl)
theorem zstat_X12_copies : Cond.static yX12_copies ∈ zT := zwm_16 _ (List.mem_of_getElem? (i := 36) rfl)
theorem zstat_X12_adds : Cond.static yX12_adds ∈ zT := zwm_16 _ (List.mem_of_getElem? (i := 39) rfl)
theorem zstat_X12_takes : Cond.static yX12_takes ∈ zT := zwm_19 _ (List.mem_of_getElem? (i := 34) rfl)
theorem zstat_X12_times : Cond.static yX12_times ∈ zT := zwm_17 _ (List.mem_of_getElem? (i := 2) rfl)
theorem zstat_X12_divides : Cond.static yX12_divides ∈ zT := zwm_16 _ (List.mem_of_getElem? (i := 29) rfl)
theorem zstat_X12_isNought : Cond.static yX12_isNought ∈ zT := zwm_16 _ (List.mem_of_getElem? (i := 33) rfl)
theorem zstat_X12_isLess : Cond.static yX12_isLess ∈ zT := zwm_19 _ (List.mem_of_getElem? (i := 37) rfl)
theorem zinst_X12_natural : Cond.instanceMethod yX12_natural ∈ zT := zwm_16 _ (List.mem_of_getElem? (i := 23) rfl)
theorem zsel_X12_natural : Cond.selects yX12_natural.cls yX12_natural yX12_natural ∈ zT := zwm_0 _ (List.mem_of_getElem? (i := 14) rfl)
theorem zinst_X12_logOf : Cond.instanceMethod yX12_logOf ∈ zT := zwm_19 _ (List.mem_of_getElem? (i := 29) rfl)
theorem zsel_X12_logOf : Cond.selects yX12_logOf.cls yX12_logOf yX12_logOf ∈ zT := zwm_0 _ (List.mem_of_getElem? (i := 18) rfl)
theorem zstat_X12_down : Cond.static yX12_down ∈ zT := zwm_19 _ (List.mem_of_getElem? (i := 26) rfl)
theorem zstat_X12_tens : Cond.static yX12_tens ∈ zT := zwm_19 _ (List.mem_of_getElem? (i := 23) rfl)
theorem zinst_X12_nearestOf : Cond.instanceMethod yX12_nearestOf ∈ zT := zwm_19 _ (List.mem_of_getElem? (i := 20) rfl)
theorem zsel_X12_nearestOf : Cond.selects yX12_nearestOf.cls yX12_nearestOf yX12_nearestOf ∈ zT := zwm_0 _ (List.mem_of_getElem? (i := 17) rfl)
theorem zinst_X12_plain : Cond.instanceMethod yX12_plain ∈ zT := zwm_21 _ (List.mem_of_getElem? (i := 33) rfl)
theorem zsel_X12_plain : Cond.selects yX12_plain.cls yX12_plain yX12_plain ∈ zT := zwm_0 _ (List.mem_of_getElem? (i := 23) rfl)
theorem zinst_X12_placeOf : Cond.instanceMethod yX12_placeOf ∈ zT := zwm_19 _ (List.mem_of_getElem? (i := 15) rfl)
theorem zsel_X12_placeOf : Cond.selects yX12_placeOf.cls yX12_placeOf yX12_placeOf ∈ zT := zwm_0 _ (List.mem_of_getElem? (i := 16) rfl)
theorem zinst_X12_isScale : Cond.instanceMethod yX12_isScale ∈ zT := zwm_19 _ (List.mem_of_getElem? (i := 8) rfl)
theorem zsel_X12_isScale : Cond.selects yX12_isScale.cls yX12_isScale yX12_isScale ∈ zT := zwm_0 _ (List.mem_of_getElem? (i := 15) rfl)
theorem zstat_X12_isNumber : Cond.static yX12_isNumber ∈ zT := zwm_19 _ (List.mem_of_getElem? (i := 11) rfl)
theorem zinst_X12_rule : Cond.instanceMethod yX12_rule ∈ zT := zwm_18 _ (List.mem_of_getElem? (i := 28) rfl)
theorem zsel_X12_rule : Cond.selects yX12_rule.cls yX12_rule yX12_rule ∈ zT := zwm_18 _ (List.mem_of_getElem? (i := 29) rfl)
theorem zinst_X12_scale : Cond.instanceMethod yX12_scale ∈ zT := zwm_18 _ (List.mem_of_getElem? (i := 37) rfl)
theorem zsel_X12_scale : Cond.selects yX12_scale.cls yX12_scale yX12_scale ∈ zT := zwm_18 _ (List.mem_of_getElem? (i := 38) rfl)
theorem zinst_X12_place : Cond.instanceMethod yX12_place ∈ zT := zwm_19 _ (List.mem_of_getElem? (i := 4) rfl)
theorem zsel_X12_place : Cond.selects yX12_place.cls yX12_place yX12_place ∈ zT := zwm_19 _ (List.mem_of_getElem? (i := 5) rfl)
theorem zinst_X12_spanMarks : Cond.instanceMethod yX12_spanMarks ∈ zT := zwm_20 _ (List.mem_of_getElem? (i := 9) rfl)
theorem zsel_X12_spanMarks : Cond.selects yX12_spanMarks.cls yX12_spanMarks yX12_spanMarks ∈ zT := zwm_0 _ (List.mem_of_getElem? (i := 20) rfl)
theorem zinst_X12_marksOf : Cond.instanceMethod yX12_marksOf ∈ zT := zwm_20 _ (List.mem_of_getElem? (i := 6) rfl)
theorem zsel_X12_marksOf : Cond.selects yX12_marksOf.cls yX12_marksOf yX12_marksOf ∈ zT := zwm_0 _ (List.mem_of_getElem? (i := 19) rfl)
theorem zinst_X12_markOf : Cond.instanceMethod yX12_markOf ∈ zT := zwm_20 _ (List.mem_of_getElem? (i := 16) rfl)
theorem zsel_X12_markOf : Cond.selects yX12_markOf.cls yX12_markOf yX12_markOf ∈ zT := zwm_0 _ (List.mem_of_getElem? (i := 21) rfl)
theorem zinst_X12_span : Cond.instanceMethod yX12_span ∈ zT := zwm_20 _ (List.mem_of_getElem? (i := 1) rfl)
theorem zsel_X12_span : Cond.selects yX12_span.cls yX12_span yX12_span ∈ zT := zwm_20 _ (List.mem_of_getElem? (i := 2) rfl)
theorem zinst_X12_mark : Cond.instanceMethod yX12_mark ∈ zT := zwm_20 _ (List.mem_of_getElem? (i := 12) rfl)
theorem zsel_X12_mark : Cond.selects yX12_mark.cls yX12_mark yX12_mark ∈ zT := zwm_20 _ (List.mem_of_getElem? (i := 13) rfl)
theorem zinst_X12_marks : Cond.instanceMethod yX12_marks ∈ zT := zwm_20 _ (List.mem_of_getElem? (i := 19) rfl)
theorem zsel_X12_marks : Cond.selects yX12_marks.cls yX12_marks yX12_marks ∈ zT := zwm_20 _ (List.mem_of_getElem? (i := 20) rfl)
theorem zstat_X12_size : Cond.static yX12_size ∈ zT := zwm_20 _ (List.mem_of_getElem? (i := 27) rfl)
theorem zinst_X12_closest : Cond.instanceMethod yX12_closest ∈ zT := zwm_20 _ (List.mem_of_getElem? (i := 23) rfl)
theorem zsel_X12_closest : Cond.selects yX12_closest.cls yX12_closest yX12_closest ∈ zT := zwm_20 _ (List.mem_of_getElem? (i := 24) rfl)
theorem zinst_X12_off : Cond.instanceMethod yX12_off ∈ zT := zwm_20 _ (List.mem_of_getElem? (i := 30) rfl)
theorem zsel_X12_off : Cond.selects yX12_off.cls yX12_off yX12_off ∈ zT := zwm_20 _ (List.mem_of_getElem? (i := 31) rfl)
theorem zinst_X12_set : Cond.instanceMethod yX12_set ∈ zT := zwm_20 _ (List.mem_of_getElem? (i := 36) rfl)
theorem zsel_X12_set : Cond.selects yX12_set.cls yX12_set yX12_set ∈ zT := zwm_20 _ (List.mem_of_getElem? (i := 37) rfl)
theorem zinst_X12_against : Cond.instanceMethod yX12_against ∈ zT := zwm_21 _ (List.mem_of_getElem? (i := 0) rfl)
theorem zsel_X12_against : Cond.selects yX12_against.cls yX12_against yX12_against ∈ zT := zwm_21 _ (List.mem_of_getElem? (i := 1) rfl)
theorem zstat_X12_isPlace : Cond.static yX12_isPlace ∈ zT := zwm_21 _ (List.mem_of_getElem? (i := 8) rfl)
theorem zinst_X12_nearest : Cond.instanceMethod yX12_nearest ∈ zT := zwm_21 _ (List.mem_of_getElem? (i := 4) rfl)
theorem zsel_X12_nearest : Cond.selects yX12_nearest.cls yX12_nearest yX12_nearest ∈ zT := zwm_21 _ (List.mem_of_getElem? (i := 5) rfl)
theorem zinst_X12_between : Cond.instanceMethod yX12_between ∈ zT := zwm_21 _ (List.mem_of_getElem? (i := 13) rfl)
theorem zsel_X12_between : Cond.selects yX12_between.cls yX12_between yX12_between ∈ zT := zwm_21 _ (List.mem_of_getElem? (i := 14) rfl)
theorem zinst_X12_factor : Cond.instanceMethod yX12_factor ∈ zT := zwm_21 _ (List.mem_of_getElem? (i := 17) rfl)
theorem zsel_X12_factor : Cond.selects yX12_factor.cls yX12_factor yX12_factor ∈ zT := zwm_21 _ (List.mem_of_getElem? (i := 18) rfl)
theorem zinst_X12_clear : Cond.instanceMethod yX12_clear ∈ zT := zwm_21 _ (List.mem_of_getElem? (i := 22) rfl)
theorem zsel_X12_clear : Cond.selects yX12_clear.cls yX12_clear yX12_clear ∈ zT := zwm_21 _ (List.mem_of_getElem? (i := 23) rfl)
theorem zinst_X12_plainOf : Cond.instanceMethod yX12_plainOf ∈ zT := zwm_21 _ (List.mem_of_getElem? (i := 30) rfl)
theorem zsel_X12_plainOf : Cond.selects yX12_plainOf.cls yX12_plainOf yX12_plainOf ∈ zT := zwm_0 _ (List.mem_of_getElem? (i := 22) rfl)
theorem zinst_X12_reading : Cond.instanceMethod yX12_reading ∈ zT := zwm_21 _ (List.mem_of_getElem? (i := 36) rfl)
theorem zsel_X12_reading : Cond.selects yX12_reading.cls yX12_reading yX12_reading ∈ zT := zwm_0 _ (List.mem_of_getElem? (i := 24) rfl)
theorem zinst_X12_truth : Cond.instanceMethod yX12_truth ∈ zT := zwm_21 _ (List.mem_of_getElem? (i := 39) rfl)
theorem zsel_X12_truth : Cond.selects yX12_truth.cls yX12_truth yX12_truth ∈ zT := zwm_0 _ (List.mem_of_getElem? (i := 25) rfl)
theorem zinst_X12_chain : Cond.instanceMethod yX12_chain ∈ zT := zwm_21 _ (List.mem_of_getElem? (i := 26) rfl)
theorem zsel_X12_chain : Cond.selects yX12_chain.cls yX12_chain yX12_chain ∈ zT := zwm_21 _ (List.mem_of_getElem? (i := 27) rfl)
theorem zinst_X12_pairs : Cond.instanceMethod yX12_pairs ∈ zT := zwm_22 _ (List.mem_of_getElem? (i := 3) rfl)
theorem zsel_X12_pairs : Cond.selects yX12_pairs.cls yX12_pairs yX12_pairs ∈ zT := zwm_22 _ (List.mem_of_getElem? (i := 4) rfl)
theorem zinst_X12_lets : Cond.instanceMethod yX12_lets ∈ zT := zwm_22 _ (List.mem_of_getElem? (i := 20) rfl)
theorem zsel_X12_lets : Cond.selects yX12_lets.cls yX12_lets yX12_lets ∈ zT := zwm_0 _ (List.mem_of_getElem? (i := 27) rfl)
theorem zinst_X12_spreads : Cond.instanceMethod yX12_spreads ∈ zT := zwm_22 _ (List.mem_of_getElem? (i := 16) rfl)
theorem zsel_X12_spreads : Cond.selects yX12_spreads.cls yX12_spreads yX12_spreads ∈ zT := zwm_0 _ (List.mem_of_getElem? (i := 26) rfl)
theorem zstat_X12_isPower : Cond.static yX12_isPower ∈ zT := zwm_22 _ (List.mem_of_getElem? (i := 11) rfl)
theorem zinst_X12_leastTo : Cond.instanceMethod yX12_leastTo ∈ zT := zwm_22 _ (List.mem_of_getElem? (i := 23) rfl)
theorem zsel_X12_leastTo : Cond.selects yX12_leastTo.cls yX12_leastTo yX12_leastTo ∈ zT := zwm_0 _ (List.mem_of_getElem? (i := 28) rfl)
theorem zinst_X12_fewest : Cond.instanceMethod yX12_fewest ∈ zT := zwm_22 _ (List.mem_of_getElem? (i := 7) rfl)
theorem zsel_X12_fewest : Cond.selects yX12_fewest.cls yX12_fewest yX12_fewest ∈ zT := zwm_22 _ (List.mem_of_getElem? (i := 8) rfl)
theorem zinst_X12_setting : Cond.instanceMethod yX12_setting ∈ zT := zwm_22 _ (List.mem_of_getElem? (i := 26) rfl)
theorem zsel_X12_setting : Cond.selects yX12_setting.cls yX12_setting yX12_setting ∈ zT := zwm_22 _ (List.mem_of_getElem? (i := 27) rfl)
theorem zstat_X12_isStrip : Cond.static yX12_isStrip ∈ zT := zwm_22 _ (List.mem_of_getElem? (i := 34) rfl)
theorem zinst_X12_cut : Cond.instanceMethod yX12_cut ∈ zT := zwm_22 _ (List.mem_of_getElem? (i := 30) rfl)
theorem zsel_X12_cut : Cond.selects yX12_cut.cls yX12_cut yX12_cut ∈ zT := zwm_22 _ (List.mem_of_getElem? (i := 31) rfl)
theorem zinst_X12_wipe : Cond.instanceMethod yX12_wipe ∈ zT := zwm_22 _ (List.mem_of_getElem? (i := 37) rfl)
theorem zsel_X12_wipe : Cond.selects yX12_wipe.cls yX12_wipe yX12_wipe ∈ zT := zwm_22 _ (List.mem_of_getElem? (i := 38) rfl)
theorem zinst_X12_chosen : Cond.instanceMethod yX12_chosen ∈ zT := zwm_23 _ (List.mem_of_getElem? (i := 1) rfl)
theorem zsel_X12_chosen : Cond.selects yX12_chosen.cls yX12_chosen yX12_chosen ∈ zT := zwm_23 _ (List.mem_of_getElem? (i := 2) rfl)
theorem zinst_X12_has : Cond.instanceMethod yX12_has ∈ zT := zwm_23 _ (List.mem_of_getElem? (i := 9) rfl)
theorem zsel_X12_has : Cond.selects yX12_has.cls yX12_has yX12_has ∈ zT := zwm_0 _ (List.mem_of_getElem? (i := 29) rfl)
theorem zinst_X12_match : Cond.instanceMethod yX12_match ∈ zT := zwm_23 _ (List.mem_of_getElem? (i := 5) rfl)
theorem zsel_X12_match : Cond.selects yX12_match.cls yX12_match yX12_match ∈ zT := zwm_23 _ (List.mem_of_getElem? (i := 6) rfl)
theorem zstat_X12_numberOf : Cond.static yX12_numberOf ∈ zT := zwm_23 _ (List.mem_of_getElem? (i := 20) rfl)
theorem zinst_X12_lawPlace : Cond.instanceMethod yX12_lawPlace ∈ zT := zwm_23 _ (List.mem_of_getElem? (i := 17) rfl)
theorem zsel_X12_lawPlace : Cond.selects yX12_lawPlace.cls yX12_lawPlace yX12_lawPlace ∈ zT := zwm_0 _ (List.mem_of_getElem? (i := 30) rfl)
theorem zinst_X12_law : Cond.instanceMethod yX12_law ∈ zT := zwm_23 _ (List.mem_of_getElem? (i := 12) rfl)
theorem zsel_X12_law : Cond.selects yX12_law.cls yX12_law yX12_law ∈ zT := zwm_23 _ (List.mem_of_getElem? (i := 13) rfl)
theorem zinst_X12_doubled : Cond.instanceMethod yX12_doubled ∈ zT := zwm_23 _ (List.mem_of_getElem? (i := 23) rfl)
theorem zsel_X12_doubled : Cond.selects yX12_doubled.cls yX12_doubled yX12_doubled ∈ zT := zwm_23 _ (List.mem_of_getElem? (i := 24) rfl)
theorem zinst_X12_count : Cond.instanceMethod yX12_count ∈ zT := zwm_23 _ (List.mem_of_getElem? (i := 27) rfl)
theorem zsel_X12_count : Cond.selects yX12_count.cls yX12_count yX12_count ∈ zT := zwm_23 _ (List.mem_of_getElem? (i := 28) rfl)
theorem zinst_X12_digest : Cond.instanceMethod yX12_digest ∈ zT := zwm_23 _ (List.mem_of_getElem? (i := 31) rfl)
theorem zsel_X12_digest : Cond.selects yX12_digest.cls yX12_digest yX12_digest ∈ zT := zwm_23 _ (List.mem_of_getElem? (i := 32) rfl)
theorem zstat_J9_floorDiv_f86c9 : Cond.static yJ9_floorDiv_f86c9 ∈ zT := zwm_8 _ (List.mem_of_getElem? (i := 15) rfl)
theorem zstat_J9_abs_0f7a4 : Cond.static yJ9_abs_0f7a4 ∈ zT := zwm_9 _ (List.mem_of_getElem? (i := 32) rfl)
theorem zstat_J9_max_7cf53 : Cond.static yJ9_max_7cf53 ∈ zT := zwm_3 _ (List.mem_of_getElem? (i := 9) rfl)
theorem zstat_J9_min_7cf53 : Cond.static yJ9_min_7cf53 ∈ zT := zwm_10 _ (List.mem_of_getElem? (i := 32) rfl)
theorem zCd_X11_init : zCd yX11_init cX11_init 2 none 0 := ⟨zwm_1 _ (List.mem_of_getElem? (i := 10) rfl), by decide +kernel, by decide +kernel, by decide +kernel⟩
theorem zCd_X2_init : zCd yX2_init cX2_init 3 none 0 := ⟨zwm_1 _ (List.mem_of_getElem? (i := 18) rfl), by decide +kernel, by decide +kernel, by decide +kernel⟩
theorem zCd_X10_init : zCd yX10_init cX10_init 1 none 0 := ⟨zwm_1 _ (List.mem_of_getElem? (i := 23) rfl), by decide +kernel, by decide +kernel, by decide +kernel⟩
theorem zCd_X2_addGrowth : zCd yX2_addGrowth cX2_addGrowth 5 none 3 := ⟨zwm_1 _ (List.mem_of_getElem? (i := 34) rfl), by decide +kernel, by decide +kernel, by decide +kernel⟩
theorem zCd_X10_put : zCd yX10_put cX10_put 5 none 2 := ⟨zwm_2 _ (List.mem_of_getElem? (i := 0) rfl), by decide +kernel, by decide +kernel, by decide +kernel⟩
theorem zCd_X10_shrink : zCd yX10_shrink cX10_shrink 7 none 2 := ⟨zwm_2 _ (List.mem_of_getElem? (i := 4) rfl), by decide +kernel, by decide +kernel, by decide +kernel⟩
theorem zCd_X10_isZero : zCd yX10_isZero cX10_isZero 1 (some .boolean) 0 := ⟨zwm_2 _ (List.mem_of_getElem? (i := 9) rfl), by decide +kernel, by decide +kernel, by decide +kernel⟩
theorem zCd_X10_addPart : zCd yX10_addPart cX10_addPart 7 none 2 := ⟨zwm_2 _ (List.mem_of_getElem? (i := 13) rfl), by decide +kernel, by decide +kernel, by decide +kernel⟩
theorem zCd_X5_init : zCd yX5_init cX5_init 1 none 0 := ⟨zwm_2 _ (List.mem_of_getElem? (i := 27) rfl), by decide +kernel, by decide +kernel, by decide +kernel⟩
theorem zCd_X0_init : zCd yX0_init cX0_init 1 none 0 := ⟨zwm_3 _ (List.mem_of_getElem? (i := 0) rfl), by decide +kernel, by decide +kernel, by decide +kernel⟩
theorem zCd_X6_init : zCd yX6_init cX6_init 2 none 1 := ⟨zwm_3 _ (List.mem_of_getElem? (i := 6) rfl), by decide +kernel, by decide +kernel, by decide +kernel⟩
theorem zCd_J9_max_7cf53 : zCd yJ9_max_7cf53 cJ9_max_7cf53 2 (some .int) 2 := ⟨zwm_3 _ (List.mem_of_getElem? (i := 10) rfl), by decide +kernel, by decide +kernel, by decide +kernel⟩
theorem zCd_X4_init : zCd yX4_init cX4_init 1 none 0 := ⟨zwm_4 _ (List.mem_of_getElem? (i := 0) rfl), by decide +kernel, by decide +kernel, by decide +kernel⟩
theorem zCd_X8_init : zCd yX8_init cX8_init 1 none 0 := ⟨zwm_4 _ (List.mem_of_getElem? (i := 34) rfl), by decide +kernel, by decide +kernel, by decide +kernel⟩
theorem zCd_X3_init : zCd yX3_init cX3_init 1 none 0 := ⟨zwm_5 _ (List.mem_of_getElem? (i := 10) rfl), by decide +kernel, by decide +kernel, by decide +kernel⟩
theorem zCd_X1_init : zCd yX1_init cX1_init 1 none 0 := ⟨zwm_5 _ (List.mem_of_getElem? (i := 21) rfl), by decide +kernel, by decide +kernel, by decide +kernel⟩
theorem zCd_X9_init : zCd yX9_init cX9_init 1 none 0 := ⟨zwm_5 _ (List.mem_of_getElem? (i := 27) rfl), by decide +kernel, by decide +kernel, by decide +kernel⟩
theorem zCd_X11_rule : zCd yX11_rule cX11_rule 3 (some .int) 1 := ⟨zwm_6 _ (List.mem_of_getElem? (i := 21) rfl), by decide +kernel, by decide +kernel, by decide +kernel⟩
theorem zCd_X11_scale : zCd yX11_scale cX11_scale 5 (some .int) 4 := ⟨zwm_6 _ (List.mem_of_getElem? (i := 26) rfl), by decide +kernel, by decide +kernel, by decide +kernel⟩
theorem zCd_X7_init : zCd yX7_init cX7_init 5 none 4 := ⟨zwm_6 _ (List.mem_of_getElem? (i := 30) rfl), by decide +kernel, by decide +kernel, by decide +kernel⟩
theorem zCd_X11_place : zCd yX11_place cX11_place 4 (some .int) 2 := ⟨zwm_7 _ (List.mem_of_getElem? (i := 25) rfl), by decide +kernel, by decide +kernel, by decide +kernel⟩
theorem zCd_X11_scaleAt : zCd yX11_scaleAt cX11_scaleAt 2 (some (.object "SlideRules$Scale")) 1 := ⟨zwm_7 _ (List.mem_of_getElem? (i := 28) rfl), by decide +kernel, by decide +kernel, by decide +kernel⟩
theorem zCd_X11_isNumber : zCd yX11_isNumber cX11_isNumber 1 (some .boolean) 1 := ⟨zwm_7 _ (List.mem_of_getElem? (i := 31) rfl), by decide +kernel, by decide +kernel, by decide +kernel⟩
theorem zCd_X7_placeOf : zCd yX7_placeOf cX7_placeOf 5 (some .int) 3 := ⟨zwm_7 _ (List.mem_of_getElem? (i := 37) rfl), by decide +kernel, by decide +kernel, by decide +kernel⟩
theorem zCd_X2_placeOf : zCd yX2_placeOf cX2_placeOf 7 (some .int) 4 := ⟨zwm_8 _ (List.mem_of_getElem? (i := 1) rfl), by decide +kernel, by decide +kernel, by decide +kernel⟩
theorem zCd_X2_putLog : zCd yX2_putLog cX2_putLog 7 none 2 := ⟨zwm_8 _ (List.mem_of_getElem? (i := 4) rfl), by decide +kernel, by decide +kernel, by decide +kernel⟩
theorem zCd_X10_subtract : zCd yX10_subtract cX10_subtract 4 none 1 := ⟨zwm_8 _ (List.mem_of_getElem? (i := 8) rfl), by decide +kernel, by decide +kernel, by decide +kernel⟩
theorem zCd_X10_floorTimes : zCd yX10_floorTimes cX10_floorTimes 2 (some .long) 1 := ⟨zwm_8 _ (List.mem_of_getElem? (i := 12) rfl), by decide +kernel, by decide +kernel, by decide +kernel⟩
theorem zCd_J9_floorDiv_f86c9 : zCd yJ9_floorDiv_f86c9 cJ9_floorDiv_f86c9 6 (some .long) 2 := ⟨zwm_8 _ (List.mem_of_getElem? (i := 16) rfl), by decide +kernel, by decide +kernel, by decide +kernel⟩
theorem zCd_X11_span : zCd yX11_span cX11_span 7 (some .int) 4 := ⟨zwm_8 _ (List.mem_of_getElem? (i := 20) rfl), by decide +kernel, by decide +kernel, by decide +kernel⟩
theorem zCd_X7_lastTo : zCd yX7_lastTo cX7_lastTo 1 (some .int) 0 := ⟨zwm_8 _ (List.mem_of_getElem? (i := 24) rfl), by decide +kernel, by decide +kernel, by decide +kernel⟩
theorem zCd_X7_hasRoomFor : zCd yX7_hasRoomFor cX7_hasRoomFor 2 (some .boolean) 1 := ⟨zwm_8 _ (List.mem_of_getElem? (i := 28) rfl), by decide +kernel, by decide +kernel, by decide +kernel⟩
theorem zCd_X7_addSpan : zCd yX7_addSpan cX7_addSpan 5 none 3 := ⟨zwm_8 _ (List.mem_of_getElem? (i := 32) rfl), by decide +kernel, by decide +kernel, by decide +kernel⟩
theorem zCd_X6_isFull : zCd yX6_isFull cX6_isFull 1 (some .boolean) 0 := ⟨zwm_8 _ (List.mem_of_getElem? (i := 36) rfl), by decide +kernel, by decide +kernel, by decide +kernel⟩
theorem zCd_X6_append : zCd yX6_append cX6_append 2 (some .int) 1 := ⟨zwm_9 _ (List.mem_of_getElem? (i := 0) rfl), by decide +kernel, by decide +kernel, by decide +kernel⟩
theorem zCd_X11_mark : zCd yX11_mark cX11_mark 4 (some .int) 2 := ⟨zwm_9 _ (List.mem_of_getElem? (i := 5) rfl), by decide +kernel, by decide +kernel, by decide +kernel⟩
theorem zCd_X7_numberAt : zCd yX7_numberAt cX7_numberAt 2 (some .int) 1 := ⟨zwm_9 _ (List.mem_of_getElem? (i := 9) rfl), by decide +kernel, by decide +kernel, by decide +kernel⟩
theorem zCd_X11_marks : zCd yX11_marks cX11_marks 3 (some .int) 1 := ⟨zwm_9 _ (List.mem_of_getElem? (i := 13) rfl), by decide +kernel, by decide +kernel, by decide +kernel⟩
theorem zCd_X11_closest : zCd yX11_closest cX11_closest 5 (some .int) 2 := ⟨zwm_9 _ (List.mem_of_getElem? (i := 17) rfl), by decide +kernel, by decide +kernel, by decide +kernel⟩
theorem zCd_X7_placeMarks : zCd yX7_placeMarks cX7_placeMarks 3 none 2 := ⟨zwm_9 _ (List.mem_of_getElem? (i := 21) rfl), by decide +kernel, by decide +kernel, by decide +kernel⟩
theorem zCd_X7_firstOfClosest : zCd yX7_firstOfClosest cX7_firstOfClosest 3 (some .int) 0 := ⟨zwm_9 _ (List.mem_of_getElem? (i := 26) rfl), by decide +kernel, by decide +kernel, by decide +kernel⟩
theorem zCd_X7_gapBehind : zCd yX7_gapBehind cX7_gapBehind 2 (some .int) 1 := ⟨zwm_9 _ (List.mem_of_getElem? (i := 30) rfl), by decide +kernel, by decide +kernel, by decide +kernel⟩
theorem zCd_J9_abs_0f7a4 : zCd yJ9_abs_0f7a4 cJ9_abs_0f7a4 1 (some .int) 1 := ⟨zwm_9 _ (List.mem_of_getElem? (i := 33) rfl), by decide +kernel, by decide +kernel, by decide +kernel⟩
theorem zCd_X11_off : zCd yX11_off cX11_off 3 (some .int) 1 := ⟨zwm_9 _ (List.mem_of_getElem? (i := 38) rfl), by decide +kernel, by decide +kernel, by decide +kernel⟩
theorem zCd_X11_set : zCd yX11_set cX11_set 7 (some .int) 4 := ⟨zwm_10 _ (List.mem_of_getElem? (i := 4) rfl), by decide +kernel, by decide +kernel, by decide +kernel⟩
theorem zCd_X11_against : zCd yX11_against cX11_against 7 (some .int) 3 := ⟨zwm_10 _ (List.mem_of_getElem? (i := 8) rfl), by decide +kernel, by decide +kernel, by decide +kernel⟩
theorem zCd_X11_nearest : zCd yX11_nearest cX11_nearest 4 (some .int) 2 := ⟨zwm_10 _ (List.mem_of_getElem? (i := 12) rfl), by decide +kernel, by decide +kernel, by decide +kernel⟩
theorem zCd_X11_isAskedPlace : zCd yX11_isAskedPlace cX11_isAskedPlace 1 (some .boolean) 1 := ⟨zwm_10 _ (List.mem_of_getElem? (i := 15) rfl), by decide +kernel, by decide +kernel, by decide +kernel⟩
theorem zCd_X7_nearestTo : zCd yX7_nearestTo cX7_nearestTo 4 (some .int) 1 := ⟨zwm_10 _ (List.mem_of_getElem? (i := 21) rfl), by decide +kernel, by decide +kernel, by decide +kernel⟩
theorem zCd_X11_between : zCd yX11_between cX11_between 4 (some .int) 2 := ⟨zwm_10 _ (List.mem_of_getElem? (i := 26) rfl), by decide +kernel, by decide +kernel, by decide +kernel⟩
theorem zCd_X7_readBetween : zCd yX7_readBetween cX7_readBetween 7 (some .int) 1 := ⟨zwm_10 _ (List.mem_of_getElem? (i := 30) rfl), by decide +kernel, by decide +kernel, by decide +kernel⟩
theorem zCd_J9_min_7cf53 : zCd yJ9_min_7cf53 cJ9_min_7cf53 2 (some .int) 2 := ⟨zwm_10 _ (List.mem_of_getElem? (i := 33) rfl), by decide +kernel, by decide +kernel, by decide +kernel⟩
theorem zCd_X11_factor : zCd yX11_factor cX11_factor 2 (some .int) 1 := ⟨zwm_10 _ (List.mem_of_getElem? (i := 38) rfl), by decide +kernel, by decide +kernel, by decide +kernel⟩
theorem zCd_X11_isFactor : zCd yX11_isFactor cX11_isFactor 1 (some .boolean) 1 := ⟨zwm_11 _ (List.mem_of_getElem? (i := 1) rfl), by decide +kernel, by decide +kernel, by decide +kernel⟩
theorem zCd_X11_clear : zCd yX11_clear cX11_clear 1 (some .int) 0 := ⟨zwm_11 _ (List.mem_of_getElem? (i := 7) rfl), by decide +kernel, by decide +kernel, by decide +kernel⟩
theorem zCd_X6_empty : zCd yX6_empty cX6_empty 2 (some .int) 0 := ⟨zwm_11 _ (List.mem_of_getElem? (i := 11) rfl), by decide +kernel, by decide +kernel, by decide +kernel⟩
theorem zCd_X11_chain : zCd yX11_chain cX11_chain 2 (some .int) 1 := ⟨zwm_11 _ (List.mem_of_getElem? (i := 15) rfl), by decide +kernel, by decide +kernel, by decide +kernel⟩
theorem zCd_X5_cutFor : zCd yX5_cutFor cX5_cutFor 4 none 2 := ⟨zwm_11 _ (List.mem_of_getElem? (i := 19) rfl), by decide +kernel, by decide +kernel, by decide +kernel⟩
theorem zCd_X0_walk : zCd yX0_walk cX0_walk 3 none 1 := ⟨zwm_11 _ (List.mem_of_getElem? (i := 24) rfl), by decide +kernel, by decide +kernel, by decide +kernel⟩
theorem zCd_X0_begin : zCd yX0_begin cX0_begin 1 none 0 := ⟨zwm_11 _ (List.mem_of_getElem? (i := 28) rfl), by decide +kernel, by decide +kernel, by decide +kernel⟩
theorem zCd_X0_move : zCd yX0_move cX0_move 3 none 2 := ⟨zwm_11 _ (List.mem_of_getElem? (i := 32) rfl), by decide +kernel, by decide +kernel, by decide +kernel⟩
theorem zCd_X5_placeOf : zCd yX5_placeOf cX5_placeOf 2 (some .int) 1 := ⟨zwm_11 _ (List.mem_of_getElem? (i := 36) rfl), by decide +kernel, by decide +kernel, by decide +kernel⟩
theorem zCd_X5_readingOf : zCd yX5_readingOf cX5_readingOf 4 (some .int) 1 := ⟨zwm_12 _ (List.mem_of_getElem? (i := 0) rfl), by decide +kernel, by decide +kernel, by decide +kernel⟩
theorem zCd_X5_firstFrom : zCd yX5_firstFrom cX5_firstFrom 5 (some .int) 1 := ⟨zwm_12 _ (List.mem_of_getElem? (i := 3) rfl), by decide +kernel, by decide +kernel, by decide +kernel⟩
theorem zCd_X0_truth : zCd yX0_truth cX0_truth 2 (some .int) 0 := ⟨zwm_12 _ (List.mem_of_getElem? (i := 7) rfl), by decide +kernel, by decide +kernel, by decide +kernel⟩
theorem zCd_X0_multiplyOut : zCd yX0_multiplyOut cX0_multiplyOut 7 none 0 := ⟨zwm_12 _ (List.mem_of_getElem? (i := 10) rfl), by decide +kernel, by decide +kernel, by decide +kernel⟩
theorem zCd_X0_firstThree : zCd yX0_firstThree cX0_firstThree 4 (some .int) 1 := ⟨zwm_12 _ (List.mem_of_getElem? (i := 14) rfl), by decide +kernel, by decide +kernel, by decide +kernel⟩
theorem zCd_X11_pairs : zCd yX11_pairs cX11_pairs 5 (some .int) 4 := ⟨zwm_12 _ (List.mem_of_getElem? (i := 20) rfl), by decide +kernel, by decide +kernel, by decide +kernel⟩
theorem zCd_X4_sumUp : zCd yX4_sumUp cX4_sumUp 7 none 4 := ⟨zwm_12 _ (List.mem_of_getElem? (i := 24) rfl), by decide +kernel, by decide +kernel, by decide +kernel⟩
theorem zCd_X4_take : zCd yX4_take cX4_take 5 none 3 := ⟨zwm_12 _ (List.mem_of_getElem? (i := 27) rfl), by decide +kernel, by decide +kernel, by decide +kernel⟩
theorem zCd_X11_fewest : zCd yX11_fewest cX11_fewest 4 (some .int) 3 := ⟨zwm_12 _ (List.mem_of_getElem? (i := 36) rfl), by decide +kernel, by decide +kernel, by decide +kernel⟩
theorem zCd_X11_isPower : zCd yX11_isPower cX11_isPower 1 (some .boolean) 1 := ⟨zwm_12 _ (List.mem_of_getElem? (i := 39) rfl), by decide +kernel, by decide +kernel, by decide +kernel⟩
theorem zCd_X11_aimSettings : zCd yX11_aimSettings cX11_aimSettings 5 none 3 := ⟨zwm_13 _ (List.mem_of_getElem? (i := 2) rfl), by decide +kernel, by decide +kernel, by decide +kernel⟩
theorem zCd_X8_forgetParts : zCd yX8_forgetParts cX8_forgetParts 2 none 0 := ⟨zwm_13 _ (List.mem_of_getElem? (i := 6) rfl), by decide +kernel, by decide +kernel, by decide +kernel⟩
theorem zCd_X8_allow : zCd yX8_allow cX8_allow 3 none 2 := ⟨zwm_13 _ (List.mem_of_getElem? (i := 10) rfl), by decide +kernel, by decide +kernel, by decide +kernel⟩
theorem zCd_X8_aimAt : zCd yX8_aimAt cX8_aimAt 4 none 3 := ⟨zwm_13 _ (List.mem_of_getElem? (i := 14) rfl), by decide +kernel, by decide +kernel, by decide +kernel⟩
theorem zCd_X8_measure : zCd yX8_measure cX8_measure 5 none 2 := ⟨zwm_13 _ (List.mem_of_getElem? (i := 17) rfl), by decide +kernel, by decide +kernel, by decide +kernel⟩
theorem zCd_X8_reachBack : zCd yX8_reachBack cX8_reachBack 4 none 2 := ⟨zwm_13 _ (List.mem_of_getElem? (i := 20) rfl), by decide +kernel, by decide +kernel, by decide +kernel⟩
theorem zCd_X8_fewestToGoal : zCd yX8_fewestToGoal cX8_fewestToGoal 3 (some .int) 0 := ⟨zwm_13 _ (List.mem_of_getElem? (i := 24) rfl), by decide +kernel, by decide +kernel, by decide +kernel⟩
theorem zCd_X11_setting : zCd yX11_setting cX11_setting 5 (some .int) 4 := ⟨zwm_13 _ (List.mem_of_getElem? (i := 28) rfl), by decide +kernel, by decide +kernel, by decide +kernel⟩
theorem zCd_X8_codeAt : zCd yX8_codeAt cX8_codeAt 4 (some .int) 1 := ⟨zwm_13 _ (List.mem_of_getElem? (i := 32) rfl), by decide +kernel, by decide +kernel, by decide +kernel⟩
theorem zCd_X8_makeFirst : zCd yX8_makeFirst cX8_makeFirst 5 (some .int) 0 := ⟨zwm_13 _ (List.mem_of_getElem? (i := 36) rfl), by decide +kernel, by decide +kernel, by decide +kernel⟩
theorem zCd_X8_isNearer : zCd yX8_isNearer cX8_isNearer 3 (some .boolean) 2 := ⟨zwm_13 _ (List.mem_of_getElem? (i := 39) rfl), by decide +kernel, by decide +kernel, by decide +kernel⟩
theorem zCd_X11_cut : zCd yX11_cut cX11_cut 3 (some .int) 2 := ⟨zwm_14 _ (List.mem_of_getElem? (i := 3) rfl), by decide +kernel, by decide +kernel, by decide +kernel⟩
theorem zCd_X11_isStrip : zCd yX11_isStrip cX11_isStrip 1 (some .boolean) 1 := ⟨zwm_14 _ (List.mem_of_getElem? (i := 6) rfl), by decide +kernel, by decide +kernel, by decide +kernel⟩
theorem zCd_X6_last : zCd yX6_last cX6_last 1 (some .int) 0 := ⟨zwm_14 _ (List.mem_of_getElem? (i := 10) rfl), by decide +kernel, by decide +kernel, by decide +kernel⟩
theorem zCd_X11_wipe : zCd yX11_wipe cX11_wipe 2 (some .int) 1 := ⟨zwm_14 _ (List.mem_of_getElem? (i := 14) rfl), by decide +kernel, by decide +kernel, by decide +kernel⟩
theorem zCd_X11_chosen : zCd yX11_chosen cX11_chosen 4 (some .int) 3 := ⟨zwm_14 _ (List.mem_of_getElem? (i := 18) rfl), by decide +kernel, by decide +kernel, by decide +kernel⟩
theorem zCd_X9_choose : zCd yX9_choose cX9_choose 7 (some .int) 2 := ⟨zwm_14 _ (List.mem_of_getElem? (i := 22) rfl), by decide +kernel, by decide +kernel, by decide +kernel⟩
theorem zCd_X11_match : zCd yX11_match cX11_match 2 (some .int) 1 := ⟨zwm_14 _ (List.mem_of_getElem? (i := 26) rfl), by decide +kernel, by decide +kernel, by decide +kernel⟩
theorem zCd_X3_find : zCd yX3_find cX3_find 5 none 2 := ⟨zwm_14 _ (List.mem_of_getElem? (i := 30) rfl), by decide +kernel, by decide +kernel, by decide +kernel⟩
theorem zCd_X3_alike : zCd yX3_alike cX3_alike 9 (some .int) 4 := ⟨zwm_14 _ (List.mem_of_getElem? (i := 34) rfl), by decide +kernel, by decide +kernel, by decide +kernel⟩
theorem zCd_X3_weigh : zCd yX3_weigh cX3_weigh 5 none 2 := ⟨zwm_14 _ (List.mem_of_getElem? (i := 37) rfl), by decide +kernel, by decide +kernel, by decide +kernel⟩
theorem zCd_X11_law : zCd yX11_law cX11_law 3 (some .int) 2 := ⟨zwm_15 _ (List.mem_of_getElem? (i := 2) rfl), by decide +kernel, by decide +kernel, by decide +kernel⟩
theorem zCd_X1_isLaw : zCd yX1_isLaw cX1_isLaw 1 (some .boolean) 1 := ⟨zwm_15 _ (List.mem_of_getElem? (i := 5) rfl), by decide +kernel, by decide +kernel, by decide +kernel⟩
theorem zCd_X1_placeOf : zCd yX1_placeOf cX1_placeOf 7 (some .int) 3 := ⟨zwm_15 _ (List.mem_of_getElem? (i := 8) rfl), by decide +kernel, by decide +kernel, by decide +kernel⟩
theorem zCd_X1_inOrder : zCd yX1_inOrder cX1_inOrder 2 (some .int) 2 := ⟨zwm_15 _ (List.mem_of_getElem? (i := 11) rfl), by decide +kernel, by decide +kernel, by decide +kernel⟩
theorem zCd_X1_numberOf : zCd yX1_numberOf cX1_numberOf 2 (some .long) 2 := ⟨zwm_15 _ (List.mem_of_getElem? (i := 14) rfl), by decide +kernel, by decide +kernel, by decide +kernel⟩
theorem zCd_X11_doubled : zCd yX11_doubled cX11_doubled 2 (some .int) 1 := ⟨zwm_15 _ (List.mem_of_getElem? (i := 20) rfl), by decide +kernel, by decide +kernel, by decide +kernel⟩
theorem zCd_X1_doublesOf : zCd yX1_doublesOf cX1_doublesOf 5 (some .int) 2 := ⟨zwm_15 _ (List.mem_of_getElem? (i := 24) rfl), by decide +kernel, by decide +kernel, by decide +kernel⟩
theorem zCd_X1_doublesFrom : zCd yX1_doublesFrom cX1_doublesFrom 6 (some .int) 1 := ⟨zwm_15 _ (List.mem_of_getElem? (i := 28) rfl), by decide +kernel, by decide +kernel, by decide +kernel⟩
theorem zCd_X11_count : zCd yX11_count cX11_count 2 (some .int) 1 := ⟨zwm_15 _ (List.mem_of_getElem? (i := 32) rfl), by decide +kernel, by decide +kernel, by decide +kernel⟩
theorem zCd_X11_scalesOnSlide : zCd yX11_scalesOnSlide cX11_scalesOnSlide 3 (some .int) 0 := ⟨zwm_15 _ (List.mem_of_getElem? (i := 35) rfl), by decide +kernel, by decide +kernel, by decide +kernel⟩
theorem zCd_X11_digest : zCd yX11_digest cX11_digest 4 (some .long) 0 := ⟨zwm_15 _ (List.mem_of_getElem? (i := 39) rfl), by decide +kernel, by decide +kernel, by decide +kernel⟩
theorem zCd_X7_digestOnto : zCd yX7_digestOnto cX7_digestOnto 4 (some .long) 1 := ⟨zwm_16 _ (List.mem_of_getElem? (i := 6) rfl), by decide +kernel, by decide +kernel, by decide +kernel⟩
theorem zCd_X6_digestOnto : zCd yX6_digestOnto cX6_digestOnto 4 (some .long) 1 := ⟨zwm_16 _ (List.mem_of_getElem? (i := 12) rfl), by decide +kernel, by decide +kernel, by decide +kernel⟩
theorem zCd_X12_init : zCd yX12_init cX12_init 2 none 0 := ⟨zwm_16 _ (List.mem_of_getElem? (i := 18) rfl), by decide +kernel, by decide +kernel, by decide +kernel⟩
theorem zCd_X12_natural : zCd yX12_natural cX12_natural 12 none 3 := ⟨zwm_16 _ (List.mem_of_getElem? (i := 24) rfl), by decide +kernel, by decide +kernel, by decide +kernel⟩
theorem zCd_X12_sets : zCd yX12_sets cX12_sets 4 none 2 := ⟨zwm_16 _ (List.mem_of_getElem? (i := 27) rfl), by decide +kernel, by decide +kernel, by decide +kernel⟩
theorem zCd_X12_divides : zCd yX12_divides cX12_divides 8 none 2 := ⟨zwm_16 _ (List.mem_of_getElem? (i := 30) rfl), by decide +kernel, by decide +kernel, by decide +kernel⟩
theorem zCd_X12_isNought : zCd yX12_isNought cX12_isNought 3 (some .boolean) 1 := ⟨zwm_16 _ (List.mem_of_getElem? (i := 34) rfl), by decide +kernel, by decide +kernel, by decide +kernel⟩
theorem zCd_X12_copies : zCd yX12_copies cX12_copies 3 none 2 := ⟨zwm_16 _ (List.mem_of_getElem? (i := 37) rfl), by decide +kernel, by decide +kernel, by decide +kernel⟩
theorem zCd_X12_adds : zCd yX12_adds cX12_adds 7 none 2 := ⟨zwm_17 _ (List.mem_of_getElem? (i := 0) rfl), by decide +kernel, by decide +kernel, by decide +kernel⟩
theorem zCd_X12_times : zCd yX12_times cX12_times 10 none 2 := ⟨zwm_17 _ (List.mem_of_getElem? (i := 3) rfl), by decide +kernel, by decide +kernel, by decide +kernel⟩
theorem zCd_X12_rule : zCd yX12_rule cX12_rule 3 (some .int) 1 := ⟨zwm_18 _ (List.mem_of_getElem? (i := 30) rfl), by decide +kernel, by decide +kernel, by decide +kernel⟩
theorem zCd_X12_in : zCd yX12_in cX12_in 6 (some .boolean) 3 := ⟨zwm_18 _ (List.mem_of_getElem? (i := 35) rfl), by decide +kernel, by decide +kernel, by decide +kernel⟩
theorem zCd_X12_scale : zCd yX12_scale cX12_scale 5 (some .int) 4 := ⟨zwm_18 _ (List.mem_of_getElem? (i := 39) rfl), by decide +kernel, by decide +kernel, by decide +kernel⟩
theorem zCd_X12_place : zCd yX12_place cX12_place 3 (some .int) 2 := ⟨zwm_19 _ (List.mem_of_getElem? (i := 6) rfl), by decide +kernel, by decide +kernel, by decide +kernel⟩
theorem zCd_X12_isScale : zCd yX12_isScale cX12_isScale 2 (some .boolean) 1 := ⟨zwm_19 _ (List.mem_of_getElem? (i := 9) rfl), by decide +kernel, by decide +kernel, by decide +kernel⟩
theorem zCd_X12_isNumber : zCd yX12_isNumber cX12_isNumber 1 (some .boolean) 1 := ⟨zwm_19 _ (List.mem_of_getElem? (i := 12) rfl), by decide +kernel, by decide +kernel, by decide +kernel⟩
theorem zCd_X12_placeOf : zCd yX12_placeOf cX12_placeOf 5 (some .int) 2 := ⟨zwm_19 _ (List.mem_of_getElem? (i := 16) rfl), by decide +kernel, by decide +kernel, by decide +kernel⟩
theorem zCd_X12_nearestOf : zCd yX12_nearestOf cX12_nearestOf 13 (some .int) 3 := ⟨zwm_19 _ (List.mem_of_getElem? (i := 21) rfl), by decide +kernel, by decide +kernel, by decide +kernel⟩
theorem zCd_X12_tens : zCd yX12_tens cX12_tens 9 (some .int) 2 := ⟨zwm_19 _ (List.mem_of_getElem? (i := 24) rfl), by decide +kernel, by decide +kernel, by decide +kernel⟩
theorem zCd_X12_down : zCd yX12_down cX12_down 4 (some .long) 2 := ⟨zwm_19 _ (List.mem_of_getElem? (i := 27) rfl), by decide +kernel, by decide +kernel, by decide +kernel⟩
theorem zCd_X12_logOf : zCd yX12_logOf cX12_logOf 8 none 2 := ⟨zwm_19 _ (List.mem_of_getElem? (i := 30) rfl), by decide +kernel, by decide +kernel, by decide +kernel⟩
theorem zCd_X12_takes : zCd yX12_takes cX12_takes 7 none 2 := ⟨zwm_19 _ (List.mem_of_getElem? (i := 35) rfl), by decide +kernel, by decide +kernel, by decide +kernel⟩
theorem zCd_X12_isLess : zCd yX12_isLess cX12_isLess 3 (some .boolean) 2 := ⟨zwm_19 _ (List.mem_of_getElem? (i := 38) rfl), by decide +kernel, by decide +kernel, by decide +kernel⟩
theorem zCd_X12_span : zCd yX12_span cX12_span 7 (some .int) 4 := ⟨zwm_20 _ (List.mem_of_getElem? (i := 3) rfl), by decide +kernel, by decide +kernel, by decide +kernel⟩
theorem zCd_X12_marksOf : zCd yX12_marksOf cX12_marksOf 4 (some .int) 1 := ⟨zwm_20 _ (List.mem_of_getElem? (i := 7) rfl), by decide +kernel, by decide +kernel, by decide +kernel⟩
theorem zCd_X12_spanMarks : zCd yX12_spanMarks cX12_spanMarks 2 (some .int) 1 := ⟨zwm_20 _ (List.mem_of_getElem? (i := 10) rfl), by decide +kernel, by decide +kernel, by decide +kernel⟩
theorem zCd_X12_mark : zCd yX12_mark cX12_mark 3 (some .int) 2 := ⟨zwm_20 _ (List.mem_of_getElem? (i := 14) rfl), by decide +kernel, by decide +kernel, by decide +kernel⟩
theorem zCd_X12_markOf : zCd yX12_markOf cX12_markOf 5 (some .int) 2 := ⟨zwm_20 _ (List.mem_of_getElem? (i := 17) rfl), by decide +kernel, by decide +kernel, by decide +kernel⟩
theorem zCd_X12_marks : zCd yX12_marks cX12_marks 2 (some .int) 1 := ⟨zwm_20 _ (List.mem_of_getElem? (i := 21) rfl), by decide +kernel, by decide +kernel, by decide +kernel⟩
theorem zCd_X12_closest : zCd yX12_closest cX12_closest 10 (some .int) 2 := ⟨zwm_20 _ (List.mem_of_getElem? (i := 25) rfl), by decide +kernel, by decide +kernel, by decide +kernel⟩
theorem zCd_X12_size : zCd yX12_size cX12_size 1 (some .int) 1 := ⟨zwm_20 _ (List.mem_of_getElem? (i := 28) rfl), by decide +kernel, by decide +kernel, by decide +kernel⟩
theorem zCd_X12_off : zCd yX12_off cX12_off 3 (some .int) 1 := ⟨zwm_20 _ (List.mem_of_getElem? (i := 32) rfl), by decide +kernel, by decide +kernel, by decide +kernel⟩
theorem zCd_X12_set : zCd yX12_set cX12_set 5 (some .int) 4 := ⟨zwm_20 _ (List.mem_of_getElem? (i := 38) rfl), by decide +kernel, by decide +kernel, by decide +kernel⟩
theorem zCd_X12_against : zCd yX12_against cX12_against 4 (some .int) 3 := ⟨zwm_21 _ (List.mem_of_getElem? (i := 2) rfl), by decide +kernel, by decide +kernel, by decide +kernel⟩
theorem zCd_X12_nearest : zCd yX12_nearest cX12_nearest 7 (some .int) 2 := ⟨zwm_21 _ (List.mem_of_getElem? (i := 6) rfl), by decide +kernel, by decide +kernel, by decide +kernel⟩
theorem zCd_X12_isPlace : zCd yX12_isPlace cX12_isPlace 1 (some .boolean) 1 := ⟨zwm_21 _ (List.mem_of_getElem? (i := 9) rfl), by decide +kernel, by decide +kernel, by decide +kernel⟩
theorem zCd_X12_between : zCd yX12_between cX12_between 9 (some .int) 2 := ⟨zwm_21 _ (List.mem_of_getElem? (i := 15) rfl), by decide +kernel, by decide +kernel, by decide +kernel⟩
theorem zCd_X12_factor : zCd yX12_factor cX12_factor 2 (some .int) 1 := ⟨zwm_21 _ (List.mem_of_getElem? (i := 19) rfl), by decide +kernel, by decide +kernel, by decide +kernel⟩
theorem zCd_X12_clear : zCd yX12_clear cX12_clear 2 (some .int) 0 := ⟨zwm_21 _ (List.mem_of_getElem? (i := 24) rfl), by decide +kernel, by decide +kernel, by decide +kernel⟩
theorem zCd_X12_chain : zCd yX12_chain cX12_chain 5 (some .int) 1 := ⟨zwm_21 _ (List.mem_of_getElem? (i := 28) rfl), by decide +kernel, by decide +kernel, by decide +kernel⟩
theorem zCd_X12_plainOf : zCd yX12_plainOf cX12_plainOf 3 (some .int) 1 := ⟨zwm_21 _ (List.mem_of_getElem? (i := 31) rfl), by decide +kernel, by decide +kernel, by decide +kernel⟩
theorem zCd_X12_plain : zCd yX12_plain cX12_plain 2 (some .int) 1 := ⟨zwm_21 _ (List.mem_of_getElem? (i := 34) rfl), by decide +kernel, by decide +kernel, by decide +kernel⟩
theorem zCd_X12_reading : zCd yX12_reading cX12_reading 4 (some .int) 1 := ⟨zwm_21 _ (List.mem_of_getElem? (i := 37) rfl), by decide +kernel, by decide +kernel, by decide +kernel⟩
theorem zCd_X12_truth : zCd yX12_truth cX12_truth 6 (some .int) 0 := ⟨zwm_22 _ (List.mem_of_getElem? (i := 0) rfl), by decide +kernel, by decide +kernel, by decide +kernel⟩
theorem zCd_X12_pairs : zCd yX12_pairs cX12_pairs 16 (some .int) 4 := ⟨zwm_22 _ (List.mem_of_getElem? (i := 5) rfl), by decide +kernel, by decide +kernel, by decide +kernel⟩
theorem zCd_X12_fewest : zCd yX12_fewest cX12_fewest 4 (some .int) 3 := ⟨zwm_22 _ (List.mem_of_getElem? (i := 9) rfl), by decide +kernel, by decide +kernel, by decide +kernel⟩
theorem zCd_X12_isPower : zCd yX12_isPower cX12_isPower 1 (some .boolean) 1 := ⟨zwm_22 _ (List.mem_of_getElem? (i := 12) rfl), by decide +kernel, by decide +kernel, by decide +kernel⟩
theorem zCd_X12_spreads : zCd yX12_spreads cX12_spreads 5 none 0 := ⟨zwm_22 _ (List.mem_of_getElem? (i := 17) rfl), by decide +kernel, by decide +kernel, by decide +kernel⟩
theorem zCd_X12_lets : zCd yX12_lets cX12_lets 5 (some .boolean) 2 := ⟨zwm_22 _ (List.mem_of_getElem? (i := 21) rfl), by decide +kernel, by decide +kernel, by decide +kernel⟩
theorem zCd_X12_leastTo : zCd yX12_leastTo cX12_leastTo 5 (some .int) 3 := ⟨zwm_22 _ (List.mem_of_getElem? (i := 24) rfl), by decide +kernel, by decide +kernel, by decide +kernel⟩
theorem zCd_X12_setting : zCd yX12_setting cX12_setting 18 (some .int) 4 := ⟨zwm_22 _ (List.mem_of_getElem? (i := 28) rfl), by decide +kernel, by decide +kernel, by decide +kernel⟩
theorem zCd_X12_cut : zCd yX12_cut cX12_cut 3 (some .int) 2 := ⟨zwm_22 _ (List.mem_of_getElem? (i := 32) rfl), by decide +kernel, by decide +kernel, by decide +kernel⟩
theorem zCd_X12_isStrip : zCd yX12_isStrip cX12_isStrip 1 (some .boolean) 1 := ⟨zwm_22 _ (List.mem_of_getElem? (i := 35) rfl), by decide +kernel, by decide +kernel, by decide +kernel⟩
theorem zCd_X12_wipe : zCd yX12_wipe cX12_wipe 3 (some .int) 1 := ⟨zwm_22 _ (List.mem_of_getElem? (i := 39) rfl), by decide +kernel, by decide +kernel, by decide +kernel⟩
theorem zCd_X12_chosen : zCd yX12_chosen cX12_chosen 8 (some .int) 3 := ⟨zwm_23 _ (List.mem_of_getElem? (i := 3) rfl), by decide +kernel, by decide +kernel, by decide +kernel⟩
theorem zCd_X12_match : zCd yX12_match cX12_match 9 (some .int) 1 := ⟨zwm_23 _ (List.mem_of_getElem? (i := 7) rfl), by decide +kernel, by decide +kernel, by decide +kernel⟩
theorem zCd_X12_has : zCd yX12_has cX12_has 5 (some .boolean) 2 := ⟨zwm_23 _ (List.mem_of_getElem? (i := 10) rfl), by decide +kernel, by decide +kernel, by decide +kernel⟩
theorem zCd_X12_law : zCd yX12_law cX12_law 3 (some .int) 2 := ⟨zwm_23 _ (List.mem_of_getElem? (i := 14) rfl), by decide +kernel, by decide +kernel, by decide +kernel⟩
theorem zCd_X12_lawPlace : zCd yX12_lawPlace cX12_lawPlace 7 (some .int) 2 := ⟨zwm_23 _ (List.mem_of_getElem? (i := 18) rfl), by decide +kernel, by decide +kernel, by decide +kernel⟩
theorem zCd_X12_numberOf : zCd yX12_numberOf cX12_numberOf 2 (some .long) 2 := ⟨zwm_23 _ (List.mem_of_getElem? (i := 21) rfl), by decide +kernel, by decide +kernel, by decide +kernel⟩
theorem zCd_X12_doubled : zCd yX12_doubled cX12_doubled 7 (some .int) 1 := ⟨zwm_23 _ (List.mem_of_getElem? (i := 25) rfl), by decide +kernel, by decide +kernel, by decide +kernel⟩
theorem zCd_X12_count : zCd yX12_count cX12_count 4 (some .int) 1 := ⟨zwm_23 _ (List.mem_of_getElem? (i := 29) rfl), by decide +kernel, by decide +kernel, by decide +kernel⟩
theorem zCd_X12_digest : zCd yX12_digest cX12_digest 5 (some .long) 0 := ⟨zwm_23 _ (List.mem_of_getElem? (i := 33) rfl), by decide +kernel, by decide +kernel, by decide +kernel⟩
theorem zl_L_9 : Cond.methodLink RL 9 yX11_init ∈ zT := zwm_1 _ (List.mem_of_getElem? (i := 8) rfl)
theorem zLI_L_9 : zLI RL 9 yX11_init := ⟨zl_L_9, zinst_X11_init, zini_X11⟩
theorem zl_X11_9 : Cond.methodLink RX11 9 yX2_init ∈ zT := zwm_1 _ (List.mem_of_getElem? (i := 16) rfl)
theorem zLI_X11_9 : zLI RX11 9 yX2_init := ⟨zl_X11_9, zinst_X2_init, zini_X2⟩
theorem zl_X2_29 : Cond.methodLink RX2 29 yX2_addGrowth ∈ zT := zwm_1 _ (List.mem_of_getElem? (i := 32) rfl)
theorem zLV_X2_29 : zLV RX2 29 yX2_addGrowth := ⟨zl_X2_29, zinst_X2_addGrowth, zsel_X2_addGrowth, zini_X2⟩
theorem zl_X2_44 : Cond.methodLink RX2 44 yX10_put ∈ zT := zwm_1 _ (List.mem_of_getElem? (i := 37) rfl)
theorem zLV_X2_44 : zLV RX2 44 yX10_put := ⟨zl_X2_44, zinst_X10_put, zsel_X10_put, zini_X10⟩
theorem zl_X2_48 : Cond.methodLink RX2 48 yX10_shrink ∈ zT := zwm_2 _ (List.mem_of_getElem? (i := 1) rfl)
theorem zLV_X2_48 : zLV RX2 48 yX10_shrink := ⟨zl_X2_48, zinst_X10_shrink, zsel_X10_shrink, zini_X10⟩
theorem zl_X2_52 : Cond.methodLink RX2 52 yX10_isZero ∈ zT := zwm_2 _ (List.mem_of_getElem? (i := 6) rfl)
theorem zLV_X2_52 : zLV RX2 52 yX10_isZero := ⟨zl_X2_52, zinst_X10_isZero, zsel_X10_isZero, zini_X10⟩
theorem zl_X2_56 : Cond.methodLink RX2 56 yX10_addPart ∈ zT := zwm_2 _ (List.mem_of_getElem? (i := 10) rfl)
theorem zLV_X2_56 : zLV RX2 56 yX10_addPart := ⟨zl_X2_56, zinst_X10_addPart, zsel_X10_addPart, zini_X10⟩
theorem zl_X0_13 : Cond.methodLink RX0 13 yX6_init ∈ zT := zwm_3 _ (List.mem_of_getElem? (i := 4) rfl)
theorem zLI_X0_13 : zLI RX0 13 yX6_init := ⟨zl_X0_13, zinst_X6_init, zini_X6⟩
theorem zl_X6_15 : Cond.methodLink RX6 15 yJ9_max_7cf53 ∈ zT := zwm_3 _ (List.mem_of_getElem? (i := 8) rfl)
theorem zLS_X6_15 : zLS RX6 15 yJ9_max_7cf53 := ⟨zl_X6_15, zstat_J9_max_7cf53, zini_J9⟩
theorem zl_X9_13 : Cond.methodLink RX9 13 yX6_init ∈ zT := zwm_5 _ (List.mem_of_getElem? (i := 30) rfl)
theorem zLI_X9_13 : zLI RX9 13 yX6_init := ⟨zl_X9_13, zinst_X6_init, zini_X6⟩
theorem zl_L_13 : Cond.methodLink RL 13 yX11_rule ∈ zT := zwm_6 _ (List.mem_of_getElem? (i := 18) rfl)
theorem zLV_L_13 : zLV RL 13 yX11_rule := ⟨zl_L_13, zinst_X11_rule, zsel_X11_rule, zini_X11⟩
theorem zl_L_18 : Cond.methodLink RL 18 yX11_scale ∈ zT := zwm_6 _ (List.mem_of_getElem? (i := 23) rfl)
theorem zLV_L_18 : zLV RL 18 yX11_scale := ⟨zl_L_18, zinst_X11_scale, zsel_X11_scale, zini_X11⟩
theorem zl_X11_82 : Cond.methodLink RX11 82 yX7_init ∈ zT := zwm_6 _ (List.mem_of_getElem? (i := 28) rfl)
theorem zLI_X11_82 : zLI RX11 82 yX7_init := ⟨zl_X11_82, zinst_X7_init, zini_X7⟩
theorem zl_X7_13 : Cond.methodLink RX7 13 yX6_init ∈ zT := zwm_6 _ (List.mem_of_getElem? (i := 33) rfl)
theorem zLI_X7_13 : zLI RX7 13 yX6_init := ⟨zl_X7_13, zinst_X6_init, zini_X6⟩
theorem zl_L_23 : Cond.methodLink RL 23 yX11_place ∈ zT := zwm_7 _ (List.mem_of_getElem? (i := 22) rfl)
theorem zLV_L_23 : zLV RL 23 yX11_place := ⟨zl_L_23, zinst_X11_place, zsel_X11_place, zini_X11⟩
theorem zl_X11_85 : Cond.methodLink RX11 85 yX11_scaleAt ∈ zT := zwm_7 _ (List.mem_of_getElem? (i := 26) rfl)
theorem zLV_X11_85 : zLV RX11 85 yX11_scaleAt := ⟨zl_X11_85, zinst_X11_scaleAt, zsel_X11_scaleAt, zini_X11⟩
theorem zl_X11_89 : Cond.methodLink RX11 89 yX11_isNumber ∈ zT := zwm_7 _ (List.mem_of_getElem? (i := 29) rfl)
theorem zLS_X11_89 : zLS RX11 89 yX11_isNumber := ⟨zl_X11_89, zstat_X11_isNumber, zini_X11⟩
theorem zl_X11_94 : Cond.methodLink RX11 94 yX7_placeOf ∈ zT := zwm_7 _ (List.mem_of_getElem? (i := 34) rfl)
theorem zLV_X11_94 : zLV RX11 94 yX7_placeOf := ⟨zl_X11_94, zinst_X7_placeOf, zsel_X7_placeOf, zini_X7⟩
theorem zl_X7_56 : Cond.methodLink RX7 56 yX2_placeOf ∈ zT := zwm_7 _ (List.mem_of_getElem? (i := 38) rfl)
theorem zLV_X7_56 : zLV RX7 56 yX2_placeOf := ⟨zl_X7_56, zinst_X2_placeOf, zsel_X2_placeOf, zini_X2⟩
theorem zl_X2_60 : Cond.methodLink RX2 60 yX2_putLog ∈ zT := zwm_8 _ (List.mem_of_getElem? (i := 2) rfl)
theorem zLV_X2_60 : zLV RX2 60 yX2_putLog := ⟨zl_X2_60, zinst_X2_putLog, zsel_X2_putLog, zini_X2⟩
theorem zl_X2_63 : Cond.methodLink RX2 63 yX10_subtract ∈ zT := zwm_8 _ (List.mem_of_getElem? (i := 5) rfl)
theorem zLV_X2_63 : zLV RX2 63 yX10_subtract := ⟨zl_X2_63, zinst_X10_subtract, zsel_X10_subtract, zini_X10⟩
theorem zl_X2_67 : Cond.methodLink RX2 67 yX10_floorTimes ∈ zT := zwm_8 _ (List.mem_of_getElem? (i := 9) rfl)
theorem zLV_X2_67 : zLV RX2 67 yX10_floorTimes := ⟨zl_X2_67, zinst_X10_floorTimes, zsel_X10_floorTimes, zini_X10⟩
theorem zl_X2_73 : Cond.methodLink RX2 73 yJ9_floorDiv_f86c9 ∈ zT := zwm_8 _ (List.mem_of_getElem? (i := 14) rfl)
theorem zLS_X2_73 : zLS RX2 73 yJ9_floorDiv_f86c9 := ⟨zl_X2_73, zstat_J9_floorDiv_f86c9, zini_J9⟩
theorem zl_L_28 : Cond.methodLink RL 28 yX11_span ∈ zT := zwm_8 _ (List.mem_of_getElem? (i := 17) rfl)
theorem zLV_L_28 : zLV RL 28 yX11_span := ⟨zl_L_28, zinst_X11_span, zsel_X11_span, zini_X11⟩
theorem zl_X11_98 : Cond.methodLink RX11 98 yX7_lastTo ∈ zT := zwm_8 _ (List.mem_of_getElem? (i := 21) rfl)
theorem zLV_X11_98 : zLV RX11 98 yX7_lastTo := ⟨zl_X11_98, zinst_X7_lastTo, zsel_X7_lastTo, zini_X7⟩
theorem zl_X11_102 : Cond.methodLink RX11 102 yX7_hasRoomFor ∈ zT := zwm_8 _ (List.mem_of_getElem? (i := 25) rfl)
theorem zLV_X11_102 : zLV RX11 102 yX7_hasRoomFor := ⟨zl_X11_102, zinst_X7_hasRoomFor, zsel_X7_hasRoomFor, zini_X7⟩
theorem zl_X11_105 : Cond.methodLink RX11 105 yX7_addSpan ∈ zT := zwm_8 _ (List.mem_of_getElem? (i := 29) rfl)
theorem zLV_X11_105 : zLV RX11 105 yX7_addSpan := ⟨zl_X11_105, zinst_X7_addSpan, zsel_X7_addSpan, zini_X7⟩
theorem zl_X7_65 : Cond.methodLink RX7 65 yX6_isFull ∈ zT := zwm_8 _ (List.mem_of_getElem? (i := 33) rfl)
theorem zLV_X7_65 : zLV RX7 65 yX6_isFull := ⟨zl_X7_65, zinst_X6_isFull, zsel_X6_isFull, zini_X6⟩
theorem zl_X7_69 : Cond.methodLink RX7 69 yX6_append ∈ zT := zwm_8 _ (List.mem_of_getElem? (i := 37) rfl)
theorem zLV_X7_69 : zLV RX7 69 yX6_append := ⟨zl_X7_69, zinst_X6_append, zsel_X6_append, zini_X6⟩
theorem zl_X6_25 : Cond.methodLink RX6 25 yX6_isFull ∈ zT := zwm_9 _ (List.mem_of_getElem? (i := 1) rfl)
theorem zLV_X6_25 : zLV RX6 25 yX6_isFull := ⟨zl_X6_25, zinst_X6_isFull, zsel_X6_isFull, zini_X6⟩
theorem zl_L_33 : Cond.methodLink RL 33 yX11_mark ∈ zT := zwm_9 _ (List.mem_of_getElem? (i := 2) rfl)
theorem zLV_L_33 : zLV RL 33 yX11_mark := ⟨zl_L_33, zinst_X11_mark, zsel_X11_mark, zini_X11⟩
theorem zl_X11_109 : Cond.methodLink RX11 109 yX7_numberAt ∈ zT := zwm_9 _ (List.mem_of_getElem? (i := 6) rfl)
theorem zLV_X11_109 : zLV RX11 109 yX7_numberAt := ⟨zl_X11_109, zinst_X7_numberAt, zsel_X7_numberAt, zini_X7⟩
theorem zl_L_37 : Cond.methodLink RL 37 yX11_marks ∈ zT := zwm_9 _ (List.mem_of_getElem? (i := 10) rfl)
theorem zLV_L_37 : zLV RL 37 yX11_marks := ⟨zl_L_37, zinst_X11_marks, zsel_X11_marks, zini_X11⟩
theorem zl_L_41 : Cond.methodLink RL 41 yX11_closest ∈ zT := zwm_9 _ (List.mem_of_getElem? (i := 14) rfl)
theorem zLV_L_41 : zLV RL 41 yX11_closest := ⟨zl_L_41, zinst_X11_closest, zsel_X11_closest, zini_X11⟩
theorem zl_X11_122 : Cond.methodLink RX11 122 yX7_placeMarks ∈ zT := zwm_9 _ (List.mem_of_getElem? (i := 18) rfl)
theorem zLV_X11_122 : zLV RX11 122 yX7_placeMarks := ⟨zl_X11_122, zinst_X7_placeMarks, zsel_X7_placeMarks, zini_X7⟩
theorem zl_X7_76 : Cond.methodLink RX7 76 yX7_placeOf ∈ zT := zwm_9 _ (List.mem_of_getElem? (i := 22) rfl)
theorem zLV_X7_76 : zLV RX7 76 yX7_placeOf := ⟨zl_X7_76, zinst_X7_placeOf, zsel_X7_placeOf, zini_X7⟩
theorem zl_X11_126 : Cond.methodLink RX11 126 yX7_firstOfClosest ∈ zT := zwm_9 _ (List.mem_of_getElem? (i := 23) rfl)
theorem zLV_X11_126 : zLV RX11 126 yX7_firstOfClosest := ⟨zl_X11_126, zinst_X7_firstOfClosest, zsel_X7_firstOfClosest, zini_X7⟩
theorem zl_X7_84 : Cond.methodLink RX7 84 yX7_gapBehind ∈ zT := zwm_9 _ (List.mem_of_getElem? (i := 27) rfl)
theorem zLV_X7_84 : zLV RX7 84 yX7_gapBehind := ⟨zl_X7_84, zinst_X7_gapBehind, zsel_X7_gapBehind, zini_X7⟩
theorem zl_X7_79 : Cond.methodLink RX7 79 yJ9_abs_0f7a4 ∈ zT := zwm_9 _ (List.mem_of_getElem? (i := 31) rfl)
theorem zLS_X7_79 : zLS RX7 79 yJ9_abs_0f7a4 := ⟨zl_X7_79, zstat_J9_abs_0f7a4, zini_J9⟩
theorem zl_X11_129 : Cond.methodLink RX11 129 yX7_gapBehind ∈ zT := zwm_9 _ (List.mem_of_getElem? (i := 34) rfl)
theorem zLV_X11_129 : zLV RX11 129 yX7_gapBehind := ⟨zl_X11_129, zinst_X7_gapBehind, zsel_X7_gapBehind, zini_X7⟩
theorem zl_L_45 : Cond.methodLink RL 45 yX11_off ∈ zT := zwm_9 _ (List.mem_of_getElem? (i := 35) rfl)
theorem zLV_L_45 : zLV RL 45 yX11_off := ⟨zl_L_45, zinst_X11_off, zsel_X11_off, zini_X11⟩
theorem zl_L_49 : Cond.methodLink RL 49 yX11_set ∈ zT := zwm_10 _ (List.mem_of_getElem? (i := 1) rfl)
theorem zLV_L_49 : zLV RL 49 yX11_set := ⟨zl_L_49, zinst_X11_set, zsel_X11_set, zini_X11⟩
theorem zl_L_53 : Cond.methodLink RL 53 yX11_against ∈ zT := zwm_10 _ (List.mem_of_getElem? (i := 5) rfl)
theorem zLV_L_53 : zLV RL 53 yX11_against := ⟨zl_L_53, zinst_X11_against, zsel_X11_against, zini_X11⟩
theorem zl_L_58 : Cond.methodLink RL 58 yX11_nearest ∈ zT := zwm_10 _ (List.mem_of_getElem? (i := 9) rfl)
theorem zLV_L_58 : zLV RL 58 yX11_nearest := ⟨zl_L_58, zinst_X11_nearest, zsel_X11_nearest, zini_X11⟩
theorem zl_X11_138 : Cond.methodLink RX11 138 yX11_isAskedPlace ∈ zT := zwm_10 _ (List.mem_of_getElem? (i := 13) rfl)
theorem zLS_X11_138 : zLS RX11 138 yX11_isAskedPlace := ⟨zl_X11_138, zstat_X11_isAskedPlace, zini_X11⟩
theorem zl_X11_141 : Cond.methodLink RX11 141 yX7_nearestTo ∈ zT := zwm_10 _ (List.mem_of_getElem? (i := 18) rfl)
theorem zLV_X11_141 : zLV RX11 141 yX7_nearestTo := ⟨zl_X11_141, zinst_X7_nearestTo, zsel_X7_nearestTo, zini_X7⟩
theorem zl_X7_87 : Cond.methodLink RX7 87 yX7_numberAt ∈ zT := zwm_10 _ (List.mem_of_getElem? (i := 22) rfl)
theorem zLV_X7_87 : zLV RX7 87 yX7_numberAt := ⟨zl_X7_87, zinst_X7_numberAt, zsel_X7_numberAt, zini_X7⟩
theorem zl_L_62 : Cond.methodLink RL 62 yX11_between ∈ zT := zwm_10 _ (List.mem_of_getElem? (i := 23) rfl)
theorem zLV_L_62 : zLV RL 62 yX11_between := ⟨zl_L_62, zinst_X11_between, zsel_X11_between, zini_X11⟩
theorem zl_X11_144 : Cond.methodLink RX11 144 yX7_readBetween ∈ zT := zwm_10 _ (List.mem_of_getElem? (i := 27) rfl)
theorem zLV_X11_144 : zLV RX11 144 yX7_readBetween := ⟨zl_X11_144, zinst_X7_readBetween, zsel_X7_readBetween, zini_X7⟩
theorem zl_X7_90 : Cond.methodLink RX7 90 yJ9_min_7cf53 ∈ zT := zwm_10 _ (List.mem_of_getElem? (i := 31) rfl)
theorem zLS_X7_90 : zLS RX7 90 yJ9_min_7cf53 := ⟨zl_X7_90, zstat_J9_min_7cf53, zini_J9⟩
theorem zl_X7_94 : Cond.methodLink RX7 94 yJ9_max_7cf53 ∈ zT := zwm_10 _ (List.mem_of_getElem? (i := 34) rfl)
theorem zLS_X7_94 : zLS RX7 94 yJ9_max_7cf53 := ⟨zl_X7_94, zstat_J9_max_7cf53, zini_J9⟩
theorem zl_L_66 : Cond.methodLink RL 66 yX11_factor ∈ zT := zwm_10 _ (List.mem_of_getElem? (i := 35) rfl)
theorem zLV_L_66 : zLV RL 66 yX11_factor := ⟨zl_L_66, zinst_X11_factor, zsel_X11_factor, zini_X11⟩
theorem zl_X11_147 : Cond.methodLink RX11 147 yX11_isFactor ∈ zT := zwm_10 _ (List.mem_of_getElem? (i := 39) rfl)
theorem zLS_X11_147 : zLS RX11 147 yX11_isFactor := ⟨zl_X11_147, zstat_X11_isFactor, zini_X11⟩
theorem zl_X11_153 : Cond.methodLink RX11 153 yX6_isFull ∈ zT := zwm_11 _ (List.mem_of_getElem? (i := 2) rfl)
theorem zLV_X11_153 : zLV RX11 153 yX6_isFull := ⟨zl_X11_153, zinst_X6_isFull, zsel_X6_isFull, zini_X6⟩
theorem zl_X11_157 : Cond.methodLink RX11 157 yX6_append ∈ zT := zwm_11 _ (List.mem_of_getElem? (i := 3) rfl)
theorem zLV_X11_157 : zLV RX11 157 yX6_append := ⟨zl_X11_157, zinst_X6_append, zsel_X6_append, zini_X6⟩
theorem zl_L_70 : Cond.methodLink RL 70 yX11_clear ∈ zT := zwm_11 _ (List.mem_of_getElem? (i := 4) rfl)
theorem zLV_L_70 : zLV RL 70 yX11_clear := ⟨zl_L_70, zinst_X11_clear, zsel_X11_clear, zini_X11⟩
theorem zl_X11_160 : Cond.methodLink RX11 160 yX6_empty ∈ zT := zwm_11 _ (List.mem_of_getElem? (i := 8) rfl)
theorem zLV_X11_160 : zLV RX11 160 yX6_empty := ⟨zl_X11_160, zinst_X6_empty, zsel_X6_empty, zini_X6⟩
theorem zl_L_75 : Cond.methodLink RL 75 yX11_chain ∈ zT := zwm_11 _ (List.mem_of_getElem? (i := 12) rfl)
theorem zLV_L_75 : zLV RL 75 yX11_chain := ⟨zl_L_75, zinst_X11_chain, zsel_X11_chain, zini_X11⟩
theorem zl_X11_163 : Cond.methodLink RX11 163 yX5_cutFor ∈ zT := zwm_11 _ (List.mem_of_getElem? (i := 16) rfl)
theorem zLV_X11_163 : zLV RX11 163 yX5_cutFor := ⟨zl_X11_163, zinst_X5_cutFor, zsel_X5_cutFor, zini_X5⟩
theorem zl_X5_19 : Cond.methodLink RX5 19 yX2_placeOf ∈ zT := zwm_11 _ (List.mem_of_getElem? (i := 20) rfl)
theorem zLV_X5_19 : zLV RX5 19 yX2_placeOf := ⟨zl_X5_19, zinst_X2_placeOf, zsel_X2_placeOf, zini_X2⟩
theorem zl_X11_166 : Cond.methodLink RX11 166 yX0_walk ∈ zT := zwm_11 _ (List.mem_of_getElem? (i := 21) rfl)
theorem zLV_X11_166 : zLV RX11 166 yX0_walk := ⟨zl_X11_166, zinst_X0_walk, zsel_X0_walk, zini_X0⟩
theorem zl_X0_40 : Cond.methodLink RX0 40 yX0_begin ∈ zT := zwm_11 _ (List.mem_of_getElem? (i := 25) rfl)
theorem zLV_X0_40 : zLV RX0 40 yX0_begin := ⟨zl_X0_40, zinst_X0_begin, zsel_X0_begin, zini_X0⟩
theorem zl_X0_50 : Cond.methodLink RX0 50 yX0_move ∈ zT := zwm_11 _ (List.mem_of_getElem? (i := 29) rfl)
theorem zLV_X0_50 : zLV RX0 50 yX0_move := ⟨zl_X0_50, zinst_X0_move, zsel_X0_move, zini_X0⟩
theorem zl_X0_31 : Cond.methodLink RX0 31 yX5_placeOf ∈ zT := zwm_11 _ (List.mem_of_getElem? (i := 33) rfl)
theorem zLV_X0_31 : zLV RX0 31 yX5_placeOf := ⟨zl_X0_31, zinst_X5_placeOf, zsel_X5_placeOf, zini_X5⟩
theorem zl_X11_173 : Cond.methodLink RX11 173 yX5_readingOf ∈ zT := zwm_11 _ (List.mem_of_getElem? (i := 37) rfl)
theorem zLV_X11_173 : zLV RX11 173 yX5_readingOf := ⟨zl_X11_173, zinst_X5_readingOf, zsel_X5_readingOf, zini_X5⟩
theorem zl_X5_29 : Cond.methodLink RX5 29 yX5_firstFrom ∈ zT := zwm_12 _ (List.mem_of_getElem? (i := 1) rfl)
theorem zLV_X5_29 : zLV RX5 29 yX5_firstFrom := ⟨zl_X5_29, zinst_X5_firstFrom, zsel_X5_firstFrom, zini_X5⟩
theorem zl_X11_176 : Cond.methodLink RX11 176 yX0_truth ∈ zT := zwm_12 _ (List.mem_of_getElem? (i := 4) rfl)
theorem zLV_X11_176 : zLV RX11 176 yX0_truth := ⟨zl_X11_176, zinst_X0_truth, zsel_X0_truth, zini_X0⟩
theorem zl_X0_54 : Cond.methodLink RX0 54 yX0_multiplyOut ∈ zT := zwm_12 _ (List.mem_of_getElem? (i := 8) rfl)
theorem zLV_X0_54 : zLV RX0 54 yX0_multiplyOut := ⟨zl_X0_54, zinst_X0_multiplyOut, zsel_X0_multiplyOut, zini_X0⟩
theorem zl_X0_59 : Cond.methodLink RX0 59 yX0_firstThree ∈ zT := zwm_12 _ (List.mem_of_getElem? (i := 12) rfl)
theorem zLS_X0_59 : zLS RX0 59 yX0_firstThree := ⟨zl_X0_59, zstat_X0_firstThree, zini_X0⟩
theorem zl_L_79 : Cond.methodLink RL 79 yX11_pairs ∈ zT := zwm_12 _ (List.mem_of_getElem? (i := 17) rfl)
theorem zLV_L_79 : zLV RL 79 yX11_pairs := ⟨zl_L_79, zinst_X11_pairs, zsel_X11_pairs, zini_X11⟩
theorem zl_X11_182 : Cond.methodLink RX11 182 yX4_sumUp ∈ zT := zwm_12 _ (List.mem_of_getElem? (i := 21) rfl)
theorem zLV_X11_182 : zLV RX11 182 yX4_sumUp := ⟨zl_X11_182, zinst_X4_sumUp, zsel_X4_sumUp, zini_X4⟩
theorem zl_X4_52 : Cond.methodLink RX4 52 yX4_take ∈ zT := zwm_12 _ (List.mem_of_getElem? (i := 25) rfl)
theorem zLV_X4_52 : zLV RX4 52 yX4_take := ⟨zl_X4_52, zinst_X4_take, zsel_X4_take, zini_X4⟩
theorem zl_X4_56 : Cond.methodLink RX4 56 yX0_begin ∈ zT := zwm_12 _ (List.mem_of_getElem? (i := 28) rfl)
theorem zLV_X4_56 : zLV RX4 56 yX0_begin := ⟨zl_X4_56, zinst_X0_begin, zsel_X0_begin, zini_X0⟩
theorem zl_X4_59 : Cond.methodLink RX4 59 yX0_move ∈ zT := zwm_12 _ (List.mem_of_getElem? (i := 29) rfl)
theorem zLV_X4_59 : zLV RX4 59 yX0_move := ⟨zl_X4_59, zinst_X0_move, zsel_X0_move, zini_X0⟩
theorem zl_X4_66 : Cond.methodLink RX4 66 yX5_readingOf ∈ zT := zwm_12 _ (List.mem_of_getElem? (i := 30) rfl)
theorem zLV_X4_66 : zLV RX4 66 yX5_readingOf := ⟨zl_X4_66, zinst_X5_readingOf, zsel_X5_readingOf, zini_X5⟩
theorem zl_X4_70 : Cond.methodLink RX4 70 yX0_firstThree ∈ zT := zwm_12 _ (List.mem_of_getElem? (i := 31) rfl)
theorem zLS_X4_70 : zLS RX4 70 yX0_firstThree := ⟨zl_X4_70, zstat_X0_firstThree, zini_X0⟩
theorem zl_X4_74 : Cond.methodLink RX4 74 yJ9_abs_0f7a4 ∈ zT := zwm_12 _ (List.mem_of_getElem? (i := 32) rfl)
theorem zLS_X4_74 : zLS RX4 74 yJ9_abs_0f7a4 := ⟨zl_X4_74, zstat_J9_abs_0f7a4, zini_J9⟩
theorem zl_L_83 : Cond.methodLink RL 83 yX11_fewest ∈ zT := zwm_12 _ (List.mem_of_getElem? (i := 33) rfl)
theorem zLV_L_83 : zLV RL 83 yX11_fewest := ⟨zl_L_83, zinst_X11_fewest, zsel_X11_fewest, zini_X11⟩
theorem zl_X11_202 : Cond.methodLink RX11 202 yX11_isPower ∈ zT := zwm_12 _ (List.mem_of_getElem? (i := 37) rfl)
theorem zLS_X11_202 : zLS RX11 202 yX11_isPower := ⟨zl_X11_202, zstat_X11_isPower, zini_X11⟩
theorem zl_X11_205 : Cond.methodLink RX11 205 yX11_aimSettings ∈ zT := zwm_13 _ (List.mem_of_getElem? (i := 0) rfl)
theorem zLV_X11_205 : zLV RX11 205 yX11_aimSettings := ⟨zl_X11_205, zinst_X11_aimSettings, zsel_X11_aimSettings, zini_X11⟩
theorem zl_X11_264 : Cond.methodLink RX11 264 yX8_forgetParts ∈ zT := zwm_13 _ (List.mem_of_getElem? (i := 3) rfl)
theorem zLV_X11_264 : zLV RX11 264 yX8_forgetParts := ⟨zl_X11_264, zinst_X8_forgetParts, zsel_X8_forgetParts, zini_X8⟩
theorem zl_X11_273 : Cond.methodLink RX11 273 yX8_allow ∈ zT := zwm_13 _ (List.mem_of_getElem? (i := 7) rfl)
theorem zLV_X11_273 : zLV RX11 273 yX8_allow := ⟨zl_X11_273, zinst_X8_allow, zsel_X8_allow, zini_X8⟩
theorem zl_X11_277 : Cond.methodLink RX11 277 yX8_aimAt ∈ zT := zwm_13 _ (List.mem_of_getElem? (i := 11) rfl)
theorem zLV_X11_277 : zLV RX11 277 yX8_aimAt := ⟨zl_X11_277, zinst_X8_aimAt, zsel_X8_aimAt, zini_X8⟩
theorem zl_X8_27 : Cond.methodLink RX8 27 yX8_measure ∈ zT := zwm_13 _ (List.mem_of_getElem? (i := 15) rfl)
theorem zLV_X8_27 : zLV RX8 27 yX8_measure := ⟨zl_X8_27, zinst_X8_measure, zsel_X8_measure, zini_X8⟩
theorem zl_X8_31 : Cond.methodLink RX8 31 yX8_reachBack ∈ zT := zwm_13 _ (List.mem_of_getElem? (i := 18) rfl)
theorem zLV_X8_31 : zLV RX8 31 yX8_reachBack := ⟨zl_X8_31, zinst_X8_reachBack, zsel_X8_reachBack, zini_X8⟩
theorem zl_X11_208 : Cond.methodLink RX11 208 yX8_fewestToGoal ∈ zT := zwm_13 _ (List.mem_of_getElem? (i := 21) rfl)
theorem zLV_X11_208 : zLV RX11 208 yX8_fewestToGoal := ⟨zl_X11_208, zinst_X8_fewestToGoal, zsel_X8_fewestToGoal, zini_X8⟩
theorem zl_L_87 : Cond.methodLink RL 87 yX11_setting ∈ zT := zwm_13 _ (List.mem_of_getElem? (i := 25) rfl)
theorem zLV_L_87 : zLV RL 87 yX11_setting := ⟨zl_L_87, zinst_X11_setting, zsel_X11_setting, zini_X11⟩
theorem zl_X11_211 : Cond.methodLink RX11 211 yX8_codeAt ∈ zT := zwm_13 _ (List.mem_of_getElem? (i := 29) rfl)
theorem zLV_X11_211 : zLV RX11 211 yX8_codeAt := ⟨zl_X11_211, zinst_X8_codeAt, zsel_X8_codeAt, zini_X8⟩
theorem zl_X8_34 : Cond.methodLink RX8 34 yX8_fewestToGoal ∈ zT := zwm_13 _ (List.mem_of_getElem? (i := 33) rfl)
theorem zLV_X8_34 : zLV RX8 34 yX8_fewestToGoal := ⟨zl_X8_34, zinst_X8_fewestToGoal, zsel_X8_fewestToGoal, zini_X8⟩
theorem zl_X8_38 : Cond.methodLink RX8 38 yX8_makeFirst ∈ zT := zwm_13 _ (List.mem_of_getElem? (i := 34) rfl)
theorem zLV_X8_38 : zLV RX8 38 yX8_makeFirst := ⟨zl_X8_38, zinst_X8_makeFirst, zsel_X8_makeFirst, zini_X8⟩
theorem zl_X8_41 : Cond.methodLink RX8 41 yX8_isNearer ∈ zT := zwm_13 _ (List.mem_of_getElem? (i := 37) rfl)
theorem zLV_X8_41 : zLV RX8 41 yX8_isNearer := ⟨zl_X8_41, zinst_X8_isNearer, zsel_X8_isNearer, zini_X8⟩
theorem zl_L_91 : Cond.methodLink RL 91 yX11_cut ∈ zT := zwm_14 _ (List.mem_of_getElem? (i := 0) rfl)
theorem zLV_L_91 : zLV RL 91 yX11_cut := ⟨zl_L_91, zinst_X11_cut, zsel_X11_cut, zini_X11⟩
theorem zl_X11_214 : Cond.methodLink RX11 214 yX11_isStrip ∈ zT := zwm_14 _ (List.mem_of_getElem? (i := 4) rfl)
theorem zLS_X11_214 : zLS RX11 214 yX11_isStrip := ⟨zl_X11_214, zstat_X11_isStrip, zini_X11⟩
theorem zl_X11_221 : Cond.methodLink RX11 221 yX6_last ∈ zT := zwm_14 _ (List.mem_of_getElem? (i := 7) rfl)
theorem zLV_X11_221 : zLV RX11 221 yX6_last := ⟨zl_X11_221, zinst_X6_last, zsel_X6_last, zini_X6⟩
theorem zl_L_95 : Cond.methodLink RL 95 yX11_wipe ∈ zT := zwm_14 _ (List.mem_of_getElem? (i := 11) rfl)
theorem zLV_L_95 : zLV RL 95 yX11_wipe := ⟨zl_L_95, zinst_X11_wipe, zsel_X11_wipe, zini_X11⟩
theorem zl_L_99 : Cond.methodLink RL 99 yX11_chosen ∈ zT := zwm_14 _ (List.mem_of_getElem? (i := 15) rfl)
theorem zLV_L_99 : zLV RL 99 yX11_chosen := ⟨zl_L_99, zinst_X11_chosen, zsel_X11_chosen, zini_X11⟩
theorem zl_X11_225 : Cond.methodLink RX11 225 yX9_choose ∈ zT := zwm_14 _ (List.mem_of_getElem? (i := 19) rfl)
theorem zLV_X11_225 : zLV RX11 225 yX9_choose := ⟨zl_X11_225, zinst_X9_choose, zsel_X9_choose, zini_X9⟩
theorem zl_L_103 : Cond.methodLink RL 103 yX11_match ∈ zT := zwm_14 _ (List.mem_of_getElem? (i := 23) rfl)
theorem zLV_L_103 : zLV RL 103 yX11_match := ⟨zl_L_103, zinst_X11_match, zsel_X11_match, zini_X11⟩
theorem zl_X11_229 : Cond.methodLink RX11 229 yX3_find ∈ zT := zwm_14 _ (List.mem_of_getElem? (i := 27) rfl)
theorem zLV_X11_229 : zLV RX11 229 yX3_find := ⟨zl_X11_229, zinst_X3_find, zsel_X3_find, zini_X3⟩
theorem zl_X3_21 : Cond.methodLink RX3 21 yJ9_min_7cf53 ∈ zT := zwm_14 _ (List.mem_of_getElem? (i := 31) rfl)
theorem zLS_X3_21 : zLS RX3 21 yJ9_min_7cf53 := ⟨zl_X3_21, zstat_J9_min_7cf53, zini_J9⟩
theorem zl_X3_31 : Cond.methodLink RX3 31 yX3_alike ∈ zT := zwm_14 _ (List.mem_of_getElem? (i := 32) rfl)
theorem zLS_X3_31 : zLS RX3 31 yX3_alike := ⟨zl_X3_31, zstat_X3_alike, zini_X3⟩
theorem zl_X3_35 : Cond.methodLink RX3 35 yX3_weigh ∈ zT := zwm_14 _ (List.mem_of_getElem? (i := 35) rfl)
theorem zLV_X3_35 : zLV RX3 35 yX3_weigh := ⟨zl_X3_35, zinst_X3_weigh, zsel_X3_weigh, zini_X3⟩
theorem zl_X3_39 : Cond.methodLink RX3 39 yJ9_abs_0f7a4 ∈ zT := zwm_14 _ (List.mem_of_getElem? (i := 38) rfl)
theorem zLS_X3_39 : zLS RX3 39 yJ9_abs_0f7a4 := ⟨zl_X3_39, zstat_J9_abs_0f7a4, zini_J9⟩
theorem zl_L_107 : Cond.methodLink RL 107 yX11_law ∈ zT := zwm_14 _ (List.mem_of_getElem? (i := 39) rfl)
theorem zLV_L_107 : zLV RL 107 yX11_law := ⟨zl_L_107, zinst_X11_law, zsel_X11_law, zini_X11⟩
theorem zl_X11_237 : Cond.methodLink RX11 237 yX1_isLaw ∈ zT := zwm_15 _ (List.mem_of_getElem? (i := 3) rfl)
theorem zLS_X11_237 : zLS RX11 237 yX1_isLaw := ⟨zl_X11_237, zstat_X1_isLaw, zini_X1⟩
theorem zl_X11_240 : Cond.methodLink RX11 240 yX1_placeOf ∈ zT := zwm_15 _ (List.mem_of_getElem? (i := 6) rfl)
theorem zLS_X11_240 : zLS RX11 240 yX1_placeOf := ⟨zl_X11_240, zstat_X1_placeOf, zini_X1⟩
theorem zl_X1_16 : Cond.methodLink RX1 16 yX1_inOrder ∈ zT := zwm_15 _ (List.mem_of_getElem? (i := 9) rfl)
theorem zLS_X1_16 : zLS RX1 16 yX1_inOrder := ⟨zl_X1_16, zstat_X1_inOrder, zini_X1⟩
theorem zl_X1_20 : Cond.methodLink RX1 20 yX1_numberOf ∈ zT := zwm_15 _ (List.mem_of_getElem? (i := 12) rfl)
theorem zLS_X1_20 : zLS RX1 20 yX1_numberOf := ⟨zl_X1_20, zstat_X1_numberOf, zini_X1⟩
theorem zl_L_111 : Cond.methodLink RL 111 yX11_doubled ∈ zT := zwm_15 _ (List.mem_of_getElem? (i := 17) rfl)
theorem zLV_L_111 : zLV RL 111 yX11_doubled := ⟨zl_L_111, zinst_X11_doubled, zsel_X11_doubled, zini_X11⟩
theorem zl_X11_243 : Cond.methodLink RX11 243 yX1_doublesOf ∈ zT := zwm_15 _ (List.mem_of_getElem? (i := 21) rfl)
theorem zLV_X11_243 : zLV RX11 243 yX1_doublesOf := ⟨zl_X11_243, zinst_X1_doublesOf, zsel_X1_doublesOf, zini_X1⟩
theorem zl_X1_24 : Cond.methodLink RX1 24 yX1_placeOf ∈ zT := zwm_15 _ (List.mem_of_getElem? (i := 25) rfl)
theorem zLS_X1_24 : zLS RX1 24 yX1_placeOf := ⟨zl_X1_24, zstat_X1_placeOf, zini_X1⟩
theorem zl_X1_28 : Cond.methodLink RX1 28 yX1_doublesFrom ∈ zT := zwm_15 _ (List.mem_of_getElem? (i := 26) rfl)
theorem zLV_X1_28 : zLV RX1 28 yX1_doublesFrom := ⟨zl_X1_28, zinst_X1_doublesFrom, zsel_X1_doublesFrom, zini_X1⟩
theorem zl_L_115 : Cond.methodLink RL 115 yX11_count ∈ zT := zwm_15 _ (List.mem_of_getElem? (i := 29) rfl)
theorem zLV_L_115 : zLV RL 115 yX11_count := ⟨zl_L_115, zinst_X11_count, zsel_X11_count, zini_X11⟩
theorem zl_X11_246 : Cond.methodLink RX11 246 yX11_scalesOnSlide ∈ zT := zwm_15 _ (List.mem_of_getElem? (i := 33) rfl)
theorem zLV_X11_246 : zLV RX11 246 yX11_scalesOnSlide := ⟨zl_X11_246, zinst_X11_scalesOnSlide, zsel_X11_scalesOnSlide, zini_X11⟩
theorem zl_L_119 : Cond.methodLink RL 119 yX11_digest ∈ zT := zwm_15 _ (List.mem_of_getElem? (i := 36) rfl)
theorem zLV_L_119 : zLV RL 119 yX11_digest := ⟨zl_L_119, zinst_X11_digest, zsel_X11_digest, zini_X11⟩
theorem zl_X11_253 : Cond.methodLink RX11 253 yX11_count ∈ zT := zwm_16 _ (List.mem_of_getElem? (i := 2) rfl)
theorem zLV_X11_253 : zLV RX11 253 yX11_count := ⟨zl_X11_253, zinst_X11_count, zsel_X11_count, zini_X11⟩
theorem zl_X11_256 : Cond.methodLink RX11 256 yX7_digestOnto ∈ zT := zwm_16 _ (List.mem_of_getElem? (i := 3) rfl)
theorem zLV_X11_256 : zLV RX11 256 yX7_digestOnto := ⟨zl_X11_256, zinst_X7_digestOnto, zsel_X7_digestOnto, zini_X7⟩
theorem zl_X11_260 : Cond.methodLink RX11 260 yX11_place ∈ zT := zwm_16 _ (List.mem_of_getElem? (i := 8) rfl)
theorem zLV_X11_260 : zLV RX11 260 yX11_place := ⟨zl_X11_260, zinst_X11_place, zsel_X11_place, zini_X11⟩
theorem zl_X11_262 : Cond.methodLink RX11 262 yX6_digestOnto ∈ zT := zwm_16 _ (List.mem_of_getElem? (i := 9) rfl)
theorem zLV_X11_262 : zLV RX11 262 yX6_digestOnto := ⟨zl_X11_262, zinst_X6_digestOnto, zsel_X6_digestOnto, zini_X6⟩
theorem zl_L_12 : Cond.methodLink RL 12 yX12_init ∈ zT := zwm_16 _ (List.mem_of_getElem? (i := 16) rfl)
theorem zLI_L_12 : zLI RL 12 yX12_init := ⟨zl_L_12, zinst_X12_init, zini_X12⟩
theorem zl_X12_91 : Cond.methodLink RX12 91 yX12_natural ∈ zT := zwm_16 _ (List.mem_of_getElem? (i := 22) rfl)
theorem zLV_X12_91 : zLV RX12 91 yX12_natural := ⟨zl_X12_91, zinst_X12_natural, zsel_X12_natural, zini_X12⟩
theorem zl_X12_107 : Cond.methodLink RX12 107 yX12_sets ∈ zT := zwm_16 _ (List.mem_of_getElem? (i := 25) rfl)
theorem zLS_X12_107 : zLS RX12 107 yX12_sets := ⟨zl_X12_107, zstat_X12_sets, zini_X12⟩
theorem zl_X12_111 : Cond.methodLink RX12 111 yX12_divides ∈ zT := zwm_16 _ (List.mem_of_getElem? (i := 28) rfl)
theorem zLS_X12_111 : zLS RX12 111 yX12_divides := ⟨zl_X12_111, zstat_X12_divides, zini_X12⟩
theorem zl_X12_114 : Cond.methodLink RX12 114 yX12_isNought ∈ zT := zwm_16 _ (List.mem_of_getElem? (i := 32) rfl)
theorem zLS_X12_114 : zLS RX12 114 yX12_isNought := ⟨zl_X12_114, zstat_X12_isNought, zini_X12⟩
theorem zl_X12_118 : Cond.methodLink RX12 118 yX12_copies ∈ zT := zwm_16 _ (List.mem_of_getElem? (i := 35) rfl)
theorem zLS_X12_118 : zLS RX12 118 yX12_copies := ⟨zl_X12_118, zstat_X12_copies, zini_X12⟩
theorem zl_X12_99 : Cond.methodLink RX12 99 yX12_adds ∈ zT := zwm_16 _ (List.mem_of_getElem? (i := 38) rfl)
theorem zLS_X12_99 : zLS RX12 99 yX12_adds := ⟨zl_X12_99, zstat_X12_adds, zini_X12⟩
theorem zl_X12_121 : Cond.methodLink RX12 121 yX12_times ∈ zT := zwm_17 _ (List.mem_of_getElem? (i := 1) rfl)
theorem zLS_X12_121 : zLS RX12 121 yX12_times := ⟨zl_X12_121, zstat_X12_times, zini_X12⟩
theorem zl_L_17 : Cond.methodLink RL 17 yX12_rule ∈ zT := zwm_18 _ (List.mem_of_getElem? (i := 27) rfl)
theorem zLV_L_17 : zLV RL 17 yX12_rule := ⟨zl_L_17, zinst_X12_rule, zsel_X12_rule, zini_X12⟩
theorem zl_X12_163 : Cond.methodLink RX12 163 yX12_in ∈ zT := zwm_18 _ (List.mem_of_getElem? (i := 33) rfl)
theorem zLS_X12_163 : zLS RX12 163 yX12_in := ⟨zl_X12_163, zstat_X12_in, zini_X12⟩
theorem zl_L_22 : Cond.methodLink RL 22 yX12_scale ∈ zT := zwm_18 _ (List.mem_of_getElem? (i := 36) rfl)
theorem zLV_L_22 : zLV RL 22 yX12_scale := ⟨zl_L_22, zinst_X12_scale, zsel_X12_scale, zini_X12⟩
theorem zl_L_27 : Cond.methodLink RL 27 yX12_place ∈ zT := zwm_19 _ (List.mem_of_getElem? (i := 3) rfl)
theorem zLV_L_27 : zLV RL 27 yX12_place := ⟨zl_L_27, zinst_X12_place, zsel_X12_place, zini_X12⟩
theorem zl_X12_175 : Cond.methodLink RX12 175 yX12_isScale ∈ zT := zwm_19 _ (List.mem_of_getElem? (i := 7) rfl)
theorem zLV_X12_175 : zLV RX12 175 yX12_isScale := ⟨zl_X12_175, zinst_X12_isScale, zsel_X12_isScale, zini_X12⟩
theorem zl_X12_179 : Cond.methodLink RX12 179 yX12_isNumber ∈ zT := zwm_19 _ (List.mem_of_getElem? (i := 10) rfl)
theorem zLS_X12_179 : zLS RX12 179 yX12_isNumber := ⟨zl_X12_179, zstat_X12_isNumber, zini_X12⟩
theorem zl_X12_182 : Cond.methodLink RX12 182 yX12_placeOf ∈ zT := zwm_19 _ (List.mem_of_getElem? (i := 14) rfl)
theorem zLV_X12_182 : zLV RX12 182 yX12_placeOf := ⟨zl_X12_182, zinst_X12_placeOf, zsel_X12_placeOf, zini_X12⟩
theorem zl_X12_151 : Cond.methodLink RX12 151 yX12_nearestOf ∈ zT := zwm_19 _ (List.mem_of_getElem? (i := 19) rfl)
theorem zLV_X12_151 : zLV RX12 151 yX12_nearestOf := ⟨zl_X12_151, zinst_X12_nearestOf, zsel_X12_nearestOf, zini_X12⟩
theorem zl_X12_126 : Cond.methodLink RX12 126 yX12_tens ∈ zT := zwm_19 _ (List.mem_of_getElem? (i := 22) rfl)
theorem zLS_X12_126 : zLS RX12 126 yX12_tens := ⟨zl_X12_126, zstat_X12_tens, zini_X12⟩
theorem zl_X12_130 : Cond.methodLink RX12 130 yX12_down ∈ zT := zwm_19 _ (List.mem_of_getElem? (i := 25) rfl)
theorem zLS_X12_130 : zLS RX12 130 yX12_down := ⟨zl_X12_130, zstat_X12_down, zini_X12⟩
theorem zl_X12_134 : Cond.methodLink RX12 134 yX12_logOf ∈ zT := zwm_19 _ (List.mem_of_getElem? (i := 28) rfl)
theorem zLV_X12_134 : zLV RX12 134 yX12_logOf := ⟨zl_X12_134, zinst_X12_logOf, zsel_X12_logOf, zini_X12⟩
theorem zl_X12_142 : Cond.methodLink RX12 142 yX12_takes ∈ zT := zwm_19 _ (List.mem_of_getElem? (i := 33) rfl)
theorem zLS_X12_142 : zLS RX12 142 yX12_takes := ⟨zl_X12_142, zstat_X12_takes, zini_X12⟩
theorem zl_X12_145 : Cond.methodLink RX12 145 yX12_isLess ∈ zT := zwm_19 _ (List.mem_of_getElem? (i := 36) rfl)
theorem zLS_X12_145 : zLS RX12 145 yX12_isLess := ⟨zl_X12_145, zstat_X12_isLess, zini_X12⟩
theorem zl_L_32 : Cond.methodLink RL 32 yX12_span ∈ zT := zwm_20 _ (List.mem_of_getElem? (i := 0) rfl)
theorem zLV_L_32 : zLV RL 32 yX12_span := ⟨zl_L_32, zinst_X12_span, zsel_X12_span, zini_X12⟩
theorem zl_X12_193 : Cond.methodLink RX12 193 yX12_marksOf ∈ zT := zwm_20 _ (List.mem_of_getElem? (i := 5) rfl)
theorem zLV_X12_193 : zLV RX12 193 yX12_marksOf := ⟨zl_X12_193, zinst_X12_marksOf, zsel_X12_marksOf, zini_X12⟩
theorem zl_X12_187 : Cond.methodLink RX12 187 yX12_spanMarks ∈ zT := zwm_20 _ (List.mem_of_getElem? (i := 8) rfl)
theorem zLV_X12_187 : zLV RX12 187 yX12_spanMarks := ⟨zl_X12_187, zinst_X12_spanMarks, zsel_X12_spanMarks, zini_X12⟩
theorem zl_L_36 : Cond.methodLink RL 36 yX12_mark ∈ zT := zwm_20 _ (List.mem_of_getElem? (i := 11) rfl)
theorem zLV_L_36 : zLV RL 36 yX12_mark := ⟨zl_L_36, zinst_X12_mark, zsel_X12_mark, zini_X12⟩
theorem zl_X12_196 : Cond.methodLink RX12 196 yX12_markOf ∈ zT := zwm_20 _ (List.mem_of_getElem? (i := 15) rfl)
theorem zLV_X12_196 : zLV RX12 196 yX12_markOf := ⟨zl_X12_196, zinst_X12_markOf, zsel_X12_markOf, zini_X12⟩
theorem zl_L_40 : Cond.methodLink RL 40 yX12_marks ∈ zT := zwm_20 _ (List.mem_of_getElem? (i := 18) rfl)
theorem zLV_L_40 : zLV RL 40 yX12_marks := ⟨zl_L_40, zinst_X12_marks, zsel_X12_marks, zini_X12⟩
theorem zl_L_44 : Cond.methodLink RL 44 yX12_closest ∈ zT := zwm_20 _ (List.mem_of_getElem? (i := 22) rfl)
theorem zLV_L_44 : zLV RL 44 yX12_closest := ⟨zl_L_44, zinst_X12_closest, zsel_X12_closest, zini_X12⟩
theorem zl_X12_199 : Cond.methodLink RX12 199 yX12_size ∈ zT := zwm_20 _ (List.mem_of_getElem? (i := 26) rfl)
theorem zLS_X12_199 : zLS RX12 199 yX12_size := ⟨zl_X12_199, zstat_X12_size, zini_X12⟩
theorem zl_L_48 : Cond.methodLink RL 48 yX12_off ∈ zT := zwm_20 _ (List.mem_of_getElem? (i := 29) rfl)
theorem zLV_L_48 : zLV RL 48 yX12_off := ⟨zl_L_48, zinst_X12_off, zsel_X12_off, zini_X12⟩
theorem zl_L_52 : Cond.methodLink RL 52 yX12_set ∈ zT := zwm_20 _ (List.mem_of_getElem? (i := 35) rfl)
theorem zLV_L_52 : zLV RL 52 yX12_set := ⟨zl_L_52, zinst_X12_set, zsel_X12_set, zini_X12⟩
theorem zl_L_57 : Cond.methodLink RL 57 yX12_against ∈ zT := zwm_20 _ (List.mem_of_getElem? (i := 39) rfl)
theorem zLV_L_57 : zLV RL 57 yX12_against := ⟨zl_L_57, zinst_X12_against, zsel_X12_against, zini_X12⟩
theorem zl_L_61 : Cond.methodLink RL 61 yX12_nearest ∈ zT := zwm_21 _ (List.mem_of_getElem? (i := 3) rfl)
theorem zLV_L_61 : zLV RL 61 yX12_nearest := ⟨zl_L_61, zinst_X12_nearest, zsel_X12_nearest, zini_X12⟩
theorem zl_X12_213 : Cond.methodLink RX12 213 yX12_isPlace ∈ zT := zwm_21 _ (List.mem_of_getElem? (i := 7) rfl)
theorem zLS_X12_213 : zLS RX12 213 yX12_isPlace := ⟨zl_X12_213, zstat_X12_isPlace, zini_X12⟩
theorem zl_L_65 : Cond.methodLink RL 65 yX12_between ∈ zT := zwm_21 _ (List.mem_of_getElem? (i := 12) rfl)
theorem zLV_L_65 : zLV RL 65 yX12_between := ⟨zl_L_65, zinst_X12_between, zsel_X12_between, zini_X12⟩
theorem zl_L_69 : Cond.methodLink RL 69 yX12_factor ∈ zT := zwm_21 _ (List.mem_of_getElem? (i := 16) rfl)
theorem zLV_L_69 : zLV RL 69 yX12_factor := ⟨zl_L_69, zinst_X12_factor, zsel_X12_factor, zini_X12⟩
theorem zl_L_74 : Cond.methodLink RL 74 yX12_clear ∈ zT := zwm_21 _ (List.mem_of_getElem? (i := 21) rfl)
theorem zLV_L_74 : zLV RL 74 yX12_clear := ⟨zl_L_74, zinst_X12_clear, zsel_X12_clear, zini_X12⟩
theorem zl_L_78 : Cond.methodLink RL 78 yX12_chain ∈ zT := zwm_21 _ (List.mem_of_getElem? (i := 25) rfl)
theorem zLV_L_78 : zLV RL 78 yX12_chain := ⟨zl_L_78, zinst_X12_chain, zsel_X12_chain, zini_X12⟩
theorem zl_X12_227 : Cond.methodLink RX12 227 yX12_plainOf ∈ zT := zwm_21 _ (List.mem_of_getElem? (i := 29) rfl)
theorem zLV_X12_227 : zLV RX12 227 yX12_plainOf := ⟨zl_X12_227, zinst_X12_plainOf, zsel_X12_plainOf, zini_X12⟩
theorem zl_X12_224 : Cond.methodLink RX12 224 yX12_plain ∈ zT := zwm_21 _ (List.mem_of_getElem? (i := 32) rfl)
theorem zLV_X12_224 : zLV RX12 224 yX12_plain := ⟨zl_X12_224, zinst_X12_plain, zsel_X12_plain, zini_X12⟩
theorem zl_X12_232 : Cond.methodLink RX12 232 yX12_reading ∈ zT := zwm_21 _ (List.mem_of_getElem? (i := 35) rfl)
theorem zLV_X12_232 : zLV RX12 232 yX12_reading := ⟨zl_X12_232, zinst_X12_reading, zsel_X12_reading, zini_X12⟩
theorem zl_X12_235 : Cond.methodLink RX12 235 yX12_truth ∈ zT := zwm_21 _ (List.mem_of_getElem? (i := 38) rfl)
theorem zLV_X12_235 : zLV RX12 235 yX12_truth := ⟨zl_X12_235, zinst_X12_truth, zsel_X12_truth, zini_X12⟩
theorem zl_L_82 : Cond.methodLink RL 82 yX12_pairs ∈ zT := zwm_22 _ (List.mem_of_getElem? (i := 2) rfl)
theorem zLV_L_82 : zLV RL 82 yX12_pairs := ⟨zl_L_82, zinst_X12_pairs, zsel_X12_pairs, zini_X12⟩
theorem zl_L_86 : Cond.methodLink RL 86 yX12_fewest ∈ zT := zwm_22 _ (List.mem_of_getElem? (i := 6) rfl)
theorem zLV_L_86 : zLV RL 86 yX12_fewest := ⟨zl_L_86, zinst_X12_fewest, zsel_X12_fewest, zini_X12⟩
theorem zl_X12_249 : Cond.methodLink RX12 249 yX12_isPower ∈ zT := zwm_22 _ (List.mem_of_getElem? (i := 10) rfl)
theorem zLS_X12_249 : zLS RX12 249 yX12_isPower := ⟨zl_X12_249, zstat_X12_isPower, zini_X12⟩
theorem zl_X12_252 : Cond.methodLink RX12 252 yX12_spreads ∈ zT := zwm_22 _ (List.mem_of_getElem? (i := 15) rfl)
theorem zLV_X12_252 : zLV RX12 252 yX12_spreads := ⟨zl_X12_252, zinst_X12_spreads, zsel_X12_spreads, zini_X12⟩
theorem zl_X12_241 : Cond.methodLink RX12 241 yX12_lets ∈ zT := zwm_22 _ (List.mem_of_getElem? (i := 19) rfl)
theorem zLV_X12_241 : zLV RX12 241 yX12_lets := ⟨zl_X12_241, zinst_X12_lets, zsel_X12_lets, zini_X12⟩
theorem zl_X12_255 : Cond.methodLink RX12 255 yX12_leastTo ∈ zT := zwm_22 _ (List.mem_of_getElem? (i := 22) rfl)
theorem zLV_X12_255 : zLV RX12 255 yX12_leastTo := ⟨zl_X12_255, zinst_X12_leastTo, zsel_X12_leastTo, zini_X12⟩
theorem zl_L_90 : Cond.methodLink RL 90 yX12_setting ∈ zT := zwm_22 _ (List.mem_of_getElem? (i := 25) rfl)
theorem zLV_L_90 : zLV RL 90 yX12_setting := ⟨zl_L_90, zinst_X12_setting, zsel_X12_setting, zini_X12⟩
theorem zl_L_94 : Cond.methodLink RL 94 yX12_cut ∈ zT := zwm_22 _ (List.mem_of_getElem? (i := 29) rfl)
theorem zLV_L_94 : zLV RL 94 yX12_cut := ⟨zl_L_94, zinst_X12_cut, zsel_X12_cut, zini_X12⟩
theorem zl_X12_259 : Cond.methodLink RX12 259 yX12_isStrip ∈ zT := zwm_22 _ (List.mem_of_getElem? (i := 33) rfl)
theorem zLS_X12_259 : zLS RX12 259 yX12_isStrip := ⟨zl_X12_259, zstat_X12_isStrip, zini_X12⟩
theorem zl_L_98 : Cond.methodLink RL 98 yX12_wipe ∈ zT := zwm_22 _ (List.mem_of_getElem? (i := 36) rfl)
theorem zLV_L_98 : zLV RL 98 yX12_wipe := ⟨zl_L_98, zinst_X12_wipe, zsel_X12_wipe, zini_X12⟩
theorem zl_L_102 : Cond.methodLink RL 102 yX12_chosen ∈ zT := zwm_23 _ (List.mem_of_getElem? (i := 0) rfl)
theorem zLV_L_102 : zLV RL 102 yX12_chosen := ⟨zl_L_102, zinst_X12_chosen, zsel_X12_chosen, zini_X12⟩
theorem zl_L_106 : Cond.methodLink RL 106 yX12_match ∈ zT := zwm_23 _ (List.mem_of_getElem? (i := 4) rfl)
theorem zLV_L_106 : zLV RL 106 yX12_match := ⟨zl_L_106, zinst_X12_match, zsel_X12_match, zini_X12⟩
theorem zl_X12_262 : Cond.methodLink RX12 262 yX12_has ∈ zT := zwm_23 _ (List.mem_of_getElem? (i := 8) rfl)
theorem zLV_X12_262 : zLV RX12 262 yX12_has := ⟨zl_X12_262, zinst_X12_has, zsel_X12_has, zini_X12⟩
theorem zl_L_110 : Cond.methodLink RL 110 yX12_law ∈ zT := zwm_23 _ (List.mem_of_getElem? (i := 11) rfl)
theorem zLV_L_110 : zLV RL 110 yX12_law := ⟨zl_L_110, zinst_X12_law, zsel_X12_law, zini_X12⟩
theorem zl_X12_271 : Cond.methodLink RX12 271 yX12_lawPlace ∈ zT := zwm_23 _ (List.mem_of_getElem? (i := 16) rfl)
theorem zLV_X12_271 : zLV RX12 271 yX12_lawPlace := ⟨zl_X12_271, zinst_X12_lawPlace, zsel_X12_lawPlace, zini_X12⟩
theorem zl_X12_265 : Cond.methodLink RX12 265 yX12_numberOf ∈ zT := zwm_23 _ (List.mem_of_getElem? (i := 19) rfl)
theorem zLS_X12_265 : zLS RX12 265 yX12_numberOf := ⟨zl_X12_265, zstat_X12_numberOf, zini_X12⟩
theorem zl_L_114 : Cond.methodLink RL 114 yX12_doubled ∈ zT := zwm_23 _ (List.mem_of_getElem? (i := 22) rfl)
theorem zLV_L_114 : zLV RL 114 yX12_doubled := ⟨zl_L_114, zinst_X12_doubled, zsel_X12_doubled, zini_X12⟩
theorem zl_L_118 : Cond.methodLink RL 118 yX12_count ∈ zT := zwm_23 _ (List.mem_of_getElem? (i := 26) rfl)
theorem zLV_L_118 : zLV RL 118 yX12_count := ⟨zl_L_118, zinst_X12_count, zsel_X12_count, zini_X12⟩
theorem zl_L_123 : Cond.methodLink RL 123 yX12_digest ∈ zT := zwm_23 _ (List.mem_of_getElem? (i := 30) rfl)
theorem zLV_L_123 : zLV RL 123 yX12_digest := ⟨zl_L_123, zinst_X12_digest, zsel_X12_digest, zini_X12⟩
theorem zl_X12_278 : Cond.methodLink RX12 278 yX12_count ∈ zT := zwm_23 _ (List.mem_of_getElem? (i := 36) rfl)
theorem zLV_X12_278 : zLV RX12 278 yX12_count := ⟨zl_X12_278, zinst_X12_count, zsel_X12_count, zini_X12⟩
def zNest : List (String × Nat × MethodName × String) := [(RX2, 18, yX10_init, "SlideRules"), (RX11, 18, yX5_init, "SlideRules"), (RX11, 31, yX0_init, "SlideRules"), (RX11, 38, yX4_init, "SlideRules"), (RX4, 44, yX0_init, "SlideRules"), (RX11, 45, yX8_init, "SlideRules"), (RX11, 58, yX3_init, "SlideRules"), (RX11, 65, yX1_init, "SlideRules"), (RX11, 80, yX9_init, "SlideRules"), (RX5, 25, yX11_isFactor, "SlideRules")]
theorem zNest_in : ∀ q ∈ zNest, Cond.methodLinkNest q.1 q.2.1 q.2.2.1 q.2.2.2 ∈ lw_tbl := by
  intro q hq
  simp only [zNest, List.mem_cons, List.not_mem_nil, or_false] at hq
  rcases hq with rfl | rfl | rfl | rfl | rfl | rfl | rfl | rfl | rfl | rfl
  · exact List.mem_of_getElem? (i := 62) (by decide +kernel)
  · exact List.mem_of_getElem? (i := 117) (by decide +kernel)
  · exact List.mem_of_getElem? (i := 135) (by decide +kernel)
  · exact List.mem_of_getElem? (i := 184) (by decide +kernel)
  · exact List.mem_of_getElem? (i := 189) (by decide +kernel)
  · exact List.mem_of_getElem? (i := 232) (by decide +kernel)
  · exact List.mem_of_getElem? (i := 256) (by decide +kernel)
  · exact List.mem_of_getElem? (i := 271) (by decide +kernel)
  · exact List.mem_of_getElem? (i := 280) (by decide +kernel)
  · exact List.mem_of_getElem? (i := 562) (by decide +kernel)
theorem zNe_X2_18 : (RX2, 18, yX10_init, "SlideRules") ∈ zNest := List.mem_of_getElem? (i := 0) rfl
theorem zNe_X11_18 : (RX11, 18, yX5_init, "SlideRules") ∈ zNest := List.mem_of_getElem? (i := 1) rfl
theorem zNe_X11_31 : (RX11, 31, yX0_init, "SlideRules") ∈ zNest := List.mem_of_getElem? (i := 2) rfl
theorem zNe_X11_38 : (RX11, 38, yX4_init, "SlideRules") ∈ zNest := List.mem_of_getElem? (i := 3) rfl
theorem zNe_X4_44 : (RX4, 44, yX0_init, "SlideRules") ∈ zNest := List.mem_of_getElem? (i := 4) rfl
theorem zNe_X11_45 : (RX11, 45, yX8_init, "SlideRules") ∈ zNest := List.mem_of_getElem? (i := 5) rfl
theorem zNe_X11_58 : (RX11, 58, yX3_init, "SlideRules") ∈ zNest := List.mem_of_getElem? (i := 6) rfl
theorem zNe_X11_65 : (RX11, 65, yX1_init, "SlideRules") ∈ zNest := List.mem_of_getElem? (i := 7) rfl
theorem zNe_X11_80 : (RX11, 80, yX9_init, "SlideRules") ∈ zNest := List.mem_of_getElem? (i := 8) rfl
theorem zNe_X5_25 : (RX5, 25, yX11_isFactor, "SlideRules") ∈ zNest := List.mem_of_getElem? (i := 9) rfl
theorem zcl_L_7 : Cond.classLink RL 7 RX11 ∈ zT := zwm_1 _ (List.mem_of_getElem? (i := 6) rfl)
theorem zis_X11 : Cond.instantiable RX11 12 ∈ zT := zwm_1 _ (List.mem_of_getElem? (i := 7) rfl)
theorem zob_X11_1 : Cond.methodLink RX11 1 objectInit ∈ zT := zwm_1 _ (List.mem_of_getElem? (i := 11) rfl)
theorem zcl_X11_7 : Cond.classLink RX11 7 RX2 ∈ zT := zwm_1 _ (List.mem_of_getElem? (i := 14) rfl)
theorem zis_X2 : Cond.instantiable RX2 5 ∈ zT := zwm_1 _ (List.mem_of_getElem? (i := 15) rfl)
theorem zob_X2_1 : Cond.methodLink RX2 1 objectInit ∈ zT := zwm_1 _ (List.mem_of_getElem? (i := 19) rfl)
theorem zcl_X2_16 : Cond.classLink RX2 16 RX10 ∈ zT := zwm_1 _ (List.mem_of_getElem? (i := 20) rfl)
theorem zis_X10 : Cond.instantiable RX10 2 ∈ zT := zwm_1 _ (List.mem_of_getElem? (i := 21) rfl)
theorem zob_X10_3 : Cond.methodLink RX10 3 objectInit ∈ zT := zwm_1 _ (List.mem_of_getElem? (i := 24) rfl)
theorem zar_J : Cond.arrayClass FieldType.long ∈ zT := zwm_1 _ (List.mem_of_getElem? (i := 31) rfl)
theorem zK_X2_40 : Cond.constantLong RX2 40 (15280378647410) ∈ zT := zwm_1 _ (List.mem_of_getElem? (i := 35) rfl)
theorem zK_X2_42 : Cond.constantLong RX2 42 (9283927628714) ∈ zT := zwm_1 _ (List.mem_of_getElem? (i := 36) rfl)
theorem zK_X10_16 : Cond.constantLong RX10 16 (17592186044415) ∈ zT := zwm_2 _ (List.mem_of_getElem? (i := 5) rfl)
theorem zcl_X11_16 : Cond.classLink RX11 16 RX5 ∈ zT := zwm_2 _ (List.mem_of_getElem? (i := 24) rfl)
theorem zis_X5 : Cond.instantiable RX5 2 ∈ zT := zwm_2 _ (List.mem_of_getElem? (i := 25) rfl)
theorem zob_X5_3 : Cond.methodLink RX5 3 objectInit ∈ zT := zwm_2 _ (List.mem_of_getElem? (i := 28) rfl)
theorem zar_I : Cond.arrayClass FieldType.int ∈ zT := zwm_2 _ (List.mem_of_getElem? (i := 35) rfl)
theorem zcl_X11_23 : Cond.classLink RX11 23 RX7 ∈ zT := zwm_2 _ (List.mem_of_getElem? (i := 36) rfl)
theorem zcl_X11_29 : Cond.classLink RX11 29 RX0 ∈ zT := zwm_2 _ (List.mem_of_getElem? (i := 37) rfl)
theorem zis_X0 : Cond.instantiable RX0 4 ∈ zT := zwm_2 _ (List.mem_of_getElem? (i := 38) rfl)
theorem zob_X0_3 : Cond.methodLink RX0 3 objectInit ∈ zT := zwm_3 _ (List.mem_of_getElem? (i := 1) rfl)
theorem zcl_X0_9 : Cond.classLink RX0 9 RX6 ∈ zT := zwm_3 _ (List.mem_of_getElem? (i := 2) rfl)
theorem zis_X6 : Cond.instantiable RX6 2 ∈ zT := zwm_3 _ (List.mem_of_getElem? (i := 3) rfl)
theorem zob_X6_3 : Cond.methodLink RX6 3 objectInit ∈ zT := zwm_3 _ (List.mem_of_getElem? (i := 7) rfl)
theorem zcl_X11_36 : Cond.classLink RX11 36 RX4 ∈ zT := zwm_3 _ (List.mem_of_getElem? (i := 37) rfl)
theorem zis_X4 : Cond.instantiable RX4 11 ∈ zT := zwm_3 _ (List.mem_of_getElem? (i := 38) rfl)
theorem zob_X4_3 : Cond.methodLink RX4 3 objectInit ∈ zT := zwm_4 _ (List.mem_of_getElem? (i := 1) rfl)
theorem zcl_X4_42 : Cond.classLink RX4 42 RX0 ∈ zT := zwm_4 _ (List.mem_of_getElem? (i := 2) rfl)
theorem zcl_X11_43 : Cond.classLink RX11 43 RX8 ∈ zT := zwm_4 _ (List.mem_of_getElem? (i := 31) rfl)
theorem zis_X8 : Cond.instantiable RX8 4 ∈ zT := zwm_4 _ (List.mem_of_getElem? (i := 32) rfl)
theorem zob_X8_5 : Cond.methodLink RX8 5 objectInit ∈ zT := zwm_4 _ (List.mem_of_getElem? (i := 35) rfl)
theorem zcl_X8_18 : Cond.classLink RX8 18 "[[I" ∈ zT := zwm_4 _ (List.mem_of_getElem? (i := 36) rfl)
theorem zar_Z : Cond.arrayClass FieldType.boolean ∈ zT := zwm_5 _ (List.mem_of_getElem? (i := 5) rfl)
theorem zcl_X11_50 : Cond.classLink RX11 50 RX9 ∈ zT := zwm_5 _ (List.mem_of_getElem? (i := 6) rfl)
theorem zcl_X11_56 : Cond.classLink RX11 56 RX3 ∈ zT := zwm_5 _ (List.mem_of_getElem? (i := 7) rfl)
theorem zis_X3 : Cond.instantiable RX3 2 ∈ zT := zwm_5 _ (List.mem_of_getElem? (i := 8) rfl)
theorem zob_X3_1 : Cond.methodLink RX3 1 objectInit ∈ zT := zwm_5 _ (List.mem_of_getElem? (i := 11) rfl)
theorem zcl_X11_63 : Cond.classLink RX11 63 RX1 ∈ zT := zwm_5 _ (List.mem_of_getElem? (i := 18) rfl)
theorem zis_X1 : Cond.instantiable RX1 1 ∈ zT := zwm_5 _ (List.mem_of_getElem? (i := 19) rfl)
theorem zob_X1_1 : Cond.methodLink RX1 1 objectInit ∈ zT := zwm_5 _ (List.mem_of_getElem? (i := 22) rfl)
theorem zis_X9 : Cond.instantiable RX9 1 ∈ zT := zwm_5 _ (List.mem_of_getElem? (i := 25) rfl)
theorem zob_X9_3 : Cond.methodLink RX9 3 objectInit ∈ zT := zwm_5 _ (List.mem_of_getElem? (i := 28) rfl)
theorem zcl_X9_9 : Cond.classLink RX9 9 RX6 ∈ zT := zwm_5 _ (List.mem_of_getElem? (i := 29) rfl)
theorem zK_X11_81 : Cond.constant RX11 81 (50000) ∈ zT := zwm_6 _ (List.mem_of_getElem? (i := 22) rfl)
theorem zis_X7 : Cond.instantiable RX7 12 ∈ zT := zwm_6 _ (List.mem_of_getElem? (i := 27) rfl)
theorem zob_X7_3 : Cond.methodLink RX7 3 objectInit ∈ zT := zwm_6 _ (List.mem_of_getElem? (i := 31) rfl)
theorem zcl_X7_9 : Cond.classLink RX7 9 RX6 ∈ zT := zwm_6 _ (List.mem_of_getElem? (i := 32) rfl)
theorem zK_X11_224 : Cond.constant RX11 224 (100000) ∈ zT := zwm_7 _ (List.mem_of_getElem? (i := 32) rfl)
theorem zK_X11_93 : Cond.constant RX11 93 (-2000000000) ∈ zT := zwm_7 _ (List.mem_of_getElem? (i := 33) rfl)
theorem zK_X2_71 : Cond.constantLong RX2 71 (2) ∈ zT := zwm_8 _ (List.mem_of_getElem? (i := 13) rfl)
theorem zK_X11_132 : Cond.constant RX11 132 (-200000) ∈ zT := zwm_9 _ (List.mem_of_getElem? (i := 39) rfl)
theorem zK_X11_133 : Cond.constant RX11 133 (200000) ∈ zT := zwm_10 _ (List.mem_of_getElem? (i := 0) rfl)
theorem zK_X11_263 : Cond.constant RX11 263 (-1000000) ∈ zT := zwm_10 _ (List.mem_of_getElem? (i := 16) rfl)
theorem zK_X11_217 : Cond.constant RX11 217 (1000000) ∈ zT := zwm_10 _ (List.mem_of_getElem? (i := 17) rfl)
theorem zK_X0_57 : Cond.constantLong RX0 57 (1000000000) ∈ zT := zwm_12 _ (List.mem_of_getElem? (i := 11) rfl)
theorem zK_X0_63 : Cond.constantLong RX0 63 (999) ∈ zT := zwm_12 _ (List.mem_of_getElem? (i := 15) rfl)
theorem zK_X0_65 : Cond.constantLong RX0 65 (10) ∈ zT := zwm_12 _ (List.mem_of_getElem? (i := 16) rfl)
theorem zK_X1_13 : Cond.constant RX1 13 (1000000) ∈ zT := zwm_15 _ (List.mem_of_getElem? (i := 15) rfl)
theorem zK_X1_14 : Cond.constantLong RX1 14 (2) ∈ zT := zwm_15 _ (List.mem_of_getElem? (i := 16) rfl)
theorem zK_X11_249 : Cond.constantLong RX11 249 (349) ∈ zT := zwm_16 _ (List.mem_of_getElem? (i := 0) rfl)
theorem zK_X11_251 : Cond.constantLong RX11 251 (31) ∈ zT := zwm_16 _ (List.mem_of_getElem? (i := 1) rfl)
theorem zK_X7_97 : Cond.constantLong RX7 97 (31) ∈ zT := zwm_16 _ (List.mem_of_getElem? (i := 7) rfl)
theorem zK_X6_29 : Cond.constantLong RX6 29 (31) ∈ zT := zwm_16 _ (List.mem_of_getElem? (i := 13) rfl)
theorem zcl_L_10 : Cond.classLink RL 10 RX12 ∈ zT := zwm_16 _ (List.mem_of_getElem? (i := 14) rfl)
theorem zis_X12 : Cond.instantiable RX12 30 ∈ zT := zwm_16 _ (List.mem_of_getElem? (i := 15) rfl)
theorem zob_X12_1 : Cond.methodLink RX12 1 objectInit ∈ zT := zwm_16 _ (List.mem_of_getElem? (i := 19) rfl)
theorem zK_X12_73 : Cond.constant RX12 73 (800008) ∈ zT := zwm_16 _ (List.mem_of_getElem? (i := 20) rfl)
theorem zK_X12_89 : Cond.constantLong RX12 89 (2) ∈ zT := zwm_16 _ (List.mem_of_getElem? (i := 21) rfl)
theorem zK_X12_103 : Cond.constantLong RX12 103 (1000000000) ∈ zT := zwm_16 _ (List.mem_of_getElem? (i := 31) rfl)
theorem zK_X12_105 : Cond.constantLong RX12 105 (999999999) ∈ zT := zwm_17 _ (List.mem_of_getElem? (i := 4) rfl)
theorem zK_X12_95 : Cond.constantLong RX12 95 (5) ∈ zT := zwm_17 _ (List.mem_of_getElem? (i := 5) rfl)
theorem zK_X12_97 : Cond.constantLong RX12 97 (4) ∈ zT := zwm_17 _ (List.mem_of_getElem? (i := 6) rfl)
theorem zK_X12_149 : Cond.constantLong RX12 149 (100) ∈ zT := zwm_18 _ (List.mem_of_getElem? (i := 31) rfl)
theorem zK_X12_169 : Cond.constantLong RX12 169 (50000) ∈ zT := zwm_18 _ (List.mem_of_getElem? (i := 32) rfl)
theorem zK_X12_171 : Cond.constantLong RX12 171 (3) ∈ zT := zwm_19 _ (List.mem_of_getElem? (i := 0) rfl)
theorem zK_X12_124 : Cond.constantLong RX12 124 (10) ∈ zT := zwm_19 _ (List.mem_of_getElem? (i := 1) rfl)
theorem zK_X12_173 : Cond.constantLong RX12 173 (990) ∈ zT := zwm_19 _ (List.mem_of_getElem? (i := 2) rfl)
theorem zK_X12_167 : Cond.constantLong RX12 167 (100000) ∈ zT := zwm_19 _ (List.mem_of_getElem? (i := 13) rfl)
theorem zK_X12_158 : Cond.constant RX12 158 (100001) ∈ zT := zwm_19 _ (List.mem_of_getElem? (i := 17) rfl)
theorem zK_X12_159 : Cond.constant RX12 159 (1000000) ∈ zT := zwm_19 _ (List.mem_of_getElem? (i := 18) rfl)
theorem zK_X12_138 : Cond.constantLong RX12 138 (-400000) ∈ zT := zwm_19 _ (List.mem_of_getElem? (i := 31) rfl)
theorem zK_X12_140 : Cond.constantLong RX12 140 (400000) ∈ zT := zwm_19 _ (List.mem_of_getElem? (i := 32) rfl)
theorem zK_X12_186 : Cond.constant RX12 186 (-2000000000) ∈ zT := zwm_19 _ (List.mem_of_getElem? (i := 39) rfl)
theorem zK_X12_191 : Cond.constantLong RX12 191 (10000) ∈ zT := zwm_20 _ (List.mem_of_getElem? (i := 4) rfl)
theorem zK_X12_202 : Cond.constantLong RX12 202 (-200000) ∈ zT := zwm_20 _ (List.mem_of_getElem? (i := 33) rfl)
theorem zK_X12_204 : Cond.constantLong RX12 204 (200000) ∈ zT := zwm_20 _ (List.mem_of_getElem? (i := 34) rfl)
theorem zK_X12_209 : Cond.constantLong RX12 209 (-1000000) ∈ zT := zwm_21 _ (List.mem_of_getElem? (i := 10) rfl)
theorem zK_X12_211 : Cond.constantLong RX12 211 (1000000) ∈ zT := zwm_21 _ (List.mem_of_getElem? (i := 11) rfl)
theorem zK_X12_216 : Cond.constantLong RX12 216 (999) ∈ zT := zwm_21 _ (List.mem_of_getElem? (i := 20) rfl)
theorem zK_X12_230 : Cond.constantLong RX12 230 (1000) ∈ zT := zwm_22 _ (List.mem_of_getElem? (i := 1) rfl)
theorem zK_X12_245 : Cond.constantLong RX12 245 (-8) ∈ zT := zwm_22 _ (List.mem_of_getElem? (i := 13) rfl)
theorem zK_X12_247 : Cond.constantLong RX12 247 (8) ∈ zT := zwm_22 _ (List.mem_of_getElem? (i := 14) rfl)
theorem zK_X12_239 : Cond.constantLong RX12 239 (64) ∈ zT := zwm_22 _ (List.mem_of_getElem? (i := 18) rfl)
theorem zK_X12_269 : Cond.constantLong RX12 269 (60) ∈ zT := zwm_23 _ (List.mem_of_getElem? (i := 15) rfl)
theorem zK_X12_274 : Cond.constantLong RX12 274 (349) ∈ zT := zwm_23 _ (List.mem_of_getElem? (i := 34) rfl)
theorem zK_X12_276 : Cond.constantLong RX12 276 (31) ∈ zT := zwm_23 _ (List.mem_of_getElem? (i := 35) rfl)
theorem zobI : Cond.instanceMethod objectInit ∈ zT := zwm_1 _ (List.mem_of_getElem? (i := 12) rfl)
theorem zobC : Cond.code objectInit ⟨#[0xb1]⟩ 1 none ∈ zT := zwm_1 _ (List.mem_of_getElem? (i := 13) rfl)
theorem zao_Sc : Cond.arrayOver (FieldType.object "SlideRules$Scale") ∈ lw_tbl := List.mem_of_getElem? (i := 132) (by decide +kernel)
theorem zao_II : Cond.arrayOver (FieldType.array FieldType.int) ∈ lw_tbl := List.mem_of_getElem? (i := 237) (by decide +kernel)
theorem zao_St : Cond.arrayOver (FieldType.object "SlideRules$Strip") ∈ lw_tbl := List.mem_of_getElem? (i := 253) (by decide +kernel)
