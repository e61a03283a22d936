section
-- ===== PART A: goes FIRST, ahead of the names: the tables' words, and 'selects' of the private methods out of them =====
/-- a private method of a class that the tables say can be made, by its rows of tables_1 -/
def lw_okq (q : MethodName × Nat) : Prop := (q.1.cls ≠ "java/lang/invoke/MethodHandle" ∧ q.1.cls ≠ "java/lang/invoke/VarHandle") ∧ Cond.instantiable q.1.cls q.2 ∈ tables_1 ∧ Cond.privateMethod q.1 ∈ tables_1 ∧ Cond.instanceMethod q.1 ∈ tables_1
theorem lw_p0 : lw_okq (⟨"DutyRules$Facts", "newestOf", "(II)LDutyRules$Fact;"⟩, 3) := ⟨⟨by decide +kernel, by decide +kernel⟩, List.mem_of_getElem? (i := 83) (by decide +kernel), List.mem_of_getElem? (i := 611) (by decide +kernel), List.mem_of_getElem? (i := 612) (by decide +kernel)⟩
theorem lw_p1 : lw_okq (⟨"DutyRules$Duty", "reasonToBeOpen", "(LDutyRules$Rules;)I"⟩, 9) := ⟨⟨by decide +kernel, by decide +kernel⟩, List.mem_of_getElem? (i := 102) (by decide +kernel), List.mem_of_getElem? (i := 635) (by decide +kernel), List.mem_of_getElem? (i := 636) (by decide +kernel)⟩
theorem lw_p2 : lw_okq (⟨"DutyRules$Duty", "doSteps", "(LDutyRules$Rules;)V"⟩, 9) := ⟨⟨by decide +kernel, by decide +kernel⟩, List.mem_of_getElem? (i := 102) (by decide +kernel), List.mem_of_getElem? (i := 647) (by decide +kernel), List.mem_of_getElem? (i := 648) (by decide +kernel)⟩
theorem lw_p3 : lw_okq (⟨"DutyRules$Duty", "addStep", "(II)V"⟩, 9) := ⟨⟨by decide +kernel, by decide +kernel⟩, List.mem_of_getElem? (i := 102) (by decide +kernel), List.mem_of_getElem? (i := 654) (by decide +kernel), List.mem_of_getElem? (i := 655) (by decide +kernel)⟩
theorem lw_p4 : lw_okq (⟨"DutyRules$Duty", "freeLost", "(LDutyRules$Rules;J)V"⟩, 9) := ⟨⟨by decide +kernel, by decide +kernel⟩, List.mem_of_getElem? (i := 102) (by decide +kernel), List.mem_of_getElem? (i := 659) (by decide +kernel), List.mem_of_getElem? (i := 660) (by decide +kernel)⟩
theorem lw_p5 : lw_okq (⟨"DutyRules$Duty", "lessenByAway", "(LDutyRules$Rules;J)V"⟩, 9) := ⟨⟨by decide +kernel, by decide +kernel⟩, List.mem_of_getElem? (i := 102) (by decide +kernel), List.mem_of_getElem? (i := 666) (by decide +kernel), List.mem_of_getElem? (i := 667) (by decide +kernel)⟩
theorem lw_p6 : lw_okq (⟨"DutyRules$Duty", "lessenForSmall", "(LDutyRules$Rules;)V"⟩, 9) := ⟨⟨by decide +kernel, by decide +kernel⟩, List.mem_of_getElem? (i := 102) (by decide +kernel), List.mem_of_getElem? (i := 670) (by decide +kernel), List.mem_of_getElem? (i := 671) (by decide +kernel)⟩
theorem lw_p7 : lw_okq (⟨"DutyRules$Duty", "roundToMultiple", "(LDutyRules$Rules;)V"⟩, 9) := ⟨⟨by decide +kernel, by decide +kernel⟩, List.mem_of_getElem? (i := 102) (by decide +kernel), List.mem_of_getElem? (i := 674) (by decide +kernel), List.mem_of_getElem? (i := 675) (by decide +kernel)⟩
theorem lw_p8 : lw_okq (⟨"DutyRules", "returnOf", "(I)LDutyRules$Return;"⟩, 10) := ⟨⟨by decide +kernel, by decide +kernel⟩, List.mem_of_getElem? (i := 23) (by decide +kernel), List.mem_of_getElem? (i := 713) (by decide +kernel), List.mem_of_getElem? (i := 714) (by decide +kernel)⟩
theorem lw_p9 : lw_okq (⟨"DutyRules", "centsOf", "(III)J"⟩, 10) := ⟨⟨by decide +kernel, by decide +kernel⟩, List.mem_of_getElem? (i := 23) (by decide +kernel), List.mem_of_getElem? (i := 748) (by decide +kernel), List.mem_of_getElem? (i := 749) (by decide +kernel)⟩
theorem lw_p10 : lw_okq (⟨"DutyRules", "lateShare", "(I)J"⟩, 10) := ⟨⟨by decide +kernel, by decide +kernel⟩, List.mem_of_getElem? (i := 23) (by decide +kernel), List.mem_of_getElem? (i := 796) (by decide +kernel), List.mem_of_getElem? (i := 797) (by decide +kernel)⟩
theorem lw_p11 : lw_okq (⟨"DutyRulesModel", "next", "()V"⟩, 40) := ⟨⟨by decide +kernel, by decide +kernel⟩, List.mem_of_getElem? (i := 803) (by decide +kernel), List.mem_of_getElem? (i := 939) (by decide +kernel), List.mem_of_getElem? (i := 940) (by decide +kernel)⟩
theorem lw_p12 : lw_okq (⟨"DutyRulesModel", "rule", "(I)Z"⟩, 40) := ⟨⟨by decide +kernel, by decide +kernel⟩, List.mem_of_getElem? (i := 803) (by decide +kernel), List.mem_of_getElem? (i := 946) (by decide +kernel), List.mem_of_getElem? (i := 947) (by decide +kernel)⟩
theorem lw_p13 : lw_okq (⟨"DutyRulesModel", "is", "(I)Z"⟩, 40) := ⟨⟨by decide +kernel, by decide +kernel⟩, List.mem_of_getElem? (i := 803) (by decide +kernel), List.mem_of_getElem? (i := 950) (by decide +kernel), List.mem_of_getElem? (i := 951) (by decide +kernel)⟩
theorem lw_p14 : lw_okq (⟨"DutyRulesModel", "number", "(I)I"⟩, 40) := ⟨⟨by decide +kernel, by decide +kernel⟩, List.mem_of_getElem? (i := 803) (by decide +kernel), List.mem_of_getElem? (i := 967) (by decide +kernel), List.mem_of_getElem? (i := 968) (by decide +kernel)⟩
theorem lw_p15 : lw_okq (⟨"DutyRulesModel", "say", "(I)V"⟩, 40) := ⟨⟨by decide +kernel, by decide +kernel⟩, List.mem_of_getElem? (i := 803) (by decide +kernel), List.mem_of_getElem? (i := 980) (by decide +kernel), List.mem_of_getElem? (i := 981) (by decide +kernel)⟩
def lw_privs_1 : List (MethodName × Nat) := [(⟨"DutyRules$Facts", "newestOf", "(II)LDutyRules$Fact;"⟩, 3), (⟨"DutyRules$Duty", "reasonToBeOpen", "(LDutyRules$Rules;)I"⟩, 9), (⟨"DutyRules$Duty", "doSteps", "(LDutyRules$Rules;)V"⟩, 9), (⟨"DutyRules$Duty", "addStep", "(II)V"⟩, 9), (⟨"DutyRules$Duty", "freeLost", "(LDutyRules$Rules;J)V"⟩, 9), (⟨"DutyRules$Duty", "lessenByAway", "(LDutyRules$Rules;J)V"⟩, 9), (⟨"DutyRules$Duty", "lessenForSmall", "(LDutyRules$Rules;)V"⟩, 9), (⟨"DutyRules$Duty", "roundToMultiple", "(LDutyRules$Rules;)V"⟩, 9), (⟨"DutyRules", "returnOf", "(I)LDutyRules$Return;"⟩, 10), (⟨"DutyRules", "centsOf", "(III)J"⟩, 10), (⟨"DutyRules", "lateShare", "(I)J"⟩, 10), (⟨"DutyRulesModel", "next", "()V"⟩, 40), (⟨"DutyRulesModel", "rule", "(I)Z"⟩, 40), (⟨"DutyRulesModel", "is", "(I)Z"⟩, 40), (⟨"DutyRulesModel", "number", "(I)I"⟩, 40), (⟨"DutyRulesModel", "say", "(I)V"⟩, 40)]
theorem lw_r1 : ∀ q ∈ lw_privs_1, lw_okq q := List.forall_mem_cons.mpr ⟨lw_p0, List.forall_mem_cons.mpr ⟨lw_p1, List.forall_mem_cons.mpr ⟨lw_p2, List.forall_mem_cons.mpr ⟨lw_p3, List.forall_mem_cons.mpr ⟨lw_p4, List.forall_mem_cons.mpr ⟨lw_p5, List.forall_mem_cons.mpr ⟨lw_p6, List.forall_mem_cons.mpr ⟨lw_p7, List.forall_mem_cons.mpr ⟨lw_p8, List.forall_mem_cons.mpr ⟨lw_p9, List.forall_mem_cons.mpr ⟨lw_p10, List.forall_mem_cons.mpr ⟨lw_p11, List.forall_mem_cons.mpr ⟨lw_p12, List.forall_mem_cons.mpr ⟨lw_p13, List.forall_mem_cons.mpr ⟨lw_p14, List.forall_mem_cons.mpr ⟨lw_p15, fun _ h => absurd h List.not_mem_nil⟩⟩⟩⟩⟩⟩⟩⟩⟩⟩⟩⟩⟩⟩⟩⟩
theorem lw_p16 : lw_okq (⟨"DutyRulesModel", "put", "(I)V"⟩, 40) := ⟨⟨by decide +kernel, by decide +kernel⟩, List.mem_of_getElem? (i := 803) (by decide +kernel), List.mem_of_getElem? (i := 984) (by decide +kernel), List.mem_of_getElem? (i := 985) (by decide +kernel)⟩
theorem lw_p17 : lw_okq (⟨"DutyRulesModel", "digits", "(I)V"⟩, 40) := ⟨⟨by decide +kernel, by decide +kernel⟩, List.mem_of_getElem? (i := 803) (by decide +kernel), List.mem_of_getElem? (i := 988) (by decide +kernel), List.mem_of_getElem? (i := 989) (by decide +kernel)⟩
theorem lw_p18 : lw_okq (⟨"DutyRulesModel", "reckon", "(IJJ)Z"⟩, 40) := ⟨⟨by decide +kernel, by decide +kernel⟩, List.mem_of_getElem? (i := 803) (by decide +kernel), List.mem_of_getElem? (i := 1019) (by decide +kernel), List.mem_of_getElem? (i := 1020) (by decide +kernel)⟩
theorem lw_p19 : lw_okq (⟨"DutyRulesModel", "editionOf", "(J)I"⟩, 40) := ⟨⟨by decide +kernel, by decide +kernel⟩, List.mem_of_getElem? (i := 803) (by decide +kernel), List.mem_of_getElem? (i := 1023) (by decide +kernel), List.mem_of_getElem? (i := 1024) (by decide +kernel)⟩
theorem lw_p20 : lw_okq (⟨"DutyRulesModel", "holds", "(IIJJ)I"⟩, 40) := ⟨⟨by decide +kernel, by decide +kernel⟩, List.mem_of_getElem? (i := 803) (by decide +kernel), List.mem_of_getElem? (i := 1027) (by decide +kernel), List.mem_of_getElem? (i := 1028) (by decide +kernel)⟩
theorem lw_p21 : lw_okq (⟨"DutyRulesModel", "find", "(IIJJ)I"⟩, 40) := ⟨⟨by decide +kernel, by decide +kernel⟩, List.mem_of_getElem? (i := 803) (by decide +kernel), List.mem_of_getElem? (i := 1031) (by decide +kernel), List.mem_of_getElem? (i := 1032) (by decide +kernel)⟩
theorem lw_p22 : lw_okq (⟨"DutyRulesModel", "value", "(III)I"⟩, 40) := ⟨⟨by decide +kernel, by decide +kernel⟩, List.mem_of_getElem? (i := 803) (by decide +kernel), List.mem_of_getElem? (i := 1035) (by decide +kernel), List.mem_of_getElem? (i := 1036) (by decide +kernel)⟩
theorem lw_p23 : lw_okq (⟨"DutyRulesModel", "step", "(II)V"⟩, 40) := ⟨⟨by decide +kernel, by decide +kernel⟩, List.mem_of_getElem? (i := 803) (by decide +kernel), List.mem_of_getElem? (i := 1039) (by decide +kernel), List.mem_of_getElem? (i := 1040) (by decide +kernel)⟩
theorem lw_p24 : lw_okq (⟨"DutyRulesModel", "hasLitres", "(II)Z"⟩, 40) := ⟨⟨by decide +kernel, by decide +kernel⟩, List.mem_of_getElem? (i := 803) (by decide +kernel), List.mem_of_getElem? (i := 1080) (by decide +kernel), List.mem_of_getElem? (i := 1081) (by decide +kernel)⟩
def lw_privs_2 : List (MethodName × Nat) := [(⟨"DutyRulesModel", "put", "(I)V"⟩, 40), (⟨"DutyRulesModel", "digits", "(I)V"⟩, 40), (⟨"DutyRulesModel", "reckon", "(IJJ)Z"⟩, 40), (⟨"DutyRulesModel", "editionOf", "(J)I"⟩, 40), (⟨"DutyRulesModel", "holds", "(IIJJ)I"⟩, 40), (⟨"DutyRulesModel", "find", "(IIJJ)I"⟩, 40), (⟨"DutyRulesModel", "value", "(III)I"⟩, 40), (⟨"DutyRulesModel", "step", "(II)V"⟩, 40), (⟨"DutyRulesModel", "hasLitres", "(II)Z"⟩, 40)]
theorem lw_r2 : ∀ q ∈ lw_privs_2, lw_okq q := List.forall_mem_cons.mpr ⟨lw_p16, List.forall_mem_cons.mpr ⟨lw_p17, List.forall_mem_cons.mpr ⟨lw_p18, List.forall_mem_cons.mpr ⟨lw_p19, List.forall_mem_cons.mpr ⟨lw_p20, List.forall_mem_cons.mpr ⟨lw_p21, List.forall_mem_cons.mpr ⟨lw_p22, List.forall_mem_cons.mpr ⟨lw_p23, List.forall_mem_cons.mpr ⟨lw_p24, fun _ h => absurd h List.not_mem_nil⟩⟩⟩⟩⟩⟩⟩⟩⟩
def lw_privs : List (MethodName × Nat) := lw_privs_1 ++ (lw_privs_2)
def lw_tbl : List Cond := k2_sels lw_privs ++ tables_1
theorem lw_privs_ok : ∀ q ∈ lw_privs, lw_okq q := by
  show ∀ q ∈ lw_privs_1 ++ (lw_privs_2), lw_okq q
  exact List.forall_mem_append.mpr ⟨lw_r1, lw_r2⟩
-- ===== the tables' words that stay =====
def g_T : List Cond := lw_tbl.filter goodWord
theorem g_T_good : ∀ w ∈ g_T, (w.onTables && w.keeps) = true ∨ ∃ ty, w = .arrayClass ty := fun w h => good_of_word (List.mem_filter.mp h).2
theorem gT_in (i : Nat) {w : Cond} (h : lw_tbl[i]? = some w) (hg : goodWord w = true) : w ∈ g_T := List.mem_filter.mpr ⟨List.mem_of_getElem? h, hg⟩
theorem gT_1 (i : Nat) {w : Cond} (h : tables_1_1[i]? = some w) (hg : goodWord w = true) : w ∈ g_T := List.mem_filter.mpr ⟨List.mem_append_right _ (List.mem_append_left _ (List.mem_of_getElem? h)), hg⟩
theorem gT_2 (i : Nat) {w : Cond} (h : tables_1_2[i]? = some w) (hg : goodWord w = true) : w ∈ g_T := List.mem_filter.mpr ⟨List.mem_append_right _ (List.mem_append_right _ (List.mem_append_left _ (List.mem_of_getElem? h))), hg⟩
theorem gT_3 (i : Nat) {w : Cond} (h : tables_1_3[i]? = some w) (hg : goodWord w = true) : w ∈ g_T := List.mem_filter.mpr ⟨List.mem_append_right _ (List.mem_append_right _ (List.mem_append_right _ (List.mem_append_left _ (List.mem_of_getElem? h)))), hg⟩
theorem gT_4 (i : Nat) {w : Cond} (h : tables_1_4[i]? = some w) (hg : goodWord w = true) : w ∈ g_T := List.mem_filter.mpr ⟨List.mem_append_right _ (List.mem_append_right _ (List.mem_append_right _ (List.mem_append_right _ (List.mem_append_left _ (List.mem_of_getElem? h))))), hg⟩
theorem gT_5 (i : Nat) {w : Cond} (h : tables_1_5[i]? = some w) (hg : goodWord w = true) : w ∈ g_T := List.mem_filter.mpr ⟨List.mem_append_right _ (List.mem_append_right _ (List.mem_append_right _ (List.mem_append_right _ (List.mem_append_right _ (List.mem_of_getElem? h))))), hg⟩
-- ===== names =====
abbrev b_DR_init : ByteArray := prog_1_method_1_code
abbrev y_DR_init : MethodName := ⟨"DutyRules", "<init>", "()V"⟩
abbrev b_OB_init : ByteArray := object_method_1_code
abbrev y_OB_init : MethodName := ⟨"java/lang/Object", "<init>", "()V"⟩
abbrev b_SB_init : ByteArray := prog_17_method_1_code
abbrev y_SB_init : MethodName := ⟨"java/lang/StringBuilder", "<init>", "()V"⟩
abbrev b_AB_init : ByteArray := prog_12_method_2_code
abbrev y_AB_init : MethodName := ⟨"java/lang/AbstractStringBuilder", "<init>", "(I)V"⟩
abbrev b_U6_newBytesFor : ByteArray := prog_19_method_2_code
abbrev y_U6_newBytesFor : MethodName := ⟨"java/lang/StringUTF16", "newBytesFor", "(I)[B"⟩
abbrev b_U6_newBytesLength : ByteArray := prog_19_method_3_code
abbrev y_U6_newBytesLength : MethodName := ⟨"java/lang/StringUTF16", "newBytesLength", "(I)I"⟩
abbrev b_ED_init : ByteArray := prog_3_method_1_code
abbrev y_ED_init : MethodName := ⟨"DutyRules$Editions", "<init>", "()V"⟩
abbrev b_FS_init : ByteArray := prog_5_method_1_code
abbrev y_FS_init : MethodName := ⟨"DutyRules$Facts", "<init>", "()V"⟩
abbrev b_DU_init : ByteArray := prog_2_method_1_code
abbrev y_DU_init : MethodName := ⟨"DutyRules$Duty", "<init>", "()V"⟩
abbrev b_RU_init : ByteArray := prog_8_method_1_code
abbrev y_RU_init : MethodName := ⟨"DutyRules$Rules", "<init>", "()V"⟩
abbrev b_DR_unit : ByteArray := prog_1_method_2_code
abbrev y_DR_unit : MethodName := ⟨"DutyRules", "unit", "(I)Z"⟩
abbrev b_SB_length : ByteArray := prog_17_method_93_code
abbrev y_SB_length : MethodName := ⟨"java/lang/StringBuilder", "length", "()I"⟩
abbrev b_AB_length : ByteArray := prog_12_method_6_code
abbrev y_AB_length : MethodName := ⟨"java/lang/AbstractStringBuilder", "length", "()I"⟩
abbrev b_SB_append : ByteArray := prog_17_method_14_code
abbrev y_SB_append : MethodName := ⟨"java/lang/StringBuilder", "append", "(C)Ljava/lang/StringBuilder;"⟩
abbrev b_AB_append : ByteArray := prog_12_method_31_code
abbrev y_AB_append : MethodName := ⟨"java/lang/AbstractStringBuilder", "append", "(C)Ljava/lang/AbstractStringBuilder;"⟩
abbrev b_AB_ensureCapacityInternal : ByteArray := prog_12_method_9_code
abbrev y_AB_ensureCapacityInternal : MethodName := ⟨"java/lang/AbstractStringBuilder", "ensureCapacityInternal", "(I)V"⟩
abbrev b_AB_newCapacity : ByteArray := prog_12_method_10_code
abbrev y_AB_newCapacity : MethodName := ⟨"java/lang/AbstractStringBuilder", "newCapacity", "(I)I"⟩
abbrev b_AS_newLength : ByteArray := prog_22_method_27_code
abbrev y_AS_newLength : MethodName := ⟨"jdk/internal/util/ArraysSupport", "newLength", "(III)I"⟩
abbrev b_MA_max : ByteArray := prog_15_method_65_code
abbrev y_MA_max : MethodName := ⟨"java/lang/Math", "max", "(II)I"⟩
abbrev b_AS_hugeLength : ByteArray := prog_22_method_28_code
abbrev y_AS_hugeLength : MethodName := ⟨"jdk/internal/util/ArraysSupport", "hugeLength", "(II)I"⟩
abbrev b_AR_copyOf : ByteArray := prog_21_method_121_code
abbrev y_AR_copyOf : MethodName := ⟨"java/util/Arrays", "copyOf", "([BI)[B"⟩
abbrev b_MA_min : ByteArray := prog_15_method_69_code
abbrev y_MA_min : MethodName := ⟨"java/lang/Math", "min", "(II)I"⟩
abbrev b_AB_isLatin1 : ByteArray := prog_12_method_68_code
abbrev y_AB_isLatin1 : MethodName := ⟨"java/lang/AbstractStringBuilder", "isLatin1", "()Z"⟩
abbrev b_L1_canEncode : ByteArray := prog_18_method_3_code
abbrev y_L1_canEncode : MethodName := ⟨"java/lang/StringLatin1", "canEncode", "(C)Z"⟩
abbrev b_AB_inflate : ByteArray := prog_12_method_11_code
abbrev y_AB_inflate : MethodName := ⟨"java/lang/AbstractStringBuilder", "inflate", "()V"⟩
abbrev b_L1_inflate : ByteArray := prog_18_method_50_code
abbrev y_L1_inflate : MethodName := ⟨"java/lang/StringLatin1", "inflate", "([BI[BII)V"⟩
abbrev b_U6_inflate : ByteArray := prog_19_method_86_code
abbrev y_U6_inflate : MethodName := ⟨"java/lang/StringUTF16", "inflate", "([BI[BII)V"⟩
abbrev b_U6_checkBoundsOffCount : ByteArray := prog_19_method_94_code
abbrev y_U6_checkBoundsOffCount : MethodName := ⟨"java/lang/StringUTF16", "checkBoundsOffCount", "(II[B)V"⟩
abbrev b_U6_length : ByteArray := prog_19_method_6_code
abbrev y_U6_length : MethodName := ⟨"java/lang/StringUTF16", "length", "([B)I"⟩
abbrev b_ST_checkBoundsOffCount : ByteArray := prog_16_method_157_code
abbrev y_ST_checkBoundsOffCount : MethodName := ⟨"java/lang/String", "checkBoundsOffCount", "(III)I"⟩
abbrev b_PR_checkFromIndexSize : ByteArray := prog_23_method_13_code
abbrev y_PR_checkFromIndexSize : MethodName := ⟨"jdk/internal/util/Preconditions", "checkFromIndexSize", "(IIILjava/util/function/BiFunction;)I"⟩
abbrev b_U6_putChar : ByteArray := prog_19_method_4_code
abbrev y_U6_putChar : MethodName := ⟨"java/lang/StringUTF16", "putChar", "([BII)V"⟩
abbrev b_U6_putCharSB : ByteArray := prog_19_method_71_code
abbrev y_U6_putCharSB : MethodName := ⟨"java/lang/StringUTF16", "putCharSB", "([BII)V"⟩
abbrev b_U6_checkIndex : ByteArray := prog_19_method_91_code
abbrev y_U6_checkIndex : MethodName := ⟨"java/lang/StringUTF16", "checkIndex", "(I[B)V"⟩
abbrev b_ST_checkIndex : ByteArray := prog_16_method_155_code
abbrev y_ST_checkIndex : MethodName := ⟨"java/lang/String", "checkIndex", "(II)V"⟩
abbrev b_PR_checkIndex : ByteArray := prog_23_method_11_code
abbrev y_PR_checkIndex : MethodName := ⟨"jdk/internal/util/Preconditions", "checkIndex", "(IILjava/util/function/BiFunction;)I"⟩
abbrev b_DR_read : ByteArray := prog_1_method_3_code
abbrev y_DR_read : MethodName := ⟨"DutyRules", "read", "()I"⟩
abbrev b_SB_toString : ByteArray := prog_17_method_42_code
abbrev y_SB_toString : MethodName := ⟨"java/lang/StringBuilder", "toString", "()Ljava/lang/String;"⟩
abbrev b_ST_init : ByteArray := prog_16_method_53_code
abbrev y_ST_init : MethodName := ⟨"java/lang/String", "<init>", "(Ljava/lang/StringBuilder;)V"⟩
abbrev b_ST_init2 : ByteArray := prog_16_method_150_code
abbrev y_ST_init2 : MethodName := ⟨"java/lang/String", "<init>", "(Ljava/lang/AbstractStringBuilder;Ljava/lang/Void;)V"⟩
abbrev b_AB_getValue : ByteArray := prog_12_method_64_code
abbrev y_AB_getValue : MethodName := ⟨"java/lang/AbstractStringBuilder", "getValue", "()[B"⟩
abbrev b_AR_copyOfRange : ByteArray := prog_21_method_132_code
abbrev y_AR_copyOfRange : MethodName := ⟨"java/util/Arrays", "copyOfRange", "([BII)[B"⟩
abbrev b_AR_copyOfRangeByte : ByteArray := prog_21_method_133_code
abbrev y_AR_copyOfRangeByte : MethodName := ⟨"java/util/Arrays", "copyOfRangeByte", "([BII)[B"⟩
abbrev b_AR_checkLength : ByteArray := prog_21_method_131_code
abbrev y_AR_checkLength : MethodName := ⟨"java/util/Arrays", "checkLength", "(II)V"⟩
abbrev b_U6_compress : ByteArray := prog_19_method_17_code
abbrev y_U6_compress : MethodName := ⟨"java/lang/StringUTF16", "compress", "([BII)[B"⟩
abbrev b_U6_compress2 : ByteArray := prog_19_method_22_code
abbrev y_U6_compress2 : MethodName := ⟨"java/lang/StringUTF16", "compress", "([BI[BII)I"⟩
abbrev b_U6_getChar : ByteArray := prog_19_method_5_code
abbrev y_U6_getChar : MethodName := ⟨"java/lang/StringUTF16", "getChar", "([BI)C"⟩
abbrev b_U6_coderFromArrayLen : ByteArray := prog_19_method_15_code
abbrev y_U6_coderFromArrayLen : MethodName := ⟨"java/lang/StringUTF16", "coderFromArrayLen", "([BI)B"⟩
abbrev b_WO_init : ByteArray := prog_9_method_1_code
abbrev y_WO_init : MethodName := ⟨"DutyRules$Words", "<init>", "(Ljava/lang/String;)V"⟩
abbrev b_WO_advance : ByteArray := prog_9_method_2_code
abbrev y_WO_advance : MethodName := ⟨"DutyRules$Words", "advance", "()V"⟩
abbrev b_ST_length : ByteArray := prog_16_method_54_code
abbrev y_ST_length : MethodName := ⟨"java/lang/String", "length", "()I"⟩
abbrev b_ST_coder : ByteArray := prog_16_method_152_code
abbrev y_ST_coder : MethodName := ⟨"java/lang/String", "coder", "()B"⟩
abbrev b_ST_charAt : ByteArray := prog_16_method_56_code
abbrev y_ST_charAt : MethodName := ⟨"java/lang/String", "charAt", "(I)C"⟩
abbrev b_ST_isLatin1 : ByteArray := prog_16_method_154_code
abbrev y_ST_isLatin1 : MethodName := ⟨"java/lang/String", "isLatin1", "()Z"⟩
abbrev b_L1_charAt : ByteArray := prog_18_method_2_code
abbrev y_L1_charAt : MethodName := ⟨"java/lang/StringLatin1", "charAt", "([BI)C"⟩
abbrev b_U6_charAt : ByteArray := prog_19_method_83_code
abbrev y_U6_charAt : MethodName := ⟨"java/lang/StringUTF16", "charAt", "([BI)C"⟩
abbrev b_WO_isBlank : ByteArray := prog_9_method_7_code
abbrev y_WO_isBlank : MethodName := ⟨"DutyRules$Words", "isBlank", "(C)Z"⟩
abbrev b_SB_setLength : ByteArray := prog_17_method_89_code
abbrev y_SB_setLength : MethodName := ⟨"java/lang/StringBuilder", "setLength", "(I)V"⟩
abbrev b_AB_setLength : ByteArray := prog_12_method_13_code
abbrev y_AB_setLength : MethodName := ⟨"java/lang/AbstractStringBuilder", "setLength", "(I)V"⟩
abbrev b_L1_fillNull : ByteArray := prog_18_method_48_code
abbrev y_L1_fillNull : MethodName := ⟨"java/lang/StringLatin1", "fillNull", "([BII)V"⟩
abbrev b_AR_fill : ByteArray := prog_21_method_110_code
abbrev y_AR_fill : MethodName := ⟨"java/util/Arrays", "fill", "([BIIB)V"⟩
abbrev b_AR_rangeCheck : ByteArray := prog_21_method_30_code
abbrev y_AR_rangeCheck : MethodName := ⟨"java/util/Arrays", "rangeCheck", "(III)V"⟩
abbrev b_U6_fillNull : ByteArray := prog_19_method_70_code
abbrev y_U6_fillNull : MethodName := ⟨"java/lang/StringUTF16", "fillNull", "([BII)V"⟩
abbrev b_GR_fill : ByteArray := prog_6_method_2_code
abbrev y_GR_fill : MethodName := ⟨"DutyRules$Grammar", "fill", "(LDutyRules$Rules;LDutyRules$Words;)Z"⟩
abbrev b_WO_isEnd : ByteArray := prog_9_method_3_code
abbrev y_WO_isEnd : MethodName := ⟨"DutyRules$Words", "isEnd", "()Z"⟩
abbrev b_GR_addRule : ByteArray := prog_6_method_3_code
abbrev y_GR_addRule : MethodName := ⟨"DutyRules$Grammar", "addRule", "(LDutyRules$Rules;LDutyRules$Words;)Z"⟩
abbrev b_GR_kindBegunBy : ByteArray := prog_6_method_4_code
abbrev y_GR_kindBegunBy : MethodName := ⟨"DutyRules$Grammar", "kindBegunBy", "(LDutyRules$Words;)I"⟩
abbrev b_GR_formOf : ByteArray := prog_6_method_6_code
abbrev y_GR_formOf : MethodName := ⟨"DutyRules$Grammar", "formOf", "(I)Ljava/lang/String;"⟩
abbrev b_WO_isSameWordAs : ByteArray := prog_9_method_4_code
abbrev y_WO_isSameWordAs : MethodName := ⟨"DutyRules$Words", "isSameWordAs", "(LDutyRules$Words;)Z"⟩
abbrev b_RU_mayBegin : ByteArray := prog_8_method_2_code
abbrev y_RU_mayBegin : MethodName := ⟨"DutyRules$Rules", "mayBegin", "(I)Z"⟩
abbrev b_RU_firstOfKind : ByteArray := prog_8_method_7_code
abbrev y_RU_firstOfKind : MethodName := ⟨"DutyRules$Rules", "firstOfKind", "(I)I"⟩
abbrev b_RU_begin : ByteArray := prog_8_method_3_code
abbrev y_RU_begin : MethodName := ⟨"DutyRules$Rules", "begin", "(I)V"⟩
abbrev b_WO_firstByte : ByteArray := prog_9_method_5_code
abbrev y_WO_firstByte : MethodName := ⟨"DutyRules$Words", "firstByte", "()C"⟩
abbrev b_GR_isSlot : ByteArray := prog_6_method_7_code
abbrev y_GR_isSlot : MethodName := ⟨"DutyRules$Grammar", "isSlot", "(C)Z"⟩
abbrev b_WO_asNumber : ByteArray := prog_9_method_6_code
abbrev y_WO_asNumber : MethodName := ⟨"DutyRules$Words", "asNumber", "()I"⟩
abbrev b_GR_isInRange : ByteArray := prog_6_method_8_code
abbrev y_GR_isInRange : MethodName := ⟨"DutyRules$Grammar", "isInRange", "(IC)Z"⟩
abbrev b_RU_put : ByteArray := prog_8_method_4_code
abbrev y_RU_put : MethodName := ⟨"DutyRules$Rules", "put", "(II)Z"⟩
abbrev b_RU_number : ByteArray := prog_8_method_6_code
abbrev y_RU_number : MethodName := ⟨"DutyRules$Rules", "number", "(II)I"⟩
abbrev b_GR_asText : ByteArray := prog_6_method_5_code
abbrev y_GR_asText : MethodName := ⟨"DutyRules$Grammar", "asText", "(LDutyRules$Rules;)Ljava/lang/String;"⟩
abbrev b_RU_kind : ByteArray := prog_8_method_5_code
abbrev y_RU_kind : MethodName := ⟨"DutyRules$Rules", "kind", "(I)I"⟩
abbrev b_SB_append2 : ByteArray := prog_17_method_15_code
abbrev y_SB_append2 : MethodName := ⟨"java/lang/StringBuilder", "append", "(I)Ljava/lang/StringBuilder;"⟩
abbrev b_AB_append2 : ByteArray := prog_12_method_32_code
abbrev y_AB_append2 : MethodName := ⟨"java/lang/AbstractStringBuilder", "append", "(I)Ljava/lang/AbstractStringBuilder;"⟩
abbrev b_IN_stringSize : ByteArray := prog_14_method_13_code
abbrev y_IN_stringSize : MethodName := ⟨"java/lang/Integer", "stringSize", "(I)I"⟩
abbrev b_IN_getChars : ByteArray := prog_14_method_12_code
abbrev y_IN_getChars : MethodName := ⟨"java/lang/Integer", "getChars", "(II[B)I"⟩
abbrev b_U6_getChars : ByteArray := prog_19_method_77_code
abbrev y_U6_getChars : MethodName := ⟨"java/lang/StringUTF16", "getChars", "(III[B)I"⟩
abbrev b_U6_checkBoundsBeginEnd : ByteArray := prog_19_method_93_code
abbrev y_U6_checkBoundsBeginEnd : MethodName := ⟨"java/lang/StringUTF16", "checkBoundsBeginEnd", "(II[B)V"⟩
abbrev b_ST_checkBoundsBeginEnd : ByteArray := prog_16_method_158_code
abbrev y_ST_checkBoundsBeginEnd : MethodName := ⟨"java/lang/String", "checkBoundsBeginEnd", "(III)V"⟩
abbrev b_PR_checkFromToIndex : ByteArray := prog_23_method_12_code
abbrev y_PR_checkFromToIndex : MethodName := ⟨"jdk/internal/util/Preconditions", "checkFromToIndex", "(IIILjava/util/function/BiFunction;)I"⟩
abbrev b_U6_getChars2 : ByteArray := prog_19_method_89_code
abbrev y_U6_getChars2 : MethodName := ⟨"java/lang/StringUTF16", "getChars", "(II[B)I"⟩
abbrev b_DR_edition : ByteArray := prog_1_method_4_code
abbrev y_DR_edition : MethodName := ⟨"DutyRules", "edition", "(J)I"⟩
abbrev b_DR_isDay : ByteArray := prog_1_method_18_code
abbrev y_DR_isDay : MethodName := ⟨"DutyRules", "isDay", "(J)Z"⟩
abbrev b_ED_add : ByteArray := prog_3_method_2_code
abbrev y_ED_add : MethodName := ⟨"DutyRules$Editions", "add", "(LDutyRules$Rules;I)I"⟩
abbrev b_DR_fact : ByteArray := prog_1_method_5_code
abbrev y_DR_fact : MethodName := ⟨"DutyRules", "fact", "(IIJJJ)Z"⟩
abbrev b_DR_isLot : ByteArray := prog_1_method_16_code
abbrev y_DR_isLot : MethodName := ⟨"DutyRules", "isLot", "(I)Z"⟩
abbrev b_DR_isFactKind : ByteArray := prog_1_method_17_code
abbrev y_DR_isFactKind : MethodName := ⟨"DutyRules", "isFactKind", "(I)Z"⟩
abbrev b_DR_greatestValue : ByteArray := prog_1_method_22_code
abbrev y_DR_greatestValue : MethodName := ⟨"DutyRules", "greatestValue", "(I)I"⟩
abbrev b_FS_add : ByteArray := prog_5_method_2_code
abbrev y_FS_add : MethodName := ⟨"DutyRules$Facts", "add", "(IIII)Z"⟩
abbrev b_FS_placeOf : ByteArray := prog_5_method_7_code
abbrev y_FS_placeOf : MethodName := ⟨"DutyRules$Facts", "placeOf", "(II)I"⟩
abbrev b_FA_init : ByteArray := prog_4_method_1_code
abbrev y_FA_init : MethodName := ⟨"DutyRules$Fact", "<init>", "(IILDutyRules$Fact;)V"⟩
abbrev b_DR_told : ByteArray := prog_1_method_6_code
abbrev y_DR_told : MethodName := ⟨"DutyRules", "told", "(IIJ)Z"⟩
abbrev b_FS_learnNewest : ByteArray := prog_5_method_3_code
abbrev y_FS_learnNewest : MethodName := ⟨"DutyRules$Facts", "learnNewest", "(III)Z"⟩
abbrev b_FS_newestOf : ByteArray := prog_5_method_6_code
abbrev y_FS_newestOf : MethodName := ⟨"DutyRules$Facts", "newestOf", "(II)LDutyRules$Fact;"⟩
abbrev b_DR_duty : ByteArray := prog_1_method_7_code
abbrev y_DR_duty : MethodName := ⟨"DutyRules", "duty", "(IJJI)J"⟩
abbrev b_DR_isPart : ByteArray := prog_1_method_20_code
abbrev y_DR_isPart : MethodName := ⟨"DutyRules", "isPart", "(I)Z"⟩
abbrev b_DU_reckon : ByteArray := prog_2_method_2_code
abbrev y_DU_reckon : MethodName := ⟨"DutyRules$Duty", "reckon", "(LDutyRules$Editions;LDutyRules$Facts;III)V"⟩
abbrev b_ED_heldOn : ByteArray := prog_3_method_3_code
abbrev y_ED_heldOn : MethodName := ⟨"DutyRules$Editions", "heldOn", "(I)LDutyRules$Rules;"⟩
abbrev b_FS_heldValue : ByteArray := prog_5_method_4_code
abbrev y_FS_heldValue : MethodName := ⟨"DutyRules$Facts", "heldValue", "(IIII)I"⟩
abbrev b_DU_reasonToBeOpen : ByteArray := prog_2_method_3_code
abbrev y_DU_reasonToBeOpen : MethodName := ⟨"DutyRules$Duty", "reasonToBeOpen", "(LDutyRules$Rules;)I"⟩
abbrev b_RU_firstRate : ByteArray := prog_8_method_9_code
abbrev y_RU_firstRate : MethodName := ⟨"DutyRules$Rules", "firstRate", "(II)I"⟩
abbrev b_RU_firstOfGoods : ByteArray := prog_8_method_8_code
abbrev y_RU_firstOfGoods : MethodName := ⟨"DutyRules$Rules", "firstOfGoods", "(II)I"⟩
abbrev b_DU_doSteps : ByteArray := prog_2_method_4_code
abbrev y_DU_doSteps : MethodName := ⟨"DutyRules$Duty", "doSteps", "(LDutyRules$Rules;)V"⟩
abbrev b_DU_addStep : ByteArray := prog_2_method_9_code
abbrev y_DU_addStep : MethodName := ⟨"DutyRules$Duty", "addStep", "(II)V"⟩
abbrev b_DU_freeLost : ByteArray := prog_2_method_5_code
abbrev y_DU_freeLost : MethodName := ⟨"DutyRules$Duty", "freeLost", "(LDutyRules$Rules;J)V"⟩
abbrev b_MA_min2 : ByteArray := prog_15_method_70_code
abbrev y_MA_min2 : MethodName := ⟨"java/lang/Math", "min", "(JJ)J"⟩
abbrev b_DU_lessenByAway : ByteArray := prog_2_method_6_code
abbrev y_DU_lessenByAway : MethodName := ⟨"DutyRules$Duty", "lessenByAway", "(LDutyRules$Rules;J)V"⟩
abbrev b_DU_lessenForSmall : ByteArray := prog_2_method_7_code
abbrev y_DU_lessenForSmall : MethodName := ⟨"DutyRules$Duty", "lessenForSmall", "(LDutyRules$Rules;)V"⟩
abbrev b_DU_roundToMultiple : ByteArray := prog_2_method_8_code
abbrev y_DU_roundToMultiple : MethodName := ⟨"DutyRules$Duty", "roundToMultiple", "(LDutyRules$Rules;)V"⟩
abbrev b_DR_reduced : ByteArray := prog_1_method_23_code
abbrev y_DR_reduced : MethodName := ⟨"DutyRules", "reduced", "(JJI)J"⟩
abbrev b_DR_commonDivisor : ByteArray := prog_1_method_24_code
abbrev y_DR_commonDivisor : MethodName := ⟨"DutyRules", "commonDivisor", "(JJ)J"⟩
abbrev b_DR_open : ByteArray := prog_1_method_8_code
abbrev y_DR_open : MethodName := ⟨"DutyRules", "open", "(I)I"⟩
abbrev b_DR_step : ByteArray := prog_1_method_9_code
abbrev y_DR_step : MethodName := ⟨"DutyRules", "step", "(III)I"⟩
abbrev b_DR_allowed : ByteArray := prog_1_method_10_code
abbrev y_DR_allowed : MethodName := ⟨"DutyRules", "allowed", "(II)J"⟩
abbrev b_DR_isMonth : ByteArray := prog_1_method_19_code
abbrev y_DR_isMonth : MethodName := ⟨"DutyRules", "isMonth", "(I)Z"⟩
abbrev b_DR_lastDayOf : ByteArray := prog_1_method_21_code
abbrev y_DR_lastDayOf : MethodName := ⟨"DutyRules", "lastDayOf", "(I)I"⟩
abbrev b_DR_returned : ByteArray := prog_1_method_11_code
abbrev y_DR_returned : MethodName := ⟨"DutyRules", "returned", "(I)I"⟩
abbrev b_DR_returnOf : ByteArray := prog_1_method_26_code
abbrev y_DR_returnOf : MethodName := ⟨"DutyRules", "returnOf", "(I)LDutyRules$Return;"⟩
abbrev b_RE_init : ByteArray := prog_7_method_1_code
abbrev y_RE_init : MethodName := ⟨"DutyRules$Return", "<init>", "(ILDutyRules$Return;)V"⟩
abbrev b_FS_hasLitres : ByteArray := prog_5_method_5_code
abbrev y_FS_hasLitres : MethodName := ⟨"DutyRules$Facts", "hasLitres", "(III)Z"⟩
abbrev b_DR_centsOf : ByteArray := prog_1_method_25_code
abbrev y_DR_centsOf : MethodName := ⟨"DutyRules", "centsOf", "(III)J"⟩
abbrev b_RE_put : ByteArray := prog_7_method_2_code
abbrev y_RE_put : MethodName := ⟨"DutyRules$Return", "put", "(IJ)V"⟩
abbrev b_RE_isSettled : ByteArray := prog_7_method_3_code
abbrev y_RE_isSettled : MethodName := ⟨"DutyRules$Return", "isSettled", "(I)Z"⟩
abbrev b_RE_count : ByteArray := prog_7_method_4_code
abbrev y_RE_count : MethodName := ⟨"DutyRules$Return", "count", "()I"⟩
abbrev b_DR_row : ByteArray := prog_1_method_12_code
abbrev y_DR_row : MethodName := ⟨"DutyRules", "row", "(II)J"⟩
abbrev b_RE_lotOfRow : ByteArray := prog_7_method_5_code
abbrev y_RE_lotOfRow : MethodName := ⟨"DutyRules$Return", "lotOfRow", "(I)I"⟩
abbrev b_DR_difference : ByteArray := prog_1_method_13_code
abbrev y_DR_difference : MethodName := ⟨"DutyRules", "difference", "(IJ)J"⟩
abbrev b_DR_write : ByteArray := prog_1_method_14_code
abbrev y_DR_write : MethodName := ⟨"DutyRules", "write", "(I)I"⟩
abbrev b_DR_interest : ByteArray := prog_1_method_15_code
abbrev y_DR_interest : MethodName := ⟨"DutyRules", "interest", "(IJI)J"⟩
abbrev b_MA_max2 : ByteArray := prog_15_method_66_code
abbrev y_MA_max2 : MethodName := ⟨"java/lang/Math", "max", "(JJ)J"⟩
abbrev b_RE_settledSum : ByteArray := prog_7_method_6_code
abbrev y_RE_settledSum : MethodName := ⟨"DutyRules$Return", "settledSum", "()J"⟩
abbrev b_DR_lateShare : ByteArray := prog_1_method_27_code
abbrev y_DR_lateShare : MethodName := ⟨"DutyRules", "lateShare", "(I)J"⟩
abbrev b_MO_init : ByteArray := prog_11_method_1_code
abbrev y_MO_init : MethodName := ⟨"DutyRulesModel", "<init>", "()V"⟩
abbrev b_MO_unit : ByteArray := prog_11_method_2_code
abbrev y_MO_unit : MethodName := ⟨"DutyRulesModel", "unit", "(I)Z"⟩
abbrev b_MO_read : ByteArray := prog_11_method_11_code
abbrev y_MO_read : MethodName := ⟨"DutyRulesModel", "read", "()I"⟩
abbrev b_MO_next : ByteArray := prog_11_method_4_code
abbrev y_MO_next : MethodName := ⟨"DutyRulesModel", "next", "()V"⟩
abbrev b_MO_isBlank : ByteArray := prog_11_method_3_code
abbrev y_MO_isBlank : MethodName := ⟨"DutyRulesModel", "isBlank", "(I)Z"⟩
abbrev b_MO_rule : ByteArray := prog_11_method_10_code
abbrev y_MO_rule : MethodName := ⟨"DutyRulesModel", "rule", "(I)Z"⟩
abbrev b_MO_is : ByteArray := prog_11_method_5_code
abbrev y_MO_is : MethodName := ⟨"DutyRulesModel", "is", "(I)Z"⟩
abbrev b_MO_wordSize : ByteArray := prog_11_method_6_code
abbrev y_MO_wordSize : MethodName := ⟨"DutyRulesModel", "wordSize", "(I)I"⟩
abbrev b_MO_wordByte : ByteArray := prog_11_method_7_code
abbrev y_MO_wordByte : MethodName := ⟨"DutyRulesModel", "wordByte", "(II)I"⟩
abbrev b_MO_part : ByteArray := prog_11_method_9_code
abbrev y_MO_part : MethodName := ⟨"DutyRulesModel", "part", "(II)I"⟩
abbrev b_MO_number : ByteArray := prog_11_method_8_code
abbrev y_MO_number : MethodName := ⟨"DutyRulesModel", "number", "(I)I"⟩
abbrev b_MO_edition : ByteArray := prog_11_method_12_code
abbrev y_MO_edition : MethodName := ⟨"DutyRulesModel", "edition", "(J)I"⟩
abbrev b_MO_write : ByteArray := prog_11_method_16_code
abbrev y_MO_write : MethodName := ⟨"DutyRulesModel", "write", "(I)I"⟩
abbrev b_MO_say : ByteArray := prog_11_method_14_code
abbrev y_MO_say : MethodName := ⟨"DutyRulesModel", "say", "(I)V"⟩
abbrev b_MO_put : ByteArray := prog_11_method_13_code
abbrev y_MO_put : MethodName := ⟨"DutyRulesModel", "put", "(I)V"⟩
abbrev b_MO_digits : ByteArray := prog_11_method_15_code
abbrev y_MO_digits : MethodName := ⟨"DutyRulesModel", "digits", "(I)V"⟩
abbrev b_MO_fact : ByteArray := prog_11_method_20_code
abbrev y_MO_fact : MethodName := ⟨"DutyRulesModel", "fact", "(IIJJJ)Z"⟩
abbrev b_MO_isLot : ByteArray := prog_11_method_18_code
abbrev y_MO_isLot : MethodName := ⟨"DutyRulesModel", "isLot", "(I)Z"⟩
abbrev b_MO_isDay : ByteArray := prog_11_method_17_code
abbrev y_MO_isDay : MethodName := ⟨"DutyRulesModel", "isDay", "(J)Z"⟩
abbrev b_MO_most : ByteArray := prog_11_method_19_code
abbrev y_MO_most : MethodName := ⟨"DutyRulesModel", "most", "(I)J"⟩
abbrev b_MO_told : ByteArray := prog_11_method_21_code
abbrev y_MO_told : MethodName := ⟨"DutyRulesModel", "told", "(IIJ)Z"⟩
abbrev b_MO_duty : ByteArray := prog_11_method_31_code
abbrev y_MO_duty : MethodName := ⟨"DutyRulesModel", "duty", "(IJJI)J"⟩
abbrev b_MO_reckon : ByteArray := prog_11_method_28_code
abbrev y_MO_reckon : MethodName := ⟨"DutyRulesModel", "reckon", "(IJJ)Z"⟩
abbrev b_MO_editionOf : ByteArray := prog_11_method_23_code
abbrev y_MO_editionOf : MethodName := ⟨"DutyRulesModel", "editionOf", "(J)I"⟩
abbrev b_MO_holds : ByteArray := prog_11_method_22_code
abbrev y_MO_holds : MethodName := ⟨"DutyRulesModel", "holds", "(IIJJ)I"⟩
abbrev b_MO_find : ByteArray := prog_11_method_24_code
abbrev y_MO_find : MethodName := ⟨"DutyRulesModel", "find", "(IIJJ)I"⟩
abbrev b_MO_value : ByteArray := prog_11_method_25_code
abbrev y_MO_value : MethodName := ⟨"DutyRulesModel", "value", "(III)I"⟩
abbrev b_MO_step : ByteArray := prog_11_method_26_code
abbrev y_MO_step : MethodName := ⟨"DutyRulesModel", "step", "(II)V"⟩
abbrev b_MO_least : ByteArray := prog_11_method_27_code
abbrev y_MO_least : MethodName := ⟨"DutyRulesModel", "least", "(JJ)J"⟩
abbrev b_MO_fraction : ByteArray := prog_11_method_30_code
abbrev y_MO_fraction : MethodName := ⟨"DutyRulesModel", "fraction", "(JJI)J"⟩
abbrev b_MO_divisor : ByteArray := prog_11_method_29_code
abbrev y_MO_divisor : MethodName := ⟨"DutyRulesModel", "divisor", "(JJ)J"⟩
abbrev b_MO_open : ByteArray := prog_11_method_32_code
abbrev y_MO_open : MethodName := ⟨"DutyRulesModel", "open", "(I)I"⟩
abbrev b_MO_step2 : ByteArray := prog_11_method_33_code
abbrev y_MO_step2 : MethodName := ⟨"DutyRulesModel", "step", "(III)I"⟩
abbrev b_MO_allowed : ByteArray := prog_11_method_36_code
abbrev y_MO_allowed : MethodName := ⟨"DutyRulesModel", "allowed", "(II)J"⟩
abbrev b_MO_isMonth : ByteArray := prog_11_method_34_code
abbrev y_MO_isMonth : MethodName := ⟨"DutyRulesModel", "isMonth", "(I)Z"⟩
abbrev b_MO_lastOf : ByteArray := prog_11_method_35_code
abbrev y_MO_lastOf : MethodName := ⟨"DutyRulesModel", "lastOf", "(I)J"⟩
abbrev b_MO_returned : ByteArray := prog_11_method_38_code
abbrev y_MO_returned : MethodName := ⟨"DutyRulesModel", "returned", "(I)I"⟩
abbrev b_MO_hasLitres : ByteArray := prog_11_method_37_code
abbrev y_MO_hasLitres : MethodName := ⟨"DutyRulesModel", "hasLitres", "(II)Z"⟩
abbrev b_MO_row : ByteArray := prog_11_method_39_code
abbrev y_MO_row : MethodName := ⟨"DutyRulesModel", "row", "(II)J"⟩
abbrev b_MO_difference : ByteArray := prog_11_method_40_code
abbrev y_MO_difference : MethodName := ⟨"DutyRulesModel", "difference", "(IJ)J"⟩
abbrev b_MO_interest : ByteArray := prog_11_method_41_code
abbrev y_MO_interest : MethodName := ⟨"DutyRulesModel", "interest", "(IJI)J"⟩
def T_DR : u_T := fun k => match k with
  | 0 => ("DutyRules", "text", "Ljava/lang/StringBuilder;", true)
  | 1 => ("DutyRules", "editions", "LDutyRules$Editions;", true)
  | 2 => ("DutyRules", "facts", "LDutyRules$Facts;", true)
  | 3 => ("DutyRules", "asked", "LDutyRules$Duty;", true)
  | 4 => ("DutyRules", "inner", "LDutyRules$Duty;", true)
  | 5 => ("DutyRules", "lastRead", "LDutyRules$Rules;", false)
  | 6 => ("DutyRules", "written", "Ljava/lang/String;", false)
  | 7 => ("DutyRules", "wasAsked", "Z", false)
  | 8 => ("DutyRules", "newestReturn", "LDutyRules$Return;", false)
  | _ => ("DutyRules", "lastReturn", "LDutyRules$Return;", false)
def t_DR : Nat → FieldType := fun k => match k with
  | 0 => .object "java/lang/StringBuilder"
  | 1 => .object "DutyRules$Editions"
  | 2 => .object "DutyRules$Facts"
  | 3 => .object "DutyRules$Duty"
  | 4 => .object "DutyRules$Duty"
  | 5 => .object "DutyRules$Rules"
  | 6 => .object "java/lang/String"
  | 7 => .boolean
  | 8 => .object "DutyRules$Return"
  | _ => .object "DutyRules$Return"
theorem n_DR : ∀ a, a < 10 → ∀ b, b < 10 → a ≠ b → (T_DR a).2.1 ≠ (T_DR b).2.1 := by decide +kernel
theorem k_DR : ∀ k, k < 10 → parseFieldDescriptor (T_DR k).2.2.1 = some (t_DR k) := by decide +kernel
def T_DU : u_T := fun k => match k with
  | 0 => ("DutyRules$Duty", "lot", "I", false)
  | 1 => ("DutyRules$Duty", "reason", "I", false)
  | 2 => ("DutyRules$Duty", "steps", "I", false)
  | 3 => ("DutyRules$Duty", "amount", "J", false)
  | 4 => ("DutyRules$Duty", "free", "J", false)
  | 5 => ("DutyRules$Duty", "held", "[I", true)
  | 6 => ("DutyRules$Duty", "letters", "[I", true)
  | 7 => ("DutyRules$Duty", "numbers", "[I", true)
  | _ => ("DutyRules$Duty", "centsBehind", "[J", true)
def t_DU : Nat → FieldType := fun k => match k with
  | 0 => .int
  | 1 => .int
  | 2 => .int
  | 3 => .long
  | 4 => .long
  | 5 => .array .int
  | 6 => .array .int
  | 7 => .array .int
  | _ => .array .long
theorem n_DU : ∀ a, a < 9 → ∀ b, b < 9 → a ≠ b → (T_DU a).2.1 ≠ (T_DU b).2.1 := by decide +kernel
theorem k_DU : ∀ k, k < 9 → parseFieldDescriptor (T_DU k).2.2.1 = some (t_DU k) := by decide +kernel
def T_ED : u_T := fun k => match k with
  | 0 => ("DutyRules$Editions", "count", "I", false)
  | 1 => ("DutyRules$Editions", "rules", "[LDutyRules$Rules;", true)
  | _ => ("DutyRules$Editions", "froms", "[I", true)
def t_ED : Nat → FieldType := fun k => match k with
  | 0 => .int
  | 1 => .array (.object "DutyRules$Rules")
  | _ => .array .int
theorem n_ED : ∀ a, a < 3 → ∀ b, b < 3 → a ≠ b → (T_ED a).2.1 ≠ (T_ED b).2.1 := by decide +kernel
theorem k_ED : ∀ k, k < 3 → parseFieldDescriptor (T_ED k).2.2.1 = some (t_ED k) := by decide +kernel
def T_FA : u_T := fun k => match k with
  | 0 => ("DutyRules$Fact", "day", "I", true)
  | 1 => ("DutyRules$Fact", "value", "I", true)
  | 2 => ("DutyRules$Fact", "before", "LDutyRules$Fact;", true)
  | _ => ("DutyRules$Fact", "knownFrom", "I", false)
def t_FA : Nat → FieldType := fun k => match k with
  | 0 => .int
  | 1 => .int
  | 2 => .object "DutyRules$Fact"
  | _ => .int
theorem n_FA : ∀ a, a < 4 → ∀ b, b < 4 → a ≠ b → (T_FA a).2.1 ≠ (T_FA b).2.1 := by decide +kernel
theorem k_FA : ∀ k, k < 4 → parseFieldDescriptor (T_FA k).2.2.1 = some (t_FA k) := by decide +kernel
def T_FS : u_T := fun k => match k with
  | 0 => ("DutyRules$Facts", "count", "I", false)
  | 1 => ("DutyRules$Facts", "lastKnowing", "I", false)
  | _ => ("DutyRules$Facts", "newest", "[LDutyRules$Fact;", true)
def t_FS : Nat → FieldType := fun k => match k with
  | 0 => .int
  | 1 => .int
  | _ => .array (.object "DutyRules$Fact")
theorem n_FS : ∀ a, a < 3 → ∀ b, b < 3 → a ≠ b → (T_FS a).2.1 ≠ (T_FS b).2.1 := by decide +kernel
theorem k_FS : ∀ k, k < 3 → parseFieldDescriptor (T_FS k).2.2.1 = some (t_FS k) := by decide +kernel
def T_RE : u_T := fun k => match k with
  | 0 => ("DutyRules$Return", "month", "I", true)
  | 1 => ("DutyRules$Return", "before", "LDutyRules$Return;", true)
  | 2 => ("DutyRules$Return", "hasRow", "[Z", true)
  | 3 => ("DutyRules$Return", "cents", "[J", true)
  | _ => ("DutyRules$Return", "changes", "[J", true)
def t_RE : Nat → FieldType := fun k => match k with
  | 0 => .int
  | 1 => .object "DutyRules$Return"
  | 2 => .array .boolean
  | 3 => .array .long
  | _ => .array .long
theorem n_RE : ∀ a, a < 5 → ∀ b, b < 5 → a ≠ b → (T_RE a).2.1 ≠ (T_RE b).2.1 := by decide +kernel
theorem k_RE : ∀ k, k < 5 → parseFieldDescriptor (T_RE k).2.2.1 = some (t_RE k) := by decide +kernel
def T_RU : u_T := fun k => match k with
  | 0 => ("DutyRules$Rules", "count", "I", false)
  | 1 => ("DutyRules$Rules", "kinds", "[I", true)
  | _ => ("DutyRules$Rules", "numbers", "[I", true)
def t_RU : Nat → FieldType := fun k => match k with
  | 0 => .int
  | 1 => .array .int
  | _ => .array .int
theorem n_RU : ∀ a, a < 3 → ∀ b, b < 3 → a ≠ b → (T_RU a).2.1 ≠ (T_RU b).2.1 := by decide +kernel
theorem k_RU : ∀ k, k < 3 → parseFieldDescriptor (T_RU k).2.2.1 = some (t_RU k) := by decide +kernel
def T_WO : u_T := fun k => match k with
  | 0 => ("DutyRules$Words", "text", "Ljava/lang/String;", true)
  | 1 => ("DutyRules$Words", "start", "I", false)
  | 2 => ("DutyRules$Words", "end", "I", false)
  | _ => ("DutyRules$Words", "number", "I", false)
def t_WO : Nat → FieldType := fun k => match k with
  | 0 => .object "java/lang/String"
  | 1 => .int
  | 2 => .int
  | _ => .int
theorem n_WO : ∀ a, a < 4 → ∀ b, b < 4 → a ≠ b → (T_WO a).2.1 ≠ (T_WO b).2.1 := by decide +kernel
theorem k_WO : ∀ k, k < 4 → parseFieldDescriptor (T_WO k).2.2.1 = some (t_WO k) := by decide +kernel
def T_MO : u_T := fun k => match k with
  | 0 => ("DutyRulesModel", "text", "[I", true)
  | 1 => ("DutyRulesModel", "length", "I", false)
  | 2 => ("DutyRulesModel", "reading", "[I", true)
  | 3 => ("DutyRulesModel", "rules", "[I", true)
  | 4 => ("DutyRulesModel", "many", "[I", true)
  | 5 => ("DutyRulesModel", "editionFrom", "[J", true)
  | 6 => ("DutyRulesModel", "editions", "I", false)
  | 7 => ("DutyRulesModel", "factLot", "[I", true)
  | 8 => ("DutyRulesModel", "factKind", "[I", true)
  | 9 => ("DutyRulesModel", "factDay", "[J", true)
  | 10 => ("DutyRulesModel", "factKnown", "[J", true)
  | 11 => ("DutyRulesModel", "factValue", "[J", true)
  | 12 => ("DutyRulesModel", "facts", "I", false)
  | 13 => ("DutyRulesModel", "latest", "J", false)
  | 14 => ("DutyRulesModel", "reason", "I", false)
  | 15 => ("DutyRulesModel", "stepLetter", "[I", true)
  | 16 => ("DutyRulesModel", "stepRule", "[I", true)
  | 17 => ("DutyRulesModel", "stepCents", "[J", true)
  | 18 => ("DutyRulesModel", "steps", "I", false)
  | 19 => ("DutyRulesModel", "free", "J", false)
  | 20 => ("DutyRulesModel", "cents", "J", false)
  | 21 => ("DutyRulesModel", "shownLot", "I", false)
  | 22 => ("DutyRulesModel", "shownReason", "I", false)
  | 23 => ("DutyRulesModel", "shownSteps", "I", false)
  | 24 => ("DutyRulesModel", "shownLetter", "[I", true)
  | 25 => ("DutyRulesModel", "shownRule", "[I", true)
  | 26 => ("DutyRulesModel", "shownCents", "[J", true)
  | 27 => ("DutyRulesModel", "there", "[I", true)
  | 28 => ("DutyRulesModel", "due", "[J", true)
  | 29 => ("DutyRulesModel", "wasReturned", "[Z", true)
  | 30 => ("DutyRulesModel", "rows", "I", false)
  | 31 => ("DutyRulesModel", "rowLot", "[I", true)
  | 32 => ("DutyRulesModel", "rowDuty", "[J", true)
  | 33 => ("DutyRulesModel", "rowMore", "[J", true)
  | 34 => ("DutyRulesModel", "begin", "I", false)
  | 35 => ("DutyRulesModel", "end", "I", false)
  | 36 => ("DutyRulesModel", "word", "I", false)
  | 37 => ("DutyRulesModel", "wanted", "I", false)
  | 38 => ("DutyRulesModel", "found", "I", false)
  | _ => ("DutyRulesModel", "written", "I", false)
def t_MO : Nat → FieldType := fun k => match k with
  | 0 => .array .int
  | 1 => .int
  | 2 => .array .int
  | 3 => .array .int
  | 4 => .array .int
  | 5 => .array .long
  | 6 => .int
  | 7 => .array .int
  | 8 => .array .int
  | 9 => .array .long
  | 10 => .array .long
  | 11 => .array .long
  | 12 => .int
  | 13 => .long
  | 14 => .int
  | 15 => .array .int
  | 16 => .array .int
  | 17 => .array .long
  | 18 => .int
  | 19 => .long
  | 20 => .long
  | 21 => .int
  | 22 => .int
  | 23 => .int
  | 24 => .array .int
  | 25 => .array .int
  | 26 => .array .long
  | 27 => .array .int
  | 28 => .array .long
  | 29 => .array .boolean
  | 30 => .int
  | 31 => .array .int
  | 32 => .array .long
  | 33 => .array .long
  | 34 => .int
  | 35 => .int
  | 36 => .int
  | 37 => .int
  | 38 => .int
  | _ => .int
theorem n_MO : ∀ a, a < 40 → ∀ b, b < 40 → a ≠ b → (T_MO a).2.1 ≠ (T_MO b).2.1 := by decide +kernel
theorem k_MO : ∀ k, k < 40 → parseFieldDescriptor (T_MO k).2.2.1 = some (t_MO k) := by decide +kernel
def T_SB : u_T := fun k => match k with
  | 0 => ("java/lang/AbstractStringBuilder", "value", "[B", false)
  | 1 => ("java/lang/AbstractStringBuilder", "coder", "B", false)
  | 2 => ("java/lang/AbstractStringBuilder", "maybeLatin1", "Z", false)
  | _ => ("java/lang/AbstractStringBuilder", "count", "I", false)
def t_SB : Nat → FieldType := fun k => match k with
  | 0 => .array .byte
  | 1 => .byte
  | 2 => .boolean
  | _ => .int
theorem n_SB : ∀ a, a < 4 → ∀ b, b < 4 → a ≠ b → (T_SB a).2.1 ≠ (T_SB b).2.1 := by decide +kernel
theorem k_SB : ∀ k, k < 4 → parseFieldDescriptor (T_SB k).2.2.1 = some (t_SB k) := by decide +kernel
def T_ST : u_T := fun k => match k with
  | 0 => ("java/lang/String", "value", "[B", true)
  | 1 => ("java/lang/String", "coder", "B", true)
  | 2 => ("java/lang/String", "hash", "I", false)
  | _ => ("java/lang/String", "hashIsZero", "Z", false)
def t_ST : Nat → FieldType := fun k => match k with
  | 0 => .array .byte
  | 1 => .byte
  | 2 => .int
  | _ => .boolean
theorem n_ST : ∀ a, a < 4 → ∀ b, b < 4 → a ≠ b → (T_ST a).2.1 ≠ (T_ST b).2.1 := by decide +kernel
theorem k_ST : ∀ k, k < 4 → parseFieldDescriptor (T_ST k).2.2.1 = some (t_ST k) := by decide +kernel
abbrev g_cl : List vw_C := [("DutyRules", T_DR, 10), ("DutyRules$Duty", T_DU, 9), ("DutyRules$Editions", T_ED, 3), ("DutyRules$Fact", T_FA, 4), ("DutyRules$Facts", T_FS, 3), ("DutyRules$Return", T_RE, 5), ("DutyRules$Rules", T_RU, 3), ("DutyRules$Words", T_WO, 4), ("DutyRulesModel", T_MO, 40), ("java/lang/StringBuilder", T_SB, 4), ("java/lang/String", T_ST, 4)]
end
section
theorem w_0 : Cond.initialized "DutyRulesLaw" ∈ g_T := gT_1 0 rfl rfl
theorem w_1 : Cond.initialized "DutyRules" ∈ g_T := gT_1 1 rfl rfl
theorem w_2 : Cond.initialized "java/lang/AbstractStringBuilder" ∈ g_T := gT_1 2 rfl rfl
theorem w_3 : Cond.initialized "java/lang/StringBuilder" ∈ g_T := gT_1 3 rfl rfl
theorem w_4 : Cond.initialized "java/lang/String" ∈ g_T := gT_1 4 rfl rfl
theorem w_5 : Cond.initialized "java/lang/StringUTF16" ∈ g_T := gT_1 5 rfl rfl
theorem w_6 : Cond.initialized "DutyRules$Editions" ∈ g_T := gT_1 6 rfl rfl
theorem w_7 : Cond.initialized "DutyRules$Facts" ∈ g_T := gT_1 7 rfl rfl
theorem w_8 : Cond.initialized "DutyRules$Duty" ∈ g_T := gT_1 8 rfl rfl
theorem w_9 : Cond.initialized "DutyRules$Rules" ∈ g_T := gT_1 9 rfl rfl
theorem w_10 : Cond.initialized "DutyRulesModel" ∈ g_T := gT_1 10 rfl rfl
theorem w_11 : Cond.initialized "jdk/internal/util/ArraysSupport" ∈ g_T := gT_1 11 rfl rfl
theorem w_12 : Cond.initialized "java/lang/Math" ∈ g_T := gT_1 12 rfl rfl
theorem w_13 : Cond.initialized "java/util/Arrays" ∈ g_T := gT_1 13 rfl rfl
theorem w_14 : Cond.initialized "java/lang/System" ∈ g_T := gT_1 14 rfl rfl
theorem w_15 : Cond.initialized "java/lang/StringLatin1" ∈ g_T := gT_1 15 rfl rfl
theorem w_16 : Cond.initialized "jdk/internal/util/Preconditions" ∈ g_T := gT_1 16 rfl rfl
theorem w_17 : Cond.initialized "DutyRules$Words" ∈ g_T := gT_1 17 rfl rfl
theorem w_18 : Cond.initialized "DutyRules$Grammar" ∈ g_T := gT_1 18 rfl rfl
theorem w_19 : Cond.initialized "java/lang/Integer" ∈ g_T := gT_1 19 rfl rfl
theorem w_20 : Cond.initialized "DutyRules$Fact" ∈ g_T := gT_1 20 rfl rfl
theorem w_21 : Cond.initialized "DutyRules$Return" ∈ g_T := gT_1 21 rfl rfl
theorem w_22 : Cond.classLink "DutyRulesLaw" 7 "DutyRules" ∈ g_T := gT_1 22 rfl rfl
theorem w_23 : Cond.instantiable "DutyRules" 10 ∈ g_T := gT_1 23 rfl rfl
theorem w_24 : Cond.methodLink "DutyRulesLaw" 9 y_DR_init ∈ g_T := gT_1 24 rfl rfl
theorem w_25 : Cond.instanceMethod y_DR_init ∈ g_T := gT_1 25 rfl rfl
theorem w_26 : Cond.code y_DR_init b_DR_init 1 none ∈ g_T := gT_1 26 rfl rfl
theorem w_27 : Cond.methodLink "DutyRules" 1 y_OB_init ∈ g_T := gT_1 27 rfl rfl
theorem w_28 : Cond.instanceMethod y_OB_init ∈ g_T := gT_1 28 rfl rfl
theorem w_29 : Cond.code y_OB_init object_method_1_code 1 none ∈ g_T := gT_1 29 rfl rfl
theorem w_30 : Cond.classLink "DutyRules" 7 "java/lang/StringBuilder" ∈ g_T := gT_1 30 rfl rfl
theorem w_31 : Cond.instantiable "java/lang/StringBuilder" 4 ∈ g_T := gT_1 31 rfl rfl
theorem w_32 : Cond.methodLink "DutyRules" 9 y_SB_init ∈ g_T := gT_1 32 rfl rfl
theorem w_33 : Cond.instanceMethod y_SB_init ∈ g_T := gT_1 33 rfl rfl
theorem w_34 : Cond.code y_SB_init b_SB_init 1 none ∈ g_T := gT_1 34 rfl rfl
theorem w_35 : Cond.methodLink "java/lang/StringBuilder" 1 y_AB_init ∈ g_T := gT_1 35 rfl rfl
theorem w_36 : Cond.instanceMethod y_AB_init ∈ g_T := gT_1 36 rfl rfl
theorem w_37 : Cond.code y_AB_init b_AB_init 2 none ∈ g_T := gT_1 37 rfl rfl
theorem w_38 : Cond.methodLink "java/lang/AbstractStringBuilder" 3 y_OB_init ∈ g_T := gT_1 38 rfl rfl
theorem w_39 : Cond.fieldLink "java/lang/AbstractStringBuilder" 18 "java/lang/String" "COMPACT_STRINGS" "Z" ∈ g_T := gT_1 39 rfl rfl
theorem w_41 : Cond.methodLink "java/lang/AbstractStringBuilder" 26 y_U6_newBytesFor ∈ g_T := gT_1 41 rfl rfl
theorem w_42 : Cond.static y_U6_newBytesFor ∈ g_T := gT_1 42 rfl rfl
theorem w_43 : Cond.code y_U6_newBytesFor b_U6_newBytesFor 1 (some (.array .byte)) ∈ g_T := gT_1 43 rfl rfl
theorem w_44 : Cond.methodLink "java/lang/StringUTF16" 11 y_U6_newBytesLength ∈ g_T := gT_1 44 rfl rfl
theorem w_45 : Cond.static y_U6_newBytesLength ∈ g_T := gT_1 45 rfl rfl
theorem w_46 : Cond.code y_U6_newBytesLength b_U6_newBytesLength 1 (some .int) ∈ g_T := gT_1 46 rfl rfl
theorem w_47 : Cond.constant "java/lang/StringUTF16" 20 1073741823 ∈ g_T := gT_1 47 rfl rfl
theorem w_48 : Cond.fieldLink "java/lang/AbstractStringBuilder" 15 "java/lang/AbstractStringBuilder" "value" "[B" ∈ g_T := gT_1 48 rfl rfl
theorem w_49 : Cond.fieldLink "java/lang/AbstractStringBuilder" 22 "java/lang/AbstractStringBuilder" "coder" "B" ∈ g_T := gT_1 49 rfl rfl
theorem w_50 : Cond.fieldLink "java/lang/AbstractStringBuilder" 73 "java/lang/AbstractStringBuilder" "maybeLatin1" "Z" ∈ g_T := gT_1 50 rfl rfl
theorem w_51 : Cond.fieldLink "java/lang/String" 1048 "java/lang/AbstractStringBuilder" "maybeLatin1" "Z" ∈ g_T := gT_1 51 rfl rfl
theorem w_52 : Cond.fieldLink "java/lang/AbstractStringBuilder" 79 "java/lang/AbstractStringBuilder" "count" "I" ∈ g_T := gT_1 52 rfl rfl
theorem w_53 : Cond.lays "java/lang/StringBuilder" "java/lang/AbstractStringBuilder" "value" "[B" ∈ g_T := gT_1 53 rfl rfl
theorem w_55 : Cond.lays "java/lang/StringBuilder" "java/lang/AbstractStringBuilder" "coder" "B" ∈ g_T := gT_1 55 rfl rfl
theorem w_57 : Cond.lays "java/lang/StringBuilder" "java/lang/AbstractStringBuilder" "maybeLatin1" "Z" ∈ g_T := gT_1 57 rfl rfl
theorem w_59 : Cond.lays "java/lang/StringBuilder" "java/lang/AbstractStringBuilder" "count" "I" ∈ g_T := gT_1 59 rfl rfl
theorem w_61 : Cond.superclass "java/lang/StringBuilder" "java/lang/AbstractStringBuilder" ∈ g_T := gT_1 61 rfl rfl
theorem w_62 : Cond.arrayClass .byte ∈ g_T := gT_1 62 rfl rfl
theorem w_63 : Cond.classLink "DutyRules" 16 "DutyRules$Editions" ∈ g_T := gT_1 63 rfl rfl
theorem w_64 : Cond.instantiable "DutyRules$Editions" 3 ∈ g_T := gT_1 64 rfl rfl
theorem w_65 : Cond.methodLink "DutyRules" 18 y_ED_init ∈ g_T := gT_1 65 rfl rfl
theorem w_66 : Cond.instanceMethod y_ED_init ∈ g_T := gT_1 66 rfl rfl
theorem w_67 : Cond.code y_ED_init b_ED_init 1 none ∈ g_T := gT_1 67 rfl rfl
theorem w_68 : Cond.methodLink "DutyRules$Editions" 3 y_OB_init ∈ g_T := gT_1 68 rfl rfl
theorem w_69 : Cond.classLink "DutyRules$Editions" 15 "DutyRules$Rules" ∈ g_T := gT_1 69 rfl rfl
theorem w_71 : Cond.fieldLink "DutyRules$Editions" 9 "DutyRules$Editions" "count" "I" ∈ g_T := gT_1 71 rfl rfl
theorem w_72 : Cond.fieldLink "DutyRules$Editions" 17 "DutyRules$Editions" "rules" "[LDutyRules$Rules;" ∈ g_T := gT_1 72 rfl rfl
theorem w_73 : Cond.fieldLink "DutyRules$Editions" 21 "DutyRules$Editions" "froms" "[I" ∈ g_T := gT_1 73 rfl rfl
theorem w_74 : Cond.lays "DutyRules$Editions" "DutyRules$Editions" "count" "I" ∈ g_T := gT_1 74 rfl rfl
theorem w_76 : Cond.laysFinal "DutyRules$Editions" "DutyRules$Editions" "rules" "[LDutyRules$Rules;" ∈ g_T := gT_1 76 rfl rfl
theorem w_78 : Cond.laysFinal "DutyRules$Editions" "DutyRules$Editions" "froms" "[I" ∈ g_T := gT_1 78 rfl rfl
theorem w_80 : Cond.superclass "DutyRules$Editions" "java/lang/Object" ∈ g_T := gT_1 80 rfl rfl
theorem w_81 : Cond.arrayClass .int ∈ g_T := gT_1 81 rfl rfl
theorem w_82 : Cond.classLink "DutyRules" 23 "DutyRules$Facts" ∈ g_T := gT_1 82 rfl rfl
theorem w_83 : Cond.instantiable "DutyRules$Facts" 3 ∈ g_T := gT_1 83 rfl rfl
theorem w_84 : Cond.methodLink "DutyRules" 25 y_FS_init ∈ g_T := gT_1 84 rfl rfl
theorem w_85 : Cond.instanceMethod y_FS_init ∈ g_T := gT_1 85 rfl rfl
theorem w_86 : Cond.code y_FS_init b_FS_init 1 none ∈ g_T := gT_1 86 rfl rfl
theorem w_87 : Cond.methodLink "DutyRules$Facts" 3 y_OB_init ∈ g_T := gT_1 87 rfl rfl
theorem w_88 : Cond.classLink "DutyRules$Facts" 18 "DutyRules$Fact" ∈ g_T := gT_1 88 rfl rfl
theorem w_90 : Cond.fieldLink "DutyRules$Facts" 9 "DutyRules$Facts" "count" "I" ∈ g_T := gT_1 90 rfl rfl
theorem w_91 : Cond.fieldLink "DutyRules$Facts" 15 "DutyRules$Facts" "lastKnowing" "I" ∈ g_T := gT_1 91 rfl rfl
theorem w_93 : Cond.fieldLink "DutyRules$Facts" 20 "DutyRules$Facts" "newest" "[LDutyRules$Fact;" ∈ g_T := gT_1 93 rfl rfl
theorem w_94 : Cond.lays "DutyRules$Facts" "DutyRules$Facts" "count" "I" ∈ g_T := gT_1 94 rfl rfl
theorem w_96 : Cond.lays "DutyRules$Facts" "DutyRules$Facts" "lastKnowing" "I" ∈ g_T := gT_1 96 rfl rfl
theorem w_98 : Cond.laysFinal "DutyRules$Facts" "DutyRules$Facts" "newest" "[LDutyRules$Fact;" ∈ g_T := gT_1 98 rfl rfl
theorem w_100 : Cond.superclass "DutyRules$Facts" "java/lang/Object" ∈ g_T := gT_1 100 rfl rfl
theorem w_101 : Cond.classLink "DutyRules" 30 "DutyRules$Duty" ∈ g_T := gT_1 101 rfl rfl
theorem w_102 : Cond.instantiable "DutyRules$Duty" 9 ∈ g_T := gT_1 102 rfl rfl
theorem w_103 : Cond.methodLink "DutyRules" 32 y_DU_init ∈ g_T := gT_1 103 rfl rfl
theorem w_104 : Cond.instanceMethod y_DU_init ∈ g_T := gT_1 104 rfl rfl
theorem w_105 : Cond.code y_DU_init b_DU_init 1 none ∈ g_T := gT_1 105 rfl rfl
theorem w_106 : Cond.methodLink "DutyRules$Duty" 3 y_OB_init ∈ g_T := gT_1 106 rfl rfl
theorem w_107 : Cond.fieldLink "DutyRules$Duty" 9 "DutyRules$Duty" "lot" "I" ∈ g_T := gT_1 107 rfl rfl
theorem w_109 : Cond.fieldLink "DutyRules$Duty" 15 "DutyRules$Duty" "reason" "I" ∈ g_T := gT_1 109 rfl rfl
theorem w_111 : Cond.fieldLink "DutyRules$Duty" 18 "DutyRules$Duty" "steps" "I" ∈ g_T := gT_1 111 rfl rfl
theorem w_113 : Cond.fieldLink "DutyRules$Duty" 21 "DutyRules$Duty" "amount" "J" ∈ g_T := gT_1 113 rfl rfl
theorem w_115 : Cond.fieldLink "DutyRules$Duty" 25 "DutyRules$Duty" "free" "J" ∈ g_T := gT_1 115 rfl rfl
theorem w_117 : Cond.fieldLink "DutyRules$Duty" 28 "DutyRules$Duty" "held" "[I" ∈ g_T := gT_1 117 rfl rfl
theorem w_118 : Cond.fieldLink "DutyRules$Duty" 32 "DutyRules$Duty" "letters" "[I" ∈ g_T := gT_1 118 rfl rfl
theorem w_120 : Cond.fieldLink "DutyRules$Duty" 35 "DutyRules$Duty" "numbers" "[I" ∈ g_T := gT_1 120 rfl rfl
theorem w_122 : Cond.fieldLink "DutyRules$Duty" 38 "DutyRules$Duty" "centsBehind" "[J" ∈ g_T := gT_1 122 rfl rfl
theorem w_124 : Cond.lays "DutyRules$Duty" "DutyRules$Duty" "lot" "I" ∈ g_T := gT_1 124 rfl rfl
theorem w_126 : Cond.lays "DutyRules$Duty" "DutyRules$Duty" "reason" "I" ∈ g_T := gT_1 126 rfl rfl
theorem w_128 : Cond.lays "DutyRules$Duty" "DutyRules$Duty" "steps" "I" ∈ g_T := gT_1 128 rfl rfl
theorem w_130 : Cond.lays "DutyRules$Duty" "DutyRules$Duty" "amount" "J" ∈ g_T := gT_1 130 rfl rfl
theorem w_132 : Cond.lays "DutyRules$Duty" "DutyRules$Duty" "free" "J" ∈ g_T := gT_1 132 rfl rfl
theorem w_134 : Cond.laysFinal "DutyRules$Duty" "DutyRules$Duty" "held" "[I" ∈ g_T := gT_1 134 rfl rfl
theorem w_136 : Cond.laysFinal "DutyRules$Duty" "DutyRules$Duty" "letters" "[I" ∈ g_T := gT_1 136 rfl rfl
theorem w_138 : Cond.laysFinal "DutyRules$Duty" "DutyRules$Duty" "numbers" "[I" ∈ g_T := gT_1 138 rfl rfl
theorem w_140 : Cond.laysFinal "DutyRules$Duty" "DutyRules$Duty" "centsBehind" "[J" ∈ g_T := gT_1 140 rfl rfl
theorem w_142 : Cond.superclass "DutyRules$Duty" "java/lang/Object" ∈ g_T := gT_1 142 rfl rfl
theorem w_143 : Cond.arrayClass .long ∈ g_T := gT_1 143 rfl rfl
theorem w_144 : Cond.classLink "DutyRules" 40 "DutyRules$Rules" ∈ g_T := gT_1 144 rfl rfl
theorem w_145 : Cond.instantiable "DutyRules$Rules" 3 ∈ g_T := gT_1 145 rfl rfl
theorem w_146 : Cond.methodLink "DutyRules" 42 y_RU_init ∈ g_T := gT_1 146 rfl rfl
theorem w_147 : Cond.instanceMethod y_RU_init ∈ g_T := gT_1 147 rfl rfl
theorem w_148 : Cond.code y_RU_init b_RU_init 1 none ∈ g_T := gT_1 148 rfl rfl
theorem w_149 : Cond.methodLink "DutyRules$Rules" 3 y_OB_init ∈ g_T := gT_1 149 rfl rfl
theorem w_150 : Cond.fieldLink "DutyRules$Rules" 9 "DutyRules$Rules" "count" "I" ∈ g_T := gT_1 150 rfl rfl
theorem w_153 : Cond.fieldLink "DutyRules$Rules" 15 "DutyRules$Rules" "kinds" "[I" ∈ g_T := gT_1 153 rfl rfl
theorem w_154 : Cond.fieldLink "DutyRules$Rules" 19 "DutyRules$Rules" "numbers" "[I" ∈ g_T := gT_1 154 rfl rfl
theorem w_155 : Cond.lays "DutyRules$Rules" "DutyRules$Rules" "count" "I" ∈ g_T := gT_1 155 rfl rfl
theorem w_157 : Cond.laysFinal "DutyRules$Rules" "DutyRules$Rules" "kinds" "[I" ∈ g_T := gT_1 157 rfl rfl
theorem w_159 : Cond.laysFinal "DutyRules$Rules" "DutyRules$Rules" "numbers" "[I" ∈ g_T := gT_1 159 rfl rfl
theorem w_161 : Cond.superclass "DutyRules$Rules" "java/lang/Object" ∈ g_T := gT_1 161 rfl rfl
theorem w_163 : Cond.fieldLink "DutyRules" 10 "DutyRules" "text" "Ljava/lang/StringBuilder;" ∈ g_T := gT_1 163 rfl rfl
theorem w_164 : Cond.fieldLink "DutyRules" 19 "DutyRules" "editions" "LDutyRules$Editions;" ∈ g_T := gT_1 164 rfl rfl
theorem w_165 : Cond.fieldLink "DutyRules" 26 "DutyRules" "facts" "LDutyRules$Facts;" ∈ g_T := gT_1 165 rfl rfl
theorem w_166 : Cond.fieldLink "DutyRules" 33 "DutyRules" "asked" "LDutyRules$Duty;" ∈ g_T := gT_1 166 rfl rfl
theorem w_167 : Cond.fieldLink "DutyRules" 37 "DutyRules" "inner" "LDutyRules$Duty;" ∈ g_T := gT_1 167 rfl rfl
theorem w_168 : Cond.fieldLink "DutyRules" 43 "DutyRules" "lastRead" "LDutyRules$Rules;" ∈ g_T := gT_1 168 rfl rfl
theorem w_169 : Cond.fieldLink "DutyRules" 49 "DutyRules" "written" "Ljava/lang/String;" ∈ g_T := gT_1 169 rfl rfl
theorem w_170 : Cond.fieldLink "DutyRules" 53 "DutyRules" "wasAsked" "Z" ∈ g_T := gT_1 170 rfl rfl
theorem w_171 : Cond.fieldLink "DutyRules" 57 "DutyRules" "newestReturn" "LDutyRules$Return;" ∈ g_T := gT_1 171 rfl rfl
theorem w_172 : Cond.fieldLink "DutyRules" 61 "DutyRules" "lastReturn" "LDutyRules$Return;" ∈ g_T := gT_1 172 rfl rfl
theorem w_173 : Cond.laysFinal "DutyRules" "DutyRules" "text" "Ljava/lang/StringBuilder;" ∈ g_T := gT_1 173 rfl rfl
theorem w_175 : Cond.laysFinal "DutyRules" "DutyRules" "editions" "LDutyRules$Editions;" ∈ g_T := gT_1 175 rfl rfl
theorem w_177 : Cond.laysFinal "DutyRules" "DutyRules" "facts" "LDutyRules$Facts;" ∈ g_T := gT_1 177 rfl rfl
theorem w_179 : Cond.laysFinal "DutyRules" "DutyRules" "asked" "LDutyRules$Duty;" ∈ g_T := gT_1 179 rfl rfl
theorem w_181 : Cond.laysFinal "DutyRules" "DutyRules" "inner" "LDutyRules$Duty;" ∈ g_T := gT_1 181 rfl rfl
theorem w_183 : Cond.lays "DutyRules" "DutyRules" "lastRead" "LDutyRules$Rules;" ∈ g_T := gT_1 183 rfl rfl
theorem w_185 : Cond.lays "DutyRules" "DutyRules" "written" "Ljava/lang/String;" ∈ g_T := gT_1 185 rfl rfl
theorem w_187 : Cond.lays "DutyRules" "DutyRules" "wasAsked" "Z" ∈ g_T := gT_1 187 rfl rfl
theorem w_189 : Cond.lays "DutyRules" "DutyRules" "newestReturn" "LDutyRules$Return;" ∈ g_T := gT_1 189 rfl rfl
theorem w_191 : Cond.lays "DutyRules" "DutyRules" "lastReturn" "LDutyRules$Return;" ∈ g_T := gT_1 191 rfl rfl
theorem w_193 : Cond.superclass "DutyRules" "java/lang/Object" ∈ g_T := gT_1 193 rfl rfl
theorem w_194 : Cond.methodLink "DutyRulesLaw" 13 y_DR_unit ∈ g_T := gT_1 194 rfl rfl
theorem w_195 : Cond.instanceMethod y_DR_unit ∈ g_T := gT_1 195 rfl rfl
theorem w_196 : Cond.selects "DutyRules" y_DR_unit y_DR_unit ∈ g_T := gT_1 196 rfl rfl
theorem w_197 : Cond.code y_DR_unit b_DR_unit 2 (some .boolean) ∈ g_T := gT_1 197 rfl rfl
theorem w_198 : Cond.methodLink "DutyRules" 64 y_SB_length ∈ g_T := gT_1 198 rfl rfl
theorem w_199 : Cond.instanceMethod y_SB_length ∈ g_T := gT_1 199 rfl rfl
theorem w_200 : Cond.selects "java/lang/StringBuilder" y_SB_length y_SB_length ∈ g_T := gT_1 200 rfl rfl
theorem w_201 : Cond.code y_SB_length b_SB_length 1 (some .int) ∈ g_T := gT_1 201 rfl rfl
theorem w_202 : Cond.methodLink "java/lang/StringBuilder" 343 y_AB_length ∈ g_T := gT_1 202 rfl rfl
theorem w_203 : Cond.instanceMethod y_AB_length ∈ g_T := gT_1 203 rfl rfl
theorem w_204 : Cond.code y_AB_length b_AB_length 1 (some .int) ∈ g_T := gT_1 204 rfl rfl
theorem w_205 : Cond.methodLink "DutyRules" 68 y_SB_append ∈ g_T := gT_1 205 rfl rfl
theorem w_206 : Cond.instanceMethod y_SB_append ∈ g_T := gT_1 206 rfl rfl
theorem w_207 : Cond.selects "java/lang/StringBuilder" y_SB_append y_SB_append ∈ g_T := gT_1 207 rfl rfl
theorem w_208 : Cond.code y_SB_append b_SB_append 2 (some (.object "java/lang/StringBuilder")) ∈ g_T := gT_1 208 rfl rfl
theorem w_209 : Cond.methodLink "java/lang/StringBuilder" 50 y_AB_append ∈ g_T := gT_1 209 rfl rfl
theorem w_210 : Cond.instanceMethod y_AB_append ∈ g_T := gT_1 210 rfl rfl
theorem w_211 : Cond.code y_AB_append b_AB_append 2 (some (.object "java/lang/AbstractStringBuilder")) ∈ g_T := gT_1 211 rfl rfl
theorem w_212 : Cond.methodLink "java/lang/AbstractStringBuilder" 100 y_AB_ensureCapacityInternal ∈ g_T := gT_1 212 rfl rfl
theorem w_214 : Cond.instanceMethod y_AB_ensureCapacityInternal ∈ g_T := gT_1 214 rfl rfl
theorem w_215 : Cond.code y_AB_ensureCapacityInternal b_AB_ensureCapacityInternal 3 none ∈ g_T := gT_1 215 rfl rfl
theorem w_216 : Cond.methodLink "java/lang/AbstractStringBuilder" 104 y_AB_newCapacity ∈ g_T := gT_1 216 rfl rfl
theorem w_218 : Cond.instanceMethod y_AB_newCapacity ∈ g_T := gT_1 218 rfl rfl
theorem w_219 : Cond.code y_AB_newCapacity b_AB_newCapacity 6 (some .int) ∈ g_T := gT_1 219 rfl rfl
theorem w_220 : Cond.methodLink "java/lang/AbstractStringBuilder" 114 y_AS_newLength ∈ g_T := gT_1 220 rfl rfl
theorem w_221 : Cond.static y_AS_newLength ∈ g_T := gT_1 221 rfl rfl
theorem w_222 : Cond.code y_AS_newLength b_AS_newLength 4 (some .int) ∈ g_T := gT_1 222 rfl rfl
theorem w_223 : Cond.methodLink "jdk/internal/util/ArraysSupport" 194 y_MA_max ∈ g_T := gT_1 223 rfl rfl
theorem w_224 : Cond.static y_MA_max ∈ g_T := gT_1 224 rfl rfl
theorem w_225 : Cond.code y_MA_max b_MA_max 2 (some .int) ∈ g_T := gT_1 225 rfl rfl
theorem w_226 : Cond.constant "jdk/internal/util/ArraysSupport" 200 2147483639 ∈ g_T := gT_1 226 rfl rfl
theorem w_227 : Cond.methodLink "jdk/internal/util/ArraysSupport" 201 y_AS_hugeLength ∈ g_T := gT_1 227 rfl rfl
theorem w_228 : Cond.static y_AS_hugeLength ∈ g_T := gT_1 228 rfl rfl
theorem w_229 : Cond.code y_AS_hugeLength b_AS_hugeLength 3 (some .int) ∈ g_T := gT_1 229 rfl rfl
theorem w_230 : Cond.constant "java/lang/AbstractStringBuilder" 39 2147483647 ∈ g_T := gT_1 230 rfl rfl
theorem w_231 : Cond.methodLink "java/lang/AbstractStringBuilder" 108 y_AR_copyOf ∈ g_T := gT_1 231 rfl rfl
theorem w_232 : Cond.static y_AR_copyOf ∈ g_T := gT_1 232 rfl rfl
theorem w_233 : Cond.code y_AR_copyOf b_AR_copyOf 3 (some (.array .byte)) ∈ g_T := gT_1 233 rfl rfl
theorem w_234 : Cond.methodLink "java/util/Arrays" 310 ({ cls := "[B", name := "clone", desc := "()Ljava/lang/Object;" } : MethodName) ∈ g_T := gT_1 234 rfl rfl
theorem w_235 : Cond.sameMethod "[B" "java/lang/Object" "clone" "()Ljava/lang/Object;" ∈ g_T := gT_1 235 rfl rfl
theorem w_236 : Cond.native ({ cls := "java/lang/Object", name := "clone", desc := "()Ljava/lang/Object;" } : MethodName) ∈ g_T := gT_1 236 rfl rfl
theorem w_237 : Cond.instanceMethod ({ cls := "java/lang/Object", name := "clone", desc := "()Ljava/lang/Object;" } : MethodName) ∈ g_T := gT_1 237 rfl rfl
theorem w_238 : Cond.selects "[B" ({ cls := "[B", name := "clone", desc := "()Ljava/lang/Object;" } : MethodName) ({ cls := "java/lang/Object", name := "clone", desc := "()Ljava/lang/Object;" } : MethodName) ∈ g_T := gT_1 238 rfl rfl
theorem w_240 : Cond.classLink "java/util/Arrays" 311 "[B" ∈ g_T := gT_2 0 rfl rfl
theorem w_241 : Cond.methodLink "java/util/Arrays" 304 y_MA_min ∈ g_T := gT_2 1 rfl rfl
theorem w_242 : Cond.static y_MA_min ∈ g_T := gT_2 2 rfl rfl
theorem w_243 : Cond.code y_MA_min b_MA_min 2 (some .int) ∈ g_T := gT_2 3 rfl rfl
theorem w_244 : Cond.methodLink "java/util/Arrays" 150 ({ cls := "java/lang/System", name := "arraycopy", desc := "(Ljava/lang/Object;ILjava/lang/Object;II)V" } : MethodName) ∈ g_T := gT_2 4 rfl rfl
theorem w_245 : Cond.static ({ cls := "java/lang/System", name := "arraycopy", desc := "(Ljava/lang/Object;ILjava/lang/Object;II)V" } : MethodName) ∈ g_T := gT_2 5 rfl rfl
theorem w_246 : Cond.native ({ cls := "java/lang/System", name := "arraycopy", desc := "(Ljava/lang/Object;ILjava/lang/Object;II)V" } : MethodName) ∈ g_T := gT_2 6 rfl rfl
theorem w_247 : Cond.methodLink "java/lang/AbstractStringBuilder" 83 y_AB_isLatin1 ∈ g_T := gT_2 7 rfl rfl
theorem w_248 : Cond.instanceMethod y_AB_isLatin1 ∈ g_T := gT_2 8 rfl rfl
theorem w_249 : Cond.sameMethod "java/lang/AbstractStringBuilder" "java/lang/AbstractStringBuilder" "isLatin1" "()Z" ∈ g_T := gT_2 9 rfl rfl
theorem w_250 : Cond.selects "java/lang/StringBuilder" y_AB_isLatin1 y_AB_isLatin1 ∈ g_T := gT_2 10 rfl rfl
theorem w_251 : Cond.code y_AB_isLatin1 b_AB_isLatin1 1 (some .boolean) ∈ g_T := gT_2 11 rfl rfl
theorem w_252 : Cond.methodLink "java/lang/AbstractStringBuilder" 191 y_L1_canEncode ∈ g_T := gT_2 12 rfl rfl
theorem w_253 : Cond.static y_L1_canEncode ∈ g_T := gT_2 13 rfl rfl
theorem w_254 : Cond.code y_L1_canEncode b_L1_canEncode 1 (some .boolean) ∈ g_T := gT_2 14 rfl rfl
theorem w_255 : Cond.methodLink "java/lang/AbstractStringBuilder" 195 y_AB_inflate ∈ g_T := gT_2 15 rfl rfl
theorem w_257 : Cond.instanceMethod y_AB_inflate ∈ g_T := gT_2 17 rfl rfl
theorem w_258 : Cond.code y_AB_inflate b_AB_inflate 2 none ∈ g_T := gT_2 18 rfl rfl
theorem w_259 : Cond.methodLink "java/lang/AbstractStringBuilder" 125 y_L1_inflate ∈ g_T := gT_2 19 rfl rfl
theorem w_260 : Cond.static y_L1_inflate ∈ g_T := gT_2 20 rfl rfl
theorem w_261 : Cond.code y_L1_inflate b_L1_inflate 5 none ∈ g_T := gT_2 21 rfl rfl
theorem w_262 : Cond.methodLink "java/lang/StringLatin1" 240 y_U6_inflate ∈ g_T := gT_2 22 rfl rfl
theorem w_263 : Cond.static y_U6_inflate ∈ g_T := gT_2 23 rfl rfl
theorem w_264 : Cond.code y_U6_inflate b_U6_inflate 6 none ∈ g_T := gT_2 24 rfl rfl
theorem w_265 : Cond.methodLink "java/lang/StringUTF16" 173 y_U6_checkBoundsOffCount ∈ g_T := gT_2 25 rfl rfl
theorem w_266 : Cond.static y_U6_checkBoundsOffCount ∈ g_T := gT_2 26 rfl rfl
theorem w_267 : Cond.code y_U6_checkBoundsOffCount b_U6_checkBoundsOffCount 3 none ∈ g_T := gT_2 27 rfl rfl
theorem w_268 : Cond.methodLink "java/lang/StringUTF16" 48 y_U6_length ∈ g_T := gT_2 28 rfl rfl
theorem w_269 : Cond.static y_U6_length ∈ g_T := gT_2 29 rfl rfl
theorem w_270 : Cond.code y_U6_length b_U6_length 1 (some .int) ∈ g_T := gT_2 30 rfl rfl
theorem w_271 : Cond.methodLink "java/lang/StringUTF16" 419 y_ST_checkBoundsOffCount ∈ g_T := gT_2 31 rfl rfl
theorem w_272 : Cond.static y_ST_checkBoundsOffCount ∈ g_T := gT_2 32 rfl rfl
theorem w_273 : Cond.code y_ST_checkBoundsOffCount b_ST_checkBoundsOffCount 3 (some .int) ∈ g_T := gT_2 33 rfl rfl
theorem w_274 : Cond.fieldLink "java/lang/String" 1053 "jdk/internal/util/Preconditions" "SIOOBE_FORMATTER" "Ljava/util/function/BiFunction;" ∈ g_T := gT_2 34 rfl rfl
theorem w_276 : Cond.methodLink "java/lang/String" 1065 y_PR_checkFromIndexSize ∈ g_T := gT_2 36 rfl rfl
theorem w_277 : Cond.static y_PR_checkFromIndexSize ∈ g_T := gT_2 37 rfl rfl
theorem w_278 : Cond.code y_PR_checkFromIndexSize b_PR_checkFromIndexSize 4 (some .int) ∈ g_T := gT_2 38 rfl rfl
theorem w_279 : Cond.methodLink "java/lang/StringUTF16" 111 y_U6_putChar ∈ g_T := gT_2 39 rfl rfl
theorem w_280 : Cond.static y_U6_putChar ∈ g_T := gT_2 40 rfl rfl
theorem w_281 : Cond.code y_U6_putChar b_U6_putChar 3 none ∈ g_T := gT_2 41 rfl rfl
theorem w_282 : Cond.fieldLink "java/lang/StringUTF16" 44 "java/lang/StringUTF16" "$assertionsDisabled" "Z" ∈ g_T := gT_2 42 rfl rfl
theorem w_284 : Cond.fieldLink "java/lang/StringUTF16" 59 "java/lang/StringUTF16" "HI_BYTE_SHIFT" "I" ∈ g_T := gT_2 44 rfl rfl
theorem w_286 : Cond.fieldLink "java/lang/StringUTF16" 63 "java/lang/StringUTF16" "LO_BYTE_SHIFT" "I" ∈ g_T := gT_2 46 rfl rfl
theorem w_288 : Cond.methodLink "java/lang/AbstractStringBuilder" 197 y_U6_putCharSB ∈ g_T := gT_2 48 rfl rfl
theorem w_289 : Cond.static y_U6_putCharSB ∈ g_T := gT_2 49 rfl rfl
theorem w_290 : Cond.code y_U6_putCharSB b_U6_putCharSB 3 none ∈ g_T := gT_2 50 rfl rfl
theorem w_291 : Cond.methodLink "java/lang/StringUTF16" 67 y_U6_checkIndex ∈ g_T := gT_2 51 rfl rfl
theorem w_292 : Cond.static y_U6_checkIndex ∈ g_T := gT_2 52 rfl rfl
theorem w_293 : Cond.code y_U6_checkIndex b_U6_checkIndex 2 none ∈ g_T := gT_2 53 rfl rfl
theorem w_294 : Cond.methodLink "java/lang/StringUTF16" 414 y_ST_checkIndex ∈ g_T := gT_2 54 rfl rfl
theorem w_295 : Cond.static y_ST_checkIndex ∈ g_T := gT_2 55 rfl rfl
theorem w_296 : Cond.code y_ST_checkIndex b_ST_checkIndex 2 none ∈ g_T := gT_2 56 rfl rfl
theorem w_297 : Cond.methodLink "java/lang/String" 1059 y_PR_checkIndex ∈ g_T := gT_2 57 rfl rfl
theorem w_298 : Cond.static y_PR_checkIndex ∈ g_T := gT_2 58 rfl rfl
theorem w_299 : Cond.code y_PR_checkIndex b_PR_checkIndex 3 (some .int) ∈ g_T := gT_2 59 rfl rfl
theorem w_300 : Cond.methodLink "DutyRulesLaw" 18 y_DR_read ∈ g_T := gT_2 60 rfl rfl
theorem w_301 : Cond.instanceMethod y_DR_read ∈ g_T := gT_2 61 rfl rfl
theorem w_302 : Cond.selects "DutyRules" y_DR_read y_DR_read ∈ g_T := gT_2 62 rfl rfl
theorem w_303 : Cond.code y_DR_read b_DR_read 3 (some .int) ∈ g_T := gT_2 63 rfl rfl
theorem w_304 : Cond.classLink "DutyRules" 72 "DutyRules$Words" ∈ g_T := gT_2 64 rfl rfl
theorem w_305 : Cond.instantiable "DutyRules$Words" 4 ∈ g_T := gT_2 65 rfl rfl
theorem w_306 : Cond.methodLink "DutyRules" 74 y_SB_toString ∈ g_T := gT_2 66 rfl rfl
theorem w_307 : Cond.instanceMethod y_SB_toString ∈ g_T := gT_2 67 rfl rfl
theorem w_308 : Cond.selects "java/lang/StringBuilder" y_SB_toString y_SB_toString ∈ g_T := gT_2 68 rfl rfl
theorem w_309 : Cond.code y_SB_toString b_SB_toString 1 (some (.object "java/lang/String")) ∈ g_T := gT_2 69 rfl rfl
theorem w_310 : Cond.classLink "java/lang/StringBuilder" 18 "java/lang/String" ∈ g_T := gT_2 70 rfl rfl
theorem w_311 : Cond.instantiable "java/lang/String" 4 ∈ g_T := gT_2 71 rfl rfl
theorem w_312 : Cond.methodLink "java/lang/StringBuilder" 137 y_ST_init ∈ g_T := gT_2 72 rfl rfl
theorem w_313 : Cond.instanceMethod y_ST_init ∈ g_T := gT_2 73 rfl rfl
theorem w_314 : Cond.code y_ST_init b_ST_init 2 none ∈ g_T := gT_2 74 rfl rfl
theorem w_315 : Cond.methodLink "java/lang/String" 489 y_ST_init2 ∈ g_T := gT_2 75 rfl rfl
theorem w_316 : Cond.instanceMethod y_ST_init2 ∈ g_T := gT_2 76 rfl rfl
theorem w_317 : Cond.code y_ST_init2 b_ST_init2 5 none ∈ g_T := gT_2 77 rfl rfl
theorem w_318 : Cond.methodLink "java/lang/String" 1 y_OB_init ∈ g_T := gT_2 78 rfl rfl
theorem w_319 : Cond.methodLink "java/lang/String" 552 y_AB_getValue ∈ g_T := gT_2 79 rfl rfl
theorem w_320 : Cond.instanceMethod y_AB_getValue ∈ g_T := gT_2 80 rfl rfl
theorem w_321 : Cond.sameMethod "java/lang/AbstractStringBuilder" "java/lang/AbstractStringBuilder" "getValue" "()[B" ∈ g_T := gT_2 81 rfl rfl
theorem w_322 : Cond.selects "java/lang/StringBuilder" y_AB_getValue y_AB_getValue ∈ g_T := gT_2 82 rfl rfl
theorem w_323 : Cond.code y_AB_getValue b_AB_getValue 1 (some (.array .byte)) ∈ g_T := gT_2 83 rfl rfl
theorem w_324 : Cond.methodLink "java/lang/String" 549 y_AB_length ∈ g_T := gT_2 84 rfl rfl
theorem w_325 : Cond.methodLink "java/lang/String" 1047 y_AB_isLatin1 ∈ g_T := gT_2 85 rfl rfl
theorem w_326 : Cond.methodLink "java/lang/String" 54 y_AR_copyOfRange ∈ g_T := gT_2 86 rfl rfl
theorem w_327 : Cond.static y_AR_copyOfRange ∈ g_T := gT_2 87 rfl rfl
theorem w_328 : Cond.code y_AR_copyOfRange b_AR_copyOfRange 3 (some (.array .byte)) ∈ g_T := gT_2 88 rfl rfl
theorem w_329 : Cond.methodLink "java/util/Arrays" 339 y_AR_copyOfRangeByte ∈ g_T := gT_2 89 rfl rfl
theorem w_330 : Cond.static y_AR_copyOfRangeByte ∈ g_T := gT_2 90 rfl rfl
theorem w_331 : Cond.code y_AR_copyOfRangeByte b_AR_copyOfRangeByte 5 (some (.array .byte)) ∈ g_T := gT_2 91 rfl rfl
theorem w_332 : Cond.methodLink "java/util/Arrays" 343 y_AR_checkLength ∈ g_T := gT_2 92 rfl rfl
theorem w_333 : Cond.static y_AR_checkLength ∈ g_T := gT_2 93 rfl rfl
theorem w_334 : Cond.code y_AR_checkLength b_AR_checkLength 2 none ∈ g_T := gT_2 94 rfl rfl
theorem w_335 : Cond.fieldLink "java/lang/String" 38 "java/lang/String" "COMPACT_STRINGS" "Z" ∈ g_T := gT_2 95 rfl rfl
theorem w_336 : Cond.methodLink "java/lang/String" 1051 y_U6_compress ∈ g_T := gT_2 96 rfl rfl
theorem w_337 : Cond.static y_U6_compress ∈ g_T := gT_2 97 rfl rfl
theorem w_338 : Cond.code y_U6_compress b_U6_compress 6 (some (.array .byte)) ∈ g_T := gT_2 98 rfl rfl
theorem w_339 : Cond.methodLink "java/lang/StringUTF16" 123 y_U6_compress2 ∈ g_T := gT_2 99 rfl rfl
theorem w_340 : Cond.static y_U6_compress2 ∈ g_T := gT_2 100 rfl rfl
theorem w_341 : Cond.code y_U6_compress2 b_U6_compress2 7 (some .int) ∈ g_T := gT_2 101 rfl rfl
theorem w_342 : Cond.methodLink "java/lang/StringUTF16" 71 y_U6_getChar ∈ g_T := gT_2 102 rfl rfl
theorem w_343 : Cond.static y_U6_getChar ∈ g_T := gT_2 103 rfl rfl
theorem w_344 : Cond.code y_U6_getChar b_U6_getChar 2 (some .char) ∈ g_T := gT_2 104 rfl rfl
theorem w_345 : Cond.methodLink "java/lang/StringUTF16" 126 y_AR_copyOfRange ∈ g_T := gT_2 105 rfl rfl
theorem w_346 : Cond.methodLink "java/lang/String" 47 y_U6_coderFromArrayLen ∈ g_T := gT_2 106 rfl rfl
theorem w_347 : Cond.static y_U6_coderFromArrayLen ∈ g_T := gT_2 107 rfl rfl
theorem w_348 : Cond.code y_U6_coderFromArrayLen b_U6_coderFromArrayLen 2 (some .byte) ∈ g_T := gT_2 108 rfl rfl
theorem w_349 : Cond.fieldLink "java/lang/String" 9 "java/lang/String" "value" "[B" ∈ g_T := gT_2 109 rfl rfl
theorem w_350 : Cond.fieldLink "java/lang/String" 15 "java/lang/String" "coder" "B" ∈ g_T := gT_2 110 rfl rfl
theorem w_351 : Cond.laysFinal "java/lang/String" "java/lang/String" "value" "[B" ∈ g_T := gT_2 111 rfl rfl
theorem w_353 : Cond.laysFinal "java/lang/String" "java/lang/String" "coder" "B" ∈ g_T := gT_2 113 rfl rfl
theorem w_355 : Cond.lays "java/lang/String" "java/lang/String" "hash" "I" ∈ g_T := gT_2 115 rfl rfl
theorem w_357 : Cond.lays "java/lang/String" "java/lang/String" "hashIsZero" "Z" ∈ g_T := gT_2 117 rfl rfl
theorem w_359 : Cond.superclass "java/lang/String" "java/lang/Object" ∈ g_T := gT_2 119 rfl rfl
theorem w_360 : Cond.methodLink "DutyRules" 78 y_WO_init ∈ g_T := gT_2 120 rfl rfl
theorem w_361 : Cond.instanceMethod y_WO_init ∈ g_T := gT_2 121 rfl rfl
theorem w_362 : Cond.code y_WO_init b_WO_init 2 none ∈ g_T := gT_2 122 rfl rfl
theorem w_363 : Cond.methodLink "DutyRules$Words" 3 y_OB_init ∈ g_T := gT_2 123 rfl rfl
theorem w_364 : Cond.methodLink "DutyRules$Words" 25 y_WO_advance ∈ g_T := gT_2 124 rfl rfl
theorem w_365 : Cond.instanceMethod y_WO_advance ∈ g_T := gT_2 125 rfl rfl
theorem w_366 : Cond.selects "DutyRules$Words" y_WO_advance y_WO_advance ∈ g_T := gT_2 126 rfl rfl
theorem w_367 : Cond.code y_WO_advance b_WO_advance 2 none ∈ g_T := gT_2 127 rfl rfl
theorem w_368 : Cond.methodLink "DutyRules$Words" 28 y_ST_length ∈ g_T := gT_2 128 rfl rfl
theorem w_369 : Cond.instanceMethod y_ST_length ∈ g_T := gT_2 129 rfl rfl
theorem w_370 : Cond.selects "java/lang/String" y_ST_length y_ST_length ∈ g_T := gT_2 130 rfl rfl
theorem w_371 : Cond.code y_ST_length b_ST_length 1 (some .int) ∈ g_T := gT_2 131 rfl rfl
theorem w_372 : Cond.methodLink "java/lang/String" 335 y_ST_coder ∈ g_T := gT_2 132 rfl rfl
theorem w_373 : Cond.instanceMethod y_ST_coder ∈ g_T := gT_2 133 rfl rfl
theorem w_374 : Cond.selects "java/lang/String" y_ST_coder y_ST_coder ∈ g_T := gT_2 134 rfl rfl
theorem w_375 : Cond.code y_ST_coder b_ST_coder 1 (some .byte) ∈ g_T := gT_2 135 rfl rfl
theorem w_376 : Cond.methodLink "DutyRules$Words" 34 y_ST_charAt ∈ g_T := gT_2 136 rfl rfl
theorem w_377 : Cond.instanceMethod y_ST_charAt ∈ g_T := gT_2 137 rfl rfl
theorem w_378 : Cond.selects "java/lang/String" y_ST_charAt y_ST_charAt ∈ g_T := gT_2 138 rfl rfl
theorem w_379 : Cond.code y_ST_charAt b_ST_charAt 2 (some .char) ∈ g_T := gT_2 139 rfl rfl
theorem w_380 : Cond.methodLink "java/lang/String" 492 y_ST_isLatin1 ∈ g_T := gT_2 140 rfl rfl
theorem w_381 : Cond.instanceMethod y_ST_isLatin1 ∈ g_T := gT_2 141 rfl rfl
theorem w_382 : Cond.selects "java/lang/String" y_ST_isLatin1 y_ST_isLatin1 ∈ g_T := gT_2 142 rfl rfl
theorem w_383 : Cond.code y_ST_isLatin1 b_ST_isLatin1 1 (some .boolean) ∈ g_T := gT_2 143 rfl rfl
theorem w_384 : Cond.methodLink "java/lang/String" 495 y_L1_charAt ∈ g_T := gT_2 144 rfl rfl
theorem w_385 : Cond.static y_L1_charAt ∈ g_T := gT_2 145 rfl rfl
theorem w_386 : Cond.code y_L1_charAt b_L1_charAt 2 (some .char) ∈ g_T := gT_2 146 rfl rfl
theorem w_387 : Cond.methodLink "java/lang/StringLatin1" 9 y_ST_checkIndex ∈ g_T := gT_2 147 rfl rfl
theorem w_388 : Cond.methodLink "java/lang/String" 498 y_U6_charAt ∈ g_T := gT_2 148 rfl rfl
theorem w_389 : Cond.static y_U6_charAt ∈ g_T := gT_2 149 rfl rfl
theorem w_390 : Cond.code y_U6_charAt b_U6_charAt 2 (some .char) ∈ g_T := gT_2 150 rfl rfl
theorem w_391 : Cond.methodLink "DutyRules$Words" 38 y_WO_isBlank ∈ g_T := gT_2 151 rfl rfl
theorem w_392 : Cond.static y_WO_isBlank ∈ g_T := gT_2 152 rfl rfl
theorem w_393 : Cond.code y_WO_isBlank b_WO_isBlank 1 (some .boolean) ∈ g_T := gT_2 153 rfl rfl
theorem w_394 : Cond.fieldLink "DutyRules$Words" 9 "DutyRules$Words" "text" "Ljava/lang/String;" ∈ g_T := gT_2 154 rfl rfl
theorem w_395 : Cond.fieldLink "DutyRules$Words" 15 "DutyRules$Words" "start" "I" ∈ g_T := gT_2 155 rfl rfl
theorem w_396 : Cond.fieldLink "DutyRules$Words" 19 "DutyRules$Words" "end" "I" ∈ g_T := gT_2 156 rfl rfl
theorem w_397 : Cond.fieldLink "DutyRules$Words" 22 "DutyRules$Words" "number" "I" ∈ g_T := gT_2 157 rfl rfl
theorem w_399 : Cond.laysFinal "DutyRules$Words" "DutyRules$Words" "text" "Ljava/lang/String;" ∈ g_T := gT_2 159 rfl rfl
theorem w_401 : Cond.lays "DutyRules$Words" "DutyRules$Words" "start" "I" ∈ g_T := gT_2 161 rfl rfl
theorem w_403 : Cond.lays "DutyRules$Words" "DutyRules$Words" "end" "I" ∈ g_T := gT_2 163 rfl rfl
theorem w_405 : Cond.lays "DutyRules$Words" "DutyRules$Words" "number" "I" ∈ g_T := gT_2 165 rfl rfl
theorem w_407 : Cond.superclass "DutyRules$Words" "java/lang/Object" ∈ g_T := gT_2 167 rfl rfl
theorem w_408 : Cond.methodLink "DutyRules" 81 y_SB_setLength ∈ g_T := gT_2 168 rfl rfl
theorem w_409 : Cond.instanceMethod y_SB_setLength ∈ g_T := gT_2 169 rfl rfl
theorem w_410 : Cond.selects "java/lang/StringBuilder" y_SB_setLength y_SB_setLength ∈ g_T := gT_2 170 rfl rfl
theorem w_411 : Cond.code y_SB_setLength b_SB_setLength 2 none ∈ g_T := gT_2 171 rfl rfl
theorem w_412 : Cond.methodLink "java/lang/StringBuilder" 333 y_AB_setLength ∈ g_T := gT_2 172 rfl rfl
theorem w_413 : Cond.instanceMethod y_AB_setLength ∈ g_T := gT_2 173 rfl rfl
theorem w_414 : Cond.code y_AB_setLength b_AB_setLength 2 none ∈ g_T := gT_2 174 rfl rfl
theorem w_415 : Cond.methodLink "java/lang/AbstractStringBuilder" 133 y_L1_fillNull ∈ g_T := gT_2 175 rfl rfl
theorem w_416 : Cond.static y_L1_fillNull ∈ g_T := gT_2 176 rfl rfl
theorem w_417 : Cond.code y_L1_fillNull b_L1_fillNull 3 none ∈ g_T := gT_2 177 rfl rfl
theorem w_418 : Cond.methodLink "java/lang/StringLatin1" 236 y_AR_fill ∈ g_T := gT_2 178 rfl rfl
theorem w_419 : Cond.static y_AR_fill ∈ g_T := gT_2 179 rfl rfl
theorem w_420 : Cond.code y_AR_fill b_AR_fill 5 none ∈ g_T := gT_2 180 rfl rfl
theorem w_421 : Cond.methodLink "java/util/Arrays" 13 y_AR_rangeCheck ∈ g_T := gT_2 181 rfl rfl
theorem w_422 : Cond.static y_AR_rangeCheck ∈ g_T := gT_2 182 rfl rfl
theorem w_423 : Cond.code y_AR_rangeCheck b_AR_rangeCheck 3 none ∈ g_T := gT_2 183 rfl rfl
theorem w_424 : Cond.methodLink "java/lang/AbstractStringBuilder" 137 y_U6_fillNull ∈ g_T := gT_2 184 rfl rfl
theorem w_425 : Cond.static y_U6_fillNull ∈ g_T := gT_2 185 rfl rfl
theorem w_426 : Cond.code y_U6_fillNull b_U6_fillNull 3 none ∈ g_T := gT_2 186 rfl rfl
theorem w_427 : Cond.methodLink "java/lang/StringUTF16" 380 y_AR_fill ∈ g_T := gT_2 187 rfl rfl
theorem w_428 : Cond.methodLink "DutyRules" 85 y_GR_fill ∈ g_T := gT_2 188 rfl rfl
theorem w_429 : Cond.static y_GR_fill ∈ g_T := gT_2 189 rfl rfl
theorem w_430 : Cond.code y_GR_fill b_GR_fill 3 (some .boolean) ∈ g_T := gT_2 190 rfl rfl
theorem w_431 : Cond.methodLink "DutyRules$Grammar" 9 y_WO_isEnd ∈ g_T := gT_2 191 rfl rfl
theorem w_432 : Cond.instanceMethod y_WO_isEnd ∈ g_T := gT_2 192 rfl rfl
theorem w_433 : Cond.selects "DutyRules$Words" y_WO_isEnd y_WO_isEnd ∈ g_T := gT_2 193 rfl rfl
theorem w_434 : Cond.code y_WO_isEnd b_WO_isEnd 1 (some .boolean) ∈ g_T := gT_2 194 rfl rfl
theorem w_435 : Cond.methodLink "DutyRules$Grammar" 15 y_GR_addRule ∈ g_T := gT_2 195 rfl rfl
theorem w_436 : Cond.static y_GR_addRule ∈ g_T := gT_2 196 rfl rfl
theorem w_437 : Cond.code y_GR_addRule b_GR_addRule 7 (some .boolean) ∈ g_T := gT_2 197 rfl rfl
theorem w_438 : Cond.methodLink "DutyRules$Grammar" 21 y_GR_kindBegunBy ∈ g_T := gT_2 198 rfl rfl
theorem w_439 : Cond.static y_GR_kindBegunBy ∈ g_T := gT_2 199 rfl rfl
theorem w_440 : Cond.code y_GR_kindBegunBy b_GR_kindBegunBy 2 (some .int) ∈ g_T := gT_2 200 rfl rfl
theorem w_441 : Cond.classLink "DutyRules$Grammar" 10 "DutyRules$Words" ∈ g_T := gT_2 201 rfl rfl
theorem w_442 : Cond.methodLink "DutyRules$Grammar" 35 y_GR_formOf ∈ g_T := gT_2 202 rfl rfl
theorem w_443 : Cond.static y_GR_formOf ∈ g_T := gT_2 203 rfl rfl
theorem w_444 : Cond.code y_GR_formOf b_GR_formOf 1 (some (.object "java/lang/String")) ∈ g_T := gT_2 204 rfl rfl
theorem w_451 : Cond.methodLink "DutyRules$Grammar" 39 y_WO_init ∈ g_T := gT_2 211 rfl rfl
theorem w_452 : Cond.methodLink "DutyRules$Grammar" 50 y_WO_isSameWordAs ∈ g_T := gT_2 212 rfl rfl
theorem w_453 : Cond.instanceMethod y_WO_isSameWordAs ∈ g_T := gT_2 213 rfl rfl
theorem w_454 : Cond.selects "DutyRules$Words" y_WO_isSameWordAs y_WO_isSameWordAs ∈ g_T := gT_2 214 rfl rfl
theorem w_455 : Cond.code y_WO_isSameWordAs b_WO_isSameWordAs 4 (some .boolean) ∈ g_T := gT_2 215 rfl rfl
theorem w_456 : Cond.methodLink "DutyRules$Grammar" 25 y_RU_mayBegin ∈ g_T := gT_2 216 rfl rfl
theorem w_457 : Cond.instanceMethod y_RU_mayBegin ∈ g_T := gT_2 217 rfl rfl
theorem w_458 : Cond.selects "DutyRules$Rules" y_RU_mayBegin y_RU_mayBegin ∈ g_T := gT_2 218 rfl rfl
theorem w_459 : Cond.code y_RU_mayBegin b_RU_mayBegin 2 (some .boolean) ∈ g_T := gT_2 219 rfl rfl
theorem w_460 : Cond.methodLink "DutyRules$Rules" 22 y_RU_firstOfKind ∈ g_T := gT_2 220 rfl rfl
theorem w_461 : Cond.instanceMethod y_RU_firstOfKind ∈ g_T := gT_2 221 rfl rfl
theorem w_462 : Cond.selects "DutyRules$Rules" y_RU_firstOfKind y_RU_firstOfKind ∈ g_T := gT_2 222 rfl rfl
theorem w_463 : Cond.code y_RU_firstOfKind b_RU_firstOfKind 3 (some .int) ∈ g_T := gT_2 223 rfl rfl
theorem w_464 : Cond.methodLink "DutyRules$Grammar" 31 y_RU_begin ∈ g_T := gT_2 224 rfl rfl
theorem w_465 : Cond.instanceMethod y_RU_begin ∈ g_T := gT_2 225 rfl rfl
theorem w_466 : Cond.selects "DutyRules$Rules" y_RU_begin y_RU_begin ∈ g_T := gT_2 226 rfl rfl
theorem w_467 : Cond.code y_RU_begin b_RU_begin 2 none ∈ g_T := gT_2 227 rfl rfl
theorem w_468 : Cond.methodLink "DutyRules$Grammar" 42 y_WO_firstByte ∈ g_T := gT_2 228 rfl rfl
theorem w_469 : Cond.instanceMethod y_WO_firstByte ∈ g_T := gT_2 229 rfl rfl
theorem w_470 : Cond.selects "DutyRules$Words" y_WO_firstByte y_WO_firstByte ∈ g_T := gT_2 230 rfl rfl
theorem w_471 : Cond.code y_WO_firstByte b_WO_firstByte 1 (some .char) ∈ g_T := gT_2 231 rfl rfl
theorem w_472 : Cond.methodLink "DutyRules$Grammar" 46 y_GR_isSlot ∈ g_T := gT_2 232 rfl rfl
theorem w_473 : Cond.static y_GR_isSlot ∈ g_T := gT_2 233 rfl rfl
theorem w_474 : Cond.code y_GR_isSlot b_GR_isSlot 1 (some .boolean) ∈ g_T := gT_2 234 rfl rfl
theorem w_475 : Cond.methodLink "DutyRules$Grammar" 54 y_WO_asNumber ∈ g_T := gT_2 235 rfl rfl
theorem w_476 : Cond.instanceMethod y_WO_asNumber ∈ g_T := gT_2 236 rfl rfl
theorem w_477 : Cond.selects "DutyRules$Words" y_WO_asNumber y_WO_asNumber ∈ g_T := gT_2 237 rfl rfl
theorem w_478 : Cond.code y_WO_asNumber b_WO_asNumber 5 (some .int) ∈ g_T := gT_2 238 rfl rfl
theorem w_479 : Cond.methodLink "DutyRules$Words" 42 y_WO_firstByte ∈ g_T := gT_2 239 rfl rfl
theorem w_480 : Cond.methodLink "DutyRules$Grammar" 58 y_GR_isInRange ∈ g_T := gT_3 0 rfl rfl
theorem w_481 : Cond.static y_GR_isInRange ∈ g_T := gT_3 1 rfl rfl
theorem w_482 : Cond.code y_GR_isInRange b_GR_isInRange 2 (some .boolean) ∈ g_T := gT_3 2 rfl rfl
theorem w_483 : Cond.constant "DutyRules$Grammar" 116 1000000 ∈ g_T := gT_3 3 rfl rfl
theorem w_484 : Cond.constant "DutyRules$Grammar" 117 100000000 ∈ g_T := gT_3 4 rfl rfl
theorem w_485 : Cond.methodLink "DutyRules$Grammar" 62 y_RU_put ∈ g_T := gT_3 5 rfl rfl
theorem w_486 : Cond.instanceMethod y_RU_put ∈ g_T := gT_3 6 rfl rfl
theorem w_487 : Cond.selects "DutyRules$Rules" y_RU_put y_RU_put ∈ g_T := gT_3 7 rfl rfl
theorem w_488 : Cond.code y_RU_put b_RU_put 4 (some .boolean) ∈ g_T := gT_3 8 rfl rfl
theorem w_489 : Cond.methodLink "DutyRules$Rules" 26 y_RU_number ∈ g_T := gT_3 9 rfl rfl
theorem w_490 : Cond.instanceMethod y_RU_number ∈ g_T := gT_3 10 rfl rfl
theorem w_491 : Cond.selects "DutyRules$Rules" y_RU_number y_RU_number ∈ g_T := gT_3 11 rfl rfl
theorem w_492 : Cond.code y_RU_number b_RU_number 3 (some .int) ∈ g_T := gT_3 12 rfl rfl
theorem w_493 : Cond.methodLink "DutyRules$Grammar" 66 y_WO_advance ∈ g_T := gT_3 13 rfl rfl
theorem w_494 : Cond.methodLink "DutyRules" 95 y_GR_asText ∈ g_T := gT_3 14 rfl rfl
theorem w_495 : Cond.static y_GR_asText ∈ g_T := gT_3 15 rfl rfl
theorem w_496 : Cond.code y_GR_asText b_GR_asText 6 (some (.object "java/lang/String")) ∈ g_T := gT_3 16 rfl rfl
theorem w_497 : Cond.classLink "DutyRules$Grammar" 69 "java/lang/StringBuilder" ∈ g_T := gT_3 17 rfl rfl
theorem w_498 : Cond.methodLink "DutyRules$Grammar" 71 y_SB_init ∈ g_T := gT_3 18 rfl rfl
theorem w_499 : Cond.methodLink "DutyRules$Grammar" 76 y_RU_kind ∈ g_T := gT_3 19 rfl rfl
theorem w_500 : Cond.instanceMethod y_RU_kind ∈ g_T := gT_3 20 rfl rfl
theorem w_501 : Cond.selects "DutyRules$Rules" y_RU_kind y_RU_kind ∈ g_T := gT_3 21 rfl rfl
theorem w_502 : Cond.code y_RU_kind b_RU_kind 2 (some .int) ∈ g_T := gT_3 22 rfl rfl
theorem w_503 : Cond.methodLink "DutyRules$Grammar" 80 y_ST_length ∈ g_T := gT_3 23 rfl rfl
theorem w_504 : Cond.methodLink "DutyRules$Grammar" 85 y_ST_charAt ∈ g_T := gT_3 24 rfl rfl
theorem w_505 : Cond.methodLink "DutyRules$Grammar" 89 y_RU_number ∈ g_T := gT_3 25 rfl rfl
theorem w_506 : Cond.methodLink "DutyRules$Grammar" 93 y_SB_append2 ∈ g_T := gT_3 26 rfl rfl
theorem w_507 : Cond.instanceMethod y_SB_append2 ∈ g_T := gT_3 27 rfl rfl
theorem w_508 : Cond.selects "java/lang/StringBuilder" y_SB_append2 y_SB_append2 ∈ g_T := gT_3 28 rfl rfl
theorem w_509 : Cond.code y_SB_append2 b_SB_append2 2 (some (.object "java/lang/StringBuilder")) ∈ g_T := gT_3 29 rfl rfl
theorem w_510 : Cond.methodLink "java/lang/StringBuilder" 53 y_AB_append2 ∈ g_T := gT_3 30 rfl rfl
theorem w_511 : Cond.instanceMethod y_AB_append2 ∈ g_T := gT_3 31 rfl rfl
theorem w_512 : Cond.code y_AB_append2 b_AB_append2 4 (some (.object "java/lang/AbstractStringBuilder")) ∈ g_T := gT_3 32 rfl rfl
theorem w_513 : Cond.methodLink "java/lang/AbstractStringBuilder" 245 y_IN_stringSize ∈ g_T := gT_3 33 rfl rfl
theorem w_514 : Cond.static y_IN_stringSize ∈ g_T := gT_3 34 rfl rfl
theorem w_515 : Cond.code y_IN_stringSize b_IN_stringSize 4 (some .int) ∈ g_T := gT_3 35 rfl rfl
theorem w_516 : Cond.methodLink "java/lang/AbstractStringBuilder" 248 y_IN_getChars ∈ g_T := gT_3 36 rfl rfl
theorem w_517 : Cond.static y_IN_getChars ∈ g_T := gT_3 37 rfl rfl
theorem w_518 : Cond.code y_IN_getChars b_IN_getChars 7 (some .int) ∈ g_T := gT_3 38 rfl rfl
theorem w_519 : Cond.fieldLink "java/lang/Integer" 83 "java/lang/Integer" "DigitOnes" "[B" ∈ g_T := gT_3 39 rfl rfl
theorem w_521 : Cond.fieldLink "java/lang/Integer" 87 "java/lang/Integer" "DigitTens" "[B" ∈ g_T := gT_3 41 rfl rfl
theorem w_523 : Cond.methodLink "java/lang/AbstractStringBuilder" 251 y_U6_getChars ∈ g_T := gT_3 43 rfl rfl
theorem w_524 : Cond.static y_U6_getChars ∈ g_T := gT_3 44 rfl rfl
theorem w_525 : Cond.code y_U6_getChars b_U6_getChars 5 (some .int) ∈ g_T := gT_3 45 rfl rfl
theorem w_526 : Cond.methodLink "java/lang/StringUTF16" 96 y_U6_checkBoundsBeginEnd ∈ g_T := gT_3 46 rfl rfl
theorem w_527 : Cond.static y_U6_checkBoundsBeginEnd ∈ g_T := gT_3 47 rfl rfl
theorem w_528 : Cond.code y_U6_checkBoundsBeginEnd b_U6_checkBoundsBeginEnd 3 none ∈ g_T := gT_3 48 rfl rfl
theorem w_529 : Cond.methodLink "java/lang/StringUTF16" 241 y_ST_checkBoundsBeginEnd ∈ g_T := gT_3 49 rfl rfl
theorem w_530 : Cond.static y_ST_checkBoundsBeginEnd ∈ g_T := gT_3 50 rfl rfl
theorem w_531 : Cond.code y_ST_checkBoundsBeginEnd b_ST_checkBoundsBeginEnd 3 none ∈ g_T := gT_3 51 rfl rfl
theorem w_532 : Cond.methodLink "java/lang/String" 1062 y_PR_checkFromToIndex ∈ g_T := gT_3 52 rfl rfl
theorem w_533 : Cond.static y_PR_checkFromToIndex ∈ g_T := gT_3 53 rfl rfl
theorem w_534 : Cond.code y_PR_checkFromToIndex b_PR_checkFromToIndex 4 (some .int) ∈ g_T := gT_3 54 rfl rfl
theorem w_535 : Cond.methodLink "java/lang/StringUTF16" 393 y_U6_getChars2 ∈ g_T := gT_3 55 rfl rfl
theorem w_536 : Cond.static y_U6_getChars2 ∈ g_T := gT_3 56 rfl rfl
theorem w_537 : Cond.code y_U6_getChars2 b_U6_getChars2 7 (some .int) ∈ g_T := gT_3 57 rfl rfl
theorem w_538 : Cond.fieldLink "java/lang/StringUTF16" 403 "java/lang/Integer" "DigitOnes" "[B" ∈ g_T := gT_3 58 rfl rfl
theorem w_539 : Cond.fieldLink "java/lang/StringUTF16" 407 "java/lang/Integer" "DigitTens" "[B" ∈ g_T := gT_3 59 rfl rfl
theorem w_540 : Cond.methodLink "DutyRules$Grammar" 97 y_SB_append ∈ g_T := gT_3 60 rfl rfl
theorem w_541 : Cond.methodLink "DutyRules$Grammar" 100 y_SB_toString ∈ g_T := gT_3 61 rfl rfl
theorem w_542 : Cond.methodLink "DutyRulesLaw" 25 y_DR_edition ∈ g_T := gT_3 62 rfl rfl
theorem w_543 : Cond.instanceMethod y_DR_edition ∈ g_T := gT_3 63 rfl rfl
theorem w_544 : Cond.selects "DutyRules" y_DR_edition y_DR_edition ∈ g_T := gT_3 64 rfl rfl
theorem w_545 : Cond.code y_DR_edition b_DR_edition 3 (some .int) ∈ g_T := gT_3 65 rfl rfl
theorem w_546 : Cond.methodLink "DutyRules" 102 y_DR_isDay ∈ g_T := gT_3 66 rfl rfl
theorem w_547 : Cond.static y_DR_isDay ∈ g_T := gT_3 67 rfl rfl
theorem w_548 : Cond.code y_DR_isDay b_DR_isDay 2 (some .boolean) ∈ g_T := gT_3 68 rfl rfl
theorem w_549 : Cond.constantLong "DutyRules" 245 100000 ∈ g_T := gT_3 69 rfl rfl
theorem w_550 : Cond.methodLink "DutyRules" 106 y_ED_add ∈ g_T := gT_3 70 rfl rfl
theorem w_551 : Cond.instanceMethod y_ED_add ∈ g_T := gT_3 71 rfl rfl
theorem w_552 : Cond.selects "DutyRules$Editions" y_ED_add y_ED_add ∈ g_T := gT_3 72 rfl rfl
theorem w_553 : Cond.code y_ED_add b_ED_add 3 (some .int) ∈ g_T := gT_3 73 rfl rfl
theorem w_554 : Cond.methodLink "DutyRulesLaw" 30 y_DR_fact ∈ g_T := gT_3 74 rfl rfl
theorem w_555 : Cond.instanceMethod y_DR_fact ∈ g_T := gT_3 75 rfl rfl
theorem w_556 : Cond.selects "DutyRules" y_DR_fact y_DR_fact ∈ g_T := gT_3 76 rfl rfl
theorem w_557 : Cond.code y_DR_fact b_DR_fact 11 (some .boolean) ∈ g_T := gT_3 77 rfl rfl
theorem w_558 : Cond.methodLink "DutyRules" 110 y_DR_isLot ∈ g_T := gT_3 78 rfl rfl
theorem w_559 : Cond.static y_DR_isLot ∈ g_T := gT_3 79 rfl rfl
theorem w_560 : Cond.code y_DR_isLot b_DR_isLot 1 (some .boolean) ∈ g_T := gT_3 80 rfl rfl
theorem w_561 : Cond.methodLink "DutyRules" 114 y_DR_isFactKind ∈ g_T := gT_3 81 rfl rfl
theorem w_562 : Cond.static y_DR_isFactKind ∈ g_T := gT_3 82 rfl rfl
theorem w_563 : Cond.code y_DR_isFactKind b_DR_isFactKind 1 (some .boolean) ∈ g_T := gT_3 83 rfl rfl
theorem w_564 : Cond.constantLong "DutyRules" 117 100 ∈ g_T := gT_3 84 rfl rfl
theorem w_565 : Cond.methodLink "DutyRules" 119 y_DR_greatestValue ∈ g_T := gT_3 85 rfl rfl
theorem w_566 : Cond.static y_DR_greatestValue ∈ g_T := gT_3 86 rfl rfl
theorem w_567 : Cond.code y_DR_greatestValue b_DR_greatestValue 1 (some .int) ∈ g_T := gT_3 87 rfl rfl
theorem w_568 : Cond.constant "DutyRules" 247 100000000 ∈ g_T := gT_3 88 rfl rfl
theorem w_569 : Cond.constant "DutyRules" 248 1000000 ∈ g_T := gT_3 89 rfl rfl
theorem w_570 : Cond.methodLink "DutyRules" 123 y_FS_add ∈ g_T := gT_3 90 rfl rfl
theorem w_571 : Cond.instanceMethod y_FS_add ∈ g_T := gT_3 91 rfl rfl
theorem w_572 : Cond.selects "DutyRules$Facts" y_FS_add y_FS_add ∈ g_T := gT_3 92 rfl rfl
theorem w_573 : Cond.code y_FS_add b_FS_add 6 (some .boolean) ∈ g_T := gT_3 93 rfl rfl
theorem w_574 : Cond.methodLink "DutyRules$Facts" 24 y_FS_placeOf ∈ g_T := gT_3 94 rfl rfl
theorem w_575 : Cond.static y_FS_placeOf ∈ g_T := gT_3 95 rfl rfl
theorem w_576 : Cond.code y_FS_placeOf b_FS_placeOf 2 (some .int) ∈ g_T := gT_3 96 rfl rfl
theorem w_579 : Cond.instantiable "DutyRules$Fact" 4 ∈ g_T := gT_3 99 rfl rfl
theorem w_580 : Cond.methodLink "DutyRules$Facts" 28 y_FA_init ∈ g_T := gT_3 100 rfl rfl
theorem w_581 : Cond.instanceMethod y_FA_init ∈ g_T := gT_3 101 rfl rfl
theorem w_582 : Cond.code y_FA_init b_FA_init 4 none ∈ g_T := gT_3 102 rfl rfl
theorem w_583 : Cond.methodLink "DutyRules$Fact" 1 y_OB_init ∈ g_T := gT_3 103 rfl rfl
theorem w_584 : Cond.fieldLink "DutyRules$Fact" 7 "DutyRules$Fact" "day" "I" ∈ g_T := gT_3 104 rfl rfl
theorem w_586 : Cond.fieldLink "DutyRules$Fact" 13 "DutyRules$Fact" "value" "I" ∈ g_T := gT_3 106 rfl rfl
theorem w_588 : Cond.fieldLink "DutyRules$Fact" 16 "DutyRules$Fact" "before" "LDutyRules$Fact;" ∈ g_T := gT_3 108 rfl rfl
theorem w_590 : Cond.fieldLink "DutyRules$Fact" 20 "DutyRules$Fact" "knownFrom" "I" ∈ g_T := gT_3 110 rfl rfl
theorem w_592 : Cond.laysFinal "DutyRules$Fact" "DutyRules$Fact" "day" "I" ∈ g_T := gT_3 112 rfl rfl
theorem w_594 : Cond.laysFinal "DutyRules$Fact" "DutyRules$Fact" "value" "I" ∈ g_T := gT_3 114 rfl rfl
theorem w_596 : Cond.laysFinal "DutyRules$Fact" "DutyRules$Fact" "before" "LDutyRules$Fact;" ∈ g_T := gT_3 116 rfl rfl
theorem w_598 : Cond.lays "DutyRules$Fact" "DutyRules$Fact" "knownFrom" "I" ∈ g_T := gT_3 118 rfl rfl
theorem w_600 : Cond.superclass "DutyRules$Fact" "java/lang/Object" ∈ g_T := gT_3 120 rfl rfl
theorem w_601 : Cond.methodLink "DutyRules$Facts" 31 y_MA_max ∈ g_T := gT_3 121 rfl rfl
theorem w_602 : Cond.methodLink "DutyRulesLaw" 35 y_DR_told ∈ g_T := gT_3 122 rfl rfl
theorem w_603 : Cond.instanceMethod y_DR_told ∈ g_T := gT_3 123 rfl rfl
theorem w_604 : Cond.selects "DutyRules" y_DR_told y_DR_told ∈ g_T := gT_3 124 rfl rfl
theorem w_605 : Cond.code y_DR_told b_DR_told 5 (some .boolean) ∈ g_T := gT_3 125 rfl rfl
theorem w_606 : Cond.methodLink "DutyRules" 126 y_FS_learnNewest ∈ g_T := gT_3 126 rfl rfl
theorem w_607 : Cond.instanceMethod y_FS_learnNewest ∈ g_T := gT_3 127 rfl rfl
theorem w_608 : Cond.selects "DutyRules$Facts" y_FS_learnNewest y_FS_learnNewest ∈ g_T := gT_3 128 rfl rfl
theorem w_609 : Cond.code y_FS_learnNewest b_FS_learnNewest 5 (some .boolean) ∈ g_T := gT_3 129 rfl rfl
theorem w_610 : Cond.methodLink "DutyRules$Facts" 36 y_FS_newestOf ∈ g_T := gT_3 130 rfl rfl
theorem w_612 : Cond.instanceMethod y_FS_newestOf ∈ g_T := gT_3 132 rfl rfl
theorem w_613 : Cond.code y_FS_newestOf b_FS_newestOf 4 (some (.object "DutyRules$Fact")) ∈ g_T := gT_3 133 rfl rfl
theorem w_614 : Cond.methodLink "DutyRulesLaw" 40 y_DR_duty ∈ g_T := gT_3 134 rfl rfl
theorem w_615 : Cond.instanceMethod y_DR_duty ∈ g_T := gT_3 135 rfl rfl
theorem w_616 : Cond.selects "DutyRules" y_DR_duty y_DR_duty ∈ g_T := gT_3 136 rfl rfl
theorem w_617 : Cond.code y_DR_duty b_DR_duty 7 (some .long) ∈ g_T := gT_3 137 rfl rfl
theorem w_618 : Cond.methodLink "DutyRules" 130 y_DR_isPart ∈ g_T := gT_3 138 rfl rfl
theorem w_619 : Cond.static y_DR_isPart ∈ g_T := gT_3 139 rfl rfl
theorem w_620 : Cond.code y_DR_isPart b_DR_isPart 1 (some .boolean) ∈ g_T := gT_3 140 rfl rfl
theorem w_621 : Cond.constantLong "DutyRules" 133 (-9223372036854775808) ∈ g_T := gT_3 141 rfl rfl
theorem w_622 : Cond.methodLink "DutyRules" 135 y_DU_reckon ∈ g_T := gT_3 142 rfl rfl
theorem w_623 : Cond.instanceMethod y_DU_reckon ∈ g_T := gT_3 143 rfl rfl
theorem w_624 : Cond.selects "DutyRules$Duty" y_DU_reckon y_DU_reckon ∈ g_T := gT_3 144 rfl rfl
theorem w_625 : Cond.code y_DU_reckon b_DU_reckon 8 none ∈ g_T := gT_3 145 rfl rfl
theorem w_626 : Cond.methodLink "DutyRules$Duty" 42 y_ED_heldOn ∈ g_T := gT_3 146 rfl rfl
theorem w_627 : Cond.instanceMethod y_ED_heldOn ∈ g_T := gT_3 147 rfl rfl
theorem w_628 : Cond.selects "DutyRules$Editions" y_ED_heldOn y_ED_heldOn ∈ g_T := gT_3 148 rfl rfl
theorem w_629 : Cond.code y_ED_heldOn b_ED_heldOn 5 (some (.object "DutyRules$Rules")) ∈ g_T := gT_3 149 rfl rfl
theorem w_630 : Cond.methodLink "DutyRules$Duty" 48 y_FS_heldValue ∈ g_T := gT_3 150 rfl rfl
theorem w_631 : Cond.instanceMethod y_FS_heldValue ∈ g_T := gT_3 151 rfl rfl
theorem w_632 : Cond.selects "DutyRules$Facts" y_FS_heldValue y_FS_heldValue ∈ g_T := gT_3 152 rfl rfl
theorem w_633 : Cond.code y_FS_heldValue b_FS_heldValue 7 (some .int) ∈ g_T := gT_3 153 rfl rfl
theorem w_634 : Cond.methodLink "DutyRules$Duty" 54 y_DU_reasonToBeOpen ∈ g_T := gT_3 154 rfl rfl
theorem w_636 : Cond.instanceMethod y_DU_reasonToBeOpen ∈ g_T := gT_3 156 rfl rfl
theorem w_637 : Cond.code y_DU_reasonToBeOpen b_DU_reasonToBeOpen 3 (some .int) ∈ g_T := gT_3 157 rfl rfl
theorem w_638 : Cond.methodLink "DutyRules$Duty" 62 y_RU_firstRate ∈ g_T := gT_3 158 rfl rfl
theorem w_639 : Cond.instanceMethod y_RU_firstRate ∈ g_T := gT_3 159 rfl rfl
theorem w_640 : Cond.selects "DutyRules$Rules" y_RU_firstRate y_RU_firstRate ∈ g_T := gT_3 160 rfl rfl
theorem w_641 : Cond.code y_RU_firstRate b_RU_firstRate 4 (some .int) ∈ g_T := gT_3 161 rfl rfl
theorem w_642 : Cond.methodLink "DutyRules$Duty" 68 y_RU_firstOfGoods ∈ g_T := gT_3 162 rfl rfl
theorem w_643 : Cond.instanceMethod y_RU_firstOfGoods ∈ g_T := gT_3 163 rfl rfl
theorem w_644 : Cond.selects "DutyRules$Rules" y_RU_firstOfGoods y_RU_firstOfGoods ∈ g_T := gT_3 164 rfl rfl
theorem w_645 : Cond.code y_RU_firstOfGoods b_RU_firstOfGoods 4 (some .int) ∈ g_T := gT_3 165 rfl rfl
theorem w_646 : Cond.methodLink "DutyRules$Duty" 58 y_DU_doSteps ∈ g_T := gT_3 166 rfl rfl
theorem w_648 : Cond.instanceMethod y_DU_doSteps ∈ g_T := gT_3 168 rfl rfl
theorem w_649 : Cond.code y_DU_doSteps b_DU_doSteps 5 none ∈ g_T := gT_3 169 rfl rfl
theorem w_650 : Cond.methodLink "DutyRules$Duty" 71 y_RU_number ∈ g_T := gT_3 170 rfl rfl
theorem w_651 : Cond.constantLong "DutyRules$Duty" 74 100 ∈ g_T := gT_3 171 rfl rfl
theorem w_652 : Cond.constantLong "DutyRules$Duty" 76 10000 ∈ g_T := gT_3 172 rfl rfl
theorem w_653 : Cond.methodLink "DutyRules$Duty" 78 y_DU_addStep ∈ g_T := gT_3 173 rfl rfl
theorem w_655 : Cond.instanceMethod y_DU_addStep ∈ g_T := gT_3 175 rfl rfl
theorem w_656 : Cond.code y_DU_addStep b_DU_addStep 3 none ∈ g_T := gT_3 176 rfl rfl
theorem w_657 : Cond.constantLong "DutyRules$Duty" 105 100000000000 ∈ g_T := gT_3 177 rfl rfl
theorem w_658 : Cond.methodLink "DutyRules$Duty" 82 y_DU_freeLost ∈ g_T := gT_3 178 rfl rfl
theorem w_660 : Cond.instanceMethod y_DU_freeLost ∈ g_T := gT_3 180 rfl rfl
theorem w_661 : Cond.code y_DU_freeLost b_DU_freeLost 7 none ∈ g_T := gT_3 181 rfl rfl
theorem w_662 : Cond.methodLink "DutyRules$Duty" 95 y_MA_min2 ∈ g_T := gT_3 182 rfl rfl
theorem w_663 : Cond.static y_MA_min2 ∈ g_T := gT_3 183 rfl rfl
theorem w_664 : Cond.code y_MA_min2 b_MA_min2 4 (some .long) ∈ g_T := gT_3 184 rfl rfl
theorem w_665 : Cond.methodLink "DutyRules$Duty" 86 y_DU_lessenByAway ∈ g_T := gT_3 185 rfl rfl
theorem w_667 : Cond.instanceMethod y_DU_lessenByAway ∈ g_T := gT_3 187 rfl rfl
theorem w_668 : Cond.code y_DU_lessenByAway b_DU_lessenByAway 7 none ∈ g_T := gT_3 188 rfl rfl
theorem w_669 : Cond.methodLink "DutyRules$Duty" 89 y_DU_lessenForSmall ∈ g_T := gT_3 189 rfl rfl
theorem w_671 : Cond.instanceMethod y_DU_lessenForSmall ∈ g_T := gT_3 191 rfl rfl
theorem w_672 : Cond.code y_DU_lessenForSmall b_DU_lessenForSmall 3 none ∈ g_T := gT_3 192 rfl rfl
theorem w_673 : Cond.methodLink "DutyRules$Duty" 92 y_DU_roundToMultiple ∈ g_T := gT_3 193 rfl rfl
theorem w_675 : Cond.instanceMethod y_DU_roundToMultiple ∈ g_T := gT_3 195 rfl rfl
theorem w_676 : Cond.code y_DU_roundToMultiple b_DU_roundToMultiple 5 none ∈ g_T := gT_3 196 rfl rfl
theorem w_677 : Cond.methodLink "DutyRules$Duty" 101 y_RU_firstOfKind ∈ g_T := gT_3 197 rfl rfl
theorem w_678 : Cond.constantLong "DutyRules$Duty" 107 2 ∈ g_T := gT_3 198 rfl rfl
theorem w_679 : Cond.constantLong "DutyRules" 146 100000000000 ∈ g_T := gT_3 199 rfl rfl
theorem w_680 : Cond.methodLink "DutyRules" 148 y_DR_reduced ∈ g_T := gT_3 200 rfl rfl
theorem w_681 : Cond.static y_DR_reduced ∈ g_T := gT_3 201 rfl rfl
theorem w_682 : Cond.code y_DR_reduced b_DR_reduced 7 (some .long) ∈ g_T := gT_3 202 rfl rfl
theorem w_683 : Cond.methodLink "DutyRules" 249 y_DR_commonDivisor ∈ g_T := gT_3 203 rfl rfl
theorem w_684 : Cond.static y_DR_commonDivisor ∈ g_T := gT_3 204 rfl rfl
theorem w_685 : Cond.code y_DR_commonDivisor b_DR_commonDivisor 11 (some .long) ∈ g_T := gT_3 205 rfl rfl
theorem w_686 : Cond.methodLink "DutyRulesLaw" 45 y_DR_open ∈ g_T := gT_3 206 rfl rfl
theorem w_687 : Cond.instanceMethod y_DR_open ∈ g_T := gT_3 207 rfl rfl
theorem w_688 : Cond.selects "DutyRules" y_DR_open y_DR_open ∈ g_T := gT_3 208 rfl rfl
theorem w_689 : Cond.code y_DR_open b_DR_open 2 (some .int) ∈ g_T := gT_3 209 rfl rfl
theorem w_690 : Cond.methodLink "DutyRulesLaw" 50 y_DR_step ∈ g_T := gT_3 210 rfl rfl
theorem w_691 : Cond.instanceMethod y_DR_step ∈ g_T := gT_3 211 rfl rfl
theorem w_692 : Cond.selects "DutyRules" y_DR_step y_DR_step ∈ g_T := gT_3 212 rfl rfl
theorem w_693 : Cond.code y_DR_step b_DR_step 4 (some .int) ∈ g_T := gT_3 213 rfl rfl
theorem w_694 : Cond.constantLong "DutyRules" 169 2147483647 ∈ g_T := gT_3 214 rfl rfl
theorem w_695 : Cond.methodLink "DutyRules" 171 y_MA_min2 ∈ g_T := gT_3 215 rfl rfl
theorem w_696 : Cond.methodLink "DutyRulesLaw" 55 y_DR_allowed ∈ g_T := gT_3 216 rfl rfl
theorem w_697 : Cond.instanceMethod y_DR_allowed ∈ g_T := gT_3 217 rfl rfl
theorem w_698 : Cond.selects "DutyRules" y_DR_allowed y_DR_allowed ∈ g_T := gT_3 218 rfl rfl
theorem w_699 : Cond.code y_DR_allowed b_DR_allowed 7 (some .long) ∈ g_T := gT_3 219 rfl rfl
theorem w_700 : Cond.methodLink "DutyRules" 177 y_DR_isMonth ∈ g_T := gT_3 220 rfl rfl
theorem w_701 : Cond.static y_DR_isMonth ∈ g_T := gT_3 221 rfl rfl
theorem w_702 : Cond.code y_DR_isMonth b_DR_isMonth 1 (some .boolean) ∈ g_T := gT_3 222 rfl rfl
theorem w_703 : Cond.constantLong "DutyRules" 180 (-1) ∈ g_T := gT_3 223 rfl rfl
theorem w_704 : Cond.methodLink "DutyRules" 182 y_DR_lastDayOf ∈ g_T := gT_3 224 rfl rfl
theorem w_705 : Cond.static y_DR_lastDayOf ∈ g_T := gT_3 225 rfl rfl
theorem w_706 : Cond.code y_DR_lastDayOf b_DR_lastDayOf 1 (some .int) ∈ g_T := gT_3 226 rfl rfl
theorem w_707 : Cond.constantLong "DutyRules" 188 10000 ∈ g_T := gT_3 227 rfl rfl
theorem w_708 : Cond.methodLink "DutyRulesLaw" 60 y_DR_returned ∈ g_T := gT_3 228 rfl rfl
theorem w_709 : Cond.instanceMethod y_DR_returned ∈ g_T := gT_3 229 rfl rfl
theorem w_710 : Cond.selects "DutyRules" y_DR_returned y_DR_returned ∈ g_T := gT_3 230 rfl rfl
theorem w_711 : Cond.code y_DR_returned b_DR_returned 6 (some .int) ∈ g_T := gT_3 231 rfl rfl
theorem w_712 : Cond.methodLink "DutyRules" 190 y_DR_returnOf ∈ g_T := gT_3 232 rfl rfl
theorem w_714 : Cond.instanceMethod y_DR_returnOf ∈ g_T := gT_3 234 rfl rfl
theorem w_715 : Cond.code y_DR_returnOf b_DR_returnOf 3 (some (.object "DutyRules$Return")) ∈ g_T := gT_3 235 rfl rfl
theorem w_716 : Cond.classLink "DutyRules" 194 "DutyRules$Return" ∈ g_T := gT_3 236 rfl rfl
theorem w_717 : Cond.instantiable "DutyRules$Return" 5 ∈ g_T := gT_3 237 rfl rfl
theorem w_718 : Cond.methodLink "DutyRules" 196 y_RE_init ∈ g_T := gT_3 238 rfl rfl
theorem w_719 : Cond.instanceMethod y_RE_init ∈ g_T := gT_3 239 rfl rfl
theorem w_720 : Cond.code y_RE_init b_RE_init 3 none ∈ g_T := gT_4 0 rfl rfl
theorem w_721 : Cond.methodLink "DutyRules$Return" 3 y_OB_init ∈ g_T := gT_4 1 rfl rfl
theorem w_722 : Cond.fieldLink "DutyRules$Return" 9 "DutyRules$Return" "month" "I" ∈ g_T := gT_4 2 rfl rfl
theorem w_724 : Cond.fieldLink "DutyRules$Return" 15 "DutyRules$Return" "before" "LDutyRules$Return;" ∈ g_T := gT_4 4 rfl rfl
theorem w_726 : Cond.fieldLink "DutyRules$Return" 19 "DutyRules$Return" "hasRow" "[Z" ∈ g_T := gT_4 6 rfl rfl
theorem w_727 : Cond.fieldLink "DutyRules$Return" 23 "DutyRules$Return" "cents" "[J" ∈ g_T := gT_4 7 rfl rfl
theorem w_729 : Cond.fieldLink "DutyRules$Return" 27 "DutyRules$Return" "changes" "[J" ∈ g_T := gT_4 9 rfl rfl
theorem w_731 : Cond.laysFinal "DutyRules$Return" "DutyRules$Return" "month" "I" ∈ g_T := gT_4 11 rfl rfl
theorem w_733 : Cond.laysFinal "DutyRules$Return" "DutyRules$Return" "before" "LDutyRules$Return;" ∈ g_T := gT_4 13 rfl rfl
theorem w_735 : Cond.laysFinal "DutyRules$Return" "DutyRules$Return" "hasRow" "[Z" ∈ g_T := gT_4 15 rfl rfl
theorem w_737 : Cond.laysFinal "DutyRules$Return" "DutyRules$Return" "cents" "[J" ∈ g_T := gT_4 17 rfl rfl
theorem w_739 : Cond.laysFinal "DutyRules$Return" "DutyRules$Return" "changes" "[J" ∈ g_T := gT_4 19 rfl rfl
theorem w_741 : Cond.superclass "DutyRules$Return" "java/lang/Object" ∈ g_T := gT_4 21 rfl rfl
theorem w_742 : Cond.arrayClass .boolean ∈ g_T := gT_4 22 rfl rfl
theorem w_743 : Cond.methodLink "DutyRules" 199 y_FS_hasLitres ∈ g_T := gT_4 23 rfl rfl
theorem w_744 : Cond.instanceMethod y_FS_hasLitres ∈ g_T := gT_4 24 rfl rfl
theorem w_745 : Cond.selects "DutyRules$Facts" y_FS_hasLitres y_FS_hasLitres ∈ g_T := gT_4 25 rfl rfl
theorem w_746 : Cond.code y_FS_hasLitres b_FS_hasLitres 5 (some .boolean) ∈ g_T := gT_4 26 rfl rfl
theorem w_747 : Cond.methodLink "DutyRules" 205 y_DR_centsOf ∈ g_T := gT_4 27 rfl rfl
theorem w_749 : Cond.instanceMethod y_DR_centsOf ∈ g_T := gT_4 29 rfl rfl
theorem w_750 : Cond.code y_DR_centsOf b_DR_centsOf 4 (some .long) ∈ g_T := gT_4 30 rfl rfl
theorem w_751 : Cond.methodLink "DutyRules" 209 y_RE_put ∈ g_T := gT_4 31 rfl rfl
theorem w_752 : Cond.instanceMethod y_RE_put ∈ g_T := gT_4 32 rfl rfl
theorem w_753 : Cond.selects "DutyRules$Return" y_RE_put y_RE_put ∈ g_T := gT_4 33 rfl rfl
theorem w_754 : Cond.code y_RE_put b_RE_put 5 none ∈ g_T := gT_4 34 rfl rfl
theorem w_756 : Cond.methodLink "DutyRules$Return" 34 y_RE_isSettled ∈ g_T := gT_4 36 rfl rfl
theorem w_757 : Cond.instanceMethod y_RE_isSettled ∈ g_T := gT_4 37 rfl rfl
theorem w_758 : Cond.selects "DutyRules$Return" y_RE_isSettled y_RE_isSettled ∈ g_T := gT_4 38 rfl rfl
theorem w_759 : Cond.code y_RE_isSettled b_RE_isSettled 2 (some .boolean) ∈ g_T := gT_4 39 rfl rfl
theorem w_760 : Cond.constantLong "DutyRules$Return" 37 (-9223372036854775808) ∈ g_T := gT_4 40 rfl rfl
theorem w_761 : Cond.methodLink "DutyRules" 213 y_RE_count ∈ g_T := gT_4 41 rfl rfl
theorem w_762 : Cond.instanceMethod y_RE_count ∈ g_T := gT_4 42 rfl rfl
theorem w_763 : Cond.selects "DutyRules$Return" y_RE_count y_RE_count ∈ g_T := gT_4 43 rfl rfl
theorem w_764 : Cond.code y_RE_count b_RE_count 3 (some .int) ∈ g_T := gT_4 44 rfl rfl
theorem w_765 : Cond.methodLink "DutyRulesLaw" 64 y_DR_row ∈ g_T := gT_4 45 rfl rfl
theorem w_766 : Cond.instanceMethod y_DR_row ∈ g_T := gT_4 46 rfl rfl
theorem w_767 : Cond.selects "DutyRules" y_DR_row y_DR_row ∈ g_T := gT_4 47 rfl rfl
theorem w_768 : Cond.code y_DR_row b_DR_row 4 (some .long) ∈ g_T := gT_4 48 rfl rfl
theorem w_769 : Cond.methodLink "DutyRules" 215 y_RE_lotOfRow ∈ g_T := gT_4 49 rfl rfl
theorem w_770 : Cond.instanceMethod y_RE_lotOfRow ∈ g_T := gT_4 50 rfl rfl
theorem w_771 : Cond.selects "DutyRules$Return" y_RE_lotOfRow y_RE_lotOfRow ∈ g_T := gT_4 51 rfl rfl
theorem w_772 : Cond.code y_RE_lotOfRow b_RE_lotOfRow 4 (some .int) ∈ g_T := gT_4 52 rfl rfl
theorem w_773 : Cond.methodLink "DutyRulesLaw" 68 y_DR_difference ∈ g_T := gT_4 53 rfl rfl
theorem w_774 : Cond.instanceMethod y_DR_difference ∈ g_T := gT_4 54 rfl rfl
theorem w_775 : Cond.selects "DutyRules" y_DR_difference y_DR_difference ∈ g_T := gT_4 55 rfl rfl
theorem w_776 : Cond.code y_DR_difference b_DR_difference 10 (some .long) ∈ g_T := gT_4 56 rfl rfl
theorem w_777 : Cond.methodLink "DutyRules" 224 y_RE_isSettled ∈ g_T := gT_4 57 rfl rfl
theorem w_778 : Cond.methodLink "DutyRulesLaw" 73 y_DR_write ∈ g_T := gT_4 58 rfl rfl
theorem w_779 : Cond.instanceMethod y_DR_write ∈ g_T := gT_4 59 rfl rfl
theorem w_780 : Cond.selects "DutyRules" y_DR_write y_DR_write ∈ g_T := gT_4 60 rfl rfl
theorem w_781 : Cond.code y_DR_write b_DR_write 2 (some .int) ∈ g_T := gT_4 61 rfl rfl
theorem w_782 : Cond.methodLink "DutyRules" 227 y_ST_length ∈ g_T := gT_4 62 rfl rfl
theorem w_783 : Cond.methodLink "DutyRules" 230 y_ST_charAt ∈ g_T := gT_4 63 rfl rfl
theorem w_784 : Cond.methodLink "DutyRulesLaw" 77 y_DR_interest ∈ g_T := gT_4 64 rfl rfl
theorem w_785 : Cond.instanceMethod y_DR_interest ∈ g_T := gT_4 65 rfl rfl
theorem w_786 : Cond.selects "DutyRules" y_DR_interest y_DR_interest ∈ g_T := gT_4 66 rfl rfl
theorem w_787 : Cond.code y_DR_interest b_DR_interest 9 (some .long) ∈ g_T := gT_4 67 rfl rfl
theorem w_788 : Cond.methodLink "DutyRules" 234 y_MA_max2 ∈ g_T := gT_4 68 rfl rfl
theorem w_789 : Cond.static y_MA_max2 ∈ g_T := gT_4 69 rfl rfl
theorem w_790 : Cond.code y_MA_max2 b_MA_max2 4 (some .long) ∈ g_T := gT_4 70 rfl rfl
theorem w_791 : Cond.methodLink "DutyRules" 237 y_RE_settledSum ∈ g_T := gT_4 71 rfl rfl
theorem w_792 : Cond.instanceMethod y_RE_settledSum ∈ g_T := gT_4 72 rfl rfl
theorem w_793 : Cond.selects "DutyRules$Return" y_RE_settledSum y_RE_settledSum ∈ g_T := gT_4 73 rfl rfl
theorem w_794 : Cond.code y_RE_settledSum b_RE_settledSum 4 (some .long) ∈ g_T := gT_4 74 rfl rfl
theorem w_795 : Cond.methodLink "DutyRules" 241 y_DR_lateShare ∈ g_T := gT_4 75 rfl rfl
theorem w_797 : Cond.instanceMethod y_DR_lateShare ∈ g_T := gT_4 77 rfl rfl
theorem w_798 : Cond.code y_DR_lateShare b_DR_lateShare 4 (some .long) ∈ g_T := gT_4 78 rfl rfl
theorem w_799 : Cond.methodLink "DutyRules" 258 y_ED_heldOn ∈ g_T := gT_4 79 rfl rfl
theorem w_800 : Cond.methodLink "DutyRules" 262 y_RU_firstOfKind ∈ g_T := gT_4 80 rfl rfl
theorem w_801 : Cond.methodLink "DutyRules" 265 y_RU_number ∈ g_T := gT_4 81 rfl rfl
theorem w_802 : Cond.classLink "DutyRulesLaw" 10 "DutyRulesModel" ∈ g_T := gT_4 82 rfl rfl
theorem w_803 : Cond.instantiable "DutyRulesModel" 40 ∈ g_T := gT_4 83 rfl rfl
theorem w_804 : Cond.methodLink "DutyRulesLaw" 12 y_MO_init ∈ g_T := gT_4 84 rfl rfl
theorem w_805 : Cond.instanceMethod y_MO_init ∈ g_T := gT_4 85 rfl rfl
theorem w_806 : Cond.code y_MO_init b_MO_init 1 none ∈ g_T := gT_4 86 rfl rfl
theorem w_807 : Cond.methodLink "DutyRulesModel" 1 y_OB_init ∈ g_T := gT_4 87 rfl rfl
theorem w_808 : Cond.constant "DutyRulesModel" 63 90030 ∈ g_T := gT_4 88 rfl rfl
theorem w_809 : Cond.fieldLink "DutyRulesModel" 9 "DutyRulesModel" "text" "[I" ∈ g_T := gT_4 89 rfl rfl
theorem w_810 : Cond.fieldLink "DutyRulesModel" 83 "DutyRulesModel" "length" "I" ∈ g_T := gT_4 90 rfl rfl
theorem w_811 : Cond.fieldLink "DutyRulesModel" 13 "DutyRulesModel" "reading" "[I" ∈ g_T := gT_4 91 rfl rfl
theorem w_812 : Cond.fieldLink "DutyRulesModel" 16 "DutyRulesModel" "rules" "[I" ∈ g_T := gT_4 92 rfl rfl
theorem w_813 : Cond.fieldLink "DutyRulesModel" 19 "DutyRulesModel" "many" "[I" ∈ g_T := gT_4 93 rfl rfl
theorem w_814 : Cond.fieldLink "DutyRulesModel" 22 "DutyRulesModel" "editionFrom" "[J" ∈ g_T := gT_4 94 rfl rfl
theorem w_815 : Cond.fieldLink "DutyRulesModel" 134 "DutyRulesModel" "editions" "I" ∈ g_T := gT_4 95 rfl rfl
theorem w_816 : Cond.fieldLink "DutyRulesModel" 26 "DutyRulesModel" "factLot" "[I" ∈ g_T := gT_4 96 rfl rfl
theorem w_817 : Cond.fieldLink "DutyRulesModel" 29 "DutyRulesModel" "factKind" "[I" ∈ g_T := gT_4 97 rfl rfl
theorem w_818 : Cond.fieldLink "DutyRulesModel" 32 "DutyRulesModel" "factDay" "[J" ∈ g_T := gT_4 98 rfl rfl
theorem w_819 : Cond.fieldLink "DutyRulesModel" 35 "DutyRulesModel" "factKnown" "[J" ∈ g_T := gT_4 99 rfl rfl
theorem w_820 : Cond.fieldLink "DutyRulesModel" 38 "DutyRulesModel" "factValue" "[J" ∈ g_T := gT_4 100 rfl rfl
theorem w_821 : Cond.fieldLink "DutyRulesModel" 177 "DutyRulesModel" "facts" "I" ∈ g_T := gT_4 101 rfl rfl
theorem w_822 : Cond.fieldLink "DutyRulesModel" 180 "DutyRulesModel" "latest" "J" ∈ g_T := gT_4 102 rfl rfl
theorem w_823 : Cond.fieldLink "DutyRulesModel" 199 "DutyRulesModel" "reason" "I" ∈ g_T := gT_4 103 rfl rfl
theorem w_824 : Cond.fieldLink "DutyRulesModel" 41 "DutyRulesModel" "stepLetter" "[I" ∈ g_T := gT_4 104 rfl rfl
theorem w_825 : Cond.fieldLink "DutyRulesModel" 44 "DutyRulesModel" "stepRule" "[I" ∈ g_T := gT_4 105 rfl rfl
theorem w_826 : Cond.fieldLink "DutyRulesModel" 47 "DutyRulesModel" "stepCents" "[J" ∈ g_T := gT_4 106 rfl rfl
theorem w_827 : Cond.fieldLink "DutyRulesModel" 184 "DutyRulesModel" "steps" "I" ∈ g_T := gT_4 107 rfl rfl
theorem w_828 : Cond.fieldLink "DutyRulesModel" 192 "DutyRulesModel" "free" "J" ∈ g_T := gT_4 108 rfl rfl
theorem w_829 : Cond.fieldLink "DutyRulesModel" 187 "DutyRulesModel" "cents" "J" ∈ g_T := gT_4 109 rfl rfl
theorem w_830 : Cond.fieldLink "DutyRulesModel" 50 "DutyRulesModel" "shownLot" "I" ∈ g_T := gT_4 110 rfl rfl
theorem w_831 : Cond.fieldLink "DutyRulesModel" 234 "DutyRulesModel" "shownReason" "I" ∈ g_T := gT_4 111 rfl rfl
theorem w_832 : Cond.fieldLink "DutyRulesModel" 237 "DutyRulesModel" "shownSteps" "I" ∈ g_T := gT_4 112 rfl rfl
theorem w_833 : Cond.fieldLink "DutyRulesModel" 54 "DutyRulesModel" "shownLetter" "[I" ∈ g_T := gT_4 113 rfl rfl
theorem w_834 : Cond.fieldLink "DutyRulesModel" 57 "DutyRulesModel" "shownRule" "[I" ∈ g_T := gT_4 114 rfl rfl
theorem w_835 : Cond.fieldLink "DutyRulesModel" 60 "DutyRulesModel" "shownCents" "[J" ∈ g_T := gT_4 115 rfl rfl
theorem w_836 : Cond.fieldLink "DutyRulesModel" 64 "DutyRulesModel" "there" "[I" ∈ g_T := gT_4 116 rfl rfl
theorem w_837 : Cond.fieldLink "DutyRulesModel" 67 "DutyRulesModel" "due" "[J" ∈ g_T := gT_4 117 rfl rfl
theorem w_838 : Cond.fieldLink "DutyRulesModel" 70 "DutyRulesModel" "wasReturned" "[Z" ∈ g_T := gT_4 118 rfl rfl
theorem w_839 : Cond.fieldLink "DutyRulesModel" 258 "DutyRulesModel" "rows" "I" ∈ g_T := gT_4 119 rfl rfl
theorem w_840 : Cond.fieldLink "DutyRulesModel" 74 "DutyRulesModel" "rowLot" "[I" ∈ g_T := gT_4 120 rfl rfl
theorem w_841 : Cond.fieldLink "DutyRulesModel" 77 "DutyRulesModel" "rowDuty" "[J" ∈ g_T := gT_4 121 rfl rfl
theorem w_842 : Cond.fieldLink "DutyRulesModel" 80 "DutyRulesModel" "rowMore" "[J" ∈ g_T := gT_4 122 rfl rfl
theorem w_843 : Cond.fieldLink "DutyRulesModel" 89 "DutyRulesModel" "begin" "I" ∈ g_T := gT_4 123 rfl rfl
theorem w_844 : Cond.fieldLink "DutyRulesModel" 86 "DutyRulesModel" "end" "I" ∈ g_T := gT_4 124 rfl rfl
theorem w_845 : Cond.fieldLink "DutyRulesModel" 96 "DutyRulesModel" "word" "I" ∈ g_T := gT_4 125 rfl rfl
theorem w_846 : Cond.fieldLink "DutyRulesModel" 140 "DutyRulesModel" "wanted" "I" ∈ g_T := gT_4 126 rfl rfl
theorem w_847 : Cond.fieldLink "DutyRulesModel" 143 "DutyRulesModel" "found" "I" ∈ g_T := gT_4 127 rfl rfl
theorem w_848 : Cond.fieldLink "DutyRulesModel" 137 "DutyRulesModel" "written" "I" ∈ g_T := gT_4 128 rfl rfl
theorem w_849 : Cond.laysFinal "DutyRulesModel" "DutyRulesModel" "text" "[I" ∈ g_T := gT_4 129 rfl rfl
theorem w_851 : Cond.lays "DutyRulesModel" "DutyRulesModel" "length" "I" ∈ g_T := gT_4 131 rfl rfl
theorem w_853 : Cond.laysFinal "DutyRulesModel" "DutyRulesModel" "reading" "[I" ∈ g_T := gT_4 133 rfl rfl
theorem w_855 : Cond.laysFinal "DutyRulesModel" "DutyRulesModel" "rules" "[I" ∈ g_T := gT_4 135 rfl rfl
theorem w_857 : Cond.laysFinal "DutyRulesModel" "DutyRulesModel" "many" "[I" ∈ g_T := gT_4 137 rfl rfl
theorem w_859 : Cond.laysFinal "DutyRulesModel" "DutyRulesModel" "editionFrom" "[J" ∈ g_T := gT_4 139 rfl rfl
theorem w_861 : Cond.lays "DutyRulesModel" "DutyRulesModel" "editions" "I" ∈ g_T := gT_4 141 rfl rfl
theorem w_863 : Cond.laysFinal "DutyRulesModel" "DutyRulesModel" "factLot" "[I" ∈ g_T := gT_4 143 rfl rfl
theorem w_865 : Cond.laysFinal "DutyRulesModel" "DutyRulesModel" "factKind" "[I" ∈ g_T := gT_4 145 rfl rfl
theorem w_867 : Cond.laysFinal "DutyRulesModel" "DutyRulesModel" "factDay" "[J" ∈ g_T := gT_4 147 rfl rfl
theorem w_869 : Cond.laysFinal "DutyRulesModel" "DutyRulesModel" "factKnown" "[J" ∈ g_T := gT_4 149 rfl rfl
theorem w_871 : Cond.laysFinal "DutyRulesModel" "DutyRulesModel" "factValue" "[J" ∈ g_T := gT_4 151 rfl rfl
theorem w_873 : Cond.lays "DutyRulesModel" "DutyRulesModel" "facts" "I" ∈ g_T := gT_4 153 rfl rfl
theorem w_875 : Cond.lays "DutyRulesModel" "DutyRulesModel" "latest" "J" ∈ g_T := gT_4 155 rfl rfl
theorem w_877 : Cond.lays "DutyRulesModel" "DutyRulesModel" "reason" "I" ∈ g_T := gT_4 157 rfl rfl
theorem w_879 : Cond.laysFinal "DutyRulesModel" "DutyRulesModel" "stepLetter" "[I" ∈ g_T := gT_4 159 rfl rfl
theorem w_881 : Cond.laysFinal "DutyRulesModel" "DutyRulesModel" "stepRule" "[I" ∈ g_T := gT_4 161 rfl rfl
theorem w_883 : Cond.laysFinal "DutyRulesModel" "DutyRulesModel" "stepCents" "[J" ∈ g_T := gT_4 163 rfl rfl
theorem w_885 : Cond.lays "DutyRulesModel" "DutyRulesModel" "steps" "I" ∈ g_T := gT_4 165 rfl rfl
theorem w_887 : Cond.lays "DutyRulesModel" "DutyRulesModel" "free" "J" ∈ g_T := gT_4 167 rfl rfl
theorem w_889 : Cond.lays "DutyRulesModel" "DutyRulesModel" "cents" "J" ∈ g_T := gT_4 169 rfl rfl
theorem w_891 : Cond.lays "DutyRulesModel" "DutyRulesModel" "shownLot" "I" ∈ g_T := gT_4 171 rfl rfl
theorem w_893 : Cond.lays "DutyRulesModel" "DutyRulesModel" "shownReason" "I" ∈ g_T := gT_4 173 rfl rfl
theorem w_895 : Cond.lays "DutyRulesModel" "DutyRulesModel" "shownSteps" "I" ∈ g_T := gT_4 175 rfl rfl
theorem w_897 : Cond.laysFinal "DutyRulesModel" "DutyRulesModel" "shownLetter" "[I" ∈ g_T := gT_4 177 rfl rfl
theorem w_899 : Cond.laysFinal "DutyRulesModel" "DutyRulesModel" "shownRule" "[I" ∈ g_T := gT_4 179 rfl rfl
theorem w_901 : Cond.laysFinal "DutyRulesModel" "DutyRulesModel" "shownCents" "[J" ∈ g_T := gT_4 181 rfl rfl
theorem w_903 : Cond.laysFinal "DutyRulesModel" "DutyRulesModel" "there" "[I" ∈ g_T := gT_4 183 rfl rfl
theorem w_905 : Cond.laysFinal "DutyRulesModel" "DutyRulesModel" "due" "[J" ∈ g_T := gT_4 185 rfl rfl
theorem w_907 : Cond.laysFinal "DutyRulesModel" "DutyRulesModel" "wasReturned" "[Z" ∈ g_T := gT_4 187 rfl rfl
theorem w_909 : Cond.lays "DutyRulesModel" "DutyRulesModel" "rows" "I" ∈ g_T := gT_4 189 rfl rfl
theorem w_911 : Cond.laysFinal "DutyRulesModel" "DutyRulesModel" "rowLot" "[I" ∈ g_T := gT_4 191 rfl rfl
theorem w_913 : Cond.laysFinal "DutyRulesModel" "DutyRulesModel" "rowDuty" "[J" ∈ g_T := gT_4 193 rfl rfl
theorem w_915 : Cond.laysFinal "DutyRulesModel" "DutyRulesModel" "rowMore" "[J" ∈ g_T := gT_4 195 rfl rfl
theorem w_917 : Cond.lays "DutyRulesModel" "DutyRulesModel" "begin" "I" ∈ g_T := gT_4 197 rfl rfl
theorem w_919 : Cond.lays "DutyRulesModel" "DutyRulesModel" "end" "I" ∈ g_T := gT_4 199 rfl rfl
theorem w_921 : Cond.lays "DutyRulesModel" "DutyRulesModel" "word" "I" ∈ g_T := gT_4 201 rfl rfl
theorem w_923 : Cond.lays "DutyRulesModel" "DutyRulesModel" "wanted" "I" ∈ g_T := gT_4 203 rfl rfl
theorem w_925 : Cond.lays "DutyRulesModel" "DutyRulesModel" "found" "I" ∈ g_T := gT_4 205 rfl rfl
theorem w_927 : Cond.lays "DutyRulesModel" "DutyRulesModel" "written" "I" ∈ g_T := gT_4 207 rfl rfl
theorem w_929 : Cond.superclass "DutyRulesModel" "java/lang/Object" ∈ g_T := gT_4 209 rfl rfl
theorem w_930 : Cond.methodLink "DutyRulesLaw" 17 y_MO_unit ∈ g_T := gT_4 210 rfl rfl
theorem w_931 : Cond.instanceMethod y_MO_unit ∈ g_T := gT_4 211 rfl rfl
theorem w_932 : Cond.selects "DutyRulesModel" y_MO_unit y_MO_unit ∈ g_T := gT_4 212 rfl rfl
theorem w_933 : Cond.code y_MO_unit b_MO_unit 2 (some .boolean) ∈ g_T := gT_4 213 rfl rfl
theorem w_934 : Cond.methodLink "DutyRulesLaw" 22 y_MO_read ∈ g_T := gT_4 214 rfl rfl
theorem w_935 : Cond.instanceMethod y_MO_read ∈ g_T := gT_4 215 rfl rfl
theorem w_936 : Cond.selects "DutyRulesModel" y_MO_read y_MO_read ∈ g_T := gT_4 216 rfl rfl
theorem w_937 : Cond.code y_MO_read b_MO_read 4 (some .int) ∈ g_T := gT_4 217 rfl rfl
theorem w_938 : Cond.methodLink "DutyRulesModel" 120 y_MO_next ∈ g_T := gT_4 218 rfl rfl
theorem w_940 : Cond.instanceMethod y_MO_next ∈ g_T := gT_4 220 rfl rfl
theorem w_941 : Cond.code y_MO_next b_MO_next 1 none ∈ g_T := gT_4 221 rfl rfl
theorem w_942 : Cond.methodLink "DutyRulesModel" 92 y_MO_isBlank ∈ g_T := gT_4 222 rfl rfl
theorem w_943 : Cond.static y_MO_isBlank ∈ g_T := gT_4 223 rfl rfl
theorem w_944 : Cond.code y_MO_isBlank b_MO_isBlank 1 (some .boolean) ∈ g_T := gT_4 224 rfl rfl
theorem w_945 : Cond.methodLink "DutyRulesModel" 129 y_MO_rule ∈ g_T := gT_4 225 rfl rfl
theorem w_947 : Cond.instanceMethod y_MO_rule ∈ g_T := gT_4 227 rfl rfl
theorem w_948 : Cond.code y_MO_rule b_MO_rule 10 (some .boolean) ∈ g_T := gT_4 228 rfl rfl
theorem w_949 : Cond.methodLink "DutyRulesModel" 117 y_MO_is ∈ g_T := gT_4 229 rfl rfl
theorem w_951 : Cond.instanceMethod y_MO_is ∈ g_T := gT_4 231 rfl rfl
theorem w_952 : Cond.code y_MO_is b_MO_is 3 (some .boolean) ∈ g_T := gT_4 232 rfl rfl
theorem w_953 : Cond.methodLink "DutyRulesModel" 99 y_MO_wordSize ∈ g_T := gT_4 233 rfl rfl
theorem w_954 : Cond.static y_MO_wordSize ∈ g_T := gT_4 234 rfl rfl
theorem w_955 : Cond.code y_MO_wordSize b_MO_wordSize 2 (some .int) ∈ g_T := gT_4 235 rfl rfl
theorem w_956 : Cond.methodLink "DutyRulesModel" 103 y_MO_wordByte ∈ g_T := gT_4 236 rfl rfl
theorem w_957 : Cond.static y_MO_wordByte ∈ g_T := gT_4 237 rfl rfl
theorem w_958 : Cond.code y_MO_wordByte b_MO_wordByte 5 (some .int) ∈ g_T := gT_4 238 rfl rfl
theorem w_960 : Cond.methodLink "DutyRulesModel" 109 y_ST_charAt ∈ g_T := gT_5 0 rfl rfl
theorem w_961 : Cond.methodLink "DutyRulesModel" 123 y_MO_part ∈ g_T := gT_5 1 rfl rfl
theorem w_962 : Cond.static y_MO_part ∈ g_T := gT_5 2 rfl rfl
theorem w_963 : Cond.code y_MO_part b_MO_part 2 (some .int) ∈ g_T := gT_5 3 rfl rfl
theorem w_964 : Cond.constant "DutyRulesModel" 115 1000000 ∈ g_T := gT_5 4 rfl rfl
theorem w_965 : Cond.constant "DutyRulesModel" 116 100000000 ∈ g_T := gT_5 5 rfl rfl
theorem w_966 : Cond.methodLink "DutyRulesModel" 126 y_MO_number ∈ g_T := gT_5 6 rfl rfl
theorem w_968 : Cond.instanceMethod y_MO_number ∈ g_T := gT_5 8 rfl rfl
theorem w_969 : Cond.code y_MO_number b_MO_number 4 (some .int) ∈ g_T := gT_5 9 rfl rfl
theorem w_970 : Cond.methodLink "DutyRulesLaw" 29 y_MO_edition ∈ g_T := gT_5 10 rfl rfl
theorem w_971 : Cond.instanceMethod y_MO_edition ∈ g_T := gT_5 11 rfl rfl
theorem w_972 : Cond.selects "DutyRulesModel" y_MO_edition y_MO_edition ∈ g_T := gT_5 12 rfl rfl
theorem w_973 : Cond.code y_MO_edition b_MO_edition 4 (some .int) ∈ g_T := gT_5 13 rfl rfl
theorem w_974 : Cond.constantLong "DutyRulesModel" 132 100000 ∈ g_T := gT_5 14 rfl rfl
theorem w_975 : Cond.methodLink "DutyRulesLaw" 76 y_MO_write ∈ g_T := gT_5 15 rfl rfl
theorem w_976 : Cond.instanceMethod y_MO_write ∈ g_T := gT_5 16 rfl rfl
theorem w_977 : Cond.selects "DutyRulesModel" y_MO_write y_MO_write ∈ g_T := gT_5 17 rfl rfl
theorem w_978 : Cond.code y_MO_write b_MO_write 7 (some .int) ∈ g_T := gT_5 18 rfl rfl
theorem w_979 : Cond.methodLink "DutyRulesModel" 150 y_MO_say ∈ g_T := gT_5 19 rfl rfl
theorem w_981 : Cond.instanceMethod y_MO_say ∈ g_T := gT_5 21 rfl rfl
theorem w_982 : Cond.code y_MO_say b_MO_say 3 none ∈ g_T := gT_5 22 rfl rfl
theorem w_983 : Cond.methodLink "DutyRulesModel" 146 y_MO_put ∈ g_T := gT_5 23 rfl rfl
theorem w_985 : Cond.instanceMethod y_MO_put ∈ g_T := gT_5 25 rfl rfl
theorem w_986 : Cond.code y_MO_put b_MO_put 2 none ∈ g_T := gT_5 26 rfl rfl
theorem w_987 : Cond.methodLink "DutyRulesModel" 153 y_MO_digits ∈ g_T := gT_5 27 rfl rfl
theorem w_989 : Cond.instanceMethod y_MO_digits ∈ g_T := gT_5 29 rfl rfl
theorem w_990 : Cond.code y_MO_digits b_MO_digits 3 none ∈ g_T := gT_5 30 rfl rfl
theorem w_991 : Cond.methodLink "DutyRulesLaw" 34 y_MO_fact ∈ g_T := gT_5 31 rfl rfl
theorem w_992 : Cond.instanceMethod y_MO_fact ∈ g_T := gT_5 32 rfl rfl
theorem w_993 : Cond.selects "DutyRulesModel" y_MO_fact y_MO_fact ∈ g_T := gT_5 33 rfl rfl
theorem w_994 : Cond.code y_MO_fact b_MO_fact 11 (some .boolean) ∈ g_T := gT_5 34 rfl rfl
theorem w_995 : Cond.methodLink "DutyRulesModel" 164 y_MO_isLot ∈ g_T := gT_5 35 rfl rfl
theorem w_996 : Cond.static y_MO_isLot ∈ g_T := gT_5 36 rfl rfl
theorem w_997 : Cond.code y_MO_isLot b_MO_isLot 1 (some .boolean) ∈ g_T := gT_5 37 rfl rfl
theorem w_998 : Cond.methodLink "DutyRulesModel" 167 y_MO_isDay ∈ g_T := gT_5 38 rfl rfl
theorem w_999 : Cond.static y_MO_isDay ∈ g_T := gT_5 39 rfl rfl
theorem w_1000 : Cond.code y_MO_isDay b_MO_isDay 2 (some .boolean) ∈ g_T := gT_5 40 rfl rfl
theorem w_1001 : Cond.constantLong "DutyRulesModel" 171 100 ∈ g_T := gT_5 41 rfl rfl
theorem w_1002 : Cond.methodLink "DutyRulesModel" 173 y_MO_most ∈ g_T := gT_5 42 rfl rfl
theorem w_1003 : Cond.static y_MO_most ∈ g_T := gT_5 43 rfl rfl
theorem w_1004 : Cond.code y_MO_most b_MO_most 1 (some .long) ∈ g_T := gT_5 44 rfl rfl
theorem w_1005 : Cond.constantLong "DutyRulesModel" 156 9 ∈ g_T := gT_5 45 rfl rfl
theorem w_1006 : Cond.constantLong "DutyRulesModel" 158 10000 ∈ g_T := gT_5 46 rfl rfl
theorem w_1007 : Cond.constantLong "DutyRulesModel" 160 100000000 ∈ g_T := gT_5 47 rfl rfl
theorem w_1008 : Cond.constantLong "DutyRulesModel" 162 1000000 ∈ g_T := gT_5 48 rfl rfl
theorem w_1009 : Cond.methodLink "DutyRulesLaw" 39 y_MO_told ∈ g_T := gT_5 49 rfl rfl
theorem w_1010 : Cond.instanceMethod y_MO_told ∈ g_T := gT_5 50 rfl rfl
theorem w_1011 : Cond.selects "DutyRulesModel" y_MO_told y_MO_told ∈ g_T := gT_5 51 rfl rfl
theorem w_1012 : Cond.code y_MO_told b_MO_told 7 (some .boolean) ∈ g_T := gT_5 52 rfl rfl
theorem w_1013 : Cond.methodLink "DutyRulesLaw" 44 y_MO_duty ∈ g_T := gT_5 53 rfl rfl
theorem w_1014 : Cond.instanceMethod y_MO_duty ∈ g_T := gT_5 54 rfl rfl
theorem w_1015 : Cond.selects "DutyRulesModel" y_MO_duty y_MO_duty ∈ g_T := gT_5 55 rfl rfl
theorem w_1016 : Cond.code y_MO_duty b_MO_duty 9 (some .long) ∈ g_T := gT_5 56 rfl rfl
theorem w_1017 : Cond.constantLong "DutyRulesModel" 228 (-9223372036854775808) ∈ g_T := gT_5 57 rfl rfl
theorem w_1018 : Cond.methodLink "DutyRulesModel" 230 y_MO_reckon ∈ g_T := gT_5 58 rfl rfl
theorem w_1020 : Cond.instanceMethod y_MO_reckon ∈ g_T := gT_5 60 rfl rfl
theorem w_1021 : Cond.code y_MO_reckon b_MO_reckon 25 (some .boolean) ∈ g_T := gT_5 61 rfl rfl
theorem w_1022 : Cond.methodLink "DutyRulesModel" 195 y_MO_editionOf ∈ g_T := gT_5 62 rfl rfl
theorem w_1024 : Cond.instanceMethod y_MO_editionOf ∈ g_T := gT_5 64 rfl rfl
theorem w_1025 : Cond.code y_MO_editionOf b_MO_editionOf 5 (some .int) ∈ g_T := gT_5 65 rfl rfl
theorem w_1026 : Cond.methodLink "DutyRulesModel" 202 y_MO_holds ∈ g_T := gT_5 66 rfl rfl
theorem w_1028 : Cond.instanceMethod y_MO_holds ∈ g_T := gT_5 68 rfl rfl
theorem w_1029 : Cond.code y_MO_holds b_MO_holds 10 (some .int) ∈ g_T := gT_5 69 rfl rfl
theorem w_1030 : Cond.methodLink "DutyRulesModel" 206 y_MO_find ∈ g_T := gT_5 70 rfl rfl
theorem w_1032 : Cond.instanceMethod y_MO_find ∈ g_T := gT_5 72 rfl rfl
theorem w_1033 : Cond.code y_MO_find b_MO_find 10 (some .int) ∈ g_T := gT_5 73 rfl rfl
theorem w_1034 : Cond.methodLink "DutyRulesModel" 209 y_MO_value ∈ g_T := gT_5 74 rfl rfl
theorem w_1036 : Cond.instanceMethod y_MO_value ∈ g_T := gT_5 76 rfl rfl
theorem w_1037 : Cond.code y_MO_value b_MO_value 4 (some .int) ∈ g_T := gT_5 77 rfl rfl
theorem w_1038 : Cond.methodLink "DutyRulesModel" 213 y_MO_step ∈ g_T := gT_5 78 rfl rfl
theorem w_1040 : Cond.instanceMethod y_MO_step ∈ g_T := gT_5 80 rfl rfl
theorem w_1041 : Cond.code y_MO_step b_MO_step 3 none ∈ g_T := gT_5 81 rfl rfl
theorem w_1042 : Cond.constantLong "DutyRulesModel" 190 100000000000 ∈ g_T := gT_5 82 rfl rfl
theorem w_1043 : Cond.methodLink "DutyRulesModel" 217 y_MO_least ∈ g_T := gT_5 83 rfl rfl
theorem w_1044 : Cond.static y_MO_least ∈ g_T := gT_5 84 rfl rfl
theorem w_1045 : Cond.code y_MO_least b_MO_least 4 (some .long) ∈ g_T := gT_5 85 rfl rfl
theorem w_1046 : Cond.constantLong "DutyRulesModel" 221 2 ∈ g_T := gT_5 86 rfl rfl
theorem w_1047 : Cond.methodLink "DutyRulesModel" 240 y_MO_fraction ∈ g_T := gT_5 87 rfl rfl
theorem w_1048 : Cond.static y_MO_fraction ∈ g_T := gT_5 88 rfl rfl
theorem w_1049 : Cond.code y_MO_fraction b_MO_fraction 7 (some .long) ∈ g_T := gT_5 89 rfl rfl
theorem w_1050 : Cond.methodLink "DutyRulesModel" 223 y_MO_divisor ∈ g_T := gT_5 90 rfl rfl
theorem w_1051 : Cond.static y_MO_divisor ∈ g_T := gT_5 91 rfl rfl
theorem w_1052 : Cond.code y_MO_divisor b_MO_divisor 10 (some .long) ∈ g_T := gT_5 92 rfl rfl
theorem w_1053 : Cond.methodLink "DutyRulesLaw" 49 y_MO_open ∈ g_T := gT_5 93 rfl rfl
theorem w_1054 : Cond.instanceMethod y_MO_open ∈ g_T := gT_5 94 rfl rfl
theorem w_1055 : Cond.selects "DutyRulesModel" y_MO_open y_MO_open ∈ g_T := gT_5 95 rfl rfl
theorem w_1056 : Cond.code y_MO_open b_MO_open 2 (some .int) ∈ g_T := gT_5 96 rfl rfl
theorem w_1057 : Cond.methodLink "DutyRulesLaw" 54 y_MO_step2 ∈ g_T := gT_5 97 rfl rfl
theorem w_1058 : Cond.instanceMethod y_MO_step2 ∈ g_T := gT_5 98 rfl rfl
theorem w_1059 : Cond.selects "DutyRulesModel" y_MO_step2 y_MO_step2 ∈ g_T := gT_5 99 rfl rfl
theorem w_1060 : Cond.code y_MO_step2 b_MO_step2 4 (some .int) ∈ g_T := gT_5 100 rfl rfl
theorem w_1061 : Cond.constantLong "DutyRulesModel" 244 2147483647 ∈ g_T := gT_5 101 rfl rfl
theorem w_1062 : Cond.methodLink "DutyRulesLaw" 59 y_MO_allowed ∈ g_T := gT_5 102 rfl rfl
theorem w_1063 : Cond.instanceMethod y_MO_allowed ∈ g_T := gT_5 103 rfl rfl
theorem w_1064 : Cond.selects "DutyRulesModel" y_MO_allowed y_MO_allowed ∈ g_T := gT_5 104 rfl rfl
theorem w_1065 : Cond.code y_MO_allowed b_MO_allowed 6 (some .long) ∈ g_T := gT_5 105 rfl rfl
theorem w_1066 : Cond.methodLink "DutyRulesModel" 250 y_MO_isMonth ∈ g_T := gT_5 106 rfl rfl
theorem w_1067 : Cond.static y_MO_isMonth ∈ g_T := gT_5 107 rfl rfl
theorem w_1068 : Cond.code y_MO_isMonth b_MO_isMonth 1 (some .boolean) ∈ g_T := gT_5 108 rfl rfl
theorem w_1069 : Cond.constantLong "DutyRulesModel" 253 (-1) ∈ g_T := gT_5 109 rfl rfl
theorem w_1070 : Cond.methodLink "DutyRulesModel" 255 y_MO_lastOf ∈ g_T := gT_5 110 rfl rfl
theorem w_1071 : Cond.static y_MO_lastOf ∈ g_T := gT_5 111 rfl rfl
theorem w_1072 : Cond.code y_MO_lastOf b_MO_lastOf 1 (some .long) ∈ g_T := gT_5 112 rfl rfl
theorem w_1073 : Cond.constantLong "DutyRulesModel" 246 30 ∈ g_T := gT_5 113 rfl rfl
theorem w_1074 : Cond.constantLong "DutyRulesModel" 248 29 ∈ g_T := gT_5 114 rfl rfl
theorem w_1075 : Cond.methodLink "DutyRulesLaw" 63 y_MO_returned ∈ g_T := gT_5 115 rfl rfl
theorem w_1076 : Cond.instanceMethod y_MO_returned ∈ g_T := gT_5 116 rfl rfl
theorem w_1077 : Cond.selects "DutyRulesModel" y_MO_returned y_MO_returned ∈ g_T := gT_5 117 rfl rfl
theorem w_1078 : Cond.code y_MO_returned b_MO_returned 8 (some .int) ∈ g_T := gT_5 118 rfl rfl
theorem w_1079 : Cond.methodLink "DutyRulesModel" 261 y_MO_hasLitres ∈ g_T := gT_5 119 rfl rfl
theorem w_1081 : Cond.instanceMethod y_MO_hasLitres ∈ g_T := gT_5 121 rfl rfl
theorem w_1082 : Cond.code y_MO_hasLitres b_MO_hasLitres 5 (some .boolean) ∈ g_T := gT_5 122 rfl rfl
theorem w_1083 : Cond.methodLink "DutyRulesLaw" 67 y_MO_row ∈ g_T := gT_5 123 rfl rfl
theorem w_1084 : Cond.instanceMethod y_MO_row ∈ g_T := gT_5 124 rfl rfl
theorem w_1085 : Cond.selects "DutyRulesModel" y_MO_row y_MO_row ∈ g_T := gT_5 125 rfl rfl
theorem w_1086 : Cond.code y_MO_row b_MO_row 3 (some .long) ∈ g_T := gT_5 126 rfl rfl
theorem w_1087 : Cond.methodLink "DutyRulesLaw" 72 y_MO_difference ∈ g_T := gT_5 127 rfl rfl
theorem w_1088 : Cond.instanceMethod y_MO_difference ∈ g_T := gT_5 128 rfl rfl
theorem w_1089 : Cond.selects "DutyRulesModel" y_MO_difference y_MO_difference ∈ g_T := gT_5 129 rfl rfl
theorem w_1090 : Cond.code y_MO_difference b_MO_difference 8 (some .long) ∈ g_T := gT_5 130 rfl rfl
theorem w_1091 : Cond.methodLink "DutyRulesLaw" 81 y_MO_interest ∈ g_T := gT_5 131 rfl rfl
theorem w_1092 : Cond.instanceMethod y_MO_interest ∈ g_T := gT_5 132 rfl rfl
theorem w_1093 : Cond.selects "DutyRulesModel" y_MO_interest y_MO_interest ∈ g_T := gT_5 133 rfl rfl
theorem w_1094 : Cond.code y_MO_interest b_MO_interest 10 (some .long) ∈ g_T := gT_5 134 rfl rfl
theorem w_1095 : Cond.constantLong "DutyRulesLaw" 23 4294967295 ∈ g_T := gT_5 135 rfl rfl
theorem w_1096 : Cond.sameMethod "java/lang/AbstractStringBuilder" "java/lang/AbstractStringBuilder" "length" "()I" ∈ g_T := gT_5 136 rfl rfl
theorem w_1097 : Cond.sameMethod "java/lang/AbstractStringBuilder" "java/lang/AbstractStringBuilder" "append" "(C)Ljava/lang/AbstractStringBuilder;" ∈ g_T := gT_5 137 rfl rfl
theorem w_1098 : Cond.sameMethod "java/lang/AbstractStringBuilder" "java/lang/AbstractStringBuilder" "ensureCapacityInternal" "(I)V" ∈ g_T := gT_5 138 rfl rfl
theorem w_1099 : Cond.sameMethod "java/lang/AbstractStringBuilder" "java/lang/AbstractStringBuilder" "newCapacity" "(I)I" ∈ g_T := gT_5 139 rfl rfl
theorem w_1100 : Cond.sameMethod "java/lang/AbstractStringBuilder" "java/lang/AbstractStringBuilder" "inflate" "()V" ∈ g_T := gT_5 140 rfl rfl
theorem w_1101 : Cond.selects "java/lang/StringBuilder" y_AB_length y_SB_length ∈ g_T := gT_5 141 rfl rfl
theorem w_1102 : Cond.sameMethod "java/lang/AbstractStringBuilder" "java/lang/AbstractStringBuilder" "setLength" "(I)V" ∈ g_T := gT_5 142 rfl rfl
theorem w_1103 : Cond.sameMethod "java/lang/AbstractStringBuilder" "java/lang/AbstractStringBuilder" "append" "(I)Ljava/lang/AbstractStringBuilder;" ∈ g_T := gT_5 143 rfl rfl
theorem p_FS_newestOf : Cond.selects y_FS_newestOf.cls y_FS_newestOf y_FS_newestOf ∈ g_T := List.mem_filter.mpr ⟨List.mem_append_left _ (List.mem_of_getElem? (i := 0) rfl), rfl⟩
theorem p_DU_reasonToBeOpen : Cond.selects y_DU_reasonToBeOpen.cls y_DU_reasonToBeOpen y_DU_reasonToBeOpen ∈ g_T := List.mem_filter.mpr ⟨List.mem_append_left _ (List.mem_of_getElem? (i := 1) rfl), rfl⟩
theorem p_DU_doSteps : Cond.selects y_DU_doSteps.cls y_DU_doSteps y_DU_doSteps ∈ g_T := List.mem_filter.mpr ⟨List.mem_append_left _ (List.mem_of_getElem? (i := 2) rfl), rfl⟩
theorem p_DU_addStep : Cond.selects y_DU_addStep.cls y_DU_addStep y_DU_addStep ∈ g_T := List.mem_filter.mpr ⟨List.mem_append_left _ (List.mem_of_getElem? (i := 3) rfl), rfl⟩
theorem p_DU_freeLost : Cond.selects y_DU_freeLost.cls y_DU_freeLost y_DU_freeLost ∈ g_T := List.mem_filter.mpr ⟨List.mem_append_left _ (List.mem_of_getElem? (i := 4) rfl), rfl⟩
theorem p_DU_lessenByAway : Cond.selects y_DU_lessenByAway.cls y_DU_lessenByAway y_DU_lessenByAway ∈ g_T := List.mem_filter.mpr ⟨List.mem_append_left _ (List.mem_of_getElem? (i := 5) rfl), rfl⟩
theorem p_DU_lessenForSmall : Cond.selects y_DU_lessenForSmall.cls y_DU_lessenForSmall y_DU_lessenForSmall ∈ g_T := List.mem_filter.mpr ⟨List.mem_append_left _ (List.mem_of_getElem? (i := 6) rfl), rfl⟩
theorem p_DU_roundToMultiple : Cond.selects y_DU_roundToMultiple.cls y_DU_roundToMultiple y_DU_roundToMultiple ∈ g_T := List.mem_filter.mpr ⟨List.mem_append_left _ (List.mem_of_getElem? (i := 7) rfl), rfl⟩
theorem p_DR_returnOf : Cond.selects y_DR_returnOf.cls y_DR_returnOf y_DR_returnOf ∈ g_T := List.mem_filter.mpr ⟨List.mem_append_left _ (List.mem_of_getElem? (i := 8) rfl), rfl⟩
theorem p_DR_centsOf : Cond.selects y_DR_centsOf.cls y_DR_centsOf y_DR_centsOf ∈ g_T := List.mem_filter.mpr ⟨List.mem_append_left _ (List.mem_of_getElem? (i := 9) rfl), rfl⟩
theorem p_DR_lateShare : Cond.selects y_DR_lateShare.cls y_DR_lateShare y_DR_lateShare ∈ g_T := List.mem_filter.mpr ⟨List.mem_append_left _ (List.mem_of_getElem? (i := 10) rfl), rfl⟩
theorem p_MO_next : Cond.selects y_MO_next.cls y_MO_next y_MO_next ∈ g_T := List.mem_filter.mpr ⟨List.mem_append_left _ (List.mem_of_getElem? (i := 11) rfl), rfl⟩
theorem p_MO_rule : Cond.selects y_MO_rule.cls y_MO_rule y_MO_rule ∈ g_T := List.mem_filter.mpr ⟨List.mem_append_left _ (List.mem_of_getElem? (i := 12) rfl), rfl⟩
theorem p_MO_is : Cond.selects y_MO_is.cls y_MO_is y_MO_is ∈ g_T := List.mem_filter.mpr ⟨List.mem_append_left _ (List.mem_of_getElem? (i := 13) rfl), rfl⟩
theorem p_MO_number : Cond.selects y_MO_number.cls y_MO_number y_MO_number ∈ g_T := List.mem_filter.mpr ⟨List.mem_append_left _ (List.mem_of_getElem? (i := 14) rfl), rfl⟩
theorem p_MO_say : Cond.selects y_MO_say.cls y_MO_say y_MO_say ∈ g_T := List.mem_filter.mpr ⟨List.mem_append_left _ (List.mem_of_getElem? (i := 15) rfl), rfl⟩
theorem p_MO_put : Cond.selects y_MO_put.cls y_MO_put y_MO_put ∈ g_T := List.mem_filter.mpr ⟨List.mem_append_left _ (List.mem_of_getElem? (i := 16) rfl), rfl⟩
theorem p_MO_digits : Cond.selects y_MO_digits.cls y_MO_digits y_MO_digits ∈ g_T := List.mem_filter.mpr ⟨List.mem_append_left _ (List.mem_of_getElem? (i := 17) rfl), rfl⟩
theorem p_MO_reckon : Cond.selects y_MO_reckon.cls y_MO_reckon y_MO_reckon ∈ g_T := List.mem_filter.mpr ⟨List.mem_append_left _ (List.mem_of_getElem? (i := 18) rfl), rfl⟩
theorem p_MO_editionOf : Cond.selects y_MO_editionOf.cls y_MO_editionOf y_MO_editionOf ∈ g_T := List.mem_filter.mpr ⟨List.mem_append_left _ (List.mem_of_getElem? (i := 19) rfl), rfl⟩
theorem p_MO_holds : Cond.selects y_MO_holds.cls y_MO_holds y_MO_holds ∈ g_T := List.mem_filter.mpr ⟨List.mem_append_left _ (List.mem_of_getElem? (i := 20) rfl), rfl⟩
theorem p_MO_find : Cond.selects y_MO_find.cls y_MO_find y_MO_find ∈ g_T := List.mem_filter.mpr ⟨List.mem_append_left _ (List.mem_of_getElem? (i := 21) rfl), rfl⟩
theorem p_MO_value : Cond.selects y_MO_value.cls y_MO_value y_MO_value ∈ g_T := List.mem_filter.mpr ⟨List.mem_append_left _ (List.mem_of_getElem? (i := 22) rfl), rfl⟩
theorem p_MO_step : Cond.selects y_MO_step.cls y_MO_step y_MO_step ∈ g_T := List.mem_filter.mpr ⟨List.mem_append_left _ (List.mem_of_getElem? (i := 23) rfl), rfl⟩
theorem p_MO_hasLitres : Cond.selects y_MO_hasLitres.cls y_MO_hasLitres y_MO_hasLitres ∈ g_T := List.mem_filter.mpr ⟨List.mem_append_left _ (List.mem_of_getElem? (i := 24) rfl), rfl⟩
def g_nl : List Cond := [(Cond.fieldLinkNest "DutyRules" 202 "DutyRules$Facts" "lastKnowing" "I" "DutyRules"), (Cond.fieldLinkNest "DutyRules" 152 "DutyRules$Duty" "lot" "I" "DutyRules"), (Cond.fieldLinkNest "DutyRules" 139 "DutyRules$Duty" "reason" "I" "DutyRules"), (Cond.fieldLinkNest "DutyRules" 155 "DutyRules$Duty" "steps" "I" "DutyRules"), (Cond.fieldLinkNest "DutyRules" 142 "DutyRules$Duty" "amount" "J" "DutyRules"), (Cond.fieldLinkNest "DutyRules" 185 "DutyRules$Duty" "free" "J" "DutyRules"), (Cond.fieldLinkNest "DutyRules" 158 "DutyRules$Duty" "letters" "[I" "DutyRules"), (Cond.fieldLinkNest "DutyRules" 162 "DutyRules$Duty" "numbers" "[I" "DutyRules"), (Cond.fieldLinkNest "DutyRules" 165 "DutyRules$Duty" "centsBehind" "[J" "DutyRules"), (Cond.fieldLinkNest "DutyRules" 99 "DutyRules$Rules" "count" "I" "DutyRules"), (Cond.fieldLinkNest "DutyRules$Grammar" 72 "DutyRules$Rules" "count" "I" "DutyRules"), (Cond.fieldLinkNest "DutyRules" 91 "DutyRules$Words" "number" "I" "DutyRules"), (Cond.methodLinkNest "DutyRules$Facts" 53 y_DR_isLot "DutyRules"), (Cond.methodLinkNest "DutyRules$Facts" 57 y_DR_isFactKind "DutyRules"), (Cond.fieldLinkNest "DutyRules$Facts" 43 "DutyRules$Fact" "day" "I" "DutyRules"), (Cond.fieldLinkNest "DutyRules$Facts" 50 "DutyRules$Fact" "value" "I" "DutyRules"), (Cond.fieldLinkNest "DutyRules$Facts" 46 "DutyRules$Fact" "before" "LDutyRules$Fact;" "DutyRules"), (Cond.fieldLinkNest "DutyRules$Facts" 40 "DutyRules$Fact" "knownFrom" "I" "DutyRules"), (Cond.fieldLinkNest "DutyRules" 252 "DutyRules$Return" "month" "I" "DutyRules"), (Cond.fieldLinkNest "DutyRules" 255 "DutyRules$Return" "before" "LDutyRules$Return;" "DutyRules"), (Cond.fieldLinkNest "DutyRules" 218 "DutyRules$Return" "cents" "[J" "DutyRules"), (Cond.fieldLinkNest "DutyRules" 221 "DutyRules$Return" "changes" "[J" "DutyRules"), (Cond.methodLinkNest "DutyRules$Return" 30 y_DR_isLot "DutyRules")]
def gNb : Cond → Bool
  | .fieldLinkNest .. => true
  | .methodLinkNest .. => true
  | _ => false
theorem g_nl_ok : g_nl.all gNb = true := rfl
theorem w_92 : Cond.fieldLinkNest "DutyRules" 202 "DutyRules$Facts" "lastKnowing" "I" "DutyRules" ∈ g_nl := List.mem_of_getElem? (i := 0) rfl
theorem w_108 : Cond.fieldLinkNest "DutyRules" 152 "DutyRules$Duty" "lot" "I" "DutyRules" ∈ g_nl := List.mem_of_getElem? (i := 1) rfl
theorem w_110 : Cond.fieldLinkNest "DutyRules" 139 "DutyRules$Duty" "reason" "I" "DutyRules" ∈ g_nl := List.mem_of_getElem? (i := 2) rfl
theorem w_112 : Cond.fieldLinkNest "DutyRules" 155 "DutyRules$Duty" "steps" "I" "DutyRules" ∈ g_nl := List.mem_of_getElem? (i := 3) rfl
theorem w_114 : Cond.fieldLinkNest "DutyRules" 142 "DutyRules$Duty" "amount" "J" "DutyRules" ∈ g_nl := List.mem_of_getElem? (i := 4) rfl
theorem w_116 : Cond.fieldLinkNest "DutyRules" 185 "DutyRules$Duty" "free" "J" "DutyRules" ∈ g_nl := List.mem_of_getElem? (i := 5) rfl
theorem w_119 : Cond.fieldLinkNest "DutyRules" 158 "DutyRules$Duty" "letters" "[I" "DutyRules" ∈ g_nl := List.mem_of_getElem? (i := 6) rfl
theorem w_121 : Cond.fieldLinkNest "DutyRules" 162 "DutyRules$Duty" "numbers" "[I" "DutyRules" ∈ g_nl := List.mem_of_getElem? (i := 7) rfl
theorem w_123 : Cond.fieldLinkNest "DutyRules" 165 "DutyRules$Duty" "centsBehind" "[J" "DutyRules" ∈ g_nl := List.mem_of_getElem? (i := 8) rfl
theorem w_151 : Cond.fieldLinkNest "DutyRules" 99 "DutyRules$Rules" "count" "I" "DutyRules" ∈ g_nl := List.mem_of_getElem? (i := 9) rfl
theorem w_152 : Cond.fieldLinkNest "DutyRules$Grammar" 72 "DutyRules$Rules" "count" "I" "DutyRules" ∈ g_nl := List.mem_of_getElem? (i := 10) rfl
theorem w_398 : Cond.fieldLinkNest "DutyRules" 91 "DutyRules$Words" "number" "I" "DutyRules" ∈ g_nl := List.mem_of_getElem? (i := 11) rfl
theorem w_577 : Cond.methodLinkNest "DutyRules$Facts" 53 y_DR_isLot "DutyRules" ∈ g_nl := List.mem_of_getElem? (i := 12) rfl
theorem w_578 : Cond.methodLinkNest "DutyRules$Facts" 57 y_DR_isFactKind "DutyRules" ∈ g_nl := List.mem_of_getElem? (i := 13) rfl
theorem w_585 : Cond.fieldLinkNest "DutyRules$Facts" 43 "DutyRules$Fact" "day" "I" "DutyRules" ∈ g_nl := List.mem_of_getElem? (i := 14) rfl
theorem w_587 : Cond.fieldLinkNest "DutyRules$Facts" 50 "DutyRules$Fact" "value" "I" "DutyRules" ∈ g_nl := List.mem_of_getElem? (i := 15) rfl
theorem w_589 : Cond.fieldLinkNest "DutyRules$Facts" 46 "DutyRules$Fact" "before" "LDutyRules$Fact;" "DutyRules" ∈ g_nl := List.mem_of_getElem? (i := 16) rfl
theorem w_591 : Cond.fieldLinkNest "DutyRules$Facts" 40 "DutyRules$Fact" "knownFrom" "I" "DutyRules" ∈ g_nl := List.mem_of_getElem? (i := 17) rfl
theorem w_723 : Cond.fieldLinkNest "DutyRules" 252 "DutyRules$Return" "month" "I" "DutyRules" ∈ g_nl := List.mem_of_getElem? (i := 18) rfl
theorem w_725 : Cond.fieldLinkNest "DutyRules" 255 "DutyRules$Return" "before" "LDutyRules$Return;" "DutyRules" ∈ g_nl := List.mem_of_getElem? (i := 19) rfl
theorem w_728 : Cond.fieldLinkNest "DutyRules" 218 "DutyRules$Return" "cents" "[J" "DutyRules" ∈ g_nl := List.mem_of_getElem? (i := 20) rfl
theorem w_730 : Cond.fieldLinkNest "DutyRules" 221 "DutyRules$Return" "changes" "[J" "DutyRules" ∈ g_nl := List.mem_of_getElem? (i := 21) rfl
theorem w_755 : Cond.methodLinkNest "DutyRules$Return" 30 y_DR_isLot "DutyRules" ∈ g_nl := List.mem_of_getElem? (i := 22) rfl
def g_al : List String := ["DutyRules$Rules", "DutyRules$Fact"]
def g_sl : List (String × Nat × String × Nat) := [("DutyRules", 47, "", 0), ("DutyRules$Grammar", 104, "rate G from S to S pay P;", 1), ("DutyRules$Grammar", 106, "small G below L times H;", 2), ("DutyRules$Grammar", 108, "loss G upto H;", 3), ("DutyRules$Grammar", 110, "away G times H;", 4), ("DutyRules$Grammar", 112, "round N;", 5), ("DutyRules$Grammar", 114, "late H;", 6), ("DutyRulesModel", 107, "rate small loss away round late from to pay below times upto ; ", 7)]
theorem w_162 : ("DutyRules", 47, "", 0) ∈ g_sl := List.mem_of_getElem? (i := 0) rfl
theorem w_445 : ("DutyRules$Grammar", 104, "rate G from S to S pay P;", 1) ∈ g_sl := List.mem_of_getElem? (i := 1) rfl
theorem w_446 : ("DutyRules$Grammar", 106, "small G below L times H;", 2) ∈ g_sl := List.mem_of_getElem? (i := 2) rfl
theorem w_447 : ("DutyRules$Grammar", 108, "loss G upto H;", 3) ∈ g_sl := List.mem_of_getElem? (i := 3) rfl
theorem w_448 : ("DutyRules$Grammar", 110, "away G times H;", 4) ∈ g_sl := List.mem_of_getElem? (i := 4) rfl
theorem w_449 : ("DutyRules$Grammar", 112, "round N;", 5) ∈ g_sl := List.mem_of_getElem? (i := 5) rfl
theorem w_450 : ("DutyRules$Grammar", 114, "late H;", 6) ∈ g_sl := List.mem_of_getElem? (i := 6) rfl
theorem w_959 : ("DutyRulesModel", 107, "rate small loss away round late from to pay below times upto ; ", 7) ∈ g_sl := List.mem_of_getElem? (i := 7) rfl
def g_zl : List (String × String × String × Value) := [("java/lang/String", "COMPACT_STRINGS", "Z", .int 1)]
def gTys (E : Nat → ClassId) : List (ClassId × FieldType) := [(E 0, .int), (E 1, .long), (E 2, .boolean), (E 3, .byte), (E 4, .object "DutyRules$Rules"), (E 5, .object "DutyRules$Fact")]
theorem s_DR : ∀ w ∈ u_ws "DutyRules" T_DR 10, w ∈ g_T := by
  intro w hw
  obtain ⟨k, hk, rfl⟩ := List.mem_map.mp hw
  have hk := List.mem_range.mp hk
  match k, hk with
  | 0, _ => exact w_173
  | 1, _ => exact w_175
  | 2, _ => exact w_177
  | 3, _ => exact w_179
  | 4, _ => exact w_181
  | 5, _ => exact w_183
  | 6, _ => exact w_185
  | 7, _ => exact w_187
  | 8, _ => exact w_189
  | 9, _ => exact w_191
  | k + 10, h => exact absurd h (by omega)
theorem s_DU : ∀ w ∈ u_ws "DutyRules$Duty" T_DU 9, w ∈ g_T := by
  intro w hw
  obtain ⟨k, hk, rfl⟩ := List.mem_map.mp hw
  have hk := List.mem_range.mp hk
  match k, hk with
  | 0, _ => exact w_124
  | 1, _ => exact w_126
  | 2, _ => exact w_128
  | 3, _ => exact w_130
  | 4, _ => exact w_132
  | 5, _ => exact w_134
  | 6, _ => exact w_136
  | 7, _ => exact w_138
  | 8, _ => exact w_140
  | k + 9, h => exact absurd h (by omega)
theorem s_ED : ∀ w ∈ u_ws "DutyRules$Editions" T_ED 3, w ∈ g_T := by
  intro w hw
  obtain ⟨k, hk, rfl⟩ := List.mem_map.mp hw
  have hk := List.mem_range.mp hk
  match k, hk with
  | 0, _ => exact w_74
  | 1, _ => exact w_76
  | 2, _ => exact w_78
  | k + 3, h => exact absurd h (by omega)
theorem s_FA : ∀ w ∈ u_ws "DutyRules$Fact" T_FA 4, w ∈ g_T := by
  intro w hw
  obtain ⟨k, hk, rfl⟩ := List.mem_map.mp hw
  have hk := List.mem_range.mp hk
  match k, hk with
  | 0, _ => exact w_592
  | 1, _ => exact w_594
  | 2, _ => exact w_596
  | 3, _ => exact w_598
  | k + 4, h => exact absurd h (by omega)
theorem s_FS : ∀ w ∈ u_ws "DutyRules$Facts" T_FS 3, w ∈ g_T := by
  intro w hw
  obtain ⟨k, hk, rfl⟩ := List.mem_map.mp hw
  have hk := List.mem_range.mp hk
  match k, hk with
  | 0, _ => exact w_94
  | 1, _ => exact w_96
  | 2, _ => exact w_98
  | k + 3, h => exact absurd h (by omega)
theorem s_RE : ∀ w ∈ u_ws "DutyRules$Return" T_RE 5, w ∈ g_T := by
  intro w hw
  obtain ⟨k, hk, rfl⟩ := List.mem_map.mp hw
  have hk := List.mem_range.mp hk
  match k, hk with
  | 0, _ => exact w_731
  | 1, _ => exact w_733
  | 2, _ => exact w_735
  | 3, _ => exact w_737
  | 4, _ => exact w_739
  | k + 5, h => exact absurd h (by omega)
theorem s_RU : ∀ w ∈ u_ws "DutyRules$Rules" T_RU 3, w ∈ g_T := by
  intro w hw
  obtain ⟨k, hk, rfl⟩ := List.mem_map.mp hw
  have hk := List.mem_range.mp hk
  match k, hk with
  | 0, _ => exact w_155
  | 1, _ => exact w_157
  | 2, _ => exact w_159
  | k + 3, h => exact absurd h (by omega)
theorem s_WO : ∀ w ∈ u_ws "DutyRules$Words" T_WO 4, w ∈ g_T := by
  intro w hw
  obtain ⟨k, hk, rfl⟩ := List.mem_map.mp hw
  have hk := List.mem_range.mp hk
  match k, hk with
  | 0, _ => exact w_399
  | 1, _ => exact w_401
  | 2, _ => exact w_403
  | 3, _ => exact w_405
  | k + 4, h => exact absurd h (by omega)
theorem s_MO : ∀ w ∈ u_ws "DutyRulesModel" T_MO 40, w ∈ g_T := by
  intro w hw
  obtain ⟨k, hk, rfl⟩ := List.mem_map.mp hw
  have hk := List.mem_range.mp hk
  match k, hk with
  | 0, _ => exact w_849
  | 1, _ => exact w_851
  | 2, _ => exact w_853
  | 3, _ => exact w_855
  | 4, _ => exact w_857
  | 5, _ => exact w_859
  | 6, _ => exact w_861
  | 7, _ => exact w_863
  | 8, _ => exact w_865
  | 9, _ => exact w_867
  | 10, _ => exact w_869
  | 11, _ => exact w_871
  | 12, _ => exact w_873
  | 13, _ => exact w_875
  | 14, _ => exact w_877
  | 15, _ => exact w_879
  | 16, _ => exact w_881
  | 17, _ => exact w_883
  | 18, _ => exact w_885
  | 19, _ => exact w_887
  | 20, _ => exact w_889
  | 21, _ => exact w_891
  | 22, _ => exact w_893
  | 23, _ => exact w_895
  | 24, _ => exact w_897
  | 25, _ => exact w_899
  | 26, _ => exact w_901
  | 27, _ => exact w_903
  | 28, _ => exact w_905
  | 29, _ => exact w_907
  | 30, _ => exact w_909
  | 31, _ => exact w_911
  | 32, _ => exact w_913
  | 33, _ => exact w_915
  | 34, _ => exact w_917
  | 35, _ => exact w_919
  | 36, _ => exact w_921
  | 37, _ => exact w_923
  | 38, _ => exact w_925
  | 39, _ => exact w_927
  | k + 40, h => exact absurd h (by omega)
theorem s_SB : ∀ w ∈ u_ws "java/lang/StringBuilder" T_SB 4, w ∈ g_T := by
  intro w hw
  obtain ⟨k, hk, rfl⟩ := List.mem_map.mp hw
  have hk := List.mem_range.mp hk
  match k, hk with
  | 0, _ => exact w_53
  | 1, _ => exact w_55
  | 2, _ => exact w_57
  | 3, _ => exact w_59
  | k + 4, h => exact absurd h (by omega)
theorem s_ST : ∀ w ∈ u_ws "java/lang/String" T_ST 4, w ∈ g_T := by
  intro w hw
  obtain ⟨k, hk, rfl⟩ := List.mem_map.mp hw
  have hk := List.mem_range.mp hk
  match k, hk with
  | 0, _ => exact w_351
  | 1, _ => exact w_353
  | 2, _ => exact w_355
  | 3, _ => exact w_357
  | k + 4, h => exact absurd h (by omega)
end
section
/-! THE HEAP AS A FUNCTION: an address has a role, an owner and contents. Two cells of different roles (or owners) are apart: no lists of places. Role 0: cells that nobody writes. -/
abbrev fC : Type := Nat × Nat × va_E
abbrev fH : Type := Nat → Option fC
def fU (h : fH) (a : Nat) (c : fC) : fH := fun q => if q = a then some c else h q
theorem fU_self (h : fH) (a : Nat) (c : fC) : fU h a c a = some c := by simp [fU]
theorem fU_ne (h : fH) {a q : Nat} (c : fC) (hq : q ≠ a) : fU h a c q = h q := by simp [fU, hq]
theorem fU_uu (h : fH) (a : Nat) (c d : fC) : fU (fU h a c) a d = fU h a d := by
  funext q
  by_cases hq : q = a
  · subst hq; simp [fU]
  · simp [fU, hq]
/-- an array's place, as a value -/
def fEl (x : (Nat → Int32) ⊕ (Nat → Int64) ⊕ (Nat → UInt32) ⊕ (Nat → UInt64) ⊕ (Nat → Option Nat)) (j : Nat) : Value := match x with
  | .inl f => .int (f j)
  | .inr (.inl f) => .long (f j)
  | .inr (.inr (.inl f)) => .float (f j)
  | .inr (.inr (.inr (.inl f))) => .double (f j)
  | .inr (.inr (.inr (.inr f))) => va_rf (f j)
theorem fEl_cell (cA : ClassId) (x : vp_A) : vp_cell cA x = arrV cA x.1 (fEl x.2) := by
  obtain ⟨n, f | f | f | f | f⟩ := x <;> rfl
/-- a cell as it can be read -/
def fW (D : va_G) (cl : List vw_C) (a : Nat) (e : va_E) (H : Heap) : Prop := match e with
  | .inl x => ∃ cell : Cell, H[a]? = some cell ∧ cell.cls = x.1 ∧ cell.vm ≠ .unknown ∧ (∀ k, cell.vm ≠ .statics k) ∧ x.2.1 ≤ cell.slots.size ∧ cell.slots.size.toInt32 = Int32.ofNat x.2.1 ∧ ∀ j : Nat, j < x.2.1 → cell.slots[j]? = some (fEl x.2.2 j)
  | .inr o => ∃ (r : vw_C) (cell : Cell), cl[o.1]? = some r ∧ H[a]? = some cell ∧ cell.cls = D.1 o.1 ∧ cell.vm ≠ .unknown ∧ cell.vm.isStatics = false ∧ ∀ k, k < r.2.2 → cell.slots[D.2 o.1 k]? = some (vp_V o.2 k)
theorem fW.of {D : va_G} {cl : List vw_C} {a : Nat} {e : va_E} {H : Heap} (h : va_at D cl (a, e) H) : fW D cl a e H := by
  cases e with
  | inl x =>
    have h' : H[a]? = some (vp_cell x.1 x.2) := h
    rw [fEl_cell] at h'
    refine ⟨_, h', rfl, (fun q => by cases q), (fun k q => by cases q), ?_, ?_, fun j hj => arrV_read _ _ hj⟩
    · rw [arrV_size]; exact Nat.le_refl _
    · rw [arrV_size] <;> rfl
  | inr o =>
    obtain ⟨r, h1, cell, h2, h3, h4, h5⟩ := h
    exact ⟨r, cell, h1, h2, h3, (by rw [h4]; exact fun q => by cases q), (by rw [h4]; rfl), h5⟩
theorem fW.kept {D : va_G} {cl : List vw_C} {a : Nat} {e : va_E} {H H1 : Heap} (h : fW D cl a e H) (hq : H1[a]? = H[a]?) : fW D cl a e H1 := by
  cases e with
  | inl x =>
    obtain ⟨cell, h1, h2⟩ := h
    exact ⟨cell, by rw [hq]; exact h1, h2⟩
  | inr o =>
    obtain ⟨r, cell, h1, h2, h3⟩ := h
    exact ⟨r, cell, h1, by rw [hq]; exact h2, h3⟩
theorem fW.lt {D : va_G} {cl : List vw_C} {a : Nat} {e : va_E} {H : Heap} (h : fW D cl a e H) : a < H.size := by
  cases e with
  | inl x =>
    obtain ⟨cell, h1, h2⟩ := h
    exact (Array.getElem?_eq_some_iff.mp h1).1
  | inr o =>
    obtain ⟨r, cell, h1, h2, h3⟩ := h
    exact (Array.getElem?_eq_some_iff.mp h2).1
def fP (D : va_G) (cl : List vw_C) (h : fH) (H : Heap) : Prop := ∀ (a : Nat) (c : fC), h a = some c → fW D cl a c.2.2 H ∧ (c.1 ≠ 0 → va_at D cl (a, c.2.2) H)
theorem fP.lt {D : va_G} {cl : List vw_C} {h : fH} {H : Heap} (hP : fP D cl h H) {a : Nat} {c : fC} (ha : h a = some c) : a < H.size := (hP a c ha).1.lt
def fI (D : va_G) (cl : List vw_C) (A : Nat → Prop) (H0 : Heap) (h : fH) (H : Heap) (locs : List Loc) : Prop := fP D cl h H ∧ (∀ (a : Nat) (c : fC), h a = some c → c.1 ≠ 0 → A a) ∧ (∀ q, H0.size ≤ q → A q) ∧ va_S A H0 H locs
theorem fI.set {D : va_G} {cl : List vw_C} {A : Nat → Prop} {H0 H H1 : Heap} {h : fH} {locs : List Loc} {a i r o : Nat} {e0 e : va_E} (hI : fI D cl A H0 h H locs) (ha : h a = some (r, o, e0)) (hr : r ≠ 0) (he : va_at D cl (a, e) H1) (z : H1.size = H.size) (oq : ∀ q : Nat, q ≠ a → H1[q]? = H[q]?) : fI D cl A H0 (fU h a (r, o, e)) H1 (locs ++ [⟨a, i⟩]) := by
  obtain ⟨hP, hA, hN, hS⟩ := hI
  refine ⟨fun q c hq => ?_, fun q c hq hc => ?_, hN, hS.put z oq (hA a _ ha hr)⟩
  · by_cases hqa : q = a
    · subst hqa
      rw [fU_self] at hq
      cases hq
      exact ⟨fW.of he, fun _ => he⟩
    · rw [fU_ne _ _ hqa] at hq
      exact ⟨(hP q c hq).1.kept (oq q hqa), fun hc => ((hP q c hq).2 hc).kept (oq q hqa)⟩
  · by_cases hqa : q = a
    · subst hqa
      exact hA q _ ha hr
    · rw [fU_ne _ _ hqa] at hq
      exact hA q c hq hc
theorem fI.new {D : va_G} {cl : List vw_C} {A : Nat → Prop} {H0 H H1 : Heap} {h : fH} {locs : List Loc} {e : va_E} (r o : Nat) (hI : fI D cl A H0 h H locs) (he : va_at D cl (H.size, e) H1) (z : H1.size = H.size + 1) (oq : ∀ q : Nat, q < H.size → H1[q]? = H[q]?) : fI D cl A H0 (fU h H.size (r, o, e)) H1 locs := by
  obtain ⟨hP, hA, hN, hS⟩ := hI
  refine ⟨fun q c hq => ?_, fun q c hq hc => ?_, hN, ⟨Nat.le_trans hS.1 (by omega), fun x h1 h2 => (oq x (Nat.lt_of_lt_of_le h1 hS.1)).trans (hS.2.1 x h1 h2), hS.2.2⟩⟩
  · by_cases hqa : q = H.size
    · subst hqa
      rw [fU_self] at hq
      cases hq
      exact ⟨fW.of he, fun _ => he⟩
    · rw [fU_ne _ _ hqa] at hq
      have hl := hP.lt hq
      exact ⟨(hP q c hq).1.kept (oq q hl), fun hc => ((hP q c hq).2 hc).kept (oq q hl)⟩
  · by_cases hqa : q = H.size
    · subst hqa
      exact hN _ hS.1
    · rw [fU_ne _ _ hqa] at hq
      exact hA q c hq hc
theorem fI.none {D : va_G} {cl : List vw_C} {A : Nat → Prop} {H0 H : Heap} {h : fH} {locs : List Loc} (hI : fI D cl A H0 h H locs) : h H.size = none := by
  cases hq : h H.size with
  | none => rfl
  | some c => exact absurd (hI.1.lt hq) (Nat.lt_irrefl _)
theorem fI.lt {D : va_G} {cl : List vw_C} {A : Nat → Prop} {H0 H : Heap} {h : fH} {locs : List Loc} (hI : fI D cl A H0 h H locs) {a : Nat} {c : fC} (ha : h a = some c) : a < H.size := hI.1.lt ha
/-- two cells that tell apart are apart -/
theorem f_ne {h : fH} {a b : Nat} {x y : fC} (ha : h a = some x) (hb : h b = some y) (hne : x ≠ y) : a ≠ b := fun q => hne (Option.some.inj (ha.symm.trans (by rw [q]; exact hb)))
theorem f_neR {h : fH} {a b r o r2 o2 : Nat} {x y : va_E} (ha : h a = some (r, o, x)) (hb : h b = some (r2, o2, y)) (hne : r ≠ r2) : a ≠ b := f_ne ha hb (fun q => hne (by cases q; rfl))
theorem f_neO {h : fH} {a b r o r2 o2 : Nat} {x y : va_E} (ha : h a = some (r, o, x)) (hb : h b = some (r2, o2, y)) (hne : o ≠ o2) : a ≠ b := f_ne ha hb (fun q => hne (by cases q; rfl))
theorem f_neN {h : fH} {a b : Nat} {x : fC} (ha : h a = some x) (hb : h b = none) : a ≠ b := fun q => by rw [q, hb] at ha; cases ha
theorem fU_keep {h : fH} {a q : Nat} {c x : fC} (hq : h q = some x) (hne : q ≠ a) : fU h a c q = some x := by rw [fU_ne _ _ hne]; exact hq
/-- what a method leaves behind: old cells stay in their roles, new ones are new -/
def fA (h : fH) (sz : Nat) : Nat → Prop := fun q => (∃ c : fC, h q = some c ∧ c.1 ≠ 0) ∨ sz ≤ q
def fX (h : fH) (sz : Nat) (h' : fH) : Prop := (∀ (a r o : Nat) (e : va_E), h a = some (r, o, e) → ∃ e', h' a = some (r, o, e')) ∧ (∀ (a o : Nat) (e : va_E), h a = some (0, o, e) → h' a = some (0, o, e)) ∧ ∀ (a : Nat) (c : fC), h' a = some c → (∃ c' : fC, h a = some c' ∧ c'.1 = c.1) ∨ sz ≤ a
theorem fX.rf {h : fH} {sz : Nat} : fX h sz h := ⟨fun a r o e ha => ⟨e, ha⟩, fun _ _ _ h => h, fun a c ha => Or.inl ⟨c, ha, rfl⟩⟩
theorem fX.tr {h h1 h2 : fH} {sz sz1 : Nat} (hz : sz ≤ sz1) (x : fX h sz h1) (y : fX h1 sz1 h2) : fX h sz h2 := by
  refine ⟨fun a r o e ha => ?_, fun a o e ha => y.2.1 a o e (x.2.1 a o e ha), fun a c ha => ?_⟩
  · obtain ⟨e1, h1⟩ := x.1 a r o e ha
    exact y.1 a r o e1 h1
  · rcases y.2.2 a c ha with ⟨c1, q1, q2⟩ | q
    · rcases x.2.2 a c1 q1 with ⟨c2, q3, q4⟩ | q
      · exact Or.inl ⟨c2, q3, q4.trans q2⟩
      · exact Or.inr q
    · exact Or.inr (Nat.le_trans hz q)
theorem fX.set {h h1 : fH} {sz a r o : Nat} {e0 e : va_E} (x : fX h sz h1) (ha : h1 a = some (r, o, e0)) (hr : r ≠ 0) : fX h sz (fU h1 a (r, o, e)) := by
  refine ⟨fun q r2 o2 e2 hq => ?_, fun q o2 e2 hq => ?_, fun q c hq => ?_⟩
  · by_cases hqa : q = a
    · subst hqa
      obtain ⟨e3, h3⟩ := x.1 _ _ _ _ hq
      rw [h3] at ha
      cases ha
      exact ⟨e, fU_self _ _ _⟩
    · rw [fU_ne _ _ hqa]
      exact x.1 _ _ _ _ hq
  · by_cases hqa : q = a
    · subst hqa
      rw [x.2.1 _ _ _ hq] at ha
      cases ha
      exact absurd rfl hr
    · rw [fU_ne _ _ hqa]
      exact x.2.1 _ _ _ hq
  · by_cases hqa : q = a
    · subst hqa
      rw [fU_self] at hq
      cases hq
      rcases x.2.2 _ _ ha with ⟨c2, q1, q2⟩ | q1
      · exact Or.inl ⟨c2, q1, q2⟩
      · exact Or.inr q1
    · rw [fU_ne _ _ hqa] at hq
      exact x.2.2 _ _ hq
theorem fX.new {h h1 : fH} {sz a r o : Nat} {e : va_E} (x : fX h sz h1) (ha : h1 a = none) (hz : sz ≤ a) : fX h sz (fU h1 a (r, o, e)) := by
  refine ⟨fun q r2 o2 e2 hq => ?_, fun q o2 e2 hq => ?_, fun q c hq => ?_⟩
  · obtain ⟨e3, h3⟩ := x.1 _ _ _ _ hq
    exact ⟨e3, fU_keep h3 (f_neN h3 ha)⟩
  · have h3 := x.2.1 _ _ _ hq
    exact fU_keep h3 (f_neN h3 ha)
  · by_cases hqa : q = a
    · exact Or.inr (by omega)
    · rw [fU_ne _ _ hqa] at hq
      exact x.2.2 _ _ hq
/-- cells whose roles are not in S stay as they are -/
def fF (S : List Nat) (h h' : fH) : Prop := ∀ (a r o : Nat) (e : va_E), h a = some (r, o, e) → r ∉ S → h' a = some (r, o, e)
theorem fF.rf {S : List Nat} {h : fH} : fF S h h := fun _ _ _ _ ha _ => ha
theorem fF.tr {S : List Nat} {h h1 h2 : fH} (x : fF S h h1) (y : fF S h1 h2) : fF S h h2 := fun a r o e ha hr => y a r o e (x a r o e ha hr) hr
theorem fF.mono {S S' : List Nat} {h h1 : fH} (x : fF S h h1) (hs : ∀ r ∈ S, r ∈ S') : fF S' h h1 := fun a r o e ha hr => x a r o e ha (fun q => hr (hs r q))
theorem fF.set {S : List Nat} {h h1 : fH} {a r o : Nat} {e0 e : va_E} (x : fF S h h1) (ha : h1 a = some (r, o, e0)) (hr : r ∈ S) : fF S h (fU h1 a (r, o, e)) := by
  intro q r2 o2 e2 hq hr2
  have h2 := x q r2 o2 e2 hq hr2
  exact fU_keep h2 (f_neR h2 ha (fun z => hr2 (z ▸ hr)))
theorem fF.new {S : List Nat} {h h1 : fH} {a : Nat} {c : fC} (x : fF S h h1) (ha : h1 a = none) : fF S h (fU h1 a c) := by
  intro q r2 o2 e2 hq hr2
  have h2 := x q r2 o2 e2 hq hr2
  exact fU_keep h2 (f_neN h2 ha)
/-- an array class by its number -/
def fT (U : State) (cA : ClassId) (ty : FieldType) : Prop := ∃ k, U.vm.classes[cA]? = some k ∧ ∃ comp, k.kind = .array comp ty
theorem fT.moved {u U : State} (hvm : u.vm.Alike U.vm) {cA : ClassId} {ty : FieldType} (h : fT u cA ty) : fT U cA ty := by
  obtain ⟨k, h1, comp, h2⟩ := h
  obtain ⟨k', hk', he⟩ := hvm.2.2 _ _ h1
  exact ⟨k', hk', comp, by rw [he]; exact h2⟩
theorem fT.ofK {D : va_G} {cl : List vw_C} {tys : List (ClassId × FieldType)} {U : State} (hK : va_K D cl tys U) {t0 : Nat} {cA : ClassId} {ty : FieldType} (ht : tys[t0]? = some (cA, ty)) : fT U cA ty := ((hK.2 t0 _ ht).1 0 (fun _ => .null)).2
theorem fT.arr {U : State} {cA : ClassId} {ty : FieldType} (h : fT U cA ty) {cell : Cell} (hc : cell.cls = cA) (hs : ∀ k, cell.vm ≠ .statics k) : U.isArrayOf cell ty := ⟨hs, by rw [hc]; exact h⟩
section FR
variable {p : Program} {l : Launch} {e : Env} {R : Room} {s : State} {m : MethodId} {args : Array Value} {below : List Frame} {meth : Method} {c : Code} {H : Heap} {locs : List Loc} {cells slots : Nat} {Q : State → Prop}
variable {cc : ByteArray} {pc : Nat} {ls : Array Slot} {rest : List Value} {D : va_G} {cl : List vw_C} {A : Nat → Prop} {a r o : Nat} {tys : List (ClassId × FieldType)} {h : fH} {H0 : Heap}
theorem f_get (hexec : p.tables.exec = Jvm.exec) (hb : c.code = cc) {own ref C : String} {T : u_T} {N ci index : Nat} (hts : ∀ w ∈ u_ws C T N, w.before args s = true) (hown : s.vm.findClass own = some m.cls) (hK : va_K D cl tys s) (hI : fI D cl A H0 h H locs) {fs : List Value} (he : h a = some (r, o, .inr (ci, fs))) (hc : cl[ci]? = some (C, T, N)) (k : Nat) (hk : k < N) (hlink : (Cond.fieldLink own index ref (T k).2.1 (T k).2.2.1).before args s = true) (hsame : ∀ x, s.fieldFound? (T k).1 (T k).2.1 (T k).2.2.1 = some x → s.fieldFound? ref (T k).2.1 (T k).2.2.1 = some x) {v : Value} (hv : fs[k]? = some v) (hdg : decode cc pc = .ok (.getfield index, 3))
    (kk : W p l e R s m args below meth c H locs cells slots Q (F0 m (pc + 3) ls (v :: rest))) : W p l e R s m args below meth c H locs cells slots Q (F0 m pc ls (.ref a :: rest)) := by
  obtain ⟨r', cell, h1, q1, q2, q3, q5, q4⟩ := (hI.1 a _ he).1
  have hr : r' = (C, T, N) := Option.some.inj (h1.symm.trans hc)
  subst hr
  obtain ⟨hS, hfc, kC, hkC, hkind⟩ := hK.1 ci _ hc
  obtain ⟨cf, kf, fi, f, hi, hsl⟩ := hS k hk
  refine W.getf hexec hb hown hlink (hsame _ hi) (u_facts hfc hkC (u_lays hts (fun _ h => h) hk) hi).1 q1 q3 (v := v) ?_ rfl rfl hdg kk
  rw [hsl, q4 k hk]
  simp [vp_V, hv]
theorem f_getN (hexec : p.tables.exec = Jvm.exec) (hb : c.code = cc) {own ref C host : String} {T : u_T} {N ci index : Nat} (hts : ∀ w ∈ u_ws C T N, w.before args s = true) (hown : s.vm.findClass own = some m.cls) (hK : va_K D cl tys s) (hI : fI D cl A H0 h H locs) {fs : List Value} (he : h a = some (r, o, .inr (ci, fs))) (hc : cl[ci]? = some (C, T, N)) (k : Nat) (hk : k < N) (hlink : va_Nw (.fieldLinkNest own index ref (T k).2.1 (T k).2.2.1 host) s) (hsame : ∀ x, s.fieldFound? (T k).1 (T k).2.1 (T k).2.2.1 = some x → s.fieldFound? ref (T k).2.1 (T k).2.2.1 = some x) {v : Value} (hv : fs[k]? = some v) (hdg : decode cc pc = .ok (.getfield index, 3))
    (kk : W p l e R s m args below meth c H locs cells slots Q (F0 m (pc + 3) ls (v :: rest))) : W p l e R s m args below meth c H locs cells slots Q (F0 m pc ls (.ref a :: rest)) := by
  obtain ⟨r', cell, h1, q1, q2, q3, q5, q4⟩ := (hI.1 a _ he).1
  have hr : r' = (C, T, N) := Option.some.inj (h1.symm.trans hc)
  subst hr
  obtain ⟨hS, hfc, kC, hkC, hkind⟩ := hK.1 ci _ hc
  obtain ⟨cf, kf, fi, f, hi, hsl⟩ := hS k hk
  refine va_Wgetf hexec hb hown (va_Nw.use rfl hlink) (hsame _ hi) (u_facts hfc hkC (u_lays hts (fun _ h => h) hk) hi).1 q1 q3 (v := v) ?_ rfl rfl hdg kk
  rw [hsl, q4 k hk]
  simp [vp_V, hv]
theorem f_put (hexec : p.tables.exec = Jvm.exec) (hb : c.code = cc) {own ref C : String} {T : u_T} {N ci index : Nat} (hts : ∀ w ∈ u_ws C T N, w.before args s = true) (ty0 : Nat → FieldType) (hty : ∀ k, k < N → parseFieldDescriptor (T k).2.2.1 = some (ty0 k)) (hnm : ∀ a, a < N → ∀ b, b < N → a ≠ b → (T a).2.1 ≠ (T b).2.1) (hown : s.vm.findClass own = some m.cls) (hK : va_K D cl tys s) (hI : fI D cl A H0 h H locs) {fs : List Value} (he : h a = some (r, o, .inr (ci, fs))) (hr0 : r ≠ 0) (hc : cl[ci]? = some (C, T, N)) (k : Nat) (hk : k < N) (hlink : (Cond.fieldLink own index ref (T k).2.1 (T k).2.2.1).before args s = true) (hsame : ∀ x, s.fieldFound? (T k).1 (T k).2.1 (T k).2.2.1 = some x → s.fieldFound? ref (T k).2.1 (T k).2.2.1 = some x) (hfin : (T k).2.2.2 = false) {v : Value} (hn : narrow (ty0 k) v = v) (hfit : fits (ty0 k) v = true) (hl : k < fs.length) {fs' : List Value} (hfs : fs.set k v = fs')
    (hdg : decode cc pc = .ok (.putfield index, 3)) (kk : ∀ (H : Heap) (locs : List Loc), fI D cl A H0 (fU h a (r, o, .inr (ci, fs'))) H locs → W p l e R s m args below meth c H locs cells slots Q (F0 m (pc + 3) ls rest)) : W p l e R s m args below meth c H locs cells slots Q (F0 m pc ls (v :: .ref a :: rest)) := by
  subst hfs
  have hap := va_apart (own := own) hts (fun _ h => h) ty0 hty hnm hK hc
  obtain ⟨r', h1, cell, q1, q2, q3, q4⟩ := (hI.1 a _ he).2 hr0
  have hr : r' = (C, T, N) := Option.some.inj (h1.symm.trans hc)
  subst hr
  obtain ⟨hS, hfc, kC, hkC, hkind⟩ := hK.1 ci _ hc
  obtain ⟨cf, kf, fi, f, hi, hsl⟩ := hS k hk
  have hlay := hts _ (u_in_lay hk)
  unfold u_lay at hlay
  rw [if_neg (by rw [hfin]; decide)] at hlay
  have hst := (u_facts hfc hkC (u_lays hts (fun _ h => h) hk) hi).1
  have h6 := u_store hfc hkC hkind hlay hi (hty k hk) hn hfit
  refine W.putK hexec hb (f := f) ⟨hown, hlink, ⟨_, _, _, hsame _ hi⟩, hst⟩ (by rw [q2]; exact h6) q1 q3 (by rw [hsl]; exact k2_hasslot (q4 k hk)) rfl rfl hdg fun H' e1 e2 e3 => ?_
  rw [hsl] at e1 ⊢
  exact kk H' _ (hI.set he hr0 ⟨_, hc, t_OB.to (V := updV (vp_V fs) k v) ⟨_, e1, q2, q3, t_set q4 hap hk v⟩ (fun j _ => vp_updV_set hl v j)⟩ e2 e3)
theorem f_putN (hexec : p.tables.exec = Jvm.exec) (hb : c.code = cc) {own ref C host : String} {T : u_T} {N ci index : Nat} (hts : ∀ w ∈ u_ws C T N, w.before args s = true) (ty0 : Nat → FieldType) (hty : ∀ k, k < N → parseFieldDescriptor (T k).2.2.1 = some (ty0 k)) (hnm : ∀ a, a < N → ∀ b, b < N → a ≠ b → (T a).2.1 ≠ (T b).2.1) (hown : s.vm.findClass own = some m.cls) (hK : va_K D cl tys s) (hI : fI D cl A H0 h H locs) {fs : List Value} (he : h a = some (r, o, .inr (ci, fs))) (hr0 : r ≠ 0) (hc : cl[ci]? = some (C, T, N)) (k : Nat) (hk : k < N) (hlink : va_Nw (.fieldLinkNest own index ref (T k).2.1 (T k).2.2.1 host) s) (hsame : ∀ x, s.fieldFound? (T k).1 (T k).2.1 (T k).2.2.1 = some x → s.fieldFound? ref (T k).2.1 (T k).2.2.1 = some x) (hfin : (T k).2.2.2 = false) {v : Value} (hn : narrow (ty0 k) v = v) (hfit : fits (ty0 k) v = true) (hl : k < fs.length) {fs' : List Value} (hfs : fs.set k v = fs')
    (hdg : decode cc pc = .ok (.putfield index, 3)) (kk : ∀ (H : Heap) (locs : List Loc), fI D cl A H0 (fU h a (r, o, .inr (ci, fs'))) H locs → W p l e R s m args below meth c H locs cells slots Q (F0 m (pc + 3) ls rest)) : W p l e R s m args below meth c H locs cells slots Q (F0 m pc ls (v :: .ref a :: rest)) := by
  subst hfs
  have hap := va_apart (own := own) hts (fun _ h => h) ty0 hty hnm hK hc
  obtain ⟨r', h1, cell, q1, q2, q3, q4⟩ := (hI.1 a _ he).2 hr0
  have hr : r' = (C, T, N) := Option.some.inj (h1.symm.trans hc)
  subst hr
  obtain ⟨hS, hfc, kC, hkC, hkind⟩ := hK.1 ci _ hc
  obtain ⟨cf, kf, fi, f, hi, hsl⟩ := hS k hk
  have hlay := hts _ (u_in_lay hk)
  unfold u_lay at hlay
  rw [if_neg (by rw [hfin]; decide)] at hlay
  have hst := (u_facts hfc hkC (u_lays hts (fun _ h => h) hk) hi).1
  have h6 := u_store hfc hkC hkind hlay hi (hty k hk) hn hfit
  refine va_WputK hexec hb (f := f) hown (va_Nw.use rfl hlink) (hsame _ hi) hst (by rw [q2]; exact h6) q1 q3 (by rw [hsl]; exact k2_hasslot (q4 k hk)) rfl rfl hdg fun H' e1 e2 e3 => ?_
  rw [hsl] at e1 ⊢
  exact kk H' _ (hI.set he hr0 ⟨_, hc, t_OB.to (V := updV (vp_V fs) k v) ⟨_, e1, q2, q3, t_set q4 hap hk v⟩ (fun j _ => vp_updV_set hl v j)⟩ e2 e3)
theorem f_putF (hexec : p.tables.exec = Jvm.exec) (hb : c.code = cc) {own ref C : String} {T : u_T} {N ci index : Nat} (hts : ∀ w ∈ u_ws C T N, w.before args s = true) (ty0 : Nat → FieldType) (hty : ∀ k, k < N → parseFieldDescriptor (T k).2.2.1 = some (ty0 k)) (hnm : ∀ a, a < N → ∀ b, b < N → a ≠ b → (T a).2.1 ≠ (T b).2.1) (hown : s.vm.findClass own = some m.cls) (hK : va_K D cl tys s) (hI : fI D cl A H0 h H locs) {fs : List Value} (he : h a = some (r, o, .inr (ci, fs))) (hr0 : r ≠ 0) (hc : cl[ci]? = some (C, T, N)) (k : Nat) (hk : k < N) (hlink : (Cond.fieldLink own index ref (T k).2.1 (T k).2.2.1).before args s = true) (hsame : ∀ x, s.fieldFound? (T k).1 (T k).2.1 (T k).2.2.1 = some x → s.fieldFound? ref (T k).2.1 (T k).2.2.1 = some x) (hfin : (T k).2.2.2 = true) (hin2 : meth.name = "<init>") (hdecl : (T k).1 = own) {v : Value} (hn : narrow (ty0 k) v = v) (hfit : fits (ty0 k) v = true) (hl : k < fs.length) {fs' : List Value} (hfs : fs.set k v = fs')
    (hdg : decode cc pc = .ok (.putfield index, 3)) (kk : ∀ (H : Heap) (locs : List Loc), fI D cl A H0 (fU h a (r, o, .inr (ci, fs'))) H locs → W p l e R s m args below meth c H locs cells slots Q (F0 m (pc + 3) ls rest)) : W p l e R s m args below meth c H locs cells slots Q (F0 m pc ls (v :: .ref a :: rest)) := by
  subst hfs
  have hap := va_apart (own := own) hts (fun _ h => h) ty0 hty hnm hK hc
  obtain ⟨r', h1, cell, q1, q2, q3, q4⟩ := (hI.1 a _ he).2 hr0
  have hr : r' = (C, T, N) := Option.some.inj (h1.symm.trans hc)
  subst hr
  obtain ⟨hS, hfc, kC, hkC, hkind⟩ := hK.1 ci _ hc
  obtain ⟨cf, kf, fi, f, hi, hsl⟩ := hS k hk
  have hlay := hts _ (u_in_lay hk)
  unfold u_lay at hlay
  rw [if_pos hfin] at hlay
  have hst := (u_facts hfc hkC (u_lays hts (fun _ h => h) hk) hi).1
  have hcf : m.cls = cf := by
    obtain ⟨_, _, c', _, _, _, -, -, hf', -, -, -, hown2, -⟩ := Cond.laysFinal_spec hlay
    have e1 : c' = cf := by have := hi.symm.trans hf'; simp at this; exact this.1.symm
    rw [hdecl] at hown2
    rw [← e1]; exact Option.some.inj (hown.symm.trans hown2)
  have h6 := u_fits hfc hkC hkind (Or.inr hlay) hi (hty k hk) hn hfit
  refine W.putFinK hexec hb hown hlink (hsame _ hi) hst hcf hin2 (by rw [q2]; exact h6) q1 q3 (by rw [hsl]; exact k2_hasslot (q4 k hk)) rfl rfl hdg fun H' e1 e2 e3 => ?_
  rw [hsl] at e1 ⊢
  exact kk H' _ (hI.set he hr0 ⟨_, hc, t_OB.to (V := updV (vp_V fs) k v) ⟨_, e1, q2, q3, t_set q4 hap hk v⟩ (fun j _ => vp_updV_set hl v j)⟩ e2 e3)
theorem f_new {c0 : Code} (hexec : p.tables.exec = Jvm.exec) (hb : c0.code = cc) {own C : String} {T : u_T} {N ci index : Nat} (hts : ∀ w ∈ u_ws C T N, w.before args s = true) (ty : Nat → FieldType) (hty : ∀ k, k < N → parseFieldDescriptor (T k).2.2.1 = some (ty k)) (hown : s.vm.findClass own = some m.cls) (hcl : (Cond.classLink own index C).before args s = true) {N2 : Nat} (hinst : (Cond.instantiable C N2).before args s = true) (hini : (Cond.initialized C).before args s = true)
    (hK : va_K D cl tys s) (hI : fI D cl A H0 h H locs) (hc : cl[ci]? = some (C, T, N)) {fs : List Value} (hfs : ∀ j, j < N → defaultValue (ty j) = vp_V fs j) (r o : Nat) (hcells : cells + 1 ≤ R.cells) (hslots : slots + N2 ≤ R.slots) (hdg : decode cc pc = .ok (.new index, 3))
    (kk : ∀ (q : Nat) (H1 : Heap), q = H.size → H1.size = H.size + 1 → h q = none → fI D cl A H0 (fU h q (r, o, .inr (ci, fs))) H1 locs →
      W p l e R s m args below meth c0 H1 locs (cells + 1) (slots + N2) Q (F0 m (pc + 3) ls (.ref q :: rest))) : W p l e R s m args below meth c0 H locs cells slots Q (F0 m pc ls rest) := by
  have hKn := hK.1 ci _ hc
  refine W.newcK hexec hb hown hcl hinst hini rfl hdg hcells hslots hKn.2.1 rfl fun H1 kC hkC e1 z1 o1 => ?_
  exact kk H.size H1 rfl z1 hI.none (hI.new r o ⟨_, hc, (u_born ty hts (fun _ h => h) hKn hkC e1 hty).to hfs⟩ z1 o1)
theorem f_newa (hexec : p.tables.exec = Jvm.exec) (hb : c.code = cc) {atype : ArrayType} (harr : (Cond.arrayClass (newarray.typeOf atype)).before args s = true) {ty : FieldType} (hty : newarray.typeOf atype = ty) (hI : fI D cl A H0 h H locs) {cA : ClassId} (hcA : s.vm.findClass ("[" ++ ty.toString) = some cA)
    {n : Int32} {N' : Nat} {a0 : vp_A} (ha : vp_cell cA a0 = arrV cA N' (fun _ => defaultValue ty)) (hn : ¬ n < 0) (hN : n.toNatClampNeg = N') (hbytes : N' * componentBytes ty ≤ 536870912) (r o : Nat) (hcells : cells + 1 ≤ R.cells) (hslots : slots + N' ≤ R.slots) (hdg : decode cc pc = .ok (.newarray atype, 2))
    (kk : ∀ (q : Nat) (H1 : Heap), q = H.size → H1.size = H.size + 1 → h q = none → fI D cl A H0 (fU h q (r, o, .inl (cA, a0))) H1 locs →
      W p l e R s m args below meth c H1 locs (cells + 1) (slots + N') Q (F0 m (pc + 2) ls (.ref q :: rest))) : W p l e R s m args below meth c H locs cells slots Q (F0 m pc ls (.int n :: rest)) := by
  subst hty
  refine va_newaK hexec hb harr rfl hdg rfl hn hN hbytes hcells hslots rfl fun H1 cA' e1 z1 o1 hAr hNm => ?_
  have he : cA' = cA := Option.some.inj (hNm.symm.trans hcA)
  subst he
  refine kk H.size H1 rfl z1 hI.none (hI.new r o ?_ z1 o1)
  show H1[H.size]? = some (vp_cell _ _)
  rw [ha]
  exact e1
theorem f_newq (hexec : p.tables.exec = Jvm.exec) (hb : c.code = cc) {own C : String} {index : Nat} (hown : s.vm.findClass own = some m.cls) (hclink : (Cond.classLink own index C).before args s = true) (hover : va_AO C s) (hI : fI D cl A H0 h H locs) {cA : ClassId} (hcA : s.vm.findClass ("[" ++ (FieldType.object C).toString) = some cA)
    {n : Int32} {N' : Nat} (hn : ¬ n < 0) (hN : n.toNatClampNeg = N') (hbytes : N' * 4 ≤ 536870912) (r o : Nat) (hcells : cells + 1 ≤ R.cells) (hslots : slots + N' ≤ R.slots) (hdg : decode cc pc = .ok (.anewarray index, 3))
    (kk : ∀ (q : Nat) (H1 : Heap), q = H.size → H1.size = H.size + 1 → h q = none → fI D cl A H0 (fU h q (r, o, .inl (cA, N', .inr (.inr (.inr (.inr (fun _ => none))))))) H1 locs →
      W p l e R s m args below meth c H1 locs (cells + 1) (slots + N') Q (F0 m (pc + 3) ls (.ref q :: rest))) : W p l e R s m args below meth c H locs cells slots Q (F0 m pc ls (.int n :: rest)) := by
  subst hN
  refine W.anew hexec hb hown hclink (va_AO.use hover) rfl hdg rfl hn hbytes hcells hslots fun cA' kA comp f1 f2 f3 f4 => ?_
  have he : cA' = cA := Option.some.inj (f1.symm.trans hcA)
  subst he
  generalize hH1 : H.push ({ cls := cA', slots := Array.replicate n.toNatClampNeg .null, vm := .none } : Cell) = H1
  have z1 : H1.size = H.size + 1 := by rw [← hH1, Array.size_push]
  have e1 : H1[H.size]? = some (arrV cA' n.toNatClampNeg (fun _ => .null)) := by rw [← hH1, Array.getElem?_push_size, ← arrV_new]
  have o1 : ∀ q : Nat, q < H.size → H1[q]? = H[q]? := fun q hq => by rw [← hH1, Array.getElem?_push, if_neg (Nat.ne_of_lt hq)]
  refine kk H.size H1 rfl z1 hI.none (hI.new r o ?_ z1 o1)
  show H1[H.size]? = some (vp_cell _ _)
  rw [vp_cell_q]
  exact e1
theorem f_alen (hexec : p.tables.exec = Jvm.exec) (hb : c.code = cc) (hI : fI D cl A H0 h H locs) {cA : ClassId} {x : vp_A} (ha : h a = some (r, o, .inl (cA, x))) {ty : FieldType} (ht : fT s cA ty) {v : Int32} (hv : Int32.ofNat x.1 = v) (hdg : decode cc pc = .ok (.arraylength, 1))
    (kk : W p l e R s m args below meth c H locs cells slots Q (F0 m (pc + 1) ls (.int v :: rest))) : W p l e R s m args below meth c H locs cells slots Q (F0 m pc ls (.ref a :: rest)) := by
  subst hv
  obtain ⟨cell, h1, h2, h3, h4, h5, h6, h7⟩ := (hI.1 a _ ha).1
  exact W.alen hexec hb h1 (ht.arr h2 h4) h6 rfl rfl hdg kk
theorem f_in {n k : Nat} {i : Int32} (hin : vp_in i n) (hk : n ≤ k) : ¬ (i < 0 ∨ k ≤ i.toNatClampNeg) := fun q => hin (q.imp id (fun z => Nat.le_trans hk z))
theorem f_inl {n : Nat} {i : Int32} (hin : vp_in i n) : i.toNatClampNeg < n := Nat.not_le.mp fun q => hin (Or.inr q)
theorem f_iald (hexec : p.tables.exec = Jvm.exec) (hb : c.code = cc) (hI : fI D cl A H0 h H locs) {cA : ClassId} {n : Nat} {f : Nat → Int32} (ha : h a = some (r, o, .inl (cA, n, .inl f))) (ht : fT s cA .int) {i : Int32} (hin : vp_in i n) (hdg : decode cc pc = .ok (.iaload, 1))
    (kk : W p l e R s m args below meth c H locs cells slots Q (F0 m (pc + 1) ls (.int (f i.toNatClampNeg) :: rest))) : W p l e R s m args below meth c H locs cells slots Q (F0 m pc ls (.int i :: .ref a :: rest)) := by
  obtain ⟨cell, h1, h2, h3, h4, h5, h6, h7⟩ := (hI.1 a _ ha).1
  exact W.iald (v := .int (f i.toNatClampNeg)) hexec hb h1 (ht.arr h2 h4) h3 (f_in hin h5) (h7 _ (f_inl hin)) rfl rfl hdg kk
theorem f_bald (hexec : p.tables.exec = Jvm.exec) (hb : c.code = cc) (hI : fI D cl A H0 h H locs) {cA : ClassId} {n : Nat} {f : Nat → Int32} (ha : h a = some (r, o, .inl (cA, n, .inl f))) (ht : fT s cA .byte) {i : Int32} (hin : vp_in i n) (hdg : decode cc pc = .ok (.baload, 1))
    (kk : W p l e R s m args below meth c H locs cells slots Q (F0 m (pc + 1) ls (.int (f i.toNatClampNeg) :: rest))) : W p l e R s m args below meth c H locs cells slots Q (F0 m pc ls (.int i :: .ref a :: rest)) := by
  obtain ⟨cell, h1, h2, h3, h4, h5, h6, h7⟩ := (hI.1 a _ ha).1
  exact W.bald (v := .int (f i.toNatClampNeg)) hexec hb h1 (ht.arr h2 h4) h3 (f_in hin h5) (h7 _ (f_inl hin)) rfl rfl hdg kk
theorem f_zald (hexec : p.tables.exec = Jvm.exec) (hb : c.code = cc) (hI : fI D cl A H0 h H locs) {cA : ClassId} {n : Nat} {f : Nat → Int32} (ha : h a = some (r, o, .inl (cA, n, .inl f))) (ht : fT s cA .boolean) {i : Int32} (hin : vp_in i n) (hdg : decode cc pc = .ok (.baload, 1))
    (kk : W p l e R s m args below meth c H locs cells slots Q (F0 m (pc + 1) ls (.int (f i.toNatClampNeg) :: rest))) : W p l e R s m args below meth c H locs cells slots Q (F0 m pc ls (.int i :: .ref a :: rest)) := by
  obtain ⟨cell, h1, h2, h3, h4, h5, h6, h7⟩ := (hI.1 a _ ha).1
  exact W.zald (v := .int (f i.toNatClampNeg)) hexec hb h1 (ht.arr h2 h4) h3 (f_in hin h5) (h7 _ (f_inl hin)) rfl rfl hdg kk
theorem f_cald (hexec : p.tables.exec = Jvm.exec) (hb : c.code = cc) (hI : fI D cl A H0 h H locs) {cA : ClassId} {n : Nat} {f : Nat → Int32} (ha : h a = some (r, o, .inl (cA, n, .inl f))) (ht : fT s cA .char) {i : Int32} (hin : vp_in i n) (hdg : decode cc pc = .ok (.caload, 1))
    (kk : W p l e R s m args below meth c H locs cells slots Q (F0 m (pc + 1) ls (.int (f i.toNatClampNeg) :: rest))) : W p l e R s m args below meth c H locs cells slots Q (F0 m pc ls (.int i :: .ref a :: rest)) := by
  obtain ⟨cell, h1, h2, h3, h4, h5, h6, h7⟩ := (hI.1 a _ ha).1
  exact W.cald (v := .int (f i.toNatClampNeg)) hexec hb h1 (ht.arr h2 h4) h3 (f_in hin h5) (h7 _ (f_inl hin)) rfl rfl hdg kk
theorem f_lald (hexec : p.tables.exec = Jvm.exec) (hb : c.code = cc) (hI : fI D cl A H0 h H locs) {cA : ClassId} {n : Nat} {f : Nat → Int64} (ha : h a = some (r, o, .inl (cA, n, .inr (.inl f)))) (ht : fT s cA .long) {i : Int32} (hin : vp_in i n) (hdg : decode cc pc = .ok (.laload, 1))
    (kk : W p l e R s m args below meth c H locs cells slots Q (F0 m (pc + 1) ls (.long (f i.toNatClampNeg) :: rest))) : W p l e R s m args below meth c H locs cells slots Q (F0 m pc ls (.int i :: .ref a :: rest)) := by
  obtain ⟨cell, h1, h2, h3, h4, h5, h6, h7⟩ := (hI.1 a _ ha).1
  exact W.lald (v := .long (f i.toNatClampNeg)) hexec hb h1 (ht.arr h2 h4) h3 (f_in hin h5) (h7 _ (f_inl hin)) rfl rfl hdg kk
theorem f_aald (hexec : p.tables.exec = Jvm.exec) (hb : c.code = cc) (hI : fI D cl A H0 h H locs) {cA : ClassId} {C : String} {n : Nat} {f : Nat → Option Nat} (ha : h a = some (r, o, .inl (cA, n, .inr (.inr (.inr (.inr f)))))) (ht : fT s cA (.object C)) {i : Int32} (hin : vp_in i n) (hdg : decode cc pc = .ok (.aaload, 1))
    (kk : W p l e R s m args below meth c H locs cells slots Q (F0 m (pc + 1) ls (va_rf (f i.toNatClampNeg) :: rest))) : W p l e R s m args below meth c H locs cells slots Q (F0 m pc ls (.int i :: .ref a :: rest)) := by
  obtain ⟨cell, h1, h2, h3, h4, h5, h6, h7⟩ := (hI.1 a _ ha).1
  exact W.aald (v := va_rf (f i.toNatClampNeg)) (ty := .object C) hexec hb h1 (ht.arr h2 h4) rfl h3 (f_in hin h5) (h7 _ (f_inl hin)) rfl rfl hdg kk
theorem f_iast (hexec : p.tables.exec = Jvm.exec) (hb : c.code = cc) (hI : fI D cl A H0 h H locs) {cA : ClassId} {n : Nat} {f : Nat → Int32} (ha : h a = some (r, o, .inl (cA, n, .inl f))) (hr0 : r ≠ 0) (ht : fT s cA .int) {i : Int32} {x : Int32} (hin : vp_in i n) (hdg : decode cc pc = .ok (.iastore, 1))
    (kk : ∀ (H : Heap) (locs : List Loc), fI D cl A H0 (fU h a (r, o, .inl (cA, n, .inl (upd f i.toNatClampNeg x)))) H locs → W p l e R s m args below meth c H locs cells slots Q (F0 m (pc + 1) ls rest)) : W p l e R s m args below meth c H locs cells slots Q (F0 m pc ls (.int x :: .int i :: .ref a :: rest)) := by
  have h1 : H[a]? = some (arrV cA n (fun j => .int (f j))) := (hI.1 a _ ha).2 hr0
  refine W.iast hexec hb h1 (ht.arr rfl (fun k q => by cases q)) (fun q => by cases q) (f_in hin (by rw [arrV_size]; exact Nat.le_refl _)) rfl rfl hdg fun H1 e z oq => ?_
  refine kk H1 _ (hI.set ha hr0 ?_ z oq)
  show H1[a]? = some (vp_cell _ _)
  rw [e, vp_cell_i, arrV_store]
  congr 2
  funext q
  by_cases hq : q = i.toNatClampNeg
  · subst hq
    simp [updV, upd]
  · simp [updV, upd, hq]
theorem f_last (hexec : p.tables.exec = Jvm.exec) (hb : c.code = cc) (hI : fI D cl A H0 h H locs) {cA : ClassId} {n : Nat} {f : Nat → Int64} (ha : h a = some (r, o, .inl (cA, n, .inr (.inl f)))) (hr0 : r ≠ 0) (ht : fT s cA .long) {i : Int32} {x : Int64} (hin : vp_in i n) (hdg : decode cc pc = .ok (.lastore, 1))
    (kk : ∀ (H : Heap) (locs : List Loc), fI D cl A H0 (fU h a (r, o, .inl (cA, n, .inr (.inl (vp_updL f i.toNatClampNeg x))))) H locs → W p l e R s m args below meth c H locs cells slots Q (F0 m (pc + 1) ls rest)) : W p l e R s m args below meth c H locs cells slots Q (F0 m pc ls (.long x :: .int i :: .ref a :: rest)) := by
  have h1 : H[a]? = some (arrV cA n (fun j => .long (f j))) := (hI.1 a _ ha).2 hr0
  refine W.last hexec hb h1 (ht.arr rfl (fun k q => by cases q)) (fun q => by cases q) (f_in hin (by rw [arrV_size]; exact Nat.le_refl _)) rfl rfl hdg fun H1 e z oq => ?_
  refine kk H1 _ (hI.set ha hr0 ?_ z oq)
  show H1[a]? = some (vp_cell _ _)
  rw [e, vp_cell_l, arrV_store]
  congr 2
  funext q
  by_cases hq : q = i.toNatClampNeg
  · subst hq
    simp [updV, vp_updL]
  · simp [updV, vp_updL, hq]
theorem f_nar {ty : FieldType} {x y : Int32} (h : narrow ty (.int x) = .int y) : vp_nar ty x = y := by simp [vp_nar, h]
theorem f_bast (hexec : p.tables.exec = Jvm.exec) (hb : c.code = cc) (hI : fI D cl A H0 h H locs) {cA : ClassId} {n : Nat} {f : Nat → Int32} (ha : h a = some (r, o, .inl (cA, n, .inl f))) (hr0 : r ≠ 0) (ht : fT s cA .byte) {i : Int32} {x : Int32} (hin : vp_in i n) (hdg : decode cc pc = .ok (.bastore, 1))
    (kk : ∀ (H : Heap) (locs : List Loc), fI D cl A H0 (fU h a (r, o, .inl (cA, n, .inl (upd f i.toNatClampNeg x.toInt8.toInt32)))) H locs → W p l e R s m args below meth c H locs cells slots Q (F0 m (pc + 1) ls rest)) : W p l e R s m args below meth c H locs cells slots Q (F0 m pc ls (.int x :: .int i :: .ref a :: rest)) := by
  have h1 : H[a]? = some (arrV cA n (fun j => .int (f j))) := (hI.1 a _ ha).2 hr0
  refine W.bast hexec hb h1 (ht.arr rfl (fun k q => by cases q)) (fun q => by cases q) (f_in hin (by rw [arrV_size]; exact Nat.le_refl _)) rfl rfl hdg fun H1 e z oq => ?_
  refine kk H1 _ (hI.set ha hr0 ?_ z oq)
  show H1[a]? = some (vp_cell _ _)
  rw [e, vp_cell_i, arrV_store]
  congr 2
  funext q
  by_cases hq : q = i.toNatClampNeg
  · subst hq
    simp [updV, upd, narrow]
  · simp [updV, upd, hq]
theorem f_zast (hexec : p.tables.exec = Jvm.exec) (hb : c.code = cc) (hI : fI D cl A H0 h H locs) {cA : ClassId} {n : Nat} {f : Nat → Int32} (ha : h a = some (r, o, .inl (cA, n, .inl f))) (hr0 : r ≠ 0) (ht : fT s cA .boolean) {i : Int32} {x : Int32} (hin : vp_in i n) (hdg : decode cc pc = .ok (.bastore, 1))
    (kk : ∀ (H : Heap) (locs : List Loc), fI D cl A H0 (fU h a (r, o, .inl (cA, n, .inl (upd f i.toNatClampNeg (x &&& 1))))) H locs → W p l e R s m args below meth c H locs cells slots Q (F0 m (pc + 1) ls rest)) : W p l e R s m args below meth c H locs cells slots Q (F0 m pc ls (.int x :: .int i :: .ref a :: rest)) := by
  have h1 : H[a]? = some (arrV cA n (fun j => .int (f j))) := (hI.1 a _ ha).2 hr0
  refine W.zast hexec hb h1 (ht.arr rfl (fun k q => by cases q)) (fun q => by cases q) (f_in hin (by rw [arrV_size]; exact Nat.le_refl _)) rfl rfl hdg fun H1 e z oq => ?_
  refine kk H1 _ (hI.set ha hr0 ?_ z oq)
  show H1[a]? = some (vp_cell _ _)
  rw [e, vp_cell_i, arrV_store]
  congr 2
  funext q
  by_cases hq : q = i.toNatClampNeg
  · subst hq
    simp [updV, upd, narrow]
  · simp [updV, upd, hq]
theorem f_aast (hexec : p.tables.exec = Jvm.exec) (hb : c.code = cc) (hK : va_K D cl tys s) (hI : fI D cl A H0 h H locs) {cA : ClassId} {q : vw_C} {n v r2 o2 ci t0 : Nat} {vs : List Value} {f : Nat → Option Nat} (ha : h a = some (r, o, .inl (cA, n, .inr (.inr (.inr (.inr f)))))) (hr0 : r ≠ 0) (ht : tys[t0]? = some (cA, .object q.1)) (hv : h v = some (r2, o2, .inr (ci, vs))) (hr2 : r2 ≠ 0) (hc : cl[ci]? = some q) {i : Int32} (hin : vp_in i n) (hdg : decode cc pc = .ok (.aastore, 1))
    (kk : ∀ (H : Heap) (locs : List Loc), fI D cl A H0 (fU h a (r, o, .inl (cA, n, .inr (.inr (.inr (.inr (va_up f i.toNatClampNeg (some v)))))))) H locs → W p l e R s m args below meth c H locs cells slots Q (F0 m (pc + 1) ls rest)) : W p l e R s m args below meth c H locs cells slots Q (F0 m pc ls (.ref v :: .int i :: .ref a :: rest)) := by
  have h1 : H[a]? = some (arrV cA n (fun j => va_rf (f j))) := (hI.1 a _ ha).2 hr0
  have hlt := f_inl hin
  have h0 : ¬ i < 0 := fun q => hin (Or.inl q)
  obtain ⟨r', hr', cellV, g1, g2, g3, -⟩ := (hI.1 v _ hv).2 hr2
  have hcls := (hK.1 ci q hc).2
  obtain ⟨kA, comp, k1, k2, k3, -⟩ := (hK.2 t0 _ ht).2
  have hcomp : comp = D.1 ci := Option.some.inj (k3.symm.trans hcls.1)
  subst hcomp
  obtain ⟨kC, hkC, -⟩ := hcls.2
  refine W.aast hexec hb h1 (fun q h => by cases h) (fun h => by cases h) k1 k2 rfl hkC ⟨h0, by show _ < (arrV _ _ _).slots.size; rw [arrV_size]; exact hlt⟩ g1 (fun q h => by rw [g3] at h; cases h) (by rw [g2]; exact hkC) (by rw [g2]; exact va_assign hcls) rfl rfl hdg fun H1 e z oq => ?_
  refine kk H1 _ (hI.set ha hr0 ?_ z oq)
  show H1[a]? = some (vp_cell _ _)
  rw [e, vp_cell_q, arrV_store]
  congr 2
  funext x
  by_cases hq : x = i.toNatClampNeg
  · subst hq
    simp [updV, va_up, va_rf]
  · simp [updV, va_up, hq]
end FR
section FQ
variable {p : Program} {l : Launch} {e : Env} {R : Room} {s : State} {m : MethodId} {args : Array Value} {below : List Frame} {meth : Method} {c : Code} {H : Heap} {locs : List Loc} {cells slots : Nat} {Q : State → Prop}
variable {cc : ByteArray} {pc : Nat} {ls : Array Slot} {rest : List Value}
theorem f_rfcat (x : Option Nat) : (va_rf x).category = 1 := by cases x <;> rfl
theorem f_aload_nq (hexec : p.tables.exec = Jvm.exec) (hb : c.code = cc) {k : Fin 4} {i : Nat} {x : Option Nat} (hdg : decode cc pc = .ok (.aload_n k, 1)) (hi : (k : Nat) = i) (hl : ls[i]? = some (.val (va_rf x)))
    (kk : W p l e R s m args below meth c H locs cells slots Q (F0 m (pc + 1) ls (va_rf x :: rest))) : W p l e R s m args below meth c H locs cells slots Q (F0 m pc ls rest) := by
  cases x with
  | none => exact lv_aload_nN hexec hb hdg hi hl kk
  | some q => exact lv_aload_n hexec hb hdg hi hl kk
theorem f_aloadq (hexec : p.tables.exec = Jvm.exec) (hb : c.code = cc) {i : Nat} {x : Option Nat} (hdg : decode cc pc = .ok (.aload i, 2)) (hl : ls[i]? = some (.val (va_rf x)))
    (kk : W p l e R s m args below meth c H locs cells slots Q (F0 m (pc + 2) ls (va_rf x :: rest))) : W p l e R s m args below meth c H locs cells slots Q (F0 m pc ls rest) := by
  cases x with
  | none => exact lv_aloadN hexec hb hdg hl kk
  | some q => exact lv_aload hexec hb hdg hl kk
theorem f_astore_nq (hexec : p.tables.exec = Jvm.exec) (hb : c.code = cc) {k : Fin 4} {i nL : Nat} {x : Option Nat} {lv lv' : List (Nat × Value)} (hdg : decode cc pc = .ok (.astore_n k, 1)) (hi : (k : Nat) = i) (h : lv_has ls nL lv) (hn : i < nL) (hl : (i, va_rf x) :: lv.filter (fun q => !(q.1 == i) && !(q.1 + 1 == i && q.2.category == 2)) = lv')
    (kk : ∀ ls' : Array Slot, lv_has ls' nL lv' → W p l e R s m args below meth c H locs cells slots Q (F0 m (pc + 1) ls' rest)) : W p l e R s m args below meth c H locs cells slots Q (F0 m pc ls (va_rf x :: rest)) := by
  cases x with
  | none => exact lv_astore_nN hexec hb hdg hi h hn hl kk
  | some q => exact lv_astore_n hexec hb hdg hi h hn hl kk
theorem f_astoreq (hexec : p.tables.exec = Jvm.exec) (hb : c.code = cc) {i nL : Nat} {x : Option Nat} {lv lv' : List (Nat × Value)} (hdg : decode cc pc = .ok (.astore i, 2)) (h : lv_has ls nL lv) (hn : i < nL) (hl : (i, va_rf x) :: lv.filter (fun q => !(q.1 == i) && !(q.1 + 1 == i && q.2.category == 2)) = lv')
    (kk : ∀ ls' : Array Slot, lv_has ls' nL lv' → W p l e R s m args below meth c H locs cells slots Q (F0 m (pc + 2) ls' rest)) : W p l e R s m args below meth c H locs cells slots Q (F0 m pc ls (va_rf x :: rest)) := by
  cases x with
  | none => exact lv_astoreN hexec hb hdg h hn hl kk
  | some q => exact lv_astore hexec hb hdg h hn hl kk
theorem lgc (x y : Int64) : (x < y ∧ lg_cmp x y = -1) ∨ (x = y ∧ lg_cmp x y = 0) ∨ (y < x ∧ lg_cmp x y = 1) := by
  by_cases h1 : y < x
  · exact Or.inr (Or.inr ⟨h1, by simp [lg_cmp, h1]⟩)
  · by_cases h2 : x = y
    · exact Or.inr (Or.inl ⟨h2, by subst h2; simp [lg_cmp]⟩)
    · refine Or.inl ⟨?_, by simp [lg_cmp, h1, h2]⟩
      rw [Int64.lt_iff_toInt_lt] at h1 ⊢
      have h3 : x.toInt ≠ y.toInt := fun q => h2 (Int64.toInt_inj.mp q)
      omega
theorem l_asym {x y : Int64} (h : x < y) : ¬ y < x := by rw [Int64.lt_iff_toInt_lt] at h ⊢; omega
theorem l_ne {x y : Int64} (h : x < y) : ¬ x = y := fun q => by subst q; rw [Int64.lt_iff_toInt_lt] at h; omega
theorem l_nle {x y : Int64} (h : x < y) : ¬ y ≤ x := by rw [Int64.lt_iff_toInt_lt] at h; rw [Int64.le_iff_toInt_le]; omega
theorem l_le {x y : Int64} (h : x < y) : x ≤ y := by rw [Int64.lt_iff_toInt_lt] at h; rw [Int64.le_iff_toInt_le]; omega
theorem l_irr (x : Int64) : ¬ x < x := by rw [Int64.lt_iff_toInt_lt]; omega
theorem l_rf (x : Int64) : x ≤ x := by rw [Int64.le_iff_toInt_le]; omega
theorem f_lc_eq (hexec : p.tables.exec = Jvm.exec) (hb : c.code = cc) {x y : Int64} {off : Int} {tgt : Nat} (hd1 : decode cc pc = .ok (.lcmp, 1)) (hd2 : decode cc (pc + 1) = .ok (.ifCond .eq off, 3)) (ht : ((pc + 1 : Nat) : Int) + off = (tgt : Int))
    (kt : x = y → W p l e R s m args below meth c H locs cells slots Q (F0 m tgt ls rest)) (kf : ¬ x = y → W p l e R s m args below meth c H locs cells slots Q (F0 m (pc + 4) ls rest)) : W p l e R s m args below meth c H locs cells slots Q (F0 m pc ls (.long y :: .long x :: rest)) := by
  refine W.lcmp hexec hb hd1 (lv_if_eq (tgt := tgt) hexec hb hd2 ht (fun h => ?_) (fun h => ?_))
  · rcases lgc x y with ⟨a, b⟩ | ⟨a, b⟩ | ⟨a, b⟩
    · rw [b] at h; exact absurd h (by decide)
    · exact kt a
    · rw [b] at h; exact absurd h (by decide)
  · rcases lgc x y with ⟨a, b⟩ | ⟨a, b⟩ | ⟨a, b⟩
    · exact kf (l_ne a)
    · rw [b] at h; exact absurd rfl h
    · exact kf (fun q => l_ne a q.symm)
theorem f_lc_ne (hexec : p.tables.exec = Jvm.exec) (hb : c.code = cc) {x y : Int64} {off : Int} {tgt : Nat} (hd1 : decode cc pc = .ok (.lcmp, 1)) (hd2 : decode cc (pc + 1) = .ok (.ifCond .ne off, 3)) (ht : ((pc + 1 : Nat) : Int) + off = (tgt : Int))
    (kt : ¬ x = y → W p l e R s m args below meth c H locs cells slots Q (F0 m tgt ls rest)) (kf : x = y → W p l e R s m args below meth c H locs cells slots Q (F0 m (pc + 4) ls rest)) : W p l e R s m args below meth c H locs cells slots Q (F0 m pc ls (.long y :: .long x :: rest)) := by
  refine W.lcmp hexec hb hd1 (lv_if_ne (tgt := tgt) hexec hb hd2 ht (fun h => ?_) (fun h => ?_))
  · rcases lgc x y with ⟨a, b⟩ | ⟨a, b⟩ | ⟨a, b⟩
    · exact kt (l_ne a)
    · rw [b] at h; exact absurd rfl h
    · exact kt (fun q => l_ne a q.symm)
  · rcases lgc x y with ⟨a, b⟩ | ⟨a, b⟩ | ⟨a, b⟩
    · rw [b] at h; exact absurd h (by decide)
    · exact kf a
    · rw [b] at h; exact absurd h (by decide)
theorem f_lc_lt (hexec : p.tables.exec = Jvm.exec) (hb : c.code = cc) {x y : Int64} {off : Int} {tgt : Nat} (hd1 : decode cc pc = .ok (.lcmp, 1)) (hd2 : decode cc (pc + 1) = .ok (.ifCond .lt off, 3)) (ht : ((pc + 1 : Nat) : Int) + off = (tgt : Int))
    (kt : x < y → W p l e R s m args below meth c H locs cells slots Q (F0 m tgt ls rest)) (kf : ¬ x < y → W p l e R s m args below meth c H locs cells slots Q (F0 m (pc + 4) ls rest)) : W p l e R s m args below meth c H locs cells slots Q (F0 m pc ls (.long y :: .long x :: rest)) := by
  refine W.lcmp hexec hb hd1 (lv_if_lt (tgt := tgt) hexec hb hd2 ht (fun h => ?_) (fun h => ?_))
  · rcases lgc x y with ⟨a, b⟩ | ⟨a, b⟩ | ⟨a, b⟩
    · exact kt a
    · rw [b] at h; exact absurd h (by decide)
    · rw [b] at h; exact absurd h (by decide)
  · rcases lgc x y with ⟨a, b⟩ | ⟨a, b⟩ | ⟨a, b⟩
    · rw [b] at h; exact absurd (by decide) h
    · exact kf (fun q => l_ne q a)
    · exact kf (l_asym a)
theorem f_lc_ge (hexec : p.tables.exec = Jvm.exec) (hb : c.code = cc) {x y : Int64} {off : Int} {tgt : Nat} (hd1 : decode cc pc = .ok (.lcmp, 1)) (hd2 : decode cc (pc + 1) = .ok (.ifCond .ge off, 3)) (ht : ((pc + 1 : Nat) : Int) + off = (tgt : Int))
    (kt : y ≤ x → W p l e R s m args below meth c H locs cells slots Q (F0 m tgt ls rest)) (kf : ¬ y ≤ x → W p l e R s m args below meth c H locs cells slots Q (F0 m (pc + 4) ls rest)) : W p l e R s m args below meth c H locs cells slots Q (F0 m pc ls (.long y :: .long x :: rest)) := by
  refine W.lcmp hexec hb hd1 (lv_if_ge (tgt := tgt) hexec hb hd2 ht (fun h => ?_) (fun h => ?_))
  · rcases lgc x y with ⟨a, b⟩ | ⟨a, b⟩ | ⟨a, b⟩
    · rw [b] at h; exact absurd h (by decide)
    · exact kt (by rw [a]; exact l_rf _)
    · exact kt (l_le a)
  · rcases lgc x y with ⟨a, b⟩ | ⟨a, b⟩ | ⟨a, b⟩
    · exact kf (l_nle a)
    · rw [b] at h; exact absurd (by decide) h
    · rw [b] at h; exact absurd (by decide) h
theorem f_lc_gt (hexec : p.tables.exec = Jvm.exec) (hb : c.code = cc) {x y : Int64} {off : Int} {tgt : Nat} (hd1 : decode cc pc = .ok (.lcmp, 1)) (hd2 : decode cc (pc + 1) = .ok (.ifCond .gt off, 3)) (ht : ((pc + 1 : Nat) : Int) + off = (tgt : Int))
    (kt : y < x → W p l e R s m args below meth c H locs cells slots Q (F0 m tgt ls rest)) (kf : ¬ y < x → W p l e R s m args below meth c H locs cells slots Q (F0 m (pc + 4) ls rest)) : W p l e R s m args below meth c H locs cells slots Q (F0 m pc ls (.long y :: .long x :: rest)) := by
  refine W.lcmp hexec hb hd1 (lv_if_gt (tgt := tgt) hexec hb hd2 ht (fun h => ?_) (fun h => ?_))
  · rcases lgc x y with ⟨a, b⟩ | ⟨a, b⟩ | ⟨a, b⟩
    · rw [b] at h; exact absurd h (by decide)
    · rw [b] at h; exact absurd h (by decide)
    · exact kt a
  · rcases lgc x y with ⟨a, b⟩ | ⟨a, b⟩ | ⟨a, b⟩
    · exact kf (l_asym a)
    · exact kf (by rw [a]; exact l_irr _)
    · rw [b] at h; exact absurd (by decide) h
theorem f_lc_le (hexec : p.tables.exec = Jvm.exec) (hb : c.code = cc) {x y : Int64} {off : Int} {tgt : Nat} (hd1 : decode cc pc = .ok (.lcmp, 1)) (hd2 : decode cc (pc + 1) = .ok (.ifCond .le off, 3)) (ht : ((pc + 1 : Nat) : Int) + off = (tgt : Int))
    (kt : x ≤ y → W p l e R s m args below meth c H locs cells slots Q (F0 m tgt ls rest)) (kf : ¬ x ≤ y → W p l e R s m args below meth c H locs cells slots Q (F0 m (pc + 4) ls rest)) : W p l e R s m args below meth c H locs cells slots Q (F0 m pc ls (.long y :: .long x :: rest)) := by
  refine W.lcmp hexec hb hd1 (lv_if_le (tgt := tgt) hexec hb hd2 ht (fun h => ?_) (fun h => ?_))
  · rcases lgc x y with ⟨a, b⟩ | ⟨a, b⟩ | ⟨a, b⟩
    · exact kt (l_le a)
    · exact kt (by rw [a]; exact l_rf _)
    · rw [b] at h; exact absurd h (by decide)
  · rcases lgc x y with ⟨a, b⟩ | ⟨a, b⟩ | ⟨a, b⟩
    · rw [b] at h; exact absurd (by decide) h
    · rw [b] at h; exact absurd (by decide) h
    · exact kf (l_nle a)
end FQ
/-! EUCLID: two steps halve the lesser number -/
def eu : Nat → Nat → Nat → Nat × Nat
  | 0, a, b => (a, b)
  | n + 1, a, b => if b = 0 then (a, b) else eu n b (a % b)
theorem eu_0 (n a : Nat) : eu n a 0 = (a, 0) := by cases n <;> simp [eu]
theorem eu_gcd : ∀ (k a b : Nat), b < 2 ^ k → eu (2 * k) a b = (Nat.gcd a b, 0)
  | 0, a, b, h => by
    have hb : b = 0 := by simpa using h
    subst hb
    simp [eu]
  | k + 1, a, b, h => by
    by_cases hb : b = 0
    · subst hb
      rw [eu_0]; simp
    · have e1 : 2 * (k + 1) = (2 * k + 1) + 1 := by omega
      rw [e1]
      show (if b = 0 then (a, b) else eu (2 * k + 1) b (a % b)) = _
      rw [if_neg hb]
      have hr : a % b < b := Nat.mod_lt _ (by omega)
      have g1 : Nat.gcd a b = Nat.gcd b (a % b) := by rw [Nat.gcd_comm a b, Nat.gcd_rec b a, Nat.gcd_comm]
      by_cases hr0 : a % b = 0
      · rw [hr0, eu_0, g1, hr0]; simp
      · show (if a % b = 0 then (b, a % b) else eu (2 * k) (a % b) (b % (a % b))) = _
        rw [if_neg hr0]
        generalize a % b = r at hr hr0 g1
        have h1 : b % r < r := Nat.mod_lt _ (by omega)
        have h2 : b % r ≤ b - r := by
          rw [Nat.mod_eq_sub_mod (by omega)]
          exact Nat.mod_le _ _
        have h3 : 2 ^ (k + 1) = 2 * 2 ^ k := by rw [Nat.pow_succ]; omega
        rw [eu_gcd k r (b % r) (by omega), g1]
        have g2 : Nat.gcd b r = Nat.gcd r (b % r) := by rw [Nat.gcd_comm b r, Nat.gcd_rec r b, Nat.gcd_comm]
        rw [g2]
/-- more steps do no harm -/
theorem eu_mono : ∀ (n m a b : Nat), n ≤ m → (eu n a b).2 = 0 → eu m a b = eu n a b
  | 0, m, a, b, _, h => by
    have hb : b = 0 := h
    subst hb
    rw [eu_0]; rfl
  | n + 1, 0, a, b, hl, h => by omega
  | n + 1, m + 1, a, b, hl, h => by
    by_cases hb : b = 0
    · subst hb; rw [eu_0, eu_0]
    · have e1 : eu (n + 1) a b = eu n b (a % b) := by show (if b = 0 then (a, b) else _) = _; rw [if_neg hb]
      have e2 : eu (m + 1) a b = eu m b (a % b) := by show (if b = 0 then (a, b) else _) = _; rw [if_neg hb]
      rw [e1] at h ⊢
      rw [e2]
      exact eu_mono n m b (a % b) (by omega) h
end
section
/-! CONTRACTS OVER THE HEAP AS A FUNCTION. g_T: the tables' words that stay; g_cl: the classes; g_nl: the nest's links; g_al: arrays of references; g_sl: the String constants; g_zl: the statics (all of 01, 02) -/
abbrev gG : Type := va_G × (Nat → ClassId) × (ClassId → Prop) × (Nat → Nat)
def gK (G : gG) (U : State) : Prop := va_K G.1 g_cl (gTys G.2.1) U ∧ (∀ w ∈ g_nl, va_Nw w U) ∧ (∀ C ∈ g_al, va_AO C U) ∧ (∀ q ∈ g_sl, vk_R q.1 q.2.1 q.2.2.1 (G.2.2.2 q.2.2.2) U) ∧ ∀ cA, G.2.2.1 cA → fT U cA .byte
theorem gNw.warm {w : Cond} (hn : gNb w = true) {s U : State} (hW : s.WarmedH U.vm) (h : va_Nw w s) : va_Nw w U := by
  cases w <;> first | exact va_Nw.warmF hW h | exact va_Nw.warmM hW h | (simp [gNb] at hn; done)
theorem gNw.same {w : Cond} (hn : gNb w = true) {u U : State} (hv : u.vm = U.vm) (h : va_Nw w u) : va_Nw w U := by
  cases w <;> first | exact va_Nw.same rfl hv h | (simp [gNb] at hn; done)
theorem gK.warm {G : gG} {s U : State} (hW : s.WarmedH U.vm) (h : gK G s) : gK G U :=
  ⟨va_K.moved hW.alike h.1, fun w hw => gNw.warm (List.all_eq_true.mp g_nl_ok w hw) hW (h.2.1 w hw), fun C hC => va_AO.moved hW.alike (h.2.2.1 C hC), fun q hq => (h.2.2.2.1 q hq).warm hW, fun cA hA => (h.2.2.2.2 cA hA).moved hW.alike⟩
theorem gK.same {G : gG} {s U : State} (hv : s.vm = U.vm) (h : gK G s) : gK G U := by
  have ha : s.vm.Alike U.vm := by rw [hv]; exact Vm.Alike.refl _
  exact ⟨va_K.moved ha h.1, fun w hw => gNw.same (List.all_eq_true.mp g_nl_ok w hw) hv (h.2.1 w hw), fun C hC => va_AO.moved ha (h.2.2.1 C hC), fun q hq => (h.2.2.2.1 q hq).same hv.symm, fun cA hA => (h.2.2.2.2 cA hA).moved ha⟩
def gZ (A : Nat → Prop) (U : State) (H : Heap) : Prop := ∀ z ∈ g_zl, va_Z z.1 z.2.1 z.2.2.1 z.2.2.2 A U H
def gPre (G : gG) (h : fH) (sz : Nat) (U : State) : Prop := U.heap.size = sz ∧ fP G.1 g_cl h U.heap ∧ gK G U ∧ gZ (fA h sz) U U.heap
theorem gPre.blind {G : gG} {h : fH} {sz : Nat} {av : List Value} : FrameBlind (va_Pc av (gPre G h sz)) := by
  intro a U g mk ⟨q0, q1, q2, q3, q4⟩
  exact ⟨q0, q1, q2, gK.same (s := U) (U := U.calling g mk a) rfl q3, fun z hz => (q4 z hz).moved (u := U) (U := U.calling g mk a) (Vm.Alike.refl U.vm)⟩
/-- what is known in a method's body -/
def gC (G : gG) (p : Program) (s : State) (m : MethodId) (args : Array Value) (meth : Method) (c : Code) (A : Nat → Prop) (cc : ByteArray) (maxL : Nat) (own nm : String) : Prop :=
  p.tables.exec = Jvm.exec ∧ c.code = cc ∧ c.maxLocals = maxL ∧ s.vm.findClass own = some m.cls ∧ meth.name = nm ∧ meth.locks = false ∧ (∀ w ∈ g_T, w.before args s = true) ∧ gK G s ∧ gZ A s s.heap
/-- the contracts: an int (boolean, char ..), a long, nothing, a reference -/
abbrev cQi (G : gG) (h : fH) (sz : Nat) (post : Int32 → fH → Prop) : Array Value → State → Outcome → State → Prop := va_Qi (fun r h' => post r h' ∧ fX h sz h') (fun h' t => fP G.1 g_cl h' t.heap) (fA h sz)
abbrev cQl (G : gG) (h : fH) (sz : Nat) (post : Int64 → fH → Prop) : Array Value → State → Outcome → State → Prop := va_Ql (fun r h' => post r h' ∧ fX h sz h') (fun h' t => fP G.1 g_cl h' t.heap) (fA h sz)
abbrev cQv (G : gG) (h : fH) (sz : Nat) (post : fH → Prop) : Array Value → State → Outcome → State → Prop := va_Qv (fun h' => post h' ∧ fX h sz h') (fun h' t => fP G.1 g_cl h' t.heap) (fA h sz)
abbrev cQq (G : gG) (h : fH) (sz : Nat) (post : Option Nat → fH → Prop) : Array Value → State → Outcome → State → Prop := va_Qq (fun r h' => post r h' ∧ fX h sz h') (fun h' t => fP G.1 g_cl h' t.heap) (fA h sz)
abbrev cM (l : Launch) (y : MethodName) (cc : ByteArray) (maxL : Nat) (ret : Option FieldType) (rm : Room) (G : gG) (av : List Value) (h : fH) (sz : Nat) (Qc : Array Value → State → Outcome → State → Prop) : Prop :=
  Met l y (.code y cc maxL ret :: g_T) rm (va_Pc av (gPre G h sz)) Qc rm.cells rm.slots (fA h sz)
theorem f_start {l : Launch} {y : MethodName} {cc : ByteArray} {maxL : Nat} {ret : Option FieldType} {rm : Room} {G : gG} {av : List Value} {h : fH} {sz : Nat} {Qc : Array Value → State → Outcome → State → Prop} (hy : plainName y.cls = true) (hlen : (lg_sl av).length ≤ maxL)
    (body : ∀ (p : Program) (e : Env) (s : State) (m : MethodId) (below : List Frame) (meth : Method) (c : Code) (ls : Array Slot), gC G p s m av.toArray meth c (fA h sz) cc maxL y.cls y.name → meth.sig.returnType = ret → s.heap.size = sz → fI G.1 g_cl (fA h sz) s.heap h s.heap [] → lv_has ls maxL (lv_args 0 av) →
      W p l e rm s m av.toArray below meth c s.heap [] 0 0 (MQ below Qc av.toArray s rm.cells rm.slots (fA h sz)) (F0 m 0 ls [])) : cM l y cc maxL ret rm G av h sz Qc := by
  refine Met.ofW (cc := cc) (maxL := maxL) (ret := ret) hy rfl ?_
  intro p e s m args below meth c s₁ B hml hv
  obtain ⟨rfl, hsz, hP, hK, hZ⟩ := hv
  have hts := atoms_spec (ws := .code y cc maxL ret :: g_T) B.pre
  have hl := lv_entry av (n := maxL) hlen
  rw [lg_entry_eq]
  exact body p e s m below meth c _ ⟨B.exec, B.bytes, hml, findClass_of_methodNamed B.named, (name_of_methodNamed B.named B.method).1, B.notSynchronized, fun w hw => hts w (List.mem_cons_of_mem _ hw), hK, hZ⟩ B.returns hsz
    ⟨hP, fun a c ha hc => Or.inl ⟨c, ha, hc⟩, fun q hq => Or.inr (by omega), va_S.rf⟩ hl
/-- a method that is called -/
def gM (y : MethodName) (bytes : ByteArray) (maxL : Nat) (ret : Option FieldType) (n : Nat) : Prop := Cond.code y bytes maxL ret ∈ g_T ∧ Cond.initialized y.cls ∈ g_T ∧ (y.cls ≠ "java/lang/invoke/MethodHandle" ∧ y.cls ≠ "java/lang/invoke/VarHandle") ∧ (parseMethodDescriptor y.desc).map (fun d => d.parameters.length) = some n
section FC
variable {p : Program} {l : Launch} {e : Env} {R : Room} {s : State} {m : MethodId} {args : Array Value} {below : List Frame} {meth : Method} {c : Code} {H : Heap} {locs : List Loc} {cells slots : Nat} {Q : State → Prop}
variable {cc bytes : ByteArray} {pc nL maxL n index : Nat} {ls : Array Slot} {rest As st0 : List Value} {A : Nat → Prop} {a r o ci : Nat} {h : fH} {G : gG} {own nm : String} {y : MethodName} {rm : Room} {ret : Option FieldType} {Qc : Array Value → State → Outcome → State → Prop}
theorem f_len {sig : MethodDescriptor} (hd : (parseMethodDescriptor y.desc).map (fun d => d.parameters.length) = some n) (hs : parseMethodDescriptor y.desc = some sig) : n = sig.parameters.length := by
  rw [hs] at hd
  exact (Option.some.inj hd).symm
theorem f_free (hI : fI G.1 g_cl A s.heap h H locs) : ∀ q, fA h H.size q → A q := by
  intro q hq
  rcases hq with ⟨c, h1, h2⟩ | hq
  · exact hI.2.1 q c h1 h2
  · exact hI.2.2.1 q (Nat.le_trans hI.2.2.2.1 hq)
theorem f_pre (hC : gC G p s m args meth c A cc nL own nm) (hI : fI G.1 g_cl A s.heap h H locs) (av : List Value) : ∀ U : State, U.heap = H → s.WarmedH U.vm → va_Pc av (gPre G h H.size) av.toArray U := by
  intro U hU hW
  refine ⟨rfl, by rw [hU], by rw [hU]; exact hI.1, gK.warm hW hC.2.2.2.2.2.2.2.1, fun z hz => ?_⟩
  rw [hU]
  exact (((hC.2.2.2.2.2.2.2.2 z hz).kept hI.2.2.2.2.1).narrow (f_free hI)).moved hW.alike
theorem f_callB (hC : gC G p s m args meth c A cc nL own nm) (gm : gM y bytes maxL ret n) (hl : Cond.methodLink own index y ∈ g_T) (hR : rm.frames + 1 ≤ R.frames ∧ 8 + (maxL + 11) + rm.locals ≤ R.locals) : CallB R s args own index y bytes maxL ret (.code y bytes maxL ret :: g_T) rm rm.cells rm.slots n := by
  obtain ⟨h1, h2, h3, h4⟩ := gm
  have hT := hC.2.2.2.2.2.2.1
  have hp : ∀ w ∈ (Cond.code y bytes maxL ret :: g_T), w ∈ g_T := fun w hw => by
    rcases List.mem_cons.mp hw with q | q
    · rw [q]; exact h1
    · exact q
  exact ⟨rfl, rfl, hR.1, hR.2, fun w hw a' U hW => word_at hW (g_T_good w (hp w hw)) (hT w (hp w hw)), List.mem_cons_self, hT _ h1, hT _ h2, h3, fun sig hs => f_len h4 hs, hT _ hl⟩
theorem f_callN {host : String} (hC : gC G p s m args meth c A cc nL own nm) (gm : gM y bytes maxL ret n) (hl : Cond.methodLinkNest own index y host ∈ g_nl) (hR : rm.frames + 1 ≤ R.frames ∧ 8 + (maxL + 11) + rm.locals ≤ R.locals) : va_CN R s args own index y host bytes maxL ret (.code y bytes maxL ret :: g_T) rm rm.cells rm.slots n := by
  obtain ⟨h1, h2, h3, h4⟩ := gm
  have hT := hC.2.2.2.2.2.2.1
  have hp : ∀ w ∈ (Cond.code y bytes maxL ret :: g_T), w ∈ g_T := fun w hw => by
    rcases List.mem_cons.mp hw with q | q
    · rw [q]; exact h1
    · exact q
  exact ⟨⟨rfl, rfl, hR.1, hR.2, fun w hw a' U hW => word_at hW (g_T_good w (hp w hw)) (hT w (hp w hw)), List.mem_cons_self⟩, hT _ h1, hT _ h2, h3, fun sig hs => f_len h4 hs, va_Nw.use rfl (hC.2.2.2.2.2.2.2.1.2.1 _ hl)⟩
theorem f_recv (hC : gC G p s m args meth c A cc nL own nm) (hI : fI G.1 g_cl A s.heap h H locs) {fs : List Value} {q : vw_C} (he : h a = some (r, o, .inr (ci, fs))) (hq : g_cl[ci]? = some q) : ∃ cell : Cell, H[a]? = some cell ∧ cell.vm.isStatics = false ∧ s.vm.findClass q.1 = some cell.cls := by
  obtain ⟨r', cell, h1, q1, q2, q3, q5, q4⟩ := (hI.1 a _ he).1
  exact ⟨cell, q1, q5, by rw [q2]; exact (hC.2.2.2.2.2.2.2.1.1.1 ci q hq).2.1⟩
/-- invokevirtual, of the receiver's own class -/
theorem f_runV (hC : gC G p s m args meth c A cc nL own nm) (hI : fI G.1 g_cl A s.heap h H locs) (hM : cM l y bytes maxL ret rm G (.ref a :: As) h H.size Qc) (gm : gM y bytes maxL ret n) (hi : Cond.instanceMethod y ∈ g_T) (hs : Cond.selects y.cls y y ∈ g_T) (hl : Cond.methodLink own index y ∈ g_T) {fs : List Value} {q : vw_C} (he : h a = some (r, o, .inr (ci, fs))) (hq : g_cl[ci]? = some q) (hqc : q.1 = y.cls)
    (hn : As.length = n) (hsize : ls.size = nL) (hstack : st0 = As.reverse ++ .ref a :: rest) (hW : (rest.map fun v => v.category).sum ≤ 8) (hR : rm.frames + 1 ≤ R.frames ∧ 8 + (maxL + 11) + rm.locals ≤ R.locals) (hdg : decode cc pc = .ok (.invokevirtual index, 3)) (hf : cells + rm.cells ≤ R.cells ∧ slots + rm.slots ≤ R.slots) :
    va_Run p l e R s m args below meth c H locs cells slots rm.cells rm.slots (F0 m pc ls st0) rest (Qc (Value.ref a :: As).toArray) (fA h H.size) :=
  va_runV (C := y.cls) ⟨hC.1, hC.2.1, hC.2.2.1, hC.2.2.2.1, hC.2.2.2.2.2.2.1⟩ hM ⟨f_callB hC gm hl hR, hC.2.2.2.2.2.2.1 _ hi, hC.2.2.2.2.2.2.1 _ hs⟩ ⟨gPre.blind, by rw [← hqc]; exact f_recv hC hI he hq, f_pre hC hI _⟩ rfl hn hsize hstack (lv_room hW) hdg hf
theorem f_runVN {host : String} (hC : gC G p s m args meth c A cc nL own nm) (hI : fI G.1 g_cl A s.heap h H locs) (hM : cM l y bytes maxL ret rm G (.ref a :: As) h H.size Qc) (gm : gM y bytes maxL ret n) (hi : Cond.instanceMethod y ∈ g_T) (hs : Cond.selects y.cls y y ∈ g_T) (hl : Cond.methodLinkNest own index y host ∈ g_nl) {fs : List Value} {q : vw_C} (he : h a = some (r, o, .inr (ci, fs))) (hq : g_cl[ci]? = some q) (hqc : q.1 = y.cls)
    (hn : As.length = n) (hsize : ls.size = nL) (hstack : st0 = As.reverse ++ .ref a :: rest) (hW : (rest.map fun v => v.category).sum ≤ 8) (hR : rm.frames + 1 ≤ R.frames ∧ 8 + (maxL + 11) + rm.locals ≤ R.locals) (hdg : decode cc pc = .ok (.invokevirtual index, 3)) (hf : cells + rm.cells ≤ R.cells ∧ slots + rm.slots ≤ R.slots) :
    va_Run p l e R s m args below meth c H locs cells slots rm.cells rm.slots (F0 m pc ls st0) rest (Qc (Value.ref a :: As).toArray) (fA h H.size) :=
  va_runVN (C := y.cls) ⟨hC.1, hC.2.1, hC.2.2.1, hC.2.2.2.1, hC.2.2.2.2.2.2.1⟩ hM ⟨f_callN hC gm hl hR, hC.2.2.2.2.2.2.1 _ hi, hC.2.2.2.2.2.2.1 _ hs⟩ ⟨gPre.blind, by rw [← hqc]; exact f_recv hC hI he hq, f_pre hC hI _⟩ rfl hn hsize hstack (lv_room hW) hdg hf
theorem f_runS (hC : gC G p s m args meth c A cc nL own nm) (hI : fI G.1 g_cl A s.heap h H locs) (hM : cM l y bytes maxL ret rm G As h H.size Qc) (gm : gM y bytes maxL ret n) (hi : Cond.static y ∈ g_T) (hl : Cond.methodLink own index y ∈ g_T)
    (hn : As.length = n) (hsize : ls.size = nL) (hstack : st0 = As.reverse ++ rest) (hW : (rest.map fun v => v.category).sum ≤ 8) (hR : rm.frames + 1 ≤ R.frames ∧ 8 + (maxL + 11) + rm.locals ≤ R.locals) (hdg : decode cc pc = .ok (.invokestatic index, 3)) (hf : cells + rm.cells ≤ R.cells ∧ slots + rm.slots ≤ R.slots) :
    va_Run p l e R s m args below meth c H locs cells slots rm.cells rm.slots (F0 m pc ls st0) rest (Qc As.toArray) (fA h H.size) :=
  va_runS ⟨hC.1, hC.2.1, hC.2.2.1, hC.2.2.2.1, hC.2.2.2.2.2.2.1⟩ hM ⟨f_callB hC gm hl hR, hC.2.2.2.2.2.2.1 _ hi⟩ ⟨gPre.blind, f_pre hC hI _⟩ rfl hn hsize hstack (lv_room hW) hdg hf
theorem f_runSN {host : String} (hC : gC G p s m args meth c A cc nL own nm) (hI : fI G.1 g_cl A s.heap h H locs) (hM : cM l y bytes maxL ret rm G As h H.size Qc) (gm : gM y bytes maxL ret n) (hi : Cond.static y ∈ g_T) (hl : Cond.methodLinkNest own index y host ∈ g_nl)
    (hn : As.length = n) (hsize : ls.size = nL) (hstack : st0 = As.reverse ++ rest) (hW : (rest.map fun v => v.category).sum ≤ 8) (hR : rm.frames + 1 ≤ R.frames ∧ 8 + (maxL + 11) + rm.locals ≤ R.locals) (hdg : decode cc pc = .ok (.invokestatic index, 3)) (hf : cells + rm.cells ≤ R.cells ∧ slots + rm.slots ≤ R.slots) :
    va_Run p l e R s m args below meth c H locs cells slots rm.cells rm.slots (F0 m pc ls st0) rest (Qc As.toArray) (fA h H.size) :=
  va_runSN ⟨hC.1, hC.2.1, hC.2.2.1, hC.2.2.2.1, hC.2.2.2.2.2.2.1⟩ hM ⟨f_callN hC gm hl hR, hC.2.2.2.2.2.2.1 _ hi, trivial⟩ ⟨gPre.blind, f_pre hC hI _⟩ rfl hn hsize hstack (lv_room hW) hdg hf
theorem f_runI (hC : gC G p s m args meth c A cc nL own nm) (hI : fI G.1 g_cl A s.heap h H locs) (hM : cM l y bytes maxL none rm G (.ref a :: As) h H.size Qc) (gm : gM y bytes maxL none n) (hi : Cond.instanceMethod y ∈ g_T) (hy1 : y.name = "<init>") (hl : Cond.methodLink own index y ∈ g_T)
    (hn : As.length = n) (hsize : ls.size = nL) (hstack : st0 = As.reverse ++ .ref a :: rest) (hW : (rest.map fun v => v.category).sum ≤ 8) (hR : rm.frames + 1 ≤ R.frames ∧ 8 + (maxL + 11) + rm.locals ≤ R.locals) (hdg : decode cc pc = .ok (.invokespecial index, 3)) (hf : cells + rm.cells ≤ R.cells ∧ slots + rm.slots ≤ R.slots) :
    va_Run p l e R s m args below meth c H locs cells slots rm.cells rm.slots (F0 m pc ls st0) rest (Qc (Value.ref a :: As).toArray) (fA h H.size) :=
  va_runI ⟨hC.1, hC.2.1, hC.2.2.1, hC.2.2.2.1, hC.2.2.2.2.2.2.1⟩ hM ⟨f_callB hC gm hl hR, hy1, hC.2.2.2.2.2.2.1 _ hi⟩ ⟨gPre.blind, f_pre hC hI _⟩ rfl hn hsize hstack (lv_room hW) hdg hf
theorem f_runIN {host : String} (hC : gC G p s m args meth c A cc nL own nm) (hI : fI G.1 g_cl A s.heap h H locs) (hM : cM l y bytes maxL none rm G (.ref a :: As) h H.size Qc) (gm : gM y bytes maxL none n) (hi : Cond.instanceMethod y ∈ g_T) (hy1 : y.name = "<init>") (hl : Cond.methodLinkNest own index y host ∈ g_nl)
    (hn : As.length = n) (hsize : ls.size = nL) (hstack : st0 = As.reverse ++ .ref a :: rest) (hW : (rest.map fun v => v.category).sum ≤ 8) (hR : rm.frames + 1 ≤ R.frames ∧ 8 + (maxL + 11) + rm.locals ≤ R.locals) (hdg : decode cc pc = .ok (.invokespecial index, 3)) (hf : cells + rm.cells ≤ R.cells ∧ slots + rm.slots ≤ R.slots) :
    va_Run p l e R s m args below meth c H locs cells slots rm.cells rm.slots (F0 m pc ls st0) rest (Qc (Value.ref a :: As).toArray) (fA h H.size) :=
  va_runIN ⟨hC.1, hC.2.1, hC.2.2.1, hC.2.2.2.1, hC.2.2.2.2.2.2.1⟩ hM ⟨f_callN hC gm hl hR, hy1, hC.2.2.2.2.2.2.1 _ hi⟩ ⟨gPre.blind, f_pre hC hI _⟩ rfl hn hsize hstack (lv_room hW) hdg hf
theorem f_dom (hI : fI G.1 g_cl A s.heap h H locs) {h' : fH} (hX : fX h H.size h') : ∀ (a : Nat) (c : fC), h' a = some c → c.1 ≠ 0 → A a := by
  intro a c ha hc
  rcases hX.2.2 a c ha with ⟨c', h1, h2⟩ | h1
  · exact hI.2.1 a c' h1 (by rw [h2]; exact hc)
  · exact hI.2.2.1 a (Nat.le_trans hI.2.2.2.1 h1)
variable {mc ms : Nat} {av : Array Value}
theorem f_calli {post : Int32 → fH → Prop} (hI : fI G.1 g_cl A s.heap h H locs) (hr : va_Run p l e R s m args below meth c H locs cells slots mc ms (F0 m pc ls st0) rest (cQi G h H.size post av) (fA h H.size))
    (kk : ∀ (r : Int32) (h' : fH) (H1 : Heap) (locs : List Loc), post r h' → fX h H.size h' → H.size ≤ H1.size → fI G.1 g_cl A s.heap h' H1 locs → W p l e R s m args below meth c H1 locs (cells + mc) (slots + ms) Q (F0 m (pc + 3) ls (.int r :: rest))) : W p l e R s m args below meth c H locs cells slots Q (F0 m pc ls st0) :=
  va_calli hr hI.2.2.2 (fun q _ hq => f_free hI q hq) (f_free hI) (fun r h' t H1 locs1 ht _ hp hB hz _ hS => kk r h' H1 locs1 hp.1 hp.2 hz ⟨by rw [← ht]; exact hB, f_dom hI hp.2, hI.2.2.1, hS⟩)
theorem f_calll {post : Int64 → fH → Prop} (hI : fI G.1 g_cl A s.heap h H locs) (hr : va_Run p l e R s m args below meth c H locs cells slots mc ms (F0 m pc ls st0) rest (cQl G h H.size post av) (fA h H.size))
    (kk : ∀ (r : Int64) (h' : fH) (H1 : Heap) (locs : List Loc), post r h' → fX h H.size h' → H.size ≤ H1.size → fI G.1 g_cl A s.heap h' H1 locs → W p l e R s m args below meth c H1 locs (cells + mc) (slots + ms) Q (F0 m (pc + 3) ls (.long r :: rest))) : W p l e R s m args below meth c H locs cells slots Q (F0 m pc ls st0) :=
  va_calll hr hI.2.2.2 (fun q _ hq => f_free hI q hq) (f_free hI) (fun r h' t H1 locs1 ht _ hp hB hz _ hS => kk r h' H1 locs1 hp.1 hp.2 hz ⟨by rw [← ht]; exact hB, f_dom hI hp.2, hI.2.2.1, hS⟩)
theorem f_callv {post : fH → Prop} (hI : fI G.1 g_cl A s.heap h H locs) (hr : va_Run p l e R s m args below meth c H locs cells slots mc ms (F0 m pc ls st0) rest (cQv G h H.size post av) (fA h H.size))
    (kk : ∀ (h' : fH) (H1 : Heap) (locs : List Loc), post h' → fX h H.size h' → H.size ≤ H1.size → fI G.1 g_cl A s.heap h' H1 locs → W p l e R s m args below meth c H1 locs (cells + mc) (slots + ms) Q (F0 m (pc + 3) ls rest)) : W p l e R s m args below meth c H locs cells slots Q (F0 m pc ls st0) :=
  va_callv hr hI.2.2.2 (fun q _ hq => f_free hI q hq) (f_free hI) (fun h' t H1 locs1 ht _ hp hB hz _ hS => kk h' H1 locs1 hp.1 hp.2 hz ⟨by rw [← ht]; exact hB, f_dom hI hp.2, hI.2.2.1, hS⟩)
theorem f_callq {post : Option Nat → fH → Prop} (hI : fI G.1 g_cl A s.heap h H locs) (hr : va_Run p l e R s m args below meth c H locs cells slots mc ms (F0 m pc ls st0) rest (cQq G h H.size post av) (fA h H.size))
    (kk : ∀ (r : Option Nat) (h' : fH) (H1 : Heap) (locs : List Loc), post r h' → fX h H.size h' → H.size ≤ H1.size → fI G.1 g_cl A s.heap h' H1 locs → W p l e R s m args below meth c H1 locs (cells + mc) (slots + ms) Q (F0 m (pc + 3) ls (va_rf r :: rest))) : W p l e R s m args below meth c H locs cells slots Q (F0 m pc ls st0) :=
  va_callq hr hI.2.2.2 (fun q _ hq => f_free hI q hq) (f_free hI) (fun r h' t H1 locs1 ht _ hp hB hz _ hS => kk r h' H1 locs1 hp.1 hp.2 hz ⟨by rw [← ht]; exact hB, f_dom hI hp.2, hI.2.2.1, hS⟩)
variable {h0 : fH} {sz k k2 : Nat}
theorem f_iret {post : Int32 → fH → Prop} {v : Int32} (hC : gC G p s m args meth c (fA h0 sz) cc nL own nm) (hr : meth.sig.returnType = some .int) (hI : fI G.1 g_cl (fA h0 sz) s.heap h H locs) (hp : post v h) (hX : fX h0 sz h) (hk : cells ≤ k) (hk2 : slots ≤ k2) (hdg : decode cc pc = .ok (.ireturn, 1)) :
    W p l e R s m args below meth c H locs cells slots (MQ below (cQi G h0 sz post) args s k k2 (fA h0 sz)) (F0 m pc ls [.int v]) :=
  W.widen hk hk2 (W.iret hC.1 hC.2.1 hr (fun t ht _ => ⟨⟨v, h, rfl, ⟨hp, hX⟩, (by show fP _ _ _ t.heap; rw [ht]; exact hI.1)⟩, hI.2.2.2.F ht⟩) hI.2.2.2.2.2 hdg hC.2.2.2.2.2.1)
theorem f_zret {post : Int32 → fH → Prop} {v : Int32} {ty : FieldType} (hC : gC G p s m args meth c (fA h0 sz) cc nL own nm) (hr : meth.sig.returnType = some ty) (hn : narrow ty (.int v) = .int v) (hI : fI G.1 g_cl (fA h0 sz) s.heap h H locs) (hp : post v h) (hX : fX h0 sz h) (hk : cells ≤ k) (hk2 : slots ≤ k2) (hdg : decode cc pc = .ok (.ireturn, 1)) :
    W p l e R s m args below meth c H locs cells slots (MQ below (cQi G h0 sz post) args s k k2 (fA h0 sz)) (F0 m pc ls [.int v]) :=
  W.widen hk hk2 (W.zret hC.1 hC.2.1 hr hn (fun t ht _ => ⟨⟨v, h, rfl, ⟨hp, hX⟩, (by show fP _ _ _ t.heap; rw [ht]; exact hI.1)⟩, hI.2.2.2.F ht⟩) hI.2.2.2.2.2 hdg hC.2.2.2.2.2.1)
theorem f_lret {post : Int64 → fH → Prop} {v : Int64} (hC : gC G p s m args meth c (fA h0 sz) cc nL own nm) (hr : meth.sig.returnType = some .long) (hI : fI G.1 g_cl (fA h0 sz) s.heap h H locs) (hp : post v h) (hX : fX h0 sz h) (hk : cells ≤ k) (hk2 : slots ≤ k2) (hdg : decode cc pc = .ok (.lreturn, 1)) :
    W p l e R s m args below meth c H locs cells slots (MQ below (cQl G h0 sz post) args s k k2 (fA h0 sz)) (F0 m pc ls [.long v]) :=
  W.widen hk hk2 (W.lret hC.1 hC.2.1 hr (fun t ht _ => ⟨⟨v, h, rfl, ⟨hp, hX⟩, (by show fP _ _ _ t.heap; rw [ht]; exact hI.1)⟩, hI.2.2.2.F ht⟩) hI.2.2.2.2.2 hdg hC.2.2.2.2.2.1)
theorem f_vret {post : fH → Prop} (hC : gC G p s m args meth c (fA h0 sz) cc nL own nm) (hr : meth.sig.returnType = none) (hI : fI G.1 g_cl (fA h0 sz) s.heap h H locs) (hp : post h) (hX : fX h0 sz h) (hk : cells ≤ k) (hk2 : slots ≤ k2) (hdg : decode cc pc = .ok (.return_, 1)) :
    W p l e R s m args below meth c H locs cells slots (MQ below (cQv G h0 sz post) args s k k2 (fA h0 sz)) (F0 m pc ls []) :=
  W.widen hk hk2 (W.vret hC.1 hC.2.1 hr (fun t ht _ => ⟨⟨h, rfl, ⟨hp, hX⟩, (by show fP _ _ _ t.heap; rw [ht]; exact hI.1)⟩, hI.2.2.2.F ht⟩) hI.2.2.2.2.2 hdg hC.2.2.2.2.2.1)
theorem f_aret {post : Option Nat → fH → Prop} {v : Option Nat} {rt : FieldType} (hC : gC G p s m args meth c (fA h0 sz) cc nL own nm) (hr : meth.sig.returnType = some rt) (hrt : (∃ n, rt = .object n) ∨ ∃ t, rt = .array t) (hI : fI G.1 g_cl (fA h0 sz) s.heap h H locs) (hp : post v h) (hX : fX h0 sz h) (hk : cells ≤ k) (hk2 : slots ≤ k2) (hdg : decode cc pc = .ok (.areturn, 1)) :
    W p l e R s m args below meth c H locs cells slots (MQ below (cQq G h0 sz post) args s k k2 (fA h0 sz)) (F0 m pc ls [va_rf v]) :=
  W.widen hk hk2 (W.aret hC.1 hC.2.1 hr hrt (va_rf_or v) (fun t ht _ => ⟨⟨v, h, rfl, ⟨hp, hX⟩, (by show fP _ _ _ t.heap; rw [ht]; exact hI.1)⟩, hI.2.2.2.F ht⟩) hI.2.2.2.2.2 hdg hC.2.2.2.2.2.1)
end FC
end
