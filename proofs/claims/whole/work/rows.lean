section
-- ===== PART A: goes FIRST, ahead of the names: the tables' words, and 'selects' of the private methods out of them =====
/-- a private method of a class that the tables say can be made, by its rows of tables_1 -/
def lw_okq (q : MethodName × Nat) : Prop := (q.1.cls ≠ "java/lang/invoke/MethodHandle" ∧ q.1.cls ≠ "java/lang/invoke/VarHandle") ∧ Cond.instantiable q.1.cls q.2 ∈ tables_1 ∧ Cond.privateMethod q.1 ∈ tables_1 ∧ Cond.instanceMethod q.1 ∈ tables_1
theorem lw_p0 : lw_okq (⟨"DutyRules$Facts", "newestOf", "(II)LDutyRules$Fact;"⟩, 3) := ⟨⟨by decide +kernel, by decide +kernel⟩, List.mem_of_getElem? (i := 83) (by decide +kernel), List.mem_of_getElem? (i := 611) (by decide +kernel), List.mem_of_getElem? (i := 612) (by decide +kernel)⟩
theorem lw_p1 : lw_okq (⟨"DutyRules$Duty", "reasonToBeOpen", "(LDutyRules$Rules;)I"⟩, 9) := ⟨⟨by decide +kernel, by decide +kernel⟩, List.mem_of_getElem? (i := 102) (by decide +kernel), List.mem_of_getElem? (i := 635) (by decide +kernel), List.mem_of_getElem? (i := 636) (by decide +kernel)⟩
theorem lw_p2 : lw_okq (⟨"DutyRules$Duty", "doSteps", "(LDutyRules$Rules;)V"⟩, 9) := ⟨⟨by decide +kernel, by decide +kernel⟩, List.mem_of_getElem? (i := 102) (by decide +kernel), List.mem_of_getElem? (i := 647) (by decide +kernel), List.mem_of_getElem? (i := 648) (by decide +kernel)⟩
theorem lw_p3 : lw_okq (⟨"DutyRules$Duty", "addStep", "(II)V"⟩, 9) := ⟨⟨by decide +kernel, by decide +kernel⟩, List.mem_of_getElem? (i := 102) (by decide +kernel), List.mem_of_getElem? (i := 654) (by decide +kernel), List.mem_of_getElem? (i := 655) (by decide +kernel)⟩
theorem lw_p4 : lw_okq (⟨"DutyRules$Duty", "freeLost", "(LDutyRules$Rules;J)V"⟩, 9) := ⟨⟨by decide +kernel, by decide +kernel⟩, List.mem_of_getElem? (i := 102) (by decide +kernel), List.mem_of_getElem? (i := 659) (by decide +kernel), List.mem_of_getElem? (i := 660) (by decide +kernel)⟩
theorem lw_p5 : lw_okq (⟨"DutyRules$Duty", "lessenByAway", "(LDutyRules$Rules;J)V"⟩, 9) := ⟨⟨by decide +kernel, by decide +kernel⟩, List.mem_of_getElem? (i := 102) (by decide +kernel), List.mem_of_getElem? (i := 666) (by decide +kernel), List.mem_of_getElem? (i := 667) (by decide +kernel)⟩
theorem lw_p6 : lw_okq (⟨"DutyRules$Duty", "lessenForSmall", "(LDutyRules$Rules;)V"⟩, 9) := ⟨⟨by decide +kernel, by decide +kernel⟩, List.mem_of_getElem? (i := 102) (by decide +kernel), List.mem_of_getElem? (i := 670) (by decide +kernel), List.mem_of_getElem? (i := 671) (by decide +kernel)⟩
theorem lw_p7 : lw_okq (⟨"DutyRules$Duty", "roundToMultiple", "(LDutyRules$Rules;)V"⟩, 9) := ⟨⟨by decide +kernel, by decide +kernel⟩, List.mem_of_getElem? (i := 102) (by decide +kernel), List.mem_of_getElem? (i := 674) (by decide +kernel), List.mem_of_getElem? (i := 675) (by decide +kernel)⟩
theorem lw_p8 : lw_okq (⟨"DutyRules", "returnOf", "(I)LDutyRules$Return;"⟩, 10) := ⟨⟨by decide +kernel, by decide +kernel⟩, List.mem_of_getElem? (i := 23) (by decide +kernel), List.mem_of_getElem? (i := 713) (by decide +kernel), List.mem_of_getElem? (i := 714) (by decide +kernel)⟩
theorem lw_p9 : lw_okq (⟨"DutyRules", "centsOf", "(III)J"⟩, 10) := ⟨⟨by decide +kernel, by decide +kernel⟩, List.mem_of_getElem? (i := 23) (by decide +kernel), List.mem_of_getElem? (i := 748) (by decide +kernel), List.mem_of_getElem? (i := 749) (by decide +kernel)⟩
theorem lw_p10 : lw_okq (⟨"DutyRules", "lateShare", "(I)J"⟩, 10) := ⟨⟨by decide +kernel, by decide +kernel⟩, List.mem_of_getElem? (i := 23) (by decide +kernel), List.mem_of_getElem? (i := 796) (by decide +kernel), List.mem_of_getElem? (i := 797) (by decide +kernel)⟩
theorem lw_p11 : lw_okq (⟨"DutyRulesModel", "next", "()V"⟩, 40) := ⟨⟨by decide +kernel, by decide +kernel⟩, List.mem_of_getElem? (i := 803) (by decide +kernel), List.mem_of_getElem? (i := 939) (by decide +kernel), List.mem_of_getElem? (i := 940) (by decide +kernel)⟩
theorem lw_p12 : lw_okq (⟨"DutyRulesModel", "rule", "(I)Z"⟩, 40) := ⟨⟨by decide +kernel, by decide +kernel⟩, List.mem_of_getElem? (i := 803) (by decide +kernel), List.mem_of_getElem? (i := 946) (by decide +kernel), List.mem_of_getElem? (i := 947) (by decide +kernel)⟩
theorem lw_p13 : lw_okq (⟨"DutyRulesModel", "is", "(I)Z"⟩, 40) := ⟨⟨by decide +kernel, by decide +kernel⟩, List.mem_of_getElem? (i := 803) (by decide +kernel), List.mem_of_getElem? (i := 950) (by decide +kernel), List.mem_of_getElem? (i := 951) (by decide +kernel)⟩
theorem lw_p14 : lw_okq (⟨"DutyRulesModel", "number", "(I)I"⟩, 40) := ⟨⟨by decide +kernel, by decide +kernel⟩, List.mem_of_getElem? (i := 803) (by decide +kernel), List.mem_of_getElem? (i := 967) (by decide +kernel), List.mem_of_getElem? (i := 968) (by decide +kernel)⟩
theorem lw_p15 : lw_okq (⟨"DutyRulesModel", "say", "(I)V"⟩, 40) := ⟨⟨by decide +kernel, by decide +kernel⟩, List.mem_of_getElem? (i := 803) (by decide +kernel), List.mem_of_getElem? (i := 980) (by decide +kernel), List.mem_of_getElem? (i := 981) (by decide +kernel)⟩
def lw_privs_1 : List (MethodName × Nat) := [(⟨"DutyRules$Facts", "newestOf", "(II)LDutyRules$Fact;"⟩, 3), (⟨"DutyRules$Duty", "reasonToBeOpen", "(LDutyRules$Rules;)I"⟩, 9), (⟨"DutyRules$Duty", "doSteps", "(LDutyRules$Rules;)V"⟩, 9), (⟨"DutyRules$Duty", "addStep", "(II)V"⟩, 9), (⟨"DutyRules$Duty", "freeLost", "(LDutyRules$Rules;J)V"⟩, 9), (⟨"DutyRules$Duty", "lessenByAway", "(LDutyRules$Rules;J)V"⟩, 9), (⟨"DutyRules$Duty", "lessenForSmall", "(LDutyRules$Rules;)V"⟩, 9), (⟨"DutyRules$Duty", "roundToMultiple", "(LDutyRules$Rules;)V"⟩, 9), (⟨"DutyRules", "returnOf", "(I)LDutyRules$Return;"⟩, 10), (⟨"DutyRules", "centsOf", "(III)J"⟩, 10), (⟨"DutyRules", "lateShare", "(I)J"⟩, 10), (⟨"DutyRulesModel", "next", "()V"⟩, 40), (⟨"DutyRulesModel", "rule", "(I)Z"⟩, 40), (⟨"DutyRulesModel", "is", "(I)Z"⟩, 40), (⟨"DutyRulesModel", "number", "(I)I"⟩, 40), (⟨"DutyRulesModel", "say", "(I)V"⟩, 40)]
theorem lw_r1 : ∀ q ∈ lw_privs_1, lw_okq q := List.forall_mem_cons.mpr ⟨lw_p0, List.forall_mem_cons.mpr ⟨lw_p1, List.forall_mem_cons.mpr ⟨lw_p2, List.forall_mem_cons.mpr ⟨lw_p3, List.forall_mem_cons.mpr ⟨lw_p4, List.forall_mem_cons.mpr ⟨lw_p5, List.forall_mem_cons.mpr ⟨lw_p6, List.forall_mem_cons.mpr ⟨lw_p7, List.forall_mem_cons.mpr ⟨lw_p8, List.forall_mem_cons.mpr ⟨lw_p9, List.forall_mem_cons.mpr ⟨lw_p10, List.forall_mem_cons.mpr ⟨lw_p11, List.forall_mem_cons.mpr ⟨lw_p12, List.forall_mem_cons.mpr ⟨lw_p13, List.forall_mem_cons.mpr ⟨lw_p14, List.forall_mem_cons.mpr ⟨lw_p15, fun _ h => absurd h List.not_mem_nil⟩⟩⟩⟩⟩⟩⟩⟩⟩⟩⟩⟩⟩⟩⟩⟩
theorem lw_p16 : lw_okq (⟨"DutyRulesModel", "put", "(I)V"⟩, 40) := ⟨⟨by decide +kernel, by decide +kernel⟩, List.mem_of_getElem? (i := 803) (by decide +kernel), List.mem_of_getElem? (i := 984) (by decide +kernel), List.mem_of_getElem? (i := 985) (by decide +kernel)⟩
theorem lw_p17 : lw_okq (⟨"DutyRulesModel", "digits", "(I)V"⟩, 40) := ⟨⟨by decide +kernel, by decide +kernel⟩, List.mem_of_getElem? (i := 803) (by decide +kernel), List.mem_of_getElem? (i := 988) (by decide +kernel), List.mem_of_getElem? (i := 989) (by decide +kernel)⟩
theorem lw_p18 : lw_okq (⟨"DutyRulesModel", "reckon", "(IJJ)Z"⟩, 40) := ⟨⟨by decide +kernel, by decide +kernel⟩, List.mem_of_getElem? (i := 803) (by decide +kernel), List.mem_of_getElem? (i := 1019) (by decide +kernel), List.mem_of_getElem? (i := 1020) (by decide +kernel)⟩
theorem lw_p19 : lw_okq (⟨"DutyRulesModel", "editionOf", "(J)I"⟩, 40) := ⟨⟨by decide +kernel, by decide +kernel⟩, List.mem_of_getElem? (i := 803) (by decide +kernel), List.mem_of_getElem? (i := 1023) (by decide +kernel), List.mem_of_getElem? (i := 1024) (by decide +kernel)⟩
theorem lw_p20 : lw_okq (⟨"DutyRulesModel", "holds", "(IIJJ)I"⟩, 40) := ⟨⟨by decide +kernel, by decide +kernel⟩, List.mem_of_getElem? (i := 803) (by decide +kernel), List.mem_of_getElem? (i := 1027) (by decide +kernel), List.mem_of_getElem? (i := 1028) (by decide +kernel)⟩
theorem lw_p21 : lw_okq (⟨"DutyRulesModel", "find", "(IIJJ)I"⟩, 40) := ⟨⟨by decide +kernel, by decide +kernel⟩, List.mem_of_getElem? (i := 803) (by decide +kernel), List.mem_of_getElem? (i := 1031) (by decide +kernel), List.mem_of_getElem? (i := 1032) (by decide +kernel)⟩
theorem lw_p22 : lw_okq (⟨"DutyRulesModel", "value", "(III)I"⟩, 40) := ⟨⟨by decide +kernel, by decide +kernel⟩, List.mem_of_getElem? (i := 803) (by decide +kernel), List.mem_of_getElem? (i := 1035) (by decide +kernel), List.mem_of_getElem? (i := 1036) (by decide +kernel)⟩
theorem lw_p23 : lw_okq (⟨"DutyRulesModel", "step", "(II)V"⟩, 40) := ⟨⟨by decide +kernel, by decide +kernel⟩, List.mem_of_getElem? (i := 803) (by decide +kernel), List.mem_of_getElem? (i := 1039) (by decide +kernel), List.mem_of_getElem? (i := 1040) (by decide +kernel)⟩
theorem lw_p24 : lw_okq (⟨"DutyRulesModel", "hasLitres", "(II)Z"⟩, 40) := ⟨⟨by decide +kernel, by decide +kernel⟩, List.mem_of_getElem? (i := 803) (by decide +kernel), List.mem_of_getElem? (i := 1080) (by decide +kernel), List.mem_of_getElem? (i := 1081) (by decide +kernel)⟩
def lw_privs_2 : List (MethodName × Nat) := [(⟨"DutyRulesModel", "put", "(I)V"⟩, 40), (⟨"DutyRulesModel", "digits", "(I)V"⟩, 40), (⟨"DutyRulesModel", "reckon", "(IJJ)Z"⟩, 40), (⟨"DutyRulesModel", "editionOf", "(J)I"⟩, 40), (⟨"DutyRulesModel", "holds", "(IIJJ)I"⟩, 40), (⟨"DutyRulesModel", "find", "(IIJJ)I"⟩, 40), (⟨"DutyRulesModel", "value", "(III)I"⟩, 40), (⟨"DutyRulesModel", "step", "(II)V"⟩, 40), (⟨"DutyRulesModel", "hasLitres", "(II)Z"⟩, 40)]
theorem lw_r2 : ∀ q ∈ lw_privs_2, lw_okq q := List.forall_mem_cons.mpr ⟨lw_p16, List.forall_mem_cons.mpr ⟨lw_p17, List.forall_mem_cons.mpr ⟨lw_p18, List.forall_mem_cons.mpr ⟨lw_p19, List.forall_mem_cons.mpr ⟨lw_p20, List.forall_mem_cons.mpr ⟨lw_p21, List.forall_mem_cons.mpr ⟨lw_p22, List.forall_mem_cons.mpr ⟨lw_p23, List.forall_mem_cons.mpr ⟨lw_p24, fun _ h => absurd h List.not_mem_nil⟩⟩⟩⟩⟩⟩⟩⟩⟩
def lw_privs : List (MethodName × Nat) := lw_privs_1 ++ (lw_privs_2)
def lw_tbl : List Cond := k2_sels lw_privs ++ tables_1
theorem lw_privs_ok : ∀ q ∈ lw_privs, lw_okq q := by
  show ∀ q ∈ lw_privs_1 ++ (lw_privs_2), lw_okq q
  exact List.forall_mem_append.mpr ⟨lw_r1, lw_r2⟩
-- ===== the tables' words that stay =====
def g_T : List Cond := lw_tbl.filter goodWord
theorem g_T_good : ∀ w ∈ g_T, (w.onTables && w.keeps) = true ∨ ∃ ty, w = .arrayClass ty := fun w h => good_of_word (List.mem_filter.mp h).2
theorem gT_in (i : Nat) {w : Cond} (h : lw_tbl[i]? = some w) (hg : goodWord w = true) : w ∈ g_T := List.mem_filter.mpr ⟨List.mem_of_getElem? h, hg⟩
theorem gT_1 (i : Nat) {w : Cond} (h : tables_1_1[i]? = some w) (hg : goodWord w = true) : w ∈ g_T := List.mem_filter.mpr ⟨List.mem_append_right _ (List.mem_append_left _ (List.mem_of_getElem? h)), hg⟩
theorem gT_2 (i : Nat) {w : Cond} (h : tables_1_2[i]? = some w) (hg : goodWord w = true) : w ∈ g_T := List.mem_filter.mpr ⟨List.mem_append_right _ (List.mem_append_right _ (List.mem_append_left _ (List.mem_of_getElem? h))), hg⟩
theorem gT_3 (i : Nat) {w : Cond} (h : tables_1_3[i]? = some w) (hg : goodWord w = true) : w ∈ g_T := List.mem_filter.mpr ⟨List.mem_append_right _ (List.mem_append_right _ (List.mem_append_right _ (List.mem_append_left _ (List.mem_of_getElem? h)))), hg⟩
theorem gT_4 (i : Nat) {w : Cond} (h : tables_1_4[i]? = some w) (hg : goodWord w = true) : w ∈ g_T := List.mem_filter.mpr ⟨List.mem_append_right _ (List.mem_append_right _ (List.mem_append_right _ (List.mem_append_right _ (List.mem_append_left _ (List.mem_of_getElem? h))))), hg⟩
theorem gT_5 (i : Nat) {w : Cond} (h : tables_1_5[i]? = some w) (hg : goodWord w = true) : w ∈ g_T := List.mem_filter.mpr ⟨List.mem_append_right _ (List.mem_append_right _ (List.mem_append_right _ (List.mem_append_right _ (List.mem_append_right _ (List.mem_of_getElem? h))))), hg⟩
-- ===== names =====
abbrev b_DR_init : ByteArray := prog_1_method_1_code
abbrev y_DR_init : MethodName := ⟨"DutyRules", "<init>", "()V"⟩
abbrev b_OB_init : ByteArray := object_method_1_code
abbrev y_OB_init : MethodName := ⟨"java/lang/Object", "<init>", "()V"⟩
abbrev b_SB_init : ByteArray := prog_17_method_1_code
abbrev y_SB_init : MethodName := ⟨"java/lang/StringBuilder", "<init>", "()V"⟩
abbrev b_AB_init : ByteArray := prog_12_method_2_code
abbrev y_AB_init : MethodName := ⟨"java/lang/AbstractStringBuilder", "<init>", "(I)V"⟩
abbrev b_U6_newBytesFor : ByteArray := prog_19_method_2_code
abbrev y_U6_newBytesFor : MethodName := ⟨"java/lang/StringUTF16", "newBytesFor", "(I)[B"⟩
abbrev b_U6_newBytesLength : ByteArray := prog_19_method_3_code
abbrev y_U6_newBytesLength : MethodName := ⟨"java/lang/StringUTF16", "newBytesLength", "(I)I"⟩
abbrev b_ED_init : ByteArray := prog_3_method_1_code
abbrev y_ED_init : MethodName := ⟨"DutyRules$Editions", "<init>", "()V"⟩
abbrev b_FS_init : ByteArray := prog_5_method_1_code
abbrev y_FS_init : MethodName := ⟨"DutyRules$Facts", "<init>", "()V"⟩
abbrev b_DU_init : ByteArray := prog_2_method_1_code
abbrev y_DU_init : MethodName := ⟨"DutyRules$Duty", "<init>", "()V"⟩
abbrev b_RU_init : ByteArray := prog_8_method_1_code
abbrev y_RU_init : MethodName := ⟨"DutyRules$Rules", "<init>", "()V"⟩
abbrev b_DR_unit : ByteArray := prog_1_method_2_code
abbrev y_DR_unit : MethodName := ⟨"DutyRules", "unit", "(I)Z"⟩
abbrev b_SB_length : ByteArray := prog_17_method_93_code
abbrev y_SB_length : MethodName := ⟨"java/lang/StringBuilder", "length", "()I"⟩
abbrev b_AB_length : ByteArray := prog_12_method_6_code
abbrev y_AB_length : MethodName := ⟨"java/lang/AbstractStringBuilder", "length", "()I"⟩
abbrev b_SB_append : ByteArray := prog_17_method_14_code
abbrev y_SB_append : MethodName := ⟨"java/lang/StringBuilder", "append", "(C)Ljava/lang/StringBuilder;"⟩
abbrev b_AB_append : ByteArray := prog_12_method_31_code
abbrev y_AB_append : MethodName := ⟨"java/lang/AbstractStringBuilder", "append", "(C)Ljava/lang/AbstractStringBuilder;"⟩
abbrev b_AB_ensureCapacityInternal : ByteArray := prog_12_method_9_code
abbrev y_AB_ensureCapacityInternal : MethodName := ⟨"java/lang/AbstractStringBuilder", "ensureCapacityInternal", "(I)V"⟩
abbrev b_AB_newCapacity : ByteArray := prog_12_method_10_code
abbrev y_AB_newCapacity : MethodName := ⟨"java/lang/AbstractStringBuilder", "newCapacity", "(I)I"⟩
abbrev b_AS_newLength : ByteArray := prog_22_method_27_code
abbrev y_AS_newLength : MethodName := ⟨"jdk/internal/util/ArraysSupport", "newLength", "(III)I"⟩
abbrev b_MA_max : ByteArray := prog_15_method_65_code
abbrev y_MA_max : MethodName := ⟨"java/lang/Math", "max", "(II)I"⟩
abbrev b_AS_hugeLength : ByteArray := prog_22_method_28_code
abbrev y_AS_hugeLength : MethodName := ⟨"jdk/internal/util/ArraysSupport", "hugeLength", "(II)I"⟩
abbrev b_AR_copyOf : ByteArray := prog_21_method_121_code
abbrev y_AR_copyOf : MethodName := ⟨"java/util/Arrays", "copyOf", "([BI)[B"⟩
abbrev b_MA_min : ByteArray := prog_15_method_69_code
abbrev y_MA_min : MethodName := ⟨"java/lang/Math", "min", "(II)I"⟩
abbrev b_AB_isLatin1 : ByteArray := prog_12_method_68_code
abbrev y_AB_isLatin1 : MethodName := ⟨"java/lang/AbstractStringBuilder", "isLatin1", "()Z"⟩
abbrev b_L1_canEncode : ByteArray := prog_18_method_3_code
abbrev y_L1_canEncode : MethodName := ⟨"java/lang/StringLatin1", "canEncode", "(C)Z"⟩
abbrev b_AB_inflate : ByteArray := prog_12_method_11_code
abbrev y_AB_inflate : MethodName := ⟨"java/lang/AbstractStringBuilder", "inflate", "()V"⟩
abbrev b_L1_inflate : ByteArray := prog_18_method_50_code
abbrev y_L1_inflate : MethodName := ⟨"java/lang/StringLatin1", "inflate", "([BI[BII)V"⟩
abbrev b_U6_inflate : ByteArray := prog_19_method_86_code
abbrev y_U6_inflate : MethodName := ⟨"java/lang/StringUTF16", "inflate", "([BI[BII)V"⟩
abbrev b_U6_checkBoundsOffCount : ByteArray := prog_19_method_94_code
abbrev y_U6_checkBoundsOffCount : MethodName := ⟨"java/lang/StringUTF16", "checkBoundsOffCount", "(II[B)V"⟩
abbrev b_U6_length : ByteArray := prog_19_method_6_code
abbrev y_U6_length : MethodName := ⟨"java/lang/StringUTF16", "length", "([B)I"⟩
abbrev b_ST_checkBoundsOffCount : ByteArray := prog_16_method_157_code
abbrev y_ST_checkBoundsOffCount : MethodName := ⟨"java/lang/String", "checkBoundsOffCount", "(III)I"⟩
abbrev b_PR_checkFromIndexSize : ByteArray := prog_23_method_13_code
abbrev y_PR_checkFromIndexSize : MethodName := ⟨"jdk/internal/util/Preconditions", "checkFromIndexSize", "(IIILjava/util/function/BiFunction;)I"⟩
abbrev b_U6_putChar : ByteArray := prog_19_method_4_code
abbrev y_U6_putChar : MethodName := ⟨"java/lang/StringUTF16", "putChar", "([BII)V"⟩
abbrev b_U6_putCharSB : ByteArray := prog_19_method_71_code
abbrev y_U6_putCharSB : MethodName := ⟨"java/lang/StringUTF16", "putCharSB", "([BII)V"⟩
abbrev b_U6_checkIndex : ByteArray := prog_19_method_91_code
abbrev y_U6_checkIndex : MethodName := ⟨"java/lang/StringUTF16", "checkIndex", "(I[B)V"⟩
abbrev b_ST_checkIndex : ByteArray := prog_16_method_155_code
abbrev y_ST_checkIndex : MethodName := ⟨"java/lang/String", "checkIndex", "(II)V"⟩
abbrev b_PR_checkIndex : ByteArray := prog_23_method_11_code
abbrev y_PR_checkIndex : MethodName := ⟨"jdk/internal/util/Preconditions", "checkIndex", "(IILjava/util/function/BiFunction;)I"⟩
abbrev b_DR_read : ByteArray := prog_1_method_3_code
abbrev y_DR_read : MethodName := ⟨"DutyRules", "read", "()I"⟩
abbrev b_SB_toString : ByteArray := prog_17_method_42_code
abbrev y_SB_toString : MethodName := ⟨"java/lang/StringBuilder", "toString", "()Ljava/lang/String;"⟩
abbrev b_ST_init : ByteArray := prog_16_method_53_code
abbrev y_ST_init : MethodName := ⟨"java/lang/String", "<init>", "(Ljava/lang/StringBuilder;)V"⟩
abbrev b_ST_init2 : ByteArray := prog_16_method_150_code
abbrev y_ST_init2 : MethodName := ⟨"java/lang/String", "<init>", "(Ljava/lang/AbstractStringBuilder;Ljava/lang/Void;)V"⟩
abbrev b_AB_getValue : ByteArray := prog_12_method_64_code
abbrev y_AB_getValue : MethodName := ⟨"java/lang/AbstractStringBuilder", "getValue", "()[B"⟩
abbrev b_AR_copyOfRange : ByteArray := prog_21_method_132_code
abbrev y_AR_copyOfRange : MethodName := ⟨"java/util/Arrays", "copyOfRange", "([BII)[B"⟩
abbrev b_AR_copyOfRangeByte : ByteArray := prog_21_method_133_code
abbrev y_AR_copyOfRangeByte : MethodName := ⟨"java/util/Arrays", "copyOfRangeByte", "([BII)[B"⟩
abbrev b_AR_checkLength : ByteArray := prog_21_method_131_code
abbrev y_AR_checkLength : MethodName := ⟨"java/util/Arrays", "checkLength", "(II)V"⟩
abbrev b_U6_compress : ByteArray := prog_19_method_17_code
abbrev y_U6_compress : MethodName := ⟨"java/lang/StringUTF16", "compress", "([BII)[B"⟩
abbrev b_U6_compress2 : ByteArray := prog_19_method_22_code
abbrev y_U6_compress2 : MethodName := ⟨"java/lang/StringUTF16", "compress", "([BI[BII)I"⟩
abbrev b_U6_getChar : ByteArray := prog_19_method_5_code
abbrev y_U6_getChar : MethodName := ⟨"java/lang/StringUTF16", "getChar", "([BI)C"⟩
abbrev b_U6_coderFromArrayLen : ByteArray := prog_19_method_15_code
abbrev y_U6_coderFromArrayLen : MethodName := ⟨"java/lang/StringUTF16", "coderFromArrayLen", "([BI)B"⟩
abbrev b_WO_init : ByteArray := prog_9_method_1_code
abbrev y_WO_init : MethodName := ⟨"DutyRules$Words", "<init>", "(Ljava/lang/String;)V"⟩
abbrev b_WO_advance : ByteArray := prog_9_method_2_code
abbrev y_WO_advance : MethodName := ⟨"DutyRules$Words", "advance", "()V"⟩
abbrev b_ST_length : ByteArray := prog_16_method_54_code
abbrev y_ST_length : MethodName := ⟨"java/lang/String", "length", "()I"⟩
abbrev b_ST_coder : ByteArray := prog_16_method_152_code
abbrev y_ST_coder : MethodName := ⟨"java/lang/String", "coder", "()B"⟩
abbrev b_ST_charAt : ByteArray := prog_16_method_56_code
abbrev y_ST_charAt : MethodName := ⟨"java/lang/String", "charAt", "(I)C"⟩
abbrev b_ST_isLatin1 : ByteArray := prog_16_method_154_code
abbrev y_ST_isLatin1 : MethodName := ⟨"java/lang/String", "isLatin1", "()Z"⟩
abbrev b_L1_charAt : ByteArray := prog_18_method_2_code
abbrev y_L1_charAt : MethodName := ⟨"java/lang/StringLatin1", "charAt", "([BI)C"⟩
abbrev b_U6_charAt : ByteArray := prog_19_method_83_code
abbrev y_U6_charAt : MethodName := ⟨"java/lang/StringUTF16", "charAt", "([BI)C"⟩
abbrev b_WO_isBlank : ByteArray := prog_9_method_7_code
abbrev y_WO_isBlank : MethodName := ⟨"DutyRules$Words", "isBlank", "(C)Z"⟩
abbrev b_SB_setLength : ByteArray := prog_17_method_89_code
abbrev y_SB_setLength : MethodName := ⟨"java/lang/StringBuilder", "setLength", "(I)V"⟩
abbrev b_AB_setLength : ByteArray := prog_12_method_13_code
abbrev y_AB_setLength : MethodName := ⟨"java/lang/AbstractStringBuilder", "setLength", "(I)V"⟩
abbrev b_L1_fillNull : ByteArray := prog_18_method_48_code
abbrev y_L1_fillNull : MethodName := ⟨"java/lang/StringLatin1", "fillNull", "([BII)V"⟩
abbrev b_AR_fill : ByteArray := prog_21_method_110_code
abbrev y_AR_fill : MethodName := ⟨"java/util/Arrays", "fill", "([BIIB)V"⟩
abbrev b_AR_rangeCheck : ByteArray := prog_21_method_30_code
abbrev y_AR_rangeCheck : MethodName := ⟨"java/util/Arrays", "rangeCheck", "(III)V"⟩
abbrev b_U6_fillNull : ByteArray := prog_19_method_70_code
abbrev y_U6_fillNull : MethodName := ⟨"java/lang/StringUTF16", "fillNull", "([BII)V"⟩
abbrev b_GR_fill : ByteArray := prog_6_method_2_code
abbrev y_GR_fill : MethodName := ⟨"DutyRules$Grammar", "fill", "(LDutyRules$Rules;LDutyRules$Words;)Z"⟩
abbrev b_WO_isEnd : ByteArray := prog_9_method_3_code
abbrev y_WO_isEnd : MethodName := ⟨"DutyRules$Words", "isEnd", "()Z"⟩
abbrev b_GR_addRule : ByteArray := prog_6_method_3_code
abbrev y_GR_addRule : MethodName := ⟨"DutyRules$Grammar", "addRule", "(LDutyRules$Rules;LDutyRules$Words;)Z"⟩
abbrev b_GR_kindBegunBy : ByteArray := prog_6_method_4_code
abbrev y_GR_kindBegunBy : MethodName := ⟨"DutyRules$Grammar", "kindBegunBy", "(LDutyRules$Words;)I"⟩
abbrev b_GR_formOf : ByteArray := prog_6_method_6_code
abbrev y_GR_formOf : MethodName := ⟨"DutyRules$Grammar", "formOf", "(I)Ljava/lang/String;"⟩
abbrev b_WO_isSameWordAs : ByteArray := prog_9_method_4_code
abbrev y_WO_isSameWordAs : MethodName := ⟨"DutyRules$Words", "isSameWordAs", "(LDutyRules$Words;)Z"⟩
abbrev b_RU_mayBegin : ByteArray := prog_8_method_2_code
abbrev y_RU_mayBegin : MethodName := ⟨"DutyRules$Rules", "mayBegin", "(I)Z"⟩
abbrev b_RU_firstOfKind : ByteArray := prog_8_method_7_code
abbrev y_RU_firstOfKind : MethodName := ⟨"DutyRules$Rules", "firstOfKind", "(I)I"⟩
abbrev b_RU_begin : ByteArray := prog_8_method_3_code
abbrev y_RU_begin : MethodName := ⟨"DutyRules$Rules", "begin", "(I)V"⟩
abbrev b_WO_firstByte : ByteArray := prog_9_method_5_code
abbrev y_WO_firstByte : MethodName := ⟨"DutyRules$Words", "firstByte", "()C"⟩
abbrev b_GR_isSlot : ByteArray := prog_6_method_7_code
abbrev y_GR_isSlot : MethodName := ⟨"DutyRules$Grammar", "isSlot", "(C)Z"⟩
abbrev b_WO_asNumber : ByteArray := prog_9_method_6_code
abbrev y_WO_asNumber : MethodName := ⟨"DutyRules$Words", "asNumber", "()I"⟩
abbrev b_GR_isInRange : ByteArray := prog_6_method_8_code
abbrev y_GR_isInRange : MethodName := ⟨"DutyRules$Grammar", "isInRange", "(IC)Z"⟩
abbrev b_RU_put : ByteArray := prog_8_method_4_code
abbrev y_RU_put : MethodName := ⟨"DutyRules$Rules", "put", "(II)Z"⟩
abbrev b_RU_number : ByteArray := prog_8_method_6_code
abbrev y_RU_number : MethodName := ⟨"DutyRules$Rules", "number", "(II)I"⟩
abbrev b_GR_asText : ByteArray := prog_6_method_5_code
abbrev y_GR_asText : MethodName := ⟨"DutyRules$Grammar", "asText", "(LDutyRules$Rules;)Ljava/lang/String;"⟩
abbrev b_RU_kind : ByteArray := prog_8_method_5_code
abbrev y_RU_kind : MethodName := ⟨"DutyRules$Rules", "kind", "(I)I"⟩
abbrev b_SB_append2 : ByteArray := prog_17_method_15_code
abbrev y_SB_append2 : MethodName := ⟨"java/lang/StringBuilder", "append", "(I)Ljava/lang/StringBuilder;"⟩
abbrev b_AB_append2 : ByteArray := prog_12_method_32_code
abbrev y_AB_append2 : MethodName := ⟨"java/lang/AbstractStringBuilder", "append", "(I)Ljava/lang/AbstractStringBuilder;"⟩
abbrev b_IN_stringSize : ByteArray := prog_14_method_13_code
abbrev y_IN_stringSize : MethodName := ⟨"java/lang/Integer", "stringSize", "(I)I"⟩
abbrev b_IN_getChars : ByteArray := prog_14_method_12_code
abbrev y_IN_getChars : MethodName := ⟨"java/lang/Integer", "getChars", "(II[B)I"⟩
abbrev b_U6_getChars : ByteArray := prog_19_method_77_code
abbrev y_U6_getChars : MethodName := ⟨"java/lang/StringUTF16", "getChars", "(III[B)I"⟩
abbrev b_U6_checkBoundsBeginEnd : ByteArray := prog_19_method_93_code
abbrev y_U6_checkBoundsBeginEnd : MethodName := ⟨"java/lang/StringUTF16", "checkBoundsBeginEnd", "(II[B)V"⟩
abbrev b_ST_checkBoundsBeginEnd : ByteArray := prog_16_method_158_code
abbrev y_ST_checkBoundsBeginEnd : MethodName := ⟨"java/lang/String", "checkBoundsBeginEnd", "(III)V"⟩
abbrev b_PR_checkFromToIndex : ByteArray := prog_23_method_12_code
abbrev y_PR_checkFromToIndex : MethodName := ⟨"jdk/internal/util/Preconditions", "checkFromToIndex", "(IIILjava/util/function/BiFunction;)I"⟩
abbrev b_U6_getChars2 : ByteArray := prog_19_method_89_code
abbrev y_U6_getChars2 : MethodName := ⟨"java/lang/StringUTF16", "getChars", "(II[B)I"⟩
abbrev b_DR_edition : ByteArray := prog_1_method_4_code
abbrev y_DR_edition : MethodName := ⟨"DutyRules", "edition", "(J)I"⟩
abbrev b_DR_isDay : ByteArray := prog_1_method_18_code
abbrev y_DR_isDay : MethodName := ⟨"DutyRules", "isDay", "(J)Z"⟩
abbrev b_ED_add : ByteArray := prog_3_method_2_code
abbrev y_ED_add : MethodName := ⟨"DutyRules$Editions", "add", "(LDutyRules$Rules;I)I"⟩
abbrev b_DR_fact : ByteArray := prog_1_method_5_code
abbrev y_DR_fact : MethodName := ⟨"DutyRules", "fact", "(IIJJJ)Z"⟩
abbrev b_DR_isLot : ByteArray := prog_1_method_16_code
abbrev y_DR_isLot : MethodName := ⟨"DutyRules", "isLot", "(I)Z"⟩
abbrev b_DR_isFactKind : ByteArray := prog_1_method_17_code
abbrev y_DR_isFactKind : MethodName := ⟨"DutyRules", "isFactKind", "(I)Z"⟩
abbrev b_DR_greatestValue : ByteArray := prog_1_method_22_code
abbrev y_DR_greatestValue : MethodName := ⟨"DutyRules", "greatestValue", "(I)I"⟩
abbrev b_FS_add : ByteArray := prog_5_method_2_code
abbrev y_FS_add : MethodName := ⟨"DutyRules$Facts", "add", "(IIII)Z"⟩
abbrev b_FS_placeOf : ByteArray := prog_5_method_7_code
abbrev y_FS_placeOf : MethodName := ⟨"DutyRules$Facts", "placeOf", "(II)I"⟩
abbrev b_FA_init : ByteArray := prog_4_method_1_code
abbrev y_FA_init : MethodName := ⟨"DutyRules$Fact", "<init>", "(IILDutyRules$Fact;)V"⟩
abbrev b_DR_told : ByteArray := prog_1_method_6_code
abbrev y_DR_told : MethodName := ⟨"DutyRules", "told", "(IIJ)Z"⟩
abbrev b_FS_learnNewest : ByteArray := prog_5_method_3_code
abbrev y_FS_learnNewest : MethodName := ⟨"DutyRules$Facts", "learnNewest", "(III)Z"⟩
abbrev b_FS_newestOf : ByteArray := prog_5_method_6_code
abbrev y_FS_newestOf : MethodName := ⟨"DutyRules$Facts", "newestOf", "(II)LDutyRules$Fact;"⟩
abbrev b_DR_duty : ByteArray := prog_1_method_7_code
abbrev y_DR_duty : MethodName := ⟨"DutyRules", "duty", "(IJJI)J"⟩
abbrev b_DR_isPart : ByteArray := prog_1_method_20_code
abbrev y_DR_isPart : MethodName := ⟨"DutyRules", "isPart", "(I)Z"⟩
abbrev b_DU_reckon : ByteArray := prog_2_method_2_code
abbrev y_DU_reckon : MethodName := ⟨"DutyRules$Duty", "reckon", "(LDutyRules$Editions;LDutyRules$Facts;III)V"⟩
abbrev b_ED_heldOn : ByteArray := prog_3_method_3_code
abbrev y_ED_heldOn : MethodName := ⟨"DutyRules$Editions", "heldOn", "(I)LDutyRules$Rules;"⟩
abbrev b_FS_heldValue : ByteArray := prog_5_method_4_code
abbrev y_FS_heldValue : MethodName := ⟨"DutyRules$Facts", "heldValue", "(IIII)I"⟩
abbrev b_DU_reasonToBeOpen : ByteArray := prog_2_method_3_code
abbrev y_DU_reasonToBeOpen : MethodName := ⟨"DutyRules$Duty", "reasonToBeOpen", "(LDutyRules$Rules;)I"⟩
abbrev b_RU_firstRate : ByteArray := prog_8_method_9_code
abbrev y_RU_firstRate : MethodName := ⟨"DutyRules$Rules", "firstRate", "(II)I"⟩
abbrev b_RU_firstOfGoods : ByteArray := prog_8_method_8_code
abbrev y_RU_firstOfGoods : MethodName := ⟨"DutyRules$Rules", "firstOfGoods", "(II)I"⟩
abbrev b_DU_doSteps : ByteArray := prog_2_method_4_code
abbrev y_DU_doSteps : MethodName := ⟨"DutyRules$Duty", "doSteps", "(LDutyRules$Rules;)V"⟩
abbrev b_DU_addStep : ByteArray := prog_2_method_9_code
abbrev y_DU_addStep : MethodName := ⟨"DutyRules$Duty", "addStep", "(II)V"⟩
abbrev b_DU_freeLost : ByteArray := prog_2_method_5_code
abbrev y_DU_freeLost : MethodName := ⟨"DutyRules$Duty", "freeLost", "(LDutyRules$Rules;J)V"⟩
abbrev b_MA_min2 : ByteArray := prog_15_method_70_code
abbrev y_MA_min2 : MethodName := ⟨"java/lang/Math", "min", "(JJ)J"⟩
abbrev b_DU_lessenByAway : ByteArray := prog_2_method_6_code
abbrev y_DU_lessenByAway : MethodName := ⟨"DutyRules$Duty", "lessenByAway", "(LDutyRules$Rules;J)V"⟩
abbrev b_DU_lessenForSmall : ByteArray := prog_2_method_7_code
abbrev y_DU_lessenForSmall : MethodName := ⟨"DutyRules$Duty", "lessenForSmall", "(LDutyRules$Rules;)V"⟩
abbrev b_DU_roundToMultiple : ByteArray := prog_2_method_8_code
abbrev y_DU_roundToMultiple : MethodName := ⟨"DutyRules$Duty", "roundToMultiple", "(LDutyRules$Rules;)V"⟩
abbrev b_DR_reduced : ByteArray := prog_1_method_23_code
abbrev y_DR_reduced : MethodName := ⟨"DutyRules", "reduced", "(JJI)J"⟩
abbrev b_DR_commonDivisor : ByteArray := prog_1_method_24_code
abbrev y_DR_commonDivisor : MethodName := ⟨"DutyRules", "commonDivisor", "(JJ)J"⟩
abbrev b_DR_open : ByteArray := prog_1_method_8_code
abbrev y_DR_open : MethodName := ⟨"DutyRules", "open", "(I)I"⟩
abbrev b_DR_step : ByteArray := prog_1_method_9_code
abbrev y_DR_step : MethodName := ⟨"DutyRules", "step", "(III)I"⟩
abbrev b_DR_allowed : ByteArray := prog_1_method_10_code
abbrev y_DR_allowed : MethodName := ⟨"DutyRules", "allowed", "(II)J"⟩
abbrev b_DR_isMonth : ByteArray := prog_1_method_19_code
abbrev y_DR_isMonth : MethodName := ⟨"DutyRules", "isMonth", "(I)Z"⟩
abbrev b_DR_lastDayOf : ByteArray := prog_1_method_21_code
abbrev y_DR_lastDayOf : MethodName := ⟨"DutyRules", "lastDayOf", "(I)I"⟩
abbrev b_DR_returned : ByteArray := prog_1_method_11_code
abbrev y_DR_returned : MethodName := ⟨"DutyRules", "returned", "(I)I"⟩
abbrev b_DR_returnOf : ByteArray := prog_1_method_26_code
abbrev y_DR_returnOf : MethodName := ⟨"DutyRules", "returnOf", "(I)LDutyRules$Return;"⟩
abbrev b_RE_init : ByteArray := prog_7_method_1_code
abbrev y_RE_init : MethodName := ⟨"DutyRules$Return", "<init>", "(ILDutyRules$Return;)V"⟩
abbrev b_FS_hasLitres : ByteArray := prog_5_method_5_code
abbrev y_FS_hasLitres : MethodName := ⟨"DutyRules$Facts", "hasLitres", "(III)Z"⟩
abbrev b_DR_centsOf : ByteArray := prog_1_method_25_code
abbrev y_DR_centsOf : MethodName := ⟨"DutyRules", "centsOf", "(III)J"⟩
abbrev b_RE_put : ByteArray := prog_7_method_2_code
abbrev y_RE_put : MethodName := ⟨"DutyRules$Return", "put", "(IJ)V"⟩
abbrev b_RE_isSettled : ByteArray := prog_7_method_3_code
abbrev y_RE_isSettled : MethodName := ⟨"DutyRules$Return", "isSettled", "(I)Z"⟩
abbrev b_RE_count : ByteArray := prog_7_method_4_code
abbrev y_RE_count : MethodName := ⟨"DutyRules$Return", "count", "()I"⟩
abbrev b_DR_row : ByteArray := prog_1_method_12_code
abbrev y_DR_row : MethodName := ⟨"DutyRules", "row", "(II)J"⟩
abbrev b_RE_lotOfRow : ByteArray := prog_7_method_5_code
abbrev y_RE_lotOfRow : MethodName := ⟨"DutyRules$Return", "lotOfRow", "(I)I"⟩
abbrev b_DR_difference : ByteArray := prog_1_method_13_code
abbrev y_DR_difference : MethodName := ⟨"DutyRules", "difference", "(IJ)J"⟩
abbrev b_DR_write : ByteArray := prog_1_method_14_code
abbrev y_DR_write : MethodName := ⟨"DutyRules", "write", "(I)I"⟩
abbrev b_DR_interest : ByteArray := prog_1_method_15_code
abbrev y_DR_interest : MethodName := ⟨"DutyRules", "interest", "(IJI)J"⟩
abbrev b_MA_max2 : ByteArray := prog_15_method_66_code
abbrev y_MA_max2 : MethodName := ⟨"java/lang/Math", "max", "(JJ)J"⟩
abbrev b_RE_settledSum : ByteArray := prog_7_method_6_code
abbrev y_RE_settledSum : MethodName := ⟨"DutyRules$Return", "settledSum", "()J"⟩
abbrev b_DR_lateShare : ByteArray := prog_1_method_27_code
abbrev y_DR_lateShare : MethodName := ⟨"DutyRules", "lateShare", "(I)J"⟩
abbrev b_MO_init : ByteArray := prog_11_method_1_code
abbrev y_MO_init : MethodName := ⟨"DutyRulesModel", "<init>", "()V"⟩
abbrev b_MO_unit : ByteArray := prog_11_method_2_code
abbrev y_MO_unit : MethodName := ⟨"DutyRulesModel", "unit", "(I)Z"⟩
abbrev b_MO_read : ByteArray := prog_11_method_11_code
abbrev y_MO_read : MethodName := ⟨"DutyRulesModel", "read", "()I"⟩
abbrev b_MO_next : ByteArray := prog_11_method_4_code
abbrev y_MO_next : MethodName := ⟨"DutyRulesModel", "next", "()V"⟩
abbrev b_MO_isBlank : ByteArray := prog_11_method_3_code
abbrev y_MO_isBlank : MethodName := ⟨"DutyRulesModel", "isBlank", "(I)Z"⟩
abbrev b_MO_rule : ByteArray := prog_11_method_10_code
abbrev y_MO_rule : MethodName := ⟨"DutyRulesModel", "rule", "(I)Z"⟩
abbrev b_MO_is : ByteArray := prog_11_method_5_code
abbrev y_MO_is : MethodName := ⟨"DutyRulesModel", "is", "(I)Z"⟩
abbrev b_MO_wordSize : ByteArray := prog_11_method_6_code
abbrev y_MO_wordSize : MethodName := ⟨"DutyRulesModel", "wordSize", "(I)I"⟩
abbrev b_MO_wordByte : ByteArray := prog_11_method_7_code
abbrev y_MO_wordByte : MethodName := ⟨"DutyRulesModel", "wordByte", "(II)I"⟩
abbrev b_MO_part : ByteArray := prog_11_method_9_code
abbrev y_MO_part : MethodName := ⟨"DutyRulesModel", "part", "(II)I"⟩
abbrev b_MO_number : ByteArray := prog_11_method_8_code
abbrev y_MO_number : MethodName := ⟨"DutyRulesModel", "number", "(I)I"⟩
abbrev b_MO_edition : ByteArray := prog_11_method_12_code
abbrev y_MO_edition : MethodName := ⟨"DutyRulesModel", "edition", "(J)I"⟩
abbrev b_MO_write : ByteArray := prog_11_method_16_code
abbrev y_MO_write : MethodName := ⟨"DutyRulesModel", "write", "(I)I"⟩
abbrev b_MO_say : ByteArray := prog_11_method_14_code
abbrev y_MO_say : MethodName := ⟨"DutyRulesModel", "say", "(I)V"⟩
abbrev b_MO_put : ByteArray := prog_11_method_13_code
abbrev y_MO_put : MethodName := ⟨"DutyRulesModel", "put", "(I)V"⟩
abbrev b_MO_digits : ByteArray := prog_11_method_15_code
abbrev y_MO_digits : MethodName := ⟨"DutyRulesModel", "digits", "(I)V"⟩
abbrev b_MO_fact : ByteArray := prog_11_method_20_code
abbrev y_MO_fact : MethodName := ⟨"DutyRulesModel", "fact", "(IIJJJ)Z"⟩
abbrev b_MO_isLot : ByteArray := prog_11_method_18_code
abbrev y_MO_isLot : MethodName := ⟨"DutyRulesModel", "isLot", "(I)Z"⟩
abbrev b_MO_isDay : ByteArray := prog_11_method_17_code
abbrev y_MO_isDay : MethodName := ⟨"DutyRulesModel", "isDay", "(J)Z"⟩
abbrev b_MO_most : ByteArray := prog_11_method_19_code
abbrev y_MO_most : MethodName := ⟨"DutyRulesModel", "most", "(I)J"⟩
abbrev b_MO_told : ByteArray := prog_11_method_21_code
abbrev y_MO_told : MethodName := ⟨"DutyRulesModel", "told", "(IIJ)Z"⟩
abbrev b_MO_duty : ByteArray := prog_11_method_31_code
abbrev y_MO_duty : MethodName := ⟨"DutyRulesModel", "duty", "(IJJI)J"⟩
abbrev b_MO_reckon : ByteArray := prog_11_method_28_code
abbrev y_MO_reckon : MethodName := ⟨"DutyRulesModel", "reckon", "(IJJ)Z"⟩
abbrev b_MO_editionOf : ByteArray := prog_11_method_23_code
abbrev y_MO_editionOf : MethodName := ⟨"DutyRulesModel", "editionOf", "(J)I"⟩
abbrev b_MO_holds : ByteArray := prog_11_method_22_code
abbrev y_MO_holds : MethodName := ⟨"DutyRulesModel", "holds", "(IIJJ)I"⟩
abbrev b_MO_find : ByteArray := prog_11_method_24_code
abbrev y_MO_find : MethodName := ⟨"DutyRulesModel", "find", "(IIJJ)I"⟩
abbrev b_MO_value : ByteArray := prog_11_method_25_code
abbrev y_MO_value : MethodName := ⟨"DutyRulesModel", "value", "(III)I"⟩
abbrev b_MO_step : ByteArray := prog_11_method_26_code
abbrev y_MO_step : MethodName := ⟨"DutyRulesModel", "step", "(II)V"⟩
abbrev b_MO_least : ByteArray := prog_11_method_27_code
abbrev y_MO_least : MethodName := ⟨"DutyRulesModel", "least", "(JJ)J"⟩
abbrev b_MO_fraction : ByteArray := prog_11_method_30_code
abbrev y_MO_fraction : MethodName := ⟨"DutyRulesModel", "fraction", "(JJI)J"⟩
abbrev b_MO_divisor : ByteArray := prog_11_method_29_code
abbrev y_MO_divisor : MethodName := ⟨"DutyRulesModel", "divisor", "(JJ)J"⟩
abbrev b_MO_open : ByteArray := prog_11_method_32_code
abbrev y_MO_open : MethodName := ⟨"DutyRulesModel", "open", "(I)I"⟩
abbrev b_MO_step2 : ByteArray := prog_11_method_33_code
abbrev y_MO_step2 : MethodName := ⟨"DutyRulesModel", "step", "(III)I"⟩
abbrev b_MO_allowed : ByteArray := prog_11_method_36_code
abbrev y_MO_allowed : MethodName := ⟨"DutyRulesModel", "allowed", "(II)J"⟩
abbrev b_MO_isMonth : ByteArray := prog_11_method_34_code
abbrev y_MO_isMonth : MethodName := ⟨"DutyRulesModel", "isMonth", "(I)Z"⟩
abbrev b_MO_lastOf : ByteArray := prog_11_method_35_code
abbrev y_MO_lastOf : MethodName := ⟨"DutyRulesModel", "lastOf", "(I)J"⟩
abbrev b_MO_returned : ByteArray := prog_11_method_38_code
abbrev y_MO_returned : MethodName := ⟨"DutyRulesModel", "returned", "(I)I"⟩
abbrev b_MO_hasLitres : ByteArray := prog_11_method_37_code
abbrev y_MO_hasLitres : MethodName := ⟨"DutyRulesModel", "hasLitres", "(II)Z"⟩
abbrev b_MO_row : ByteArray := prog_11_method_39_code
abbrev y_MO_row : MethodName := ⟨"DutyRulesModel", "row", "(II)J"⟩
abbrev b_MO_difference : ByteArray := prog_11_method_40_code
abbrev y_MO_difference : MethodName := ⟨"DutyRulesModel", "difference", "(IJ)J"⟩
abbrev b_MO_interest : ByteArray := prog_11_method_41_code
abbrev y_MO_interest : MethodName := ⟨"DutyRulesModel", "interest", "(IJI)J"⟩
def T_DR : u_T := fun k => match k with
  | 0 => ("DutyRules", "text", "Ljava/lang/StringBuilder;", true)
  | 1 => ("DutyRules", "editions", "LDutyRules$Editions;", true)
  | 2 => ("DutyRules", "facts", "LDutyRules$Facts;", true)
  | 3 => ("DutyRules", "asked", "LDutyRules$Duty;", true)
  | 4 => ("DutyRules", "inner", "LDutyRules$Duty;", true)
  | 5 => ("DutyRules", "lastRead", "LDutyRules$Rules;", false)
  | 6 => ("DutyRules", "written", "Ljava/lang/String;", false)
  | 7 => ("DutyRules", "wasAsked", "Z", false)
  | 8 => ("DutyRules", "newestReturn", "LDutyRules$Return;", false)
  | _ => ("DutyRules", "lastReturn", "LDutyRules$Return;", false)
def t_DR : Nat → FieldType := fun k => match k with
  | 0 => .object "java/lang/StringBuilder"
  | 1 => .object "DutyRules$Editions"
  | 2 => .object "DutyRules$Facts"
  | 3 => .object "DutyRules$Duty"
  | 4 => .object "DutyRules$Duty"
  | 5 => .object "DutyRules$Rules"
  | 6 => .object "java/lang/String"
  | 7 => .boolean
  | 8 => .object "DutyRules$Return"
  | _ => .object "DutyRules$Return"
theorem n_DR : ∀ a, a < 10 → ∀ b, b < 10 → a ≠ b → (T_DR a).2.1 ≠ (T_DR b).2.1 := by decide +kernel
theorem k_DR : ∀ k, k < 10 → parseFieldDescriptor (T_DR k).2.2.1 = some (t_DR k) := by decide +kernel
def T_DU : u_T := fun k => match k with
  | 0 => ("DutyRules$Duty", "lot", "I", false)
  | 1 => ("DutyRules$Duty", "reason", "I", false)
  | 2 => ("DutyRules$Duty", "steps", "I", false)
  | 3 => ("DutyRules$Duty", "amount", "J", false)
  | 4 => ("DutyRules$Duty", "free", "J", false)
  | 5 => ("DutyRules$Duty", "held", "[I", true)
  | 6 => ("DutyRules$Duty", "letters", "[I", true)
  | 7 => ("DutyRules$Duty", "numbers", "[I", true)
  | _ => ("DutyRules$Duty", "centsBehind", "[J", true)
def t_DU : Nat → FieldType := fun k => match k with
  | 0 => .int
  | 1 => .int
  | 2 => .int
  | 3 => .long
  | 4 => .long
  | 5 => .array .int
  | 6 => .array .int
  | 7 => .array .int
  | _ => .array .long
theorem n_DU : ∀ a, a < 9 → ∀ b, b < 9 → a ≠ b → (T_DU a).2.1 ≠ (T_DU b).2.1 := by decide +kernel
theorem k_DU : ∀ k, k < 9 → parseFieldDescriptor (T_DU k).2.2.1 = some (t_DU k) := by decide +kernel
def T_ED : u_T := fun k => match k with
  | 0 => ("DutyRules$Editions", "count", "I", false)
  | 1 => ("DutyRules$Editions", "rules", "[LDutyRules$Rules;", true)
  | _ => ("DutyRules$Editions", "froms", "[I", true)
def t_ED : Nat → FieldType := fun k => match k with
  | 0 => .int
  | 1 => .array (.object "DutyRules$Rules")
  | _ => .array .int
theorem n_ED : ∀ a, a < 3 → ∀ b, b < 3 → a ≠ b → (T_ED a).2.1 ≠ (T_ED b).2.1 := by decide +kernel
theorem k_ED : ∀ k, k < 3 → parseFieldDescriptor (T_ED k).2.2.1 = some (t_ED k) := by decide +kernel
def T_FA : u_T := fun k => match k with
  | 0 => ("DutyRules$Fact", "day", "I", true)
  | 1 => ("DutyRules$Fact", "value", "I", true)
  | 2 => ("DutyRules$Fact", "before", "LDutyRules$Fact;", true)
  | _ => ("DutyRules$Fact", "knownFrom", "I", false)
def t_FA : Nat → FieldType := fun k => match k with
  | 0 => .int
  | 1 => .int
  | 2 => .object "DutyRules$Fact"
  | _ => .int
theorem n_FA : ∀ a, a < 4 → ∀ b, b < 4 → a ≠ b → (T_FA a).2.1 ≠ (T_FA b).2.1 := by decide +kernel
theorem k_FA : ∀ k, k < 4 → parseFieldDescriptor (T_FA k).2.2.1 = some (t_FA k) := by decide +kernel
def T_FS : u_T := fun k => match k with
  | 0 => ("DutyRules$Facts", "count", "I", false)
  | 1 => ("DutyRules$Facts", "lastKnowing", "I", false)
  | _ => ("DutyRules$Facts", "newest", "[LDutyRules$Fact;", true)
def t_FS : Nat → FieldType := fun k => match k with
  | 0 => .int
  | 1 => .int
  | _ => .array (.object "DutyRules$Fact")
theorem n_FS : ∀ a, a < 3 → ∀ b, b < 3 → a ≠ b → (T_FS a).2.1 ≠ (T_FS b).2.1 := by decide +kernel
theorem k_FS : ∀ k, k < 3 → parseFieldDescriptor (T_FS k).2.2.1 = some (t_FS k) := by decide +kernel
def T_RE : u_T := fun k => match k with
  | 0 => ("DutyRules$Return", "month", "I", true)
  | 1 => ("DutyRules$Return", "before", "LDutyRules$Return;", true)
  | 2 => ("DutyRules$Return", "hasRow", "[Z", true)
  | 3 => ("DutyRules$Return", "cents", "[J", true)
  | _ => ("DutyRules$Return", "changes", "[J", true)
def t_RE : Nat → FieldType := fun k => match k with
  | 0 => .int
  | 1 => .object "DutyRules$Return"
  | 2 => .array .boolean
  | 3 => .array .long
  | _ => .array .long
theorem n_RE : ∀ a, a < 5 → ∀ b, b < 5 → a ≠ b → (T_RE a).2.1 ≠ (T_RE b).2.1 := by decide +kernel
theorem k_RE : ∀ k, k < 5 → parseFieldDescriptor (T_RE k).2.2.1 = some (t_RE k) := by decide +kernel
def T_RU : u_T := fun k => match k with
  | 0 => ("DutyRules$Rules", "count", "I", false)
  | 1 => ("DutyRules$Rules", "kinds", "[I", true)
  | _ => ("DutyRules$Rules", "numbers", "[I", true)
def t_RU : Nat → FieldType := fun k => match k with
  | 0 => .int
  | 1 => .array .int
  | _ => .array .int
theorem n_RU : ∀ a, a < 3 → ∀ b, b < 3 → a ≠ b → (T_RU a).2.1 ≠ (T_RU b).2.1 := by decide +kernel
theorem k_RU : ∀ k, k < 3 → parseFieldDescriptor (T_RU k).2.2.1 = some (t_RU k) := by decide +kernel
def T_WO : u_T := fun k => match k with
  | 0 => ("DutyRules$Words", "text", "Ljava/lang/String;", true)
  | 1 => ("DutyRules$Words", "start", "I", false)
  | 2 => ("DutyRules$Words", "end", "I", false)
  | _ => ("DutyRules$Words", "number", "I", false)
def t_WO : Nat → FieldType := fun k => match k with
  | 0 => .object "java/lang/String"
  | 1 => .int
  | 2 => .int
  | _ => .int
theorem n_WO : ∀ a, a < 4 → ∀ b, b < 4 → a ≠ b → (T_WO a).2.1 ≠ (T_WO b).2.1 := by decide +kernel
theorem k_WO : ∀ k, k < 4 → parseFieldDescriptor (T_WO k).2.2.1 = some (t_WO k) := by decide +kernel
def T_MO : u_T := fun k => match k with
  | 0 => ("DutyRulesModel", "text", "[I", true)
  | 1 => ("DutyRulesModel", "length", "I", false)
  | 2 => ("DutyRulesModel", "reading", "[I", true)
  | 3 => ("DutyRulesModel", "rules", "[I", true)
  | 4 => ("DutyRulesModel", "many", "[I", true)
  | 5 => ("DutyRulesModel", "editionFrom", "[J", true)
  | 6 => ("DutyRulesModel", "editions", "I", false)
  | 7 => ("DutyRulesModel", "factLot", "[I", true)
  | 8 => ("DutyRulesModel", "factKind", "[I", true)
  | 9 => ("DutyRulesModel", "factDay", "[J", true)
  | 10 => ("DutyRulesModel", "factKnown", "[J", true)
  | 11 => ("DutyRulesModel", "factValue", "[J", true)
  | 12 => ("DutyRulesModel", "facts", "I", false)
  | 13 => ("DutyRulesModel", "latest", "J", false)
  | 14 => ("DutyRulesModel", "reason", "I", false)
  | 15 => ("DutyRulesModel", "stepLetter", "[I", true)
  | 16 => ("DutyRulesModel", "stepRule", "[I", true)
  | 17 => ("DutyRulesModel", "stepCents", "[J", true)
  | 18 => ("DutyRulesModel", "steps", "I", false)
  | 19 => ("DutyRulesModel", "free", "J", false)
  | 20 => ("DutyRulesModel", "cents", "J", false)
  | 21 => ("DutyRulesModel", "shownLot", "I", false)
  | 22 => ("DutyRulesModel", "shownReason", "I", false)
  | 23 => ("DutyRulesModel", "shownSteps", "I", false)
  | 24 => ("DutyRulesModel", "shownLetter", "[I", true)
  | 25 => ("DutyRulesModel", "shownRule", "[I", true)
  | 26 => ("DutyRulesModel", "shownCents", "[J", true)
  | 27 => ("DutyRulesModel", "there", "[I", true)
  | 28 => ("DutyRulesModel", "due", "[J", true)
  | 29 => ("DutyRulesModel", "wasReturned", "[Z", true)
  | 30 => ("DutyRulesModel", "rows", "I", false)
  | 31 => ("DutyRulesModel", "rowLot", "[I", true)
  | 32 => ("DutyRulesModel", "rowDuty", "[J", true)
  | 33 => ("DutyRulesModel", "rowMore", "[J", true)
  | 34 => ("DutyRulesModel", "begin", "I", false)
  | 35 => ("DutyRulesModel", "end", "I", false)
  | 36 => ("DutyRulesModel", "word", "I", false)
  | 37 => ("DutyRulesModel", "wanted", "I", false)
  | 38 => ("DutyRulesModel", "found", "I", false)
  | _ => ("DutyRulesModel", "written", "I", false)
def t_MO : Nat → FieldType := fun k => match k with
  | 0 => .array .int
  | 1 => .int
  | 2 => .array .int
  | 3 => .array .int
  | 4 => .array .int
  | 5 => .array .long
  | 6 => .int
  | 7 => .array .int
  | 8 => .array .int
  | 9 => .array .long
  | 10 => .array .long
  | 11 => .array .long
  | 12 => .int
  | 13 => .long
  | 14 => .int
  | 15 => .array .int
  | 16 => .array .int
  | 17 => .array .long
  | 18 => .int
  | 19 => .long
  | 20 => .long
  | 21 => .int
  | 22 => .int
  | 23 => .int
  | 24 => .array .int
  | 25 => .array .int
  | 26 => .array .long
  | 27 => .array .int
  | 28 => .array .long
  | 29 => .array .boolean
  | 30 => .int
  | 31 => .array .int
  | 32 => .array .long
  | 33 => .array .long
  | 34 => .int
  | 35 => .int
  | 36 => .int
  | 37 => .int
  | 38 => .int
  | _ => .int
theorem n_MO : ∀ a, a < 40 → ∀ b, b < 40 → a ≠ b → (T_MO a).2.1 ≠ (T_MO b).2.1 := by decide +kernel
theorem k_MO : ∀ k, k < 40 → parseFieldDescriptor (T_MO k).2.2.1 = some (t_MO k) := by decide +kernel
def T_SB : u_T := fun k => match k with
  | 0 => ("java/lang/AbstractStringBuilder", "value", "[B", false)
  | 1 => ("java/lang/AbstractStringBuilder", "coder", "B", false)
  | 2 => ("java/lang/AbstractStringBuilder", "maybeLatin1", "Z", false)
  | _ => ("java/lang/AbstractStringBuilder", "count", "I", false)
def t_SB : Nat → FieldType := fun k => match k with
  | 0 => .array .byte
  | 1 => .byte
  | 2 => .boolean
  | _ => .int
theorem n_SB : ∀ a, a < 4 → ∀ b, b < 4 → a ≠ b → (T_SB a).2.1 ≠ (T_SB b).2.1 := by decide +kernel
theorem k_SB : ∀ k, k < 4 → parseFieldDescriptor (T_SB k).2.2.1 = some (t_SB k) := by decide +kernel
def T_ST : u_T := fun k => match k with
  | 0 => ("java/lang/String", "value", "[B", true)
  | 1 => ("java/lang/String", "coder", "B", true)
  | 2 => ("java/lang/String", "hash", "I", false)
  | _ => ("java/lang/String", "hashIsZero", "Z", false)
def t_ST : Nat → FieldType := fun k => match k with
  | 0 => .array .byte
  | 1 => .byte
  | 2 => .int
  | _ => .boolean
theorem n_ST : ∀ a, a < 4 → ∀ b, b < 4 → a ≠ b → (T_ST a).2.1 ≠ (T_ST b).2.1 := by decide +kernel
theorem k_ST : ∀ k, k < 4 → parseFieldDescriptor (T_ST k).2.2.1 = some (t_ST k) := by decide +kernel
abbrev g_cl : List vw_C := [("DutyRules", T_DR, 10), ("DutyRules$Duty", T_DU, 9), ("DutyRules$Editions", T_ED, 3), ("DutyRules$Fact", T_FA, 4), ("DutyRules$Facts", T_FS, 3), ("DutyRules$Return", T_RE, 5), ("DutyRules$Rules", T_RU, 3), ("DutyRules$Words", T_WO, 4), ("DutyRulesModel", T_MO, 40), ("java/lang/StringBuilder", T_SB, 4), ("java/lang/String", T_ST, 4)]
end
section
theorem w_0 : Cond.initialized "DutyRulesLaw" ∈ g_T := gT_1 0 rfl rfl
theorem w_1 : Cond.initialized "DutyRules" ∈ g_T := gT_1 1 rfl rfl
theorem w_2 : Cond.initialized "java/lang/AbstractStringBuilder" ∈ g_T := gT_1 2 rfl rfl
theorem w_3 : Cond.initialized "java/lang/StringBuilder" ∈ g_T := gT_1 3 rfl rfl
theorem w_4 : Cond.initialized "java/lang/String" ∈ g_T := gT_1 4 rfl rfl
theorem w_5 : Cond.initialized "java/lang/StringUTF16" ∈ g_T := gT_1 5 rfl rfl
theorem w_6 : Cond.initialized "DutyRules$Editions" ∈ g_T := gT_1 6 rfl rfl
theorem w_7 : Cond.initialized "DutyRules$Facts" ∈ g_T := gT_1 7 rfl rfl
theorem w_8 : Cond.initialized "DutyRules$Duty" ∈ g_T := gT_1 8 rfl rfl
theorem w_9 : Cond.initialized "DutyRules$Rules" ∈ g_T := gT_1 9 rfl rfl
theorem w_10 : Cond.initialized "DutyRulesModel" ∈ g_T := gT_1 10 rfl rfl
theorem w_11 : Cond.initialized "jdk/internal/util/ArraysSupport" ∈ g_T := gT_1 11 rfl rfl
theorem w_12 : Cond.initialized "java/lang/Math" ∈ g_T := gT_1 12 rfl rfl
theorem w_13 : Cond.initialized "java/util/Arrays" ∈ g_T := gT_1 13 rfl rfl
theorem w_14 : Cond.initialized "java/lang/System" ∈ g_T := gT_1 14 rfl rfl
theorem w_15 : Cond.initialized "java/lang/StringLatin1" ∈ g_T := gT_1 15 rfl rfl
theorem w_16 : Cond.initialized "jdk/internal/util/Preconditions" ∈ g_T := gT_1 16 rfl rfl
theorem w_17 : Cond.initialized "DutyRules$Words" ∈ g_T := gT_1 17 rfl rfl
theorem w_18 : Cond.initialized "DutyRules$Grammar" ∈ g_T := gT_1 18 rfl rfl
theorem w_19 : Cond.initialized "java/lang/Integer" ∈ g_T := gT_1 19 rfl rfl
theorem w_20 : Cond.initialized "DutyRules$Fact" ∈ g_T := gT_1 20 rfl rfl
theorem w_21 : Cond.initialized "DutyRules$Return" ∈ g_T := gT_1 21 rfl rfl
theorem w_22 : Cond.classLink "DutyRulesLaw" 7 "DutyRules" ∈ g_T := gT_1 22 rfl rfl
theorem w_23 : Cond.instantiable "DutyRules" 10 ∈ g_T := gT_1 23 rfl rfl
theorem w_24 : Cond.methodLink "DutyRulesLaw" 9 y_DR_init ∈ g_T := gT_1 24 rfl rfl
theorem w_25 : Cond.instanceMethod y_DR_init ∈ g_T := gT_1 25 rfl rfl
theorem w_26 : Cond.code y_DR_init b_DR_init 1 none ∈ g_T := gT_1 26 rfl rfl
theorem w_27 : Cond.methodLink "DutyRules" 1 y_OB_init ∈ g_T := gT_1 27 rfl rfl
theorem w_28 : Cond.instanceMethod y_OB_init ∈ g_T := gT_1 28 rfl rfl
theorem w_29 : Cond.code y_OB_init object_method_1_code 1 none ∈ g_T := gT_1 29 rfl rfl
theorem w_30 : Cond.classLink "DutyRules" 7 "java/lang/StringBuilder" ∈ g_T := gT_1 30 rfl rfl
theorem w_31 : Cond.instantiable "java/lang/StringBuilder" 4 ∈ g_T := gT_1 31 rfl rfl
theorem w_32 : Cond.methodLink "DutyRules" 9 y_SB_init ∈ g_T := gT_1 32 rfl rfl
theorem w_33 : Cond.instanceMethod y_SB_init ∈ g_T := gT_1 33 rfl rfl
theorem w_34 : Cond.code y_SB_init b_SB_init 1 none ∈ g_T := gT_1 34 rfl rfl
theorem w_35 : Cond.methodLink "java/lang/StringBuilder" 1 y_AB_init ∈ g_T := gT_1 35 rfl rfl
theorem w_36 : Cond.instanceMethod y_AB_init ∈ g_T := gT_1 36 rfl rfl
theorem w_37 : Cond.code y_AB_init b_AB_init 2 none ∈ g_T := gT_1 37 rfl rfl
theorem w_38 : Cond.methodLink "java/lang/AbstractStringBuilder" 3 y_OB_init ∈ g_T := gT_1 38 rfl rfl
theorem w_39 : Cond.fieldLink "java/lang/AbstractStringBuilder" 18 "java/lang/String" "COMPACT_STRINGS" "Z" ∈ g_T := gT_1 39 rfl rfl
theorem w_41 : Cond.methodLink "java/lang/AbstractStringBuilder" 26 y_U6_newBytesFor ∈ g_T := gT_1 41 rfl rfl
theorem w_42 : Cond.static y_U6_newBytesFor ∈ g_T := gT_1 42 rfl rfl
theorem w_43 : Cond.code y_U6_newBytesFor b_U6_newBytesFor 1 (some (.array .byte)) ∈ g_T := gT_1 43 rfl rfl
theorem w_44 : Cond.methodLink "java/lang/StringUTF16" 11 y_U6_newBytesLength ∈ g_T := gT_1 44 rfl rfl
theorem w_45 : Cond.static y_U6_newBytesLength ∈ g_T := gT_1 45 rfl rfl
theorem w_46 : Cond.code y_U6_newBytesLength b_U6_newBytesLength 1 (some .int) ∈ g_T := gT_1 46 rfl rfl
theorem w_47 : Cond.constant "java/lang/StringUTF16" 20 1073741823 ∈ g_T := gT_1 47 rfl rfl
theorem w_48 : Cond.fieldLink "java/lang/AbstractStringBuilder" 15 "java/lang/AbstractStringBuilder" "value" "[B" ∈ g_T := gT_1 48 rfl rfl
theorem w_49 : Cond.fieldLink "java/lang/AbstractStringBuilder" 22 "java/lang/AbstractStringBuilder" "coder" "B" ∈ g_T := gT_1 49 rfl rfl
theorem w_50 : Cond.fieldLink "java/lang/AbstractStringBuilder" 73 "java/lang/AbstractStringBuilder" "maybeLatin1" "Z" ∈ g_T := gT_1 50 rfl rfl
theorem w_51 : Cond.fieldLink "java/lang/String" 1048 "java/lang/AbstractStringBuilder" "maybeLatin1" "Z" ∈ g_T := gT_1 51 rfl rfl
theorem w_52 : Cond.fieldLink "java/lang/AbstractStringBuilder" 79 "java/lang/AbstractStringBuilder" "count" "I" ∈ g_T := gT_1 52 rfl rfl
theorem w_53 : Cond.lays "java/lang/StringBuilder" "java/lang/AbstractStringBuilder" "value" "[B" ∈ g_T := gT_1 53 rfl rfl
theorem w_55 : Cond.lays "java/lang/StringBuilder" "java/lang/AbstractStringBuilder" "coder" "B" ∈ g_T := gT_1 55 rfl rfl
theorem w_57 : Cond.lays "java/lang/StringBuilder" "java/lang/AbstractStringBuilder" "maybeLatin1" "Z" ∈ g_T := gT_1 57 rfl rfl
theorem w_59 : Cond.lays "java/lang/StringBuilder" "java/lang/AbstractStringBuilder" "count" "I" ∈ g_T := gT_1 59 rfl rfl
theorem w_61 : Cond.superclass "java/lang/StringBuilder" "java/lang/AbstractStringBuilder" ∈ g_T := gT_1 61 rfl rfl
theorem w_62 : Cond.arrayClass .byte ∈ g_T := gT_1 62 rfl rfl
theorem w_63 : Cond.classLink "DutyRules" 16 "DutyRules$Editions" ∈ g_T := gT_1 63 rfl rfl
theorem w_64 : Cond.instantiable "DutyRules$Editions" 3 ∈ g_T := gT_1 64 rfl rfl
theorem w_65 : Cond.methodLink "DutyRules" 18 y_ED_init ∈ g_T := gT_1 65 rfl rfl
theorem w_66 : Cond.instanceMethod y_ED_init ∈ g_T := gT_1 66 rfl rfl
theorem w_67 : Cond.code y_ED_init b_ED_init 1 none ∈ g_T := gT_1 67 rfl rfl
theorem w_68 : Cond.methodLink "DutyRules$Editions" 3 y_OB_init ∈ g_T := gT_1 68 rfl rfl
theorem w_69 : Cond.classLink "DutyRules$Editions" 15 "DutyRules$Rules" ∈ g_T := gT_1 69 rfl rfl
theorem w_71 : Cond.fieldLink "DutyRules$Editions" 9 "DutyRules$Editions" "count" "I" ∈ g_T := gT_1 71 rfl rfl
theorem w_72 : Cond.fieldLink "DutyRules$Editions" 17 "DutyRules$Editions" "rules" "[LDutyRules$Rules;" ∈ g_T := gT_1 72 rfl rfl
theorem w_73 : Cond.fieldLink "DutyRules$Editions" 21 "DutyRules$Editions" "froms" "[I" ∈ g_T := gT_1 73 rfl rfl
theorem w_74 : Cond.lays "DutyRules$Editions" "DutyRules$Editions" "count" "I" ∈ g_T := gT_1 74 rfl rfl
theorem w_76 : Cond.laysFinal "DutyRules$Editions" "DutyRules$Editions" "rules" "[LDutyRules$Rules;" ∈ g_T := gT_1 76 rfl rfl
theorem w_78 : Cond.laysFinal "DutyRules$Editions" "DutyRules$Editions" "froms" "[I" ∈ g_T := gT_1 78 rfl rfl
theorem w_80 : Cond.superclass "DutyRules$Editions" "java/lang/Object" ∈ g_T := gT_1 80 rfl rfl
theorem w_81 : Cond.arrayClass .int ∈ g_T := gT_1 81 rfl rfl
theorem w_82 : Cond.classLink "DutyRules" 23 "DutyRules$Facts" ∈ g_T := gT_1 82 rfl rfl
theorem w_83 : Cond.instantiable "DutyRules$Facts" 3 ∈ g_T := gT_1 83 rfl rfl
theorem w_84 : Cond.methodLink "DutyRules" 25 y_FS_init ∈ g_T := gT_1 84 rfl rfl
theorem w_85 : Cond.instanceMethod y_FS_init ∈ g_T := gT_1 85 rfl rfl
theorem w_86 : Cond.code y_FS_init b_FS_init 1 none ∈ g_T := gT_1 86 rfl rfl
theorem w_87 : Cond.methodLink "DutyRules$Facts" 3 y_OB_init ∈ g_T := gT_1 87 rfl rfl
theorem w_88 : Cond.classLink "DutyRules$Facts" 18 "DutyRules$Fact" ∈ g_T := gT_1 88 rfl rfl
theorem w_90 : Cond.fieldLink "DutyRules$Facts" 9 "DutyRules$Facts" "count" "I" ∈ g_T := gT_1 90 rfl rfl
theorem w_91 : Cond.fieldLink "DutyRules$Facts" 15 "DutyRules$Facts" "lastKnowing" "I" ∈ g_T := gT_1 91 rfl rfl
theorem w_93 : Cond.fieldLink "DutyRules$Facts" 20 "DutyRules$Facts" "newest" "[LDutyRules$Fact;" ∈ g_T := gT_1 93 rfl rfl
theorem w_94 : Cond.lays "DutyRules$Facts" "DutyRules$Facts" "count" "I" ∈ g_T := gT_1 94 rfl rfl
theorem w_96 : Cond.lays "DutyRules$Facts" "DutyRules$Facts" "lastKnowing" "I" ∈ g_T := gT_1 96 rfl rfl
theorem w_98 : Cond.laysFinal "DutyRules$Facts" "DutyRules$Facts" "newest" "[LDutyRules$Fact;" ∈ g_T := gT_1 98 rfl rfl
theorem w_100 : Cond.superclass "DutyRules$Facts" "java/lang/Object" ∈ g_T := gT_1 100 rfl rfl
theorem w_101 : Cond.classLink "DutyRules" 30 "DutyRules$Duty" ∈ g_T := gT_1 101 rfl rfl
theorem w_102 : Cond.instantiable "DutyRules$Duty" 9 ∈ g_T := gT_1 102 rfl rfl
theorem w_103 : Cond.methodLink "DutyRules" 32 y_DU_init ∈ g_T := gT_1 103 rfl rfl
theorem w_104 : Cond.instanceMethod y_DU_init ∈ g_T := gT_1 104 rfl rfl
theorem w_105 : Cond.code y_DU_init b_DU_init 1 none ∈ g_T := gT_1 105 rfl rfl
theorem w_106 : Cond.methodLink "DutyRules$Duty" 3 y_OB_init ∈ g_T := gT_1 106 rfl rfl
theorem w_107 : Cond.fieldLink "DutyRules$Duty" 9 "DutyRules$Duty" "lot" "I" ∈ g_T := gT_1 107 rfl rfl
theorem w_109 : Cond.fieldLink "DutyRules$Duty" 15 "DutyRules$Duty" "reason" "I" ∈ g_T := gT_1 109 rfl rfl
theorem w_111 : Cond.fieldLink "DutyRules$Duty" 18 "DutyRules$Duty" "steps" "I" ∈ g_T := gT_1 111 rfl rfl
theorem w_113 : Cond.fieldLink "DutyRules$Duty" 21 "DutyRules$Duty" "amount" "J" ∈ g_T := gT_1 113 rfl rfl
theorem w_115 : Cond.fieldLink "DutyRules$Duty" 25 "DutyRules$Duty" "free" "J" ∈ g_T := gT_1 115 rfl rfl
theorem w_117 : Cond.fieldLink "DutyRules$Duty" 28 "DutyRules$Duty" "held" "[I" ∈ g_T := gT_1 117 rfl rfl
theorem w_118 : Cond.fieldLink "DutyRules$Duty" 32 "DutyRules$Duty" "letters" "[I" ∈ g_T := gT_1 118 rfl rfl
theorem w_120 : Cond.fieldLink "DutyRules$Duty" 35 "DutyRules$Duty" "numbers" "[I" ∈ g_T := gT_1 120 rfl rfl
theorem w_122 : Cond.fieldLink "DutyRules$Duty" 38 "DutyRules$Duty" "centsBehind" "[J" ∈ g_T := gT_1 122 rfl rfl
theorem w_124 : Cond.lays "DutyRules$Duty" "DutyRules$Duty" "lot" "I" ∈ g_T := gT_1 124 rfl rfl
theorem w_126 : Cond.lays "DutyRules$Duty" "DutyRules$Duty" "reason" "I" ∈ g_T := gT_1 126 rfl rfl
theorem w_128 : Cond.lays "DutyRules$Duty" "DutyRules$Duty" "steps" "I" ∈ g_T := gT_1 128 rfl rfl
theorem w_130 : Cond.lays "DutyRules$Duty" "DutyRules$Duty" "amount" "J" ∈ g_T := gT_1 130 rfl rfl
theorem w_132 : Cond.lays "DutyRules$Duty" "DutyRules$Duty" "free" "J" ∈ g_T := gT_1 132 rfl rfl
theorem w_134 : Cond.laysFinal "DutyRules$Duty" "DutyRules$Duty" "held" "[I" ∈ g_T := gT_1 134 rfl rfl
theorem w_136 : Cond.laysFinal "DutyRules$Duty" "DutyRules$Duty" "letters" "[I" ∈ g_T := gT_1 136 rfl rfl
theorem w_138 : Cond.laysFinal "DutyRules$Duty" "DutyRules$Duty" "numbers" "[I" ∈ g_T := gT_1 138 rfl rfl
theorem w_140 : Cond.laysFinal "DutyRules$Duty" "DutyRules$Duty" "centsBehind" "[J" ∈ g_T := gT_1 140 rfl rfl
theorem w_142 : Cond.superclass "DutyRules$Duty" "java/lang/Object" ∈ g_T := gT_1 142 rfl rfl
theorem w_143 : Cond.arrayClass .long ∈ g_T := gT_1 143 rfl rfl
theorem w_144 : Cond.classLink "DutyRules" 40 "DutyRules$Rules" ∈ g_T := gT_1 144 rfl rfl
theorem w_145 : Cond.instantiable "DutyRules$Rules" 3 ∈ g_T := gT_1 145 rfl rfl
theorem w_146 : Cond.methodLink "DutyRules" 42 y_RU_init ∈ g_T := gT_1 146 rfl rfl
theorem w_147 : Cond.instanceMethod y_RU_init ∈ g_T := gT_1 147 rfl rfl
theorem w_148 : Cond.code y_RU_init b_RU_init 1 none ∈ g_T := gT_1 148 rfl rfl
theorem w_149 : Cond.methodLink "DutyRules$Rules" 3 y_OB_init ∈ g_T := gT_1 149 rfl rfl
theorem w_150 : Cond.fieldLink "DutyRules$Rules" 9 "DutyRules$Rules" "count" "I" ∈ g_T := gT_1 150 rfl rfl
theorem w_153 : Cond.fieldLink "DutyRules$Rules" 15 "DutyRules$Rules" "kinds" "[I" ∈ g_T := gT_1 153 rfl rfl
theorem w_154 : Cond.fieldLink "DutyRules$Rules" 19 "DutyRules$Rules" "numbers" "[I" ∈ g_T := gT_1 154 rfl rfl
theorem w_155 : Cond.lays "DutyRules$Rules" "DutyRules$Rules" "count" "I" ∈ g_T := gT_1 155 rfl rfl
theorem w_157 : Cond.laysFinal "DutyRules$Rules" "DutyRules$Rules" "kinds" "[I" ∈ g_T := gT_1 157 rfl rfl
theorem w_159 : Cond.laysFinal "DutyRules$Rules" "DutyRules$Rules" "numbers" "[I" ∈ g_T := gT_1 159 rfl rfl
theorem w_161 : Cond.superclass "DutyRules$Rules" "java/lang/Object" ∈ g_T := gT_1 161 rfl rfl
theorem w_163 : Cond.fieldLink "DutyRules" 10 "DutyRules" "text" "Ljava/lang/StringBuilder;" ∈ g_T := gT_1 163 rfl rfl
theorem w_164 : Cond.fieldLink "DutyRules" 19 "DutyRules" "editions" "LDutyRules$Editions;" ∈ g_T := gT_1 164 rfl rfl
theorem w_165 : Cond.fieldLink "DutyRules" 26 "DutyRules" "facts" "LDutyRules$Facts;" ∈ g_T := gT_1 165 rfl rfl
theorem w_166 : Cond.fieldLink "DutyRules" 33 "DutyRules" "asked" "LDutyRules$Duty;" ∈ g_T := gT_1 166 rfl rfl
theorem w_167 : Cond.fieldLink "DutyRules" 37 "DutyRules" "inner" "LDutyRules$Duty;" ∈ g_T := gT_1 167 rfl rfl
theorem w_168 : Cond.fieldLink "DutyRules" 43 "DutyRules" "lastRead" "LDutyRules$Rules;" ∈ g_T := gT_1 168 rfl rfl
theorem w_169 : Cond.fieldLink "DutyRules" 49 "DutyRules" "written" "Ljava/lang/String;" ∈ g_T := gT_1 169 rfl rfl
theorem w_170 : Cond.fieldLink "DutyRules" 53 "DutyRules" "wasAsked" "Z" ∈ g_T := gT_1 170 rfl rfl
theorem w_171 : Cond.fieldLink "DutyRules" 57 "DutyRules" "newestReturn" "LDutyRules$Return;" ∈ g_T := gT_1 171 rfl rfl
theorem w_172 : Cond.fieldLink "DutyRules" 61 "DutyRules" "lastReturn" "LDutyRules$Return;" ∈ g_T := gT_1 172 rfl rfl
theorem w_173 : Cond.laysFinal "DutyRules" "DutyRules" "text" "Ljava/lang/StringBuilder;" ∈ g_T := gT_1 173 rfl rfl
theorem w_175 : Cond.laysFinal "DutyRules" "DutyRules" "editions" "LDutyRules$Editions;" ∈ g_T := gT_1 175 rfl rfl
theorem w_177 : Cond.laysFinal "DutyRules" "DutyRules" "facts" "LDutyRules$Facts;" ∈ g_T := gT_1 177 rfl rfl
theorem w_179 : Cond.laysFinal "DutyRules" "DutyRules" "asked" "LDutyRules$Duty;" ∈ g_T := gT_1 179 rfl rfl
theorem w_181 : Cond.laysFinal "DutyRules" "DutyRules" "inner" "LDutyRules$Duty;" ∈ g_T := gT_1 181 rfl rfl
theorem w_183 : Cond.lays "DutyRules" "DutyRules" "lastRead" "LDutyRules$Rules;" ∈ g_T := gT_1 183 rfl rfl
theorem w_185 : Cond.lays "DutyRules" "DutyRules" "written" "Ljava/lang/String;" ∈ g_T := gT_1 185 rfl rfl
theorem w_187 : Cond.lays "DutyRules" "DutyRules" "wasAsked" "Z" ∈ g_T := gT_1 187 rfl rfl
theorem w_189 : Cond.lays "DutyRules" "DutyRules" "newestReturn" "LDutyRules$Return;" ∈ g_T := gT_1 189 rfl rfl
theorem w_191 : Cond.lays "DutyRules" "DutyRules" "lastReturn" "LDutyRules$Return;" ∈ g_T := gT_1 191 rfl rfl
theorem w_193 : Cond.superclass "DutyRules" "java/lang/Object" ∈ g_T := gT_1 193 rfl rfl
theorem w_194 : Cond.methodLink "DutyRulesLaw" 13 y_DR_unit ∈ g_T := gT_1 194 rfl rfl
theorem w_195 : Cond.instanceMethod y_DR_unit ∈ g_T := gT_1 195 rfl rfl
theorem w_196 : Cond.selects "DutyRules" y_DR_unit y_DR_unit ∈ g_T := gT_1 196 rfl rfl
theorem w_197 : Cond.code y_DR_unit b_DR_unit 2 (some .boolean) ∈ g_T := gT_1 197 rfl rfl
theorem w_198 : Cond.methodLink "DutyRules" 64 y_SB_length ∈ g_T := gT_1 198 rfl rfl
theorem w_199 : Cond.instanceMethod y_SB_length ∈ g_T := gT_1 199 rfl rfl
theorem w_200 : Cond.selects "java/lang/StringBuilder" y_SB_length y_SB_length ∈ g_T := gT_1 200 rfl rfl
theorem w_201 : Cond.code y_SB_length b_SB_length 1 (some .int) ∈ g_T := gT_1 201 rfl rfl
theorem w_202 : Cond.methodLink "java/lang/StringBuilder" 343 y_AB_length ∈ g_T := gT_1 202 rfl rfl
theorem w_203 : Cond.instanceMethod y_AB_length ∈ g_T := gT_1 203 rfl rfl
theorem w_204 : Cond.code y_AB_length b_AB_length 1 (some .int) ∈ g_T := gT_1 204 rfl rfl
theorem w_205 : Cond.methodLink "DutyRules" 68 y_SB_append ∈ g_T := gT_1 205 rfl rfl
theorem w_206 : Cond.instanceMethod y_SB_append ∈ g_T := gT_1 206 rfl rfl
theorem w_207 : Cond.selects "java/lang/StringBuilder" y_SB_append y_SB_append ∈ g_T := gT_1 207 rfl rfl
theorem w_208 : Cond.code y_SB_append b_SB_append 2 (some (.object "java/lang/StringBuilder")) ∈ g_T := gT_1 208 rfl rfl
theorem w_209 : Cond.methodLink "java/lang/StringBuilder" 50 y_AB_append ∈ g_T := gT_1 209 rfl rfl
theorem w_210 : Cond.instanceMethod y_AB_append ∈ g_T := gT_1 210 rfl rfl
theorem w_211 : Cond.code y_AB_append b_AB_append 2 (some (.object "java/lang/AbstractStringBuilder")) ∈ g_T := gT_1 211 rfl rfl
theorem w_212 : Cond.methodLink "java/lang/AbstractStringBuilder" 100 y_AB_ensureCapacityInternal ∈ g_T := gT_1 212 rfl rfl
theorem w_214 : Cond.instanceMethod y_AB_ensureCapacityInternal ∈ g_T := gT_1 214 rfl rfl
theorem w_215 : Cond.code y_AB_ensureCapacityInternal b_AB_ensureCapacityInternal 3 none ∈ g_T := gT_1 215 rfl rfl
theorem w_216 : Cond.methodLink "java/lang/AbstractStringBuilder" 104 y_AB_newCapacity ∈ g_T := gT_1 216 rfl rfl
theorem w_218 : Cond.instanceMethod y_AB_newCapacity ∈ g_T := gT_1 218 rfl rfl
theorem w_219 : Cond.code y_AB_newCapacity b_AB_newCapacity 6 (some .int) ∈ g_T := gT_1 219 rfl rfl
theorem w_220 : Cond.methodLink "java/lang/AbstractStringBuilder" 114 y_AS_newLength ∈ g_T := gT_1 220 rfl rfl
theorem w_221 : Cond.static y_AS_newLength ∈ g_T := gT_1 221 rfl rfl
theorem w_222 : Cond.code y_AS_newLength b_AS_newLength 4 (some .int) ∈ g_T := gT_1 222 rfl rfl
theorem w_223 : Cond.methodLink "jdk/internal/util/ArraysSupport" 194 y_MA_max ∈ g_T := gT_1 223 rfl rfl
theorem w_224 : Cond.static y_MA_max ∈ g_T := gT_1 224 rfl rfl
theorem w_225 : Cond.code y_MA_max b_MA_max 2 (some .int) ∈ g_T := gT_1 225 rfl rfl
theorem w_226 : Cond.constant "jdk/internal/util/ArraysSupport" 200 2147483639 ∈ g_T := gT_1 226 rfl rfl
theorem w_227 : Cond.methodLink "jdk/internal/util/ArraysSupport" 201 y_AS_hugeLength ∈ g_T := gT_1 227 rfl rfl
theorem w_228 : Cond.static y_AS_hugeLength ∈ g_T := gT_1 228 rfl rfl
theorem w_229 : Cond.code y_AS_hugeLength b_AS_hugeLength 3 (some .int) ∈ g_T := gT_1 229 rfl rfl
theorem w_230 : Cond.constant "java/lang/AbstractStringBuilder" 39 2147483647 ∈ g_T := gT_1 230 rfl rfl
theorem w_231 : Cond.methodLink "java/lang/AbstractStringBuilder" 108 y_AR_copyOf ∈ g_T := gT_1 231 rfl rfl
theorem w_232 : Cond.static y_AR_copyOf ∈ g_T := gT_1 232 rfl rfl
theorem w_233 : Cond.code y_AR_copyOf b_AR_copyOf 3 (some (.array .byte)) ∈ g_T := gT_1 233 rfl rfl
theorem w_234 : Cond.methodLink "java/util/Arrays" 310 ({ cls := "[B", name := "clone", desc := "()Ljava/lang/Object;" } : MethodName) ∈ g_T := gT_1 234 rfl rfl
theorem w_235 : Cond.sameMethod "[B" "java/lang/Object" "clone" "()Ljava/lang/Object;" ∈ g_T := gT_1 235 rfl rfl
theorem w_236 : Cond.native ({ cls := "java/lang/Object", name := "clone", desc := "()Ljava/lang/Object;" } : MethodName) ∈ g_T := gT_1 236 rfl rfl
theorem w_237 : Cond.instanceMethod ({ cls := "java/lang/Object", name := "clone", desc := "()Ljava/lang/Object;" } : MethodName) ∈ g_T := gT_1 237 rfl rfl
theorem w_238 : Cond.selects "[B" ({ cls := "[B", name := "clone", desc := "()Ljava/lang/Object;" } : MethodName) ({ cls := "java/lang/Object", name := "clone", desc := "()Ljava/lang/Object;" } : MethodName) ∈ g_T := gT_1 238 rfl rfl
theorem w_240 : Cond.classLink "java/util/Arrays" 311 "[B" ∈ g_T := gT_2 0 rfl rfl
theorem w_241 : Cond.methodLink "java/util/Arrays" 304 y_MA_min ∈ g_T := gT_2 1 rfl rfl
theorem w_242 : Cond.static y_MA_min ∈ g_T := gT_2 2 rfl rfl
theorem w_243 : Cond.code y_MA_min b_MA_min 2 (some .int) ∈ g_T := gT_2 3 rfl rfl
theorem w_244 : Cond.methodLink "java/util/Arrays" 150 ({ cls := "java/lang/System", name := "arraycopy", desc := "(Ljava/lang/Object;ILjava/lang/Object;II)V" } : MethodName) ∈ g_T := gT_2 4 rfl rfl
theorem w_245 : Cond.static ({ cls := "java/lang/System", name := "arraycopy", desc := "(Ljava/lang/Object;ILjava/lang/Object;II)V" } : MethodName) ∈ g_T := gT_2 5 rfl rfl
theorem w_246 : Cond.native ({ cls := "java/lang/System", name := "arraycopy", desc := "(Ljava/lang/Object;ILjava/lang/Object;II)V" } : MethodName) ∈ g_T := gT_2 6 rfl rfl
theorem w_247 : Cond.methodLink "java/lang/AbstractStringBuilder" 83 y_AB_isLatin1 ∈ g_T := gT_2 7 rfl rfl
theorem w_248 : Cond.instanceMethod y_AB_isLatin1 ∈ g_T := gT_2 8 rfl rfl
theorem w_249 : Cond.sameMethod "java/lang/AbstractStringBuilder" "java/lang/AbstractStringBuilder" "isLatin1" "()Z" ∈ g_T := gT_2 9 rfl rfl
theorem w_250 : Cond.selects "java/lang/StringBuilder" y_AB_isLatin1 y_AB_isLatin1 ∈ g_T := gT_2 10 rfl rfl
theorem w_251 : Cond.code y_AB_isLatin1 b_AB_isLatin1 1 (some .boolean) ∈ g_T := gT_2 11 rfl rfl
theorem w_252 : Cond.methodLink "java/lang/AbstractStringBuilder" 191 y_L1_canEncode ∈ g_T := gT_2 12 rfl rfl
theorem w_253 : Cond.static y_L1_canEncode ∈ g_T := gT_2 13 rfl rfl
theorem w_254 : Cond.code y_L1_canEncode b_L1_canEncode 1 (some .boolean) ∈ g_T := gT_2 14 rfl rfl
theorem w_255 : Cond.methodLink "java/lang/AbstractStringBuilder" 195 y_AB_inflate ∈ g_T := gT_2 15 rfl rfl
theorem w_257 : Cond.instanceMethod y_AB_inflate ∈ g_T := gT_2 17 rfl rfl
theorem w_258 : Cond.code y_AB_inflate b_AB_inflate 2 none ∈ g_T := gT_2 18 rfl rfl
theorem w_259 : Cond.methodLink "java/lang/AbstractStringBuilder" 125 y_L1_inflate ∈ g_T := gT_2 19 rfl rfl
theorem w_260 : Cond.static y_L1_inflate ∈ g_T := gT_2 20 rfl rfl
theorem w_261 : Cond.code y_L1_inflate b_L1_inflate 5 none ∈ g_T := gT_2 21 rfl rfl
theorem w_262 : Cond.methodLink "java/lang/StringLatin1" 240 y_U6_inflate ∈ g_T := gT_2 22 rfl rfl
theorem w_263 : Cond.static y_U6_inflate ∈ g_T := gT_2 23 rfl rfl
theorem w_264 : Cond.code y_U6_inflate b_U6_inflate 6 none ∈ g_T := gT_2 24 rfl rfl
theorem w_265 : Cond.methodLink "java/lang/StringUTF16" 173 y_U6_checkBoundsOffCount ∈ g_T := gT_2 25 rfl rfl
theorem w_266 : Cond.static y_U6_checkBoundsOffCount ∈ g_T := gT_2 26 rfl rfl
theorem w_267 : Cond.code y_U6_checkBoundsOffCount b_U6_checkBoundsOffCount 3 none ∈ g_T := gT_2 27 rfl rfl
theorem w_268 : Cond.methodLink "java/lang/StringUTF16" 48 y_U6_length ∈ g_T := gT_2 28 rfl rfl
theorem w_269 : Cond.static y_U6_length ∈ g_T := gT_2 29 rfl rfl
theorem w_270 : Cond.code y_U6_length b_U6_length 1 (some .int) ∈ g_T := gT_2 30 rfl rfl
theorem w_271 : Cond.methodLink "java/lang/StringUTF16" 419 y_ST_checkBoundsOffCount ∈ g_T := gT_2 31 rfl rfl
theorem w_272 : Cond.static y_ST_checkBoundsOffCount ∈ g_T := gT_2 32 rfl rfl
theorem w_273 : Cond.code y_ST_checkBoundsOffCount b_ST_checkBoundsOffCount 3 (some .int) ∈ g_T := gT_2 33 rfl rfl
theorem w_274 : Cond.fieldLink "java/lang/String" 1053 "jdk/internal/util/Preconditions" "SIOOBE_FORMATTER" "Ljava/util/function/BiFunction;" ∈ g_T := gT_2 34 rfl rfl
theorem w_276 : Cond.methodLink "java/lang/String" 1065 y_PR_checkFromIndexSize ∈ g_T := gT_2 36 rfl rfl
theorem w_277 : Cond.static y_PR_checkFromIndexSize ∈ g_T := gT_2 37 rfl rfl
theorem w_278 : Cond.code y_PR_checkFromIndexSize b_PR_checkFromIndexSize 4 (some .int) ∈ g_T := gT_2 38 rfl rfl
theorem w_279 : Cond.methodLink "java/lang/StringUTF16" 111 y_U6_putChar ∈ g_T := gT_2 39 rfl rfl
theorem w_280 : Cond.static y_U6_putChar ∈ g_T := gT_2 40 rfl rfl
theorem w_281 : Cond.code y_U6_putChar b_U6_putChar 3 none ∈ g_T := gT_2 41 rfl rfl
theorem w_282 : Cond.fieldLink "java/lang/StringUTF16" 44 "java/lang/StringUTF16" "$assertionsDisabled" "Z" ∈ g_T := gT_2 42 rfl rfl
theorem w_284 : Cond.fieldLink "java/lang/StringUTF16" 59 "java/lang/StringUTF16" "HI_BYTE_SHIFT" "I" ∈ g_T := gT_2 44 rfl rfl
theorem w_286 : Cond.fieldLink "java/lang/StringUTF16" 63 "java/lang/StringUTF16" "LO_BYTE_SHIFT" "I" ∈ g_T := gT_2 46 rfl rfl
theorem w_288 : Cond.methodLink "java/lang/AbstractStringBuilder" 197 y_U6_putCharSB ∈ g_T := gT_2 48 rfl rfl
theorem w_289 : Cond.static y_U6_putCharSB ∈ g_T := gT_2 49 rfl rfl
theorem w_290 : Cond.code y_U6_putCharSB b_U6_putCharSB 3 none ∈ g_T := gT_2 50 rfl rfl
theorem w_291 : Cond.methodLink "java/lang/StringUTF16" 67 y_U6_checkIndex ∈ g_T := gT_2 51 rfl rfl
theorem w_292 : Cond.static y_U6_checkIndex ∈ g_T := gT_2 52 rfl rfl
theorem w_293 : Cond.code y_U6_checkIndex b_U6_checkIndex 2 none ∈ g_T := gT_2 53 rfl rfl
theorem w_294 : Cond.methodLink "java/lang/StringUTF16" 414 y_ST_checkIndex ∈ g_T := gT_2 54 rfl rfl
theorem w_295 : Cond.static y_ST_checkIndex ∈ g_T := gT_2 55 rfl rfl
theorem w_296 : Cond.code y_ST_checkIndex b_ST_checkIndex 2 none ∈ g_T := gT_2 56 rfl rfl
theorem w_297 : Cond.methodLink "java/lang/String" 1059 y_PR_checkIndex ∈ g_T := gT_2 57 rfl rfl
theorem w_298 : Cond.static y_PR_checkIndex ∈ g_T := gT_2 58 rfl rfl
theorem w_299 : Cond.code y_PR_checkIndex b_PR_checkIndex 3 (some .int) ∈ g_T := gT_2 59 rfl rfl
theorem w_300 : Cond.methodLink "DutyRulesLaw" 18 y_DR_read ∈ g_T := gT_2 60 rfl rfl
theorem w_301 : Cond.instanceMethod y_DR_read ∈ g_T := gT_2 61 rfl rfl
theorem w_302 : Cond.selects "DutyRules" y_DR_read y_DR_read ∈ g_T := gT_2 62 rfl rfl
theorem w_303 : Cond.code y_DR_read b_DR_read 3 (some .int) ∈ g_T := gT_2 63 rfl rfl
theorem w_304 : Cond.classLink "DutyRules" 72 "DutyRules$Words" ∈ g_T := gT_2 64 rfl rfl
theorem w_305 : Cond.instantiable "DutyRules$Words" 4 ∈ g_T := gT_2 65 rfl rfl
theorem w_306 : Cond.methodLink "DutyRules" 74 y_SB_toString ∈ g_T := gT_2 66 rfl rfl
theorem w_307 : Cond.instanceMethod y_SB_toString ∈ g_T := gT_2 67 rfl rfl
theorem w_308 : Cond.selects "java/lang/StringBuilder" y_SB_toString y_SB_toString ∈ g_T := gT_2 68 rfl rfl
theorem w_309 : Cond.code y_SB_toString b_SB_toString 1 (some (.object "java/lang/String")) ∈ g_T := gT_2 69 rfl rfl
theorem w_310 : Cond.classLink "java/lang/StringBuilder" 18 "java/lang/String" ∈ g_T := gT_2 70 rfl rfl
theorem w_311 : Cond.instantiable "java/lang/String" 4 ∈ g_T := gT_2 71 rfl rfl
theorem w_312 : Cond.methodLink "java/lang/StringBuilder" 137 y_ST_init ∈ g_T := gT_2 72 rfl rfl
theorem w_313 : Cond.instanceMethod y_ST_init ∈ g_T := gT_2 73 rfl rfl
theorem w_314 : Cond.code y_ST_init b_ST_init 2 none ∈ g_T := gT_2 74 rfl rfl
theorem w_315 : Cond.methodLink "java/lang/String" 489 y_ST_init2 ∈ g_T := gT_2 75 rfl rfl
theorem w_316 : Cond.instanceMethod y_ST_init2 ∈ g_T := gT_2 76 rfl rfl
theorem w_317 : Cond.code y_ST_init2 b_ST_init2 5 none ∈ g_T := gT_2 77 rfl rfl
theorem w_318 : Cond.methodLink "java/lang/String" 1 y_OB_init ∈ g_T := gT_2 78 rfl rfl
theorem w_319 : Cond.methodLink "java/lang/String" 552 y_AB_getValue ∈ g_T := gT_2 79 rfl rfl
theorem w_320 : Cond.instanceMethod y_AB_getValue ∈ g_T := gT_2 80 rfl rfl
theorem w_321 : Cond.sameMethod "java/lang/AbstractStringBuilder" "java/lang/AbstractStringBuilder" "getValue" "()[B" ∈ g_T := gT_2 81 rfl rfl
theorem w_322 : Cond.selects "java/lang/StringBuilder" y_AB_getValue y_AB_getValue ∈ g_T := gT_2 82 rfl rfl
theorem w_323 : Cond.code y_AB_getValue b_AB_getValue 1 (some (.array .byte)) ∈ g_T := gT_2 83 rfl rfl
theorem w_324 : Cond.methodLink "java/lang/String" 549 y_AB_length ∈ g_T := gT_2 84 rfl rfl
theorem w_325 : Cond.methodLink "java/lang/String" 1047 y_AB_isLatin1 ∈ g_T := gT_2 85 rfl rfl
theorem w_326 : Cond.methodLink "java/lang/String" 54 y_AR_copyOfRange ∈ g_T := gT_2 86 rfl rfl
theorem w_327 : Cond.static y_AR_copyOfRange ∈ g_T := gT_2 87 rfl rfl
theorem w_328 : Cond.code y_AR_copyOfRange b_AR_copyOfRange 3 (some (.array .byte)) ∈ g_T := gT_2 88 rfl rfl
theorem w_329 : Cond.methodLink "java/util/Arrays" 339 y_AR_copyOfRangeByte ∈ g_T := gT_2 89 rfl rfl
theorem w_330 : Cond.static y_AR_copyOfRangeByte ∈ g_T := gT_2 90 rfl rfl
theorem w_331 : Cond.code y_AR_copyOfRangeByte b_AR_copyOfRangeByte 5 (some (.array .byte)) ∈ g_T := gT_2 91 rfl rfl
theorem w_332 : Cond.methodLink "java/util/Arrays" 343 y_AR_checkLength ∈ g_T := gT_2 92 rfl rfl
theorem w_333 : Cond.static y_AR_checkLength ∈ g_T := gT_2 93 rfl rfl
theorem w_334 : Cond.code y_AR_checkLength b_AR_checkLength 2 none ∈ g_T := gT_2 94 rfl rfl
theorem w_335 : Cond.fieldLink "java/lang/String" 38 "java/lang/String" "COMPACT_STRINGS" "Z" ∈ g_T := gT_2 95 rfl rfl
theorem w_336 : Cond.methodLink "java/lang/String" 1051 y_U6_compress ∈ g_T := gT_2 96 rfl rfl
theorem w_337 : Cond.static y_U6_compress ∈ g_T := gT_2 97 rfl rfl
theorem w_338 : Cond.code y_U6_compress b_U6_compress 6 (some (.array .byte)) ∈ g_T := gT_2 98 rfl rfl
theorem w_339 : Cond.methodLink "java/lang/StringUTF16" 123 y_U6_compress2 ∈ g_T := gT_2 99 rfl rfl
theorem w_340 : Cond.static y_U6_compress2 ∈ g_T := gT_2 100 rfl rfl
theorem w_341 : Cond.code y_U6_compress2 b_U6_compress2 7 (some .int) ∈ g_T := gT_2 101 rfl rfl
theorem w_342 : Cond.methodLink "java/lang/StringUTF16" 71 y_U6_getChar ∈ g_T := gT_2 102 rfl rfl
theorem w_343 : Cond.static y_U6_getChar ∈ g_T := gT_2 103 rfl rfl
theorem w_344 : Cond.code y_U6_getChar b_U6_getChar 2 (some .char) ∈ g_T := gT_2 104 rfl rfl
theorem w_345 : Cond.methodLink "java/lang/StringUTF16" 126 y_AR_copyOfRange ∈ g_T := gT_2 105 rfl rfl
theorem w_346 : Cond.methodLink "java/lang/String" 47 y_U6_coderFromArrayLen ∈ g_T := gT_2 106 rfl rfl
theorem w_347 : Cond.static y_U6_coderFromArrayLen ∈ g_T := gT_2 107 rfl rfl
theorem w_348 : Cond.code y_U6_coderFromArrayLen b_U6_coderFromArrayLen 2 (some .byte) ∈ g_T := gT_2 108 rfl rfl
theorem w_349 : Cond.fieldLink "java/lang/String" 9 "java/lang/String" "value" "[B" ∈ g_T := gT_2 109 rfl rfl
theorem w_350 : Cond.fieldLink "java/lang/String" 15 "java/lang/String" "coder" "B" ∈ g_T := gT_2 110 rfl rfl
theorem w_351 : Cond.laysFinal "java/lang/String" "java/lang/String" "value" "[B" ∈ g_T := gT_2 111 rfl rfl
theorem w_353 : Cond.laysFinal "java/lang/String" "java/lang/String" "coder" "B" ∈ g_T := gT_2 113 rfl rfl
theorem w_355 : Cond.lays "java/lang/String" "java/lang/String" "hash" "I" ∈ g_T := gT_2 115 rfl rfl
theorem w_357 : Cond.lays "java/lang/String" "java/lang/String" "hashIsZero" "Z" ∈ g_T := gT_2 117 rfl rfl
theorem w_359 : Cond.superclass "java/lang/String" "java/lang/Object" ∈ g_T := gT_2 119 rfl rfl
theorem w_360 : Cond.methodLink "DutyRules" 78 y_WO_init ∈ g_T := gT_2 120 rfl rfl
theorem w_361 : Cond.instanceMethod y_WO_init ∈ g_T := gT_2 121 rfl rfl
theorem w_362 : Cond.code y_WO_init b_WO_init 2 none ∈ g_T := gT_2 122 rfl rfl
theorem w_363 : Cond.methodLink "DutyRules$Words" 3 y_OB_init ∈ g_T := gT_2 123 rfl rfl
theorem w_364 : Cond.methodLink "DutyRules$Words" 25 y_WO_advance ∈ g_T := gT_2 124 rfl rfl
theorem w_365 : Cond.instanceMethod y_WO_advance ∈ g_T := gT_2 125 rfl rfl
theorem w_366 : Cond.selects "DutyRules$Words" y_WO_advance y_WO_advance ∈ g_T := gT_2 126 rfl rfl
theorem w_367 : Cond.code y_WO_advance b_WO_advance 2 none ∈ g_T := gT_2 127 rfl rfl
theorem w_368 : Cond.methodLink "DutyRules$Words" 28 y_ST_length ∈ g_T := gT_2 128 rfl rfl
theorem w_369 : Cond.instanceMethod y_ST_length ∈ g_T := gT_2 129 rfl rfl
theorem w_370 : Cond.selects "java/lang/String" y_ST_length y_ST_length ∈ g_T := gT_2 130 rfl rfl
theorem w_371 : Cond.code y_ST_length b_ST_length 1 (some .int) ∈ g_T := gT_2 131 rfl rfl
theorem w_372 : Cond.methodLink "java/lang/String" 335 y_ST_coder ∈ g_T := gT_2 132 rfl rfl
theorem w_373 : Cond.instanceMethod y_ST_coder ∈ g_T := gT_2 133 rfl rfl
theorem w_374 : Cond.selects "java/lang/String" y_ST_coder y_ST_coder ∈ g_T := gT_2 134 rfl rfl
theorem w_375 : Cond.code y_ST_coder b_ST_coder 1 (some .byte) ∈ g_T := gT_2 135 rfl rfl
theorem w_376 : Cond.methodLink "DutyRules$Words" 34 y_ST_charAt ∈ g_T := gT_2 136 rfl rfl
theorem w_377 : Cond.instanceMethod y_ST_charAt ∈ g_T := gT_2 137 rfl rfl
theorem w_378 : Cond.selects "java/lang/String" y_ST_charAt y_ST_charAt ∈ g_T := gT_2 138 rfl rfl
theorem w_379 : Cond.code y_ST_charAt b_ST_charAt 2 (some .char) ∈ g_T := gT_2 139 rfl rfl
theorem w_380 : Cond.methodLink "java/lang/String" 492 y_ST_isLatin1 ∈ g_T := gT_2 140 rfl rfl
theorem w_381 : Cond.instanceMethod y_ST_isLatin1 ∈ g_T := gT_2 141 rfl rfl
theorem w_382 : Cond.selects "java/lang/String" y_ST_isLatin1 y_ST_isLatin1 ∈ g_T := gT_2 142 rfl rfl
theorem w_383 : Cond.code y_ST_isLatin1 b_ST_isLatin1 1 (some .boolean) ∈ g_T := gT_2 143 rfl rfl
theorem w_384 : Cond.methodLink "java/lang/String" 495 y_L1_charAt ∈ g_T := gT_2 144 rfl rfl
theorem w_385 : Cond.static y_L1_charAt ∈ g_T := gT_2 145 rfl rfl
theorem w_386 : Cond.code y_L1_charAt b_L1_charAt 2 (some .char) ∈ g_T := gT_2 146 rfl rfl
theorem w_387 : Cond.methodLink "java/lang/StringLatin1" 9 y_ST_checkIndex ∈ g_T := gT_2 147 rfl rfl
theorem w_388 : Cond.methodLink "java/lang/String" 498 y_U6_charAt ∈ g_T := gT_2 148 rfl rfl
theorem w_389 : Cond.static y_U6_charAt ∈ g_T := gT_2 149 rfl rfl
theorem w_390 : Cond.code y_U6_charAt b_U6_charAt 2 (some .char) ∈ g_T := gT_2 150 rfl rfl
theorem w_391 : Cond.methodLink "DutyRules$Words" 38 y_WO_isBlank ∈ g_T := gT_2 151 rfl rfl
theorem w_392 : Cond.static y_WO_isBlank ∈ g_T := gT_2 152 rfl rfl
theorem w_393 : Cond.code y_WO_isBlank b_WO_isBlank 1 (some .boolean) ∈ g_T := gT_2 153 rfl rfl
theorem w_394 : Cond.fieldLink "DutyRules$Words" 9 "DutyRules$Words" "text" "Ljava/lang/String;" ∈ g_T := gT_2 154 rfl rfl
theorem w_395 : Cond.fieldLink "DutyRules$Words" 15 "DutyRules$Words" "start" "I" ∈ g_T := gT_2 155 rfl rfl
theorem w_396 : Cond.fieldLink "DutyRules$Words" 19 "DutyRules$Words" "end" "I" ∈ g_T := gT_2 156 rfl rfl
theorem w_397 : Cond.fieldLink "DutyRules$Words" 22 "DutyRules$Words" "number" "I" ∈ g_T := gT_2 157 rfl rfl
theorem w_399 : Cond.laysFinal "DutyRules$Words" "DutyRules$Words" "text" "Ljava/lang/String;" ∈ g_T := gT_2 159 rfl rfl
theorem w_401 : Cond.lays "DutyRules$Words" "DutyRules$Words" "start" "I" ∈ g_T := gT_2 161 rfl rfl
theorem w_403 : Cond.lays "DutyRules$Words" "DutyRules$Words" "end" "I" ∈ g_T := gT_2 163 rfl rfl
theorem w_405 : Cond.lays "DutyRules$Words" "DutyRules$Words" "number" "I" ∈ g_T := gT_2 165 rfl rfl
theorem w_407 : Cond.superclass "DutyRules$Words" "java/lang/Object" ∈ g_T := gT_2 167 rfl rfl
theorem w_408 : Cond.methodLink "DutyRules" 81 y_SB_setLength ∈ g_T := gT_2 168 rfl rfl
theorem w_409 : Cond.instanceMethod y_SB_setLength ∈ g_T := gT_2 169 rfl rfl
theorem w_410 : Cond.selects "java/lang/StringBuilder" y_SB_setLength y_SB_setLength ∈ g_T := gT_2 170 rfl rfl
theorem w_411 : Cond.code y_SB_setLength b_SB_setLength 2 none ∈ g_T := gT_2 171 rfl rfl
theorem w_412 : Cond.methodLink "java/lang/StringBuilder" 333 y_AB_setLength ∈ g_T := gT_2 172 rfl rfl
theorem w_413 : Cond.instanceMethod y_AB_setLength ∈ g_T := gT_2 173 rfl rfl
theorem w_414 : Cond.code y_AB_setLength b_AB_setLength 2 none ∈ g_T := gT_2 174 rfl rfl
theorem w_415 : Cond.methodLink "java/lang/AbstractStringBuilder" 133 y_L1_fillNull ∈ g_T := gT_2 175 rfl rfl
theorem w_416 : Cond.static y_L1_fillNull ∈ g_T := gT_2 176 rfl rfl
theorem w_417 : Cond.code y_L1_fillNull b_L1_fillNull 3 none ∈ g_T := gT_2 177 rfl rfl
theorem w_418 : Cond.methodLink "java/lang/StringLatin1" 236 y_AR_fill ∈ g_T := gT_2 178 rfl rfl
theorem w_419 : Cond.static y_AR_fill ∈ g_T := gT_2 179 rfl rfl
theorem w_420 : Cond.code y_AR_fill b_AR_fill 5 none ∈ g_T := gT_2 180 rfl rfl
theorem w_421 : Cond.methodLink "java/util/Arrays" 13 y_AR_rangeCheck ∈ g_T := gT_2 181 rfl rfl
theorem w_422 : Cond.static y_AR_rangeCheck ∈ g_T := gT_2 182 rfl rfl
theorem w_423 : Cond.code y_AR_rangeCheck b_AR_rangeCheck 3 none ∈ g_T := gT_2 183 rfl rfl
theorem w_424 : Cond.methodLink "java/lang/AbstractStringBuilder" 137 y_U6_fillNull ∈ g_T := gT_2 184 rfl rfl
theorem w_425 : Cond.static y_U6_fillNull ∈ g_T := gT_2 185 rfl rfl
theorem w_426 : Cond.code y_U6_fillNull b_U6_fillNull 3 none ∈ g_T := gT_2 186 rfl rfl
theorem w_427 : Cond.methodLink "java/lang/StringUTF16" 380 y_AR_fill ∈ g_T := gT_2 187 rfl rfl
theorem w_428 : Cond.methodLink "DutyRules" 85 y_GR_fill ∈ g_T := gT_2 188 rfl rfl
theorem w_429 : Cond.static y_GR_fill ∈ g_T := gT_2 189 rfl rfl
theorem w_430 : Cond.code y_GR_fill b_GR_fill 3 (some .boolean) ∈ g_T := gT_2 190 rfl rfl
theorem w_431 : Cond.methodLink "DutyRules$Grammar" 9 y_WO_isEnd ∈ g_T := gT_2 191 rfl rfl
theorem w_432 : Cond.instanceMethod y_WO_isEnd ∈ g_T := gT_2 192 rfl rfl
theorem w_433 : Cond.selects "DutyRules$Words" y_WO_isEnd y_WO_isEnd ∈ g_T := gT_2 193 rfl rfl
theorem w_434 : Cond.code y_WO_isEnd b_WO_isEnd 1 (some .boolean) ∈ g_T := gT_2 194 rfl rfl
theorem w_435 : Cond.methodLink "DutyRules$Grammar" 15 y_GR_addRule ∈ g_T := gT_2 195 rfl rfl
theorem w_436 : Cond.static y_GR_addRule ∈ g_T := gT_2 196 rfl rfl
theorem w_437 : Cond.code y_GR_addRule b_GR_addRule 7 (some .boolean) ∈ g_T := gT_2 197 rfl rfl
theorem w_438 : Cond.methodLink "DutyRules$Grammar" 21 y_GR_kindBegunBy ∈ g_T := gT_2 198 rfl rfl
theorem w_439 : Cond.static y_GR_kindBegunBy ∈ g_T := gT_2 199 rfl rfl
theorem w_440 : Cond.code y_GR_kindBegunBy b_GR_kindBegunBy 2 (some .int) ∈ g_T := gT_2 200 rfl rfl
theorem w_441 : Cond.classLink "DutyRules$Grammar" 10 "DutyRules$Words" ∈ g_T := gT_2 201 rfl rfl
theorem w_442 : Cond.methodLink "DutyRules$Grammar" 35 y_GR_formOf ∈ g_T := gT_2 202 rfl rfl
theorem w_443 : Cond.static y_GR_formOf ∈ g_T := gT_2 203 rfl rfl
theorem w_444 : Cond.code y_GR_formOf b_GR_formOf 1 (some (.object "java/lang/String")) ∈ g_T := gT_2 204 rfl rfl
theorem w_451 : Cond.methodLink "DutyRules$Grammar" 39 y_WO_init ∈ g_T := gT_2 211 rfl rfl
theorem w_452 : Cond.methodLink "DutyRules$Grammar" 50 y_WO_isSameWordAs ∈ g_T := gT_2 212 rfl rfl
theorem w_453 : Cond.instanceMethod y_WO_isSameWordAs ∈ g_T := gT_2 213 rfl rfl
theorem w_454 : Cond.selects "DutyRules$Words" y_WO_isSameWordAs y_WO_isSameWordAs ∈ g_T := gT_2 214 rfl rfl
theorem w_455 : Cond.code y_WO_isSameWordAs b_WO_isSameWordAs 4 (some .boolean) ∈ g_T := gT_2 215 rfl rfl
theorem w_456 : Cond.methodLink "DutyRules$Grammar" 25 y_RU_mayBegin ∈ g_T := gT_2 216 rfl rfl
theorem w_457 : Cond.instanceMethod y_RU_mayBegin ∈ g_T := gT_2 217 rfl rfl
theorem w_458 : Cond.selects "DutyRules$Rules" y_RU_mayBegin y_RU_mayBegin ∈ g_T := gT_2 218 rfl rfl
theorem w_459 : Cond.code y_RU_mayBegin b_RU_mayBegin 2 (some .boolean) ∈ g_T := gT_2 219 rfl rfl
theorem w_460 : Cond.methodLink "DutyRules$Rules" 22 y_RU_firstOfKind ∈ g_T := gT_2 220 rfl rfl
theorem w_461 : Cond.instanceMethod y_RU_firstOfKind ∈ g_T := gT_2 221 rfl rfl
theorem w_462 : Cond.selects "DutyRules$Rules" y_RU_firstOfKind y_RU_firstOfKind ∈ g_T := gT_2 222 rfl rfl
theorem w_463 : Cond.code y_RU_firstOfKind b_RU_firstOfKind 3 (some .int) ∈ g_T := gT_2 223 rfl rfl
theorem w_464 : Cond.methodLink "DutyRules$Grammar" 31 y_RU_begin ∈ g_T := gT_2 224 rfl rfl
theorem w_465 : Cond.instanceMethod y_RU_begin ∈ g_T := gT_2 225 rfl rfl
theorem w_466 : Cond.selects "DutyRules$Rules" y_RU_begin y_RU_begin ∈ g_T := gT_2 226 rfl rfl
theorem w_467 : Cond.code y_RU_begin b_RU_begin 2 none ∈ g_T := gT_2 227 rfl rfl
theorem w_468 : Cond.methodLink "DutyRules$Grammar" 42 y_WO_firstByte ∈ g_T := gT_2 228 rfl rfl
theorem w_469 : Cond.instanceMethod y_WO_firstByte ∈ g_T := gT_2 229 rfl rfl
theorem w_470 : Cond.selects "DutyRules$Words" y_WO_firstByte y_WO_firstByte ∈ g_T := gT_2 230 rfl rfl
theorem w_471 : Cond.code y_WO_firstByte b_WO_firstByte 1 (some .char) ∈ g_T := gT_2 231 rfl rfl
theorem w_472 : Cond.methodLink "DutyRules$Grammar" 46 y_GR_isSlot ∈ g_T := gT_2 232 rfl rfl
theorem w_473 : Cond.static y_GR_isSlot ∈ g_T := gT_2 233 rfl rfl
theorem w_474 : Cond.code y_GR_isSlot b_GR_isSlot 1 (some .boolean) ∈ g_T := gT_2 234 rfl rfl
theorem w_475 : Cond.methodLink "DutyRules$Grammar" 54 y_WO_asNumber ∈ g_T := gT_2 235 rfl rfl
theorem w_476 : Cond.instanceMethod y_WO_asNumber ∈ g_T := gT_2 236 rfl rfl
theorem w_477 : Cond.selects "DutyRules$Words" y_WO_asNumber y_WO_asNumber ∈ g_T := gT_2 237 rfl rfl
theorem w_478 : Cond.code y_WO_asNumber b_WO_asNumber 5 (some .int) ∈ g_T := gT_2 238 rfl rfl
theorem w_479 : Cond.methodLink "DutyRules$Words" 42 y_WO_firstByte ∈ g_T := gT_2 239 rfl rfl
theorem w_480 : Cond.methodLink "DutyRules$Grammar" 58 y_GR_isInRange ∈ g_T := gT_3 0 rfl rfl
theorem w_481 : Cond.static y_GR_isInRange ∈ g_T := gT_3 1 rfl rfl
theorem w_482 : Cond.code y_GR_isInRange b_GR_isInRange 2 (some .boolean) ∈ g_T := gT_3 2 rfl rfl
theorem w_483 : Cond.constant "DutyRules$Grammar" 116 1000000 ∈ g_T := gT_3 3 rfl rfl
theorem w_484 : Cond.constant "DutyRules$Grammar" 117 100000000 ∈ g_T := gT_3 4 rfl rfl
theorem w_485 : Cond.methodLink "DutyRules$Grammar" 62 y_RU_put ∈ g_T := gT_3 5 rfl rfl
theorem w_486 : Cond.instanceMethod y_RU_put ∈ g_T := gT_3 6 rfl rfl
theorem w_487 : Cond.selects "DutyRules$Rules" y_RU_put y_RU_put ∈ g_T := gT_3 7 rfl rfl
theorem w_488 : Cond.code y_RU_put b_RU_put 4 (some .boolean) ∈ g_T := gT_3 8 rfl rfl
theorem w_489 : Cond.methodLink "DutyRules$Rules" 26 y_RU_number ∈ g_T := gT_3 9 rfl rfl
theorem w_490 : Cond.instanceMethod y_RU_number ∈ g_T := gT_3 10 rfl rfl
theorem w_491 : Cond.selects "DutyRules$Rules" y_RU_number y_RU_number ∈ g_T := gT_3 11 rfl rfl
theorem w_492 : Cond.code y_RU_number b_RU_number 3 (some .int) ∈ g_T := gT_3 12 rfl rfl
theorem w_493 : Cond.methodLink "DutyRules$Grammar" 66 y_WO_advance ∈ g_T := gT_3 13 rfl rfl
theorem w_494 : Cond.methodLink "DutyRules" 95 y_GR_asText ∈ g_T := gT_3 14 rfl rfl
theorem w_495 : Cond.static y_GR_asText ∈ g_T := gT_3 15 rfl rfl
theorem w_496 : Cond.code y_GR_asText b_GR_asText 6 (some (.object "java/lang/String")) ∈ g_T := gT_3 16 rfl rfl
theorem w_497 : Cond.classLink "DutyRules$Grammar" 69 "java/lang/StringBuilder" ∈ g_T := gT_3 17 rfl rfl
theorem w_498 : Cond.methodLink "DutyRules$Grammar" 71 y_SB_init ∈ g_T := gT_3 18 rfl rfl
theorem w_499 : Cond.methodLink "DutyRules$Grammar" 76 y_RU_kind ∈ g_T := gT_3 19 rfl rfl
theorem w_500 : Cond.instanceMethod y_RU_kind ∈ g_T := gT_3 20 rfl rfl
theorem w_501 : Cond.selects "DutyRules$Rules" y_RU_kind y_RU_kind ∈ g_T := gT_3 21 rfl rfl
theorem w_502 : Cond.code y_RU_kind b_RU_kind 2 (some .int) ∈ g_T := gT_3 22 rfl rfl
theorem w_503 : Cond.methodLink "DutyRules$Grammar" 80 y_ST_length ∈ g_T := gT_3 23 rfl rfl
theorem w_504 : Cond.methodLink "DutyRules$Grammar" 85 y_ST_charAt ∈ g_T := gT_3 24 rfl rfl
theorem w_505 : Cond.methodLink "DutyRules$Grammar" 89 y_RU_number ∈ g_T := gT_3 25 rfl rfl
theorem w_506 : Cond.methodLink "DutyRules$Grammar" 93 y_SB_append2 ∈ g_T := gT_3 26 rfl rfl
theorem w_507 : Cond.instanceMethod y_SB_append2 ∈ g_T := gT_3 27 rfl rfl
theorem w_508 : Cond.selects "java/lang/StringBuilder" y_SB_append2 y_SB_append2 ∈ g_T := gT_3 28 rfl rfl
theorem w_509 : Cond.code y_SB_append2 b_SB_append2 2 (some (.object "java/lang/StringBuilder")) ∈ g_T := gT_3 29 rfl rfl
theorem w_510 : Cond.methodLink "java/lang/StringBuilder" 53 y_AB_append2 ∈ g_T := gT_3 30 rfl rfl
theorem w_511 : Cond.instanceMethod y_AB_append2 ∈ g_T := gT_3 31 rfl rfl
theorem w_512 : Cond.code y_AB_append2 b_AB_append2 4 (some (.object "java/lang/AbstractStringBuilder")) ∈ g_T := gT_3 32 rfl rfl
theorem w_513 : Cond.methodLink "java/lang/AbstractStringBuilder" 245 y_IN_stringSize ∈ g_T := gT_3 33 rfl rfl
theorem w_514 : Cond.static y_IN_stringSize ∈ g_T := gT_3 34 rfl rfl
theorem w_515 : Cond.code y_IN_stringSize b_IN_stringSize 4 (some .int) ∈ g_T := gT_3 35 rfl rfl
theorem w_516 : Cond.methodLink "java/lang/AbstractStringBuilder" 248 y_IN_getChars ∈ g_T := gT_3 36 rfl rfl
theorem w_517 : Cond.static y_IN_getChars ∈ g_T := gT_3 37 rfl rfl
theorem w_518 : Cond.code y_IN_getChars b_IN_getChars 7 (some .int) ∈ g_T := gT_3 38 rfl rfl
theorem w_519 : Cond.fieldLink "java/lang/Integer" 83 "java/lang/Integer" "DigitOnes" "[B" ∈ g_T := gT_3 39 rfl rfl
theorem w_521 : Cond.fieldLink "java/lang/Integer" 87 "java/lang/Integer" "DigitTens" "[B" ∈ g_T := gT_3 41 rfl rfl
theorem w_523 : Cond.methodLink "java/lang/AbstractStringBuilder" 251 y_U6_getChars ∈ g_T := gT_3 43 rfl rfl
theorem w_524 : Cond.static y_U6_getChars ∈ g_T := gT_3 44 rfl rfl
theorem w_525 : Cond.code y_U6_getChars b_U6_getChars 5 (some .int) ∈ g_T := gT_3 45 rfl rfl
theorem w_526 : Cond.methodLink "java/lang/StringUTF16" 96 y_U6_checkBoundsBeginEnd ∈ g_T := gT_3 46 rfl rfl
theorem w_527 : Cond.static y_U6_checkBoundsBeginEnd ∈ g_T := gT_3 47 rfl rfl
theorem w_528 : Cond.code y_U6_checkBoundsBeginEnd b_U6_checkBoundsBeginEnd 3 none ∈ g_T := gT_3 48 rfl rfl
theorem w_529 : Cond.methodLink "java/lang/StringUTF16" 241 y_ST_checkBoundsBeginEnd ∈ g_T := gT_3 49 rfl rfl
theorem w_530 : Cond.static y_ST_checkBoundsBeginEnd ∈ g_T := gT_3 50 rfl rfl
theorem w_531 : Cond.code y_ST_checkBoundsBeginEnd b_ST_checkBoundsBeginEnd 3 none ∈ g_T := gT_3 51 rfl rfl
theorem w_532 : Cond.methodLink "java/lang/String" 1062 y_PR_checkFromToIndex ∈ g_T := gT_3 52 rfl rfl
theorem w_533 : Cond.static y_PR_checkFromToIndex ∈ g_T := gT_3 53 rfl rfl
theorem w_534 : Cond.code y_PR_checkFromToIndex b_PR_checkFromToIndex 4 (some .int) ∈ g_T := gT_3 54 rfl rfl
theorem w_535 : Cond.methodLink "java/lang/StringUTF16" 393 y_U6_getChars2 ∈ g_T := gT_3 55 rfl rfl
theorem w_536 : Cond.static y_U6_getChars2 ∈ g_T := gT_3 56 rfl rfl
theorem w_537 : Cond.code y_U6_getChars2 b_U6_getChars2 7 (some .int) ∈ g_T := gT_3 57 rfl rfl
theorem w_538 : Cond.fieldLink "java/lang/StringUTF16" 403 "java/lang/Integer" "DigitOnes" "[B" ∈ g_T := gT_3 58 rfl rfl
theorem w_539 : Cond.fieldLink "java/lang/StringUTF16" 407 "java/lang/Integer" "DigitTens" "[B" ∈ g_T := gT_3 59 rfl rfl
theorem w_540 : Cond.methodLink "DutyRules$Grammar" 97 y_SB_append ∈ g_T := gT_3 60 rfl rfl
theorem w_541 : Cond.methodLink "DutyRules$Grammar" 100 y_SB_toString ∈ g_T := gT_3 61 rfl rfl
theorem w_542 : Cond.methodLink "DutyRulesLaw" 25 y_DR_edition ∈ g_T := gT_3 62 rfl rfl
theorem w_543 : Cond.instanceMethod y_DR_edition ∈ g_T := gT_3 63 rfl rfl
theorem w_544 : Cond.selects "DutyRules" y_DR_edition y_DR_edition ∈ g_T := gT_3 64 rfl rfl
theorem w_545 : Cond.code y_DR_edition b_DR_edition 3 (some .int) ∈ g_T := gT_3 65 rfl rfl
theorem w_546 : Cond.methodLink "DutyRules" 102 y_DR_isDay ∈ g_T := gT_3 66 rfl rfl
theorem w_547 : Cond.static y_DR_isDay ∈ g_T := gT_3 67 rfl rfl
theorem w_548 : Cond.code y_DR_isDay b_DR_isDay 2 (some .boolean) ∈ g_T := gT_3 68 rfl rfl
theorem w_549 : Cond.constantLong "DutyRules" 245 100000 ∈ g_T := gT_3 69 rfl rfl
theorem w_550 : Cond.methodLink "DutyRules" 106 y_ED_add ∈ g_T := gT_3 70 rfl rfl
theorem w_551 : Cond.instanceMethod y_ED_add ∈ g_T := gT_3 71 rfl rfl
theorem w_552 : Cond.selects "DutyRules$Editions" y_ED_add y_ED_add ∈ g_T := gT_3 72 rfl rfl
theorem w_553 : Cond.code y_ED_add b_ED_add 3 (some .int) ∈ g_T := gT_3 73 rfl rfl
theorem w_554 : Cond.methodLink "DutyRulesLaw" 30 y_DR_fact ∈ g_T := gT_3 74 rfl rfl
theorem w_555 : Cond.instanceMethod y_DR_fact ∈ g_T := gT_3 75 rfl rfl
theorem w_556 : Cond.selects "DutyRules" y_DR_fact y_DR_fact ∈ g_T := gT_3 76 rfl rfl
theorem w_557 : Cond.code y_DR_fact b_DR_fact 11 (some .boolean) ∈ g_T := gT_3 77 rfl rfl
theorem w_558 : Cond.methodLink "DutyRules" 110 y_DR_isLot ∈ g_T := gT_3 78 rfl rfl
theorem w_559 : Cond.static y_DR_isLot ∈ g_T := gT_3 79 rfl rfl
theorem w_560 : Cond.code y_DR_isLot b_DR_isLot 1 (some .boolean) ∈ g_T := gT_3 80 rfl rfl
theorem w_561 : Cond.methodLink "DutyRules" 114 y_DR_isFactKind ∈ g_T := gT_3 81 rfl rfl
theorem w_562 : Cond.static y_DR_isFactKind ∈ g_T := gT_3 82 rfl rfl
theorem w_563 : Cond.code y_DR_isFactKind b_DR_isFactKind 1 (some .boolean) ∈ g_T := gT_3 83 rfl rfl
theorem w_564 : Cond.constantLong "DutyRules" 117 100 ∈ g_T := gT_3 84 rfl rfl
theorem w_565 : Cond.methodLink "DutyRules" 119 y_DR_greatestValue ∈ g_T := gT_3 85 rfl rfl
theorem w_566 : Cond.static y_DR_greatestValue ∈ g_T := gT_3 86 rfl rfl
theorem w_567 : Cond.code y_DR_greatestValue b_DR_greatestValue 1 (some .int) ∈ g_T := gT_3 87 rfl rfl
theorem w_568 : Cond.constant "DutyRules" 247 100000000 ∈ g_T := gT_3 88 rfl rfl
theorem w_569 : Cond.constant "DutyRules" 248 1000000 ∈ g_T := gT_3 89 rfl rfl
theorem w_570 : Cond.methodLink "DutyRules" 123 y_FS_add ∈ g_T := gT_3 90 rfl rfl
theorem w_571 : Cond.instanceMethod y_FS_add ∈ g_T := gT_3 91 rfl rfl
theorem w_572 : Cond.selects "DutyRules$Facts" y_FS_add y_FS_add ∈ g_T := gT_3 92 rfl rfl
theorem w_573 : Cond.code y_FS_add b_FS_add 6 (some .boolean) ∈ g_T := gT_3 93 rfl rfl
theorem w_574 : Cond.methodLink "DutyRules$Facts" 24 y_FS_placeOf ∈ g_T := gT_3 94 rfl rfl
theorem w_575 : Cond.static y_FS_placeOf ∈ g_T := gT_3 95 rfl rfl
theorem w_576 : Cond.code y_FS_placeOf b_FS_placeOf 2 (some .int) ∈ g_T := gT_3 96 rfl rfl
theorem w_579 : Cond.instantiable "DutyRules$Fact" 4 ∈ g_T := gT_3 99 rfl rfl
theorem w_580 : Cond.methodLink "DutyRules$Facts" 28 y_FA_init ∈ g_T := gT_3 100 rfl rfl
theorem w_581 : Cond.instanceMethod y_FA_init ∈ g_T := gT_3 101 rfl rfl
theorem w_582 : Cond.code y_FA_init b_FA_init 4 none ∈ g_T := gT_3 102 rfl rfl
theorem w_583 : Cond.methodLink "DutyRules$Fact" 1 y_OB_init ∈ g_T := gT_3 103 rfl rfl
theorem w_584 : Cond.fieldLink "DutyRules$Fact" 7 "DutyRules$Fact" "day" "I" ∈ g_T := gT_3 104 rfl rfl
theorem w_586 : Cond.fieldLink "DutyRules$Fact" 13 "DutyRules$Fact" "value" "I" ∈ g_T := gT_3 106 rfl rfl
theorem w_588 : Cond.fieldLink "DutyRules$Fact" 16 "DutyRules$Fact" "before" "LDutyRules$Fact;" ∈ g_T := gT_3 108 rfl rfl
theorem w_590 : Cond.fieldLink "DutyRules$Fact" 20 "DutyRules$Fact" "knownFrom" "I" ∈ g_T := gT_3 110 rfl rfl
theorem w_592 : Cond.laysFinal "DutyRules$Fact" "DutyRules$Fact" "day" "I" ∈ g_T := gT_3 112 rfl rfl
theorem w_594 : Cond.laysFinal "DutyRules$Fact" "DutyRules$Fact" "value" "I" ∈ g_T := gT_3 114 rfl rfl
theorem w_596 : Cond.laysFinal "DutyRules$Fact" "DutyRules$Fact" "before" "LDutyRules$Fact;" ∈ g_T := gT_3 116 rfl rfl
theorem w_598 : Cond.lays "DutyRules$Fact" "DutyRules$Fact" "knownFrom" "I" ∈ g_T := gT_3 118 rfl rfl
theorem w_600 : Cond.superclass "DutyRules$Fact" "java/lang/Object" ∈ g_T := gT_3 120 rfl rfl
theorem w_601 : Cond.methodLink "DutyRules$Facts" 31 y_MA_max ∈ g_T := gT_3 121 rfl rfl
theorem w_602 : Cond.methodLink "DutyRulesLaw" 35 y_DR_told ∈ g_T := gT_3 122 rfl rfl
theorem w_603 : Cond.instanceMethod y_DR_told ∈ g_T := gT_3 123 rfl rfl
theorem w_604 : Cond.selects "DutyRules" y_DR_told y_DR_told ∈ g_T := gT_3 124 rfl rfl
theorem w_605 : Cond.code y_DR_told b_DR_told 5 (some .boolean) ∈ g_T := gT_3 125 rfl rfl
theorem w_606 : Cond.methodLink "DutyRules" 126 y_FS_learnNewest ∈ g_T := gT_3 126 rfl rfl
theorem w_607 : Cond.instanceMethod y_FS_learnNewest ∈ g_T := gT_3 127 rfl rfl
theorem w_608 : Cond.selects "DutyRules$Facts" y_FS_learnNewest y_FS_learnNewest ∈ g_T := gT_3 128 rfl rfl
theorem w_609 : Cond.code y_FS_learnNewest b_FS_learnNewest 5 (some .boolean) ∈ g_T := gT_3 129 rfl rfl
theorem w_610 : Cond.methodLink "DutyRules$Facts" 36 y_FS_newestOf ∈ g_T := gT_3 130 rfl rfl
theorem w_612 : Cond.instanceMethod y_FS_newestOf ∈ g_T := gT_3 132 rfl rfl
theorem w_613 : Cond.code y_FS_newestOf b_FS_newestOf 4 (some (.object "DutyRules$Fact")) ∈ g_T := gT_3 133 rfl rfl
theorem w_614 : Cond.methodLink "DutyRulesLaw" 40 y_DR_duty ∈ g_T := gT_3 134 rfl rfl
theorem w_615 : Cond.instanceMethod y_DR_duty ∈ g_T := gT_3 135 rfl rfl
theorem w_616 : Cond.selects "DutyRules" y_DR_duty y_DR_duty ∈ g_T := gT_3 136 rfl rfl
theorem w_617 : Cond.code y_DR_duty b_DR_duty 7 (some .long) ∈ g_T := gT_3 137 rfl rfl
theorem w_618 : Cond.methodLink "DutyRules" 130 y_DR_isPart ∈ g_T := gT_3 138 rfl rfl
theorem w_619 : Cond.static y_DR_isPart ∈ g_T := gT_3 139 rfl rfl
theorem w_620 : Cond.code y_DR_isPart b_DR_isPart 1 (some .boolean) ∈ g_T := gT_3 140 rfl rfl
theorem w_621 : Cond.constantLong "DutyRules" 133 (-9223372036854775808) ∈ g_T := gT_3 141 rfl rfl
theorem w_622 : Cond.methodLink "DutyRules" 135 y_DU_reckon ∈ g_T := gT_3 142 rfl rfl
theorem w_623 : Cond.instanceMethod y_DU_reckon ∈ g_T := gT_3 143 rfl rfl
theorem w_624 : Cond.selects "DutyRules$Duty" y_DU_reckon y_DU_reckon ∈ g_T := gT_3 144 rfl rfl
theorem w_625 : Cond.code y_DU_reckon b_DU_reckon 8 none ∈ g_T := gT_3 145 rfl rfl
theorem w_626 : Cond.methodLink "DutyRules$Duty" 42 y_ED_heldOn ∈ g_T := gT_3 146 rfl rfl
theorem w_627 : Cond.instanceMethod y_ED_heldOn ∈ g_T := gT_3 147 rfl rfl
theorem w_628 : Cond.selects "DutyRules$Editions" y_ED_heldOn y_ED_heldOn ∈ g_T := gT_3 148 rfl rfl
theorem w_629 : Cond.code y_ED_heldOn b_ED_heldOn 5 (some (.object "DutyRules$Rules")) ∈ g_T := gT_3 149 rfl rfl
theorem w_630 : Cond.methodLink "DutyRules$Duty" 48 y_FS_heldValue ∈ g_T := gT_3 150 rfl rfl
theorem w_631 : Cond.instanceMethod y_FS_heldValue ∈ g_T := gT_3 151 rfl rfl
theorem w_632 : Cond.selects "DutyRules$Facts" y_FS_heldValue y_FS_heldValue ∈ g_T := gT_3 152 rfl rfl
theorem w_633 : Cond.code y_FS_heldValue b_FS_heldValue 7 (some .int) ∈ g_T := gT_3 153 rfl rfl
theorem w_634 : Cond.methodLink "DutyRules$Duty" 54 y_DU_reasonToBeOpen ∈ g_T := gT_3 154 rfl rfl
theorem w_636 : Cond.instanceMethod y_DU_reasonToBeOpen ∈ g_T := gT_3 156 rfl rfl
theorem w_637 : Cond.code y_DU_reasonToBeOpen b_DU_reasonToBeOpen 3 (some .int) ∈ g_T := gT_3 157 rfl rfl
theorem w_638 : Cond.methodLink "DutyRules$Duty" 62 y_RU_firstRate ∈ g_T := gT_3 158 rfl rfl
theorem w_639 : Cond.instanceMethod y_RU_firstRate ∈ g_T := gT_3 159 rfl rfl
theorem w_640 : Cond.selects "DutyRules$Rules" y_RU_firstRate y_RU_firstRate ∈ g_T := gT_3 160 rfl rfl
theorem w_641 : Cond.code y_RU_firstRate b_RU_firstRate 4 (some .int) ∈ g_T := gT_3 161 rfl rfl
theorem w_642 : Cond.methodLink "DutyRules$Duty" 68 y_RU_firstOfGoods ∈ g_T := gT_3 162 rfl rfl
theorem w_643 : Cond.instanceMethod y_RU_firstOfGoods ∈ g_T := gT_3 163 rfl rfl
theorem w_644 : Cond.selects "DutyRules$Rules" y_RU_firstOfGoods y_RU_firstOfGoods ∈ g_T := gT_3 164 rfl rfl
theorem w_645 : Cond.code y_RU_firstOfGoods b_RU_firstOfGoods 4 (some .int) ∈ g_T := gT_3 165 rfl rfl
theorem w_646 : Cond.methodLink "DutyRules$Duty" 58 y_DU_doSteps ∈ g_T := gT_3 166 rfl rfl
theorem w_648 : Cond.instanceMethod y_DU_doSteps ∈ g_T := gT_3 168 rfl rfl
theorem w_649 : Cond.code y_DU_doSteps b_DU_doSteps 5 none ∈ g_T := gT_3 169 rfl rfl
theorem w_650 : Cond.methodLink "DutyRules$Duty" 71 y_RU_number ∈ g_T := gT_3 170 rfl rfl
theorem w_651 : Cond.constantLong "DutyRules$Duty" 74 100 ∈ g_T := gT_3 171 rfl rfl
theorem w_652 : Cond.constantLong "DutyRules$Duty" 76 10000 ∈ g_T := gT_3 172 rfl rfl
theorem w_653 : Cond.methodLink "DutyRules$Duty" 78 y_DU_addStep ∈ g_T := gT_3 173 rfl rfl
theorem w_655 : Cond.instanceMethod y_DU_addStep ∈ g_T := gT_3 175 rfl rfl
theorem w_656 : Cond.code y_DU_addStep b_DU_addStep 3 none ∈ g_T := gT_3 176 rfl rfl
theorem w_657 : Cond.constantLong "DutyRules$Duty" 105 100000000000 ∈ g_T := gT_3 177 rfl rfl
theorem w_658 : Cond.methodLink "DutyRules$Duty" 82 y_DU_freeLost ∈ g_T := gT_3 178 rfl rfl
theorem w_660 : Cond.instanceMethod y_DU_freeLost ∈ g_T := gT_3 180 rfl rfl
theorem w_661 : Cond.code y_DU_freeLost b_DU_freeLost 7 none ∈ g_T := gT_3 181 rfl rfl
theorem w_662 : Cond.methodLink "DutyRules$Duty" 95 y_MA_min2 ∈ g_T := gT_3 182 rfl rfl
theorem w_663 : Cond.static y_MA_min2 ∈ g_T := gT_3 183 rfl rfl
theorem w_664 : Cond.code y_MA_min2 b_MA_min2 4 (some .long) ∈ g_T := gT_3 184 rfl rfl
theorem w_665 : Cond.methodLink "DutyRules$Duty" 86 y_DU_lessenByAway ∈ g_T := gT_3 185 rfl rfl
theorem w_667 : Cond.instanceMethod y_DU_lessenByAway ∈ g_T := gT_3 187 rfl rfl
theorem w_668 : Cond.code y_DU_lessenByAway b_DU_lessenByAway 7 none ∈ g_T := gT_3 188 rfl rfl
theorem w_669 : Cond.methodLink "DutyRules$Duty" 89 y_DU_lessenForSmall ∈ g_T := gT_3 189 rfl rfl
theorem w_671 : Cond.instanceMethod y_DU_lessenForSmall ∈ g_T := gT_3 191 rfl rfl
theorem w_672 : Cond.code y_DU_lessenForSmall b_DU_lessenForSmall 3 none ∈ g_T := gT_3 192 rfl rfl
theorem w_673 : Cond.methodLink "DutyRules$Duty" 92 y_DU_roundToMultiple ∈ g_T := gT_3 193 rfl rfl
theorem w_675 : Cond.instanceMethod y_DU_roundToMultiple ∈ g_T := gT_3 195 rfl rfl
theorem w_676 : Cond.code y_DU_roundToMultiple b_DU_roundToMultiple 5 none ∈ g_T := gT_3 196 rfl rfl
theorem w_677 : Cond.methodLink "DutyRules$Duty" 101 y_RU_firstOfKind ∈ g_T := gT_3 197 rfl rfl
theorem w_678 : Cond.constantLong "DutyRules$Duty" 107 2 ∈ g_T := gT_3 198 rfl rfl
theorem w_679 : Cond.constantLong "DutyRules" 146 100000000000 ∈ g_T := gT_3 199 rfl rfl
theorem w_680 : Cond.methodLink "DutyRules" 148 y_DR_reduced ∈ g_T := gT_3 200 rfl rfl
theorem w_681 : Cond.static y_DR_reduced ∈ g_T := gT_3 201 rfl rfl
theorem w_682 : Cond.code y_DR_reduced b_DR_reduced 7 (some .long) ∈ g_T := gT_3 202 rfl rfl
theorem w_683 : Cond.methodLink "DutyRules" 249 y_DR_commonDivisor ∈ g_T := gT_3 203 rfl rfl
theorem w_684 : Cond.static y_DR_commonDivisor ∈ g_T := gT_3 204 rfl rfl
theorem w_685 : Cond.code y_DR_commonDivisor b_DR_commonDivisor 11 (some .long) ∈ g_T := gT_3 205 rfl rfl
theorem w_686 : Cond.methodLink "DutyRulesLaw" 45 y_DR_open ∈ g_T := gT_3 206 rfl rfl
theorem w_687 : Cond.instanceMethod y_DR_open ∈ g_T := gT_3 207 rfl rfl
theorem w_688 : Cond.selects "DutyRules" y_DR_open y_DR_open ∈ g_T := gT_3 208 rfl rfl
theorem w_689 : Cond.code y_DR_open b_DR_open 2 (some .int) ∈ g_T := gT_3 209 rfl rfl
theorem w_690 : Cond.methodLink "DutyRulesLaw" 50 y_DR_step ∈ g_T := gT_3 210 rfl rfl
theorem w_691 : Cond.instanceMethod y_DR_step ∈ g_T := gT_3 211 rfl rfl
theorem w_692 : Cond.selects "DutyRules" y_DR_step y_DR_step ∈ g_T := gT_3 212 rfl rfl
theorem w_693 : Cond.code y_DR_step b_DR_step 4 (some .int) ∈ g_T := gT_3 213 rfl rfl
theorem w_694 : Cond.constantLong "DutyRules" 169 2147483647 ∈ g_T := gT_3 214 rfl rfl
theorem w_695 : Cond.methodLink "DutyRules" 171 y_MA_min2 ∈ g_T := gT_3 215 rfl rfl
theorem w_696 : Cond.methodLink "DutyRulesLaw" 55 y_DR_allowed ∈ g_T := gT_3 216 rfl rfl
theorem w_697 : Cond.instanceMethod y_DR_allowed ∈ g_T := gT_3 217 rfl rfl
theorem w_698 : Cond.selects "DutyRules" y_DR_allowed y_DR_allowed ∈ g_T := gT_3 218 rfl rfl
theorem w_699 : Cond.code y_DR_allowed b_DR_allowed 7 (some .long) ∈ g_T := gT_3 219 rfl rfl
theorem w_700 : Cond.methodLink "DutyRules" 177 y_DR_isMonth ∈ g_T := gT_3 220 rfl rfl
theorem w_701 : Cond.static y_DR_isMonth ∈ g_T := gT_3 221 rfl rfl
theorem w_702 : Cond.code y_DR_isMonth b_DR_isMonth 1 (some .boolean) ∈ g_T := gT_3 222 rfl rfl
theorem w_703 : Cond.constantLong "DutyRules" 180 (-1) ∈ g_T := gT_3 223 rfl rfl
theorem w_704 : Cond.methodLink "DutyRules" 182 y_DR_lastDayOf ∈ g_T := gT_3 224 rfl rfl
theorem w_705 : Cond.static y_DR_lastDayOf ∈ g_T := gT_3 225 rfl rfl
theorem w_706 : Cond.code y_DR_lastDayOf b_DR_lastDayOf 1 (some .int) ∈ g_T := gT_3 226 rfl rfl
theorem w_707 : Cond.constantLong "DutyRules" 188 10000 ∈ g_T := gT_3 227 rfl rfl
theorem w_708 : Cond.methodLink "DutyRulesLaw" 60 y_DR_returned ∈ g_T := gT_3 228 rfl rfl
theorem w_709 : Cond.instanceMethod y_DR_returned ∈ g_T := gT_3 229 rfl rfl
theorem w_710 : Cond.selects "DutyRules" y_DR_returned y_DR_returned ∈ g_T := gT_3 230 rfl rfl
theorem w_711 : Cond.code y_DR_returned b_DR_returned 6 (some .int) ∈ g_T := gT_3 231 rfl rfl
theorem w_712 : Cond.methodLink "DutyRules" 190 y_DR_returnOf ∈ g_T := gT_3 232 rfl rfl
theorem w_714 : Cond.instanceMethod y_DR_returnOf ∈ g_T := gT_3 234 rfl rfl
theorem w_715 : Cond.code y_DR_returnOf b_DR_returnOf 3 (some (.object "DutyRules$Return")) ∈ g_T := gT_3 235 rfl rfl
theorem w_716 : Cond.classLink "DutyRules" 194 "DutyRules$Return" ∈ g_T := gT_3 236 rfl rfl
theorem w_717 : Cond.instantiable "DutyRules$Return" 5 ∈ g_T := gT_3 237 rfl rfl
theorem w_718 : Cond.methodLink "DutyRules" 196 y_RE_init ∈ g_T := gT_3 238 rfl rfl
theorem w_719 : Cond.instanceMethod y_RE_init ∈ g_T := gT_3 239 rfl rfl
theorem w_720 : Cond.code y_RE_init b_RE_init 3 none ∈ g_T := gT_4 0 rfl rfl
theorem w_721 : Cond.methodLink "DutyRules$Return" 3 y_OB_init ∈ g_T := gT_4 1 rfl rfl
theorem w_722 : Cond.fieldLink "DutyRules$Return" 9 "DutyRules$Return" "month" "I" ∈ g_T := gT_4 2 rfl rfl
theorem w_724 : Cond.fieldLink "DutyRules$Return" 15 "DutyRules$Return" "before" "LDutyRules$Return;" ∈ g_T := gT_4 4 rfl rfl
theorem w_726 : Cond.fieldLink "DutyRules$Return" 19 "DutyRules$Return" "hasRow" "[Z" ∈ g_T := gT_4 6 rfl rfl
theorem w_727 : Cond.fieldLink "DutyRules$Return" 23 "DutyRules$Return" "cents" "[J" ∈ g_T := gT_4 7 rfl rfl
theorem w_729 : Cond.fieldLink "DutyRules$Return" 27 "DutyRules$Return" "changes" "[J" ∈ g_T := gT_4 9 rfl rfl
theorem w_731 : Cond.laysFinal "DutyRules$Return" "DutyRules$Return" "month" "I" ∈ g_T := gT_4 11 rfl rfl
theorem w_733 : Cond.laysFinal "DutyRules$Return" "DutyRules$Return" "before" "LDutyRules$Return;" ∈ g_T := gT_4 13 rfl rfl
theorem w_735 : Cond.laysFinal "DutyRules$Return" "DutyRules$Return" "hasRow" "[Z" ∈ g_T := gT_4 15 rfl rfl
theorem w_737 : Cond.laysFinal "DutyRules$Return" "DutyRules$Return" "cents" "[J" ∈ g_T := gT_4 17 rfl rfl
theorem w_739 : Cond.laysFinal "DutyRules$Return" "DutyRules$Return" "changes" "[J" ∈ g_T := gT_4 19 rfl rfl
theorem w_741 : Cond.superclass "DutyRules$Return" "java/lang/Object" ∈ g_T := gT_4 21 rfl rfl
theorem w_742 : Cond.arrayClass .boolean ∈ g_T := gT_4 22 rfl rfl
theorem w_743 : Cond.methodLink "DutyRules" 199 y_FS_hasLitres ∈ g_T := gT_4 23 rfl rfl
theorem w_744 : Cond.instanceMethod y_FS_hasLitres ∈ g_T := gT_4 24 rfl rfl
theorem w_745 : Cond.selects "DutyRules$Facts" y_FS_hasLitres y_FS_hasLitres ∈ g_T := gT_4 25 rfl rfl
theorem w_746 : Cond.code y_FS_hasLitres b_FS_hasLitres 5 (some .boolean) ∈ g_T := gT_4 26 rfl rfl
theorem w_747 : Cond.methodLink "DutyRules" 205 y_DR_centsOf ∈ g_T := gT_4 27 rfl rfl
theorem w_749 : Cond.instanceMethod y_DR_centsOf ∈ g_T := gT_4 29 rfl rfl
theorem w_750 : Cond.code y_DR_centsOf b_DR_centsOf 4 (some .long) ∈ g_T := gT_4 30 rfl rfl
theorem w_751 : Cond.methodLink "DutyRules" 209 y_RE_put ∈ g_T := gT_4 31 rfl rfl
theorem w_752 : Cond.instanceMethod y_RE_put ∈ g_T := gT_4 32 rfl rfl
theorem w_753 : Cond.selects "DutyRules$Return" y_RE_put y_RE_put ∈ g_T := gT_4 33 rfl rfl
theorem w_754 : Cond.code y_RE_put b_RE_put 5 none ∈ g_T := gT_4 34 rfl rfl
theorem w_756 : Cond.methodLink "DutyRules$Return" 34 y_RE_isSettled ∈ g_T := gT_4 36 rfl rfl
theorem w_757 : Cond.instanceMethod y_RE_isSettled ∈ g_T := gT_4 37 rfl rfl
theorem w_758 : Cond.selects "DutyRules$Return" y_RE_isSettled y_RE_isSettled ∈ g_T := gT_4 38 rfl rfl
theorem w_759 : Cond.code y_RE_isSettled b_RE_isSettled 2 (some .boolean) ∈ g_T := gT_4 39 rfl rfl
theorem w_760 : Cond.constantLong "DutyRules$Return" 37 (-9223372036854775808) ∈ g_T := gT_4 40 rfl rfl
theorem w_761 : Cond.methodLink "DutyRules" 213 y_RE_count ∈ g_T := gT_4 41 rfl rfl
theorem w_762 : Cond.instanceMethod y_RE_count ∈ g_T := gT_4 42 rfl rfl
theorem w_763 : Cond.selects "DutyRules$Return" y_RE_count y_RE_count ∈ g_T := gT_4 43 rfl rfl
theorem w_764 : Cond.code y_RE_count b_RE_count 3 (some .int) ∈ g_T := gT_4 44 rfl rfl
theorem w_765 : Cond.methodLink "DutyRulesLaw" 64 y_DR_row ∈ g_T := gT_4 45 rfl rfl
theorem w_766 : Cond.instanceMethod y_DR_row ∈ g_T := gT_4 46 rfl rfl
theorem w_767 : Cond.selects "DutyRules" y_DR_row y_DR_row ∈ g_T := gT_4 47 rfl rfl
theorem w_768 : Cond.code y_DR_row b_DR_row 4 (some .long) ∈ g_T := gT_4 48 rfl rfl
theorem w_769 : Cond.methodLink "DutyRules" 215 y_RE_lotOfRow ∈ g_T := gT_4 49 rfl rfl
theorem w_770 : Cond.instanceMethod y_RE_lotOfRow ∈ g_T := gT_4 50 rfl rfl
theorem w_771 : Cond.selects "DutyRules$Return" y_RE_lotOfRow y_RE_lotOfRow ∈ g_T := gT_4 51 rfl rfl
theorem w_772 : Cond.code y_RE_lotOfRow b_RE_lotOfRow 4 (some .int) ∈ g_T := gT_4 52 rfl rfl
theorem w_773 : Cond.methodLink "DutyRulesLaw" 68 y_DR_difference ∈ g_T := gT_4 53 rfl rfl
theorem w_774 : Cond.instanceMethod y_DR_difference ∈ g_T := gT_4 54 rfl rfl
theorem w_775 : Cond.selects "DutyRules" y_DR_difference y_DR_difference ∈ g_T := gT_4 55 rfl rfl
theorem w_776 : Cond.code y_DR_difference b_DR_difference 10 (some .long) ∈ g_T := gT_4 56 rfl rfl
theorem w_777 : Cond.methodLink "DutyRules" 224 y_RE_isSettled ∈ g_T := gT_4 57 rfl rfl
theorem w_778 : Cond.methodLink "DutyRulesLaw" 73 y_DR_write ∈ g_T := gT_4 58 rfl rfl
theorem w_779 : Cond.instanceMethod y_DR_write ∈ g_T := gT_4 59 rfl rfl
theorem w_780 : Cond.selects "DutyRules" y_DR_write y_DR_write ∈ g_T := gT_4 60 rfl rfl
theorem w_781 : Cond.code y_DR_write b_DR_write 2 (some .int) ∈ g_T := gT_4 61 rfl rfl
theorem w_782 : Cond.methodLink "DutyRules" 227 y_ST_length ∈ g_T := gT_4 62 rfl rfl
theorem w_783 : Cond.methodLink "DutyRules" 230 y_ST_charAt ∈ g_T := gT_4 63 rfl rfl
theorem w_784 : Cond.methodLink "DutyRulesLaw" 77 y_DR_interest ∈ g_T := gT_4 64 rfl rfl
theorem w_785 : Cond.instanceMethod y_DR_interest ∈ g_T := gT_4 65 rfl rfl
theorem w_786 : Cond.selects "DutyRules" y_DR_interest y_DR_interest ∈ g_T := gT_4 66 rfl rfl
theorem w_787 : Cond.code y_DR_interest b_DR_interest 9 (some .long) ∈ g_T := gT_4 67 rfl rfl
theorem w_788 : Cond.methodLink "DutyRules" 234 y_MA_max2 ∈ g_T := gT_4 68 rfl rfl
theorem w_789 : Cond.static y_MA_max2 ∈ g_T := gT_4 69 rfl rfl
theorem w_790 : Cond.code y_MA_max2 b_MA_max2 4 (some .long) ∈ g_T := gT_4 70 rfl rfl
theorem w_791 : Cond.methodLink "DutyRules" 237 y_RE_settledSum ∈ g_T := gT_4 71 rfl rfl
theorem w_792 : Cond.instanceMethod y_RE_settledSum ∈ g_T := gT_4 72 rfl rfl
theorem w_793 : Cond.selects "DutyRules$Return" y_RE_settledSum y_RE_settledSum ∈ g_T := gT_4 73 rfl rfl
theorem w_794 : Cond.code y_RE_settledSum b_RE_settledSum 4 (some .long) ∈ g_T := gT_4 74 rfl rfl
theorem w_795 : Cond.methodLink "DutyRules" 241 y_DR_lateShare ∈ g_T := gT_4 75 rfl rfl
theorem w_797 : Cond.instanceMethod y_DR_lateShare ∈ g_T := gT_4 77 rfl rfl
theorem w_798 : Cond.code y_DR_lateShare b_DR_lateShare 4 (some .long) ∈ g_T := gT_4 78 rfl rfl
theorem w_799 : Cond.methodLink "DutyRules" 258 y_ED_heldOn ∈ g_T := gT_4 79 rfl rfl
theorem w_800 : Cond.methodLink "DutyRules" 262 y_RU_firstOfKind ∈ g_T := gT_4 80 rfl rfl
theorem w_801 : Cond.methodLink "DutyRules" 265 y_RU_number ∈ g_T := gT_4 81 rfl rfl
theorem w_802 : Cond.classLink "DutyRulesLaw" 10 "DutyRulesModel" ∈ g_T := gT_4 82 rfl rfl
theorem w_803 : Cond.instantiable "DutyRulesModel" 40 ∈ g_T := gT_4 83 rfl rfl
theorem w_804 : Cond.methodLink "DutyRulesLaw" 12 y_MO_init ∈ g_T := gT_4 84 rfl rfl
theorem w_805 : Cond.instanceMethod y_MO_init ∈ g_T := gT_4 85 rfl rfl
theorem w_806 : Cond.code y_MO_init b_MO_init 1 none ∈ g_T := gT_4 86 rfl rfl
theorem w_807 : Cond.methodLink "DutyRulesModel" 1 y_OB_init ∈ g_T := gT_4 87 rfl rfl
theorem w_808 : Cond.constant "DutyRulesModel" 63 90030 ∈ g_T := gT_4 88 rfl rfl
theorem w_809 : Cond.fieldLink "DutyRulesModel" 9 "DutyRulesModel" "text" "[I" ∈ g_T := gT_4 89 rfl rfl
theorem w_810 : Cond.fieldLink "DutyRulesModel" 83 "DutyRulesModel" "length" "I" ∈ g_T := gT_4 90 rfl rfl
theorem w_811 : Cond.fieldLink "DutyRulesModel" 13 "DutyRulesModel" "reading" "[I" ∈ g_T := gT_4 91 rfl rfl
theorem w_812 : Cond.fieldLink "DutyRulesModel" 16 "DutyRulesModel" "rules" "[I" ∈ g_T := gT_4 92 rfl rfl
theorem w_813 : Cond.fieldLink "DutyRulesModel" 19 "DutyRulesModel" "many" "[I" ∈ g_T := gT_4 93 rfl rfl
theorem w_814 : Cond.fieldLink "DutyRulesModel" 22 "DutyRulesModel" "editionFrom" "[J" ∈ g_T := gT_4 94 rfl rfl
theorem w_815 : Cond.fieldLink "DutyRulesModel" 134 "DutyRulesModel" "editions" "I" ∈ g_T := gT_4 95 rfl rfl
theorem w_816 : Cond.fieldLink "DutyRulesModel" 26 "DutyRulesModel" "factLot" "[I" ∈ g_T := gT_4 96 rfl rfl
theorem w_817 : Cond.fieldLink "DutyRulesModel" 29 "DutyRulesModel" "factKind" "[I" ∈ g_T := gT_4 97 rfl rfl
theorem w_818 : Cond.fieldLink "DutyRulesModel" 32 "DutyRulesModel" "factDay" "[J" ∈ g_T := gT_4 98 rfl rfl
theorem w_819 : Cond.fieldLink "DutyRulesModel" 35 "DutyRulesModel" "factKnown" "[J" ∈ g_T := gT_4 99 rfl rfl
theorem w_820 : Cond.fieldLink "DutyRulesModel" 38 "DutyRulesModel" "factValue" "[J" ∈ g_T := gT_4 100 rfl rfl
theorem w_821 : Cond.fieldLink "DutyRulesModel" 177 "DutyRulesModel" "facts" "I" ∈ g_T := gT_4 101 rfl rfl
theorem w_822 : Cond.fieldLink "DutyRulesModel" 180 "DutyRulesModel" "latest" "J" ∈ g_T := gT_4 102 rfl rfl
theorem w_823 : Cond.fieldLink "DutyRulesModel" 199 "DutyRulesModel" "reason" "I" ∈ g_T := gT_4 103 rfl rfl
theorem w_824 : Cond.fieldLink "DutyRulesModel" 41 "DutyRulesModel" "stepLetter" "[I" ∈ g_T := gT_4 104 rfl rfl
theorem w_825 : Cond.fieldLink "DutyRulesModel" 44 "DutyRulesModel" "stepRule" "[I" ∈ g_T := gT_4 105 rfl rfl
theorem w_826 : Cond.fieldLink "DutyRulesModel" 47 "DutyRulesModel" "stepCents" "[J" ∈ g_T := gT_4 106 rfl rfl
theorem w_827 : Cond.fieldLink "DutyRulesModel" 184 "DutyRulesModel" "steps" "I" ∈ g_T := gT_4 107 rfl rfl
theorem w_828 : Cond.fieldLink "DutyRulesModel" 192 "DutyRulesModel" "free" "J" ∈ g_T := gT_4 108 rfl rfl
theorem w_829 : Cond.fieldLink "DutyRulesModel" 187 "DutyRulesModel" "cents" "J" ∈ g_T := gT_4 109 rfl rfl
theorem w_830 : Cond.fieldLink "DutyRulesModel" 50 "DutyRulesModel" "shownLot" "I" ∈ g_T := gT_4 110 rfl rfl
theorem w_831 : Cond.fieldLink "DutyRulesModel" 234 "DutyRulesModel" "shownReason" "I" ∈ g_T := gT_4 111 rfl rfl
theorem w_832 : Cond.fieldLink "DutyRulesModel" 237 "DutyRulesModel" "shownSteps" "I" ∈ g_T := gT_4 112 rfl rfl
theorem w_833 : Cond.fieldLink "DutyRulesModel" 54 "DutyRulesModel" "shownLetter" "[I" ∈ g_T := gT_4 113 rfl rfl
theorem w_834 : Cond.fieldLink "DutyRulesModel" 57 "DutyRulesModel" "shownRule" "[I" ∈ g_T := gT_4 114 rfl rfl
theorem w_835 : Cond.fieldLink "DutyRulesModel" 60 "DutyRulesModel" "shownCents" "[J" ∈ g_T := gT_4 115 rfl rfl
theorem w_836 : Cond.fieldLink "DutyRulesModel" 64 "DutyRulesModel" "there" "[I" ∈ g_T := gT_4 116 rfl rfl
theorem w_837 : Cond.fieldLink "DutyRulesModel" 67 "DutyRulesModel" "due" "[J" ∈ g_T := gT_4 117 rfl rfl
theorem w_838 : Cond.fieldLink "DutyRulesModel" 70 "DutyRulesModel" "wasReturned" "[Z" ∈ g_T := gT_4 118 rfl rfl
theorem w_839 : Cond.fieldLink "DutyRulesModel" 258 "DutyRulesModel" "rows" "I" ∈ g_T := gT_4 119 rfl rfl
theorem w_840 : Cond.fieldLink "DutyRulesModel" 74 "DutyRulesModel" "rowLot" "[I" ∈ g_T := gT_4 120 rfl rfl
theorem w_841 : Cond.fieldLink "DutyRulesModel" 77 "DutyRulesModel" "rowDuty" "[J" ∈ g_T := gT_4 121 rfl rfl
theorem w_842 : Cond.fieldLink "DutyRulesModel" 80 "DutyRulesModel" "rowMore" "[J" ∈ g_T := gT_4 122 rfl rfl
theorem w_843 : Cond.fieldLink "DutyRulesModel" 89 "DutyRulesModel" "begin" "I" ∈ g_T := gT_4 123 rfl rfl
theorem w_844 : Cond.fieldLink "DutyRulesModel" 86 "DutyRulesModel" "end" "I" ∈ g_T := gT_4 124 rfl rfl
theorem w_845 : Cond.fieldLink "DutyRulesModel" 96 "DutyRulesModel" "word" "I" ∈ g_T := gT_4 125 rfl rfl
theorem w_846 : Cond.fieldLink "DutyRulesModel" 140 "DutyRulesModel" "wanted" "I" ∈ g_T := gT_4 126 rfl rfl
theorem w_847 : Cond.fieldLink "DutyRulesModel" 143 "DutyRulesModel" "found" "I" ∈ g_T := gT_4 127 rfl rfl
theorem w_848 : Cond.fieldLink "DutyRulesModel" 137 "DutyRulesModel" "written" "I" ∈ g_T := gT_4 128 rfl rfl
theorem w_849 : Cond.laysFinal "DutyRulesModel" "DutyRulesModel" "text" "[I" ∈ g_T := gT_4 129 rfl rfl
theorem w_851 : Cond.lays "DutyRulesModel" "DutyRulesModel" "length" "I" ∈ g_T := gT_4 131 rfl rfl
theorem w_853 : Cond.laysFinal "DutyRulesModel" "DutyRulesModel" "reading" "[I" ∈ g_T := gT_4 133 rfl rfl
theorem w_855 : Cond.laysFinal "DutyRulesModel" "DutyRulesModel" "rules" "[I" ∈ g_T := gT_4 135 rfl rfl
theorem w_857 : Cond.laysFinal "DutyRulesModel" "DutyRulesModel" "many" "[I" ∈ g_T := gT_4 137 rfl rfl
theorem w_859 : Cond.laysFinal "DutyRulesModel" "DutyRulesModel" "editionFrom" "[J" ∈ g_T := gT_4 139 rfl rfl
theorem w_861 : Cond.lays "DutyRulesModel" "DutyRulesModel" "editions" "I" ∈ g_T := gT_4 141 rfl rfl
theorem w_863 : Cond.laysFinal "DutyRulesModel" "DutyRulesModel" "factLot" "[I" ∈ g_T := gT_4 143 rfl rfl
theorem w_865 : Cond.laysFinal "DutyRulesModel" "DutyRulesModel" "factKind" "[I" ∈ g_T := gT_4 145 rfl rfl
theorem w_867 : Cond.laysFinal "DutyRulesModel" "DutyRulesModel" "factDay" "[J" ∈ g_T := gT_4 147 rfl rfl
theorem w_869 : Cond.laysFinal "DutyRulesModel" "DutyRulesModel" "factKnown" "[J" ∈ g_T := gT_4 149 rfl rfl
theorem w_871 : Cond.laysFinal "DutyRulesModel" "DutyRulesModel" "factValue" "[J" ∈ g_T := gT_4 151 rfl rfl
theorem w_873 : Cond.lays "DutyRulesModel" "DutyRulesModel" "facts" "I" ∈ g_T := gT_4 153 rfl rfl
theorem w_875 : Cond.lays "DutyRulesModel" "DutyRulesModel" "latest" "J" ∈ g_T := gT_4 155 rfl rfl
theorem w_877 : Cond.lays "DutyRulesModel" "DutyRulesModel" "reason" "I" ∈ g_T := gT_4 157 rfl rfl
theorem w_879 : Cond.laysFinal "DutyRulesModel" "DutyRulesModel" "stepLetter" "[I" ∈ g_T := gT_4 159 rfl rfl
theorem w_881 : Cond.laysFinal "DutyRulesModel" "DutyRulesModel" "stepRule" "[I" ∈ g_T := gT_4 161 rfl rfl
theorem w_883 : Cond.laysFinal "DutyRulesModel" "DutyRulesModel" "stepCents" "[J" ∈ g_T := gT_4 163 rfl rfl
theorem w_885 : Cond.lays "DutyRulesModel" "DutyRulesModel" "steps" "I" ∈ g_T := gT_4 165 rfl rfl
theorem w_887 : Cond.lays "DutyRulesModel" "DutyRulesModel" "free" "J" ∈ g_T := gT_4 167 rfl rfl
theorem w_889 : Cond.lays "DutyRulesModel" "DutyRulesModel" "cents" "J" ∈ g_T := gT_4 169 rfl rfl
theorem w_891 : Cond.lays "DutyRulesModel" "DutyRulesModel" "shownLot" "I" ∈ g_T := gT_4 171 rfl rfl
theorem w_893 : Cond.lays "DutyRulesModel" "DutyRulesModel" "shownReason" "I" ∈ g_T := gT_4 173 rfl rfl
theorem w_895 : Cond.lays "DutyRulesModel" "DutyRulesModel" "shownSteps" "I" ∈ g_T := gT_4 175 rfl rfl
theorem w_897 : Cond.laysFinal "DutyRulesModel" "DutyRulesModel" "shownLetter" "[I" ∈ g_T := gT_4 177 rfl rfl
theorem w_899 : Cond.laysFinal "DutyRulesModel" "DutyRulesModel" "shownRule" "[I" ∈ g_T := gT_4 179 rfl rfl
theorem w_901 : Cond.laysFinal "DutyRulesModel" "DutyRulesModel" "shownCents" "[J" ∈ g_T := gT_4 181 rfl rfl
theorem w_903 : Cond.laysFinal "DutyRulesModel" "DutyRulesModel" "there" "[I" ∈ g_T := gT_4 183 rfl rfl
theorem w_905 : Cond.laysFinal "DutyRulesModel" "DutyRulesModel" "due" "[J" ∈ g_T := gT_4 185 rfl rfl
theorem w_907 : Cond.laysFinal "DutyRulesModel" "DutyRulesModel" "wasReturned" "[Z" ∈ g_T := gT_4 187 rfl rfl
theorem w_909 : Cond.lays "DutyRulesModel" "DutyRulesModel" "rows" "I" ∈ g_T := gT_4 189 rfl rfl
theorem w_911 : Cond.laysFinal "DutyRulesModel" "DutyRulesModel" "rowLot" "[I" ∈ g_T := gT_4 191 rfl rfl
theorem w_913 : Cond.laysFinal "DutyRulesModel" "DutyRulesModel" "rowDuty" "[J" ∈ g_T := gT_4 193 rfl rfl
theorem w_915 : Cond.laysFinal "DutyRulesModel" "DutyRulesModel" "rowMore" "[J" ∈ g_T := gT_4 195 rfl rfl
theorem w_917 : Cond.lays "DutyRulesModel" "DutyRulesModel" "begin" "I" ∈ g_T := gT_4 197 rfl rfl
theorem w_919 : Cond.lays "DutyRulesModel" "DutyRulesModel" "end" "I" ∈ g_T := gT_4 199 rfl rfl
theorem w_921 : Cond.lays "DutyRulesModel" "DutyRulesModel" "word" "I" ∈ g_T := gT_4 201 rfl rfl
theorem w_923 : Cond.lays "DutyRulesModel" "DutyRulesModel" "wanted" "I" ∈ g_T := gT_4 203 rfl rfl
theorem w_925 : Cond.lays "DutyRulesModel" "DutyRulesModel" "found" "I" ∈ g_T := gT_4 205 rfl rfl
theorem w_927 : Cond.lays "DutyRulesModel" "DutyRulesModel" "written" "I" ∈ g_T := gT_4 207 rfl rfl
theorem w_929 : Cond.superclass "DutyRulesModel" "java/lang/Object" ∈ g_T := gT_4 209 rfl rfl
theorem w_930 : Cond.methodLink "DutyRulesLaw" 17 y_MO_unit ∈ g_T := gT_4 210 rfl rfl
theorem w_931 : Cond.instanceMethod y_MO_unit ∈ g_T := gT_4 211 rfl rfl
theorem w_932 : Cond.selects "DutyRulesModel" y_MO_unit y_MO_unit ∈ g_T := gT_4 212 rfl rfl
theorem w_933 : Cond.code y_MO_unit b_MO_unit 2 (some .boolean) ∈ g_T := gT_4 213 rfl rfl
theorem w_934 : Cond.methodLink "DutyRulesLaw" 22 y_MO_read ∈ g_T := gT_4 214 rfl rfl
theorem w_935 : Cond.instanceMethod y_MO_read ∈ g_T := gT_4 215 rfl rfl
theorem w_936 : Cond.selects "DutyRulesModel" y_MO_read y_MO_read ∈ g_T := gT_4 216 rfl rfl
theorem w_937 : Cond.code y_MO_read b_MO_read 4 (some .int) ∈ g_T := gT_4 217 rfl rfl
theorem w_938 : Cond.methodLink "DutyRulesModel" 120 y_MO_next ∈ g_T := gT_4 218 rfl rfl
theorem w_940 : Cond.instanceMethod y_MO_next ∈ g_T := gT_4 220 rfl rfl
theorem w_941 : Cond.code y_MO_next b_MO_next 1 none ∈ g_T := gT_4 221 rfl rfl
theorem w_942 : Cond.methodLink "DutyRulesModel" 92 y_MO_isBlank ∈ g_T := gT_4 222 rfl rfl
theorem w_943 : Cond.static y_MO_isBlank ∈ g_T := gT_4 223 rfl rfl
theorem w_944 : Cond.code y_MO_isBlank b_MO_isBlank 1 (some .boolean) ∈ g_T := gT_4 224 rfl rfl
theorem w_945 : Cond.methodLink "DutyRulesModel" 129 y_MO_rule ∈ g_T := gT_4 225 rfl rfl
theorem w_947 : Cond.instanceMethod y_MO_rule ∈ g_T := gT_4 227 rfl rfl
theorem w_948 : Cond.code y_MO_rule b_MO_rule 10 (some .boolean) ∈ g_T := gT_4 228 rfl rfl
theorem w_949 : Cond.methodLink "DutyRulesModel" 117 y_MO_is ∈ g_T := gT_4 229 rfl rfl
theorem w_951 : Cond.instanceMethod y_MO_is ∈ g_T := gT_4 231 rfl rfl
theorem w_952 : Cond.code y_MO_is b_MO_is 3 (some .boolean) ∈ g_T := gT_4 232 rfl rfl
theorem w_953 : Cond.methodLink "DutyRulesModel" 99 y_MO_wordSize ∈ g_T := gT_4 233 rfl rfl
theorem w_954 : Cond.static y_MO_wordSize ∈ g_T := gT_4 234 rfl rfl
theorem w_955 : Cond.code y_MO_wordSize b_MO_wordSize 2 (some .int) ∈ g_T := gT_4 235 rfl rfl
theorem w_956 : Cond.methodLink "DutyRulesModel" 103 y_MO_wordByte ∈ g_T := gT_4 236 rfl rfl
theorem w_957 : Cond.static y_MO_wordByte ∈ g_T := gT_4 237 rfl rfl
theorem w_958 : Cond.code y_MO_wordByte b_MO_wordByte 5 (some .int) ∈ g_T := gT_4 238 rfl rfl
theorem w_960 : Cond.methodLink "DutyRulesModel" 109 y_ST_charAt ∈ g_T := gT_5 0 rfl rfl
theorem w_961 : Cond.methodLink "DutyRulesModel" 123 y_MO_part ∈ g_T := gT_5 1 rfl rfl
theorem w_962 : Cond.static y_MO_part ∈ g_T := gT_5 2 rfl rfl
theorem w_963 : Cond.code y_MO_part b_MO_part 2 (some .int) ∈ g_T := gT_5 3 rfl rfl
theorem w_964 : Cond.constant "DutyRulesModel" 115 1000000 ∈ g_T := gT_5 4 rfl rfl
theorem w_965 : Cond.constant "DutyRulesModel" 116 100000000 ∈ g_T := gT_5 5 rfl rfl
theorem w_966 : Cond.methodLink "DutyRulesModel" 126 y_MO_number ∈ g_T := gT_5 6 rfl rfl
theorem w_968 : Cond.instanceMethod y_MO_number ∈ g_T := gT_5 8 rfl rfl
theorem w_969 : Cond.code y_MO_number b_MO_number 4 (some .int) ∈ g_T := gT_5 9 rfl rfl
theorem w_970 : Cond.methodLink "DutyRulesLaw" 29 y_MO_edition ∈ g_T := gT_5 10 rfl rfl
theorem w_971 : Cond.instanceMethod y_MO_edition ∈ g_T := gT_5 11 rfl rfl
theorem w_972 : Cond.selects "DutyRulesModel" y_MO_edition y_MO_edition ∈ g_T := gT_5 12 rfl rfl
theorem w_973 : Cond.code y_MO_edition b_MO_edition 4 (some .int) ∈ g_T := gT_5 13 rfl rfl
theorem w_974 : Cond.constantLong "DutyRulesModel" 132 100000 ∈ g_T := gT_5 14 rfl rfl
theorem w_975 : Cond.methodLink "DutyRulesLaw" 76 y_MO_write ∈ g_T := gT_5 15 rfl rfl
theorem w_976 : Cond.instanceMethod y_MO_write ∈ g_T := gT_5 16 rfl rfl
theorem w_977 : Cond.selects "DutyRulesModel" y_MO_write y_MO_write ∈ g_T := gT_5 17 rfl rfl
theorem w_978 : Cond.code y_MO_write b_MO_write 7 (some .int) ∈ g_T := gT_5 18 rfl rfl
theorem w_979 : Cond.methodLink "DutyRulesModel" 150 y_MO_say ∈ g_T := gT_5 19 rfl rfl
theorem w_981 : Cond.instanceMethod y_MO_say ∈ g_T := gT_5 21 rfl rfl
theorem w_982 : Cond.code y_MO_say b_MO_say 3 none ∈ g_T := gT_5 22 rfl rfl
theorem w_983 : Cond.methodLink "DutyRulesModel" 146 y_MO_put ∈ g_T := gT_5 23 rfl rfl
theorem w_985 : Cond.instanceMethod y_MO_put ∈ g_T := gT_5 25 rfl rfl
theorem w_986 : Cond.code y_MO_put b_MO_put 2 none ∈ g_T := gT_5 26 rfl rfl
theorem w_987 : Cond.methodLink "DutyRulesModel" 153 y_MO_digits ∈ g_T := gT_5 27 rfl rfl
theorem w_989 : Cond.instanceMethod y_MO_digits ∈ g_T := gT_5 29 rfl rfl
theorem w_990 : Cond.code y_MO_digits b_MO_digits 3 none ∈ g_T := gT_5 30 rfl rfl
theorem w_991 : Cond.methodLink "DutyRulesLaw" 34 y_MO_fact ∈ g_T := gT_5 31 rfl rfl
theorem w_992 : Cond.instanceMethod y_MO_fact ∈ g_T := gT_5 32 rfl rfl
theorem w_993 : Cond.selects "DutyRulesModel" y_MO_fact y_MO_fact ∈ g_T := gT_5 33 rfl rfl
theorem w_994 : Cond.code y_MO_fact b_MO_fact 11 (some .boolean) ∈ g_T := gT_5 34 rfl rfl
theorem w_995 : Cond.methodLink "DutyRulesModel" 164 y_MO_isLot ∈ g_T := gT_5 35 rfl rfl
theorem w_996 : Cond.static y_MO_isLot ∈ g_T := gT_5 36 rfl rfl
theorem w_997 : Cond.code y_MO_isLot b_MO_isLot 1 (some .boolean) ∈ g_T := gT_5 37 rfl rfl
theorem w_998 : Cond.methodLink "DutyRulesModel" 167 y_MO_isDay ∈ g_T := gT_5 38 rfl rfl
theorem w_999 : Cond.static y_MO_isDay ∈ g_T := gT_5 39 rfl rfl
theorem w_1000 : Cond.code y_MO_isDay b_MO_isDay 2 (some .boolean) ∈ g_T := gT_5 40 rfl rfl
theorem w_1001 : Cond.constantLong "DutyRulesModel" 171 100 ∈ g_T := gT_5 41 rfl rfl
theorem w_1002 : Cond.methodLink "DutyRulesModel" 173 y_MO_most ∈ g_T := gT_5 42 rfl rfl
theorem w_1003 : Cond.static y_MO_most ∈ g_T := gT_5 43 rfl rfl
theorem w_1004 : Cond.code y_MO_most b_MO_most 1 (some .long) ∈ g_T := gT_5 44 rfl rfl
theorem w_1005 : Cond.constantLong "DutyRulesModel" 156 9 ∈ g_T := gT_5 45 rfl rfl
theorem w_1006 : Cond.constantLong "DutyRulesModel" 158 10000 ∈ g_T := gT_5 46 rfl rfl
theorem w_1007 : Cond.constantLong "DutyRulesModel" 160 100000000 ∈ g_T := gT_5 47 rfl rfl
theorem w_1008 : Cond.constantLong "DutyRulesModel" 162 1000000 ∈ g_T := gT_5 48 rfl rfl
theorem w_1009 : Cond.methodLink "DutyRulesLaw" 39 y_MO_told ∈ g_T := gT_5 49 rfl rfl
theorem w_1010 : Cond.instanceMethod y_MO_told ∈ g_T := gT_5 50 rfl rfl
theorem w_1011 : Cond.selects "DutyRulesModel" y_MO_told y_MO_told ∈ g_T := gT_5 51 rfl rfl
theorem w_1012 : Cond.code y_MO_told b_MO_told 7 (some .boolean) ∈ g_T := gT_5 52 rfl rfl
theorem w_1013 : Cond.methodLink "DutyRulesLaw" 44 y_MO_duty ∈ g_T := gT_5 53 rfl rfl
theorem w_1014 : Cond.instanceMethod y_MO_duty ∈ g_T := gT_5 54 rfl rfl
theorem w_1015 : Cond.selects "DutyRulesModel" y_MO_duty y_MO_duty ∈ g_T := gT_5 55 rfl rfl
theorem w_1016 : Cond.code y_MO_duty b_MO_duty 9 (some .long) ∈ g_T := gT_5 56 rfl rfl
theorem w_1017 : Cond.constantLong "DutyRulesModel" 228 (-9223372036854775808) ∈ g_T := gT_5 57 rfl rfl
theorem w_1018 : Cond.methodLink "DutyRulesModel" 230 y_MO_reckon ∈ g_T := gT_5 58 rfl rfl
theorem w_1020 : Cond.instanceMethod y_MO_reckon ∈ g_T := gT_5 60 rfl rfl
theorem w_1021 : Cond.code y_MO_reckon b_MO_reckon 25 (some .boolean) ∈ g_T := gT_5 61 rfl rfl
theorem w_1022 : Cond.methodLink "DutyRulesModel" 195 y_MO_editionOf ∈ g_T := gT_5 62 rfl rfl
theorem w_1024 : Cond.instanceMethod y_MO_editionOf ∈ g_T := gT_5 64 rfl rfl
theorem w_1025 : Cond.code y_MO_editionOf b_MO_editionOf 5 (some .int) ∈ g_T := gT_5 65 rfl rfl
theorem w_1026 : Cond.methodLink "DutyRulesModel" 202 y_MO_holds ∈ g_T := gT_5 66 rfl rfl
theorem w_1028 : Cond.instanceMethod y_MO_holds ∈ g_T := gT_5 68 rfl rfl
theorem w_1029 : Cond.code y_MO_holds b_MO_holds 10 (some .int) ∈ g_T := gT_5 69 rfl rfl
theorem w_1030 : Cond.methodLink "DutyRulesModel" 206 y_MO_find ∈ g_T := gT_5 70 rfl rfl
theorem w_1032 : Cond.instanceMethod y_MO_find ∈ g_T := gT_5 72 rfl rfl
theorem w_1033 : Cond.code y_MO_find b_MO_find 10 (some .int) ∈ g_T := gT_5 73 rfl rfl
theorem w_1034 : Cond.methodLink "DutyRulesModel" 209 y_MO_value ∈ g_T := gT_5 74 rfl rfl
theorem w_1036 : Cond.instanceMethod y_MO_value ∈ g_T := gT_5 76 rfl rfl
theorem w_1037 : Cond.code y_MO_value b_MO_value 4 (some .int) ∈ g_T := gT_5 77 rfl rfl
theorem w_1038 : Cond.methodLink "DutyRulesModel" 213 y_MO_step ∈ g_T := gT_5 78 rfl rfl
theorem w_1040 : Cond.instanceMethod y_MO_step ∈ g_T := gT_5 80 rfl rfl
theorem w_1041 : Cond.code y_MO_step b_MO_step 3 none ∈ g_T := gT_5 81 rfl rfl
theorem w_1042 : Cond.constantLong "DutyRulesModel" 190 100000000000 ∈ g_T := gT_5 82 rfl rfl
theorem w_1043 : Cond.methodLink "DutyRulesModel" 217 y_MO_least ∈ g_T := gT_5 83 rfl rfl
theorem w_1044 : Cond.static y_MO_least ∈ g_T := gT_5 84 rfl rfl
theorem w_1045 : Cond.code y_MO_least b_MO_least 4 (some .long) ∈ g_T := gT_5 85 rfl rfl
theorem w_1046 : Cond.constantLong "DutyRulesModel" 221 2 ∈ g_T := gT_5 86 rfl rfl
theorem w_1047 : Cond.methodLink "DutyRulesModel" 240 y_MO_fraction ∈ g_T := gT_5 87 rfl rfl
theorem w_1048 : Cond.static y_MO_fraction ∈ g_T := gT_5 88 rfl rfl
theorem w_1049 : Cond.code y_MO_fraction b_MO_fraction 7 (some .long) ∈ g_T := gT_5 89 rfl rfl
theorem w_1050 : Cond.methodLink "DutyRulesModel" 223 y_MO_divisor ∈ g_T := gT_5 90 rfl rfl
theorem w_1051 : Cond.static y_MO_divisor ∈ g_T := gT_5 91 rfl rfl
theorem w_1052 : Cond.code y_MO_divisor b_MO_divisor 10 (some .long) ∈ g_T := gT_5 92 rfl rfl
theorem w_1053 : Cond.methodLink "DutyRulesLaw" 49 y_MO_open ∈ g_T := gT_5 93 rfl rfl
theorem w_1054 : Cond.instanceMethod y_MO_open ∈ g_T := gT_5 94 rfl rfl
theorem w_1055 : Cond.selects "DutyRulesModel" y_MO_open y_MO_open ∈ g_T := gT_5 95 rfl rfl
theorem w_1056 : Cond.code y_MO_open b_MO_open 2 (some .int) ∈ g_T := gT_5 96 rfl rfl
theorem w_1057 : Cond.methodLink "DutyRulesLaw" 54 y_MO_step2 ∈ g_T := gT_5 97 rfl rfl
theorem w_1058 : Cond.instanceMethod y_MO_step2 ∈ g_T := gT_5 98 rfl rfl
theorem w_1059 : Cond.selects "DutyRulesModel" y_MO_step2 y_MO_step2 ∈ g_T := gT_5 99 rfl rfl
theorem w_1060 : Cond.code y_MO_step2 b_MO_step2 4 (some .int) ∈ g_T := gT_5 100 rfl rfl
theorem w_1061 : Cond.constantLong "DutyRulesModel" 244 2147483647 ∈ g_T := gT_5 101 rfl rfl
theorem w_1062 : Cond.methodLink "DutyRulesLaw" 59 y_MO_allowed ∈ g_T := gT_5 102 rfl rfl
theorem w_1063 : Cond.instanceMethod y_MO_allowed ∈ g_T := gT_5 103 rfl rfl
theorem w_1064 : Cond.selects "DutyRulesModel" y_MO_allowed y_MO_allowed ∈ g_T := gT_5 104 rfl rfl
theorem w_1065 : Cond.code y_MO_allowed b_MO_allowed 6 (some .long) ∈ g_T := gT_5 105 rfl rfl
theorem w_1066 : Cond.methodLink "DutyRulesModel" 250 y_MO_isMonth ∈ g_T := gT_5 106 rfl rfl
theorem w_1067 : Cond.static y_MO_isMonth ∈ g_T := gT_5 107 rfl rfl
theorem w_1068 : Cond.code y_MO_isMonth b_MO_isMonth 1 (some .boolean) ∈ g_T := gT_5 108 rfl rfl
theorem w_1069 : Cond.constantLong "DutyRulesModel" 253 (-1) ∈ g_T := gT_5 109 rfl rfl
theorem w_1070 : Cond.methodLink "DutyRulesModel" 255 y_MO_lastOf ∈ g_T := gT_5 110 rfl rfl
theorem w_1071 : Cond.static y_MO_lastOf ∈ g_T := gT_5 111 rfl rfl
theorem w_1072 : Cond.code y_MO_lastOf b_MO_lastOf 1 (some .long) ∈ g_T := gT_5 112 rfl rfl
theorem w_1073 : Cond.constantLong "DutyRulesModel" 246 30 ∈ g_T := gT_5 113 rfl rfl
theorem w_1074 : Cond.constantLong "DutyRulesModel" 248 29 ∈ g_T := gT_5 114 rfl rfl
theorem w_1075 : Cond.methodLink "DutyRulesLaw" 63 y_MO_returned ∈ g_T := gT_5 115 rfl rfl
theorem w_1076 : Cond.instanceMethod y_MO_returned ∈ g_T := gT_5 116 rfl rfl
theorem w_1077 : Cond.selects "DutyRulesModel" y_MO_returned y_MO_returned ∈ g_T := gT_5 117 rfl rfl
theorem w_1078 : Cond.code y_MO_returned b_MO_returned 8 (some .int) ∈ g_T := gT_5 118 rfl rfl
theorem w_1079 : Cond.methodLink "DutyRulesModel" 261 y_MO_hasLitres ∈ g_T := gT_5 119 rfl rfl
theorem w_1081 : Cond.instanceMethod y_MO_hasLitres ∈ g_T := gT_5 121 rfl rfl
theorem w_1082 : Cond.code y_MO_hasLitres b_MO_hasLitres 5 (some .boolean) ∈ g_T := gT_5 122 rfl rfl
theorem w_1083 : Cond.methodLink "DutyRulesLaw" 67 y_MO_row ∈ g_T := gT_5 123 rfl rfl
theorem w_1084 : Cond.instanceMethod y_MO_row ∈ g_T := gT_5 124 rfl rfl
theorem w_1085 : Cond.selects "DutyRulesModel" y_MO_row y_MO_row ∈ g_T := gT_5 125 rfl rfl
theorem w_1086 : Cond.code y_MO_row b_MO_row 3 (some .long) ∈ g_T := gT_5 126 rfl rfl
theorem w_1087 : Cond.methodLink "DutyRulesLaw" 72 y_MO_difference ∈ g_T := gT_5 127 rfl rfl
theorem w_1088 : Cond.instanceMethod y_MO_difference ∈ g_T := gT_5 128 rfl rfl
theorem w_1089 : Cond.selects "DutyRulesModel" y_MO_difference y_MO_difference ∈ g_T := gT_5 129 rfl rfl
theorem w_1090 : Cond.code y_MO_difference b_MO_difference 8 (some .long) ∈ g_T := gT_5 130 rfl rfl
theorem w_1091 : Cond.methodLink "DutyRulesLaw" 81 y_MO_interest ∈ g_T := gT_5 131 rfl rfl
theorem w_1092 : Cond.instanceMethod y_MO_interest ∈ g_T := gT_5 132 rfl rfl
theorem w_1093 : Cond.selects "DutyRulesModel" y_MO_interest y_MO_interest ∈ g_T := gT_5 133 rfl rfl
theorem w_1094 : Cond.code y_MO_interest b_MO_interest 10 (some .long) ∈ g_T := gT_5 134 rfl rfl
theorem w_1095 : Cond.constantLong "DutyRulesLaw" 23 4294967295 ∈ g_T := gT_5 135 rfl rfl
theorem w_1096 : Cond.sameMethod "java/lang/AbstractStringBuilder" "java/lang/AbstractStringBuilder" "length" "()I" ∈ g_T := gT_5 136 rfl rfl
theorem w_1097 : Cond.sameMethod "java/lang/AbstractStringBuilder" "java/lang/AbstractStringBuilder" "append" "(C)Ljava/lang/AbstractStringBuilder;" ∈ g_T := gT_5 137 rfl rfl
theorem w_1098 : Cond.sameMethod "java/lang/AbstractStringBuilder" "java/lang/AbstractStringBuilder" "ensureCapacityInternal" "(I)V" ∈ g_T := gT_5 138 rfl rfl
theorem w_1099 : Cond.sameMethod "java/lang/AbstractStringBuilder" "java/lang/AbstractStringBuilder" "newCapacity" "(I)I" ∈ g_T := gT_5 139 rfl rfl
theorem w_1100 : Cond.sameMethod "java/lang/AbstractStringBuilder" "java/lang/AbstractStringBuilder" "inflate" "()V" ∈ g_T := gT_5 140 rfl rfl
theorem w_1101 : Cond.selects "java/lang/StringBuilder" y_AB_length y_SB_length ∈ g_T := gT_5 141 rfl rfl
theorem w_1102 : Cond.sameMethod "java/lang/AbstractStringBuilder" "java/lang/AbstractStringBuilder" "setLength" "(I)V" ∈ g_T := gT_5 142 rfl rfl
theorem w_1103 : Cond.sameMethod "java/lang/AbstractStringBuilder" "java/lang/AbstractStringBuilder" "append" "(I)Ljava/lang/AbstractStringBuilder;" ∈ g_T := gT_5 143 rfl rfl
theorem p_FS_newestOf : Cond.selects y_FS_newestOf.cls y_FS_newestOf y_FS_newestOf ∈ g_T := List.mem_filter.mpr ⟨List.mem_append_left _ (List.mem_of_getElem? (i := 0) rfl), rfl⟩
theorem p_DU_reasonToBeOpen : Cond.selects y_DU_reasonToBeOpen.cls y_DU_reasonToBeOpen y_DU_reasonToBeOpen ∈ g_T := List.mem_filter.mpr ⟨List.mem_append_left _ (List.mem_of_getElem? (i := 1) rfl), rfl⟩
theorem p_DU_doSteps : Cond.selects y_DU_doSteps.cls y_DU_doSteps y_DU_doSteps ∈ g_T := List.mem_filter.mpr ⟨List.mem_append_left _ (List.mem_of_getElem? (i := 2) rfl), rfl⟩
theorem p_DU_addStep : Cond.selects y_DU_addStep.cls y_DU_addStep y_DU_addStep ∈ g_T := List.mem_filter.mpr ⟨List.mem_append_left _ (List.mem_of_getElem? (i := 3) rfl), rfl⟩
theorem p_DU_freeLost : Cond.selects y_DU_freeLost.cls y_DU_freeLost y_DU_freeLost ∈ g_T := List.mem_filter.mpr ⟨List.mem_append_left _ (List.mem_of_getElem? (i := 4) rfl), rfl⟩
theorem p_DU_lessenByAway : Cond.selects y_DU_lessenByAway.cls y_DU_lessenByAway y_DU_lessenByAway ∈ g_T := List.mem_filter.mpr ⟨List.mem_append_left _ (List.mem_of_getElem? (i := 5) rfl), rfl⟩
theorem p_DU_lessenForSmall : Cond.selects y_DU_lessenForSmall.cls y_DU_lessenForSmall y_DU_lessenForSmall ∈ g_T := List.mem_filter.mpr ⟨List.mem_append_left _ (List.mem_of_getElem? (i := 6) rfl), rfl⟩
theorem p_DU_roundToMultiple : Cond.selects y_DU_roundToMultiple.cls y_DU_roundToMultiple y_DU_roundToMultiple ∈ g_T := List.mem_filter.mpr ⟨List.mem_append_left _ (List.mem_of_getElem? (i := 7) rfl), rfl⟩
theorem p_DR_returnOf : Cond.selects y_DR_returnOf.cls y_DR_returnOf y_DR_returnOf ∈ g_T := List.mem_filter.mpr ⟨List.mem_append_left _ (List.mem_of_getElem? (i := 8) rfl), rfl⟩
theorem p_DR_centsOf : Cond.selects y_DR_centsOf.cls y_DR_centsOf y_DR_centsOf ∈ g_T := List.mem_filter.mpr ⟨List.mem_append_left _ (List.mem_of_getElem? (i := 9) rfl), rfl⟩
theorem p_DR_lateShare : Cond.selects y_DR_lateShare.cls y_DR_lateShare y_DR_lateShare ∈ g_T := List.mem_filter.mpr ⟨List.mem_append_left _ (List.mem_of_getElem? (i := 10) rfl), rfl⟩
theorem p_MO_next : Cond.selects y_MO_next.cls y_MO_next y_MO_next ∈ g_T := List.mem_filter.mpr ⟨List.mem_append_left _ (List.mem_of_getElem? (i := 11) rfl), rfl⟩
theorem p_MO_rule : Cond.selects y_MO_rule.cls y_MO_rule y_MO_rule ∈ g_T := List.mem_filter.mpr ⟨List.mem_append_left _ (List.mem_of_getElem? (i := 12) rfl), rfl⟩
theorem p_MO_is : Cond.selects y_MO_is.cls y_MO_is y_MO_is ∈ g_T := List.mem_filter.mpr ⟨List.mem_append_left _ (List.mem_of_getElem? (i := 13) rfl), rfl⟩
theorem p_MO_number : Cond.selects y_MO_number.cls y_MO_number y_MO_number ∈ g_T := List.mem_filter.mpr ⟨List.mem_append_left _ (List.mem_of_getElem? (i := 14) rfl), rfl⟩
theorem p_MO_say : Cond.selects y_MO_say.cls y_MO_say y_MO_say ∈ g_T := List.mem_filter.mpr ⟨List.mem_append_left _ (List.mem_of_getElem? (i := 15) rfl), rfl⟩
theorem p_MO_put : Cond.selects y_MO_put.cls y_MO_put y_MO_put ∈ g_T := List.mem_filter.mpr ⟨List.mem_append_left _ (List.mem_of_getElem? (i := 16) rfl), rfl⟩
theorem p_MO_digits : Cond.selects y_MO_digits.cls y_MO_digits y_MO_digits ∈ g_T := List.mem_filter.mpr ⟨List.mem_append_left _ (List.mem_of_getElem? (i := 17) rfl), rfl⟩
theorem p_MO_reckon : Cond.selects y_MO_reckon.cls y_MO_reckon y_MO_reckon ∈ g_T := List.mem_filter.mpr ⟨List.mem_append_left _ (List.mem_of_getElem? (i := 18) rfl), rfl⟩
theorem p_MO_editionOf : Cond.selects y_MO_editionOf.cls y_MO_editionOf y_MO_editionOf ∈ g_T := List.mem_filter.mpr ⟨List.mem_append_left _ (List.mem_of_getElem? (i := 19) rfl), rfl⟩
theorem p_MO_holds : Cond.selects y_MO_holds.cls y_MO_holds y_MO_holds ∈ g_T := List.mem_filter.mpr ⟨List.mem_append_left _ (List.mem_of_getElem? (i := 20) rfl), rfl⟩
theorem p_MO_find : Cond.selects y_MO_find.cls y_MO_find y_MO_find ∈ g_T := List.mem_filter.mpr ⟨List.mem_append_left _ (List.mem_of_getElem? (i := 21) rfl), rfl⟩
theorem p_MO_value : Cond.selects y_MO_value.cls y_MO_value y_MO_value ∈ g_T := List.mem_filter.mpr ⟨List.mem_append_left _ (List.mem_of_getElem? (i := 22) rfl), rfl⟩
theorem p_MO_step : Cond.selects y_MO_step.cls y_MO_step y_MO_step ∈ g_T := List.mem_filter.mpr ⟨List.mem_append_left _ (List.mem_of_getElem? (i := 23) rfl), rfl⟩
theorem p_MO_hasLitres : Cond.selects y_MO_hasLitres.cls y_MO_hasLitres y_MO_hasLitres ∈ g_T := List.mem_filter.mpr ⟨List.mem_append_left _ (List.mem_of_getElem? (i := 24) rfl), rfl⟩
def g_nl : List Cond := [(Cond.fieldLinkNest "DutyRules" 202 "DutyRules$Facts" "lastKnowing" "I" "DutyRules"), (Cond.fieldLinkNest "DutyRules" 152 "DutyRules$Duty" "lot" "I" "DutyRules"), (Cond.fieldLinkNest "DutyRules" 139 "DutyRules$Duty" "reason" "I" "DutyRules"), (Cond.fieldLinkNest "DutyRules" 155 "DutyRules$Duty" "steps" "I" "DutyRules"), (Cond.fieldLinkNest "DutyRules" 142 "DutyRules$Duty" "amount" "J" "DutyRules"), (Cond.fieldLinkNest "DutyRules" 185 "DutyRules$Duty" "free" "J" "DutyRules"), (Cond.fieldLinkNest "DutyRules" 158 "DutyRules$Duty" "letters" "[I" "DutyRules"), (Cond.fieldLinkNest "DutyRules" 162 "DutyRules$Duty" "numbers" "[I" "DutyRules"), (Cond.fieldLinkNest "DutyRules" 165 "DutyRules$Duty" "centsBehind" "[J" "DutyRules"), (Cond.fieldLinkNest "DutyRules" 99 "DutyRules$Rules" "count" "I" "DutyRules"), (Cond.fieldLinkNest "DutyRules$Grammar" 72 "DutyRules$Rules" "count" "I" "DutyRules"), (Cond.fieldLinkNest "DutyRules" 91 "DutyRules$Words" "number" "I" "DutyRules"), (Cond.methodLinkNest "DutyRules$Facts" 53 y_DR_isLot "DutyRules"), (Cond.methodLinkNest "DutyRules$Facts" 57 y_DR_isFactKind "DutyRules"), (Cond.fieldLinkNest "DutyRules$Facts" 43 "DutyRules$Fact" "day" "I" "DutyRules"), (Cond.fieldLinkNest "DutyRules$Facts" 50 "DutyRules$Fact" "value" "I" "DutyRules"), (Cond.fieldLinkNest "DutyRules$Facts" 46 "DutyRules$Fact" "before" "LDutyRules$Fact;" "DutyRules"), (Cond.fieldLinkNest "DutyRules$Facts" 40 "DutyRules$Fact" "knownFrom" "I" "DutyRules"), (Cond.fieldLinkNest "DutyRules" 252 "DutyRules$Return" "month" "I" "DutyRules"), (Cond.fieldLinkNest "DutyRules" 255 "DutyRules$Return" "before" "LDutyRules$Return;" "DutyRules"), (Cond.fieldLinkNest "DutyRules" 218 "DutyRules$Return" "cents" "[J" "DutyRules"), (Cond.fieldLinkNest "DutyRules" 221 "DutyRules$Return" "changes" "[J" "DutyRules"), (Cond.methodLinkNest "DutyRules$Return" 30 y_DR_isLot "DutyRules")]
def gNb : Cond → Bool
  | .fieldLinkNest .. => true
  | .methodLinkNest .. => true
  | _ => false
theorem g_nl_ok : g_nl.all gNb = true := rfl
theorem w_92 : Cond.fieldLinkNest "DutyRules" 202 "DutyRules$Facts" "lastKnowing" "I" "DutyRules" ∈ g_nl := List.mem_of_getElem? (i := 0) rfl
theorem w_108 : Cond.fieldLinkNest "DutyRules" 152 "DutyRules$Duty" "lot" "I" "DutyRules" ∈ g_nl := List.mem_of_getElem? (i := 1) rfl
theorem w_110 : Cond.fieldLinkNest "DutyRules" 139 "DutyRules$Duty" "reason" "I" "DutyRules" ∈ g_nl := List.mem_of_getElem? (i := 2) rfl
theorem w_112 : Cond.fieldLinkNest "DutyRules" 155 "DutyRules$Duty" "steps" "I" "DutyRules" ∈ g_nl := List.mem_of_getElem? (i := 3) rfl
theorem w_114 : Cond.fieldLinkNest "DutyRules" 142 "DutyRules$Duty" "amount" "J" "DutyRules" ∈ g_nl := List.mem_of_getElem? (i := 4) rfl
theorem w_116 : Cond.fieldLinkNest "DutyRules" 185 "DutyRules$Duty" "free" "J" "DutyRules" ∈ g_nl := List.mem_of_getElem? (i := 5) rfl
theorem w_119 : Cond.fieldLinkNest "DutyRules" 158 "DutyRules$Duty" "letters" "[I" "DutyRules" ∈ g_nl := List.mem_of_getElem? (i := 6) rfl
theorem w_121 : Cond.fieldLinkNest "DutyRules" 162 "DutyRules$Duty" "numbers" "[I" "DutyRules" ∈ g_nl := List.mem_of_getElem? (i := 7) rfl
theorem w_123 : Cond.fieldLinkNest "DutyRules" 165 "DutyRules$Duty" "centsBehind" "[J" "DutyRules" ∈ g_nl := List.mem_of_getElem? (i := 8) rfl
theorem w_151 : Cond.fieldLinkNest "DutyRules" 99 "DutyRules$Rules" "count" "I" "DutyRules" ∈ g_nl := List.mem_of_getElem? (i := 9) rfl
theorem w_152 : Cond.fieldLinkNest "DutyRules$Grammar" 72 "DutyRules$Rules" "count" "I" "DutyRules" ∈ g_nl := List.mem_of_getElem? (i := 10) rfl
theorem w_398 : Cond.fieldLinkNest "DutyRules" 91 "DutyRules$Words" "number" "I" "DutyRules" ∈ g_nl := List.mem_of_getElem? (i := 11) rfl
theorem w_577 : Cond.methodLinkNest "DutyRules$Facts" 53 y_DR_isLot "DutyRules" ∈ g_nl := List.mem_of_getElem? (i := 12) rfl
theorem w_578 : Cond.methodLinkNest "DutyRules$Facts" 57 y_DR_isFactKind "DutyRules" ∈ g_nl := List.mem_of_getElem? (i := 13) rfl
theorem w_585 : Cond.fieldLinkNest "DutyRules$Facts" 43 "DutyRules$Fact" "day" "I" "DutyRules" ∈ g_nl := List.mem_of_getElem? (i := 14) rfl
theorem w_587 : Cond.fieldLinkNest "DutyRules$Facts" 50 "DutyRules$Fact" "value" "I" "DutyRules" ∈ g_nl := List.mem_of_getElem? (i := 15) rfl
theorem w_589 : Cond.fieldLinkNest "DutyRules$Facts" 46 "DutyRules$Fact" "before" "LDutyRules$Fact;" "DutyRules" ∈ g_nl := List.mem_of_getElem? (i := 16) rfl
theorem w_591 : Cond.fieldLinkNest "DutyRules$Facts" 40 "DutyRules$Fact" "knownFrom" "I" "DutyRules" ∈ g_nl := List.mem_of_getElem? (i := 17) rfl
theorem w_723 : Cond.fieldLinkNest "DutyRules" 252 "DutyRules$Return" "month" "I" "DutyRules" ∈ g_nl := List.mem_of_getElem? (i := 18) rfl
theorem w_725 : Cond.fieldLinkNest "DutyRules" 255 "DutyRules$Return" "before" "LDutyRules$Return;" "DutyRules" ∈ g_nl := List.mem_of_getElem? (i := 19) rfl
theorem w_728 : Cond.fieldLinkNest "DutyRules" 218 "DutyRules$Return" "cents" "[J" "DutyRules" ∈ g_nl := List.mem_of_getElem? (i := 20) rfl
theorem w_730 : Cond.fieldLinkNest "DutyRules" 221 "DutyRules$Return" "changes" "[J" "DutyRules" ∈ g_nl := List.mem_of_getElem? (i := 21) rfl
theorem w_755 : Cond.methodLinkNest "DutyRules$Return" 30 y_DR_isLot "DutyRules" ∈ g_nl := List.mem_of_getElem? (i := 22) rfl
def g_al : List String := ["DutyRules$Rules", "DutyRules$Fact"]
def g_sl : List (String × Nat × String × Nat) := [("DutyRules", 47, "", 0), ("DutyRules$Grammar", 104, "rate G from S to S pay P;", 1), ("DutyRules$Grammar", 106, "small G below L times H;", 2), ("DutyRules$Grammar", 108, "loss G upto H;", 3), ("DutyRules$Grammar", 110, "away G times H;", 4), ("DutyRules$Grammar", 112, "round N;", 5), ("DutyRules$Grammar", 114, "late H;", 6), ("DutyRulesModel", 107, "rate small loss away round late from to pay below times upto ; ", 7)]
theorem w_162 : ("DutyRules", 47, "", 0) ∈ g_sl := List.mem_of_getElem? (i := 0) rfl
theorem w_445 : ("DutyRules$Grammar", 104, "rate G from S to S pay P;", 1) ∈ g_sl := List.mem_of_getElem? (i := 1) rfl
theorem w_446 : ("DutyRules$Grammar", 106, "small G below L times H;", 2) ∈ g_sl := List.mem_of_getElem? (i := 2) rfl
theorem w_447 : ("DutyRules$Grammar", 108, "loss G upto H;", 3) ∈ g_sl := List.mem_of_getElem? (i := 3) rfl
theorem w_448 : ("DutyRules$Grammar", 110, "away G times H;", 4) ∈ g_sl := List.mem_of_getElem? (i := 4) rfl
theorem w_449 : ("DutyRules$Grammar", 112, "round N;", 5) ∈ g_sl := List.mem_of_getElem? (i := 5) rfl
theorem w_450 : ("DutyRules$Grammar", 114, "late H;", 6) ∈ g_sl := List.mem_of_getElem? (i := 6) rfl
theorem w_959 : ("DutyRulesModel", 107, "rate small loss away round late from to pay below times upto ; ", 7) ∈ g_sl := List.mem_of_getElem? (i := 7) rfl
def g_zl : List (String × String × String × Value) := [("java/lang/String", "COMPACT_STRINGS", "Z", .int 1)]
def gTys (E : Nat → ClassId) : List (ClassId × FieldType) := [(E 0, .int), (E 1, .long), (E 2, .boolean), (E 3, .byte), (E 4, .object "DutyRules$Rules"), (E 5, .object "DutyRules$Fact")]
theorem s_DR : ∀ w ∈ u_ws "DutyRules" T_DR 10, w ∈ g_T := by
  intro w hw
  obtain ⟨k, hk, rfl⟩ := List.mem_map.mp hw
  have hk := List.mem_range.mp hk
  match k, hk with
  | 0, _ => exact w_173
  | 1, _ => exact w_175
  | 2, _ => exact w_177
  | 3, _ => exact w_179
  | 4, _ => exact w_181
  | 5, _ => exact w_183
  | 6, _ => exact w_185
  | 7, _ => exact w_187
  | 8, _ => exact w_189
  | 9, _ => exact w_191
  | k + 10, h => exact absurd h (by omega)
theorem s_DU : ∀ w ∈ u_ws "DutyRules$Duty" T_DU 9, w ∈ g_T := by
  intro w hw
  obtain ⟨k, hk, rfl⟩ := List.mem_map.mp hw
  have hk := List.mem_range.mp hk
  match k, hk with
  | 0, _ => exact w_124
  | 1, _ => exact w_126
  | 2, _ => exact w_128
  | 3, _ => exact w_130
  | 4, _ => exact w_132
  | 5, _ => exact w_134
  | 6, _ => exact w_136
  | 7, _ => exact w_138
  | 8, _ => exact w_140
  | k + 9, h => exact absurd h (by omega)
theorem s_ED : ∀ w ∈ u_ws "DutyRules$Editions" T_ED 3, w ∈ g_T := by
  intro w hw
  obtain ⟨k, hk, rfl⟩ := List.mem_map.mp hw
  have hk := List.mem_range.mp hk
  match k, hk with
  | 0, _ => exact w_74
  | 1, _ => exact w_76
  | 2, _ => exact w_78
  | k + 3, h => exact absurd h (by omega)
theorem s_FA : ∀ w ∈ u_ws "DutyRules$Fact" T_FA 4, w ∈ g_T := by
  intro w hw
  obtain ⟨k, hk, rfl⟩ := List.mem_map.mp hw
  have hk := List.mem_range.mp hk
  match k, hk with
  | 0, _ => exact w_592
  | 1, _ => exact w_594
  | 2, _ => exact w_596
  | 3, _ => exact w_598
  | k + 4, h => exact absurd h (by omega)
theorem s_FS : ∀ w ∈ u_ws "DutyRules$Facts" T_FS 3, w ∈ g_T := by
  intro w hw
  obtain ⟨k, hk, rfl⟩ := List.mem_map.mp hw
  have hk := List.mem_range.mp hk
  match k, hk with
  | 0, _ => exact w_94
  | 1, _ => exact w_96
  | 2, _ => exact w_98
  | k + 3, h => exact absurd h (by omega)
theorem s_RE : ∀ w ∈ u_ws "DutyRules$Return" T_RE 5, w ∈ g_T := by
  intro w hw
  obtain ⟨k, hk, rfl⟩ := List.mem_map.mp hw
  have hk := List.mem_range.mp hk
  match k, hk with
  | 0, _ => exact w_731
  | 1, _ => exact w_733
  | 2, _ => exact w_735
  | 3, _ => exact w_737
  | 4, _ => exact w_739
  | k + 5, h => exact absurd h (by omega)
theorem s_RU : ∀ w ∈ u_ws "DutyRules$Rules" T_RU 3, w ∈ g_T := by
  intro w hw
  obtain ⟨k, hk, rfl⟩ := List.mem_map.mp hw
  have hk := List.mem_range.mp hk
  match k, hk with
  | 0, _ => exact w_155
  | 1, _ => exact w_157
  | 2, _ => exact w_159
  | k + 3, h => exact absurd h (by omega)
theorem s_WO : ∀ w ∈ u_ws "DutyRules$Words" T_WO 4, w ∈ g_T := by
  intro w hw
  obtain ⟨k, hk, rfl⟩ := List.mem_map.mp hw
  have hk := List.mem_range.mp hk
  match k, hk with
  | 0, _ => exact w_399
  | 1, _ => exact w_401
  | 2, _ => exact w_403
  | 3, _ => exact w_405
  | k + 4, h => exact absurd h (by omega)
theorem s_MO : ∀ w ∈ u_ws "DutyRulesModel" T_MO 40, w ∈ g_T := by
  intro w hw
  obtain ⟨k, hk, rfl⟩ := List.mem_map.mp hw
  have hk := List.mem_range.mp hk
  match k, hk with
  | 0, _ => exact w_849
  | 1, _ => exact w_851
  | 2, _ => exact w_853
  | 3, _ => exact w_855
  | 4, _ => exact w_857
  | 5, _ => exact w_859
  | 6, _ => exact w_861
  | 7, _ => exact w_863
  | 8, _ => exact w_865
  | 9, _ => exact w_867
  | 10, _ => exact w_869
  | 11, _ => exact w_871
  | 12, _ => exact w_873
  | 13, _ => exact w_875
  | 14, _ => exact w_877
  | 15, _ => exact w_879
  | 16, _ => exact w_881
  | 17, _ => exact w_883
  | 18, _ => exact w_885
  | 19, _ => exact w_887
  | 20, _ => exact w_889
  | 21, _ => exact w_891
  | 22, _ => exact w_893
  | 23, _ => exact w_895
  | 24, _ => exact w_897
  | 25, _ => exact w_899
  | 26, _ => exact w_901
  | 27, _ => exact w_903
  | 28, _ => exact w_905
  | 29, _ => exact w_907
  | 30, _ => exact w_909
  | 31, _ => exact w_911
  | 32, _ => exact w_913
  | 33, _ => exact w_915
  | 34, _ => exact w_917
  | 35, _ => exact w_919
  | 36, _ => exact w_921
  | 37, _ => exact w_923
  | 38, _ => exact w_925
  | 39, _ => exact w_927
  | k + 40, h => exact absurd h (by omega)
theorem s_SB : ∀ w ∈ u_ws "java/lang/StringBuilder" T_SB 4, w ∈ g_T := by
  intro w hw
  obtain ⟨k, hk, rfl⟩ := List.mem_map.mp hw
  have hk := List.mem_range.mp hk
  match k, hk with
  | 0, _ => exact w_53
  | 1, _ => exact w_55
  | 2, _ => exact w_57
  | 3, _ => exact w_59
  | k + 4, h => exact absurd h (by omega)
theorem s_ST : ∀ w ∈ u_ws "java/lang/String" T_ST 4, w ∈ g_T := by
  intro w hw
  obtain ⟨k, hk, rfl⟩ := List.mem_map.mp hw
  have hk := List.mem_range.mp hk
  match k, hk with
  | 0, _ => exact w_351
  | 1, _ => exact w_353
  | 2, _ => exact w_355
  | 3, _ => exact w_357
  | k + 4, h => exact absurd h (by omega)
end
section
theorem d_DR_init_0 : decode b_DR_init 0 = .ok (.aload_n 0, 1) := by decide +kernel
theorem d_DR_init_1 : decode b_DR_init 1 = .ok (.invokespecial 1, 3) := by decide +kernel
theorem d_DR_init_4 : decode b_DR_init 4 = .ok (.aload_n 0, 1) := by decide +kernel
theorem d_DR_init_5 : decode b_DR_init 5 = .ok (.new 7, 3) := by decide +kernel
theorem d_DR_init_8 : decode b_DR_init 8 = .ok (.dup, 1) := by decide +kernel
theorem d_DR_init_9 : decode b_DR_init 9 = .ok (.invokespecial 9, 3) := by decide +kernel
theorem d_DR_init_12 : decode b_DR_init 12 = .ok (.putfield 10, 3) := by decide +kernel
theorem d_DR_init_15 : decode b_DR_init 15 = .ok (.aload_n 0, 1) := by decide +kernel
theorem d_DR_init_16 : decode b_DR_init 16 = .ok (.new 16, 3) := by decide +kernel
theorem d_DR_init_19 : decode b_DR_init 19 = .ok (.dup, 1) := by decide +kernel
theorem d_DR_init_20 : decode b_DR_init 20 = .ok (.invokespecial 18, 3) := by decide +kernel
theorem d_DR_init_23 : decode b_DR_init 23 = .ok (.putfield 19, 3) := by decide +kernel
theorem d_DR_init_26 : decode b_DR_init 26 = .ok (.aload_n 0, 1) := by decide +kernel
theorem d_DR_init_27 : decode b_DR_init 27 = .ok (.new 23, 3) := by decide +kernel
theorem d_DR_init_30 : decode b_DR_init 30 = .ok (.dup, 1) := by decide +kernel
theorem d_DR_init_31 : decode b_DR_init 31 = .ok (.invokespecial 25, 3) := by decide +kernel
theorem d_DR_init_34 : decode b_DR_init 34 = .ok (.putfield 26, 3) := by decide +kernel
theorem d_DR_init_37 : decode b_DR_init 37 = .ok (.aload_n 0, 1) := by decide +kernel
theorem d_DR_init_38 : decode b_DR_init 38 = .ok (.new 30, 3) := by decide +kernel
theorem d_DR_init_41 : decode b_DR_init 41 = .ok (.dup, 1) := by decide +kernel
theorem d_DR_init_42 : decode b_DR_init 42 = .ok (.invokespecial 32, 3) := by decide +kernel
theorem d_DR_init_45 : decode b_DR_init 45 = .ok (.putfield 33, 3) := by decide +kernel
theorem d_DR_init_48 : decode b_DR_init 48 = .ok (.aload_n 0, 1) := by decide +kernel
theorem d_DR_init_49 : decode b_DR_init 49 = .ok (.new 30, 3) := by decide +kernel
theorem d_DR_init_52 : decode b_DR_init 52 = .ok (.dup, 1) := by decide +kernel
theorem d_DR_init_53 : decode b_DR_init 53 = .ok (.invokespecial 32, 3) := by decide +kernel
theorem d_DR_init_56 : decode b_DR_init 56 = .ok (.putfield 37, 3) := by decide +kernel
theorem d_DR_init_59 : decode b_DR_init 59 = .ok (.aload_n 0, 1) := by decide +kernel
theorem d_DR_init_60 : decode b_DR_init 60 = .ok (.new 40, 3) := by decide +kernel
theorem d_DR_init_63 : decode b_DR_init 63 = .ok (.dup, 1) := by decide +kernel
theorem d_DR_init_64 : decode b_DR_init 64 = .ok (.invokespecial 42, 3) := by decide +kernel
theorem d_DR_init_67 : decode b_DR_init 67 = .ok (.putfield 43, 3) := by decide +kernel
theorem d_DR_init_70 : decode b_DR_init 70 = .ok (.aload_n 0, 1) := by decide +kernel
theorem d_DR_init_71 : decode b_DR_init 71 = .ok (.ldc 47, 2) := by decide +kernel
theorem d_DR_init_73 : decode b_DR_init 73 = .ok (.putfield 49, 3) := by decide +kernel
theorem d_DR_init_76 : decode b_DR_init 76 = .ok (.aload_n 0, 1) := by decide +kernel
theorem d_DR_init_77 : decode b_DR_init 77 = .ok (.iconst 0, 1) := by decide +kernel
theorem d_DR_init_78 : decode b_DR_init 78 = .ok (.putfield 53, 3) := by decide +kernel
theorem d_DR_init_81 : decode b_DR_init 81 = .ok (.aload_n 0, 1) := by decide +kernel
theorem d_DR_init_82 : decode b_DR_init 82 = .ok (.aconst_null, 1) := by decide +kernel
theorem d_DR_init_83 : decode b_DR_init 83 = .ok (.putfield 57, 3) := by decide +kernel
theorem d_DR_init_86 : decode b_DR_init 86 = .ok (.aload_n 0, 1) := by decide +kernel
theorem d_DR_init_87 : decode b_DR_init 87 = .ok (.aconst_null, 1) := by decide +kernel
theorem d_DR_init_88 : decode b_DR_init 88 = .ok (.putfield 61, 3) := by decide +kernel
theorem d_DR_init_91 : decode b_DR_init 91 = .ok (.return_, 1) := by decide +kernel
theorem d_ED_init_0 : decode b_ED_init 0 = .ok (.aload_n 0, 1) := by decide +kernel
theorem d_ED_init_1 : decode b_ED_init 1 = .ok (.invokespecial 3, 3) := by decide +kernel
theorem d_ED_init_4 : decode b_ED_init 4 = .ok (.aload_n 0, 1) := by decide +kernel
theorem d_ED_init_5 : decode b_ED_init 5 = .ok (.iconst 0, 1) := by decide +kernel
theorem d_ED_init_6 : decode b_ED_init 6 = .ok (.putfield 9, 3) := by decide +kernel
theorem d_ED_init_9 : decode b_ED_init 9 = .ok (.aload_n 0, 1) := by decide +kernel
theorem d_ED_init_10 : decode b_ED_init 10 = .ok (.bipush 10, 2) := by decide +kernel
theorem d_ED_init_12 : decode b_ED_init 12 = .ok (.anewarray 15, 3) := by decide +kernel
theorem d_ED_init_15 : decode b_ED_init 15 = .ok (.putfield 17, 3) := by decide +kernel
theorem d_ED_init_18 : decode b_ED_init 18 = .ok (.aload_n 0, 1) := by decide +kernel
theorem d_ED_init_19 : decode b_ED_init 19 = .ok (.bipush 10, 2) := by decide +kernel
theorem d_ED_init_21 : decode b_ED_init 21 = .ok (.newarray .int, 2) := by decide +kernel
theorem d_ED_init_23 : decode b_ED_init 23 = .ok (.putfield 21, 3) := by decide +kernel
theorem d_ED_init_26 : decode b_ED_init 26 = .ok (.return_, 1) := by decide +kernel
theorem d_FS_init_0 : decode b_FS_init 0 = .ok (.aload_n 0, 1) := by decide +kernel
theorem d_FS_init_1 : decode b_FS_init 1 = .ok (.invokespecial 3, 3) := by decide +kernel
theorem d_FS_init_4 : decode b_FS_init 4 = .ok (.aload_n 0, 1) := by decide +kernel
theorem d_FS_init_5 : decode b_FS_init 5 = .ok (.iconst 0, 1) := by decide +kernel
theorem d_FS_init_6 : decode b_FS_init 6 = .ok (.putfield 9, 3) := by decide +kernel
theorem d_FS_init_9 : decode b_FS_init 9 = .ok (.aload_n 0, 1) := by decide +kernel
theorem d_FS_init_10 : decode b_FS_init 10 = .ok (.iconst 0, 1) := by decide +kernel
theorem d_FS_init_11 : decode b_FS_init 11 = .ok (.putfield 15, 3) := by decide +kernel
theorem d_FS_init_14 : decode b_FS_init 14 = .ok (.aload_n 0, 1) := by decide +kernel
theorem d_FS_init_15 : decode b_FS_init 15 = .ok (.sipush 180, 3) := by decide +kernel
theorem d_FS_init_18 : decode b_FS_init 18 = .ok (.anewarray 18, 3) := by decide +kernel
theorem d_FS_init_21 : decode b_FS_init 21 = .ok (.putfield 20, 3) := by decide +kernel
theorem d_FS_init_24 : decode b_FS_init 24 = .ok (.return_, 1) := by decide +kernel
theorem d_DU_init_0 : decode b_DU_init 0 = .ok (.aload_n 0, 1) := by decide +kernel
theorem d_DU_init_1 : decode b_DU_init 1 = .ok (.invokespecial 3, 3) := by decide +kernel
theorem d_DU_init_4 : decode b_DU_init 4 = .ok (.aload_n 0, 1) := by decide +kernel
theorem d_DU_init_5 : decode b_DU_init 5 = .ok (.iconst (-1), 1) := by decide +kernel
theorem d_DU_init_6 : decode b_DU_init 6 = .ok (.putfield 9, 3) := by decide +kernel
theorem d_DU_init_9 : decode b_DU_init 9 = .ok (.aload_n 0, 1) := by decide +kernel
theorem d_DU_init_10 : decode b_DU_init 10 = .ok (.iconst (-1), 1) := by decide +kernel
theorem d_DU_init_11 : decode b_DU_init 11 = .ok (.putfield 15, 3) := by decide +kernel
theorem d_DU_init_14 : decode b_DU_init 14 = .ok (.aload_n 0, 1) := by decide +kernel
theorem d_DU_init_15 : decode b_DU_init 15 = .ok (.iconst 0, 1) := by decide +kernel
theorem d_DU_init_16 : decode b_DU_init 16 = .ok (.putfield 18, 3) := by decide +kernel
theorem d_DU_init_19 : decode b_DU_init 19 = .ok (.aload_n 0, 1) := by decide +kernel
theorem d_DU_init_20 : decode b_DU_init 20 = .ok (.lconst 0, 1) := by decide +kernel
theorem d_DU_init_21 : decode b_DU_init 21 = .ok (.putfield 21, 3) := by decide +kernel
theorem d_DU_init_24 : decode b_DU_init 24 = .ok (.aload_n 0, 1) := by decide +kernel
theorem d_DU_init_25 : decode b_DU_init 25 = .ok (.lconst 0, 1) := by decide +kernel
theorem d_DU_init_26 : decode b_DU_init 26 = .ok (.putfield 25, 3) := by decide +kernel
theorem d_DU_init_29 : decode b_DU_init 29 = .ok (.aload_n 0, 1) := by decide +kernel
theorem d_DU_init_30 : decode b_DU_init 30 = .ok (.bipush 6, 2) := by decide +kernel
theorem d_DU_init_32 : decode b_DU_init 32 = .ok (.newarray .int, 2) := by decide +kernel
theorem d_DU_init_34 : decode b_DU_init 34 = .ok (.putfield 28, 3) := by decide +kernel
theorem d_DU_init_37 : decode b_DU_init 37 = .ok (.aload_n 0, 1) := by decide +kernel
theorem d_DU_init_38 : decode b_DU_init 38 = .ok (.iconst 5, 1) := by decide +kernel
theorem d_DU_init_39 : decode b_DU_init 39 = .ok (.newarray .int, 2) := by decide +kernel
theorem d_DU_init_41 : decode b_DU_init 41 = .ok (.putfield 32, 3) := by decide +kernel
theorem d_DU_init_44 : decode b_DU_init 44 = .ok (.aload_n 0, 1) := by decide +kernel
theorem d_DU_init_45 : decode b_DU_init 45 = .ok (.iconst 5, 1) := by decide +kernel
theorem d_DU_init_46 : decode b_DU_init 46 = .ok (.newarray .int, 2) := by decide +kernel
theorem d_DU_init_48 : decode b_DU_init 48 = .ok (.putfield 35, 3) := by decide +kernel
theorem d_DU_init_51 : decode b_DU_init 51 = .ok (.aload_n 0, 1) := by decide +kernel
theorem d_DU_init_52 : decode b_DU_init 52 = .ok (.iconst 5, 1) := by decide +kernel
theorem d_DU_init_53 : decode b_DU_init 53 = .ok (.newarray .long, 2) := by decide +kernel
theorem d_DU_init_55 : decode b_DU_init 55 = .ok (.putfield 38, 3) := by decide +kernel
theorem d_DU_init_58 : decode b_DU_init 58 = .ok (.return_, 1) := by decide +kernel
theorem d_RU_init_0 : decode b_RU_init 0 = .ok (.aload_n 0, 1) := by decide +kernel
theorem d_RU_init_1 : decode b_RU_init 1 = .ok (.invokespecial 3, 3) := by decide +kernel
theorem d_RU_init_4 : decode b_RU_init 4 = .ok (.aload_n 0, 1) := by decide +kernel
theorem d_RU_init_5 : decode b_RU_init 5 = .ok (.iconst 0, 1) := by decide +kernel
theorem d_RU_init_6 : decode b_RU_init 6 = .ok (.putfield 9, 3) := by decide +kernel
theorem d_RU_init_9 : decode b_RU_init 9 = .ok (.aload_n 0, 1) := by decide +kernel
theorem d_RU_init_10 : decode b_RU_init 10 = .ok (.bipush 40, 2) := by decide +kernel
theorem d_RU_init_12 : decode b_RU_init 12 = .ok (.newarray .int, 2) := by decide +kernel
theorem d_RU_init_14 : decode b_RU_init 14 = .ok (.putfield 15, 3) := by decide +kernel
theorem d_RU_init_17 : decode b_RU_init 17 = .ok (.aload_n 0, 1) := by decide +kernel
theorem d_RU_init_18 : decode b_RU_init 18 = .ok (.sipush 160, 3) := by decide +kernel
theorem d_RU_init_21 : decode b_RU_init 21 = .ok (.newarray .int, 2) := by decide +kernel
theorem d_RU_init_23 : decode b_RU_init 23 = .ok (.putfield 19, 3) := by decide +kernel
theorem d_RU_init_26 : decode b_RU_init 26 = .ok (.return_, 1) := by decide +kernel
theorem d_DR_unit_0 : decode b_DR_unit 0 = .ok (.iload_n 1, 1) := by decide +kernel
theorem d_DR_unit_1 : decode b_DR_unit 1 = .ok (.iconst 1, 1) := by decide +kernel
theorem d_DR_unit_2 : decode b_DR_unit 2 = .ok (.if_icmp .lt 22, 3) := by decide +kernel
theorem d_DR_unit_5 : decode b_DR_unit 5 = .ok (.iload_n 1, 1) := by decide +kernel
theorem d_DR_unit_6 : decode b_DR_unit 6 = .ok (.bipush 127, 2) := by decide +kernel
theorem d_DR_unit_8 : decode b_DR_unit 8 = .ok (.if_icmp .gt 16, 3) := by decide +kernel
theorem d_DR_unit_11 : decode b_DR_unit 11 = .ok (.aload_n 0, 1) := by decide +kernel
theorem d_DR_unit_12 : decode b_DR_unit 12 = .ok (.getfield 10, 3) := by decide +kernel
theorem d_DR_unit_15 : decode b_DR_unit 15 = .ok (.invokevirtual 64, 3) := by decide +kernel
theorem d_DR_unit_18 : decode b_DR_unit 18 = .ok (.sipush 2000, 3) := by decide +kernel
theorem d_DR_unit_21 : decode b_DR_unit 21 = .ok (.if_icmp .lt 5, 3) := by decide +kernel
theorem d_DR_unit_24 : decode b_DR_unit 24 = .ok (.iconst 0, 1) := by decide +kernel
theorem d_DR_unit_25 : decode b_DR_unit 25 = .ok (.ireturn, 1) := by decide +kernel
theorem d_DR_unit_26 : decode b_DR_unit 26 = .ok (.aload_n 0, 1) := by decide +kernel
theorem d_DR_unit_27 : decode b_DR_unit 27 = .ok (.getfield 10, 3) := by decide +kernel
theorem d_DR_unit_30 : decode b_DR_unit 30 = .ok (.iload_n 1, 1) := by decide +kernel
theorem d_DR_unit_31 : decode b_DR_unit 31 = .ok (.i2c, 1) := by decide +kernel
theorem d_DR_unit_32 : decode b_DR_unit 32 = .ok (.invokevirtual 68, 3) := by decide +kernel
theorem d_DR_unit_35 : decode b_DR_unit 35 = .ok (.pop, 1) := by decide +kernel
theorem d_DR_unit_36 : decode b_DR_unit 36 = .ok (.iconst 1, 1) := by decide +kernel
theorem d_DR_unit_37 : decode b_DR_unit 37 = .ok (.ireturn, 1) := by decide +kernel
theorem d_DR_read_0 : decode b_DR_read 0 = .ok (.new 72, 3) := by decide +kernel
theorem d_DR_read_3 : decode b_DR_read 3 = .ok (.dup, 1) := by decide +kernel
theorem d_DR_read_4 : decode b_DR_read 4 = .ok (.aload_n 0, 1) := by decide +kernel
theorem d_DR_read_5 : decode b_DR_read 5 = .ok (.getfield 10, 3) := by decide +kernel
theorem d_DR_read_8 : decode b_DR_read 8 = .ok (.invokevirtual 74, 3) := by decide +kernel
theorem d_DR_read_11 : decode b_DR_read 11 = .ok (.invokespecial 78, 3) := by decide +kernel
theorem d_DR_read_14 : decode b_DR_read 14 = .ok (.astore_n 1, 1) := by decide +kernel
theorem d_DR_read_15 : decode b_DR_read 15 = .ok (.new 40, 3) := by decide +kernel
theorem d_DR_read_18 : decode b_DR_read 18 = .ok (.dup, 1) := by decide +kernel
theorem d_DR_read_19 : decode b_DR_read 19 = .ok (.invokespecial 42, 3) := by decide +kernel
theorem d_DR_read_22 : decode b_DR_read 22 = .ok (.astore_n 2, 1) := by decide +kernel
theorem d_DR_read_23 : decode b_DR_read 23 = .ok (.aload_n 0, 1) := by decide +kernel
theorem d_DR_read_24 : decode b_DR_read 24 = .ok (.getfield 10, 3) := by decide +kernel
theorem d_DR_read_27 : decode b_DR_read 27 = .ok (.iconst 0, 1) := by decide +kernel
theorem d_DR_read_28 : decode b_DR_read 28 = .ok (.invokevirtual 81, 3) := by decide +kernel
theorem d_DR_read_31 : decode b_DR_read 31 = .ok (.aload_n 2, 1) := by decide +kernel
theorem d_DR_read_32 : decode b_DR_read 32 = .ok (.aload_n 1, 1) := by decide +kernel
theorem d_DR_read_33 : decode b_DR_read 33 = .ok (.invokestatic 85, 3) := by decide +kernel
theorem d_DR_read_36 : decode b_DR_read 36 = .ok (.ifCond .ne 10, 3) := by decide +kernel
theorem d_DR_read_39 : decode b_DR_read 39 = .ok (.iconst (-1), 1) := by decide +kernel
theorem d_DR_read_40 : decode b_DR_read 40 = .ok (.aload_n 1, 1) := by decide +kernel
theorem d_DR_read_41 : decode b_DR_read 41 = .ok (.getfield 91, 3) := by decide +kernel
theorem d_DR_read_44 : decode b_DR_read 44 = .ok (.isub, 1) := by decide +kernel
theorem d_DR_read_45 : decode b_DR_read 45 = .ok (.ireturn, 1) := by decide +kernel
theorem d_DR_read_46 : decode b_DR_read 46 = .ok (.aload_n 0, 1) := by decide +kernel
theorem d_DR_read_47 : decode b_DR_read 47 = .ok (.aload_n 2, 1) := by decide +kernel
theorem d_DR_read_48 : decode b_DR_read 48 = .ok (.putfield 43, 3) := by decide +kernel
theorem d_DR_read_51 : decode b_DR_read 51 = .ok (.aload_n 0, 1) := by decide +kernel
theorem d_DR_read_52 : decode b_DR_read 52 = .ok (.aload_n 2, 1) := by decide +kernel
theorem d_DR_read_53 : decode b_DR_read 53 = .ok (.invokestatic 95, 3) := by decide +kernel
theorem d_DR_read_56 : decode b_DR_read 56 = .ok (.putfield 49, 3) := by decide +kernel
theorem d_DR_read_59 : decode b_DR_read 59 = .ok (.aload_n 2, 1) := by decide +kernel
theorem d_DR_read_60 : decode b_DR_read 60 = .ok (.getfield 99, 3) := by decide +kernel
theorem d_DR_read_63 : decode b_DR_read 63 = .ok (.ireturn, 1) := by decide +kernel
theorem d_WO_init_0 : decode b_WO_init 0 = .ok (.aload_n 0, 1) := by decide +kernel
theorem d_WO_init_1 : decode b_WO_init 1 = .ok (.invokespecial 3, 3) := by decide +kernel
theorem d_WO_init_4 : decode b_WO_init 4 = .ok (.aload_n 0, 1) := by decide +kernel
theorem d_WO_init_5 : decode b_WO_init 5 = .ok (.aload_n 1, 1) := by decide +kernel
theorem d_WO_init_6 : decode b_WO_init 6 = .ok (.putfield 9, 3) := by decide +kernel
theorem d_WO_init_9 : decode b_WO_init 9 = .ok (.aload_n 0, 1) := by decide +kernel
theorem d_WO_init_10 : decode b_WO_init 10 = .ok (.iconst 0, 1) := by decide +kernel
theorem d_WO_init_11 : decode b_WO_init 11 = .ok (.putfield 15, 3) := by decide +kernel
theorem d_WO_init_14 : decode b_WO_init 14 = .ok (.aload_n 0, 1) := by decide +kernel
theorem d_WO_init_15 : decode b_WO_init 15 = .ok (.iconst 0, 1) := by decide +kernel
theorem d_WO_init_16 : decode b_WO_init 16 = .ok (.putfield 19, 3) := by decide +kernel
theorem d_WO_init_19 : decode b_WO_init 19 = .ok (.aload_n 0, 1) := by decide +kernel
theorem d_WO_init_20 : decode b_WO_init 20 = .ok (.iconst (-1), 1) := by decide +kernel
theorem d_WO_init_21 : decode b_WO_init 21 = .ok (.putfield 22, 3) := by decide +kernel
theorem d_WO_init_24 : decode b_WO_init 24 = .ok (.aload_n 0, 1) := by decide +kernel
theorem d_WO_init_25 : decode b_WO_init 25 = .ok (.invokevirtual 25, 3) := by decide +kernel
theorem d_WO_init_28 : decode b_WO_init 28 = .ok (.return_, 1) := by decide +kernel
theorem d_WO_advance_0 : decode b_WO_advance 0 = .ok (.aload_n 0, 1) := by decide +kernel
theorem d_WO_advance_1 : decode b_WO_advance 1 = .ok (.getfield 19, 3) := by decide +kernel
theorem d_WO_advance_4 : decode b_WO_advance 4 = .ok (.istore_n 1, 1) := by decide +kernel
theorem d_WO_advance_5 : decode b_WO_advance 5 = .ok (.iload_n 1, 1) := by decide +kernel
theorem d_WO_advance_6 : decode b_WO_advance 6 = .ok (.aload_n 0, 1) := by decide +kernel
theorem d_WO_advance_7 : decode b_WO_advance 7 = .ok (.getfield 9, 3) := by decide +kernel
theorem d_WO_advance_10 : decode b_WO_advance 10 = .ok (.invokevirtual 28, 3) := by decide +kernel
theorem d_WO_advance_13 : decode b_WO_advance 13 = .ok (.if_icmp .ge 23, 3) := by decide +kernel
theorem d_WO_advance_16 : decode b_WO_advance 16 = .ok (.aload_n 0, 1) := by decide +kernel
theorem d_WO_advance_17 : decode b_WO_advance 17 = .ok (.getfield 9, 3) := by decide +kernel
theorem d_WO_advance_20 : decode b_WO_advance 20 = .ok (.iload_n 1, 1) := by decide +kernel
theorem d_WO_advance_21 : decode b_WO_advance 21 = .ok (.invokevirtual 34, 3) := by decide +kernel
theorem d_WO_advance_24 : decode b_WO_advance 24 = .ok (.invokestatic 38, 3) := by decide +kernel
theorem d_WO_advance_27 : decode b_WO_advance 27 = .ok (.ifCond .eq 9, 3) := by decide +kernel
theorem d_WO_advance_30 : decode b_WO_advance 30 = .ok (.iinc 1 1, 3) := by decide +kernel
theorem d_WO_advance_33 : decode b_WO_advance 33 = .ok (.goto (-28), 3) := by decide +kernel
theorem d_WO_advance_36 : decode b_WO_advance 36 = .ok (.aload_n 0, 1) := by decide +kernel
theorem d_WO_advance_37 : decode b_WO_advance 37 = .ok (.iload_n 1, 1) := by decide +kernel
theorem d_WO_advance_38 : decode b_WO_advance 38 = .ok (.putfield 15, 3) := by decide +kernel
theorem d_WO_advance_41 : decode b_WO_advance 41 = .ok (.iload_n 1, 1) := by decide +kernel
theorem d_WO_advance_42 : decode b_WO_advance 42 = .ok (.aload_n 0, 1) := by decide +kernel
theorem d_WO_advance_43 : decode b_WO_advance 43 = .ok (.getfield 9, 3) := by decide +kernel
theorem d_WO_advance_46 : decode b_WO_advance 46 = .ok (.invokevirtual 28, 3) := by decide +kernel
theorem d_WO_advance_49 : decode b_WO_advance 49 = .ok (.if_icmp .ge 36, 3) := by decide +kernel
theorem d_WO_advance_52 : decode b_WO_advance 52 = .ok (.aload_n 0, 1) := by decide +kernel
theorem d_WO_advance_53 : decode b_WO_advance 53 = .ok (.getfield 9, 3) := by decide +kernel
theorem d_WO_advance_56 : decode b_WO_advance 56 = .ok (.iload_n 1, 1) := by decide +kernel
theorem d_WO_advance_57 : decode b_WO_advance 57 = .ok (.invokevirtual 34, 3) := by decide +kernel
theorem d_WO_advance_60 : decode b_WO_advance 60 = .ok (.invokestatic 38, 3) := by decide +kernel
theorem d_WO_advance_63 : decode b_WO_advance 63 = .ok (.ifCond .ne 22, 3) := by decide +kernel
theorem d_WO_advance_66 : decode b_WO_advance 66 = .ok (.aload_n 0, 1) := by decide +kernel
theorem d_WO_advance_67 : decode b_WO_advance 67 = .ok (.getfield 9, 3) := by decide +kernel
theorem d_WO_advance_70 : decode b_WO_advance 70 = .ok (.iload_n 1, 1) := by decide +kernel
theorem d_WO_advance_71 : decode b_WO_advance 71 = .ok (.invokevirtual 34, 3) := by decide +kernel
theorem d_WO_advance_74 : decode b_WO_advance 74 = .ok (.bipush 59, 2) := by decide +kernel
theorem d_WO_advance_76 : decode b_WO_advance 76 = .ok (.if_icmp .eq 9, 3) := by decide +kernel
theorem d_WO_advance_79 : decode b_WO_advance 79 = .ok (.iinc 1 1, 3) := by decide +kernel
theorem d_WO_advance_82 : decode b_WO_advance 82 = .ok (.goto (-41), 3) := by decide +kernel
theorem d_WO_advance_85 : decode b_WO_advance 85 = .ok (.iload_n 1, 1) := by decide +kernel
theorem d_WO_advance_86 : decode b_WO_advance 86 = .ok (.aload_n 0, 1) := by decide +kernel
theorem d_WO_advance_87 : decode b_WO_advance 87 = .ok (.getfield 15, 3) := by decide +kernel
theorem d_WO_advance_90 : decode b_WO_advance 90 = .ok (.if_icmp .ne 17, 3) := by decide +kernel
theorem d_WO_advance_93 : decode b_WO_advance 93 = .ok (.iload_n 1, 1) := by decide +kernel
theorem d_WO_advance_94 : decode b_WO_advance 94 = .ok (.aload_n 0, 1) := by decide +kernel
theorem d_WO_advance_95 : decode b_WO_advance 95 = .ok (.getfield 9, 3) := by decide +kernel
theorem d_WO_advance_98 : decode b_WO_advance 98 = .ok (.invokevirtual 28, 3) := by decide +kernel
theorem d_WO_advance_101 : decode b_WO_advance 101 = .ok (.if_icmp .ge 6, 3) := by decide +kernel
theorem d_WO_advance_104 : decode b_WO_advance 104 = .ok (.iinc 1 1, 3) := by decide +kernel
theorem d_WO_advance_107 : decode b_WO_advance 107 = .ok (.aload_n 0, 1) := by decide +kernel
theorem d_WO_advance_108 : decode b_WO_advance 108 = .ok (.iload_n 1, 1) := by decide +kernel
theorem d_WO_advance_109 : decode b_WO_advance 109 = .ok (.putfield 19, 3) := by decide +kernel
theorem d_WO_advance_112 : decode b_WO_advance 112 = .ok (.aload_n 0, 1) := by decide +kernel
theorem d_WO_advance_113 : decode b_WO_advance 113 = .ok (.dup, 1) := by decide +kernel
theorem d_WO_advance_114 : decode b_WO_advance 114 = .ok (.getfield 22, 3) := by decide +kernel
theorem d_WO_advance_117 : decode b_WO_advance 117 = .ok (.iconst 1, 1) := by decide +kernel
theorem d_WO_advance_118 : decode b_WO_advance 118 = .ok (.iadd, 1) := by decide +kernel
theorem d_WO_advance_119 : decode b_WO_advance 119 = .ok (.putfield 22, 3) := by decide +kernel
theorem d_WO_advance_122 : decode b_WO_advance 122 = .ok (.return_, 1) := by decide +kernel
theorem d_WO_isBlank_0 : decode b_WO_isBlank 0 = .ok (.iload_n 0, 1) := by decide +kernel
theorem d_WO_isBlank_1 : decode b_WO_isBlank 1 = .ok (.bipush 32, 2) := by decide +kernel
theorem d_WO_isBlank_3 : decode b_WO_isBlank 3 = .ok (.if_icmp .eq 9, 3) := by decide +kernel
theorem d_WO_isBlank_6 : decode b_WO_isBlank 6 = .ok (.iload_n 0, 1) := by decide +kernel
theorem d_WO_isBlank_7 : decode b_WO_isBlank 7 = .ok (.bipush 10, 2) := by decide +kernel
theorem d_WO_isBlank_9 : decode b_WO_isBlank 9 = .ok (.if_icmp .ne 7, 3) := by decide +kernel
theorem d_WO_isBlank_12 : decode b_WO_isBlank 12 = .ok (.iconst 1, 1) := by decide +kernel
theorem d_WO_isBlank_13 : decode b_WO_isBlank 13 = .ok (.goto 4, 3) := by decide +kernel
theorem d_WO_isBlank_16 : decode b_WO_isBlank 16 = .ok (.iconst 0, 1) := by decide +kernel
theorem d_WO_isBlank_17 : decode b_WO_isBlank 17 = .ok (.ireturn, 1) := by decide +kernel
theorem d_GR_fill_0 : decode b_GR_fill 0 = .ok (.iconst 0, 1) := by decide +kernel
theorem d_GR_fill_1 : decode b_GR_fill 1 = .ok (.istore_n 2, 1) := by decide +kernel
theorem d_GR_fill_2 : decode b_GR_fill 2 = .ok (.iload_n 2, 1) := by decide +kernel
theorem d_GR_fill_3 : decode b_GR_fill 3 = .ok (.bipush 40, 2) := by decide +kernel
theorem d_GR_fill_5 : decode b_GR_fill 5 = .ok (.if_icmp .gt 26, 3) := by decide +kernel
theorem d_GR_fill_8 : decode b_GR_fill 8 = .ok (.aload_n 1, 1) := by decide +kernel
theorem d_GR_fill_9 : decode b_GR_fill 9 = .ok (.invokevirtual 9, 3) := by decide +kernel
theorem d_GR_fill_12 : decode b_GR_fill 12 = .ok (.ifCond .ne 19, 3) := by decide +kernel
theorem d_GR_fill_15 : decode b_GR_fill 15 = .ok (.aload_n 0, 1) := by decide +kernel
theorem d_GR_fill_16 : decode b_GR_fill 16 = .ok (.aload_n 1, 1) := by decide +kernel
theorem d_GR_fill_17 : decode b_GR_fill 17 = .ok (.invokestatic 15, 3) := by decide +kernel
theorem d_GR_fill_20 : decode b_GR_fill 20 = .ok (.ifCond .ne 5, 3) := by decide +kernel
theorem d_GR_fill_23 : decode b_GR_fill 23 = .ok (.iconst 0, 1) := by decide +kernel
theorem d_GR_fill_24 : decode b_GR_fill 24 = .ok (.ireturn, 1) := by decide +kernel
theorem d_GR_fill_25 : decode b_GR_fill 25 = .ok (.iinc 2 1, 3) := by decide +kernel
theorem d_GR_fill_28 : decode b_GR_fill 28 = .ok (.goto (-26), 3) := by decide +kernel
theorem d_GR_fill_31 : decode b_GR_fill 31 = .ok (.iconst 1, 1) := by decide +kernel
theorem d_GR_fill_32 : decode b_GR_fill 32 = .ok (.ireturn, 1) := by decide +kernel
theorem d_WO_isEnd_0 : decode b_WO_isEnd 0 = .ok (.aload_n 0, 1) := by decide +kernel
theorem d_WO_isEnd_1 : decode b_WO_isEnd 1 = .ok (.getfield 15, 3) := by decide +kernel
theorem d_WO_isEnd_4 : decode b_WO_isEnd 4 = .ok (.aload_n 0, 1) := by decide +kernel
theorem d_WO_isEnd_5 : decode b_WO_isEnd 5 = .ok (.getfield 19, 3) := by decide +kernel
theorem d_WO_isEnd_8 : decode b_WO_isEnd 8 = .ok (.if_icmp .ne 7, 3) := by decide +kernel
theorem d_WO_isEnd_11 : decode b_WO_isEnd 11 = .ok (.iconst 1, 1) := by decide +kernel
theorem d_WO_isEnd_12 : decode b_WO_isEnd 12 = .ok (.goto 4, 3) := by decide +kernel
theorem d_WO_isEnd_15 : decode b_WO_isEnd 15 = .ok (.iconst 0, 1) := by decide +kernel
theorem d_WO_isEnd_16 : decode b_WO_isEnd 16 = .ok (.ireturn, 1) := by decide +kernel
theorem d_GR_addRule_0 : decode b_GR_addRule 0 = .ok (.aload_n 1, 1) := by decide +kernel
theorem d_GR_addRule_1 : decode b_GR_addRule 1 = .ok (.invokestatic 21, 3) := by decide +kernel
theorem d_GR_addRule_4 : decode b_GR_addRule 4 = .ok (.istore_n 2, 1) := by decide +kernel
theorem d_GR_addRule_5 : decode b_GR_addRule 5 = .ok (.iload_n 2, 1) := by decide +kernel
theorem d_GR_addRule_6 : decode b_GR_addRule 6 = .ok (.iconst (-1), 1) := by decide +kernel
theorem d_GR_addRule_7 : decode b_GR_addRule 7 = .ok (.if_icmp .eq 11, 3) := by decide +kernel
theorem d_GR_addRule_10 : decode b_GR_addRule 10 = .ok (.aload_n 0, 1) := by decide +kernel
theorem d_GR_addRule_11 : decode b_GR_addRule 11 = .ok (.iload_n 2, 1) := by decide +kernel
theorem d_GR_addRule_12 : decode b_GR_addRule 12 = .ok (.invokevirtual 25, 3) := by decide +kernel
theorem d_GR_addRule_15 : decode b_GR_addRule 15 = .ok (.ifCond .ne 5, 3) := by decide +kernel
theorem d_GR_addRule_18 : decode b_GR_addRule 18 = .ok (.iconst 0, 1) := by decide +kernel
theorem d_GR_addRule_19 : decode b_GR_addRule 19 = .ok (.ireturn, 1) := by decide +kernel
theorem d_GR_addRule_20 : decode b_GR_addRule 20 = .ok (.aload_n 0, 1) := by decide +kernel
theorem d_GR_addRule_21 : decode b_GR_addRule 21 = .ok (.iload_n 2, 1) := by decide +kernel
theorem d_GR_addRule_22 : decode b_GR_addRule 22 = .ok (.invokevirtual 31, 3) := by decide +kernel
theorem d_GR_addRule_25 : decode b_GR_addRule 25 = .ok (.new 10, 3) := by decide +kernel
theorem d_GR_addRule_28 : decode b_GR_addRule 28 = .ok (.dup, 1) := by decide +kernel
theorem d_GR_addRule_29 : decode b_GR_addRule 29 = .ok (.iload_n 2, 1) := by decide +kernel
theorem d_GR_addRule_30 : decode b_GR_addRule 30 = .ok (.invokestatic 35, 3) := by decide +kernel
theorem d_GR_addRule_33 : decode b_GR_addRule 33 = .ok (.invokespecial 39, 3) := by decide +kernel
theorem d_GR_addRule_36 : decode b_GR_addRule 36 = .ok (.astore_n 3, 1) := by decide +kernel
theorem d_GR_addRule_37 : decode b_GR_addRule 37 = .ok (.iconst 0, 1) := by decide +kernel
theorem d_GR_addRule_38 : decode b_GR_addRule 38 = .ok (.istore 4, 2) := by decide +kernel
theorem d_GR_addRule_40 : decode b_GR_addRule 40 = .ok (.iconst 0, 1) := by decide +kernel
theorem d_GR_addRule_41 : decode b_GR_addRule 41 = .ok (.istore 5, 2) := by decide +kernel
theorem d_GR_addRule_43 : decode b_GR_addRule 43 = .ok (.iload 5, 2) := by decide +kernel
theorem d_GR_addRule_45 : decode b_GR_addRule 45 = .ok (.bipush 9, 2) := by decide +kernel
theorem d_GR_addRule_47 : decode b_GR_addRule 47 = .ok (.if_icmp .ge 78, 3) := by decide +kernel
theorem d_GR_addRule_50 : decode b_GR_addRule 50 = .ok (.aload_n 3, 1) := by decide +kernel
theorem d_GR_addRule_51 : decode b_GR_addRule 51 = .ok (.invokevirtual 9, 3) := by decide +kernel
theorem d_GR_addRule_54 : decode b_GR_addRule 54 = .ok (.ifCond .ne 71, 3) := by decide +kernel
theorem d_GR_addRule_57 : decode b_GR_addRule 57 = .ok (.aload_n 3, 1) := by decide +kernel
theorem d_GR_addRule_58 : decode b_GR_addRule 58 = .ok (.invokevirtual 42, 3) := by decide +kernel
theorem d_GR_addRule_61 : decode b_GR_addRule 61 = .ok (.invokestatic 46, 3) := by decide +kernel
theorem d_GR_addRule_64 : decode b_GR_addRule 64 = .ok (.ifCond .ne 13, 3) := by decide +kernel
theorem d_GR_addRule_67 : decode b_GR_addRule 67 = .ok (.aload_n 1, 1) := by decide +kernel
theorem d_GR_addRule_68 : decode b_GR_addRule 68 = .ok (.aload_n 3, 1) := by decide +kernel
theorem d_GR_addRule_69 : decode b_GR_addRule 69 = .ok (.invokevirtual 50, 3) := by decide +kernel
theorem d_GR_addRule_72 : decode b_GR_addRule 72 = .ok (.ifCond .ne 39, 3) := by decide +kernel
theorem d_GR_addRule_75 : decode b_GR_addRule 75 = .ok (.iconst 0, 1) := by decide +kernel
theorem d_GR_addRule_76 : decode b_GR_addRule 76 = .ok (.ireturn, 1) := by decide +kernel
theorem d_GR_addRule_77 : decode b_GR_addRule 77 = .ok (.aload_n 1, 1) := by decide +kernel
theorem d_GR_addRule_78 : decode b_GR_addRule 78 = .ok (.invokevirtual 54, 3) := by decide +kernel
theorem d_GR_addRule_81 : decode b_GR_addRule 81 = .ok (.istore 6, 2) := by decide +kernel
theorem d_GR_addRule_83 : decode b_GR_addRule 83 = .ok (.iload 6, 2) := by decide +kernel
theorem d_GR_addRule_85 : decode b_GR_addRule 85 = .ok (.aload_n 3, 1) := by decide +kernel
theorem d_GR_addRule_86 : decode b_GR_addRule 86 = .ok (.invokevirtual 42, 3) := by decide +kernel
theorem d_GR_addRule_89 : decode b_GR_addRule 89 = .ok (.invokestatic 58, 3) := by decide +kernel
theorem d_GR_addRule_92 : decode b_GR_addRule 92 = .ok (.ifCond .eq 14, 3) := by decide +kernel
theorem d_GR_addRule_95 : decode b_GR_addRule 95 = .ok (.aload_n 0, 1) := by decide +kernel
theorem d_GR_addRule_96 : decode b_GR_addRule 96 = .ok (.iload 4, 2) := by decide +kernel
theorem d_GR_addRule_98 : decode b_GR_addRule 98 = .ok (.iload 6, 2) := by decide +kernel
theorem d_GR_addRule_100 : decode b_GR_addRule 100 = .ok (.invokevirtual 62, 3) := by decide +kernel
theorem d_GR_addRule_103 : decode b_GR_addRule 103 = .ok (.ifCond .ne 5, 3) := by decide +kernel
theorem d_GR_addRule_106 : decode b_GR_addRule 106 = .ok (.iconst 0, 1) := by decide +kernel
theorem d_GR_addRule_107 : decode b_GR_addRule 107 = .ok (.ireturn, 1) := by decide +kernel
theorem d_GR_addRule_108 : decode b_GR_addRule 108 = .ok (.iinc 4 1, 3) := by decide +kernel
theorem d_GR_addRule_111 : decode b_GR_addRule 111 = .ok (.aload_n 3, 1) := by decide +kernel
theorem d_GR_addRule_112 : decode b_GR_addRule 112 = .ok (.invokevirtual 66, 3) := by decide +kernel
theorem d_GR_addRule_115 : decode b_GR_addRule 115 = .ok (.aload_n 1, 1) := by decide +kernel
theorem d_GR_addRule_116 : decode b_GR_addRule 116 = .ok (.invokevirtual 66, 3) := by decide +kernel
theorem d_GR_addRule_119 : decode b_GR_addRule 119 = .ok (.iinc 5 1, 3) := by decide +kernel
theorem d_GR_addRule_122 : decode b_GR_addRule 122 = .ok (.goto (-79), 3) := by decide +kernel
theorem d_GR_addRule_125 : decode b_GR_addRule 125 = .ok (.iconst 1, 1) := by decide +kernel
theorem d_GR_addRule_126 : decode b_GR_addRule 126 = .ok (.ireturn, 1) := by decide +kernel
theorem d_GR_kindBegunBy_0 : decode b_GR_kindBegunBy 0 = .ok (.iconst 0, 1) := by decide +kernel
theorem d_GR_kindBegunBy_1 : decode b_GR_kindBegunBy 1 = .ok (.istore_n 1, 1) := by decide +kernel
theorem d_GR_kindBegunBy_2 : decode b_GR_kindBegunBy 2 = .ok (.iload_n 1, 1) := by decide +kernel
theorem d_GR_kindBegunBy_3 : decode b_GR_kindBegunBy 3 = .ok (.bipush 6, 2) := by decide +kernel
theorem d_GR_kindBegunBy_5 : decode b_GR_kindBegunBy 5 = .ok (.if_icmp .ge 29, 3) := by decide +kernel
theorem d_GR_kindBegunBy_8 : decode b_GR_kindBegunBy 8 = .ok (.aload_n 0, 1) := by decide +kernel
theorem d_GR_kindBegunBy_9 : decode b_GR_kindBegunBy 9 = .ok (.new 10, 3) := by decide +kernel
theorem d_GR_kindBegunBy_12 : decode b_GR_kindBegunBy 12 = .ok (.dup, 1) := by decide +kernel
theorem d_GR_kindBegunBy_13 : decode b_GR_kindBegunBy 13 = .ok (.iload_n 1, 1) := by decide +kernel
theorem d_GR_kindBegunBy_14 : decode b_GR_kindBegunBy 14 = .ok (.invokestatic 35, 3) := by decide +kernel
theorem d_GR_kindBegunBy_17 : decode b_GR_kindBegunBy 17 = .ok (.invokespecial 39, 3) := by decide +kernel
theorem d_GR_kindBegunBy_20 : decode b_GR_kindBegunBy 20 = .ok (.invokevirtual 50, 3) := by decide +kernel
theorem d_GR_kindBegunBy_23 : decode b_GR_kindBegunBy 23 = .ok (.ifCond .eq 5, 3) := by decide +kernel
theorem d_GR_kindBegunBy_26 : decode b_GR_kindBegunBy 26 = .ok (.iload_n 1, 1) := by decide +kernel
theorem d_GR_kindBegunBy_27 : decode b_GR_kindBegunBy 27 = .ok (.ireturn, 1) := by decide +kernel
theorem d_GR_kindBegunBy_28 : decode b_GR_kindBegunBy 28 = .ok (.iinc 1 1, 3) := by decide +kernel
theorem d_GR_kindBegunBy_31 : decode b_GR_kindBegunBy 31 = .ok (.goto (-29), 3) := by decide +kernel
theorem d_GR_kindBegunBy_34 : decode b_GR_kindBegunBy 34 = .ok (.iconst (-1), 1) := by decide +kernel
theorem d_GR_kindBegunBy_35 : decode b_GR_kindBegunBy 35 = .ok (.ireturn, 1) := by decide +kernel
theorem d_GR_formOf_0 : decode b_GR_formOf 0 = .ok (.iload_n 0, 1) := by decide +kernel
theorem d_GR_formOf_1 : decode b_GR_formOf 1 = .ok (.tableswitch 50 0 4 #[35, 38, 41, 44, 47], 35) := by decide +kernel
theorem d_GR_formOf_36 : decode b_GR_formOf 36 = .ok (.ldc 104, 2) := by decide +kernel
theorem d_GR_formOf_38 : decode b_GR_formOf 38 = .ok (.areturn, 1) := by decide +kernel
theorem d_GR_formOf_39 : decode b_GR_formOf 39 = .ok (.ldc 106, 2) := by decide +kernel
theorem d_GR_formOf_41 : decode b_GR_formOf 41 = .ok (.areturn, 1) := by decide +kernel
theorem d_GR_formOf_42 : decode b_GR_formOf 42 = .ok (.ldc 108, 2) := by decide +kernel
theorem d_GR_formOf_44 : decode b_GR_formOf 44 = .ok (.areturn, 1) := by decide +kernel
theorem d_GR_formOf_45 : decode b_GR_formOf 45 = .ok (.ldc 110, 2) := by decide +kernel
theorem d_GR_formOf_47 : decode b_GR_formOf 47 = .ok (.areturn, 1) := by decide +kernel
theorem d_GR_formOf_48 : decode b_GR_formOf 48 = .ok (.ldc 112, 2) := by decide +kernel
theorem d_GR_formOf_50 : decode b_GR_formOf 50 = .ok (.areturn, 1) := by decide +kernel
theorem d_GR_formOf_51 : decode b_GR_formOf 51 = .ok (.ldc 114, 2) := by decide +kernel
theorem d_GR_formOf_53 : decode b_GR_formOf 53 = .ok (.areturn, 1) := by decide +kernel
theorem d_WO_isSameWordAs_0 : decode b_WO_isSameWordAs 0 = .ok (.aload_n 0, 1) := by decide +kernel
theorem d_WO_isSameWordAs_1 : decode b_WO_isSameWordAs 1 = .ok (.getfield 19, 3) := by decide +kernel
theorem d_WO_isSameWordAs_4 : decode b_WO_isSameWordAs 4 = .ok (.aload_n 0, 1) := by decide +kernel
theorem d_WO_isSameWordAs_5 : decode b_WO_isSameWordAs 5 = .ok (.getfield 15, 3) := by decide +kernel
theorem d_WO_isSameWordAs_8 : decode b_WO_isSameWordAs 8 = .ok (.isub, 1) := by decide +kernel
theorem d_WO_isSameWordAs_9 : decode b_WO_isSameWordAs 9 = .ok (.istore_n 2, 1) := by decide +kernel
theorem d_WO_isSameWordAs_10 : decode b_WO_isSameWordAs 10 = .ok (.iload_n 2, 1) := by decide +kernel
theorem d_WO_isSameWordAs_11 : decode b_WO_isSameWordAs 11 = .ok (.aload_n 1, 1) := by decide +kernel
theorem d_WO_isSameWordAs_12 : decode b_WO_isSameWordAs 12 = .ok (.getfield 19, 3) := by decide +kernel
theorem d_WO_isSameWordAs_15 : decode b_WO_isSameWordAs 15 = .ok (.aload_n 1, 1) := by decide +kernel
theorem d_WO_isSameWordAs_16 : decode b_WO_isSameWordAs 16 = .ok (.getfield 15, 3) := by decide +kernel
theorem d_WO_isSameWordAs_19 : decode b_WO_isSameWordAs 19 = .ok (.isub, 1) := by decide +kernel
theorem d_WO_isSameWordAs_20 : decode b_WO_isSameWordAs 20 = .ok (.if_icmp .eq 5, 3) := by decide +kernel
theorem d_WO_isSameWordAs_23 : decode b_WO_isSameWordAs 23 = .ok (.iconst 0, 1) := by decide +kernel
theorem d_WO_isSameWordAs_24 : decode b_WO_isSameWordAs 24 = .ok (.ireturn, 1) := by decide +kernel
theorem d_WO_isSameWordAs_25 : decode b_WO_isSameWordAs 25 = .ok (.iconst 0, 1) := by decide +kernel
theorem d_WO_isSameWordAs_26 : decode b_WO_isSameWordAs 26 = .ok (.istore_n 3, 1) := by decide +kernel
theorem d_WO_isSameWordAs_27 : decode b_WO_isSameWordAs 27 = .ok (.iload_n 3, 1) := by decide +kernel
theorem d_WO_isSameWordAs_28 : decode b_WO_isSameWordAs 28 = .ok (.iload_n 2, 1) := by decide +kernel
theorem d_WO_isSameWordAs_29 : decode b_WO_isSameWordAs 29 = .ok (.if_icmp .ge 40, 3) := by decide +kernel
theorem d_WO_isSameWordAs_32 : decode b_WO_isSameWordAs 32 = .ok (.aload_n 0, 1) := by decide +kernel
theorem d_WO_isSameWordAs_33 : decode b_WO_isSameWordAs 33 = .ok (.getfield 9, 3) := by decide +kernel
theorem d_WO_isSameWordAs_36 : decode b_WO_isSameWordAs 36 = .ok (.aload_n 0, 1) := by decide +kernel
theorem d_WO_isSameWordAs_37 : decode b_WO_isSameWordAs 37 = .ok (.getfield 15, 3) := by decide +kernel
theorem d_WO_isSameWordAs_40 : decode b_WO_isSameWordAs 40 = .ok (.iload_n 3, 1) := by decide +kernel
theorem d_WO_isSameWordAs_41 : decode b_WO_isSameWordAs 41 = .ok (.iadd, 1) := by decide +kernel
theorem d_WO_isSameWordAs_42 : decode b_WO_isSameWordAs 42 = .ok (.invokevirtual 34, 3) := by decide +kernel
theorem d_WO_isSameWordAs_45 : decode b_WO_isSameWordAs 45 = .ok (.aload_n 1, 1) := by decide +kernel
theorem d_WO_isSameWordAs_46 : decode b_WO_isSameWordAs 46 = .ok (.getfield 9, 3) := by decide +kernel
theorem d_WO_isSameWordAs_49 : decode b_WO_isSameWordAs 49 = .ok (.aload_n 1, 1) := by decide +kernel
theorem d_WO_isSameWordAs_50 : decode b_WO_isSameWordAs 50 = .ok (.getfield 15, 3) := by decide +kernel
theorem d_WO_isSameWordAs_53 : decode b_WO_isSameWordAs 53 = .ok (.iload_n 3, 1) := by decide +kernel
theorem d_WO_isSameWordAs_54 : decode b_WO_isSameWordAs 54 = .ok (.iadd, 1) := by decide +kernel
theorem d_WO_isSameWordAs_55 : decode b_WO_isSameWordAs 55 = .ok (.invokevirtual 34, 3) := by decide +kernel
theorem d_WO_isSameWordAs_58 : decode b_WO_isSameWordAs 58 = .ok (.if_icmp .eq 5, 3) := by decide +kernel
theorem d_WO_isSameWordAs_61 : decode b_WO_isSameWordAs 61 = .ok (.iconst 0, 1) := by decide +kernel
theorem d_WO_isSameWordAs_62 : decode b_WO_isSameWordAs 62 = .ok (.ireturn, 1) := by decide +kernel
theorem d_WO_isSameWordAs_63 : decode b_WO_isSameWordAs 63 = .ok (.iinc 3 1, 3) := by decide +kernel
theorem d_WO_isSameWordAs_66 : decode b_WO_isSameWordAs 66 = .ok (.goto (-39), 3) := by decide +kernel
theorem d_WO_isSameWordAs_69 : decode b_WO_isSameWordAs 69 = .ok (.iconst 1, 1) := by decide +kernel
theorem d_WO_isSameWordAs_70 : decode b_WO_isSameWordAs 70 = .ok (.ireturn, 1) := by decide +kernel
theorem d_RU_mayBegin_0 : decode b_RU_mayBegin 0 = .ok (.aload_n 0, 1) := by decide +kernel
theorem d_RU_mayBegin_1 : decode b_RU_mayBegin 1 = .ok (.getfield 9, 3) := by decide +kernel
theorem d_RU_mayBegin_4 : decode b_RU_mayBegin 4 = .ok (.bipush 40, 2) := by decide +kernel
theorem d_RU_mayBegin_6 : decode b_RU_mayBegin 6 = .ok (.if_icmp .lt 5, 3) := by decide +kernel
theorem d_RU_mayBegin_9 : decode b_RU_mayBegin 9 = .ok (.iconst 0, 1) := by decide +kernel
theorem d_RU_mayBegin_10 : decode b_RU_mayBegin 10 = .ok (.ireturn, 1) := by decide +kernel
theorem d_RU_mayBegin_11 : decode b_RU_mayBegin 11 = .ok (.iload_n 1, 1) := by decide +kernel
theorem d_RU_mayBegin_12 : decode b_RU_mayBegin 12 = .ok (.iconst 4, 1) := by decide +kernel
theorem d_RU_mayBegin_13 : decode b_RU_mayBegin 13 = .ok (.if_icmp .eq 8, 3) := by decide +kernel
theorem d_RU_mayBegin_16 : decode b_RU_mayBegin 16 = .ok (.iload_n 1, 1) := by decide +kernel
theorem d_RU_mayBegin_17 : decode b_RU_mayBegin 17 = .ok (.iconst 5, 1) := by decide +kernel
theorem d_RU_mayBegin_18 : decode b_RU_mayBegin 18 = .ok (.if_icmp .ne 12, 3) := by decide +kernel
theorem d_RU_mayBegin_21 : decode b_RU_mayBegin 21 = .ok (.aload_n 0, 1) := by decide +kernel
theorem d_RU_mayBegin_22 : decode b_RU_mayBegin 22 = .ok (.iload_n 1, 1) := by decide +kernel
theorem d_RU_mayBegin_23 : decode b_RU_mayBegin 23 = .ok (.invokevirtual 22, 3) := by decide +kernel
theorem d_RU_mayBegin_26 : decode b_RU_mayBegin 26 = .ok (.iconst (-1), 1) := by decide +kernel
theorem d_RU_mayBegin_27 : decode b_RU_mayBegin 27 = .ok (.if_icmp .ne 7, 3) := by decide +kernel
theorem d_RU_mayBegin_30 : decode b_RU_mayBegin 30 = .ok (.iconst 1, 1) := by decide +kernel
theorem d_RU_mayBegin_31 : decode b_RU_mayBegin 31 = .ok (.goto 4, 3) := by decide +kernel
theorem d_RU_mayBegin_34 : decode b_RU_mayBegin 34 = .ok (.iconst 0, 1) := by decide +kernel
theorem d_RU_mayBegin_35 : decode b_RU_mayBegin 35 = .ok (.ireturn, 1) := by decide +kernel
theorem d_RU_firstOfKind_0 : decode b_RU_firstOfKind 0 = .ok (.iconst 0, 1) := by decide +kernel
theorem d_RU_firstOfKind_1 : decode b_RU_firstOfKind 1 = .ok (.istore_n 2, 1) := by decide +kernel
theorem d_RU_firstOfKind_2 : decode b_RU_firstOfKind 2 = .ok (.iload_n 2, 1) := by decide +kernel
theorem d_RU_firstOfKind_3 : decode b_RU_firstOfKind 3 = .ok (.aload_n 0, 1) := by decide +kernel
theorem d_RU_firstOfKind_4 : decode b_RU_firstOfKind 4 = .ok (.getfield 9, 3) := by decide +kernel
theorem d_RU_firstOfKind_7 : decode b_RU_firstOfKind 7 = .ok (.if_icmp .ge 21, 3) := by decide +kernel
theorem d_RU_firstOfKind_10 : decode b_RU_firstOfKind 10 = .ok (.aload_n 0, 1) := by decide +kernel
theorem d_RU_firstOfKind_11 : decode b_RU_firstOfKind 11 = .ok (.getfield 15, 3) := by decide +kernel
theorem d_RU_firstOfKind_14 : decode b_RU_firstOfKind 14 = .ok (.iload_n 2, 1) := by decide +kernel
theorem d_RU_firstOfKind_15 : decode b_RU_firstOfKind 15 = .ok (.iaload, 1) := by decide +kernel
theorem d_RU_firstOfKind_16 : decode b_RU_firstOfKind 16 = .ok (.iload_n 1, 1) := by decide +kernel
theorem d_RU_firstOfKind_17 : decode b_RU_firstOfKind 17 = .ok (.if_icmp .ne 5, 3) := by decide +kernel
theorem d_RU_firstOfKind_20 : decode b_RU_firstOfKind 20 = .ok (.iload_n 2, 1) := by decide +kernel
theorem d_RU_firstOfKind_21 : decode b_RU_firstOfKind 21 = .ok (.ireturn, 1) := by decide +kernel
theorem d_RU_firstOfKind_22 : decode b_RU_firstOfKind 22 = .ok (.iinc 2 1, 3) := by decide +kernel
theorem d_RU_firstOfKind_25 : decode b_RU_firstOfKind 25 = .ok (.goto (-23), 3) := by decide +kernel
theorem d_RU_firstOfKind_28 : decode b_RU_firstOfKind 28 = .ok (.iconst (-1), 1) := by decide +kernel
theorem d_RU_firstOfKind_29 : decode b_RU_firstOfKind 29 = .ok (.ireturn, 1) := by decide +kernel
theorem d_RU_begin_0 : decode b_RU_begin 0 = .ok (.aload_n 0, 1) := by decide +kernel
theorem d_RU_begin_1 : decode b_RU_begin 1 = .ok (.getfield 9, 3) := by decide +kernel
theorem d_RU_begin_4 : decode b_RU_begin 4 = .ok (.aload_n 0, 1) := by decide +kernel
theorem d_RU_begin_5 : decode b_RU_begin 5 = .ok (.getfield 15, 3) := by decide +kernel
theorem d_RU_begin_8 : decode b_RU_begin 8 = .ok (.arraylength, 1) := by decide +kernel
theorem d_RU_begin_9 : decode b_RU_begin 9 = .ok (.if_icmp .ge 23, 3) := by decide +kernel
theorem d_RU_begin_12 : decode b_RU_begin 12 = .ok (.aload_n 0, 1) := by decide +kernel
theorem d_RU_begin_13 : decode b_RU_begin 13 = .ok (.getfield 15, 3) := by decide +kernel
theorem d_RU_begin_16 : decode b_RU_begin 16 = .ok (.aload_n 0, 1) := by decide +kernel
theorem d_RU_begin_17 : decode b_RU_begin 17 = .ok (.getfield 9, 3) := by decide +kernel
theorem d_RU_begin_20 : decode b_RU_begin 20 = .ok (.iload_n 1, 1) := by decide +kernel
theorem d_RU_begin_21 : decode b_RU_begin 21 = .ok (.iastore, 1) := by decide +kernel
theorem d_RU_begin_22 : decode b_RU_begin 22 = .ok (.aload_n 0, 1) := by decide +kernel
theorem d_RU_begin_23 : decode b_RU_begin 23 = .ok (.dup, 1) := by decide +kernel
theorem d_RU_begin_24 : decode b_RU_begin 24 = .ok (.getfield 9, 3) := by decide +kernel
theorem d_RU_begin_27 : decode b_RU_begin 27 = .ok (.iconst 1, 1) := by decide +kernel
theorem d_RU_begin_28 : decode b_RU_begin 28 = .ok (.iadd, 1) := by decide +kernel
theorem d_RU_begin_29 : decode b_RU_begin 29 = .ok (.putfield 9, 3) := by decide +kernel
theorem d_RU_begin_32 : decode b_RU_begin 32 = .ok (.return_, 1) := by decide +kernel
theorem d_WO_firstByte_0 : decode b_WO_firstByte 0 = .ok (.aload_n 0, 1) := by decide +kernel
theorem d_WO_firstByte_1 : decode b_WO_firstByte 1 = .ok (.getfield 15, 3) := by decide +kernel
theorem d_WO_firstByte_4 : decode b_WO_firstByte 4 = .ok (.aload_n 0, 1) := by decide +kernel
theorem d_WO_firstByte_5 : decode b_WO_firstByte 5 = .ok (.getfield 9, 3) := by decide +kernel
theorem d_WO_firstByte_8 : decode b_WO_firstByte 8 = .ok (.invokevirtual 28, 3) := by decide +kernel
theorem d_WO_firstByte_11 : decode b_WO_firstByte 11 = .ok (.if_icmp .ge 17, 3) := by decide +kernel
theorem d_WO_firstByte_14 : decode b_WO_firstByte 14 = .ok (.aload_n 0, 1) := by decide +kernel
theorem d_WO_firstByte_15 : decode b_WO_firstByte 15 = .ok (.getfield 9, 3) := by decide +kernel
theorem d_WO_firstByte_18 : decode b_WO_firstByte 18 = .ok (.aload_n 0, 1) := by decide +kernel
theorem d_WO_firstByte_19 : decode b_WO_firstByte 19 = .ok (.getfield 15, 3) := by decide +kernel
theorem d_WO_firstByte_22 : decode b_WO_firstByte 22 = .ok (.invokevirtual 34, 3) := by decide +kernel
theorem d_WO_firstByte_25 : decode b_WO_firstByte 25 = .ok (.goto 5, 3) := by decide +kernel
theorem d_WO_firstByte_28 : decode b_WO_firstByte 28 = .ok (.bipush 32, 2) := by decide +kernel
theorem d_WO_firstByte_30 : decode b_WO_firstByte 30 = .ok (.ireturn, 1) := by decide +kernel
theorem d_GR_isSlot_0 : decode b_GR_isSlot 0 = .ok (.iload_n 0, 1) := by decide +kernel
theorem d_GR_isSlot_1 : decode b_GR_isSlot 1 = .ok (.bipush 65, 2) := by decide +kernel
theorem d_GR_isSlot_3 : decode b_GR_isSlot 3 = .ok (.if_icmp .lt 13, 3) := by decide +kernel
theorem d_GR_isSlot_6 : decode b_GR_isSlot 6 = .ok (.iload_n 0, 1) := by decide +kernel
theorem d_GR_isSlot_7 : decode b_GR_isSlot 7 = .ok (.bipush 90, 2) := by decide +kernel
theorem d_GR_isSlot_9 : decode b_GR_isSlot 9 = .ok (.if_icmp .gt 7, 3) := by decide +kernel
theorem d_GR_isSlot_12 : decode b_GR_isSlot 12 = .ok (.iconst 1, 1) := by decide +kernel
theorem d_GR_isSlot_13 : decode b_GR_isSlot 13 = .ok (.goto 4, 3) := by decide +kernel
theorem d_GR_isSlot_16 : decode b_GR_isSlot 16 = .ok (.iconst 0, 1) := by decide +kernel
theorem d_GR_isSlot_17 : decode b_GR_isSlot 17 = .ok (.ireturn, 1) := by decide +kernel
theorem d_WO_asNumber_0 : decode b_WO_asNumber 0 = .ok (.aload_n 0, 1) := by decide +kernel
theorem d_WO_asNumber_1 : decode b_WO_asNumber 1 = .ok (.getfield 19, 3) := by decide +kernel
theorem d_WO_asNumber_4 : decode b_WO_asNumber 4 = .ok (.aload_n 0, 1) := by decide +kernel
theorem d_WO_asNumber_5 : decode b_WO_asNumber 5 = .ok (.getfield 15, 3) := by decide +kernel
theorem d_WO_asNumber_8 : decode b_WO_asNumber 8 = .ok (.isub, 1) := by decide +kernel
theorem d_WO_asNumber_9 : decode b_WO_asNumber 9 = .ok (.istore_n 1, 1) := by decide +kernel
theorem d_WO_asNumber_10 : decode b_WO_asNumber 10 = .ok (.iload_n 1, 1) := by decide +kernel
theorem d_WO_asNumber_11 : decode b_WO_asNumber 11 = .ok (.iconst 1, 1) := by decide +kernel
theorem d_WO_asNumber_12 : decode b_WO_asNumber 12 = .ok (.if_icmp .lt 23, 3) := by decide +kernel
theorem d_WO_asNumber_15 : decode b_WO_asNumber 15 = .ok (.iload_n 1, 1) := by decide +kernel
theorem d_WO_asNumber_16 : decode b_WO_asNumber 16 = .ok (.bipush 9, 2) := by decide +kernel
theorem d_WO_asNumber_18 : decode b_WO_asNumber 18 = .ok (.if_icmp .gt 17, 3) := by decide +kernel
theorem d_WO_asNumber_21 : decode b_WO_asNumber 21 = .ok (.iload_n 1, 1) := by decide +kernel
theorem d_WO_asNumber_22 : decode b_WO_asNumber 22 = .ok (.iconst 1, 1) := by decide +kernel
theorem d_WO_asNumber_23 : decode b_WO_asNumber 23 = .ok (.if_icmp .le 14, 3) := by decide +kernel
theorem d_WO_asNumber_26 : decode b_WO_asNumber 26 = .ok (.aload_n 0, 1) := by decide +kernel
theorem d_WO_asNumber_27 : decode b_WO_asNumber 27 = .ok (.invokevirtual 42, 3) := by decide +kernel
theorem d_WO_asNumber_30 : decode b_WO_asNumber 30 = .ok (.bipush 48, 2) := by decide +kernel
theorem d_WO_asNumber_32 : decode b_WO_asNumber 32 = .ok (.if_icmp .ne 5, 3) := by decide +kernel
theorem d_WO_asNumber_35 : decode b_WO_asNumber 35 = .ok (.iconst (-1), 1) := by decide +kernel
theorem d_WO_asNumber_36 : decode b_WO_asNumber 36 = .ok (.ireturn, 1) := by decide +kernel
theorem d_WO_asNumber_37 : decode b_WO_asNumber 37 = .ok (.iconst 0, 1) := by decide +kernel
theorem d_WO_asNumber_38 : decode b_WO_asNumber 38 = .ok (.istore_n 2, 1) := by decide +kernel
theorem d_WO_asNumber_39 : decode b_WO_asNumber 39 = .ok (.aload_n 0, 1) := by decide +kernel
theorem d_WO_asNumber_40 : decode b_WO_asNumber 40 = .ok (.getfield 15, 3) := by decide +kernel
theorem d_WO_asNumber_43 : decode b_WO_asNumber 43 = .ok (.istore_n 3, 1) := by decide +kernel
theorem d_WO_asNumber_44 : decode b_WO_asNumber 44 = .ok (.iload_n 3, 1) := by decide +kernel
theorem d_WO_asNumber_45 : decode b_WO_asNumber 45 = .ok (.aload_n 0, 1) := by decide +kernel
theorem d_WO_asNumber_46 : decode b_WO_asNumber 46 = .ok (.getfield 19, 3) := by decide +kernel
theorem d_WO_asNumber_49 : decode b_WO_asNumber 49 = .ok (.if_icmp .ge 46, 3) := by decide +kernel
theorem d_WO_asNumber_52 : decode b_WO_asNumber 52 = .ok (.aload_n 0, 1) := by decide +kernel
theorem d_WO_asNumber_53 : decode b_WO_asNumber 53 = .ok (.getfield 9, 3) := by decide +kernel
theorem d_WO_asNumber_56 : decode b_WO_asNumber 56 = .ok (.iload_n 3, 1) := by decide +kernel
theorem d_WO_asNumber_57 : decode b_WO_asNumber 57 = .ok (.invokevirtual 34, 3) := by decide +kernel
theorem d_WO_asNumber_60 : decode b_WO_asNumber 60 = .ok (.istore 4, 2) := by decide +kernel
theorem d_WO_asNumber_62 : decode b_WO_asNumber 62 = .ok (.iload 4, 2) := by decide +kernel
theorem d_WO_asNumber_64 : decode b_WO_asNumber 64 = .ok (.bipush 48, 2) := by decide +kernel
theorem d_WO_asNumber_66 : decode b_WO_asNumber 66 = .ok (.if_icmp .lt 10, 3) := by decide +kernel
theorem d_WO_asNumber_69 : decode b_WO_asNumber 69 = .ok (.iload 4, 2) := by decide +kernel
theorem d_WO_asNumber_71 : decode b_WO_asNumber 71 = .ok (.bipush 57, 2) := by decide +kernel
theorem d_WO_asNumber_73 : decode b_WO_asNumber 73 = .ok (.if_icmp .le 5, 3) := by decide +kernel
theorem d_WO_asNumber_76 : decode b_WO_asNumber 76 = .ok (.iconst (-1), 1) := by decide +kernel
theorem d_WO_asNumber_77 : decode b_WO_asNumber 77 = .ok (.ireturn, 1) := by decide +kernel
theorem d_WO_asNumber_78 : decode b_WO_asNumber 78 = .ok (.iload_n 2, 1) := by decide +kernel
theorem d_WO_asNumber_79 : decode b_WO_asNumber 79 = .ok (.bipush 10, 2) := by decide +kernel
theorem d_WO_asNumber_81 : decode b_WO_asNumber 81 = .ok (.imul, 1) := by decide +kernel
theorem d_WO_asNumber_82 : decode b_WO_asNumber 82 = .ok (.iload 4, 2) := by decide +kernel
theorem d_WO_asNumber_84 : decode b_WO_asNumber 84 = .ok (.bipush 48, 2) := by decide +kernel
theorem d_WO_asNumber_86 : decode b_WO_asNumber 86 = .ok (.isub, 1) := by decide +kernel
theorem d_WO_asNumber_87 : decode b_WO_asNumber 87 = .ok (.iadd, 1) := by decide +kernel
theorem d_WO_asNumber_88 : decode b_WO_asNumber 88 = .ok (.istore_n 2, 1) := by decide +kernel
theorem d_WO_asNumber_89 : decode b_WO_asNumber 89 = .ok (.iinc 3 1, 3) := by decide +kernel
theorem d_WO_asNumber_92 : decode b_WO_asNumber 92 = .ok (.goto (-48), 3) := by decide +kernel
theorem d_WO_asNumber_95 : decode b_WO_asNumber 95 = .ok (.iload_n 2, 1) := by decide +kernel
theorem d_WO_asNumber_96 : decode b_WO_asNumber 96 = .ok (.ireturn, 1) := by decide +kernel
theorem d_GR_isInRange_0 : decode b_GR_isInRange 0 = .ok (.iload_n 1, 1) := by decide +kernel
theorem d_GR_isInRange_1 : decode b_GR_isInRange 1 = .ok (.tableswitch 166 71 83 #[67, 132, 166, 166, 166, 116, 166, 148, 166, 100, 166, 166, 83], 67) := by decide +kernel
theorem d_GR_isInRange_68 : decode b_GR_isInRange 68 = .ok (.iload_n 0, 1) := by decide +kernel
theorem d_GR_isInRange_69 : decode b_GR_isInRange 69 = .ok (.ifCond .lt 13, 3) := by decide +kernel
theorem d_GR_isInRange_72 : decode b_GR_isInRange 72 = .ok (.iload_n 0, 1) := by decide +kernel
theorem d_GR_isInRange_73 : decode b_GR_isInRange 73 = .ok (.bipush 9, 2) := by decide +kernel
theorem d_GR_isInRange_75 : decode b_GR_isInRange 75 = .ok (.if_icmp .gt 7, 3) := by decide +kernel
theorem d_GR_isInRange_78 : decode b_GR_isInRange 78 = .ok (.iconst 1, 1) := by decide +kernel
theorem d_GR_isInRange_79 : decode b_GR_isInRange 79 = .ok (.goto 4, 3) := by decide +kernel
theorem d_GR_isInRange_82 : decode b_GR_isInRange 82 = .ok (.iconst 0, 1) := by decide +kernel
theorem d_GR_isInRange_83 : decode b_GR_isInRange 83 = .ok (.ireturn, 1) := by decide +kernel
theorem d_GR_isInRange_84 : decode b_GR_isInRange 84 = .ok (.iload_n 0, 1) := by decide +kernel
theorem d_GR_isInRange_85 : decode b_GR_isInRange 85 = .ok (.ifCond .lt 14, 3) := by decide +kernel
theorem d_GR_isInRange_88 : decode b_GR_isInRange 88 = .ok (.iload_n 0, 1) := by decide +kernel
theorem d_GR_isInRange_89 : decode b_GR_isInRange 89 = .ok (.sipush 10000, 3) := by decide +kernel
theorem d_GR_isInRange_92 : decode b_GR_isInRange 92 = .ok (.if_icmp .gt 7, 3) := by decide +kernel
theorem d_GR_isInRange_95 : decode b_GR_isInRange 95 = .ok (.iconst 1, 1) := by decide +kernel
theorem d_GR_isInRange_96 : decode b_GR_isInRange 96 = .ok (.goto 4, 3) := by decide +kernel
theorem d_GR_isInRange_99 : decode b_GR_isInRange 99 = .ok (.iconst 0, 1) := by decide +kernel
theorem d_GR_isInRange_100 : decode b_GR_isInRange 100 = .ok (.ireturn, 1) := by decide +kernel
theorem d_GR_isInRange_101 : decode b_GR_isInRange 101 = .ok (.iload_n 0, 1) := by decide +kernel
theorem d_GR_isInRange_102 : decode b_GR_isInRange 102 = .ok (.ifCond .lt 13, 3) := by decide +kernel
theorem d_GR_isInRange_105 : decode b_GR_isInRange 105 = .ok (.iload_n 0, 1) := by decide +kernel
theorem d_GR_isInRange_106 : decode b_GR_isInRange 106 = .ok (.ldc 116, 2) := by decide +kernel
theorem d_GR_isInRange_108 : decode b_GR_isInRange 108 = .ok (.if_icmp .gt 7, 3) := by decide +kernel
theorem d_GR_isInRange_111 : decode b_GR_isInRange 111 = .ok (.iconst 1, 1) := by decide +kernel
theorem d_GR_isInRange_112 : decode b_GR_isInRange 112 = .ok (.goto 4, 3) := by decide +kernel
theorem d_GR_isInRange_115 : decode b_GR_isInRange 115 = .ok (.iconst 0, 1) := by decide +kernel
theorem d_GR_isInRange_116 : decode b_GR_isInRange 116 = .ok (.ireturn, 1) := by decide +kernel
theorem d_GR_isInRange_117 : decode b_GR_isInRange 117 = .ok (.iload_n 0, 1) := by decide +kernel
theorem d_GR_isInRange_118 : decode b_GR_isInRange 118 = .ok (.ifCond .lt 13, 3) := by decide +kernel
theorem d_GR_isInRange_121 : decode b_GR_isInRange 121 = .ok (.iload_n 0, 1) := by decide +kernel
theorem d_GR_isInRange_122 : decode b_GR_isInRange 122 = .ok (.ldc 117, 2) := by decide +kernel
theorem d_GR_isInRange_124 : decode b_GR_isInRange 124 = .ok (.if_icmp .gt 7, 3) := by decide +kernel
theorem d_GR_isInRange_127 : decode b_GR_isInRange 127 = .ok (.iconst 1, 1) := by decide +kernel
theorem d_GR_isInRange_128 : decode b_GR_isInRange 128 = .ok (.goto 4, 3) := by decide +kernel
theorem d_GR_isInRange_131 : decode b_GR_isInRange 131 = .ok (.iconst 0, 1) := by decide +kernel
theorem d_GR_isInRange_132 : decode b_GR_isInRange 132 = .ok (.ireturn, 1) := by decide +kernel
theorem d_GR_isInRange_133 : decode b_GR_isInRange 133 = .ok (.iload_n 0, 1) := by decide +kernel
theorem d_GR_isInRange_134 : decode b_GR_isInRange 134 = .ok (.ifCond .lt 13, 3) := by decide +kernel
theorem d_GR_isInRange_137 : decode b_GR_isInRange 137 = .ok (.iload_n 0, 1) := by decide +kernel
theorem d_GR_isInRange_138 : decode b_GR_isInRange 138 = .ok (.bipush 100, 2) := by decide +kernel
theorem d_GR_isInRange_140 : decode b_GR_isInRange 140 = .ok (.if_icmp .gt 7, 3) := by decide +kernel
theorem d_GR_isInRange_143 : decode b_GR_isInRange 143 = .ok (.iconst 1, 1) := by decide +kernel
theorem d_GR_isInRange_144 : decode b_GR_isInRange 144 = .ok (.goto 4, 3) := by decide +kernel
theorem d_GR_isInRange_147 : decode b_GR_isInRange 147 = .ok (.iconst 0, 1) := by decide +kernel
theorem d_GR_isInRange_148 : decode b_GR_isInRange 148 = .ok (.ireturn, 1) := by decide +kernel
theorem d_GR_isInRange_149 : decode b_GR_isInRange 149 = .ok (.iload_n 0, 1) := by decide +kernel
theorem d_GR_isInRange_150 : decode b_GR_isInRange 150 = .ok (.iconst 1, 1) := by decide +kernel
theorem d_GR_isInRange_151 : decode b_GR_isInRange 151 = .ok (.if_icmp .lt 14, 3) := by decide +kernel
theorem d_GR_isInRange_154 : decode b_GR_isInRange 154 = .ok (.iload_n 0, 1) := by decide +kernel
theorem d_GR_isInRange_155 : decode b_GR_isInRange 155 = .ok (.sipush 1000, 3) := by decide +kernel
theorem d_GR_isInRange_158 : decode b_GR_isInRange 158 = .ok (.if_icmp .gt 7, 3) := by decide +kernel
theorem d_GR_isInRange_161 : decode b_GR_isInRange 161 = .ok (.iconst 1, 1) := by decide +kernel
theorem d_GR_isInRange_162 : decode b_GR_isInRange 162 = .ok (.goto 4, 3) := by decide +kernel
theorem d_GR_isInRange_165 : decode b_GR_isInRange 165 = .ok (.iconst 0, 1) := by decide +kernel
theorem d_GR_isInRange_166 : decode b_GR_isInRange 166 = .ok (.ireturn, 1) := by decide +kernel
theorem d_GR_isInRange_167 : decode b_GR_isInRange 167 = .ok (.iconst 0, 1) := by decide +kernel
theorem d_GR_isInRange_168 : decode b_GR_isInRange 168 = .ok (.ireturn, 1) := by decide +kernel
theorem d_RU_put_0 : decode b_RU_put 0 = .ok (.aload_n 0, 1) := by decide +kernel
theorem d_RU_put_1 : decode b_RU_put 1 = .ok (.getfield 9, 3) := by decide +kernel
theorem d_RU_put_4 : decode b_RU_put 4 = .ok (.iconst 1, 1) := by decide +kernel
theorem d_RU_put_5 : decode b_RU_put 5 = .ok (.isub, 1) := by decide +kernel
theorem d_RU_put_6 : decode b_RU_put 6 = .ok (.istore_n 3, 1) := by decide +kernel
theorem d_RU_put_7 : decode b_RU_put 7 = .ok (.iload_n 3, 1) := by decide +kernel
theorem d_RU_put_8 : decode b_RU_put 8 = .ok (.ifCond .lt 12, 3) := by decide +kernel
theorem d_RU_put_11 : decode b_RU_put 11 = .ok (.iload_n 1, 1) := by decide +kernel
theorem d_RU_put_12 : decode b_RU_put 12 = .ok (.ifCond .lt 8, 3) := by decide +kernel
theorem d_RU_put_15 : decode b_RU_put 15 = .ok (.iload_n 1, 1) := by decide +kernel
theorem d_RU_put_16 : decode b_RU_put 16 = .ok (.iconst 4, 1) := by decide +kernel
theorem d_RU_put_17 : decode b_RU_put 17 = .ok (.if_icmp .lt 5, 3) := by decide +kernel
theorem d_RU_put_20 : decode b_RU_put 20 = .ok (.iconst 0, 1) := by decide +kernel
theorem d_RU_put_21 : decode b_RU_put 21 = .ok (.ireturn, 1) := by decide +kernel
theorem d_RU_put_22 : decode b_RU_put 22 = .ok (.aload_n 0, 1) := by decide +kernel
theorem d_RU_put_23 : decode b_RU_put 23 = .ok (.getfield 15, 3) := by decide +kernel
theorem d_RU_put_26 : decode b_RU_put 26 = .ok (.iload_n 3, 1) := by decide +kernel
theorem d_RU_put_27 : decode b_RU_put 27 = .ok (.iaload, 1) := by decide +kernel
theorem d_RU_put_28 : decode b_RU_put 28 = .ok (.ifCond .ne 20, 3) := by decide +kernel
theorem d_RU_put_31 : decode b_RU_put 31 = .ok (.iload_n 1, 1) := by decide +kernel
theorem d_RU_put_32 : decode b_RU_put 32 = .ok (.iconst 2, 1) := by decide +kernel
theorem d_RU_put_33 : decode b_RU_put 33 = .ok (.if_icmp .ne 15, 3) := by decide +kernel
theorem d_RU_put_36 : decode b_RU_put 36 = .ok (.iload_n 2, 1) := by decide +kernel
theorem d_RU_put_37 : decode b_RU_put 37 = .ok (.aload_n 0, 1) := by decide +kernel
theorem d_RU_put_38 : decode b_RU_put 38 = .ok (.iload_n 3, 1) := by decide +kernel
theorem d_RU_put_39 : decode b_RU_put 39 = .ok (.iconst 1, 1) := by decide +kernel
theorem d_RU_put_40 : decode b_RU_put 40 = .ok (.invokevirtual 26, 3) := by decide +kernel
theorem d_RU_put_43 : decode b_RU_put 43 = .ok (.if_icmp .gt 5, 3) := by decide +kernel
theorem d_RU_put_46 : decode b_RU_put 46 = .ok (.iconst 0, 1) := by decide +kernel
theorem d_RU_put_47 : decode b_RU_put 47 = .ok (.ireturn, 1) := by decide +kernel
theorem d_RU_put_48 : decode b_RU_put 48 = .ok (.aload_n 0, 1) := by decide +kernel
theorem d_RU_put_49 : decode b_RU_put 49 = .ok (.getfield 19, 3) := by decide +kernel
theorem d_RU_put_52 : decode b_RU_put 52 = .ok (.iload_n 3, 1) := by decide +kernel
theorem d_RU_put_53 : decode b_RU_put 53 = .ok (.iconst 4, 1) := by decide +kernel
theorem d_RU_put_54 : decode b_RU_put 54 = .ok (.imul, 1) := by decide +kernel
theorem d_RU_put_55 : decode b_RU_put 55 = .ok (.iload_n 1, 1) := by decide +kernel
theorem d_RU_put_56 : decode b_RU_put 56 = .ok (.iadd, 1) := by decide +kernel
theorem d_RU_put_57 : decode b_RU_put 57 = .ok (.iload_n 2, 1) := by decide +kernel
theorem d_RU_put_58 : decode b_RU_put 58 = .ok (.iastore, 1) := by decide +kernel
theorem d_RU_put_59 : decode b_RU_put 59 = .ok (.iconst 1, 1) := by decide +kernel
theorem d_RU_put_60 : decode b_RU_put 60 = .ok (.ireturn, 1) := by decide +kernel
theorem d_RU_number_0 : decode b_RU_number 0 = .ok (.iload_n 1, 1) := by decide +kernel
theorem d_RU_number_1 : decode b_RU_number 1 = .ok (.ifCond .lt 20, 3) := by decide +kernel
theorem d_RU_number_4 : decode b_RU_number 4 = .ok (.iload_n 1, 1) := by decide +kernel
theorem d_RU_number_5 : decode b_RU_number 5 = .ok (.aload_n 0, 1) := by decide +kernel
theorem d_RU_number_6 : decode b_RU_number 6 = .ok (.getfield 9, 3) := by decide +kernel
theorem d_RU_number_9 : decode b_RU_number 9 = .ok (.if_icmp .ge 12, 3) := by decide +kernel
theorem d_RU_number_12 : decode b_RU_number 12 = .ok (.iload_n 2, 1) := by decide +kernel
theorem d_RU_number_13 : decode b_RU_number 13 = .ok (.ifCond .lt 8, 3) := by decide +kernel
theorem d_RU_number_16 : decode b_RU_number 16 = .ok (.iload_n 2, 1) := by decide +kernel
theorem d_RU_number_17 : decode b_RU_number 17 = .ok (.iconst 4, 1) := by decide +kernel
theorem d_RU_number_18 : decode b_RU_number 18 = .ok (.if_icmp .lt 5, 3) := by decide +kernel
theorem d_RU_number_21 : decode b_RU_number 21 = .ok (.iconst (-1), 1) := by decide +kernel
theorem d_RU_number_22 : decode b_RU_number 22 = .ok (.ireturn, 1) := by decide +kernel
theorem d_RU_number_23 : decode b_RU_number 23 = .ok (.aload_n 0, 1) := by decide +kernel
theorem d_RU_number_24 : decode b_RU_number 24 = .ok (.getfield 19, 3) := by decide +kernel
theorem d_RU_number_27 : decode b_RU_number 27 = .ok (.iload_n 1, 1) := by decide +kernel
theorem d_RU_number_28 : decode b_RU_number 28 = .ok (.iconst 4, 1) := by decide +kernel
theorem d_RU_number_29 : decode b_RU_number 29 = .ok (.imul, 1) := by decide +kernel
theorem d_RU_number_30 : decode b_RU_number 30 = .ok (.iload_n 2, 1) := by decide +kernel
theorem d_RU_number_31 : decode b_RU_number 31 = .ok (.iadd, 1) := by decide +kernel
theorem d_RU_number_32 : decode b_RU_number 32 = .ok (.iaload, 1) := by decide +kernel
theorem d_RU_number_33 : decode b_RU_number 33 = .ok (.ireturn, 1) := by decide +kernel
theorem d_GR_asText_0 : decode b_GR_asText 0 = .ok (.new 69, 3) := by decide +kernel
theorem d_GR_asText_3 : decode b_GR_asText 3 = .ok (.dup, 1) := by decide +kernel
theorem d_GR_asText_4 : decode b_GR_asText 4 = .ok (.invokespecial 71, 3) := by decide +kernel
theorem d_GR_asText_7 : decode b_GR_asText 7 = .ok (.astore_n 1, 1) := by decide +kernel
theorem d_GR_asText_8 : decode b_GR_asText 8 = .ok (.iconst 0, 1) := by decide +kernel
theorem d_GR_asText_9 : decode b_GR_asText 9 = .ok (.istore_n 2, 1) := by decide +kernel
theorem d_GR_asText_10 : decode b_GR_asText 10 = .ok (.iload_n 2, 1) := by decide +kernel
theorem d_GR_asText_11 : decode b_GR_asText 11 = .ok (.aload_n 0, 1) := by decide +kernel
theorem d_GR_asText_12 : decode b_GR_asText 12 = .ok (.getfield 72, 3) := by decide +kernel
theorem d_GR_asText_15 : decode b_GR_asText 15 = .ok (.if_icmp .ge 87, 3) := by decide +kernel
theorem d_GR_asText_18 : decode b_GR_asText 18 = .ok (.aload_n 0, 1) := by decide +kernel
theorem d_GR_asText_19 : decode b_GR_asText 19 = .ok (.iload_n 2, 1) := by decide +kernel
theorem d_GR_asText_20 : decode b_GR_asText 20 = .ok (.invokevirtual 76, 3) := by decide +kernel
theorem d_GR_asText_23 : decode b_GR_asText 23 = .ok (.invokestatic 35, 3) := by decide +kernel
theorem d_GR_asText_26 : decode b_GR_asText 26 = .ok (.astore_n 3, 1) := by decide +kernel
theorem d_GR_asText_27 : decode b_GR_asText 27 = .ok (.iconst 0, 1) := by decide +kernel
theorem d_GR_asText_28 : decode b_GR_asText 28 = .ok (.istore 4, 2) := by decide +kernel
theorem d_GR_asText_30 : decode b_GR_asText 30 = .ok (.iconst 0, 1) := by decide +kernel
theorem d_GR_asText_31 : decode b_GR_asText 31 = .ok (.istore 5, 2) := by decide +kernel
theorem d_GR_asText_33 : decode b_GR_asText 33 = .ok (.iload 5, 2) := by decide +kernel
theorem d_GR_asText_35 : decode b_GR_asText 35 = .ok (.aload_n 3, 1) := by decide +kernel
theorem d_GR_asText_36 : decode b_GR_asText 36 = .ok (.invokevirtual 80, 3) := by decide +kernel
theorem d_GR_asText_39 : decode b_GR_asText 39 = .ok (.if_icmp .ge 50, 3) := by decide +kernel
theorem d_GR_asText_42 : decode b_GR_asText 42 = .ok (.aload_n 3, 1) := by decide +kernel
theorem d_GR_asText_43 : decode b_GR_asText 43 = .ok (.iload 5, 2) := by decide +kernel
theorem d_GR_asText_45 : decode b_GR_asText 45 = .ok (.invokevirtual 85, 3) := by decide +kernel
theorem d_GR_asText_48 : decode b_GR_asText 48 = .ok (.invokestatic 46, 3) := by decide +kernel
theorem d_GR_asText_51 : decode b_GR_asText 51 = .ok (.ifCond .eq 21, 3) := by decide +kernel
theorem d_GR_asText_54 : decode b_GR_asText 54 = .ok (.aload_n 1, 1) := by decide +kernel
theorem d_GR_asText_55 : decode b_GR_asText 55 = .ok (.aload_n 0, 1) := by decide +kernel
theorem d_GR_asText_56 : decode b_GR_asText 56 = .ok (.iload_n 2, 1) := by decide +kernel
theorem d_GR_asText_57 : decode b_GR_asText 57 = .ok (.iload 4, 2) := by decide +kernel
theorem d_GR_asText_59 : decode b_GR_asText 59 = .ok (.invokevirtual 89, 3) := by decide +kernel
theorem d_GR_asText_62 : decode b_GR_asText 62 = .ok (.invokevirtual 93, 3) := by decide +kernel
theorem d_GR_asText_65 : decode b_GR_asText 65 = .ok (.pop, 1) := by decide +kernel
theorem d_GR_asText_66 : decode b_GR_asText 66 = .ok (.iinc 4 1, 3) := by decide +kernel
theorem d_GR_asText_69 : decode b_GR_asText 69 = .ok (.goto 14, 3) := by decide +kernel
theorem d_GR_asText_72 : decode b_GR_asText 72 = .ok (.aload_n 1, 1) := by decide +kernel
theorem d_GR_asText_73 : decode b_GR_asText 73 = .ok (.aload_n 3, 1) := by decide +kernel
theorem d_GR_asText_74 : decode b_GR_asText 74 = .ok (.iload 5, 2) := by decide +kernel
theorem d_GR_asText_76 : decode b_GR_asText 76 = .ok (.invokevirtual 85, 3) := by decide +kernel
theorem d_GR_asText_79 : decode b_GR_asText 79 = .ok (.invokevirtual 97, 3) := by decide +kernel
theorem d_GR_asText_82 : decode b_GR_asText 82 = .ok (.pop, 1) := by decide +kernel
theorem d_GR_asText_83 : decode b_GR_asText 83 = .ok (.iinc 5 1, 3) := by decide +kernel
theorem d_GR_asText_86 : decode b_GR_asText 86 = .ok (.goto (-53), 3) := by decide +kernel
theorem d_GR_asText_89 : decode b_GR_asText 89 = .ok (.aload_n 1, 1) := by decide +kernel
theorem d_GR_asText_90 : decode b_GR_asText 90 = .ok (.bipush 10, 2) := by decide +kernel
theorem d_GR_asText_92 : decode b_GR_asText 92 = .ok (.invokevirtual 97, 3) := by decide +kernel
theorem d_GR_asText_95 : decode b_GR_asText 95 = .ok (.pop, 1) := by decide +kernel
theorem d_GR_asText_96 : decode b_GR_asText 96 = .ok (.iinc 2 1, 3) := by decide +kernel
theorem d_GR_asText_99 : decode b_GR_asText 99 = .ok (.goto (-89), 3) := by decide +kernel
theorem d_GR_asText_102 : decode b_GR_asText 102 = .ok (.aload_n 1, 1) := by decide +kernel
theorem d_GR_asText_103 : decode b_GR_asText 103 = .ok (.invokevirtual 100, 3) := by decide +kernel
theorem d_GR_asText_106 : decode b_GR_asText 106 = .ok (.areturn, 1) := by decide +kernel
theorem d_RU_kind_0 : decode b_RU_kind 0 = .ok (.iload_n 1, 1) := by decide +kernel
theorem d_RU_kind_1 : decode b_RU_kind 1 = .ok (.ifCond .lt 20, 3) := by decide +kernel
theorem d_RU_kind_4 : decode b_RU_kind 4 = .ok (.iload_n 1, 1) := by decide +kernel
theorem d_RU_kind_5 : decode b_RU_kind 5 = .ok (.aload_n 0, 1) := by decide +kernel
theorem d_RU_kind_6 : decode b_RU_kind 6 = .ok (.getfield 9, 3) := by decide +kernel
theorem d_RU_kind_9 : decode b_RU_kind 9 = .ok (.if_icmp .ge 12, 3) := by decide +kernel
theorem d_RU_kind_12 : decode b_RU_kind 12 = .ok (.aload_n 0, 1) := by decide +kernel
theorem d_RU_kind_13 : decode b_RU_kind 13 = .ok (.getfield 15, 3) := by decide +kernel
theorem d_RU_kind_16 : decode b_RU_kind 16 = .ok (.iload_n 1, 1) := by decide +kernel
theorem d_RU_kind_17 : decode b_RU_kind 17 = .ok (.iaload, 1) := by decide +kernel
theorem d_RU_kind_18 : decode b_RU_kind 18 = .ok (.goto 4, 3) := by decide +kernel
theorem d_RU_kind_21 : decode b_RU_kind 21 = .ok (.iconst (-1), 1) := by decide +kernel
theorem d_RU_kind_22 : decode b_RU_kind 22 = .ok (.ireturn, 1) := by decide +kernel
theorem d_DR_edition_0 : decode b_DR_edition 0 = .ok (.lload_n 1, 1) := by decide +kernel
theorem d_DR_edition_1 : decode b_DR_edition 1 = .ok (.invokestatic 102, 3) := by decide +kernel
theorem d_DR_edition_4 : decode b_DR_edition 4 = .ok (.ifCond .ne 5, 3) := by decide +kernel
theorem d_DR_edition_7 : decode b_DR_edition 7 = .ok (.iconst (-1), 1) := by decide +kernel
theorem d_DR_edition_8 : decode b_DR_edition 8 = .ok (.ireturn, 1) := by decide +kernel
theorem d_DR_edition_9 : decode b_DR_edition 9 = .ok (.aload_n 0, 1) := by decide +kernel
theorem d_DR_edition_10 : decode b_DR_edition 10 = .ok (.getfield 19, 3) := by decide +kernel
theorem d_DR_edition_13 : decode b_DR_edition 13 = .ok (.aload_n 0, 1) := by decide +kernel
theorem d_DR_edition_14 : decode b_DR_edition 14 = .ok (.getfield 43, 3) := by decide +kernel
theorem d_DR_edition_17 : decode b_DR_edition 17 = .ok (.lload_n 1, 1) := by decide +kernel
theorem d_DR_edition_18 : decode b_DR_edition 18 = .ok (.l2i, 1) := by decide +kernel
theorem d_DR_edition_19 : decode b_DR_edition 19 = .ok (.invokevirtual 106, 3) := by decide +kernel
theorem d_DR_edition_22 : decode b_DR_edition 22 = .ok (.ireturn, 1) := by decide +kernel
theorem d_DR_isDay_0 : decode b_DR_isDay 0 = .ok (.lload_n 0, 1) := by decide +kernel
theorem d_DR_isDay_1 : decode b_DR_isDay 1 = .ok (.lconst 0, 1) := by decide +kernel
theorem d_DR_isDay_2 : decode b_DR_isDay 2 = .ok (.lcmp, 1) := by decide +kernel
theorem d_DR_isDay_3 : decode b_DR_isDay 3 = .ok (.ifCond .lt 15, 3) := by decide +kernel
theorem d_DR_isDay_6 : decode b_DR_isDay 6 = .ok (.lload_n 0, 1) := by decide +kernel
theorem d_DR_isDay_7 : decode b_DR_isDay 7 = .ok (.ldc2_w 245, 3) := by decide +kernel
theorem d_DR_isDay_10 : decode b_DR_isDay 10 = .ok (.lcmp, 1) := by decide +kernel
theorem d_DR_isDay_11 : decode b_DR_isDay 11 = .ok (.ifCond .gt 7, 3) := by decide +kernel
theorem d_DR_isDay_14 : decode b_DR_isDay 14 = .ok (.iconst 1, 1) := by decide +kernel
theorem d_DR_isDay_15 : decode b_DR_isDay 15 = .ok (.goto 4, 3) := by decide +kernel
theorem d_DR_isDay_18 : decode b_DR_isDay 18 = .ok (.iconst 0, 1) := by decide +kernel
theorem d_DR_isDay_19 : decode b_DR_isDay 19 = .ok (.ireturn, 1) := by decide +kernel
theorem d_ED_add_0 : decode b_ED_add 0 = .ok (.aload_n 0, 1) := by decide +kernel
theorem d_ED_add_1 : decode b_ED_add 1 = .ok (.getfield 9, 3) := by decide +kernel
theorem d_ED_add_4 : decode b_ED_add 4 = .ok (.bipush 10, 2) := by decide +kernel
theorem d_ED_add_6 : decode b_ED_add 6 = .ok (.if_icmp .lt 6, 3) := by decide +kernel
theorem d_ED_add_9 : decode b_ED_add 9 = .ok (.bipush (-2), 2) := by decide +kernel
theorem d_ED_add_11 : decode b_ED_add 11 = .ok (.ireturn, 1) := by decide +kernel
theorem d_ED_add_12 : decode b_ED_add 12 = .ok (.aload_n 0, 1) := by decide +kernel
theorem d_ED_add_13 : decode b_ED_add 13 = .ok (.getfield 17, 3) := by decide +kernel
theorem d_ED_add_16 : decode b_ED_add 16 = .ok (.aload_n 0, 1) := by decide +kernel
theorem d_ED_add_17 : decode b_ED_add 17 = .ok (.getfield 9, 3) := by decide +kernel
theorem d_ED_add_20 : decode b_ED_add 20 = .ok (.aload_n 1, 1) := by decide +kernel
theorem d_ED_add_21 : decode b_ED_add 21 = .ok (.aastore, 1) := by decide +kernel
theorem d_ED_add_22 : decode b_ED_add 22 = .ok (.aload_n 0, 1) := by decide +kernel
theorem d_ED_add_23 : decode b_ED_add 23 = .ok (.getfield 21, 3) := by decide +kernel
theorem d_ED_add_26 : decode b_ED_add 26 = .ok (.aload_n 0, 1) := by decide +kernel
theorem d_ED_add_27 : decode b_ED_add 27 = .ok (.getfield 9, 3) := by decide +kernel
theorem d_ED_add_30 : decode b_ED_add 30 = .ok (.iload_n 2, 1) := by decide +kernel
theorem d_ED_add_31 : decode b_ED_add 31 = .ok (.iastore, 1) := by decide +kernel
theorem d_ED_add_32 : decode b_ED_add 32 = .ok (.aload_n 0, 1) := by decide +kernel
theorem d_ED_add_33 : decode b_ED_add 33 = .ok (.dup, 1) := by decide +kernel
theorem d_ED_add_34 : decode b_ED_add 34 = .ok (.getfield 9, 3) := by decide +kernel
theorem d_ED_add_37 : decode b_ED_add 37 = .ok (.iconst 1, 1) := by decide +kernel
theorem d_ED_add_38 : decode b_ED_add 38 = .ok (.iadd, 1) := by decide +kernel
theorem d_ED_add_39 : decode b_ED_add 39 = .ok (.putfield 9, 3) := by decide +kernel
theorem d_ED_add_42 : decode b_ED_add 42 = .ok (.aload_n 0, 1) := by decide +kernel
theorem d_ED_add_43 : decode b_ED_add 43 = .ok (.getfield 9, 3) := by decide +kernel
theorem d_ED_add_46 : decode b_ED_add 46 = .ok (.iconst 1, 1) := by decide +kernel
theorem d_ED_add_47 : decode b_ED_add 47 = .ok (.isub, 1) := by decide +kernel
theorem d_ED_add_48 : decode b_ED_add 48 = .ok (.ireturn, 1) := by decide +kernel
theorem d_DR_fact_0 : decode b_DR_fact 0 = .ok (.iload_n 1, 1) := by decide +kernel
theorem d_DR_fact_1 : decode b_DR_fact 1 = .ok (.invokestatic 110, 3) := by decide +kernel
theorem d_DR_fact_4 : decode b_DR_fact 4 = .ok (.ifCond .eq 17, 3) := by decide +kernel
theorem d_DR_fact_7 : decode b_DR_fact 7 = .ok (.iload_n 2, 1) := by decide +kernel
theorem d_DR_fact_8 : decode b_DR_fact 8 = .ok (.invokestatic 114, 3) := by decide +kernel
theorem d_DR_fact_11 : decode b_DR_fact 11 = .ok (.ifCond .eq 10, 3) := by decide +kernel
theorem d_DR_fact_14 : decode b_DR_fact 14 = .ok (.lload_n 3, 1) := by decide +kernel
theorem d_DR_fact_15 : decode b_DR_fact 15 = .ok (.invokestatic 102, 3) := by decide +kernel
theorem d_DR_fact_18 : decode b_DR_fact 18 = .ok (.ifCond .ne 5, 3) := by decide +kernel
theorem d_DR_fact_21 : decode b_DR_fact 21 = .ok (.iconst 0, 1) := by decide +kernel
theorem d_DR_fact_22 : decode b_DR_fact 22 = .ok (.ireturn, 1) := by decide +kernel
theorem d_DR_fact_23 : decode b_DR_fact 23 = .ok (.lload 7, 2) := by decide +kernel
theorem d_DR_fact_25 : decode b_DR_fact 25 = .ok (.lconst 1, 1) := by decide +kernel
theorem d_DR_fact_26 : decode b_DR_fact 26 = .ok (.lcmp, 1) := by decide +kernel
theorem d_DR_fact_27 : decode b_DR_fact 27 = .ok (.ifCond .lt 22, 3) := by decide +kernel
theorem d_DR_fact_30 : decode b_DR_fact 30 = .ok (.lload 7, 2) := by decide +kernel
theorem d_DR_fact_32 : decode b_DR_fact 32 = .ok (.ldc2_w 117, 3) := by decide +kernel
theorem d_DR_fact_35 : decode b_DR_fact 35 = .ok (.lcmp, 1) := by decide +kernel
theorem d_DR_fact_36 : decode b_DR_fact 36 = .ok (.ifCond .gt 13, 3) := by decide +kernel
theorem d_DR_fact_39 : decode b_DR_fact 39 = .ok (.lload 5, 2) := by decide +kernel
theorem d_DR_fact_41 : decode b_DR_fact 41 = .ok (.lload 7, 2) := by decide +kernel
theorem d_DR_fact_43 : decode b_DR_fact 43 = .ok (.lrem, 1) := by decide +kernel
theorem d_DR_fact_44 : decode b_DR_fact 44 = .ok (.lconst 0, 1) := by decide +kernel
theorem d_DR_fact_45 : decode b_DR_fact 45 = .ok (.lcmp, 1) := by decide +kernel
theorem d_DR_fact_46 : decode b_DR_fact 46 = .ok (.ifCond .eq 5, 3) := by decide +kernel
theorem d_DR_fact_49 : decode b_DR_fact 49 = .ok (.iconst 0, 1) := by decide +kernel
theorem d_DR_fact_50 : decode b_DR_fact 50 = .ok (.ireturn, 1) := by decide +kernel
theorem d_DR_fact_51 : decode b_DR_fact 51 = .ok (.lload 5, 2) := by decide +kernel
theorem d_DR_fact_53 : decode b_DR_fact 53 = .ok (.lload 7, 2) := by decide +kernel
theorem d_DR_fact_55 : decode b_DR_fact 55 = .ok (.ldiv, 1) := by decide +kernel
theorem d_DR_fact_56 : decode b_DR_fact 56 = .ok (.lstore 9, 2) := by decide +kernel
theorem d_DR_fact_58 : decode b_DR_fact 58 = .ok (.lload 9, 2) := by decide +kernel
theorem d_DR_fact_60 : decode b_DR_fact 60 = .ok (.lconst 0, 1) := by decide +kernel
theorem d_DR_fact_61 : decode b_DR_fact 61 = .ok (.lcmp, 1) := by decide +kernel
theorem d_DR_fact_62 : decode b_DR_fact 62 = .ok (.ifCond .lt 14, 3) := by decide +kernel
theorem d_DR_fact_65 : decode b_DR_fact 65 = .ok (.lload 9, 2) := by decide +kernel
theorem d_DR_fact_67 : decode b_DR_fact 67 = .ok (.iload_n 2, 1) := by decide +kernel
theorem d_DR_fact_68 : decode b_DR_fact 68 = .ok (.invokestatic 119, 3) := by decide +kernel
theorem d_DR_fact_71 : decode b_DR_fact 71 = .ok (.i2l, 1) := by decide +kernel
theorem d_DR_fact_72 : decode b_DR_fact 72 = .ok (.lcmp, 1) := by decide +kernel
theorem d_DR_fact_73 : decode b_DR_fact 73 = .ok (.ifCond .le 5, 3) := by decide +kernel
theorem d_DR_fact_76 : decode b_DR_fact 76 = .ok (.iconst 0, 1) := by decide +kernel
theorem d_DR_fact_77 : decode b_DR_fact 77 = .ok (.ireturn, 1) := by decide +kernel
theorem d_DR_fact_78 : decode b_DR_fact 78 = .ok (.aload_n 0, 1) := by decide +kernel
theorem d_DR_fact_79 : decode b_DR_fact 79 = .ok (.getfield 26, 3) := by decide +kernel
theorem d_DR_fact_82 : decode b_DR_fact 82 = .ok (.iload_n 1, 1) := by decide +kernel
theorem d_DR_fact_83 : decode b_DR_fact 83 = .ok (.iload_n 2, 1) := by decide +kernel
theorem d_DR_fact_84 : decode b_DR_fact 84 = .ok (.lload_n 3, 1) := by decide +kernel
theorem d_DR_fact_85 : decode b_DR_fact 85 = .ok (.l2i, 1) := by decide +kernel
theorem d_DR_fact_86 : decode b_DR_fact 86 = .ok (.lload 9, 2) := by decide +kernel
theorem d_DR_fact_88 : decode b_DR_fact 88 = .ok (.l2i, 1) := by decide +kernel
theorem d_DR_fact_89 : decode b_DR_fact 89 = .ok (.invokevirtual 123, 3) := by decide +kernel
theorem d_DR_fact_92 : decode b_DR_fact 92 = .ok (.ireturn, 1) := by decide +kernel
theorem d_DR_isLot_0 : decode b_DR_isLot 0 = .ok (.iload_n 0, 1) := by decide +kernel
theorem d_DR_isLot_1 : decode b_DR_isLot 1 = .ok (.ifCond .lt 13, 3) := by decide +kernel
theorem d_DR_isLot_4 : decode b_DR_isLot 4 = .ok (.iload_n 0, 1) := by decide +kernel
theorem d_DR_isLot_5 : decode b_DR_isLot 5 = .ok (.bipush 30, 2) := by decide +kernel
theorem d_DR_isLot_7 : decode b_DR_isLot 7 = .ok (.if_icmp .ge 7, 3) := by decide +kernel
theorem d_DR_isLot_10 : decode b_DR_isLot 10 = .ok (.iconst 1, 1) := by decide +kernel
theorem d_DR_isLot_11 : decode b_DR_isLot 11 = .ok (.goto 4, 3) := by decide +kernel
theorem d_DR_isLot_14 : decode b_DR_isLot 14 = .ok (.iconst 0, 1) := by decide +kernel
theorem d_DR_isLot_15 : decode b_DR_isLot 15 = .ok (.ireturn, 1) := by decide +kernel
theorem d_DR_isFactKind_0 : decode b_DR_isFactKind 0 = .ok (.iload_n 0, 1) := by decide +kernel
theorem d_DR_isFactKind_1 : decode b_DR_isFactKind 1 = .ok (.ifCond .lt 13, 3) := by decide +kernel
theorem d_DR_isFactKind_4 : decode b_DR_isFactKind 4 = .ok (.iload_n 0, 1) := by decide +kernel
theorem d_DR_isFactKind_5 : decode b_DR_isFactKind 5 = .ok (.bipush 6, 2) := by decide +kernel
theorem d_DR_isFactKind_7 : decode b_DR_isFactKind 7 = .ok (.if_icmp .ge 7, 3) := by decide +kernel
theorem d_DR_isFactKind_10 : decode b_DR_isFactKind 10 = .ok (.iconst 1, 1) := by decide +kernel
theorem d_DR_isFactKind_11 : decode b_DR_isFactKind 11 = .ok (.goto 4, 3) := by decide +kernel
theorem d_DR_isFactKind_14 : decode b_DR_isFactKind 14 = .ok (.iconst 0, 1) := by decide +kernel
theorem d_DR_isFactKind_15 : decode b_DR_isFactKind 15 = .ok (.ireturn, 1) := by decide +kernel
theorem d_DR_greatestValue_0 : decode b_DR_greatestValue 0 = .ok (.iload_n 0, 1) := by decide +kernel
theorem d_DR_greatestValue_1 : decode b_DR_greatestValue 1 = .ok (.tableswitch 41 0 3 #[31, 34, 41, 38], 31) := by decide +kernel
theorem d_DR_greatestValue_32 : decode b_DR_greatestValue 32 = .ok (.bipush 9, 2) := by decide +kernel
theorem d_DR_greatestValue_34 : decode b_DR_greatestValue 34 = .ok (.ireturn, 1) := by decide +kernel
theorem d_DR_greatestValue_35 : decode b_DR_greatestValue 35 = .ok (.sipush 10000, 3) := by decide +kernel
theorem d_DR_greatestValue_38 : decode b_DR_greatestValue 38 = .ok (.ireturn, 1) := by decide +kernel
theorem d_DR_greatestValue_39 : decode b_DR_greatestValue 39 = .ok (.ldc 247, 2) := by decide +kernel
theorem d_DR_greatestValue_41 : decode b_DR_greatestValue 41 = .ok (.ireturn, 1) := by decide +kernel
theorem d_DR_greatestValue_42 : decode b_DR_greatestValue 42 = .ok (.ldc 248, 2) := by decide +kernel
theorem d_DR_greatestValue_44 : decode b_DR_greatestValue 44 = .ok (.ireturn, 1) := by decide +kernel
theorem d_FS_add_0 : decode b_FS_add 0 = .ok (.iload_n 1, 1) := by decide +kernel
theorem d_FS_add_1 : decode b_FS_add 1 = .ok (.iload_n 2, 1) := by decide +kernel
theorem d_FS_add_2 : decode b_FS_add 2 = .ok (.invokestatic 24, 3) := by decide +kernel
theorem d_FS_add_5 : decode b_FS_add 5 = .ok (.istore 5, 2) := by decide +kernel
theorem d_FS_add_7 : decode b_FS_add 7 = .ok (.iload 5, 2) := by decide +kernel
theorem d_FS_add_9 : decode b_FS_add 9 = .ok (.iconst (-1), 1) := by decide +kernel
theorem d_FS_add_10 : decode b_FS_add 10 = .ok (.if_icmp .eq 13, 3) := by decide +kernel
theorem d_FS_add_13 : decode b_FS_add 13 = .ok (.aload_n 0, 1) := by decide +kernel
theorem d_FS_add_14 : decode b_FS_add 14 = .ok (.getfield 9, 3) := by decide +kernel
theorem d_FS_add_17 : decode b_FS_add 17 = .ok (.sipush 300, 3) := by decide +kernel
theorem d_FS_add_20 : decode b_FS_add 20 = .ok (.if_icmp .lt 5, 3) := by decide +kernel
theorem d_FS_add_23 : decode b_FS_add 23 = .ok (.iconst 0, 1) := by decide +kernel
theorem d_FS_add_24 : decode b_FS_add 24 = .ok (.ireturn, 1) := by decide +kernel
theorem d_FS_add_25 : decode b_FS_add 25 = .ok (.aload_n 0, 1) := by decide +kernel
theorem d_FS_add_26 : decode b_FS_add 26 = .ok (.getfield 20, 3) := by decide +kernel
theorem d_FS_add_29 : decode b_FS_add 29 = .ok (.iload 5, 2) := by decide +kernel
theorem d_FS_add_31 : decode b_FS_add 31 = .ok (.new 18, 3) := by decide +kernel
theorem d_FS_add_34 : decode b_FS_add 34 = .ok (.dup, 1) := by decide +kernel
theorem d_FS_add_35 : decode b_FS_add 35 = .ok (.iload_n 3, 1) := by decide +kernel
theorem d_FS_add_36 : decode b_FS_add 36 = .ok (.iload 4, 2) := by decide +kernel
theorem d_FS_add_38 : decode b_FS_add 38 = .ok (.aload_n 0, 1) := by decide +kernel
theorem d_FS_add_39 : decode b_FS_add 39 = .ok (.getfield 20, 3) := by decide +kernel
theorem d_FS_add_42 : decode b_FS_add 42 = .ok (.iload 5, 2) := by decide +kernel
theorem d_FS_add_44 : decode b_FS_add 44 = .ok (.aaload, 1) := by decide +kernel
theorem d_FS_add_45 : decode b_FS_add 45 = .ok (.invokespecial 28, 3) := by decide +kernel
theorem d_FS_add_48 : decode b_FS_add 48 = .ok (.aastore, 1) := by decide +kernel
theorem d_FS_add_49 : decode b_FS_add 49 = .ok (.aload_n 0, 1) := by decide +kernel
theorem d_FS_add_50 : decode b_FS_add 50 = .ok (.dup, 1) := by decide +kernel
theorem d_FS_add_51 : decode b_FS_add 51 = .ok (.getfield 9, 3) := by decide +kernel
theorem d_FS_add_54 : decode b_FS_add 54 = .ok (.iconst 1, 1) := by decide +kernel
theorem d_FS_add_55 : decode b_FS_add 55 = .ok (.iadd, 1) := by decide +kernel
theorem d_FS_add_56 : decode b_FS_add 56 = .ok (.putfield 9, 3) := by decide +kernel
theorem d_FS_add_59 : decode b_FS_add 59 = .ok (.aload_n 0, 1) := by decide +kernel
theorem d_FS_add_60 : decode b_FS_add 60 = .ok (.aload_n 0, 1) := by decide +kernel
theorem d_FS_add_61 : decode b_FS_add 61 = .ok (.getfield 15, 3) := by decide +kernel
theorem d_FS_add_64 : decode b_FS_add 64 = .ok (.iload_n 3, 1) := by decide +kernel
theorem d_FS_add_65 : decode b_FS_add 65 = .ok (.invokestatic 31, 3) := by decide +kernel
theorem d_FS_add_68 : decode b_FS_add 68 = .ok (.putfield 15, 3) := by decide +kernel
theorem d_FS_add_71 : decode b_FS_add 71 = .ok (.iconst 1, 1) := by decide +kernel
theorem d_FS_add_72 : decode b_FS_add 72 = .ok (.ireturn, 1) := by decide +kernel
theorem d_FS_placeOf_0 : decode b_FS_placeOf 0 = .ok (.iload_n 0, 1) := by decide +kernel
theorem d_FS_placeOf_1 : decode b_FS_placeOf 1 = .ok (.invokestatic 53, 3) := by decide +kernel
theorem d_FS_placeOf_4 : decode b_FS_placeOf 4 = .ok (.ifCond .eq 19, 3) := by decide +kernel
theorem d_FS_placeOf_7 : decode b_FS_placeOf 7 = .ok (.iload_n 1, 1) := by decide +kernel
theorem d_FS_placeOf_8 : decode b_FS_placeOf 8 = .ok (.invokestatic 57, 3) := by decide +kernel
theorem d_FS_placeOf_11 : decode b_FS_placeOf 11 = .ok (.ifCond .eq 12, 3) := by decide +kernel
theorem d_FS_placeOf_14 : decode b_FS_placeOf 14 = .ok (.iload_n 0, 1) := by decide +kernel
theorem d_FS_placeOf_15 : decode b_FS_placeOf 15 = .ok (.bipush 6, 2) := by decide +kernel
theorem d_FS_placeOf_17 : decode b_FS_placeOf 17 = .ok (.imul, 1) := by decide +kernel
theorem d_FS_placeOf_18 : decode b_FS_placeOf 18 = .ok (.iload_n 1, 1) := by decide +kernel
theorem d_FS_placeOf_19 : decode b_FS_placeOf 19 = .ok (.iadd, 1) := by decide +kernel
theorem d_FS_placeOf_20 : decode b_FS_placeOf 20 = .ok (.goto 4, 3) := by decide +kernel
theorem d_FS_placeOf_23 : decode b_FS_placeOf 23 = .ok (.iconst (-1), 1) := by decide +kernel
theorem d_FS_placeOf_24 : decode b_FS_placeOf 24 = .ok (.ireturn, 1) := by decide +kernel
theorem d_FA_init_0 : decode b_FA_init 0 = .ok (.aload_n 0, 1) := by decide +kernel
theorem d_FA_init_1 : decode b_FA_init 1 = .ok (.invokespecial 1, 3) := by decide +kernel
theorem d_FA_init_4 : decode b_FA_init 4 = .ok (.aload_n 0, 1) := by decide +kernel
theorem d_FA_init_5 : decode b_FA_init 5 = .ok (.iload_n 1, 1) := by decide +kernel
theorem d_FA_init_6 : decode b_FA_init 6 = .ok (.putfield 7, 3) := by decide +kernel
theorem d_FA_init_9 : decode b_FA_init 9 = .ok (.aload_n 0, 1) := by decide +kernel
theorem d_FA_init_10 : decode b_FA_init 10 = .ok (.iload_n 2, 1) := by decide +kernel
theorem d_FA_init_11 : decode b_FA_init 11 = .ok (.putfield 13, 3) := by decide +kernel
theorem d_FA_init_14 : decode b_FA_init 14 = .ok (.aload_n 0, 1) := by decide +kernel
theorem d_FA_init_15 : decode b_FA_init 15 = .ok (.aload_n 3, 1) := by decide +kernel
theorem d_FA_init_16 : decode b_FA_init 16 = .ok (.putfield 16, 3) := by decide +kernel
theorem d_FA_init_19 : decode b_FA_init 19 = .ok (.aload_n 0, 1) := by decide +kernel
theorem d_FA_init_20 : decode b_FA_init 20 = .ok (.iload_n 1, 1) := by decide +kernel
theorem d_FA_init_21 : decode b_FA_init 21 = .ok (.putfield 20, 3) := by decide +kernel
theorem d_FA_init_24 : decode b_FA_init 24 = .ok (.return_, 1) := by decide +kernel
theorem d_DR_told_0 : decode b_DR_told 0 = .ok (.iload_n 1, 1) := by decide +kernel
theorem d_DR_told_1 : decode b_DR_told 1 = .ok (.invokestatic 110, 3) := by decide +kernel
theorem d_DR_told_4 : decode b_DR_told 4 = .ok (.ifCond .eq 17, 3) := by decide +kernel
theorem d_DR_told_7 : decode b_DR_told 7 = .ok (.iload_n 2, 1) := by decide +kernel
theorem d_DR_told_8 : decode b_DR_told 8 = .ok (.invokestatic 114, 3) := by decide +kernel
theorem d_DR_told_11 : decode b_DR_told 11 = .ok (.ifCond .eq 10, 3) := by decide +kernel
theorem d_DR_told_14 : decode b_DR_told 14 = .ok (.lload_n 3, 1) := by decide +kernel
theorem d_DR_told_15 : decode b_DR_told 15 = .ok (.invokestatic 102, 3) := by decide +kernel
theorem d_DR_told_18 : decode b_DR_told 18 = .ok (.ifCond .ne 5, 3) := by decide +kernel
theorem d_DR_told_21 : decode b_DR_told 21 = .ok (.iconst 0, 1) := by decide +kernel
theorem d_DR_told_22 : decode b_DR_told 22 = .ok (.ireturn, 1) := by decide +kernel
theorem d_DR_told_23 : decode b_DR_told 23 = .ok (.aload_n 0, 1) := by decide +kernel
theorem d_DR_told_24 : decode b_DR_told 24 = .ok (.getfield 26, 3) := by decide +kernel
theorem d_DR_told_27 : decode b_DR_told 27 = .ok (.iload_n 1, 1) := by decide +kernel
theorem d_DR_told_28 : decode b_DR_told 28 = .ok (.iload_n 2, 1) := by decide +kernel
theorem d_DR_told_29 : decode b_DR_told 29 = .ok (.lload_n 3, 1) := by decide +kernel
theorem d_DR_told_30 : decode b_DR_told 30 = .ok (.l2i, 1) := by decide +kernel
theorem d_DR_told_31 : decode b_DR_told 31 = .ok (.invokevirtual 126, 3) := by decide +kernel
theorem d_DR_told_34 : decode b_DR_told 34 = .ok (.ireturn, 1) := by decide +kernel
theorem d_FS_learnNewest_0 : decode b_FS_learnNewest 0 = .ok (.aload_n 0, 1) := by decide +kernel
theorem d_FS_learnNewest_1 : decode b_FS_learnNewest 1 = .ok (.iload_n 1, 1) := by decide +kernel
theorem d_FS_learnNewest_2 : decode b_FS_learnNewest 2 = .ok (.iload_n 2, 1) := by decide +kernel
theorem d_FS_learnNewest_3 : decode b_FS_learnNewest 3 = .ok (.invokevirtual 36, 3) := by decide +kernel
theorem d_FS_learnNewest_6 : decode b_FS_learnNewest 6 = .ok (.astore 4, 2) := by decide +kernel
theorem d_FS_learnNewest_8 : decode b_FS_learnNewest 8 = .ok (.aload 4, 2) := by decide +kernel
theorem d_FS_learnNewest_10 : decode b_FS_learnNewest 10 = .ok (.ifnonnull 5, 3) := by decide +kernel
theorem d_FS_learnNewest_13 : decode b_FS_learnNewest 13 = .ok (.iconst 0, 1) := by decide +kernel
theorem d_FS_learnNewest_14 : decode b_FS_learnNewest 14 = .ok (.ireturn, 1) := by decide +kernel
theorem d_FS_learnNewest_15 : decode b_FS_learnNewest 15 = .ok (.aload 4, 2) := by decide +kernel
theorem d_FS_learnNewest_17 : decode b_FS_learnNewest 17 = .ok (.iload_n 3, 1) := by decide +kernel
theorem d_FS_learnNewest_18 : decode b_FS_learnNewest 18 = .ok (.putfield 40, 3) := by decide +kernel
theorem d_FS_learnNewest_21 : decode b_FS_learnNewest 21 = .ok (.aload_n 0, 1) := by decide +kernel
theorem d_FS_learnNewest_22 : decode b_FS_learnNewest 22 = .ok (.aload_n 0, 1) := by decide +kernel
theorem d_FS_learnNewest_23 : decode b_FS_learnNewest 23 = .ok (.getfield 15, 3) := by decide +kernel
theorem d_FS_learnNewest_26 : decode b_FS_learnNewest 26 = .ok (.iload_n 3, 1) := by decide +kernel
theorem d_FS_learnNewest_27 : decode b_FS_learnNewest 27 = .ok (.invokestatic 31, 3) := by decide +kernel
theorem d_FS_learnNewest_30 : decode b_FS_learnNewest 30 = .ok (.putfield 15, 3) := by decide +kernel
theorem d_FS_learnNewest_33 : decode b_FS_learnNewest 33 = .ok (.iconst 1, 1) := by decide +kernel
theorem d_FS_learnNewest_34 : decode b_FS_learnNewest 34 = .ok (.ireturn, 1) := by decide +kernel
theorem d_FS_newestOf_0 : decode b_FS_newestOf 0 = .ok (.iload_n 1, 1) := by decide +kernel
theorem d_FS_newestOf_1 : decode b_FS_newestOf 1 = .ok (.iload_n 2, 1) := by decide +kernel
theorem d_FS_newestOf_2 : decode b_FS_newestOf 2 = .ok (.invokestatic 24, 3) := by decide +kernel
theorem d_FS_newestOf_5 : decode b_FS_newestOf 5 = .ok (.istore_n 3, 1) := by decide +kernel
theorem d_FS_newestOf_6 : decode b_FS_newestOf 6 = .ok (.iload_n 3, 1) := by decide +kernel
theorem d_FS_newestOf_7 : decode b_FS_newestOf 7 = .ok (.iconst (-1), 1) := by decide +kernel
theorem d_FS_newestOf_8 : decode b_FS_newestOf 8 = .ok (.if_icmp .ne 7, 3) := by decide +kernel
theorem d_FS_newestOf_11 : decode b_FS_newestOf 11 = .ok (.aconst_null, 1) := by decide +kernel
theorem d_FS_newestOf_12 : decode b_FS_newestOf 12 = .ok (.goto 9, 3) := by decide +kernel
theorem d_FS_newestOf_15 : decode b_FS_newestOf 15 = .ok (.aload_n 0, 1) := by decide +kernel
theorem d_FS_newestOf_16 : decode b_FS_newestOf 16 = .ok (.getfield 20, 3) := by decide +kernel
theorem d_FS_newestOf_19 : decode b_FS_newestOf 19 = .ok (.iload_n 3, 1) := by decide +kernel
theorem d_FS_newestOf_20 : decode b_FS_newestOf 20 = .ok (.aaload, 1) := by decide +kernel
theorem d_FS_newestOf_21 : decode b_FS_newestOf 21 = .ok (.areturn, 1) := by decide +kernel
theorem d_DR_duty_0 : decode b_DR_duty 0 = .ok (.iload_n 1, 1) := by decide +kernel
theorem d_DR_duty_1 : decode b_DR_duty 1 = .ok (.invokestatic 110, 3) := by decide +kernel
theorem d_DR_duty_4 : decode b_DR_duty 4 = .ok (.ifCond .eq 26, 3) := by decide +kernel
theorem d_DR_duty_7 : decode b_DR_duty 7 = .ok (.lload_n 2, 1) := by decide +kernel
theorem d_DR_duty_8 : decode b_DR_duty 8 = .ok (.invokestatic 102, 3) := by decide +kernel
theorem d_DR_duty_11 : decode b_DR_duty 11 = .ok (.ifCond .eq 19, 3) := by decide +kernel
theorem d_DR_duty_14 : decode b_DR_duty 14 = .ok (.lload 4, 2) := by decide +kernel
theorem d_DR_duty_16 : decode b_DR_duty 16 = .ok (.invokestatic 102, 3) := by decide +kernel
theorem d_DR_duty_19 : decode b_DR_duty 19 = .ok (.ifCond .eq 11, 3) := by decide +kernel
theorem d_DR_duty_22 : decode b_DR_duty 22 = .ok (.iload 6, 2) := by decide +kernel
theorem d_DR_duty_24 : decode b_DR_duty 24 = .ok (.invokestatic 130, 3) := by decide +kernel
theorem d_DR_duty_27 : decode b_DR_duty 27 = .ok (.ifCond .ne 7, 3) := by decide +kernel
theorem d_DR_duty_30 : decode b_DR_duty 30 = .ok (.ldc2_w 133, 3) := by decide +kernel
theorem d_DR_duty_33 : decode b_DR_duty 33 = .ok (.lreturn, 1) := by decide +kernel
theorem d_DR_duty_34 : decode b_DR_duty 34 = .ok (.aload_n 0, 1) := by decide +kernel
theorem d_DR_duty_35 : decode b_DR_duty 35 = .ok (.iconst 1, 1) := by decide +kernel
theorem d_DR_duty_36 : decode b_DR_duty 36 = .ok (.putfield 53, 3) := by decide +kernel
theorem d_DR_duty_39 : decode b_DR_duty 39 = .ok (.aload_n 0, 1) := by decide +kernel
theorem d_DR_duty_40 : decode b_DR_duty 40 = .ok (.getfield 33, 3) := by decide +kernel
theorem d_DR_duty_43 : decode b_DR_duty 43 = .ok (.aload_n 0, 1) := by decide +kernel
theorem d_DR_duty_44 : decode b_DR_duty 44 = .ok (.getfield 19, 3) := by decide +kernel
theorem d_DR_duty_47 : decode b_DR_duty 47 = .ok (.aload_n 0, 1) := by decide +kernel
theorem d_DR_duty_48 : decode b_DR_duty 48 = .ok (.getfield 26, 3) := by decide +kernel
theorem d_DR_duty_51 : decode b_DR_duty 51 = .ok (.iload_n 1, 1) := by decide +kernel
theorem d_DR_duty_52 : decode b_DR_duty 52 = .ok (.lload_n 2, 1) := by decide +kernel
theorem d_DR_duty_53 : decode b_DR_duty 53 = .ok (.l2i, 1) := by decide +kernel
theorem d_DR_duty_54 : decode b_DR_duty 54 = .ok (.lload 4, 2) := by decide +kernel
theorem d_DR_duty_56 : decode b_DR_duty 56 = .ok (.l2i, 1) := by decide +kernel
theorem d_DR_duty_57 : decode b_DR_duty 57 = .ok (.invokevirtual 135, 3) := by decide +kernel
theorem d_DR_duty_60 : decode b_DR_duty 60 = .ok (.aload_n 0, 1) := by decide +kernel
theorem d_DR_duty_61 : decode b_DR_duty 61 = .ok (.getfield 33, 3) := by decide +kernel
theorem d_DR_duty_64 : decode b_DR_duty 64 = .ok (.getfield 139, 3) := by decide +kernel
theorem d_DR_duty_67 : decode b_DR_duty 67 = .ok (.iconst (-1), 1) := by decide +kernel
theorem d_DR_duty_68 : decode b_DR_duty 68 = .ok (.if_icmp .eq 7, 3) := by decide +kernel
theorem d_DR_duty_71 : decode b_DR_duty 71 = .ok (.ldc2_w 133, 3) := by decide +kernel
theorem d_DR_duty_74 : decode b_DR_duty 74 = .ok (.lreturn, 1) := by decide +kernel
theorem d_DR_duty_75 : decode b_DR_duty 75 = .ok (.aload_n 0, 1) := by decide +kernel
theorem d_DR_duty_76 : decode b_DR_duty 76 = .ok (.getfield 33, 3) := by decide +kernel
theorem d_DR_duty_79 : decode b_DR_duty 79 = .ok (.getfield 142, 3) := by decide +kernel
theorem d_DR_duty_82 : decode b_DR_duty 82 = .ok (.ldc2_w 146, 3) := by decide +kernel
theorem d_DR_duty_85 : decode b_DR_duty 85 = .ok (.iload 6, 2) := by decide +kernel
theorem d_DR_duty_87 : decode b_DR_duty 87 = .ok (.invokestatic 148, 3) := by decide +kernel
theorem d_DR_duty_90 : decode b_DR_duty 90 = .ok (.lreturn, 1) := by decide +kernel
theorem d_DR_isPart_0 : decode b_DR_isPart 0 = .ok (.iload_n 0, 1) := by decide +kernel
theorem d_DR_isPart_1 : decode b_DR_isPart 1 = .ok (.ifCond .eq 8, 3) := by decide +kernel
theorem d_DR_isPart_4 : decode b_DR_isPart 4 = .ok (.iload_n 0, 1) := by decide +kernel
theorem d_DR_isPart_5 : decode b_DR_isPart 5 = .ok (.iconst 1, 1) := by decide +kernel
theorem d_DR_isPart_6 : decode b_DR_isPart 6 = .ok (.if_icmp .ne 7, 3) := by decide +kernel
theorem d_DR_isPart_9 : decode b_DR_isPart 9 = .ok (.iconst 1, 1) := by decide +kernel
theorem d_DR_isPart_10 : decode b_DR_isPart 10 = .ok (.goto 4, 3) := by decide +kernel
theorem d_DR_isPart_13 : decode b_DR_isPart 13 = .ok (.iconst 0, 1) := by decide +kernel
theorem d_DR_isPart_14 : decode b_DR_isPart 14 = .ok (.ireturn, 1) := by decide +kernel
theorem d_DU_reckon_0 : decode b_DU_reckon 0 = .ok (.aload_n 0, 1) := by decide +kernel
theorem d_DU_reckon_1 : decode b_DU_reckon 1 = .ok (.iload_n 3, 1) := by decide +kernel
theorem d_DU_reckon_2 : decode b_DU_reckon 2 = .ok (.putfield 9, 3) := by decide +kernel
theorem d_DU_reckon_5 : decode b_DU_reckon 5 = .ok (.aload_n 0, 1) := by decide +kernel
theorem d_DU_reckon_6 : decode b_DU_reckon 6 = .ok (.iconst 0, 1) := by decide +kernel
theorem d_DU_reckon_7 : decode b_DU_reckon 7 = .ok (.putfield 18, 3) := by decide +kernel
theorem d_DU_reckon_10 : decode b_DU_reckon 10 = .ok (.aload_n 0, 1) := by decide +kernel
theorem d_DU_reckon_11 : decode b_DU_reckon 11 = .ok (.lconst 0, 1) := by decide +kernel
theorem d_DU_reckon_12 : decode b_DU_reckon 12 = .ok (.putfield 21, 3) := by decide +kernel
theorem d_DU_reckon_15 : decode b_DU_reckon 15 = .ok (.aload_n 0, 1) := by decide +kernel
theorem d_DU_reckon_16 : decode b_DU_reckon 16 = .ok (.lconst 0, 1) := by decide +kernel
theorem d_DU_reckon_17 : decode b_DU_reckon 17 = .ok (.putfield 25, 3) := by decide +kernel
theorem d_DU_reckon_20 : decode b_DU_reckon 20 = .ok (.aload_n 1, 1) := by decide +kernel
theorem d_DU_reckon_21 : decode b_DU_reckon 21 = .ok (.iload 4, 2) := by decide +kernel
theorem d_DU_reckon_23 : decode b_DU_reckon 23 = .ok (.invokevirtual 42, 3) := by decide +kernel
end
section
theorem d_DU_reckon_26 : decode b_DU_reckon 26 = .ok (.astore 6, 2) := by decide +kernel
theorem d_DU_reckon_28 : decode b_DU_reckon 28 = .ok (.aload 6, 2) := by decide +kernel
theorem d_DU_reckon_30 : decode b_DU_reckon 30 = .ok (.ifnonnull 10, 3) := by decide +kernel
theorem d_DU_reckon_33 : decode b_DU_reckon 33 = .ok (.aload_n 0, 1) := by decide +kernel
theorem d_DU_reckon_34 : decode b_DU_reckon 34 = .ok (.bipush 20, 2) := by decide +kernel
theorem d_DU_reckon_36 : decode b_DU_reckon 36 = .ok (.putfield 15, 3) := by decide +kernel
theorem d_DU_reckon_39 : decode b_DU_reckon 39 = .ok (.return_, 1) := by decide +kernel
theorem d_DU_reckon_40 : decode b_DU_reckon 40 = .ok (.iconst 0, 1) := by decide +kernel
theorem d_DU_reckon_41 : decode b_DU_reckon 41 = .ok (.istore 7, 2) := by decide +kernel
theorem d_DU_reckon_43 : decode b_DU_reckon 43 = .ok (.iload 7, 2) := by decide +kernel
theorem d_DU_reckon_45 : decode b_DU_reckon 45 = .ok (.bipush 6, 2) := by decide +kernel
theorem d_DU_reckon_47 : decode b_DU_reckon 47 = .ok (.if_icmp .ge 27, 3) := by decide +kernel
theorem d_DU_reckon_50 : decode b_DU_reckon 50 = .ok (.aload_n 0, 1) := by decide +kernel
theorem d_DU_reckon_51 : decode b_DU_reckon 51 = .ok (.getfield 28, 3) := by decide +kernel
theorem d_DU_reckon_54 : decode b_DU_reckon 54 = .ok (.iload 7, 2) := by decide +kernel
theorem d_DU_reckon_56 : decode b_DU_reckon 56 = .ok (.aload_n 2, 1) := by decide +kernel
theorem d_DU_reckon_57 : decode b_DU_reckon 57 = .ok (.iload_n 3, 1) := by decide +kernel
theorem d_DU_reckon_58 : decode b_DU_reckon 58 = .ok (.iload 7, 2) := by decide +kernel
theorem d_DU_reckon_60 : decode b_DU_reckon 60 = .ok (.iload 4, 2) := by decide +kernel
theorem d_DU_reckon_62 : decode b_DU_reckon 62 = .ok (.iload 5, 2) := by decide +kernel
theorem d_DU_reckon_64 : decode b_DU_reckon 64 = .ok (.invokevirtual 48, 3) := by decide +kernel
theorem d_DU_reckon_67 : decode b_DU_reckon 67 = .ok (.iastore, 1) := by decide +kernel
theorem d_DU_reckon_68 : decode b_DU_reckon 68 = .ok (.iinc 7 1, 3) := by decide +kernel
theorem d_DU_reckon_71 : decode b_DU_reckon 71 = .ok (.goto (-28), 3) := by decide +kernel
theorem d_DU_reckon_74 : decode b_DU_reckon 74 = .ok (.aload_n 0, 1) := by decide +kernel
theorem d_DU_reckon_75 : decode b_DU_reckon 75 = .ok (.aload_n 0, 1) := by decide +kernel
theorem d_DU_reckon_76 : decode b_DU_reckon 76 = .ok (.aload 6, 2) := by decide +kernel
theorem d_DU_reckon_78 : decode b_DU_reckon 78 = .ok (.invokevirtual 54, 3) := by decide +kernel
theorem d_DU_reckon_81 : decode b_DU_reckon 81 = .ok (.putfield 15, 3) := by decide +kernel
theorem d_DU_reckon_84 : decode b_DU_reckon 84 = .ok (.aload_n 0, 1) := by decide +kernel
theorem d_DU_reckon_85 : decode b_DU_reckon 85 = .ok (.getfield 15, 3) := by decide +kernel
theorem d_DU_reckon_88 : decode b_DU_reckon 88 = .ok (.iconst (-1), 1) := by decide +kernel
theorem d_DU_reckon_89 : decode b_DU_reckon 89 = .ok (.if_icmp .ne 9, 3) := by decide +kernel
theorem d_DU_reckon_92 : decode b_DU_reckon 92 = .ok (.aload_n 0, 1) := by decide +kernel
theorem d_DU_reckon_93 : decode b_DU_reckon 93 = .ok (.aload 6, 2) := by decide +kernel
theorem d_DU_reckon_95 : decode b_DU_reckon 95 = .ok (.invokevirtual 58, 3) := by decide +kernel
theorem d_DU_reckon_98 : decode b_DU_reckon 98 = .ok (.return_, 1) := by decide +kernel
theorem d_ED_heldOn_0 : decode b_ED_heldOn 0 = .ok (.aconst_null, 1) := by decide +kernel
theorem d_ED_heldOn_1 : decode b_ED_heldOn 1 = .ok (.astore_n 2, 1) := by decide +kernel
theorem d_ED_heldOn_2 : decode b_ED_heldOn 2 = .ok (.iconst 0, 1) := by decide +kernel
theorem d_ED_heldOn_3 : decode b_ED_heldOn 3 = .ok (.istore_n 3, 1) := by decide +kernel
theorem d_ED_heldOn_4 : decode b_ED_heldOn 4 = .ok (.iconst 0, 1) := by decide +kernel
theorem d_ED_heldOn_5 : decode b_ED_heldOn 5 = .ok (.istore 4, 2) := by decide +kernel
theorem d_ED_heldOn_7 : decode b_ED_heldOn 7 = .ok (.iload 4, 2) := by decide +kernel
theorem d_ED_heldOn_9 : decode b_ED_heldOn 9 = .ok (.aload_n 0, 1) := by decide +kernel
theorem d_ED_heldOn_10 : decode b_ED_heldOn 10 = .ok (.getfield 9, 3) := by decide +kernel
theorem d_ED_heldOn_13 : decode b_ED_heldOn 13 = .ok (.if_icmp .ge 47, 3) := by decide +kernel
theorem d_ED_heldOn_16 : decode b_ED_heldOn 16 = .ok (.aload_n 0, 1) := by decide +kernel
theorem d_ED_heldOn_17 : decode b_ED_heldOn 17 = .ok (.getfield 21, 3) := by decide +kernel
theorem d_ED_heldOn_20 : decode b_ED_heldOn 20 = .ok (.iload 4, 2) := by decide +kernel
theorem d_ED_heldOn_22 : decode b_ED_heldOn 22 = .ok (.iaload, 1) := by decide +kernel
theorem d_ED_heldOn_23 : decode b_ED_heldOn 23 = .ok (.iload_n 1, 1) := by decide +kernel
theorem d_ED_heldOn_24 : decode b_ED_heldOn 24 = .ok (.if_icmp .gt 30, 3) := by decide +kernel
theorem d_ED_heldOn_27 : decode b_ED_heldOn 27 = .ok (.aload_n 0, 1) := by decide +kernel
theorem d_ED_heldOn_28 : decode b_ED_heldOn 28 = .ok (.getfield 21, 3) := by decide +kernel
theorem d_ED_heldOn_31 : decode b_ED_heldOn 31 = .ok (.iload 4, 2) := by decide +kernel
theorem d_ED_heldOn_33 : decode b_ED_heldOn 33 = .ok (.iaload, 1) := by decide +kernel
theorem d_ED_heldOn_34 : decode b_ED_heldOn 34 = .ok (.iload_n 3, 1) := by decide +kernel
theorem d_ED_heldOn_35 : decode b_ED_heldOn 35 = .ok (.if_icmp .lt 19, 3) := by decide +kernel
theorem d_ED_heldOn_38 : decode b_ED_heldOn 38 = .ok (.aload_n 0, 1) := by decide +kernel
theorem d_ED_heldOn_39 : decode b_ED_heldOn 39 = .ok (.getfield 17, 3) := by decide +kernel
theorem d_ED_heldOn_42 : decode b_ED_heldOn 42 = .ok (.iload 4, 2) := by decide +kernel
theorem d_ED_heldOn_44 : decode b_ED_heldOn 44 = .ok (.aaload, 1) := by decide +kernel
theorem d_ED_heldOn_45 : decode b_ED_heldOn 45 = .ok (.astore_n 2, 1) := by decide +kernel
theorem d_ED_heldOn_46 : decode b_ED_heldOn 46 = .ok (.aload_n 0, 1) := by decide +kernel
theorem d_ED_heldOn_47 : decode b_ED_heldOn 47 = .ok (.getfield 21, 3) := by decide +kernel
theorem d_ED_heldOn_50 : decode b_ED_heldOn 50 = .ok (.iload 4, 2) := by decide +kernel
theorem d_ED_heldOn_52 : decode b_ED_heldOn 52 = .ok (.iaload, 1) := by decide +kernel
theorem d_ED_heldOn_53 : decode b_ED_heldOn 53 = .ok (.istore_n 3, 1) := by decide +kernel
theorem d_ED_heldOn_54 : decode b_ED_heldOn 54 = .ok (.iinc 4 1, 3) := by decide +kernel
theorem d_ED_heldOn_57 : decode b_ED_heldOn 57 = .ok (.goto (-50), 3) := by decide +kernel
theorem d_ED_heldOn_60 : decode b_ED_heldOn 60 = .ok (.aload_n 2, 1) := by decide +kernel
theorem d_ED_heldOn_61 : decode b_ED_heldOn 61 = .ok (.areturn, 1) := by decide +kernel
theorem d_FS_heldValue_0 : decode b_FS_heldValue 0 = .ok (.aconst_null, 1) := by decide +kernel
theorem d_FS_heldValue_1 : decode b_FS_heldValue 1 = .ok (.astore 5, 2) := by decide +kernel
theorem d_FS_heldValue_3 : decode b_FS_heldValue 3 = .ok (.aload_n 0, 1) := by decide +kernel
theorem d_FS_heldValue_4 : decode b_FS_heldValue 4 = .ok (.iload_n 1, 1) := by decide +kernel
theorem d_FS_heldValue_5 : decode b_FS_heldValue 5 = .ok (.iload_n 2, 1) := by decide +kernel
theorem d_FS_heldValue_6 : decode b_FS_heldValue 6 = .ok (.invokevirtual 36, 3) := by decide +kernel
theorem d_FS_heldValue_9 : decode b_FS_heldValue 9 = .ok (.astore 6, 2) := by decide +kernel
theorem d_FS_heldValue_11 : decode b_FS_heldValue 11 = .ok (.aload 6, 2) := by decide +kernel
theorem d_FS_heldValue_13 : decode b_FS_heldValue 13 = .ok (.ifnull 54, 3) := by decide +kernel
theorem d_FS_heldValue_16 : decode b_FS_heldValue 16 = .ok (.aload 6, 2) := by decide +kernel
theorem d_FS_heldValue_18 : decode b_FS_heldValue 18 = .ok (.getfield 43, 3) := by decide +kernel
theorem d_FS_heldValue_21 : decode b_FS_heldValue 21 = .ok (.iload_n 3, 1) := by decide +kernel
theorem d_FS_heldValue_22 : decode b_FS_heldValue 22 = .ok (.if_icmp .gt 35, 3) := by decide +kernel
theorem d_FS_heldValue_25 : decode b_FS_heldValue 25 = .ok (.aload 6, 2) := by decide +kernel
theorem d_FS_heldValue_27 : decode b_FS_heldValue 27 = .ok (.getfield 40, 3) := by decide +kernel
theorem d_FS_heldValue_30 : decode b_FS_heldValue 30 = .ok (.iload 4, 2) := by decide +kernel
theorem d_FS_heldValue_32 : decode b_FS_heldValue 32 = .ok (.if_icmp .gt 25, 3) := by decide +kernel
theorem d_FS_heldValue_35 : decode b_FS_heldValue 35 = .ok (.aload 5, 2) := by decide +kernel
theorem d_FS_heldValue_37 : decode b_FS_heldValue 37 = .ok (.ifnull 16, 3) := by decide +kernel
theorem d_FS_heldValue_40 : decode b_FS_heldValue 40 = .ok (.aload 6, 2) := by decide +kernel
theorem d_FS_heldValue_42 : decode b_FS_heldValue 42 = .ok (.getfield 43, 3) := by decide +kernel
theorem d_FS_heldValue_45 : decode b_FS_heldValue 45 = .ok (.aload 5, 2) := by decide +kernel
theorem d_FS_heldValue_47 : decode b_FS_heldValue 47 = .ok (.getfield 43, 3) := by decide +kernel
theorem d_FS_heldValue_50 : decode b_FS_heldValue 50 = .ok (.if_icmp .le 7, 3) := by decide +kernel
theorem d_FS_heldValue_53 : decode b_FS_heldValue 53 = .ok (.aload 6, 2) := by decide +kernel
theorem d_FS_heldValue_55 : decode b_FS_heldValue 55 = .ok (.astore 5, 2) := by decide +kernel
theorem d_FS_heldValue_57 : decode b_FS_heldValue 57 = .ok (.aload 6, 2) := by decide +kernel
theorem d_FS_heldValue_59 : decode b_FS_heldValue 59 = .ok (.getfield 46, 3) := by decide +kernel
theorem d_FS_heldValue_62 : decode b_FS_heldValue 62 = .ok (.astore 6, 2) := by decide +kernel
theorem d_FS_heldValue_64 : decode b_FS_heldValue 64 = .ok (.goto (-53), 3) := by decide +kernel
theorem d_FS_heldValue_67 : decode b_FS_heldValue 67 = .ok (.aload 5, 2) := by decide +kernel
theorem d_FS_heldValue_69 : decode b_FS_heldValue 69 = .ok (.ifnonnull 7, 3) := by decide +kernel
theorem d_FS_heldValue_72 : decode b_FS_heldValue 72 = .ok (.iconst (-1), 1) := by decide +kernel
theorem d_FS_heldValue_73 : decode b_FS_heldValue 73 = .ok (.goto 8, 3) := by decide +kernel
theorem d_FS_heldValue_76 : decode b_FS_heldValue 76 = .ok (.aload 5, 2) := by decide +kernel
theorem d_FS_heldValue_78 : decode b_FS_heldValue 78 = .ok (.getfield 50, 3) := by decide +kernel
theorem d_FS_heldValue_81 : decode b_FS_heldValue 81 = .ok (.ireturn, 1) := by decide +kernel
theorem d_DU_reasonToBeOpen_0 : decode b_DU_reasonToBeOpen 0 = .ok (.iconst 0, 1) := by decide +kernel
theorem d_DU_reasonToBeOpen_1 : decode b_DU_reasonToBeOpen 1 = .ok (.istore_n 2, 1) := by decide +kernel
theorem d_DU_reasonToBeOpen_2 : decode b_DU_reasonToBeOpen 2 = .ok (.iload_n 2, 1) := by decide +kernel
theorem d_DU_reasonToBeOpen_3 : decode b_DU_reasonToBeOpen 3 = .ok (.iconst 2, 1) := by decide +kernel
theorem d_DU_reasonToBeOpen_4 : decode b_DU_reasonToBeOpen 4 = .ok (.if_icmp .gt 21, 3) := by decide +kernel
theorem d_DU_reasonToBeOpen_7 : decode b_DU_reasonToBeOpen 7 = .ok (.aload_n 0, 1) := by decide +kernel
theorem d_DU_reasonToBeOpen_8 : decode b_DU_reasonToBeOpen 8 = .ok (.getfield 28, 3) := by decide +kernel
theorem d_DU_reasonToBeOpen_11 : decode b_DU_reasonToBeOpen 11 = .ok (.iload_n 2, 1) := by decide +kernel
theorem d_DU_reasonToBeOpen_12 : decode b_DU_reasonToBeOpen 12 = .ok (.iaload, 1) := by decide +kernel
theorem d_DU_reasonToBeOpen_13 : decode b_DU_reasonToBeOpen 13 = .ok (.iconst (-1), 1) := by decide +kernel
theorem d_DU_reasonToBeOpen_14 : decode b_DU_reasonToBeOpen 14 = .ok (.if_icmp .ne 5, 3) := by decide +kernel
theorem d_DU_reasonToBeOpen_17 : decode b_DU_reasonToBeOpen 17 = .ok (.iload_n 2, 1) := by decide +kernel
theorem d_DU_reasonToBeOpen_18 : decode b_DU_reasonToBeOpen 18 = .ok (.ireturn, 1) := by decide +kernel
theorem d_DU_reasonToBeOpen_19 : decode b_DU_reasonToBeOpen 19 = .ok (.iinc 2 1, 3) := by decide +kernel
theorem d_DU_reasonToBeOpen_22 : decode b_DU_reasonToBeOpen 22 = .ok (.goto (-20), 3) := by decide +kernel
theorem d_DU_reasonToBeOpen_25 : decode b_DU_reasonToBeOpen 25 = .ok (.aload_n 1, 1) := by decide +kernel
theorem d_DU_reasonToBeOpen_26 : decode b_DU_reasonToBeOpen 26 = .ok (.aload_n 0, 1) := by decide +kernel
theorem d_DU_reasonToBeOpen_27 : decode b_DU_reasonToBeOpen 27 = .ok (.getfield 28, 3) := by decide +kernel
theorem d_DU_reasonToBeOpen_30 : decode b_DU_reasonToBeOpen 30 = .ok (.iconst 0, 1) := by decide +kernel
theorem d_DU_reasonToBeOpen_31 : decode b_DU_reasonToBeOpen 31 = .ok (.iaload, 1) := by decide +kernel
theorem d_DU_reasonToBeOpen_32 : decode b_DU_reasonToBeOpen 32 = .ok (.aload_n 0, 1) := by decide +kernel
theorem d_DU_reasonToBeOpen_33 : decode b_DU_reasonToBeOpen 33 = .ok (.getfield 28, 3) := by decide +kernel
theorem d_DU_reasonToBeOpen_36 : decode b_DU_reasonToBeOpen 36 = .ok (.iconst 1, 1) := by decide +kernel
theorem d_DU_reasonToBeOpen_37 : decode b_DU_reasonToBeOpen 37 = .ok (.iaload, 1) := by decide +kernel
theorem d_DU_reasonToBeOpen_38 : decode b_DU_reasonToBeOpen 38 = .ok (.invokevirtual 62, 3) := by decide +kernel
theorem d_DU_reasonToBeOpen_41 : decode b_DU_reasonToBeOpen 41 = .ok (.iconst (-1), 1) := by decide +kernel
theorem d_DU_reasonToBeOpen_42 : decode b_DU_reasonToBeOpen 42 = .ok (.if_icmp .ne 6, 3) := by decide +kernel
theorem d_DU_reasonToBeOpen_45 : decode b_DU_reasonToBeOpen 45 = .ok (.bipush 21, 2) := by decide +kernel
theorem d_DU_reasonToBeOpen_47 : decode b_DU_reasonToBeOpen 47 = .ok (.ireturn, 1) := by decide +kernel
theorem d_DU_reasonToBeOpen_48 : decode b_DU_reasonToBeOpen 48 = .ok (.aload_n 0, 1) := by decide +kernel
theorem d_DU_reasonToBeOpen_49 : decode b_DU_reasonToBeOpen 49 = .ok (.getfield 28, 3) := by decide +kernel
theorem d_DU_reasonToBeOpen_52 : decode b_DU_reasonToBeOpen 52 = .ok (.iconst 3, 1) := by decide +kernel
theorem d_DU_reasonToBeOpen_53 : decode b_DU_reasonToBeOpen 53 = .ok (.iaload, 1) := by decide +kernel
theorem d_DU_reasonToBeOpen_54 : decode b_DU_reasonToBeOpen 54 = .ok (.iconst (-1), 1) := by decide +kernel
theorem d_DU_reasonToBeOpen_55 : decode b_DU_reasonToBeOpen 55 = .ok (.if_icmp .ne 20, 3) := by decide +kernel
theorem d_DU_reasonToBeOpen_58 : decode b_DU_reasonToBeOpen 58 = .ok (.aload_n 1, 1) := by decide +kernel
theorem d_DU_reasonToBeOpen_59 : decode b_DU_reasonToBeOpen 59 = .ok (.iconst 1, 1) := by decide +kernel
theorem d_DU_reasonToBeOpen_60 : decode b_DU_reasonToBeOpen 60 = .ok (.aload_n 0, 1) := by decide +kernel
theorem d_DU_reasonToBeOpen_61 : decode b_DU_reasonToBeOpen 61 = .ok (.getfield 28, 3) := by decide +kernel
theorem d_DU_reasonToBeOpen_64 : decode b_DU_reasonToBeOpen 64 = .ok (.iconst 0, 1) := by decide +kernel
theorem d_DU_reasonToBeOpen_65 : decode b_DU_reasonToBeOpen 65 = .ok (.iaload, 1) := by decide +kernel
theorem d_DU_reasonToBeOpen_66 : decode b_DU_reasonToBeOpen 66 = .ok (.invokevirtual 68, 3) := by decide +kernel
theorem d_DU_reasonToBeOpen_69 : decode b_DU_reasonToBeOpen 69 = .ok (.iconst (-1), 1) := by decide +kernel
theorem d_DU_reasonToBeOpen_70 : decode b_DU_reasonToBeOpen 70 = .ok (.if_icmp .eq 5, 3) := by decide +kernel
theorem d_DU_reasonToBeOpen_73 : decode b_DU_reasonToBeOpen 73 = .ok (.iconst 3, 1) := by decide +kernel
theorem d_DU_reasonToBeOpen_74 : decode b_DU_reasonToBeOpen 74 = .ok (.ireturn, 1) := by decide +kernel
theorem d_DU_reasonToBeOpen_75 : decode b_DU_reasonToBeOpen 75 = .ok (.iconst (-1), 1) := by decide +kernel
theorem d_DU_reasonToBeOpen_76 : decode b_DU_reasonToBeOpen 76 = .ok (.ireturn, 1) := by decide +kernel
theorem d_RU_firstRate_0 : decode b_RU_firstRate 0 = .ok (.iconst 0, 1) := by decide +kernel
theorem d_RU_firstRate_1 : decode b_RU_firstRate 1 = .ok (.istore_n 3, 1) := by decide +kernel
theorem d_RU_firstRate_2 : decode b_RU_firstRate 2 = .ok (.iload_n 3, 1) := by decide +kernel
theorem d_RU_firstRate_3 : decode b_RU_firstRate 3 = .ok (.aload_n 0, 1) := by decide +kernel
theorem d_RU_firstRate_4 : decode b_RU_firstRate 4 = .ok (.getfield 9, 3) := by decide +kernel
theorem d_RU_firstRate_7 : decode b_RU_firstRate 7 = .ok (.if_icmp .ge 50, 3) := by decide +kernel
theorem d_RU_firstRate_10 : decode b_RU_firstRate 10 = .ok (.aload_n 0, 1) := by decide +kernel
theorem d_RU_firstRate_11 : decode b_RU_firstRate 11 = .ok (.getfield 15, 3) := by decide +kernel
theorem d_RU_firstRate_14 : decode b_RU_firstRate 14 = .ok (.iload_n 3, 1) := by decide +kernel
theorem d_RU_firstRate_15 : decode b_RU_firstRate 15 = .ok (.iaload, 1) := by decide +kernel
theorem d_RU_firstRate_16 : decode b_RU_firstRate 16 = .ok (.ifCond .ne 35, 3) := by decide +kernel
theorem d_RU_firstRate_19 : decode b_RU_firstRate 19 = .ok (.aload_n 0, 1) := by decide +kernel
theorem d_RU_firstRate_20 : decode b_RU_firstRate 20 = .ok (.iload_n 3, 1) := by decide +kernel
theorem d_RU_firstRate_21 : decode b_RU_firstRate 21 = .ok (.iconst 0, 1) := by decide +kernel
theorem d_RU_firstRate_22 : decode b_RU_firstRate 22 = .ok (.invokevirtual 26, 3) := by decide +kernel
theorem d_RU_firstRate_25 : decode b_RU_firstRate 25 = .ok (.iload_n 1, 1) := by decide +kernel
theorem d_RU_firstRate_26 : decode b_RU_firstRate 26 = .ok (.if_icmp .ne 25, 3) := by decide +kernel
theorem d_RU_firstRate_29 : decode b_RU_firstRate 29 = .ok (.aload_n 0, 1) := by decide +kernel
theorem d_RU_firstRate_30 : decode b_RU_firstRate 30 = .ok (.iload_n 3, 1) := by decide +kernel
theorem d_RU_firstRate_31 : decode b_RU_firstRate 31 = .ok (.iconst 1, 1) := by decide +kernel
theorem d_RU_firstRate_32 : decode b_RU_firstRate 32 = .ok (.invokevirtual 26, 3) := by decide +kernel
theorem d_RU_firstRate_35 : decode b_RU_firstRate 35 = .ok (.iload_n 2, 1) := by decide +kernel
theorem d_RU_firstRate_36 : decode b_RU_firstRate 36 = .ok (.if_icmp .gt 15, 3) := by decide +kernel
theorem d_RU_firstRate_39 : decode b_RU_firstRate 39 = .ok (.iload_n 2, 1) := by decide +kernel
theorem d_RU_firstRate_40 : decode b_RU_firstRate 40 = .ok (.aload_n 0, 1) := by decide +kernel
theorem d_RU_firstRate_41 : decode b_RU_firstRate 41 = .ok (.iload_n 3, 1) := by decide +kernel
theorem d_RU_firstRate_42 : decode b_RU_firstRate 42 = .ok (.iconst 2, 1) := by decide +kernel
theorem d_RU_firstRate_43 : decode b_RU_firstRate 43 = .ok (.invokevirtual 26, 3) := by decide +kernel
theorem d_RU_firstRate_46 : decode b_RU_firstRate 46 = .ok (.if_icmp .ge 5, 3) := by decide +kernel
theorem d_RU_firstRate_49 : decode b_RU_firstRate 49 = .ok (.iload_n 3, 1) := by decide +kernel
theorem d_RU_firstRate_50 : decode b_RU_firstRate 50 = .ok (.ireturn, 1) := by decide +kernel
theorem d_RU_firstRate_51 : decode b_RU_firstRate 51 = .ok (.iinc 3 1, 3) := by decide +kernel
theorem d_RU_firstRate_54 : decode b_RU_firstRate 54 = .ok (.goto (-52), 3) := by decide +kernel
theorem d_RU_firstRate_57 : decode b_RU_firstRate 57 = .ok (.iconst (-1), 1) := by decide +kernel
theorem d_RU_firstRate_58 : decode b_RU_firstRate 58 = .ok (.ireturn, 1) := by decide +kernel
theorem d_RU_firstOfGoods_0 : decode b_RU_firstOfGoods 0 = .ok (.iconst 0, 1) := by decide +kernel
theorem d_RU_firstOfGoods_1 : decode b_RU_firstOfGoods 1 = .ok (.istore_n 3, 1) := by decide +kernel
theorem d_RU_firstOfGoods_2 : decode b_RU_firstOfGoods 2 = .ok (.iload_n 3, 1) := by decide +kernel
theorem d_RU_firstOfGoods_3 : decode b_RU_firstOfGoods 3 = .ok (.aload_n 0, 1) := by decide +kernel
theorem d_RU_firstOfGoods_4 : decode b_RU_firstOfGoods 4 = .ok (.getfield 9, 3) := by decide +kernel
theorem d_RU_firstOfGoods_7 : decode b_RU_firstOfGoods 7 = .ok (.if_icmp .ge 31, 3) := by decide +kernel
theorem d_RU_firstOfGoods_10 : decode b_RU_firstOfGoods 10 = .ok (.aload_n 0, 1) := by decide +kernel
theorem d_RU_firstOfGoods_11 : decode b_RU_firstOfGoods 11 = .ok (.getfield 15, 3) := by decide +kernel
theorem d_RU_firstOfGoods_14 : decode b_RU_firstOfGoods 14 = .ok (.iload_n 3, 1) := by decide +kernel
theorem d_RU_firstOfGoods_15 : decode b_RU_firstOfGoods 15 = .ok (.iaload, 1) := by decide +kernel
theorem d_RU_firstOfGoods_16 : decode b_RU_firstOfGoods 16 = .ok (.iload_n 1, 1) := by decide +kernel
theorem d_RU_firstOfGoods_17 : decode b_RU_firstOfGoods 17 = .ok (.if_icmp .ne 15, 3) := by decide +kernel
theorem d_RU_firstOfGoods_20 : decode b_RU_firstOfGoods 20 = .ok (.aload_n 0, 1) := by decide +kernel
theorem d_RU_firstOfGoods_21 : decode b_RU_firstOfGoods 21 = .ok (.iload_n 3, 1) := by decide +kernel
theorem d_RU_firstOfGoods_22 : decode b_RU_firstOfGoods 22 = .ok (.iconst 0, 1) := by decide +kernel
theorem d_RU_firstOfGoods_23 : decode b_RU_firstOfGoods 23 = .ok (.invokevirtual 26, 3) := by decide +kernel
theorem d_RU_firstOfGoods_26 : decode b_RU_firstOfGoods 26 = .ok (.iload_n 2, 1) := by decide +kernel
theorem d_RU_firstOfGoods_27 : decode b_RU_firstOfGoods 27 = .ok (.if_icmp .ne 5, 3) := by decide +kernel
theorem d_RU_firstOfGoods_30 : decode b_RU_firstOfGoods 30 = .ok (.iload_n 3, 1) := by decide +kernel
theorem d_RU_firstOfGoods_31 : decode b_RU_firstOfGoods 31 = .ok (.ireturn, 1) := by decide +kernel
theorem d_RU_firstOfGoods_32 : decode b_RU_firstOfGoods 32 = .ok (.iinc 3 1, 3) := by decide +kernel
theorem d_RU_firstOfGoods_35 : decode b_RU_firstOfGoods 35 = .ok (.goto (-33), 3) := by decide +kernel
theorem d_RU_firstOfGoods_38 : decode b_RU_firstOfGoods 38 = .ok (.iconst (-1), 1) := by decide +kernel
theorem d_RU_firstOfGoods_39 : decode b_RU_firstOfGoods 39 = .ok (.ireturn, 1) := by decide +kernel
theorem d_DU_doSteps_0 : decode b_DU_doSteps 0 = .ok (.aload_n 1, 1) := by decide +kernel
theorem d_DU_doSteps_1 : decode b_DU_doSteps 1 = .ok (.aload_n 0, 1) := by decide +kernel
theorem d_DU_doSteps_2 : decode b_DU_doSteps 2 = .ok (.getfield 28, 3) := by decide +kernel
theorem d_DU_doSteps_5 : decode b_DU_doSteps 5 = .ok (.iconst 0, 1) := by decide +kernel
theorem d_DU_doSteps_6 : decode b_DU_doSteps 6 = .ok (.iaload, 1) := by decide +kernel
theorem d_DU_doSteps_7 : decode b_DU_doSteps 7 = .ok (.aload_n 0, 1) := by decide +kernel
theorem d_DU_doSteps_8 : decode b_DU_doSteps 8 = .ok (.getfield 28, 3) := by decide +kernel
theorem d_DU_doSteps_11 : decode b_DU_doSteps 11 = .ok (.iconst 1, 1) := by decide +kernel
theorem d_DU_doSteps_12 : decode b_DU_doSteps 12 = .ok (.iaload, 1) := by decide +kernel
theorem d_DU_doSteps_13 : decode b_DU_doSteps 13 = .ok (.invokevirtual 62, 3) := by decide +kernel
theorem d_DU_doSteps_16 : decode b_DU_doSteps 16 = .ok (.istore_n 2, 1) := by decide +kernel
theorem d_DU_doSteps_17 : decode b_DU_doSteps 17 = .ok (.aload_n 1, 1) := by decide +kernel
theorem d_DU_doSteps_18 : decode b_DU_doSteps 18 = .ok (.iload_n 2, 1) := by decide +kernel
theorem d_DU_doSteps_19 : decode b_DU_doSteps 19 = .ok (.iconst 3, 1) := by decide +kernel
theorem d_DU_doSteps_20 : decode b_DU_doSteps 20 = .ok (.invokevirtual 71, 3) := by decide +kernel
theorem d_DU_doSteps_23 : decode b_DU_doSteps 23 = .ok (.i2l, 1) := by decide +kernel
theorem d_DU_doSteps_24 : decode b_DU_doSteps 24 = .ok (.lstore_n 3, 1) := by decide +kernel
theorem d_DU_doSteps_25 : decode b_DU_doSteps 25 = .ok (.aload_n 0, 1) := by decide +kernel
theorem d_DU_doSteps_26 : decode b_DU_doSteps 26 = .ok (.aload_n 0, 1) := by decide +kernel
theorem d_DU_doSteps_27 : decode b_DU_doSteps 27 = .ok (.getfield 28, 3) := by decide +kernel
theorem d_DU_doSteps_30 : decode b_DU_doSteps 30 = .ok (.iconst 2, 1) := by decide +kernel
theorem d_DU_doSteps_31 : decode b_DU_doSteps 31 = .ok (.iaload, 1) := by decide +kernel
theorem d_DU_doSteps_32 : decode b_DU_doSteps 32 = .ok (.i2l, 1) := by decide +kernel
theorem d_DU_doSteps_33 : decode b_DU_doSteps 33 = .ok (.ldc2_w 74, 3) := by decide +kernel
theorem d_DU_doSteps_36 : decode b_DU_doSteps 36 = .ok (.lmul, 1) := by decide +kernel
theorem d_DU_doSteps_37 : decode b_DU_doSteps 37 = .ok (.lload_n 3, 1) := by decide +kernel
theorem d_DU_doSteps_38 : decode b_DU_doSteps 38 = .ok (.lmul, 1) := by decide +kernel
theorem d_DU_doSteps_39 : decode b_DU_doSteps 39 = .ok (.ldc2_w 76, 3) := by decide +kernel
theorem d_DU_doSteps_42 : decode b_DU_doSteps 42 = .ok (.lmul, 1) := by decide +kernel
theorem d_DU_doSteps_43 : decode b_DU_doSteps 43 = .ok (.putfield 21, 3) := by decide +kernel
theorem d_DU_doSteps_46 : decode b_DU_doSteps 46 = .ok (.aload_n 0, 1) := by decide +kernel
theorem d_DU_doSteps_47 : decode b_DU_doSteps 47 = .ok (.iconst 0, 1) := by decide +kernel
theorem d_DU_doSteps_48 : decode b_DU_doSteps 48 = .ok (.iload_n 2, 1) := by decide +kernel
theorem d_DU_doSteps_49 : decode b_DU_doSteps 49 = .ok (.invokevirtual 78, 3) := by decide +kernel
theorem d_DU_doSteps_52 : decode b_DU_doSteps 52 = .ok (.aload_n 0, 1) := by decide +kernel
theorem d_DU_doSteps_53 : decode b_DU_doSteps 53 = .ok (.aload_n 1, 1) := by decide +kernel
theorem d_DU_doSteps_54 : decode b_DU_doSteps 54 = .ok (.lload_n 3, 1) := by decide +kernel
theorem d_DU_doSteps_55 : decode b_DU_doSteps 55 = .ok (.invokevirtual 82, 3) := by decide +kernel
theorem d_DU_doSteps_58 : decode b_DU_doSteps 58 = .ok (.aload_n 0, 1) := by decide +kernel
theorem d_DU_doSteps_59 : decode b_DU_doSteps 59 = .ok (.aload_n 1, 1) := by decide +kernel
theorem d_DU_doSteps_60 : decode b_DU_doSteps 60 = .ok (.lload_n 3, 1) := by decide +kernel
theorem d_DU_doSteps_61 : decode b_DU_doSteps 61 = .ok (.invokevirtual 86, 3) := by decide +kernel
theorem d_DU_doSteps_64 : decode b_DU_doSteps 64 = .ok (.aload_n 0, 1) := by decide +kernel
theorem d_DU_doSteps_65 : decode b_DU_doSteps 65 = .ok (.aload_n 1, 1) := by decide +kernel
theorem d_DU_doSteps_66 : decode b_DU_doSteps 66 = .ok (.invokevirtual 89, 3) := by decide +kernel
theorem d_DU_doSteps_69 : decode b_DU_doSteps 69 = .ok (.aload_n 0, 1) := by decide +kernel
theorem d_DU_doSteps_70 : decode b_DU_doSteps 70 = .ok (.aload_n 1, 1) := by decide +kernel
theorem d_DU_doSteps_71 : decode b_DU_doSteps 71 = .ok (.invokevirtual 92, 3) := by decide +kernel
theorem d_DU_doSteps_74 : decode b_DU_doSteps 74 = .ok (.return_, 1) := by decide +kernel
theorem d_DU_addStep_0 : decode b_DU_addStep 0 = .ok (.aload_n 0, 1) := by decide +kernel
theorem d_DU_addStep_1 : decode b_DU_addStep 1 = .ok (.getfield 18, 3) := by decide +kernel
theorem d_DU_addStep_4 : decode b_DU_addStep 4 = .ok (.iconst 5, 1) := by decide +kernel
theorem d_DU_addStep_5 : decode b_DU_addStep 5 = .ok (.if_icmp .lt 4, 3) := by decide +kernel
theorem d_DU_addStep_8 : decode b_DU_addStep 8 = .ok (.return_, 1) := by decide +kernel
theorem d_DU_addStep_9 : decode b_DU_addStep 9 = .ok (.aload_n 0, 1) := by decide +kernel
theorem d_DU_addStep_10 : decode b_DU_addStep 10 = .ok (.getfield 32, 3) := by decide +kernel
theorem d_DU_addStep_13 : decode b_DU_addStep 13 = .ok (.aload_n 0, 1) := by decide +kernel
theorem d_DU_addStep_14 : decode b_DU_addStep 14 = .ok (.getfield 18, 3) := by decide +kernel
theorem d_DU_addStep_17 : decode b_DU_addStep 17 = .ok (.iload_n 1, 1) := by decide +kernel
theorem d_DU_addStep_18 : decode b_DU_addStep 18 = .ok (.iastore, 1) := by decide +kernel
theorem d_DU_addStep_19 : decode b_DU_addStep 19 = .ok (.aload_n 0, 1) := by decide +kernel
theorem d_DU_addStep_20 : decode b_DU_addStep 20 = .ok (.getfield 35, 3) := by decide +kernel
theorem d_DU_addStep_23 : decode b_DU_addStep 23 = .ok (.aload_n 0, 1) := by decide +kernel
theorem d_DU_addStep_24 : decode b_DU_addStep 24 = .ok (.getfield 18, 3) := by decide +kernel
theorem d_DU_addStep_27 : decode b_DU_addStep 27 = .ok (.iload_n 2, 1) := by decide +kernel
theorem d_DU_addStep_28 : decode b_DU_addStep 28 = .ok (.iastore, 1) := by decide +kernel
theorem d_DU_addStep_29 : decode b_DU_addStep 29 = .ok (.aload_n 0, 1) := by decide +kernel
theorem d_DU_addStep_30 : decode b_DU_addStep 30 = .ok (.getfield 38, 3) := by decide +kernel
theorem d_DU_addStep_33 : decode b_DU_addStep 33 = .ok (.aload_n 0, 1) := by decide +kernel
theorem d_DU_addStep_34 : decode b_DU_addStep 34 = .ok (.getfield 18, 3) := by decide +kernel
theorem d_DU_addStep_37 : decode b_DU_addStep 37 = .ok (.aload_n 0, 1) := by decide +kernel
theorem d_DU_addStep_38 : decode b_DU_addStep 38 = .ok (.getfield 21, 3) := by decide +kernel
theorem d_DU_addStep_41 : decode b_DU_addStep 41 = .ok (.ldc2_w 105, 3) := by decide +kernel
theorem d_DU_addStep_44 : decode b_DU_addStep 44 = .ok (.ldiv, 1) := by decide +kernel
theorem d_DU_addStep_45 : decode b_DU_addStep 45 = .ok (.lastore, 1) := by decide +kernel
theorem d_DU_addStep_46 : decode b_DU_addStep 46 = .ok (.aload_n 0, 1) := by decide +kernel
theorem d_DU_addStep_47 : decode b_DU_addStep 47 = .ok (.dup, 1) := by decide +kernel
theorem d_DU_addStep_48 : decode b_DU_addStep 48 = .ok (.getfield 18, 3) := by decide +kernel
theorem d_DU_addStep_51 : decode b_DU_addStep 51 = .ok (.iconst 1, 1) := by decide +kernel
theorem d_DU_addStep_52 : decode b_DU_addStep 52 = .ok (.iadd, 1) := by decide +kernel
theorem d_DU_addStep_53 : decode b_DU_addStep 53 = .ok (.putfield 18, 3) := by decide +kernel
theorem d_DU_addStep_56 : decode b_DU_addStep 56 = .ok (.return_, 1) := by decide +kernel
theorem d_DU_freeLost_0 : decode b_DU_freeLost 0 = .ok (.aload_n 1, 1) := by decide +kernel
theorem d_DU_freeLost_1 : decode b_DU_freeLost 1 = .ok (.iconst 2, 1) := by decide +kernel
theorem d_DU_freeLost_2 : decode b_DU_freeLost 2 = .ok (.aload_n 0, 1) := by decide +kernel
theorem d_DU_freeLost_3 : decode b_DU_freeLost 3 = .ok (.getfield 28, 3) := by decide +kernel
theorem d_DU_freeLost_6 : decode b_DU_freeLost 6 = .ok (.iconst 0, 1) := by decide +kernel
theorem d_DU_freeLost_7 : decode b_DU_freeLost 7 = .ok (.iaload, 1) := by decide +kernel
theorem d_DU_freeLost_8 : decode b_DU_freeLost 8 = .ok (.invokevirtual 68, 3) := by decide +kernel
theorem d_DU_freeLost_11 : decode b_DU_freeLost 11 = .ok (.istore 4, 2) := by decide +kernel
theorem d_DU_freeLost_13 : decode b_DU_freeLost 13 = .ok (.iload 4, 2) := by decide +kernel
theorem d_DU_freeLost_15 : decode b_DU_freeLost 15 = .ok (.iconst (-1), 1) := by decide +kernel
theorem d_DU_freeLost_16 : decode b_DU_freeLost 16 = .ok (.if_icmp .eq 13, 3) := by decide +kernel
theorem d_DU_freeLost_19 : decode b_DU_freeLost 19 = .ok (.aload_n 0, 1) := by decide +kernel
theorem d_DU_freeLost_20 : decode b_DU_freeLost 20 = .ok (.getfield 28, 3) := by decide +kernel
theorem d_DU_freeLost_23 : decode b_DU_freeLost 23 = .ok (.iconst 4, 1) := by decide +kernel
theorem d_DU_freeLost_24 : decode b_DU_freeLost 24 = .ok (.iaload, 1) := by decide +kernel
theorem d_DU_freeLost_25 : decode b_DU_freeLost 25 = .ok (.iconst (-1), 1) := by decide +kernel
theorem d_DU_freeLost_26 : decode b_DU_freeLost 26 = .ok (.if_icmp .ne 4, 3) := by decide +kernel
theorem d_DU_freeLost_29 : decode b_DU_freeLost 29 = .ok (.return_, 1) := by decide +kernel
theorem d_DU_freeLost_30 : decode b_DU_freeLost 30 = .ok (.aload_n 0, 1) := by decide +kernel
theorem d_DU_freeLost_31 : decode b_DU_freeLost 31 = .ok (.getfield 28, 3) := by decide +kernel
theorem d_DU_freeLost_34 : decode b_DU_freeLost 34 = .ok (.iconst 2, 1) := by decide +kernel
theorem d_DU_freeLost_35 : decode b_DU_freeLost 35 = .ok (.iaload, 1) := by decide +kernel
theorem d_DU_freeLost_36 : decode b_DU_freeLost 36 = .ok (.i2l, 1) := by decide +kernel
theorem d_DU_freeLost_37 : decode b_DU_freeLost 37 = .ok (.aload_n 1, 1) := by decide +kernel
theorem d_DU_freeLost_38 : decode b_DU_freeLost 38 = .ok (.iload 4, 2) := by decide +kernel
theorem d_DU_freeLost_40 : decode b_DU_freeLost 40 = .ok (.iconst 1, 1) := by decide +kernel
theorem d_DU_freeLost_41 : decode b_DU_freeLost 41 = .ok (.invokevirtual 71, 3) := by decide +kernel
theorem d_DU_freeLost_44 : decode b_DU_freeLost 44 = .ok (.i2l, 1) := by decide +kernel
theorem d_DU_freeLost_45 : decode b_DU_freeLost 45 = .ok (.lmul, 1) := by decide +kernel
theorem d_DU_freeLost_46 : decode b_DU_freeLost 46 = .ok (.lstore 5, 2) := by decide +kernel
theorem d_DU_freeLost_48 : decode b_DU_freeLost 48 = .ok (.aload_n 0, 1) := by decide +kernel
theorem d_DU_freeLost_49 : decode b_DU_freeLost 49 = .ok (.aload_n 0, 1) := by decide +kernel
theorem d_DU_freeLost_50 : decode b_DU_freeLost 50 = .ok (.getfield 28, 3) := by decide +kernel
theorem d_DU_freeLost_53 : decode b_DU_freeLost 53 = .ok (.iconst 4, 1) := by decide +kernel
theorem d_DU_freeLost_54 : decode b_DU_freeLost 54 = .ok (.iaload, 1) := by decide +kernel
theorem d_DU_freeLost_55 : decode b_DU_freeLost 55 = .ok (.i2l, 1) := by decide +kernel
theorem d_DU_freeLost_56 : decode b_DU_freeLost 56 = .ok (.ldc2_w 74, 3) := by decide +kernel
theorem d_DU_freeLost_59 : decode b_DU_freeLost 59 = .ok (.lmul, 1) := by decide +kernel
theorem d_DU_freeLost_60 : decode b_DU_freeLost 60 = .ok (.lload 5, 2) := by decide +kernel
theorem d_DU_freeLost_62 : decode b_DU_freeLost 62 = .ok (.invokestatic 95, 3) := by decide +kernel
theorem d_DU_freeLost_65 : decode b_DU_freeLost 65 = .ok (.putfield 25, 3) := by decide +kernel
theorem d_DU_freeLost_68 : decode b_DU_freeLost 68 = .ok (.aload_n 0, 1) := by decide +kernel
theorem d_DU_freeLost_69 : decode b_DU_freeLost 69 = .ok (.dup, 1) := by decide +kernel
theorem d_DU_freeLost_70 : decode b_DU_freeLost 70 = .ok (.getfield 21, 3) := by decide +kernel
theorem d_DU_freeLost_73 : decode b_DU_freeLost 73 = .ok (.aload_n 0, 1) := by decide +kernel
theorem d_DU_freeLost_74 : decode b_DU_freeLost 74 = .ok (.getfield 25, 3) := by decide +kernel
theorem d_DU_freeLost_77 : decode b_DU_freeLost 77 = .ok (.lload_n 2, 1) := by decide +kernel
theorem d_DU_freeLost_78 : decode b_DU_freeLost 78 = .ok (.lmul, 1) := by decide +kernel
theorem d_DU_freeLost_79 : decode b_DU_freeLost 79 = .ok (.ldc2_w 76, 3) := by decide +kernel
theorem d_DU_freeLost_82 : decode b_DU_freeLost 82 = .ok (.lmul, 1) := by decide +kernel
theorem d_DU_freeLost_83 : decode b_DU_freeLost 83 = .ok (.lsub, 1) := by decide +kernel
theorem d_DU_freeLost_84 : decode b_DU_freeLost 84 = .ok (.putfield 21, 3) := by decide +kernel
theorem d_DU_freeLost_87 : decode b_DU_freeLost 87 = .ok (.aload_n 0, 1) := by decide +kernel
theorem d_DU_freeLost_88 : decode b_DU_freeLost 88 = .ok (.iconst 1, 1) := by decide +kernel
theorem d_DU_freeLost_89 : decode b_DU_freeLost 89 = .ok (.iload 4, 2) := by decide +kernel
theorem d_DU_freeLost_91 : decode b_DU_freeLost 91 = .ok (.invokevirtual 78, 3) := by decide +kernel
theorem d_DU_freeLost_94 : decode b_DU_freeLost 94 = .ok (.return_, 1) := by decide +kernel
theorem d_DU_lessenByAway_0 : decode b_DU_lessenByAway 0 = .ok (.aload_n 1, 1) := by decide +kernel
theorem d_DU_lessenByAway_1 : decode b_DU_lessenByAway 1 = .ok (.iconst 3, 1) := by decide +kernel
theorem d_DU_lessenByAway_2 : decode b_DU_lessenByAway 2 = .ok (.aload_n 0, 1) := by decide +kernel
theorem d_DU_lessenByAway_3 : decode b_DU_lessenByAway 3 = .ok (.getfield 28, 3) := by decide +kernel
theorem d_DU_lessenByAway_6 : decode b_DU_lessenByAway 6 = .ok (.iconst 0, 1) := by decide +kernel
theorem d_DU_lessenByAway_7 : decode b_DU_lessenByAway 7 = .ok (.iaload, 1) := by decide +kernel
theorem d_DU_lessenByAway_8 : decode b_DU_lessenByAway 8 = .ok (.invokevirtual 68, 3) := by decide +kernel
theorem d_DU_lessenByAway_11 : decode b_DU_lessenByAway 11 = .ok (.istore 4, 2) := by decide +kernel
theorem d_DU_lessenByAway_13 : decode b_DU_lessenByAway 13 = .ok (.iload 4, 2) := by decide +kernel
theorem d_DU_lessenByAway_15 : decode b_DU_lessenByAway 15 = .ok (.iconst (-1), 1) := by decide +kernel
theorem d_DU_lessenByAway_16 : decode b_DU_lessenByAway 16 = .ok (.if_icmp .eq 13, 3) := by decide +kernel
theorem d_DU_lessenByAway_19 : decode b_DU_lessenByAway 19 = .ok (.aload_n 0, 1) := by decide +kernel
theorem d_DU_lessenByAway_20 : decode b_DU_lessenByAway 20 = .ok (.getfield 28, 3) := by decide +kernel
theorem d_DU_lessenByAway_23 : decode b_DU_lessenByAway 23 = .ok (.iconst 5, 1) := by decide +kernel
theorem d_DU_lessenByAway_24 : decode b_DU_lessenByAway 24 = .ok (.iaload, 1) := by decide +kernel
theorem d_DU_lessenByAway_25 : decode b_DU_lessenByAway 25 = .ok (.iconst (-1), 1) := by decide +kernel
theorem d_DU_lessenByAway_26 : decode b_DU_lessenByAway 26 = .ok (.if_icmp .ne 4, 3) := by decide +kernel
theorem d_DU_lessenByAway_29 : decode b_DU_lessenByAway 29 = .ok (.return_, 1) := by decide +kernel
theorem d_DU_lessenByAway_30 : decode b_DU_lessenByAway 30 = .ok (.aload_n 0, 1) := by decide +kernel
theorem d_DU_lessenByAway_31 : decode b_DU_lessenByAway 31 = .ok (.getfield 28, 3) := by decide +kernel
theorem d_DU_lessenByAway_34 : decode b_DU_lessenByAway 34 = .ok (.iconst 5, 1) := by decide +kernel
theorem d_DU_lessenByAway_35 : decode b_DU_lessenByAway 35 = .ok (.iaload, 1) := by decide +kernel
theorem d_DU_lessenByAway_36 : decode b_DU_lessenByAway 36 = .ok (.i2l, 1) := by decide +kernel
theorem d_DU_lessenByAway_37 : decode b_DU_lessenByAway 37 = .ok (.ldc2_w 74, 3) := by decide +kernel
theorem d_DU_lessenByAway_40 : decode b_DU_lessenByAway 40 = .ok (.lmul, 1) := by decide +kernel
theorem d_DU_lessenByAway_41 : decode b_DU_lessenByAway 41 = .ok (.aload_n 0, 1) := by decide +kernel
theorem d_DU_lessenByAway_42 : decode b_DU_lessenByAway 42 = .ok (.getfield 28, 3) := by decide +kernel
theorem d_DU_lessenByAway_45 : decode b_DU_lessenByAway 45 = .ok (.iconst 2, 1) := by decide +kernel
theorem d_DU_lessenByAway_46 : decode b_DU_lessenByAway 46 = .ok (.iaload, 1) := by decide +kernel
theorem d_DU_lessenByAway_47 : decode b_DU_lessenByAway 47 = .ok (.i2l, 1) := by decide +kernel
theorem d_DU_lessenByAway_48 : decode b_DU_lessenByAway 48 = .ok (.ldc2_w 74, 3) := by decide +kernel
theorem d_DU_lessenByAway_51 : decode b_DU_lessenByAway 51 = .ok (.lmul, 1) := by decide +kernel
theorem d_DU_lessenByAway_52 : decode b_DU_lessenByAway 52 = .ok (.aload_n 0, 1) := by decide +kernel
theorem d_DU_lessenByAway_53 : decode b_DU_lessenByAway 53 = .ok (.getfield 25, 3) := by decide +kernel
theorem d_DU_lessenByAway_56 : decode b_DU_lessenByAway 56 = .ok (.lsub, 1) := by decide +kernel
theorem d_DU_lessenByAway_57 : decode b_DU_lessenByAway 57 = .ok (.invokestatic 95, 3) := by decide +kernel
theorem d_DU_lessenByAway_60 : decode b_DU_lessenByAway 60 = .ok (.lstore 5, 2) := by decide +kernel
theorem d_DU_lessenByAway_62 : decode b_DU_lessenByAway 62 = .ok (.aload_n 0, 1) := by decide +kernel
theorem d_DU_lessenByAway_63 : decode b_DU_lessenByAway 63 = .ok (.dup, 1) := by decide +kernel
theorem d_DU_lessenByAway_64 : decode b_DU_lessenByAway 64 = .ok (.getfield 21, 3) := by decide +kernel
theorem d_DU_lessenByAway_67 : decode b_DU_lessenByAway 67 = .ok (.lload 5, 2) := by decide +kernel
theorem d_DU_lessenByAway_69 : decode b_DU_lessenByAway 69 = .ok (.lload_n 2, 1) := by decide +kernel
theorem d_DU_lessenByAway_70 : decode b_DU_lessenByAway 70 = .ok (.lmul, 1) := by decide +kernel
theorem d_DU_lessenByAway_71 : decode b_DU_lessenByAway 71 = .ok (.aload_n 1, 1) := by decide +kernel
theorem d_DU_lessenByAway_72 : decode b_DU_lessenByAway 72 = .ok (.iload 4, 2) := by decide +kernel
theorem d_DU_lessenByAway_74 : decode b_DU_lessenByAway 74 = .ok (.iconst 1, 1) := by decide +kernel
theorem d_DU_lessenByAway_75 : decode b_DU_lessenByAway 75 = .ok (.invokevirtual 71, 3) := by decide +kernel
theorem d_DU_lessenByAway_78 : decode b_DU_lessenByAway 78 = .ok (.i2l, 1) := by decide +kernel
theorem d_DU_lessenByAway_79 : decode b_DU_lessenByAway 79 = .ok (.lmul, 1) := by decide +kernel
theorem d_DU_lessenByAway_80 : decode b_DU_lessenByAway 80 = .ok (.ldc2_w 74, 3) := by decide +kernel
theorem d_DU_lessenByAway_83 : decode b_DU_lessenByAway 83 = .ok (.lmul, 1) := by decide +kernel
theorem d_DU_lessenByAway_84 : decode b_DU_lessenByAway 84 = .ok (.lsub, 1) := by decide +kernel
theorem d_DU_lessenByAway_85 : decode b_DU_lessenByAway 85 = .ok (.putfield 21, 3) := by decide +kernel
theorem d_DU_lessenByAway_88 : decode b_DU_lessenByAway 88 = .ok (.aload_n 0, 1) := by decide +kernel
theorem d_DU_lessenByAway_89 : decode b_DU_lessenByAway 89 = .ok (.iconst 2, 1) := by decide +kernel
theorem d_DU_lessenByAway_90 : decode b_DU_lessenByAway 90 = .ok (.iload 4, 2) := by decide +kernel
theorem d_DU_lessenByAway_92 : decode b_DU_lessenByAway 92 = .ok (.invokevirtual 78, 3) := by decide +kernel
theorem d_DU_lessenByAway_95 : decode b_DU_lessenByAway 95 = .ok (.return_, 1) := by decide +kernel
theorem d_DU_lessenForSmall_0 : decode b_DU_lessenForSmall 0 = .ok (.aload_n 1, 1) := by decide +kernel
theorem d_DU_lessenForSmall_1 : decode b_DU_lessenForSmall 1 = .ok (.iconst 1, 1) := by decide +kernel
theorem d_DU_lessenForSmall_2 : decode b_DU_lessenForSmall 2 = .ok (.aload_n 0, 1) := by decide +kernel
theorem d_DU_lessenForSmall_3 : decode b_DU_lessenForSmall 3 = .ok (.getfield 28, 3) := by decide +kernel
theorem d_DU_lessenForSmall_6 : decode b_DU_lessenForSmall 6 = .ok (.iconst 0, 1) := by decide +kernel
theorem d_DU_lessenForSmall_7 : decode b_DU_lessenForSmall 7 = .ok (.iaload, 1) := by decide +kernel
theorem d_DU_lessenForSmall_8 : decode b_DU_lessenForSmall 8 = .ok (.invokevirtual 68, 3) := by decide +kernel
theorem d_DU_lessenForSmall_11 : decode b_DU_lessenForSmall 11 = .ok (.istore_n 2, 1) := by decide +kernel
theorem d_DU_lessenForSmall_12 : decode b_DU_lessenForSmall 12 = .ok (.iload_n 2, 1) := by decide +kernel
theorem d_DU_lessenForSmall_13 : decode b_DU_lessenForSmall 13 = .ok (.iconst (-1), 1) := by decide +kernel
theorem d_DU_lessenForSmall_14 : decode b_DU_lessenForSmall 14 = .ok (.if_icmp .eq 18, 3) := by decide +kernel
theorem d_DU_lessenForSmall_17 : decode b_DU_lessenForSmall 17 = .ok (.aload_n 0, 1) := by decide +kernel
theorem d_DU_lessenForSmall_18 : decode b_DU_lessenForSmall 18 = .ok (.getfield 28, 3) := by decide +kernel
theorem d_DU_lessenForSmall_21 : decode b_DU_lessenForSmall 21 = .ok (.iconst 3, 1) := by decide +kernel
theorem d_DU_lessenForSmall_22 : decode b_DU_lessenForSmall 22 = .ok (.iaload, 1) := by decide +kernel
theorem d_DU_lessenForSmall_23 : decode b_DU_lessenForSmall 23 = .ok (.aload_n 1, 1) := by decide +kernel
theorem d_DU_lessenForSmall_24 : decode b_DU_lessenForSmall 24 = .ok (.iload_n 2, 1) := by decide +kernel
theorem d_DU_lessenForSmall_25 : decode b_DU_lessenForSmall 25 = .ok (.iconst 1, 1) := by decide +kernel
theorem d_DU_lessenForSmall_26 : decode b_DU_lessenForSmall 26 = .ok (.invokevirtual 71, 3) := by decide +kernel
theorem d_DU_lessenForSmall_29 : decode b_DU_lessenForSmall 29 = .ok (.if_icmp .lt 4, 3) := by decide +kernel
theorem d_DU_lessenForSmall_32 : decode b_DU_lessenForSmall 32 = .ok (.return_, 1) := by decide +kernel
theorem d_DU_lessenForSmall_33 : decode b_DU_lessenForSmall 33 = .ok (.aload_n 0, 1) := by decide +kernel
theorem d_DU_lessenForSmall_34 : decode b_DU_lessenForSmall 34 = .ok (.aload_n 0, 1) := by decide +kernel
theorem d_DU_lessenForSmall_35 : decode b_DU_lessenForSmall 35 = .ok (.getfield 21, 3) := by decide +kernel
theorem d_DU_lessenForSmall_38 : decode b_DU_lessenForSmall 38 = .ok (.ldc2_w 74, 3) := by decide +kernel
theorem d_DU_lessenForSmall_41 : decode b_DU_lessenForSmall 41 = .ok (.ldiv, 1) := by decide +kernel
theorem d_DU_lessenForSmall_42 : decode b_DU_lessenForSmall 42 = .ok (.aload_n 1, 1) := by decide +kernel
theorem d_DU_lessenForSmall_43 : decode b_DU_lessenForSmall 43 = .ok (.iload_n 2, 1) := by decide +kernel
theorem d_DU_lessenForSmall_44 : decode b_DU_lessenForSmall 44 = .ok (.iconst 2, 1) := by decide +kernel
theorem d_DU_lessenForSmall_45 : decode b_DU_lessenForSmall 45 = .ok (.invokevirtual 71, 3) := by decide +kernel
theorem d_DU_lessenForSmall_48 : decode b_DU_lessenForSmall 48 = .ok (.i2l, 1) := by decide +kernel
theorem d_DU_lessenForSmall_49 : decode b_DU_lessenForSmall 49 = .ok (.lmul, 1) := by decide +kernel
theorem d_DU_lessenForSmall_50 : decode b_DU_lessenForSmall 50 = .ok (.putfield 21, 3) := by decide +kernel
theorem d_DU_lessenForSmall_53 : decode b_DU_lessenForSmall 53 = .ok (.aload_n 0, 1) := by decide +kernel
theorem d_DU_lessenForSmall_54 : decode b_DU_lessenForSmall 54 = .ok (.iconst 3, 1) := by decide +kernel
theorem d_DU_lessenForSmall_55 : decode b_DU_lessenForSmall 55 = .ok (.iload_n 2, 1) := by decide +kernel
theorem d_DU_lessenForSmall_56 : decode b_DU_lessenForSmall 56 = .ok (.invokevirtual 78, 3) := by decide +kernel
theorem d_DU_lessenForSmall_59 : decode b_DU_lessenForSmall 59 = .ok (.return_, 1) := by decide +kernel
theorem d_DU_roundToMultiple_0 : decode b_DU_roundToMultiple 0 = .ok (.aload_n 1, 1) := by decide +kernel
theorem d_DU_roundToMultiple_1 : decode b_DU_roundToMultiple 1 = .ok (.iconst 4, 1) := by decide +kernel
theorem d_DU_roundToMultiple_2 : decode b_DU_roundToMultiple 2 = .ok (.invokevirtual 101, 3) := by decide +kernel
theorem d_DU_roundToMultiple_5 : decode b_DU_roundToMultiple 5 = .ok (.istore_n 2, 1) := by decide +kernel
theorem d_DU_roundToMultiple_6 : decode b_DU_roundToMultiple 6 = .ok (.iload_n 2, 1) := by decide +kernel
theorem d_DU_roundToMultiple_7 : decode b_DU_roundToMultiple 7 = .ok (.iconst (-1), 1) := by decide +kernel
theorem d_DU_roundToMultiple_8 : decode b_DU_roundToMultiple 8 = .ok (.if_icmp .ne 4, 3) := by decide +kernel
theorem d_DU_roundToMultiple_11 : decode b_DU_roundToMultiple 11 = .ok (.return_, 1) := by decide +kernel
theorem d_DU_roundToMultiple_12 : decode b_DU_roundToMultiple 12 = .ok (.aload_n 1, 1) := by decide +kernel
theorem d_DU_roundToMultiple_13 : decode b_DU_roundToMultiple 13 = .ok (.iload_n 2, 1) := by decide +kernel
theorem d_DU_roundToMultiple_14 : decode b_DU_roundToMultiple 14 = .ok (.iconst 0, 1) := by decide +kernel
theorem d_DU_roundToMultiple_15 : decode b_DU_roundToMultiple 15 = .ok (.invokevirtual 71, 3) := by decide +kernel
theorem d_DU_roundToMultiple_18 : decode b_DU_roundToMultiple 18 = .ok (.i2l, 1) := by decide +kernel
theorem d_DU_roundToMultiple_19 : decode b_DU_roundToMultiple 19 = .ok (.ldc2_w 105, 3) := by decide +kernel
theorem d_DU_roundToMultiple_22 : decode b_DU_roundToMultiple 22 = .ok (.lmul, 1) := by decide +kernel
theorem d_DU_roundToMultiple_23 : decode b_DU_roundToMultiple 23 = .ok (.lstore_n 3, 1) := by decide +kernel
theorem d_DU_roundToMultiple_24 : decode b_DU_roundToMultiple 24 = .ok (.lload_n 3, 1) := by decide +kernel
theorem d_DU_roundToMultiple_25 : decode b_DU_roundToMultiple 25 = .ok (.lconst 1, 1) := by decide +kernel
theorem d_DU_roundToMultiple_26 : decode b_DU_roundToMultiple 26 = .ok (.lcmp, 1) := by decide +kernel
theorem d_DU_roundToMultiple_27 : decode b_DU_roundToMultiple 27 = .ok (.ifCond .ge 4, 3) := by decide +kernel
theorem d_DU_roundToMultiple_30 : decode b_DU_roundToMultiple 30 = .ok (.return_, 1) := by decide +kernel
theorem d_DU_roundToMultiple_31 : decode b_DU_roundToMultiple 31 = .ok (.aload_n 0, 1) := by decide +kernel
theorem d_DU_roundToMultiple_32 : decode b_DU_roundToMultiple 32 = .ok (.ldc2_w 107, 3) := by decide +kernel
theorem d_DU_roundToMultiple_35 : decode b_DU_roundToMultiple 35 = .ok (.aload_n 0, 1) := by decide +kernel
theorem d_DU_roundToMultiple_36 : decode b_DU_roundToMultiple 36 = .ok (.getfield 21, 3) := by decide +kernel
theorem d_DU_roundToMultiple_39 : decode b_DU_roundToMultiple 39 = .ok (.lmul, 1) := by decide +kernel
theorem d_DU_roundToMultiple_40 : decode b_DU_roundToMultiple 40 = .ok (.lload_n 3, 1) := by decide +kernel
theorem d_DU_roundToMultiple_41 : decode b_DU_roundToMultiple 41 = .ok (.ladd, 1) := by decide +kernel
theorem d_DU_roundToMultiple_42 : decode b_DU_roundToMultiple 42 = .ok (.ldc2_w 107, 3) := by decide +kernel
theorem d_DU_roundToMultiple_45 : decode b_DU_roundToMultiple 45 = .ok (.lload_n 3, 1) := by decide +kernel
theorem d_DU_roundToMultiple_46 : decode b_DU_roundToMultiple 46 = .ok (.lmul, 1) := by decide +kernel
theorem d_DU_roundToMultiple_47 : decode b_DU_roundToMultiple 47 = .ok (.ldiv, 1) := by decide +kernel
theorem d_DU_roundToMultiple_48 : decode b_DU_roundToMultiple 48 = .ok (.lload_n 3, 1) := by decide +kernel
theorem d_DU_roundToMultiple_49 : decode b_DU_roundToMultiple 49 = .ok (.lmul, 1) := by decide +kernel
theorem d_DU_roundToMultiple_50 : decode b_DU_roundToMultiple 50 = .ok (.putfield 21, 3) := by decide +kernel
theorem d_DU_roundToMultiple_53 : decode b_DU_roundToMultiple 53 = .ok (.aload_n 0, 1) := by decide +kernel
theorem d_DU_roundToMultiple_54 : decode b_DU_roundToMultiple 54 = .ok (.iconst 4, 1) := by decide +kernel
theorem d_DU_roundToMultiple_55 : decode b_DU_roundToMultiple 55 = .ok (.iload_n 2, 1) := by decide +kernel
theorem d_DU_roundToMultiple_56 : decode b_DU_roundToMultiple 56 = .ok (.invokevirtual 78, 3) := by decide +kernel
theorem d_DU_roundToMultiple_59 : decode b_DU_roundToMultiple 59 = .ok (.return_, 1) := by decide +kernel
theorem d_DR_reduced_0 : decode b_DR_reduced 0 = .ok (.lload_n 0, 1) := by decide +kernel
theorem d_DR_reduced_1 : decode b_DR_reduced 1 = .ok (.lload_n 2, 1) := by decide +kernel
theorem d_DR_reduced_2 : decode b_DR_reduced 2 = .ok (.invokestatic 249, 3) := by decide +kernel
theorem d_DR_reduced_5 : decode b_DR_reduced 5 = .ok (.lstore 5, 2) := by decide +kernel
theorem d_DR_reduced_7 : decode b_DR_reduced 7 = .ok (.lload 5, 2) := by decide +kernel
theorem d_DR_reduced_9 : decode b_DR_reduced 9 = .ok (.lconst 1, 1) := by decide +kernel
theorem d_DR_reduced_10 : decode b_DR_reduced 10 = .ok (.lcmp, 1) := by decide +kernel
theorem d_DR_reduced_11 : decode b_DR_reduced 11 = .ok (.ifCond .ge 7, 3) := by decide +kernel
theorem d_DR_reduced_14 : decode b_DR_reduced 14 = .ok (.ldc2_w 133, 3) := by decide +kernel
theorem d_DR_reduced_17 : decode b_DR_reduced 17 = .ok (.lreturn, 1) := by decide +kernel
theorem d_DR_reduced_18 : decode b_DR_reduced 18 = .ok (.iload 4, 2) := by decide +kernel
theorem d_DR_reduced_20 : decode b_DR_reduced 20 = .ok (.ifCond .ne 7, 3) := by decide +kernel
theorem d_DR_reduced_23 : decode b_DR_reduced 23 = .ok (.lload_n 0, 1) := by decide +kernel
theorem d_DR_reduced_24 : decode b_DR_reduced 24 = .ok (.goto 4, 3) := by decide +kernel
theorem d_DR_reduced_27 : decode b_DR_reduced 27 = .ok (.lload_n 2, 1) := by decide +kernel
theorem d_DR_reduced_28 : decode b_DR_reduced 28 = .ok (.lload 5, 2) := by decide +kernel
theorem d_DR_reduced_30 : decode b_DR_reduced 30 = .ok (.ldiv, 1) := by decide +kernel
theorem d_DR_reduced_31 : decode b_DR_reduced 31 = .ok (.lreturn, 1) := by decide +kernel
theorem d_DR_commonDivisor_0 : decode b_DR_commonDivisor 0 = .ok (.lload_n 0, 1) := by decide +kernel
theorem d_DR_commonDivisor_1 : decode b_DR_commonDivisor 1 = .ok (.lstore 4, 2) := by decide +kernel
theorem d_DR_commonDivisor_3 : decode b_DR_commonDivisor 3 = .ok (.lload_n 2, 1) := by decide +kernel
theorem d_DR_commonDivisor_4 : decode b_DR_commonDivisor 4 = .ok (.lstore 6, 2) := by decide +kernel
theorem d_DR_commonDivisor_6 : decode b_DR_commonDivisor 6 = .ok (.iconst 0, 1) := by decide +kernel
theorem d_DR_commonDivisor_7 : decode b_DR_commonDivisor 7 = .ok (.istore 8, 2) := by decide +kernel
theorem d_DR_commonDivisor_9 : decode b_DR_commonDivisor 9 = .ok (.iload 8, 2) := by decide +kernel
theorem d_DR_commonDivisor_11 : decode b_DR_commonDivisor 11 = .ok (.bipush 100, 2) := by decide +kernel
theorem d_DR_commonDivisor_13 : decode b_DR_commonDivisor 13 = .ok (.if_icmp .ge 31, 3) := by decide +kernel
theorem d_DR_commonDivisor_16 : decode b_DR_commonDivisor 16 = .ok (.lload 6, 2) := by decide +kernel
theorem d_DR_commonDivisor_18 : decode b_DR_commonDivisor 18 = .ok (.lconst 0, 1) := by decide +kernel
theorem d_DR_commonDivisor_19 : decode b_DR_commonDivisor 19 = .ok (.lcmp, 1) := by decide +kernel
theorem d_DR_commonDivisor_20 : decode b_DR_commonDivisor 20 = .ok (.ifCond .eq 24, 3) := by decide +kernel
theorem d_DR_commonDivisor_23 : decode b_DR_commonDivisor 23 = .ok (.lload 4, 2) := by decide +kernel
theorem d_DR_commonDivisor_25 : decode b_DR_commonDivisor 25 = .ok (.lload 6, 2) := by decide +kernel
theorem d_DR_commonDivisor_27 : decode b_DR_commonDivisor 27 = .ok (.lrem, 1) := by decide +kernel
theorem d_DR_commonDivisor_28 : decode b_DR_commonDivisor 28 = .ok (.lstore 9, 2) := by decide +kernel
theorem d_DR_commonDivisor_30 : decode b_DR_commonDivisor 30 = .ok (.lload 6, 2) := by decide +kernel
theorem d_DR_commonDivisor_32 : decode b_DR_commonDivisor 32 = .ok (.lstore 4, 2) := by decide +kernel
theorem d_DR_commonDivisor_34 : decode b_DR_commonDivisor 34 = .ok (.lload 9, 2) := by decide +kernel
theorem d_DR_commonDivisor_36 : decode b_DR_commonDivisor 36 = .ok (.lstore 6, 2) := by decide +kernel
theorem d_DR_commonDivisor_38 : decode b_DR_commonDivisor 38 = .ok (.iinc 8 1, 3) := by decide +kernel
theorem d_DR_commonDivisor_41 : decode b_DR_commonDivisor 41 = .ok (.goto (-32), 3) := by decide +kernel
theorem d_DR_commonDivisor_44 : decode b_DR_commonDivisor 44 = .ok (.lload 4, 2) := by decide +kernel
theorem d_DR_commonDivisor_46 : decode b_DR_commonDivisor 46 = .ok (.lreturn, 1) := by decide +kernel
theorem d_DR_open_0 : decode b_DR_open 0 = .ok (.aload_n 0, 1) := by decide +kernel
theorem d_DR_open_1 : decode b_DR_open 1 = .ok (.getfield 53, 3) := by decide +kernel
theorem d_DR_open_4 : decode b_DR_open 4 = .ok (.ifCond .ne 5, 3) := by decide +kernel
theorem d_DR_open_7 : decode b_DR_open 7 = .ok (.iconst (-1), 1) := by decide +kernel
theorem d_DR_open_8 : decode b_DR_open 8 = .ok (.ireturn, 1) := by decide +kernel
theorem d_DR_open_9 : decode b_DR_open 9 = .ok (.iload_n 1, 1) := by decide +kernel
theorem d_DR_open_10 : decode b_DR_open 10 = .ok (.tableswitch 50 0 2 #[26, 34, 42], 26) := by decide +kernel
theorem d_DR_open_36 : decode b_DR_open 36 = .ok (.aload_n 0, 1) := by decide +kernel
theorem d_DR_open_37 : decode b_DR_open 37 = .ok (.getfield 33, 3) := by decide +kernel
theorem d_DR_open_40 : decode b_DR_open 40 = .ok (.getfield 152, 3) := by decide +kernel
theorem d_DR_open_43 : decode b_DR_open 43 = .ok (.ireturn, 1) := by decide +kernel
theorem d_DR_open_44 : decode b_DR_open 44 = .ok (.aload_n 0, 1) := by decide +kernel
theorem d_DR_open_45 : decode b_DR_open 45 = .ok (.getfield 33, 3) := by decide +kernel
theorem d_DR_open_48 : decode b_DR_open 48 = .ok (.getfield 139, 3) := by decide +kernel
theorem d_DR_open_51 : decode b_DR_open 51 = .ok (.ireturn, 1) := by decide +kernel
theorem d_DR_open_52 : decode b_DR_open 52 = .ok (.aload_n 0, 1) := by decide +kernel
theorem d_DR_open_53 : decode b_DR_open 53 = .ok (.getfield 33, 3) := by decide +kernel
theorem d_DR_open_56 : decode b_DR_open 56 = .ok (.getfield 155, 3) := by decide +kernel
theorem d_DR_open_59 : decode b_DR_open 59 = .ok (.ireturn, 1) := by decide +kernel
theorem d_DR_open_60 : decode b_DR_open 60 = .ok (.iconst (-1), 1) := by decide +kernel
theorem d_DR_open_61 : decode b_DR_open 61 = .ok (.ireturn, 1) := by decide +kernel
theorem d_DR_step_0 : decode b_DR_step 0 = .ok (.aload_n 0, 1) := by decide +kernel
theorem d_DR_step_1 : decode b_DR_step 1 = .ok (.getfield 53, 3) := by decide +kernel
theorem d_DR_step_4 : decode b_DR_step 4 = .ok (.ifCond .eq 29, 3) := by decide +kernel
theorem d_DR_step_7 : decode b_DR_step 7 = .ok (.aload_n 0, 1) := by decide +kernel
theorem d_DR_step_8 : decode b_DR_step 8 = .ok (.getfield 33, 3) := by decide +kernel
theorem d_DR_step_11 : decode b_DR_step 11 = .ok (.getfield 152, 3) := by decide +kernel
theorem d_DR_step_14 : decode b_DR_step 14 = .ok (.iload_n 1, 1) := by decide +kernel
theorem d_DR_step_15 : decode b_DR_step 15 = .ok (.if_icmp .ne 18, 3) := by decide +kernel
theorem d_DR_step_18 : decode b_DR_step 18 = .ok (.iload_n 2, 1) := by decide +kernel
theorem d_DR_step_19 : decode b_DR_step 19 = .ok (.ifCond .lt 14, 3) := by decide +kernel
theorem d_DR_step_22 : decode b_DR_step 22 = .ok (.iload_n 2, 1) := by decide +kernel
theorem d_DR_step_23 : decode b_DR_step 23 = .ok (.aload_n 0, 1) := by decide +kernel
theorem d_DR_step_24 : decode b_DR_step 24 = .ok (.getfield 33, 3) := by decide +kernel
theorem d_DR_step_27 : decode b_DR_step 27 = .ok (.getfield 155, 3) := by decide +kernel
theorem d_DR_step_30 : decode b_DR_step 30 = .ok (.if_icmp .lt 5, 3) := by decide +kernel
theorem d_DR_step_33 : decode b_DR_step 33 = .ok (.iconst (-1), 1) := by decide +kernel
theorem d_DR_step_34 : decode b_DR_step 34 = .ok (.ireturn, 1) := by decide +kernel
theorem d_DR_step_35 : decode b_DR_step 35 = .ok (.iload_n 3, 1) := by decide +kernel
theorem d_DR_step_36 : decode b_DR_step 36 = .ok (.tableswitch 65 0 2 #[28, 38, 48], 28) := by decide +kernel
theorem d_DR_step_64 : decode b_DR_step 64 = .ok (.aload_n 0, 1) := by decide +kernel
theorem d_DR_step_65 : decode b_DR_step 65 = .ok (.getfield 33, 3) := by decide +kernel
theorem d_DR_step_68 : decode b_DR_step 68 = .ok (.getfield 158, 3) := by decide +kernel
theorem d_DR_step_71 : decode b_DR_step 71 = .ok (.iload_n 2, 1) := by decide +kernel
theorem d_DR_step_72 : decode b_DR_step 72 = .ok (.iaload, 1) := by decide +kernel
theorem d_DR_step_73 : decode b_DR_step 73 = .ok (.ireturn, 1) := by decide +kernel
theorem d_DR_step_74 : decode b_DR_step 74 = .ok (.aload_n 0, 1) := by decide +kernel
theorem d_DR_step_75 : decode b_DR_step 75 = .ok (.getfield 33, 3) := by decide +kernel
theorem d_DR_step_78 : decode b_DR_step 78 = .ok (.getfield 162, 3) := by decide +kernel
theorem d_DR_step_81 : decode b_DR_step 81 = .ok (.iload_n 2, 1) := by decide +kernel
theorem d_DR_step_82 : decode b_DR_step 82 = .ok (.iaload, 1) := by decide +kernel
theorem d_DR_step_83 : decode b_DR_step 83 = .ok (.ireturn, 1) := by decide +kernel
theorem d_DR_step_84 : decode b_DR_step 84 = .ok (.aload_n 0, 1) := by decide +kernel
theorem d_DR_step_85 : decode b_DR_step 85 = .ok (.getfield 33, 3) := by decide +kernel
theorem d_DR_step_88 : decode b_DR_step 88 = .ok (.getfield 165, 3) := by decide +kernel
theorem d_DR_step_91 : decode b_DR_step 91 = .ok (.iload_n 2, 1) := by decide +kernel
theorem d_DR_step_92 : decode b_DR_step 92 = .ok (.laload, 1) := by decide +kernel
theorem d_DR_step_93 : decode b_DR_step 93 = .ok (.ldc2_w 169, 3) := by decide +kernel
theorem d_DR_step_96 : decode b_DR_step 96 = .ok (.invokestatic 171, 3) := by decide +kernel
theorem d_DR_step_99 : decode b_DR_step 99 = .ok (.l2i, 1) := by decide +kernel
theorem d_DR_step_100 : decode b_DR_step 100 = .ok (.ireturn, 1) := by decide +kernel
theorem d_DR_step_101 : decode b_DR_step 101 = .ok (.iconst (-1), 1) := by decide +kernel
theorem d_DR_step_102 : decode b_DR_step 102 = .ok (.ireturn, 1) := by decide +kernel
theorem d_DR_allowed_0 : decode b_DR_allowed 0 = .ok (.iload_n 1, 1) := by decide +kernel
theorem d_DR_allowed_1 : decode b_DR_allowed 1 = .ok (.invokestatic 177, 3) := by decide +kernel
theorem d_DR_allowed_4 : decode b_DR_allowed 4 = .ok (.ifCond .eq 10, 3) := by decide +kernel
theorem d_DR_allowed_7 : decode b_DR_allowed 7 = .ok (.iload_n 2, 1) := by decide +kernel
theorem d_DR_allowed_8 : decode b_DR_allowed 8 = .ok (.invokestatic 130, 3) := by decide +kernel
theorem d_DR_allowed_11 : decode b_DR_allowed 11 = .ok (.ifCond .ne 7, 3) := by decide +kernel
theorem d_DR_allowed_14 : decode b_DR_allowed 14 = .ok (.ldc2_w 180, 3) := by decide +kernel
theorem d_DR_allowed_17 : decode b_DR_allowed 17 = .ok (.lreturn, 1) := by decide +kernel
theorem d_DR_allowed_18 : decode b_DR_allowed 18 = .ok (.iload_n 1, 1) := by decide +kernel
theorem d_DR_allowed_19 : decode b_DR_allowed 19 = .ok (.invokestatic 182, 3) := by decide +kernel
theorem d_DR_allowed_22 : decode b_DR_allowed 22 = .ok (.istore_n 3, 1) := by decide +kernel
theorem d_DR_allowed_23 : decode b_DR_allowed 23 = .ok (.lconst 0, 1) := by decide +kernel
theorem d_DR_allowed_24 : decode b_DR_allowed 24 = .ok (.lstore 4, 2) := by decide +kernel
theorem d_DR_allowed_26 : decode b_DR_allowed 26 = .ok (.iconst 0, 1) := by decide +kernel
theorem d_DR_allowed_27 : decode b_DR_allowed 27 = .ok (.istore 6, 2) := by decide +kernel
theorem d_DR_allowed_29 : decode b_DR_allowed 29 = .ok (.iload 6, 2) := by decide +kernel
theorem d_DR_allowed_31 : decode b_DR_allowed 31 = .ok (.bipush 30, 2) := by decide +kernel
theorem d_DR_allowed_33 : decode b_DR_allowed 33 = .ok (.if_icmp .ge 40, 3) := by decide +kernel
theorem d_DR_allowed_36 : decode b_DR_allowed 36 = .ok (.aload_n 0, 1) := by decide +kernel
theorem d_DR_allowed_37 : decode b_DR_allowed 37 = .ok (.getfield 37, 3) := by decide +kernel
theorem d_DR_allowed_40 : decode b_DR_allowed 40 = .ok (.aload_n 0, 1) := by decide +kernel
theorem d_DR_allowed_41 : decode b_DR_allowed 41 = .ok (.getfield 19, 3) := by decide +kernel
theorem d_DR_allowed_44 : decode b_DR_allowed 44 = .ok (.aload_n 0, 1) := by decide +kernel
theorem d_DR_allowed_45 : decode b_DR_allowed 45 = .ok (.getfield 26, 3) := by decide +kernel
theorem d_DR_allowed_48 : decode b_DR_allowed 48 = .ok (.iload 6, 2) := by decide +kernel
theorem d_DR_allowed_50 : decode b_DR_allowed 50 = .ok (.iload_n 3, 1) := by decide +kernel
theorem d_DR_allowed_51 : decode b_DR_allowed 51 = .ok (.iload_n 3, 1) := by decide +kernel
theorem d_DR_allowed_52 : decode b_DR_allowed 52 = .ok (.invokevirtual 135, 3) := by decide +kernel
theorem d_DR_allowed_55 : decode b_DR_allowed 55 = .ok (.lload 4, 2) := by decide +kernel
theorem d_DR_allowed_57 : decode b_DR_allowed 57 = .ok (.aload_n 0, 1) := by decide +kernel
theorem d_DR_allowed_58 : decode b_DR_allowed 58 = .ok (.getfield 37, 3) := by decide +kernel
theorem d_DR_allowed_61 : decode b_DR_allowed 61 = .ok (.getfield 185, 3) := by decide +kernel
theorem d_DR_allowed_64 : decode b_DR_allowed 64 = .ok (.ladd, 1) := by decide +kernel
theorem d_DR_allowed_65 : decode b_DR_allowed 65 = .ok (.lstore 4, 2) := by decide +kernel
theorem d_DR_allowed_67 : decode b_DR_allowed 67 = .ok (.iinc 6 1, 3) := by decide +kernel
theorem d_DR_allowed_70 : decode b_DR_allowed 70 = .ok (.goto (-41), 3) := by decide +kernel
theorem d_DR_allowed_73 : decode b_DR_allowed 73 = .ok (.lload 4, 2) := by decide +kernel
theorem d_DR_allowed_75 : decode b_DR_allowed 75 = .ok (.ldc2_w 188, 3) := by decide +kernel
theorem d_DR_allowed_78 : decode b_DR_allowed 78 = .ok (.iload_n 2, 1) := by decide +kernel
theorem d_DR_allowed_79 : decode b_DR_allowed 79 = .ok (.invokestatic 148, 3) := by decide +kernel
theorem d_DR_allowed_82 : decode b_DR_allowed 82 = .ok (.lreturn, 1) := by decide +kernel
theorem d_DR_isMonth_0 : decode b_DR_isMonth 0 = .ok (.iload_n 0, 1) := by decide +kernel
theorem d_DR_isMonth_1 : decode b_DR_isMonth 1 = .ok (.ifCond .lt 14, 3) := by decide +kernel
theorem d_DR_isMonth_4 : decode b_DR_isMonth 4 = .ok (.iload_n 0, 1) := by decide +kernel
theorem d_DR_isMonth_5 : decode b_DR_isMonth 5 = .ok (.sipush 3000, 3) := by decide +kernel
theorem d_DR_isMonth_8 : decode b_DR_isMonth 8 = .ok (.if_icmp .gt 7, 3) := by decide +kernel
theorem d_DR_isMonth_11 : decode b_DR_isMonth 11 = .ok (.iconst 1, 1) := by decide +kernel
theorem d_DR_isMonth_12 : decode b_DR_isMonth 12 = .ok (.goto 4, 3) := by decide +kernel
theorem d_DR_isMonth_15 : decode b_DR_isMonth 15 = .ok (.iconst 0, 1) := by decide +kernel
theorem d_DR_isMonth_16 : decode b_DR_isMonth 16 = .ok (.ireturn, 1) := by decide +kernel
theorem d_DR_lastDayOf_0 : decode b_DR_lastDayOf 0 = .ok (.bipush 30, 2) := by decide +kernel
theorem d_DR_lastDayOf_2 : decode b_DR_lastDayOf 2 = .ok (.iload_n 0, 1) := by decide +kernel
theorem d_DR_lastDayOf_3 : decode b_DR_lastDayOf 3 = .ok (.imul, 1) := by decide +kernel
theorem d_DR_lastDayOf_4 : decode b_DR_lastDayOf 4 = .ok (.bipush 30, 2) := by decide +kernel
theorem d_DR_lastDayOf_6 : decode b_DR_lastDayOf 6 = .ok (.iadd, 1) := by decide +kernel
theorem d_DR_lastDayOf_7 : decode b_DR_lastDayOf 7 = .ok (.iconst 1, 1) := by decide +kernel
theorem d_DR_lastDayOf_8 : decode b_DR_lastDayOf 8 = .ok (.isub, 1) := by decide +kernel
theorem d_DR_lastDayOf_9 : decode b_DR_lastDayOf 9 = .ok (.ireturn, 1) := by decide +kernel
theorem d_DR_returned_0 : decode b_DR_returned 0 = .ok (.iload_n 1, 1) := by decide +kernel
theorem d_DR_returned_1 : decode b_DR_returned 1 = .ok (.invokestatic 177, 3) := by decide +kernel
theorem d_DR_returned_4 : decode b_DR_returned 4 = .ok (.ifCond .ne 5, 3) := by decide +kernel
theorem d_DR_returned_7 : decode b_DR_returned 7 = .ok (.iconst (-1), 1) := by decide +kernel
theorem d_DR_returned_8 : decode b_DR_returned 8 = .ok (.ireturn, 1) := by decide +kernel
theorem d_DR_returned_9 : decode b_DR_returned 9 = .ok (.aload_n 0, 1) := by decide +kernel
theorem d_DR_returned_10 : decode b_DR_returned 10 = .ok (.iload_n 1, 1) := by decide +kernel
theorem d_DR_returned_11 : decode b_DR_returned 11 = .ok (.invokevirtual 190, 3) := by decide +kernel
theorem d_DR_returned_14 : decode b_DR_returned 14 = .ok (.astore_n 2, 1) := by decide +kernel
theorem d_DR_returned_15 : decode b_DR_returned 15 = .ok (.aload_n 2, 1) := by decide +kernel
theorem d_DR_returned_16 : decode b_DR_returned 16 = .ok (.ifnonnull 21, 3) := by decide +kernel
theorem d_DR_returned_19 : decode b_DR_returned 19 = .ok (.new 194, 3) := by decide +kernel
theorem d_DR_returned_22 : decode b_DR_returned 22 = .ok (.dup, 1) := by decide +kernel
theorem d_DR_returned_23 : decode b_DR_returned 23 = .ok (.iload_n 1, 1) := by decide +kernel
theorem d_DR_returned_24 : decode b_DR_returned 24 = .ok (.aload_n 0, 1) := by decide +kernel
theorem d_DR_returned_25 : decode b_DR_returned 25 = .ok (.getfield 57, 3) := by decide +kernel
theorem d_DR_returned_28 : decode b_DR_returned 28 = .ok (.invokespecial 196, 3) := by decide +kernel
theorem d_DR_returned_31 : decode b_DR_returned 31 = .ok (.astore_n 2, 1) := by decide +kernel
theorem d_DR_returned_32 : decode b_DR_returned 32 = .ok (.aload_n 0, 1) := by decide +kernel
theorem d_DR_returned_33 : decode b_DR_returned 33 = .ok (.aload_n 2, 1) := by decide +kernel
theorem d_DR_returned_34 : decode b_DR_returned 34 = .ok (.putfield 57, 3) := by decide +kernel
theorem d_DR_returned_37 : decode b_DR_returned 37 = .ok (.bipush 30, 2) := by decide +kernel
theorem d_DR_returned_39 : decode b_DR_returned 39 = .ok (.iload_n 1, 1) := by decide +kernel
theorem d_DR_returned_40 : decode b_DR_returned 40 = .ok (.imul, 1) := by decide +kernel
theorem d_DR_returned_41 : decode b_DR_returned 41 = .ok (.istore_n 3, 1) := by decide +kernel
theorem d_DR_returned_42 : decode b_DR_returned 42 = .ok (.iload_n 1, 1) := by decide +kernel
theorem d_DR_returned_43 : decode b_DR_returned 43 = .ok (.invokestatic 182, 3) := by decide +kernel
theorem d_DR_returned_46 : decode b_DR_returned 46 = .ok (.istore 4, 2) := by decide +kernel
theorem d_DR_returned_48 : decode b_DR_returned 48 = .ok (.iconst 0, 1) := by decide +kernel
theorem d_DR_returned_49 : decode b_DR_returned 49 = .ok (.istore 5, 2) := by decide +kernel
theorem d_DR_returned_51 : decode b_DR_returned 51 = .ok (.iload 5, 2) := by decide +kernel
theorem d_DR_returned_53 : decode b_DR_returned 53 = .ok (.bipush 30, 2) := by decide +kernel
theorem d_DR_returned_55 : decode b_DR_returned 55 = .ok (.if_icmp .ge 45, 3) := by decide +kernel
theorem d_DR_returned_58 : decode b_DR_returned 58 = .ok (.aload_n 0, 1) := by decide +kernel
theorem d_DR_returned_59 : decode b_DR_returned 59 = .ok (.getfield 26, 3) := by decide +kernel
theorem d_DR_returned_62 : decode b_DR_returned 62 = .ok (.iload 5, 2) := by decide +kernel
theorem d_DR_returned_64 : decode b_DR_returned 64 = .ok (.iload_n 3, 1) := by decide +kernel
theorem d_DR_returned_65 : decode b_DR_returned 65 = .ok (.iload 4, 2) := by decide +kernel
theorem d_DR_returned_67 : decode b_DR_returned 67 = .ok (.invokevirtual 199, 3) := by decide +kernel
theorem d_DR_returned_70 : decode b_DR_returned 70 = .ok (.ifCond .eq 24, 3) := by decide +kernel
theorem d_DR_returned_73 : decode b_DR_returned 73 = .ok (.aload_n 2, 1) := by decide +kernel
theorem d_DR_returned_74 : decode b_DR_returned 74 = .ok (.iload 5, 2) := by decide +kernel
theorem d_DR_returned_76 : decode b_DR_returned 76 = .ok (.aload_n 0, 1) := by decide +kernel
theorem d_DR_returned_77 : decode b_DR_returned 77 = .ok (.iload 5, 2) := by decide +kernel
theorem d_DR_returned_79 : decode b_DR_returned 79 = .ok (.iload 4, 2) := by decide +kernel
theorem d_DR_returned_81 : decode b_DR_returned 81 = .ok (.aload_n 0, 1) := by decide +kernel
theorem d_DR_returned_82 : decode b_DR_returned 82 = .ok (.getfield 26, 3) := by decide +kernel
theorem d_DR_returned_85 : decode b_DR_returned 85 = .ok (.getfield 202, 3) := by decide +kernel
theorem d_DR_returned_88 : decode b_DR_returned 88 = .ok (.invokevirtual 205, 3) := by decide +kernel
theorem d_DR_returned_91 : decode b_DR_returned 91 = .ok (.invokevirtual 209, 3) := by decide +kernel
theorem d_DR_returned_94 : decode b_DR_returned 94 = .ok (.iinc 5 1, 3) := by decide +kernel
theorem d_DR_returned_97 : decode b_DR_returned 97 = .ok (.goto (-46), 3) := by decide +kernel
theorem d_DR_returned_100 : decode b_DR_returned 100 = .ok (.aload_n 0, 1) := by decide +kernel
theorem d_DR_returned_101 : decode b_DR_returned 101 = .ok (.aload_n 2, 1) := by decide +kernel
theorem d_DR_returned_102 : decode b_DR_returned 102 = .ok (.putfield 61, 3) := by decide +kernel
theorem d_DR_returned_105 : decode b_DR_returned 105 = .ok (.aload_n 2, 1) := by decide +kernel
theorem d_DR_returned_106 : decode b_DR_returned 106 = .ok (.invokevirtual 213, 3) := by decide +kernel
theorem d_DR_returned_109 : decode b_DR_returned 109 = .ok (.ireturn, 1) := by decide +kernel
theorem d_DR_returnOf_0 : decode b_DR_returnOf 0 = .ok (.aload_n 0, 1) := by decide +kernel
theorem d_DR_returnOf_1 : decode b_DR_returnOf 1 = .ok (.getfield 57, 3) := by decide +kernel
theorem d_DR_returnOf_4 : decode b_DR_returnOf 4 = .ok (.astore_n 2, 1) := by decide +kernel
theorem d_DR_returnOf_5 : decode b_DR_returnOf 5 = .ok (.aload_n 2, 1) := by decide +kernel
theorem d_DR_returnOf_6 : decode b_DR_returnOf 6 = .ok (.ifnull 21, 3) := by decide +kernel
theorem d_DR_returnOf_9 : decode b_DR_returnOf 9 = .ok (.aload_n 2, 1) := by decide +kernel
theorem d_DR_returnOf_10 : decode b_DR_returnOf 10 = .ok (.getfield 252, 3) := by decide +kernel
theorem d_DR_returnOf_13 : decode b_DR_returnOf 13 = .ok (.iload_n 1, 1) := by decide +kernel
theorem d_DR_returnOf_14 : decode b_DR_returnOf 14 = .ok (.if_icmp .ne 5, 3) := by decide +kernel
theorem d_DR_returnOf_17 : decode b_DR_returnOf 17 = .ok (.aload_n 2, 1) := by decide +kernel
theorem d_DR_returnOf_18 : decode b_DR_returnOf 18 = .ok (.areturn, 1) := by decide +kernel
theorem d_DR_returnOf_19 : decode b_DR_returnOf 19 = .ok (.aload_n 2, 1) := by decide +kernel
theorem d_DR_returnOf_20 : decode b_DR_returnOf 20 = .ok (.getfield 255, 3) := by decide +kernel
theorem d_DR_returnOf_23 : decode b_DR_returnOf 23 = .ok (.astore_n 2, 1) := by decide +kernel
theorem d_DR_returnOf_24 : decode b_DR_returnOf 24 = .ok (.goto (-19), 3) := by decide +kernel
theorem d_DR_returnOf_27 : decode b_DR_returnOf 27 = .ok (.aconst_null, 1) := by decide +kernel
theorem d_DR_returnOf_28 : decode b_DR_returnOf 28 = .ok (.areturn, 1) := by decide +kernel
theorem d_RE_init_0 : decode b_RE_init 0 = .ok (.aload_n 0, 1) := by decide +kernel
theorem d_RE_init_1 : decode b_RE_init 1 = .ok (.invokespecial 3, 3) := by decide +kernel
theorem d_RE_init_4 : decode b_RE_init 4 = .ok (.aload_n 0, 1) := by decide +kernel
theorem d_RE_init_5 : decode b_RE_init 5 = .ok (.iload_n 1, 1) := by decide +kernel
theorem d_RE_init_6 : decode b_RE_init 6 = .ok (.putfield 9, 3) := by decide +kernel
theorem d_RE_init_9 : decode b_RE_init 9 = .ok (.aload_n 0, 1) := by decide +kernel
theorem d_RE_init_10 : decode b_RE_init 10 = .ok (.aload_n 2, 1) := by decide +kernel
theorem d_RE_init_11 : decode b_RE_init 11 = .ok (.putfield 15, 3) := by decide +kernel
theorem d_RE_init_14 : decode b_RE_init 14 = .ok (.aload_n 0, 1) := by decide +kernel
theorem d_RE_init_15 : decode b_RE_init 15 = .ok (.bipush 30, 2) := by decide +kernel
theorem d_RE_init_17 : decode b_RE_init 17 = .ok (.newarray .boolean, 2) := by decide +kernel
theorem d_RE_init_19 : decode b_RE_init 19 = .ok (.putfield 19, 3) := by decide +kernel
theorem d_RE_init_22 : decode b_RE_init 22 = .ok (.aload_n 0, 1) := by decide +kernel
theorem d_RE_init_23 : decode b_RE_init 23 = .ok (.bipush 30, 2) := by decide +kernel
theorem d_RE_init_25 : decode b_RE_init 25 = .ok (.newarray .long, 2) := by decide +kernel
theorem d_RE_init_27 : decode b_RE_init 27 = .ok (.putfield 23, 3) := by decide +kernel
theorem d_RE_init_30 : decode b_RE_init 30 = .ok (.aload_n 0, 1) := by decide +kernel
theorem d_RE_init_31 : decode b_RE_init 31 = .ok (.bipush 30, 2) := by decide +kernel
theorem d_RE_init_33 : decode b_RE_init 33 = .ok (.newarray .long, 2) := by decide +kernel
theorem d_RE_init_35 : decode b_RE_init 35 = .ok (.putfield 27, 3) := by decide +kernel
theorem d_RE_init_38 : decode b_RE_init 38 = .ok (.return_, 1) := by decide +kernel
theorem d_FS_hasLitres_0 : decode b_FS_hasLitres 0 = .ok (.aload_n 0, 1) := by decide +kernel
theorem d_FS_hasLitres_1 : decode b_FS_hasLitres 1 = .ok (.iload_n 1, 1) := by decide +kernel
theorem d_FS_hasLitres_2 : decode b_FS_hasLitres 2 = .ok (.iconst 2, 1) := by decide +kernel
theorem d_FS_hasLitres_3 : decode b_FS_hasLitres 3 = .ok (.invokevirtual 36, 3) := by decide +kernel
theorem d_FS_hasLitres_6 : decode b_FS_hasLitres 6 = .ok (.astore 4, 2) := by decide +kernel
theorem d_FS_hasLitres_8 : decode b_FS_hasLitres 8 = .ok (.aload 4, 2) := by decide +kernel
theorem d_FS_hasLitres_10 : decode b_FS_hasLitres 10 = .ok (.ifnull 33, 3) := by decide +kernel
theorem d_FS_hasLitres_13 : decode b_FS_hasLitres 13 = .ok (.aload 4, 2) := by decide +kernel
theorem d_FS_hasLitres_15 : decode b_FS_hasLitres 15 = .ok (.getfield 43, 3) := by decide +kernel
theorem d_FS_hasLitres_18 : decode b_FS_hasLitres 18 = .ok (.iload_n 2, 1) := by decide +kernel
theorem d_FS_hasLitres_19 : decode b_FS_hasLitres 19 = .ok (.if_icmp .lt 14, 3) := by decide +kernel
theorem d_FS_hasLitres_22 : decode b_FS_hasLitres 22 = .ok (.aload 4, 2) := by decide +kernel
theorem d_FS_hasLitres_24 : decode b_FS_hasLitres 24 = .ok (.getfield 43, 3) := by decide +kernel
theorem d_FS_hasLitres_27 : decode b_FS_hasLitres 27 = .ok (.iload_n 3, 1) := by decide +kernel
theorem d_FS_hasLitres_28 : decode b_FS_hasLitres 28 = .ok (.if_icmp .gt 5, 3) := by decide +kernel
theorem d_FS_hasLitres_31 : decode b_FS_hasLitres 31 = .ok (.iconst 1, 1) := by decide +kernel
theorem d_FS_hasLitres_32 : decode b_FS_hasLitres 32 = .ok (.ireturn, 1) := by decide +kernel
theorem d_FS_hasLitres_33 : decode b_FS_hasLitres 33 = .ok (.aload 4, 2) := by decide +kernel
theorem d_FS_hasLitres_35 : decode b_FS_hasLitres 35 = .ok (.getfield 46, 3) := by decide +kernel
theorem d_FS_hasLitres_38 : decode b_FS_hasLitres 38 = .ok (.astore 4, 2) := by decide +kernel
theorem d_FS_hasLitres_40 : decode b_FS_hasLitres 40 = .ok (.goto (-32), 3) := by decide +kernel
theorem d_FS_hasLitres_43 : decode b_FS_hasLitres 43 = .ok (.iconst 0, 1) := by decide +kernel
theorem d_FS_hasLitres_44 : decode b_FS_hasLitres 44 = .ok (.ireturn, 1) := by decide +kernel
theorem d_DR_centsOf_0 : decode b_DR_centsOf 0 = .ok (.aload_n 0, 1) := by decide +kernel
theorem d_DR_centsOf_1 : decode b_DR_centsOf 1 = .ok (.getfield 37, 3) := by decide +kernel
theorem d_DR_centsOf_4 : decode b_DR_centsOf 4 = .ok (.aload_n 0, 1) := by decide +kernel
theorem d_DR_centsOf_5 : decode b_DR_centsOf 5 = .ok (.getfield 19, 3) := by decide +kernel
theorem d_DR_centsOf_8 : decode b_DR_centsOf 8 = .ok (.aload_n 0, 1) := by decide +kernel
theorem d_DR_centsOf_9 : decode b_DR_centsOf 9 = .ok (.getfield 26, 3) := by decide +kernel
theorem d_DR_centsOf_12 : decode b_DR_centsOf 12 = .ok (.iload_n 1, 1) := by decide +kernel
theorem d_DR_centsOf_13 : decode b_DR_centsOf 13 = .ok (.iload_n 2, 1) := by decide +kernel
theorem d_DR_centsOf_14 : decode b_DR_centsOf 14 = .ok (.iload_n 3, 1) := by decide +kernel
theorem d_DR_centsOf_15 : decode b_DR_centsOf 15 = .ok (.invokevirtual 135, 3) := by decide +kernel
theorem d_DR_centsOf_18 : decode b_DR_centsOf 18 = .ok (.aload_n 0, 1) := by decide +kernel
theorem d_DR_centsOf_19 : decode b_DR_centsOf 19 = .ok (.getfield 37, 3) := by decide +kernel
theorem d_DR_centsOf_22 : decode b_DR_centsOf 22 = .ok (.getfield 139, 3) := by decide +kernel
theorem d_DR_centsOf_25 : decode b_DR_centsOf 25 = .ok (.iconst (-1), 1) := by decide +kernel
theorem d_DR_centsOf_26 : decode b_DR_centsOf 26 = .ok (.if_icmp .ne 17, 3) := by decide +kernel
theorem d_DR_centsOf_29 : decode b_DR_centsOf 29 = .ok (.aload_n 0, 1) := by decide +kernel
theorem d_DR_centsOf_30 : decode b_DR_centsOf 30 = .ok (.getfield 37, 3) := by decide +kernel
theorem d_DR_centsOf_33 : decode b_DR_centsOf 33 = .ok (.getfield 142, 3) := by decide +kernel
theorem d_DR_centsOf_36 : decode b_DR_centsOf 36 = .ok (.ldc2_w 146, 3) := by decide +kernel
theorem d_DR_centsOf_39 : decode b_DR_centsOf 39 = .ok (.ldiv, 1) := by decide +kernel
theorem d_DR_centsOf_40 : decode b_DR_centsOf 40 = .ok (.goto 6, 3) := by decide +kernel
theorem d_DR_centsOf_43 : decode b_DR_centsOf 43 = .ok (.ldc2_w 133, 3) := by decide +kernel
theorem d_DR_centsOf_46 : decode b_DR_centsOf 46 = .ok (.lreturn, 1) := by decide +kernel
theorem d_RE_put_0 : decode b_RE_put 0 = .ok (.iload_n 1, 1) := by decide +kernel
theorem d_RE_put_1 : decode b_RE_put 1 = .ok (.invokestatic 30, 3) := by decide +kernel
theorem d_RE_put_4 : decode b_RE_put 4 = .ok (.ifCond .ne 4, 3) := by decide +kernel
theorem d_RE_put_7 : decode b_RE_put 7 = .ok (.return_, 1) := by decide +kernel
theorem d_RE_put_8 : decode b_RE_put 8 = .ok (.aload_n 0, 1) := by decide +kernel
theorem d_RE_put_9 : decode b_RE_put 9 = .ok (.iload_n 1, 1) := by decide +kernel
theorem d_RE_put_10 : decode b_RE_put 10 = .ok (.invokevirtual 34, 3) := by decide +kernel
theorem d_RE_put_13 : decode b_RE_put 13 = .ok (.ifCond .eq 15, 3) := by decide +kernel
theorem d_RE_put_16 : decode b_RE_put 16 = .ok (.lload_n 2, 1) := by decide +kernel
theorem d_RE_put_17 : decode b_RE_put 17 = .ok (.ldc2_w 37, 3) := by decide +kernel
theorem d_RE_put_20 : decode b_RE_put 20 = .ok (.lcmp, 1) := by decide +kernel
theorem d_RE_put_21 : decode b_RE_put 21 = .ok (.ifCond .eq 7, 3) := by decide +kernel
theorem d_RE_put_24 : decode b_RE_put 24 = .ok (.iconst 1, 1) := by decide +kernel
theorem d_RE_put_25 : decode b_RE_put 25 = .ok (.goto 4, 3) := by decide +kernel
theorem d_RE_put_28 : decode b_RE_put 28 = .ok (.iconst 0, 1) := by decide +kernel
theorem d_RE_put_29 : decode b_RE_put 29 = .ok (.istore 4, 2) := by decide +kernel
theorem d_RE_put_31 : decode b_RE_put 31 = .ok (.aload_n 0, 1) := by decide +kernel
theorem d_RE_put_32 : decode b_RE_put 32 = .ok (.getfield 27, 3) := by decide +kernel
theorem d_RE_put_35 : decode b_RE_put 35 = .ok (.iload_n 1, 1) := by decide +kernel
theorem d_RE_put_36 : decode b_RE_put 36 = .ok (.iload 4, 2) := by decide +kernel
theorem d_RE_put_38 : decode b_RE_put 38 = .ok (.ifCond .eq 14, 3) := by decide +kernel
theorem d_RE_put_41 : decode b_RE_put 41 = .ok (.lload_n 2, 1) := by decide +kernel
theorem d_RE_put_42 : decode b_RE_put 42 = .ok (.aload_n 0, 1) := by decide +kernel
theorem d_RE_put_43 : decode b_RE_put 43 = .ok (.getfield 23, 3) := by decide +kernel
theorem d_RE_put_46 : decode b_RE_put 46 = .ok (.iload_n 1, 1) := by decide +kernel
theorem d_RE_put_47 : decode b_RE_put 47 = .ok (.laload, 1) := by decide +kernel
theorem d_RE_put_48 : decode b_RE_put 48 = .ok (.lsub, 1) := by decide +kernel
theorem d_RE_put_49 : decode b_RE_put 49 = .ok (.goto 4, 3) := by decide +kernel
theorem d_RE_put_52 : decode b_RE_put 52 = .ok (.lconst 0, 1) := by decide +kernel
theorem d_RE_put_53 : decode b_RE_put 53 = .ok (.lastore, 1) := by decide +kernel
theorem d_RE_put_54 : decode b_RE_put 54 = .ok (.aload_n 0, 1) := by decide +kernel
theorem d_RE_put_55 : decode b_RE_put 55 = .ok (.getfield 23, 3) := by decide +kernel
theorem d_RE_put_58 : decode b_RE_put 58 = .ok (.iload_n 1, 1) := by decide +kernel
theorem d_RE_put_59 : decode b_RE_put 59 = .ok (.lload_n 2, 1) := by decide +kernel
theorem d_RE_put_60 : decode b_RE_put 60 = .ok (.lastore, 1) := by decide +kernel
theorem d_RE_put_61 : decode b_RE_put 61 = .ok (.aload_n 0, 1) := by decide +kernel
theorem d_RE_put_62 : decode b_RE_put 62 = .ok (.getfield 19, 3) := by decide +kernel
theorem d_RE_put_65 : decode b_RE_put 65 = .ok (.iload_n 1, 1) := by decide +kernel
theorem d_RE_put_66 : decode b_RE_put 66 = .ok (.iconst 1, 1) := by decide +kernel
theorem d_RE_put_67 : decode b_RE_put 67 = .ok (.bastore, 1) := by decide +kernel
theorem d_RE_put_68 : decode b_RE_put 68 = .ok (.return_, 1) := by decide +kernel
theorem d_RE_isSettled_0 : decode b_RE_isSettled 0 = .ok (.iload_n 1, 1) := by decide +kernel
theorem d_RE_isSettled_1 : decode b_RE_isSettled 1 = .ok (.invokestatic 30, 3) := by decide +kernel
theorem d_RE_isSettled_4 : decode b_RE_isSettled 4 = .ok (.ifCond .eq 29, 3) := by decide +kernel
theorem d_RE_isSettled_7 : decode b_RE_isSettled 7 = .ok (.aload_n 0, 1) := by decide +kernel
theorem d_RE_isSettled_8 : decode b_RE_isSettled 8 = .ok (.getfield 19, 3) := by decide +kernel
theorem d_RE_isSettled_11 : decode b_RE_isSettled 11 = .ok (.iload_n 1, 1) := by decide +kernel
theorem d_RE_isSettled_12 : decode b_RE_isSettled 12 = .ok (.baload, 1) := by decide +kernel
theorem d_RE_isSettled_13 : decode b_RE_isSettled 13 = .ok (.ifCond .eq 20, 3) := by decide +kernel
theorem d_RE_isSettled_16 : decode b_RE_isSettled 16 = .ok (.aload_n 0, 1) := by decide +kernel
theorem d_RE_isSettled_17 : decode b_RE_isSettled 17 = .ok (.getfield 23, 3) := by decide +kernel
theorem d_RE_isSettled_20 : decode b_RE_isSettled 20 = .ok (.iload_n 1, 1) := by decide +kernel
theorem d_RE_isSettled_21 : decode b_RE_isSettled 21 = .ok (.laload, 1) := by decide +kernel
theorem d_RE_isSettled_22 : decode b_RE_isSettled 22 = .ok (.ldc2_w 37, 3) := by decide +kernel
theorem d_RE_isSettled_25 : decode b_RE_isSettled 25 = .ok (.lcmp, 1) := by decide +kernel
theorem d_RE_isSettled_26 : decode b_RE_isSettled 26 = .ok (.ifCond .eq 7, 3) := by decide +kernel
theorem d_RE_isSettled_29 : decode b_RE_isSettled 29 = .ok (.iconst 1, 1) := by decide +kernel
theorem d_RE_isSettled_30 : decode b_RE_isSettled 30 = .ok (.goto 4, 3) := by decide +kernel
theorem d_RE_isSettled_33 : decode b_RE_isSettled 33 = .ok (.iconst 0, 1) := by decide +kernel
theorem d_RE_isSettled_34 : decode b_RE_isSettled 34 = .ok (.ireturn, 1) := by decide +kernel
theorem d_RE_count_0 : decode b_RE_count 0 = .ok (.iconst 0, 1) := by decide +kernel
theorem d_RE_count_1 : decode b_RE_count 1 = .ok (.istore_n 1, 1) := by decide +kernel
theorem d_RE_count_2 : decode b_RE_count 2 = .ok (.iconst 0, 1) := by decide +kernel
theorem d_RE_count_3 : decode b_RE_count 3 = .ok (.istore_n 2, 1) := by decide +kernel
theorem d_RE_count_4 : decode b_RE_count 4 = .ok (.iload_n 2, 1) := by decide +kernel
theorem d_RE_count_5 : decode b_RE_count 5 = .ok (.bipush 30, 2) := by decide +kernel
theorem d_RE_count_7 : decode b_RE_count 7 = .ok (.if_icmp .ge 21, 3) := by decide +kernel
theorem d_RE_count_10 : decode b_RE_count 10 = .ok (.aload_n 0, 1) := by decide +kernel
theorem d_RE_count_11 : decode b_RE_count 11 = .ok (.getfield 19, 3) := by decide +kernel
theorem d_RE_count_14 : decode b_RE_count 14 = .ok (.iload_n 2, 1) := by decide +kernel
theorem d_RE_count_15 : decode b_RE_count 15 = .ok (.baload, 1) := by decide +kernel
theorem d_RE_count_16 : decode b_RE_count 16 = .ok (.ifCond .eq 6, 3) := by decide +kernel
theorem d_RE_count_19 : decode b_RE_count 19 = .ok (.iinc 1 1, 3) := by decide +kernel
theorem d_RE_count_22 : decode b_RE_count 22 = .ok (.iinc 2 1, 3) := by decide +kernel
theorem d_RE_count_25 : decode b_RE_count 25 = .ok (.goto (-21), 3) := by decide +kernel
theorem d_RE_count_28 : decode b_RE_count 28 = .ok (.iload_n 1, 1) := by decide +kernel
theorem d_RE_count_29 : decode b_RE_count 29 = .ok (.ireturn, 1) := by decide +kernel
theorem d_DR_row_0 : decode b_DR_row 0 = .ok (.aload_n 0, 1) := by decide +kernel
theorem d_DR_row_1 : decode b_DR_row 1 = .ok (.getfield 61, 3) := by decide +kernel
theorem d_DR_row_4 : decode b_DR_row 4 = .ok (.ifnonnull 7, 3) := by decide +kernel
theorem d_DR_row_7 : decode b_DR_row 7 = .ok (.ldc2_w 180, 3) := by decide +kernel
theorem d_DR_row_10 : decode b_DR_row 10 = .ok (.lreturn, 1) := by decide +kernel
theorem d_DR_row_11 : decode b_DR_row 11 = .ok (.aload_n 0, 1) := by decide +kernel
theorem d_DR_row_12 : decode b_DR_row 12 = .ok (.getfield 61, 3) := by decide +kernel
theorem d_DR_row_15 : decode b_DR_row 15 = .ok (.iload_n 1, 1) := by decide +kernel
theorem d_DR_row_16 : decode b_DR_row 16 = .ok (.invokevirtual 215, 3) := by decide +kernel
theorem d_DR_row_19 : decode b_DR_row 19 = .ok (.istore_n 3, 1) := by decide +kernel
theorem d_DR_row_20 : decode b_DR_row 20 = .ok (.iload_n 3, 1) := by decide +kernel
theorem d_DR_row_21 : decode b_DR_row 21 = .ok (.iconst (-1), 1) := by decide +kernel
theorem d_DR_row_22 : decode b_DR_row 22 = .ok (.if_icmp .ne 7, 3) := by decide +kernel
theorem d_DR_row_25 : decode b_DR_row 25 = .ok (.ldc2_w 180, 3) := by decide +kernel
theorem d_DR_row_28 : decode b_DR_row 28 = .ok (.lreturn, 1) := by decide +kernel
theorem d_DR_row_29 : decode b_DR_row 29 = .ok (.iload_n 2, 1) := by decide +kernel
theorem d_DR_row_30 : decode b_DR_row 30 = .ok (.tableswitch 49 0 2 #[26, 29, 39], 26) := by decide +kernel
theorem d_DR_row_56 : decode b_DR_row 56 = .ok (.iload_n 3, 1) := by decide +kernel
theorem d_DR_row_57 : decode b_DR_row 57 = .ok (.i2l, 1) := by decide +kernel
theorem d_DR_row_58 : decode b_DR_row 58 = .ok (.lreturn, 1) := by decide +kernel
theorem d_DR_row_59 : decode b_DR_row 59 = .ok (.aload_n 0, 1) := by decide +kernel
theorem d_DR_row_60 : decode b_DR_row 60 = .ok (.getfield 61, 3) := by decide +kernel
theorem d_DR_row_63 : decode b_DR_row 63 = .ok (.getfield 218, 3) := by decide +kernel
theorem d_DR_row_66 : decode b_DR_row 66 = .ok (.iload_n 3, 1) := by decide +kernel
theorem d_DR_row_67 : decode b_DR_row 67 = .ok (.laload, 1) := by decide +kernel
theorem d_DR_row_68 : decode b_DR_row 68 = .ok (.lreturn, 1) := by decide +kernel
theorem d_DR_row_69 : decode b_DR_row 69 = .ok (.aload_n 0, 1) := by decide +kernel
theorem d_DR_row_70 : decode b_DR_row 70 = .ok (.getfield 61, 3) := by decide +kernel
theorem d_DR_row_73 : decode b_DR_row 73 = .ok (.getfield 221, 3) := by decide +kernel
theorem d_DR_row_76 : decode b_DR_row 76 = .ok (.iload_n 3, 1) := by decide +kernel
theorem d_DR_row_77 : decode b_DR_row 77 = .ok (.laload, 1) := by decide +kernel
theorem d_DR_row_78 : decode b_DR_row 78 = .ok (.lreturn, 1) := by decide +kernel
theorem d_DR_row_79 : decode b_DR_row 79 = .ok (.ldc2_w 180, 3) := by decide +kernel
theorem d_DR_row_82 : decode b_DR_row 82 = .ok (.lreturn, 1) := by decide +kernel
theorem d_RE_lotOfRow_0 : decode b_RE_lotOfRow 0 = .ok (.iconst 0, 1) := by decide +kernel
theorem d_RE_lotOfRow_1 : decode b_RE_lotOfRow 1 = .ok (.istore_n 2, 1) := by decide +kernel
theorem d_RE_lotOfRow_2 : decode b_RE_lotOfRow 2 = .ok (.iconst 0, 1) := by decide +kernel
theorem d_RE_lotOfRow_3 : decode b_RE_lotOfRow 3 = .ok (.istore_n 3, 1) := by decide +kernel
theorem d_RE_lotOfRow_4 : decode b_RE_lotOfRow 4 = .ok (.iload_n 3, 1) := by decide +kernel
theorem d_RE_lotOfRow_5 : decode b_RE_lotOfRow 5 = .ok (.bipush 30, 2) := by decide +kernel
theorem d_RE_lotOfRow_7 : decode b_RE_lotOfRow 7 = .ok (.if_icmp .ge 28, 3) := by decide +kernel
theorem d_RE_lotOfRow_10 : decode b_RE_lotOfRow 10 = .ok (.aload_n 0, 1) := by decide +kernel
theorem d_RE_lotOfRow_11 : decode b_RE_lotOfRow 11 = .ok (.getfield 19, 3) := by decide +kernel
theorem d_RE_lotOfRow_14 : decode b_RE_lotOfRow 14 = .ok (.iload_n 3, 1) := by decide +kernel
theorem d_RE_lotOfRow_15 : decode b_RE_lotOfRow 15 = .ok (.baload, 1) := by decide +kernel
theorem d_RE_lotOfRow_16 : decode b_RE_lotOfRow 16 = .ok (.ifCond .eq 13, 3) := by decide +kernel
theorem d_RE_lotOfRow_19 : decode b_RE_lotOfRow 19 = .ok (.iload_n 2, 1) := by decide +kernel
theorem d_RE_lotOfRow_20 : decode b_RE_lotOfRow 20 = .ok (.iload_n 1, 1) := by decide +kernel
theorem d_RE_lotOfRow_21 : decode b_RE_lotOfRow 21 = .ok (.if_icmp .ne 5, 3) := by decide +kernel
theorem d_RE_lotOfRow_24 : decode b_RE_lotOfRow 24 = .ok (.iload_n 3, 1) := by decide +kernel
theorem d_RE_lotOfRow_25 : decode b_RE_lotOfRow 25 = .ok (.ireturn, 1) := by decide +kernel
theorem d_RE_lotOfRow_26 : decode b_RE_lotOfRow 26 = .ok (.iinc 2 1, 3) := by decide +kernel
theorem d_RE_lotOfRow_29 : decode b_RE_lotOfRow 29 = .ok (.iinc 3 1, 3) := by decide +kernel
theorem d_RE_lotOfRow_32 : decode b_RE_lotOfRow 32 = .ok (.goto (-28), 3) := by decide +kernel
theorem d_RE_lotOfRow_35 : decode b_RE_lotOfRow 35 = .ok (.iconst (-1), 1) := by decide +kernel
theorem d_RE_lotOfRow_36 : decode b_RE_lotOfRow 36 = .ok (.ireturn, 1) := by decide +kernel
theorem d_DR_difference_0 : decode b_DR_difference 0 = .ok (.aload_n 0, 1) := by decide +kernel
theorem d_DR_difference_1 : decode b_DR_difference 1 = .ok (.iload_n 1, 1) := by decide +kernel
theorem d_DR_difference_2 : decode b_DR_difference 2 = .ok (.invokevirtual 190, 3) := by decide +kernel
theorem d_DR_difference_5 : decode b_DR_difference 5 = .ok (.astore 4, 2) := by decide +kernel
theorem d_DR_difference_7 : decode b_DR_difference 7 = .ok (.aload 4, 2) := by decide +kernel
theorem d_DR_difference_9 : decode b_DR_difference 9 = .ok (.ifnull 10, 3) := by decide +kernel
theorem d_DR_difference_12 : decode b_DR_difference 12 = .ok (.lload_n 2, 1) := by decide +kernel
theorem d_DR_difference_13 : decode b_DR_difference 13 = .ok (.invokestatic 102, 3) := by decide +kernel
theorem d_DR_difference_16 : decode b_DR_difference 16 = .ok (.ifCond .ne 5, 3) := by decide +kernel
theorem d_DR_difference_19 : decode b_DR_difference 19 = .ok (.lconst 0, 1) := by decide +kernel
theorem d_DR_difference_20 : decode b_DR_difference 20 = .ok (.lreturn, 1) := by decide +kernel
theorem d_DR_difference_21 : decode b_DR_difference 21 = .ok (.lconst 0, 1) := by decide +kernel
theorem d_DR_difference_22 : decode b_DR_difference 22 = .ok (.lstore 5, 2) := by decide +kernel
theorem d_DR_difference_24 : decode b_DR_difference 24 = .ok (.iconst 0, 1) := by decide +kernel
theorem d_DR_difference_25 : decode b_DR_difference 25 = .ok (.istore 7, 2) := by decide +kernel
theorem d_DR_difference_27 : decode b_DR_difference 27 = .ok (.iload 7, 2) := by decide +kernel
theorem d_DR_difference_29 : decode b_DR_difference 29 = .ok (.bipush 30, 2) := by decide +kernel
theorem d_DR_difference_31 : decode b_DR_difference 31 = .ok (.if_icmp .ge 62, 3) := by decide +kernel
theorem d_DR_difference_34 : decode b_DR_difference 34 = .ok (.aload 4, 2) := by decide +kernel
theorem d_DR_difference_36 : decode b_DR_difference 36 = .ok (.iload 7, 2) := by decide +kernel
theorem d_DR_difference_38 : decode b_DR_difference 38 = .ok (.invokevirtual 224, 3) := by decide +kernel
theorem d_DR_difference_41 : decode b_DR_difference 41 = .ok (.ifCond .eq 46, 3) := by decide +kernel
theorem d_DR_difference_44 : decode b_DR_difference 44 = .ok (.aload_n 0, 1) := by decide +kernel
theorem d_DR_difference_45 : decode b_DR_difference 45 = .ok (.iload 7, 2) := by decide +kernel
theorem d_DR_difference_47 : decode b_DR_difference 47 = .ok (.iload_n 1, 1) := by decide +kernel
theorem d_DR_difference_48 : decode b_DR_difference 48 = .ok (.invokestatic 182, 3) := by decide +kernel
theorem d_DR_difference_51 : decode b_DR_difference 51 = .ok (.lload_n 2, 1) := by decide +kernel
theorem d_DR_difference_52 : decode b_DR_difference 52 = .ok (.l2i, 1) := by decide +kernel
theorem d_DR_difference_53 : decode b_DR_difference 53 = .ok (.invokevirtual 205, 3) := by decide +kernel
theorem d_DR_difference_56 : decode b_DR_difference 56 = .ok (.lstore 8, 2) := by decide +kernel
theorem d_DR_difference_58 : decode b_DR_difference 58 = .ok (.lload 5, 2) := by decide +kernel
theorem d_DR_difference_60 : decode b_DR_difference 60 = .ok (.lload 8, 2) := by decide +kernel
theorem d_DR_difference_62 : decode b_DR_difference 62 = .ok (.ldc2_w 133, 3) := by decide +kernel
theorem d_DR_difference_65 : decode b_DR_difference 65 = .ok (.lcmp, 1) := by decide +kernel
theorem d_DR_difference_66 : decode b_DR_difference 66 = .ok (.ifCond .ne 7, 3) := by decide +kernel
theorem d_DR_difference_69 : decode b_DR_difference 69 = .ok (.lconst 0, 1) := by decide +kernel
theorem d_DR_difference_70 : decode b_DR_difference 70 = .ok (.goto 5, 3) := by decide +kernel
theorem d_DR_difference_73 : decode b_DR_difference 73 = .ok (.lload 8, 2) := by decide +kernel
theorem d_DR_difference_75 : decode b_DR_difference 75 = .ok (.aload 4, 2) := by decide +kernel
theorem d_DR_difference_77 : decode b_DR_difference 77 = .ok (.getfield 218, 3) := by decide +kernel
theorem d_DR_difference_80 : decode b_DR_difference 80 = .ok (.iload 7, 2) := by decide +kernel
theorem d_DR_difference_82 : decode b_DR_difference 82 = .ok (.laload, 1) := by decide +kernel
theorem d_DR_difference_83 : decode b_DR_difference 83 = .ok (.lsub, 1) := by decide +kernel
theorem d_DR_difference_84 : decode b_DR_difference 84 = .ok (.ladd, 1) := by decide +kernel
theorem d_DR_difference_85 : decode b_DR_difference 85 = .ok (.lstore 5, 2) := by decide +kernel
theorem d_DR_difference_87 : decode b_DR_difference 87 = .ok (.iinc 7 1, 3) := by decide +kernel
theorem d_DR_difference_90 : decode b_DR_difference 90 = .ok (.goto (-63), 3) := by decide +kernel
theorem d_DR_difference_93 : decode b_DR_difference 93 = .ok (.lload 5, 2) := by decide +kernel
theorem d_DR_difference_95 : decode b_DR_difference 95 = .ok (.lreturn, 1) := by decide +kernel
theorem d_DR_write_0 : decode b_DR_write 0 = .ok (.iload_n 1, 1) := by decide +kernel
theorem d_DR_write_1 : decode b_DR_write 1 = .ok (.ifCond .lt 25, 3) := by decide +kernel
theorem d_DR_write_4 : decode b_DR_write 4 = .ok (.iload_n 1, 1) := by decide +kernel
theorem d_DR_write_5 : decode b_DR_write 5 = .ok (.aload_n 0, 1) := by decide +kernel
theorem d_DR_write_6 : decode b_DR_write 6 = .ok (.getfield 49, 3) := by decide +kernel
theorem d_DR_write_9 : decode b_DR_write 9 = .ok (.invokevirtual 227, 3) := by decide +kernel
theorem d_DR_write_12 : decode b_DR_write 12 = .ok (.if_icmp .ge 14, 3) := by decide +kernel
theorem d_DR_write_15 : decode b_DR_write 15 = .ok (.aload_n 0, 1) := by decide +kernel
theorem d_DR_write_16 : decode b_DR_write 16 = .ok (.getfield 49, 3) := by decide +kernel
theorem d_DR_write_19 : decode b_DR_write 19 = .ok (.iload_n 1, 1) := by decide +kernel
theorem d_DR_write_20 : decode b_DR_write 20 = .ok (.invokevirtual 230, 3) := by decide +kernel
theorem d_DR_write_23 : decode b_DR_write 23 = .ok (.goto 4, 3) := by decide +kernel
theorem d_DR_write_26 : decode b_DR_write 26 = .ok (.iconst (-1), 1) := by decide +kernel
theorem d_DR_write_27 : decode b_DR_write 27 = .ok (.ireturn, 1) := by decide +kernel
theorem d_DR_interest_0 : decode b_DR_interest 0 = .ok (.aload_n 0, 1) := by decide +kernel
theorem d_DR_interest_1 : decode b_DR_interest 1 = .ok (.iload_n 1, 1) := by decide +kernel
theorem d_DR_interest_2 : decode b_DR_interest 2 = .ok (.invokevirtual 190, 3) := by decide +kernel
theorem d_DR_interest_5 : decode b_DR_interest 5 = .ok (.astore 5, 2) := by decide +kernel
theorem d_DR_interest_7 : decode b_DR_interest 7 = .ok (.aload 5, 2) := by decide +kernel
theorem d_DR_interest_9 : decode b_DR_interest 9 = .ok (.ifnull 18, 3) := by decide +kernel
theorem d_DR_interest_12 : decode b_DR_interest 12 = .ok (.lload_n 2, 1) := by decide +kernel
theorem d_DR_interest_13 : decode b_DR_interest 13 = .ok (.invokestatic 102, 3) := by decide +kernel
theorem d_DR_interest_16 : decode b_DR_interest 16 = .ok (.ifCond .eq 11, 3) := by decide +kernel
theorem d_DR_interest_19 : decode b_DR_interest 19 = .ok (.iload 4, 2) := by decide +kernel
theorem d_DR_interest_21 : decode b_DR_interest 21 = .ok (.invokestatic 130, 3) := by decide +kernel
theorem d_DR_interest_24 : decode b_DR_interest 24 = .ok (.ifCond .ne 7, 3) := by decide +kernel
theorem d_DR_interest_27 : decode b_DR_interest 27 = .ok (.ldc2_w 133, 3) := by decide +kernel
theorem d_DR_interest_30 : decode b_DR_interest 30 = .ok (.lreturn, 1) := by decide +kernel
theorem d_DR_interest_31 : decode b_DR_interest 31 = .ok (.iload_n 1, 1) := by decide +kernel
theorem d_DR_interest_32 : decode b_DR_interest 32 = .ok (.invokestatic 182, 3) := by decide +kernel
theorem d_DR_interest_35 : decode b_DR_interest 35 = .ok (.istore 6, 2) := by decide +kernel
theorem d_DR_interest_37 : decode b_DR_interest 37 = .ok (.lload_n 2, 1) := by decide +kernel
theorem d_DR_interest_38 : decode b_DR_interest 38 = .ok (.iload 6, 2) := by decide +kernel
theorem d_DR_interest_40 : decode b_DR_interest 40 = .ok (.i2l, 1) := by decide +kernel
theorem d_DR_interest_41 : decode b_DR_interest 41 = .ok (.lsub, 1) := by decide +kernel
theorem d_DR_interest_42 : decode b_DR_interest 42 = .ok (.lconst 0, 1) := by decide +kernel
theorem d_DR_interest_43 : decode b_DR_interest 43 = .ok (.invokestatic 234, 3) := by decide +kernel
theorem d_DR_interest_46 : decode b_DR_interest 46 = .ok (.lstore 7, 2) := by decide +kernel
theorem d_DR_interest_48 : decode b_DR_interest 48 = .ok (.aload 5, 2) := by decide +kernel
theorem d_DR_interest_50 : decode b_DR_interest 50 = .ok (.invokevirtual 237, 3) := by decide +kernel
theorem d_DR_interest_53 : decode b_DR_interest 53 = .ok (.aload_n 0, 1) := by decide +kernel
theorem d_DR_interest_54 : decode b_DR_interest 54 = .ok (.iload 6, 2) := by decide +kernel
theorem d_DR_interest_56 : decode b_DR_interest 56 = .ok (.invokevirtual 241, 3) := by decide +kernel
theorem d_DR_interest_59 : decode b_DR_interest 59 = .ok (.lmul, 1) := by decide +kernel
theorem d_DR_interest_60 : decode b_DR_interest 60 = .ok (.lload 7, 2) := by decide +kernel
theorem d_DR_interest_62 : decode b_DR_interest 62 = .ok (.lmul, 1) := by decide +kernel
theorem d_DR_interest_63 : decode b_DR_interest 63 = .ok (.ldc2_w 117, 3) := by decide +kernel
theorem d_DR_interest_66 : decode b_DR_interest 66 = .ok (.iload 4, 2) := by decide +kernel
theorem d_DR_interest_68 : decode b_DR_interest 68 = .ok (.invokestatic 148, 3) := by decide +kernel
theorem d_DR_interest_71 : decode b_DR_interest 71 = .ok (.lreturn, 1) := by decide +kernel
theorem d_RE_settledSum_0 : decode b_RE_settledSum 0 = .ok (.lconst 0, 1) := by decide +kernel
theorem d_RE_settledSum_1 : decode b_RE_settledSum 1 = .ok (.lstore_n 1, 1) := by decide +kernel
theorem d_RE_settledSum_2 : decode b_RE_settledSum 2 = .ok (.iconst 0, 1) := by decide +kernel
theorem d_RE_settledSum_3 : decode b_RE_settledSum 3 = .ok (.istore_n 3, 1) := by decide +kernel
theorem d_RE_settledSum_4 : decode b_RE_settledSum 4 = .ok (.iload_n 3, 1) := by decide +kernel
theorem d_RE_settledSum_5 : decode b_RE_settledSum 5 = .ok (.bipush 30, 2) := by decide +kernel
theorem d_RE_settledSum_7 : decode b_RE_settledSum 7 = .ok (.if_icmp .ge 26, 3) := by decide +kernel
theorem d_RE_settledSum_10 : decode b_RE_settledSum 10 = .ok (.aload_n 0, 1) := by decide +kernel
theorem d_RE_settledSum_11 : decode b_RE_settledSum 11 = .ok (.iload_n 3, 1) := by decide +kernel
theorem d_RE_settledSum_12 : decode b_RE_settledSum 12 = .ok (.invokevirtual 34, 3) := by decide +kernel
theorem d_RE_settledSum_15 : decode b_RE_settledSum 15 = .ok (.ifCond .eq 12, 3) := by decide +kernel
theorem d_RE_settledSum_18 : decode b_RE_settledSum 18 = .ok (.lload_n 1, 1) := by decide +kernel
theorem d_RE_settledSum_19 : decode b_RE_settledSum 19 = .ok (.aload_n 0, 1) := by decide +kernel
theorem d_RE_settledSum_20 : decode b_RE_settledSum 20 = .ok (.getfield 23, 3) := by decide +kernel
theorem d_RE_settledSum_23 : decode b_RE_settledSum 23 = .ok (.iload_n 3, 1) := by decide +kernel
theorem d_RE_settledSum_24 : decode b_RE_settledSum 24 = .ok (.laload, 1) := by decide +kernel
theorem d_RE_settledSum_25 : decode b_RE_settledSum 25 = .ok (.ladd, 1) := by decide +kernel
theorem d_RE_settledSum_26 : decode b_RE_settledSum 26 = .ok (.lstore_n 1, 1) := by decide +kernel
theorem d_RE_settledSum_27 : decode b_RE_settledSum 27 = .ok (.iinc 3 1, 3) := by decide +kernel
theorem d_RE_settledSum_30 : decode b_RE_settledSum 30 = .ok (.goto (-26), 3) := by decide +kernel
theorem d_RE_settledSum_33 : decode b_RE_settledSum 33 = .ok (.lload_n 1, 1) := by decide +kernel
theorem d_RE_settledSum_34 : decode b_RE_settledSum 34 = .ok (.lreturn, 1) := by decide +kernel
theorem d_DR_lateShare_0 : decode b_DR_lateShare 0 = .ok (.aload_n 0, 1) := by decide +kernel
theorem d_DR_lateShare_1 : decode b_DR_lateShare 1 = .ok (.getfield 19, 3) := by decide +kernel
theorem d_DR_lateShare_4 : decode b_DR_lateShare 4 = .ok (.iload_n 1, 1) := by decide +kernel
theorem d_DR_lateShare_5 : decode b_DR_lateShare 5 = .ok (.invokevirtual 258, 3) := by decide +kernel
theorem d_DR_lateShare_8 : decode b_DR_lateShare 8 = .ok (.astore_n 2, 1) := by decide +kernel
theorem d_DR_lateShare_9 : decode b_DR_lateShare 9 = .ok (.aload_n 2, 1) := by decide +kernel
theorem d_DR_lateShare_10 : decode b_DR_lateShare 10 = .ok (.ifnonnull 5, 3) := by decide +kernel
theorem d_DR_lateShare_13 : decode b_DR_lateShare 13 = .ok (.lconst 0, 1) := by decide +kernel
theorem d_DR_lateShare_14 : decode b_DR_lateShare 14 = .ok (.lreturn, 1) := by decide +kernel
theorem d_DR_lateShare_15 : decode b_DR_lateShare 15 = .ok (.aload_n 2, 1) := by decide +kernel
theorem d_DR_lateShare_16 : decode b_DR_lateShare 16 = .ok (.iconst 5, 1) := by decide +kernel
theorem d_DR_lateShare_17 : decode b_DR_lateShare 17 = .ok (.invokevirtual 262, 3) := by decide +kernel
theorem d_DR_lateShare_20 : decode b_DR_lateShare 20 = .ok (.istore_n 3, 1) := by decide +kernel
theorem d_DR_lateShare_21 : decode b_DR_lateShare 21 = .ok (.iload_n 3, 1) := by decide +kernel
theorem d_DR_lateShare_22 : decode b_DR_lateShare 22 = .ok (.iconst (-1), 1) := by decide +kernel
theorem d_DR_lateShare_23 : decode b_DR_lateShare 23 = .ok (.if_icmp .ne 7, 3) := by decide +kernel
theorem d_DR_lateShare_26 : decode b_DR_lateShare 26 = .ok (.lconst 0, 1) := by decide +kernel
theorem d_DR_lateShare_27 : decode b_DR_lateShare 27 = .ok (.goto 10, 3) := by decide +kernel
theorem d_DR_lateShare_30 : decode b_DR_lateShare 30 = .ok (.aload_n 2, 1) := by decide +kernel
theorem d_DR_lateShare_31 : decode b_DR_lateShare 31 = .ok (.iload_n 3, 1) := by decide +kernel
theorem d_DR_lateShare_32 : decode b_DR_lateShare 32 = .ok (.iconst 0, 1) := by decide +kernel
theorem d_DR_lateShare_33 : decode b_DR_lateShare 33 = .ok (.invokevirtual 265, 3) := by decide +kernel
theorem d_DR_lateShare_36 : decode b_DR_lateShare 36 = .ok (.i2l, 1) := by decide +kernel
theorem d_DR_lateShare_37 : decode b_DR_lateShare 37 = .ok (.lreturn, 1) := by decide +kernel
end
section
theorem d_MO_init_0 : decode b_MO_init 0 = .ok (.aload_n 0, 1) := by decide +kernel
theorem d_MO_init_1 : decode b_MO_init 1 = .ok (.invokespecial 1, 3) := by decide +kernel
theorem d_MO_init_4 : decode b_MO_init 4 = .ok (.aload_n 0, 1) := by decide +kernel
theorem d_MO_init_5 : decode b_MO_init 5 = .ok (.sipush 2000, 3) := by decide +kernel
theorem d_MO_init_8 : decode b_MO_init 8 = .ok (.newarray .int, 2) := by decide +kernel
theorem d_MO_init_10 : decode b_MO_init 10 = .ok (.putfield 9, 3) := by decide +kernel
theorem d_MO_init_13 : decode b_MO_init 13 = .ok (.aload_n 0, 1) := by decide +kernel
theorem d_MO_init_14 : decode b_MO_init 14 = .ok (.sipush 200, 3) := by decide +kernel
theorem d_MO_init_17 : decode b_MO_init 17 = .ok (.newarray .int, 2) := by decide +kernel
theorem d_MO_init_19 : decode b_MO_init 19 = .ok (.putfield 13, 3) := by decide +kernel
theorem d_MO_init_22 : decode b_MO_init 22 = .ok (.aload_n 0, 1) := by decide +kernel
theorem d_MO_init_23 : decode b_MO_init 23 = .ok (.sipush 2200, 3) := by decide +kernel
theorem d_MO_init_26 : decode b_MO_init 26 = .ok (.newarray .int, 2) := by decide +kernel
theorem d_MO_init_28 : decode b_MO_init 28 = .ok (.putfield 16, 3) := by decide +kernel
theorem d_MO_init_31 : decode b_MO_init 31 = .ok (.aload_n 0, 1) := by decide +kernel
theorem d_MO_init_32 : decode b_MO_init 32 = .ok (.bipush 11, 2) := by decide +kernel
theorem d_MO_init_34 : decode b_MO_init 34 = .ok (.newarray .int, 2) := by decide +kernel
theorem d_MO_init_36 : decode b_MO_init 36 = .ok (.putfield 19, 3) := by decide +kernel
theorem d_MO_init_39 : decode b_MO_init 39 = .ok (.aload_n 0, 1) := by decide +kernel
theorem d_MO_init_40 : decode b_MO_init 40 = .ok (.bipush 11, 2) := by decide +kernel
theorem d_MO_init_42 : decode b_MO_init 42 = .ok (.newarray .long, 2) := by decide +kernel
theorem d_MO_init_44 : decode b_MO_init 44 = .ok (.putfield 22, 3) := by decide +kernel
theorem d_MO_init_47 : decode b_MO_init 47 = .ok (.aload_n 0, 1) := by decide +kernel
theorem d_MO_init_48 : decode b_MO_init 48 = .ok (.sipush 300, 3) := by decide +kernel
theorem d_MO_init_51 : decode b_MO_init 51 = .ok (.newarray .int, 2) := by decide +kernel
theorem d_MO_init_53 : decode b_MO_init 53 = .ok (.putfield 26, 3) := by decide +kernel
theorem d_MO_init_56 : decode b_MO_init 56 = .ok (.aload_n 0, 1) := by decide +kernel
theorem d_MO_init_57 : decode b_MO_init 57 = .ok (.sipush 300, 3) := by decide +kernel
theorem d_MO_init_60 : decode b_MO_init 60 = .ok (.newarray .int, 2) := by decide +kernel
theorem d_MO_init_62 : decode b_MO_init 62 = .ok (.putfield 29, 3) := by decide +kernel
theorem d_MO_init_65 : decode b_MO_init 65 = .ok (.aload_n 0, 1) := by decide +kernel
theorem d_MO_init_66 : decode b_MO_init 66 = .ok (.sipush 300, 3) := by decide +kernel
theorem d_MO_init_69 : decode b_MO_init 69 = .ok (.newarray .long, 2) := by decide +kernel
theorem d_MO_init_71 : decode b_MO_init 71 = .ok (.putfield 32, 3) := by decide +kernel
theorem d_MO_init_74 : decode b_MO_init 74 = .ok (.aload_n 0, 1) := by decide +kernel
theorem d_MO_init_75 : decode b_MO_init 75 = .ok (.sipush 300, 3) := by decide +kernel
theorem d_MO_init_78 : decode b_MO_init 78 = .ok (.newarray .long, 2) := by decide +kernel
theorem d_MO_init_80 : decode b_MO_init 80 = .ok (.putfield 35, 3) := by decide +kernel
theorem d_MO_init_83 : decode b_MO_init 83 = .ok (.aload_n 0, 1) := by decide +kernel
theorem d_MO_init_84 : decode b_MO_init 84 = .ok (.sipush 300, 3) := by decide +kernel
theorem d_MO_init_87 : decode b_MO_init 87 = .ok (.newarray .long, 2) := by decide +kernel
theorem d_MO_init_89 : decode b_MO_init 89 = .ok (.putfield 38, 3) := by decide +kernel
theorem d_MO_init_92 : decode b_MO_init 92 = .ok (.aload_n 0, 1) := by decide +kernel
theorem d_MO_init_93 : decode b_MO_init 93 = .ok (.iconst 5, 1) := by decide +kernel
theorem d_MO_init_94 : decode b_MO_init 94 = .ok (.newarray .int, 2) := by decide +kernel
theorem d_MO_init_96 : decode b_MO_init 96 = .ok (.putfield 41, 3) := by decide +kernel
theorem d_MO_init_99 : decode b_MO_init 99 = .ok (.aload_n 0, 1) := by decide +kernel
theorem d_MO_init_100 : decode b_MO_init 100 = .ok (.iconst 5, 1) := by decide +kernel
theorem d_MO_init_101 : decode b_MO_init 101 = .ok (.newarray .int, 2) := by decide +kernel
theorem d_MO_init_103 : decode b_MO_init 103 = .ok (.putfield 44, 3) := by decide +kernel
theorem d_MO_init_106 : decode b_MO_init 106 = .ok (.aload_n 0, 1) := by decide +kernel
theorem d_MO_init_107 : decode b_MO_init 107 = .ok (.iconst 5, 1) := by decide +kernel
theorem d_MO_init_108 : decode b_MO_init 108 = .ok (.newarray .long, 2) := by decide +kernel
theorem d_MO_init_110 : decode b_MO_init 110 = .ok (.putfield 47, 3) := by decide +kernel
theorem d_MO_init_113 : decode b_MO_init 113 = .ok (.aload_n 0, 1) := by decide +kernel
theorem d_MO_init_114 : decode b_MO_init 114 = .ok (.iconst (-1), 1) := by decide +kernel
theorem d_MO_init_115 : decode b_MO_init 115 = .ok (.putfield 50, 3) := by decide +kernel
theorem d_MO_init_118 : decode b_MO_init 118 = .ok (.aload_n 0, 1) := by decide +kernel
theorem d_MO_init_119 : decode b_MO_init 119 = .ok (.iconst 5, 1) := by decide +kernel
theorem d_MO_init_120 : decode b_MO_init 120 = .ok (.newarray .int, 2) := by decide +kernel
theorem d_MO_init_122 : decode b_MO_init 122 = .ok (.putfield 54, 3) := by decide +kernel
theorem d_MO_init_125 : decode b_MO_init 125 = .ok (.aload_n 0, 1) := by decide +kernel
theorem d_MO_init_126 : decode b_MO_init 126 = .ok (.iconst 5, 1) := by decide +kernel
theorem d_MO_init_127 : decode b_MO_init 127 = .ok (.newarray .int, 2) := by decide +kernel
theorem d_MO_init_129 : decode b_MO_init 129 = .ok (.putfield 57, 3) := by decide +kernel
theorem d_MO_init_132 : decode b_MO_init 132 = .ok (.aload_n 0, 1) := by decide +kernel
theorem d_MO_init_133 : decode b_MO_init 133 = .ok (.iconst 5, 1) := by decide +kernel
theorem d_MO_init_134 : decode b_MO_init 134 = .ok (.newarray .long, 2) := by decide +kernel
theorem d_MO_init_136 : decode b_MO_init 136 = .ok (.putfield 60, 3) := by decide +kernel
theorem d_MO_init_139 : decode b_MO_init 139 = .ok (.aload_n 0, 1) := by decide +kernel
theorem d_MO_init_140 : decode b_MO_init 140 = .ok (.ldc 63, 2) := by decide +kernel
theorem d_MO_init_142 : decode b_MO_init 142 = .ok (.newarray .int, 2) := by decide +kernel
theorem d_MO_init_144 : decode b_MO_init 144 = .ok (.putfield 64, 3) := by decide +kernel
theorem d_MO_init_147 : decode b_MO_init 147 = .ok (.aload_n 0, 1) := by decide +kernel
theorem d_MO_init_148 : decode b_MO_init 148 = .ok (.ldc 63, 2) := by decide +kernel
theorem d_MO_init_150 : decode b_MO_init 150 = .ok (.newarray .long, 2) := by decide +kernel
theorem d_MO_init_152 : decode b_MO_init 152 = .ok (.putfield 67, 3) := by decide +kernel
theorem d_MO_init_155 : decode b_MO_init 155 = .ok (.aload_n 0, 1) := by decide +kernel
theorem d_MO_init_156 : decode b_MO_init 156 = .ok (.sipush 3001, 3) := by decide +kernel
theorem d_MO_init_159 : decode b_MO_init 159 = .ok (.newarray .boolean, 2) := by decide +kernel
theorem d_MO_init_161 : decode b_MO_init 161 = .ok (.putfield 70, 3) := by decide +kernel
theorem d_MO_init_164 : decode b_MO_init 164 = .ok (.aload_n 0, 1) := by decide +kernel
theorem d_MO_init_165 : decode b_MO_init 165 = .ok (.bipush 30, 2) := by decide +kernel
theorem d_MO_init_167 : decode b_MO_init 167 = .ok (.newarray .int, 2) := by decide +kernel
theorem d_MO_init_169 : decode b_MO_init 169 = .ok (.putfield 74, 3) := by decide +kernel
theorem d_MO_init_172 : decode b_MO_init 172 = .ok (.aload_n 0, 1) := by decide +kernel
theorem d_MO_init_173 : decode b_MO_init 173 = .ok (.bipush 30, 2) := by decide +kernel
theorem d_MO_init_175 : decode b_MO_init 175 = .ok (.newarray .long, 2) := by decide +kernel
theorem d_MO_init_177 : decode b_MO_init 177 = .ok (.putfield 77, 3) := by decide +kernel
theorem d_MO_init_180 : decode b_MO_init 180 = .ok (.aload_n 0, 1) := by decide +kernel
theorem d_MO_init_181 : decode b_MO_init 181 = .ok (.bipush 30, 2) := by decide +kernel
theorem d_MO_init_183 : decode b_MO_init 183 = .ok (.newarray .long, 2) := by decide +kernel
theorem d_MO_init_185 : decode b_MO_init 185 = .ok (.putfield 80, 3) := by decide +kernel
theorem d_MO_init_188 : decode b_MO_init 188 = .ok (.return_, 1) := by decide +kernel
theorem d_MO_unit_0 : decode b_MO_unit 0 = .ok (.iload_n 1, 1) := by decide +kernel
theorem d_MO_unit_1 : decode b_MO_unit 1 = .ok (.iconst 1, 1) := by decide +kernel
theorem d_MO_unit_2 : decode b_MO_unit 2 = .ok (.if_icmp .lt 19, 3) := by decide +kernel
theorem d_MO_unit_5 : decode b_MO_unit 5 = .ok (.iload_n 1, 1) := by decide +kernel
theorem d_MO_unit_6 : decode b_MO_unit 6 = .ok (.bipush 127, 2) := by decide +kernel
theorem d_MO_unit_8 : decode b_MO_unit 8 = .ok (.if_icmp .gt 13, 3) := by decide +kernel
theorem d_MO_unit_11 : decode b_MO_unit 11 = .ok (.aload_n 0, 1) := by decide +kernel
theorem d_MO_unit_12 : decode b_MO_unit 12 = .ok (.getfield 83, 3) := by decide +kernel
theorem d_MO_unit_15 : decode b_MO_unit 15 = .ok (.sipush 2000, 3) := by decide +kernel
theorem d_MO_unit_18 : decode b_MO_unit 18 = .ok (.if_icmp .ne 5, 3) := by decide +kernel
theorem d_MO_unit_21 : decode b_MO_unit 21 = .ok (.iconst 0, 1) := by decide +kernel
theorem d_MO_unit_22 : decode b_MO_unit 22 = .ok (.ireturn, 1) := by decide +kernel
theorem d_MO_unit_23 : decode b_MO_unit 23 = .ok (.aload_n 0, 1) := by decide +kernel
theorem d_MO_unit_24 : decode b_MO_unit 24 = .ok (.getfield 9, 3) := by decide +kernel
theorem d_MO_unit_27 : decode b_MO_unit 27 = .ok (.aload_n 0, 1) := by decide +kernel
theorem d_MO_unit_28 : decode b_MO_unit 28 = .ok (.getfield 83, 3) := by decide +kernel
theorem d_MO_unit_31 : decode b_MO_unit 31 = .ok (.iload_n 1, 1) := by decide +kernel
theorem d_MO_unit_32 : decode b_MO_unit 32 = .ok (.iastore, 1) := by decide +kernel
theorem d_MO_unit_33 : decode b_MO_unit 33 = .ok (.aload_n 0, 1) := by decide +kernel
theorem d_MO_unit_34 : decode b_MO_unit 34 = .ok (.dup, 1) := by decide +kernel
theorem d_MO_unit_35 : decode b_MO_unit 35 = .ok (.getfield 83, 3) := by decide +kernel
theorem d_MO_unit_38 : decode b_MO_unit 38 = .ok (.iconst 1, 1) := by decide +kernel
theorem d_MO_unit_39 : decode b_MO_unit 39 = .ok (.iadd, 1) := by decide +kernel
theorem d_MO_unit_40 : decode b_MO_unit 40 = .ok (.putfield 83, 3) := by decide +kernel
theorem d_MO_unit_43 : decode b_MO_unit 43 = .ok (.iconst 1, 1) := by decide +kernel
theorem d_MO_unit_44 : decode b_MO_unit 44 = .ok (.ireturn, 1) := by decide +kernel
theorem d_MO_read_0 : decode b_MO_read 0 = .ok (.aload_n 0, 1) := by decide +kernel
theorem d_MO_read_1 : decode b_MO_read 1 = .ok (.iconst 0, 1) := by decide +kernel
theorem d_MO_read_2 : decode b_MO_read 2 = .ok (.putfield 86, 3) := by decide +kernel
theorem d_MO_read_5 : decode b_MO_read 5 = .ok (.aload_n 0, 1) := by decide +kernel
theorem d_MO_read_6 : decode b_MO_read 6 = .ok (.iconst (-1), 1) := by decide +kernel
theorem d_MO_read_7 : decode b_MO_read 7 = .ok (.putfield 96, 3) := by decide +kernel
theorem d_MO_read_10 : decode b_MO_read 10 = .ok (.aload_n 0, 1) := by decide +kernel
theorem d_MO_read_11 : decode b_MO_read 11 = .ok (.invokevirtual 120, 3) := by decide +kernel
theorem d_MO_read_14 : decode b_MO_read 14 = .ok (.iconst 0, 1) := by decide +kernel
theorem d_MO_read_15 : decode b_MO_read 15 = .ok (.istore_n 1, 1) := by decide +kernel
theorem d_MO_read_16 : decode b_MO_read 16 = .ok (.iconst 1, 1) := by decide +kernel
theorem d_MO_read_17 : decode b_MO_read 17 = .ok (.istore_n 2, 1) := by decide +kernel
theorem d_MO_read_18 : decode b_MO_read 18 = .ok (.iload_n 2, 1) := by decide +kernel
theorem d_MO_read_19 : decode b_MO_read 19 = .ok (.ifCond .eq 26, 3) := by decide +kernel
theorem d_MO_read_22 : decode b_MO_read 22 = .ok (.aload_n 0, 1) := by decide +kernel
theorem d_MO_read_23 : decode b_MO_read 23 = .ok (.getfield 89, 3) := by decide +kernel
theorem d_MO_read_26 : decode b_MO_read 26 = .ok (.aload_n 0, 1) := by decide +kernel
theorem d_MO_read_27 : decode b_MO_read 27 = .ok (.getfield 83, 3) := by decide +kernel
theorem d_MO_read_30 : decode b_MO_read 30 = .ok (.if_icmp .ge 15, 3) := by decide +kernel
theorem d_MO_read_33 : decode b_MO_read 33 = .ok (.aload_n 0, 1) := by decide +kernel
theorem d_MO_read_34 : decode b_MO_read 34 = .ok (.iload_n 1, 1) := by decide +kernel
theorem d_MO_read_35 : decode b_MO_read 35 = .ok (.invokevirtual 129, 3) := by decide +kernel
theorem d_MO_read_38 : decode b_MO_read 38 = .ok (.istore_n 2, 1) := by decide +kernel
theorem d_MO_read_39 : decode b_MO_read 39 = .ok (.iinc 1 1, 3) := by decide +kernel
theorem d_MO_read_42 : decode b_MO_read 42 = .ok (.goto (-24), 3) := by decide +kernel
theorem d_MO_read_45 : decode b_MO_read 45 = .ok (.aload_n 0, 1) := by decide +kernel
theorem d_MO_read_46 : decode b_MO_read 46 = .ok (.iconst 0, 1) := by decide +kernel
theorem d_MO_read_47 : decode b_MO_read 47 = .ok (.putfield 83, 3) := by decide +kernel
theorem d_MO_read_50 : decode b_MO_read 50 = .ok (.iload_n 2, 1) := by decide +kernel
theorem d_MO_read_51 : decode b_MO_read 51 = .ok (.ifCond .ne 10, 3) := by decide +kernel
theorem d_MO_read_54 : decode b_MO_read 54 = .ok (.iconst (-1), 1) := by decide +kernel
theorem d_MO_read_55 : decode b_MO_read 55 = .ok (.aload_n 0, 1) := by decide +kernel
theorem d_MO_read_56 : decode b_MO_read 56 = .ok (.getfield 96, 3) := by decide +kernel
theorem d_MO_read_59 : decode b_MO_read 59 = .ok (.isub, 1) := by decide +kernel
theorem d_MO_read_60 : decode b_MO_read 60 = .ok (.ireturn, 1) := by decide +kernel
theorem d_MO_read_61 : decode b_MO_read 61 = .ok (.iconst 0, 1) := by decide +kernel
theorem d_MO_read_62 : decode b_MO_read 62 = .ok (.istore_n 3, 1) := by decide +kernel
theorem d_MO_read_63 : decode b_MO_read 63 = .ok (.iload_n 3, 1) := by decide +kernel
theorem d_MO_read_64 : decode b_MO_read 64 = .ok (.iconst 5, 1) := by decide +kernel
theorem d_MO_read_65 : decode b_MO_read 65 = .ok (.iload_n 1, 1) := by decide +kernel
theorem d_MO_read_66 : decode b_MO_read 66 = .ok (.imul, 1) := by decide +kernel
theorem d_MO_read_67 : decode b_MO_read 67 = .ok (.if_icmp .ge 25, 3) := by decide +kernel
theorem d_MO_read_70 : decode b_MO_read 70 = .ok (.aload_n 0, 1) := by decide +kernel
theorem d_MO_read_71 : decode b_MO_read 71 = .ok (.getfield 16, 3) := by decide +kernel
theorem d_MO_read_74 : decode b_MO_read 74 = .ok (.sipush 2000, 3) := by decide +kernel
theorem d_MO_read_77 : decode b_MO_read 77 = .ok (.iload_n 3, 1) := by decide +kernel
theorem d_MO_read_78 : decode b_MO_read 78 = .ok (.iadd, 1) := by decide +kernel
theorem d_MO_read_79 : decode b_MO_read 79 = .ok (.aload_n 0, 1) := by decide +kernel
theorem d_MO_read_80 : decode b_MO_read 80 = .ok (.getfield 13, 3) := by decide +kernel
theorem d_MO_read_83 : decode b_MO_read 83 = .ok (.iload_n 3, 1) := by decide +kernel
theorem d_MO_read_84 : decode b_MO_read 84 = .ok (.iaload, 1) := by decide +kernel
theorem d_MO_read_85 : decode b_MO_read 85 = .ok (.iastore, 1) := by decide +kernel
theorem d_MO_read_86 : decode b_MO_read 86 = .ok (.iinc 3 1, 3) := by decide +kernel
theorem d_MO_read_89 : decode b_MO_read 89 = .ok (.goto (-26), 3) := by decide +kernel
theorem d_MO_read_92 : decode b_MO_read 92 = .ok (.aload_n 0, 1) := by decide +kernel
theorem d_MO_read_93 : decode b_MO_read 93 = .ok (.getfield 19, 3) := by decide +kernel
theorem d_MO_read_96 : decode b_MO_read 96 = .ok (.bipush 10, 2) := by decide +kernel
theorem d_MO_read_98 : decode b_MO_read 98 = .ok (.iload_n 1, 1) := by decide +kernel
theorem d_MO_read_99 : decode b_MO_read 99 = .ok (.iastore, 1) := by decide +kernel
theorem d_MO_read_100 : decode b_MO_read 100 = .ok (.iload_n 1, 1) := by decide +kernel
theorem d_MO_read_101 : decode b_MO_read 101 = .ok (.ireturn, 1) := by decide +kernel
theorem d_MO_next_0 : decode b_MO_next 0 = .ok (.aload_n 0, 1) := by decide +kernel
theorem d_MO_next_1 : decode b_MO_next 1 = .ok (.aload_n 0, 1) := by decide +kernel
theorem d_MO_next_2 : decode b_MO_next 2 = .ok (.getfield 86, 3) := by decide +kernel
theorem d_MO_next_5 : decode b_MO_next 5 = .ok (.putfield 89, 3) := by decide +kernel
theorem d_MO_next_8 : decode b_MO_next 8 = .ok (.aload_n 0, 1) := by decide +kernel
theorem d_MO_next_9 : decode b_MO_next 9 = .ok (.getfield 89, 3) := by decide +kernel
theorem d_MO_next_12 : decode b_MO_next 12 = .ok (.aload_n 0, 1) := by decide +kernel
theorem d_MO_next_13 : decode b_MO_next 13 = .ok (.getfield 83, 3) := by decide +kernel
theorem d_MO_next_16 : decode b_MO_next 16 = .ok (.if_icmp .ge 31, 3) := by decide +kernel
theorem d_MO_next_19 : decode b_MO_next 19 = .ok (.aload_n 0, 1) := by decide +kernel
theorem d_MO_next_20 : decode b_MO_next 20 = .ok (.getfield 9, 3) := by decide +kernel
theorem d_MO_next_23 : decode b_MO_next 23 = .ok (.aload_n 0, 1) := by decide +kernel
theorem d_MO_next_24 : decode b_MO_next 24 = .ok (.getfield 89, 3) := by decide +kernel
theorem d_MO_next_27 : decode b_MO_next 27 = .ok (.iaload, 1) := by decide +kernel
theorem d_MO_next_28 : decode b_MO_next 28 = .ok (.invokestatic 92, 3) := by decide +kernel
theorem d_MO_next_31 : decode b_MO_next 31 = .ok (.ifCond .eq 16, 3) := by decide +kernel
theorem d_MO_next_34 : decode b_MO_next 34 = .ok (.aload_n 0, 1) := by decide +kernel
theorem d_MO_next_35 : decode b_MO_next 35 = .ok (.dup, 1) := by decide +kernel
theorem d_MO_next_36 : decode b_MO_next 36 = .ok (.getfield 89, 3) := by decide +kernel
theorem d_MO_next_39 : decode b_MO_next 39 = .ok (.iconst 1, 1) := by decide +kernel
theorem d_MO_next_40 : decode b_MO_next 40 = .ok (.iadd, 1) := by decide +kernel
theorem d_MO_next_41 : decode b_MO_next 41 = .ok (.putfield 89, 3) := by decide +kernel
theorem d_MO_next_44 : decode b_MO_next 44 = .ok (.goto (-36), 3) := by decide +kernel
theorem d_MO_next_47 : decode b_MO_next 47 = .ok (.aload_n 0, 1) := by decide +kernel
theorem d_MO_next_48 : decode b_MO_next 48 = .ok (.aload_n 0, 1) := by decide +kernel
theorem d_MO_next_49 : decode b_MO_next 49 = .ok (.getfield 89, 3) := by decide +kernel
theorem d_MO_next_52 : decode b_MO_next 52 = .ok (.putfield 86, 3) := by decide +kernel
theorem d_MO_next_55 : decode b_MO_next 55 = .ok (.aload_n 0, 1) := by decide +kernel
theorem d_MO_next_56 : decode b_MO_next 56 = .ok (.getfield 86, 3) := by decide +kernel
theorem d_MO_next_59 : decode b_MO_next 59 = .ok (.aload_n 0, 1) := by decide +kernel
theorem d_MO_next_60 : decode b_MO_next 60 = .ok (.getfield 83, 3) := by decide +kernel
theorem d_MO_next_63 : decode b_MO_next 63 = .ok (.if_icmp .ge 30, 3) := by decide +kernel
theorem d_MO_next_66 : decode b_MO_next 66 = .ok (.aload_n 0, 1) := by decide +kernel
theorem d_MO_next_67 : decode b_MO_next 67 = .ok (.getfield 9, 3) := by decide +kernel
theorem d_MO_next_70 : decode b_MO_next 70 = .ok (.aload_n 0, 1) := by decide +kernel
theorem d_MO_next_71 : decode b_MO_next 71 = .ok (.getfield 86, 3) := by decide +kernel
theorem d_MO_next_74 : decode b_MO_next 74 = .ok (.iaload, 1) := by decide +kernel
theorem d_MO_next_75 : decode b_MO_next 75 = .ok (.bipush 59, 2) := by decide +kernel
theorem d_MO_next_77 : decode b_MO_next 77 = .ok (.if_icmp .ne 16, 3) := by decide +kernel
theorem d_MO_next_80 : decode b_MO_next 80 = .ok (.aload_n 0, 1) := by decide +kernel
theorem d_MO_next_81 : decode b_MO_next 81 = .ok (.dup, 1) := by decide +kernel
theorem d_MO_next_82 : decode b_MO_next 82 = .ok (.getfield 86, 3) := by decide +kernel
theorem d_MO_next_85 : decode b_MO_next 85 = .ok (.iconst 1, 1) := by decide +kernel
theorem d_MO_next_86 : decode b_MO_next 86 = .ok (.iadd, 1) := by decide +kernel
theorem d_MO_next_87 : decode b_MO_next 87 = .ok (.putfield 86, 3) := by decide +kernel
theorem d_MO_next_90 : decode b_MO_next 90 = .ok (.goto 56, 3) := by decide +kernel
theorem d_MO_next_93 : decode b_MO_next 93 = .ok (.aload_n 0, 1) := by decide +kernel
theorem d_MO_next_94 : decode b_MO_next 94 = .ok (.getfield 86, 3) := by decide +kernel
theorem d_MO_next_97 : decode b_MO_next 97 = .ok (.aload_n 0, 1) := by decide +kernel
theorem d_MO_next_98 : decode b_MO_next 98 = .ok (.getfield 83, 3) := by decide +kernel
theorem d_MO_next_101 : decode b_MO_next 101 = .ok (.if_icmp .ge 45, 3) := by decide +kernel
theorem d_MO_next_104 : decode b_MO_next 104 = .ok (.aload_n 0, 1) := by decide +kernel
theorem d_MO_next_105 : decode b_MO_next 105 = .ok (.getfield 9, 3) := by decide +kernel
theorem d_MO_next_108 : decode b_MO_next 108 = .ok (.aload_n 0, 1) := by decide +kernel
theorem d_MO_next_109 : decode b_MO_next 109 = .ok (.getfield 86, 3) := by decide +kernel
theorem d_MO_next_112 : decode b_MO_next 112 = .ok (.iaload, 1) := by decide +kernel
theorem d_MO_next_113 : decode b_MO_next 113 = .ok (.invokestatic 92, 3) := by decide +kernel
theorem d_MO_next_116 : decode b_MO_next 116 = .ok (.ifCond .ne 30, 3) := by decide +kernel
theorem d_MO_next_119 : decode b_MO_next 119 = .ok (.aload_n 0, 1) := by decide +kernel
theorem d_MO_next_120 : decode b_MO_next 120 = .ok (.getfield 9, 3) := by decide +kernel
theorem d_MO_next_123 : decode b_MO_next 123 = .ok (.aload_n 0, 1) := by decide +kernel
theorem d_MO_next_124 : decode b_MO_next 124 = .ok (.getfield 86, 3) := by decide +kernel
theorem d_MO_next_127 : decode b_MO_next 127 = .ok (.iaload, 1) := by decide +kernel
theorem d_MO_next_128 : decode b_MO_next 128 = .ok (.bipush 59, 2) := by decide +kernel
theorem d_MO_next_130 : decode b_MO_next 130 = .ok (.if_icmp .eq 16, 3) := by decide +kernel
theorem d_MO_next_133 : decode b_MO_next 133 = .ok (.aload_n 0, 1) := by decide +kernel
theorem d_MO_next_134 : decode b_MO_next 134 = .ok (.dup, 1) := by decide +kernel
theorem d_MO_next_135 : decode b_MO_next 135 = .ok (.getfield 86, 3) := by decide +kernel
theorem d_MO_next_138 : decode b_MO_next 138 = .ok (.iconst 1, 1) := by decide +kernel
theorem d_MO_next_139 : decode b_MO_next 139 = .ok (.iadd, 1) := by decide +kernel
theorem d_MO_next_140 : decode b_MO_next 140 = .ok (.putfield 86, 3) := by decide +kernel
theorem d_MO_next_143 : decode b_MO_next 143 = .ok (.goto (-50), 3) := by decide +kernel
theorem d_MO_next_146 : decode b_MO_next 146 = .ok (.aload_n 0, 1) := by decide +kernel
theorem d_MO_next_147 : decode b_MO_next 147 = .ok (.dup, 1) := by decide +kernel
theorem d_MO_next_148 : decode b_MO_next 148 = .ok (.getfield 96, 3) := by decide +kernel
theorem d_MO_next_151 : decode b_MO_next 151 = .ok (.iconst 1, 1) := by decide +kernel
theorem d_MO_next_152 : decode b_MO_next 152 = .ok (.iadd, 1) := by decide +kernel
theorem d_MO_next_153 : decode b_MO_next 153 = .ok (.putfield 96, 3) := by decide +kernel
theorem d_MO_next_156 : decode b_MO_next 156 = .ok (.return_, 1) := by decide +kernel
theorem d_MO_isBlank_0 : decode b_MO_isBlank 0 = .ok (.iload_n 0, 1) := by decide +kernel
theorem d_MO_isBlank_1 : decode b_MO_isBlank 1 = .ok (.bipush 32, 2) := by decide +kernel
theorem d_MO_isBlank_3 : decode b_MO_isBlank 3 = .ok (.if_icmp .eq 9, 3) := by decide +kernel
theorem d_MO_isBlank_6 : decode b_MO_isBlank 6 = .ok (.iload_n 0, 1) := by decide +kernel
theorem d_MO_isBlank_7 : decode b_MO_isBlank 7 = .ok (.bipush 10, 2) := by decide +kernel
theorem d_MO_isBlank_9 : decode b_MO_isBlank 9 = .ok (.if_icmp .ne 7, 3) := by decide +kernel
theorem d_MO_isBlank_12 : decode b_MO_isBlank 12 = .ok (.iconst 1, 1) := by decide +kernel
theorem d_MO_isBlank_13 : decode b_MO_isBlank 13 = .ok (.goto 4, 3) := by decide +kernel
theorem d_MO_isBlank_16 : decode b_MO_isBlank 16 = .ok (.iconst 0, 1) := by decide +kernel
theorem d_MO_isBlank_17 : decode b_MO_isBlank 17 = .ok (.ireturn, 1) := by decide +kernel
theorem d_MO_rule_0 : decode b_MO_rule 0 = .ok (.iconst 0, 1) := by decide +kernel
theorem d_MO_rule_1 : decode b_MO_rule 1 = .ok (.istore_n 2, 1) := by decide +kernel
theorem d_MO_rule_2 : decode b_MO_rule 2 = .ok (.iload_n 2, 1) := by decide +kernel
theorem d_MO_rule_3 : decode b_MO_rule 3 = .ok (.bipush 6, 2) := by decide +kernel
theorem d_MO_rule_5 : decode b_MO_rule 5 = .ok (.if_icmp .ge 17, 3) := by decide +kernel
theorem d_MO_rule_8 : decode b_MO_rule 8 = .ok (.aload_n 0, 1) := by decide +kernel
theorem d_MO_rule_9 : decode b_MO_rule 9 = .ok (.iload_n 2, 1) := by decide +kernel
theorem d_MO_rule_10 : decode b_MO_rule 10 = .ok (.invokevirtual 117, 3) := by decide +kernel
theorem d_MO_rule_13 : decode b_MO_rule 13 = .ok (.ifCond .ne 9, 3) := by decide +kernel
theorem d_MO_rule_16 : decode b_MO_rule 16 = .ok (.iinc 2 1, 3) := by decide +kernel
theorem d_MO_rule_19 : decode b_MO_rule 19 = .ok (.goto (-17), 3) := by decide +kernel
theorem d_MO_rule_22 : decode b_MO_rule 22 = .ok (.iconst 0, 1) := by decide +kernel
theorem d_MO_rule_23 : decode b_MO_rule 23 = .ok (.istore_n 3, 1) := by decide +kernel
theorem d_MO_rule_24 : decode b_MO_rule 24 = .ok (.iconst 0, 1) := by decide +kernel
theorem d_MO_rule_25 : decode b_MO_rule 25 = .ok (.istore 4, 2) := by decide +kernel
theorem d_MO_rule_27 : decode b_MO_rule 27 = .ok (.iload 4, 2) := by decide +kernel
theorem d_MO_rule_29 : decode b_MO_rule 29 = .ok (.iload_n 1, 1) := by decide +kernel
theorem d_MO_rule_30 : decode b_MO_rule 30 = .ok (.if_icmp .ge 35, 3) := by decide +kernel
theorem d_MO_rule_33 : decode b_MO_rule 33 = .ok (.iload_n 3, 1) := by decide +kernel
theorem d_MO_rule_34 : decode b_MO_rule 34 = .ok (.aload_n 0, 1) := by decide +kernel
theorem d_MO_rule_35 : decode b_MO_rule 35 = .ok (.getfield 13, 3) := by decide +kernel
theorem d_MO_rule_38 : decode b_MO_rule 38 = .ok (.iconst 5, 1) := by decide +kernel
theorem d_MO_rule_39 : decode b_MO_rule 39 = .ok (.iload 4, 2) := by decide +kernel
theorem d_MO_rule_41 : decode b_MO_rule 41 = .ok (.imul, 1) := by decide +kernel
theorem d_MO_rule_42 : decode b_MO_rule 42 = .ok (.iaload, 1) := by decide +kernel
theorem d_MO_rule_43 : decode b_MO_rule 43 = .ok (.iload_n 2, 1) := by decide +kernel
theorem d_MO_rule_44 : decode b_MO_rule 44 = .ok (.if_icmp .ne 12, 3) := by decide +kernel
theorem d_MO_rule_47 : decode b_MO_rule 47 = .ok (.iload_n 2, 1) := by decide +kernel
theorem d_MO_rule_48 : decode b_MO_rule 48 = .ok (.iconst 4, 1) := by decide +kernel
theorem d_MO_rule_49 : decode b_MO_rule 49 = .ok (.if_icmp .lt 7, 3) := by decide +kernel
theorem d_MO_rule_52 : decode b_MO_rule 52 = .ok (.iconst 1, 1) := by decide +kernel
theorem d_MO_rule_53 : decode b_MO_rule 53 = .ok (.goto 4, 3) := by decide +kernel
theorem d_MO_rule_56 : decode b_MO_rule 56 = .ok (.iconst 0, 1) := by decide +kernel
theorem d_MO_rule_57 : decode b_MO_rule 57 = .ok (.ior, 1) := by decide +kernel
theorem d_MO_rule_58 : decode b_MO_rule 58 = .ok (.istore_n 3, 1) := by decide +kernel
theorem d_MO_rule_59 : decode b_MO_rule 59 = .ok (.iinc 4 1, 3) := by decide +kernel
theorem d_MO_rule_62 : decode b_MO_rule 62 = .ok (.goto (-35), 3) := by decide +kernel
theorem d_MO_rule_65 : decode b_MO_rule 65 = .ok (.iload_n 2, 1) := by decide +kernel
theorem d_MO_rule_66 : decode b_MO_rule 66 = .ok (.bipush 6, 2) := by decide +kernel
theorem d_MO_rule_68 : decode b_MO_rule 68 = .ok (.if_icmp .eq 13, 3) := by decide +kernel
theorem d_MO_rule_71 : decode b_MO_rule 71 = .ok (.iload_n 1, 1) := by decide +kernel
theorem d_MO_rule_72 : decode b_MO_rule 72 = .ok (.bipush 40, 2) := by decide +kernel
theorem d_MO_rule_74 : decode b_MO_rule 74 = .ok (.if_icmp .eq 7, 3) := by decide +kernel
theorem d_MO_rule_77 : decode b_MO_rule 77 = .ok (.iload_n 3, 1) := by decide +kernel
theorem d_MO_rule_78 : decode b_MO_rule 78 = .ok (.ifCond .eq 5, 3) := by decide +kernel
theorem d_MO_rule_81 : decode b_MO_rule 81 = .ok (.iconst 0, 1) := by decide +kernel
theorem d_MO_rule_82 : decode b_MO_rule 82 = .ok (.ireturn, 1) := by decide +kernel
theorem d_MO_rule_83 : decode b_MO_rule 83 = .ok (.aload_n 0, 1) := by decide +kernel
theorem d_MO_rule_84 : decode b_MO_rule 84 = .ok (.getfield 13, 3) := by decide +kernel
theorem d_MO_rule_87 : decode b_MO_rule 87 = .ok (.iconst 5, 1) := by decide +kernel
theorem d_MO_rule_88 : decode b_MO_rule 88 = .ok (.iload_n 1, 1) := by decide +kernel
theorem d_MO_rule_89 : decode b_MO_rule 89 = .ok (.imul, 1) := by decide +kernel
theorem d_MO_rule_90 : decode b_MO_rule 90 = .ok (.iload_n 2, 1) := by decide +kernel
theorem d_MO_rule_91 : decode b_MO_rule 91 = .ok (.iastore, 1) := by decide +kernel
theorem d_MO_rule_92 : decode b_MO_rule 92 = .ok (.iconst 0, 1) := by decide +kernel
theorem d_MO_rule_93 : decode b_MO_rule 93 = .ok (.istore 4, 2) := by decide +kernel
theorem d_MO_rule_95 : decode b_MO_rule 95 = .ok (.iconst 0, 1) := by decide +kernel
theorem d_MO_rule_96 : decode b_MO_rule 96 = .ok (.istore 5, 2) := by decide +kernel
theorem d_MO_rule_98 : decode b_MO_rule 98 = .ok (.iconst 0, 1) := by decide +kernel
theorem d_MO_rule_99 : decode b_MO_rule 99 = .ok (.istore 6, 2) := by decide +kernel
theorem d_MO_rule_101 : decode b_MO_rule 101 = .ok (.aload_n 0, 1) := by decide +kernel
theorem d_MO_rule_102 : decode b_MO_rule 102 = .ok (.invokevirtual 120, 3) := by decide +kernel
theorem d_MO_rule_105 : decode b_MO_rule 105 = .ok (.iload 6, 2) := by decide +kernel
theorem d_MO_rule_107 : decode b_MO_rule 107 = .ok (.ifCond .ne 136, 3) := by decide +kernel
theorem d_MO_rule_110 : decode b_MO_rule 110 = .ok (.iload_n 2, 1) := by decide +kernel
theorem d_MO_rule_111 : decode b_MO_rule 111 = .ok (.iload 5, 2) := by decide +kernel
theorem d_MO_rule_113 : decode b_MO_rule 113 = .ok (.invokestatic 123, 3) := by decide +kernel
theorem d_MO_rule_116 : decode b_MO_rule 116 = .ok (.istore 7, 2) := by decide +kernel
theorem d_MO_rule_118 : decode b_MO_rule 118 = .ok (.iload 7, 2) := by decide +kernel
theorem d_MO_rule_120 : decode b_MO_rule 120 = .ok (.ifCond .ge 34, 3) := by decide +kernel
theorem d_MO_rule_123 : decode b_MO_rule 123 = .ok (.aload_n 0, 1) := by decide +kernel
theorem d_MO_rule_124 : decode b_MO_rule 124 = .ok (.bipush (-100), 2) := by decide +kernel
theorem d_MO_rule_126 : decode b_MO_rule 126 = .ok (.iload 7, 2) := by decide +kernel
theorem d_MO_rule_128 : decode b_MO_rule 128 = .ok (.isub, 1) := by decide +kernel
theorem d_MO_rule_129 : decode b_MO_rule 129 = .ok (.invokevirtual 117, 3) := by decide +kernel
theorem d_MO_rule_132 : decode b_MO_rule 132 = .ok (.ifCond .ne 5, 3) := by decide +kernel
theorem d_MO_rule_135 : decode b_MO_rule 135 = .ok (.iconst 0, 1) := by decide +kernel
theorem d_MO_rule_136 : decode b_MO_rule 136 = .ok (.ireturn, 1) := by decide +kernel
theorem d_MO_rule_137 : decode b_MO_rule 137 = .ok (.iload 7, 2) := by decide +kernel
theorem d_MO_rule_139 : decode b_MO_rule 139 = .ok (.bipush (-112), 2) := by decide +kernel
theorem d_MO_rule_141 : decode b_MO_rule 141 = .ok (.if_icmp .ne 7, 3) := by decide +kernel
theorem d_MO_rule_144 : decode b_MO_rule 144 = .ok (.iconst 1, 1) := by decide +kernel
theorem d_MO_rule_145 : decode b_MO_rule 145 = .ok (.goto 4, 3) := by decide +kernel
theorem d_MO_rule_148 : decode b_MO_rule 148 = .ok (.iconst 0, 1) := by decide +kernel
theorem d_MO_rule_149 : decode b_MO_rule 149 = .ok (.istore 6, 2) := by decide +kernel
theorem d_MO_rule_151 : decode b_MO_rule 151 = .ok (.goto 82, 3) := by decide +kernel
theorem d_MO_rule_154 : decode b_MO_rule 154 = .ok (.aload_n 0, 1) := by decide +kernel
theorem d_MO_rule_155 : decode b_MO_rule 155 = .ok (.iload 7, 2) := by decide +kernel
theorem d_MO_rule_157 : decode b_MO_rule 157 = .ok (.invokevirtual 126, 3) := by decide +kernel
theorem d_MO_rule_160 : decode b_MO_rule 160 = .ok (.istore 8, 2) := by decide +kernel
theorem d_MO_rule_162 : decode b_MO_rule 162 = .ok (.iload 8, 2) := by decide +kernel
theorem d_MO_rule_164 : decode b_MO_rule 164 = .ok (.iconst (-1), 1) := by decide +kernel
theorem d_MO_rule_165 : decode b_MO_rule 165 = .ok (.if_icmp .eq 38, 3) := by decide +kernel
theorem d_MO_rule_168 : decode b_MO_rule 168 = .ok (.iload_n 2, 1) := by decide +kernel
theorem d_MO_rule_169 : decode b_MO_rule 169 = .ok (.iconst 4, 1) := by decide +kernel
theorem d_MO_rule_170 : decode b_MO_rule 170 = .ok (.if_icmp .ne 8, 3) := by decide +kernel
theorem d_MO_rule_173 : decode b_MO_rule 173 = .ok (.iload 8, 2) := by decide +kernel
theorem d_MO_rule_175 : decode b_MO_rule 175 = .ok (.ifCond .eq 28, 3) := by decide +kernel
theorem d_MO_rule_178 : decode b_MO_rule 178 = .ok (.iload_n 2, 1) := by decide +kernel
theorem d_MO_rule_179 : decode b_MO_rule 179 = .ok (.ifCond .ne 28, 3) := by decide +kernel
theorem d_MO_rule_182 : decode b_MO_rule 182 = .ok (.iload 4, 2) := by decide +kernel
theorem d_MO_rule_184 : decode b_MO_rule 184 = .ok (.iconst 2, 1) := by decide +kernel
theorem d_MO_rule_185 : decode b_MO_rule 185 = .ok (.if_icmp .ne 22, 3) := by decide +kernel
theorem d_MO_rule_188 : decode b_MO_rule 188 = .ok (.iload 8, 2) := by decide +kernel
theorem d_MO_rule_190 : decode b_MO_rule 190 = .ok (.aload_n 0, 1) := by decide +kernel
theorem d_MO_rule_191 : decode b_MO_rule 191 = .ok (.getfield 13, 3) := by decide +kernel
theorem d_MO_rule_194 : decode b_MO_rule 194 = .ok (.iconst 5, 1) := by decide +kernel
theorem d_MO_rule_195 : decode b_MO_rule 195 = .ok (.iload_n 1, 1) := by decide +kernel
theorem d_MO_rule_196 : decode b_MO_rule 196 = .ok (.imul, 1) := by decide +kernel
theorem d_MO_rule_197 : decode b_MO_rule 197 = .ok (.iconst 2, 1) := by decide +kernel
theorem d_MO_rule_198 : decode b_MO_rule 198 = .ok (.iadd, 1) := by decide +kernel
theorem d_MO_rule_199 : decode b_MO_rule 199 = .ok (.iaload, 1) := by decide +kernel
theorem d_MO_rule_200 : decode b_MO_rule 200 = .ok (.if_icmp .gt 7, 3) := by decide +kernel
theorem d_MO_rule_203 : decode b_MO_rule 203 = .ok (.iconst 1, 1) := by decide +kernel
theorem d_MO_rule_204 : decode b_MO_rule 204 = .ok (.goto 4, 3) := by decide +kernel
theorem d_MO_rule_207 : decode b_MO_rule 207 = .ok (.iconst 0, 1) := by decide +kernel
theorem d_MO_rule_208 : decode b_MO_rule 208 = .ok (.istore 9, 2) := by decide +kernel
theorem d_MO_rule_210 : decode b_MO_rule 210 = .ok (.iload 9, 2) := by decide +kernel
theorem d_MO_rule_212 : decode b_MO_rule 212 = .ok (.ifCond .eq 5, 3) := by decide +kernel
theorem d_MO_rule_215 : decode b_MO_rule 215 = .ok (.iconst 0, 1) := by decide +kernel
theorem d_MO_rule_216 : decode b_MO_rule 216 = .ok (.ireturn, 1) := by decide +kernel
theorem d_MO_rule_217 : decode b_MO_rule 217 = .ok (.iinc 4 1, 3) := by decide +kernel
theorem d_MO_rule_220 : decode b_MO_rule 220 = .ok (.aload_n 0, 1) := by decide +kernel
theorem d_MO_rule_221 : decode b_MO_rule 221 = .ok (.getfield 13, 3) := by decide +kernel
theorem d_MO_rule_224 : decode b_MO_rule 224 = .ok (.iconst 5, 1) := by decide +kernel
theorem d_MO_rule_225 : decode b_MO_rule 225 = .ok (.iload_n 1, 1) := by decide +kernel
theorem d_MO_rule_226 : decode b_MO_rule 226 = .ok (.imul, 1) := by decide +kernel
theorem d_MO_rule_227 : decode b_MO_rule 227 = .ok (.iload 4, 2) := by decide +kernel
theorem d_MO_rule_229 : decode b_MO_rule 229 = .ok (.iadd, 1) := by decide +kernel
theorem d_MO_rule_230 : decode b_MO_rule 230 = .ok (.iload 8, 2) := by decide +kernel
theorem d_MO_rule_232 : decode b_MO_rule 232 = .ok (.iastore, 1) := by decide +kernel
theorem d_MO_rule_233 : decode b_MO_rule 233 = .ok (.iinc 5 1, 3) := by decide +kernel
theorem d_MO_rule_236 : decode b_MO_rule 236 = .ok (.aload_n 0, 1) := by decide +kernel
theorem d_MO_rule_237 : decode b_MO_rule 237 = .ok (.invokevirtual 120, 3) := by decide +kernel
theorem d_MO_rule_240 : decode b_MO_rule 240 = .ok (.goto (-135), 3) := by decide +kernel
theorem d_MO_rule_243 : decode b_MO_rule 243 = .ok (.iconst 1, 1) := by decide +kernel
theorem d_MO_rule_244 : decode b_MO_rule 244 = .ok (.ireturn, 1) := by decide +kernel
theorem d_MO_is_0 : decode b_MO_is 0 = .ok (.aload_n 0, 1) := by decide +kernel
theorem d_MO_is_1 : decode b_MO_is 1 = .ok (.getfield 86, 3) := by decide +kernel
theorem d_MO_is_4 : decode b_MO_is 4 = .ok (.aload_n 0, 1) := by decide +kernel
theorem d_MO_is_5 : decode b_MO_is 5 = .ok (.getfield 89, 3) := by decide +kernel
theorem d_MO_is_8 : decode b_MO_is 8 = .ok (.isub, 1) := by decide +kernel
theorem d_MO_is_9 : decode b_MO_is 9 = .ok (.iload_n 1, 1) := by decide +kernel
theorem d_MO_is_10 : decode b_MO_is 10 = .ok (.invokestatic 99, 3) := by decide +kernel
theorem d_MO_is_13 : decode b_MO_is 13 = .ok (.if_icmp .eq 5, 3) := by decide +kernel
theorem d_MO_is_16 : decode b_MO_is 16 = .ok (.iconst 0, 1) := by decide +kernel
theorem d_MO_is_17 : decode b_MO_is 17 = .ok (.ireturn, 1) := by decide +kernel
theorem d_MO_is_18 : decode b_MO_is 18 = .ok (.iconst 0, 1) := by decide +kernel
theorem d_MO_is_19 : decode b_MO_is 19 = .ok (.istore_n 2, 1) := by decide +kernel
theorem d_MO_is_20 : decode b_MO_is 20 = .ok (.iload_n 2, 1) := by decide +kernel
theorem d_MO_is_21 : decode b_MO_is 21 = .ok (.iload_n 1, 1) := by decide +kernel
theorem d_MO_is_22 : decode b_MO_is 22 = .ok (.invokestatic 99, 3) := by decide +kernel
theorem d_MO_is_25 : decode b_MO_is 25 = .ok (.if_icmp .ge 30, 3) := by decide +kernel
theorem d_MO_is_28 : decode b_MO_is 28 = .ok (.aload_n 0, 1) := by decide +kernel
theorem d_MO_is_29 : decode b_MO_is 29 = .ok (.getfield 9, 3) := by decide +kernel
theorem d_MO_is_32 : decode b_MO_is 32 = .ok (.aload_n 0, 1) := by decide +kernel
theorem d_MO_is_33 : decode b_MO_is 33 = .ok (.getfield 89, 3) := by decide +kernel
theorem d_MO_is_36 : decode b_MO_is 36 = .ok (.iload_n 2, 1) := by decide +kernel
theorem d_MO_is_37 : decode b_MO_is 37 = .ok (.iadd, 1) := by decide +kernel
theorem d_MO_is_38 : decode b_MO_is 38 = .ok (.iaload, 1) := by decide +kernel
theorem d_MO_is_39 : decode b_MO_is 39 = .ok (.iload_n 1, 1) := by decide +kernel
theorem d_MO_is_40 : decode b_MO_is 40 = .ok (.iload_n 2, 1) := by decide +kernel
theorem d_MO_is_41 : decode b_MO_is 41 = .ok (.invokestatic 103, 3) := by decide +kernel
theorem d_MO_is_44 : decode b_MO_is 44 = .ok (.if_icmp .eq 5, 3) := by decide +kernel
theorem d_MO_is_47 : decode b_MO_is 47 = .ok (.iconst 0, 1) := by decide +kernel
theorem d_MO_is_48 : decode b_MO_is 48 = .ok (.ireturn, 1) := by decide +kernel
theorem d_MO_is_49 : decode b_MO_is 49 = .ok (.iinc 2 1, 3) := by decide +kernel
theorem d_MO_is_52 : decode b_MO_is 52 = .ok (.goto (-32), 3) := by decide +kernel
theorem d_MO_is_55 : decode b_MO_is 55 = .ok (.iconst 1, 1) := by decide +kernel
theorem d_MO_is_56 : decode b_MO_is 56 = .ok (.ireturn, 1) := by decide +kernel
theorem d_MO_wordSize_0 : decode b_MO_wordSize 0 = .ok (.iconst 0, 1) := by decide +kernel
theorem d_MO_wordSize_1 : decode b_MO_wordSize 1 = .ok (.istore_n 1, 1) := by decide +kernel
theorem d_MO_wordSize_2 : decode b_MO_wordSize 2 = .ok (.iload_n 0, 1) := by decide +kernel
theorem d_MO_wordSize_3 : decode b_MO_wordSize 3 = .ok (.iload_n 1, 1) := by decide +kernel
theorem d_MO_wordSize_4 : decode b_MO_wordSize 4 = .ok (.invokestatic 103, 3) := by decide +kernel
theorem d_MO_wordSize_7 : decode b_MO_wordSize 7 = .ok (.iconst (-1), 1) := by decide +kernel
theorem d_MO_wordSize_8 : decode b_MO_wordSize 8 = .ok (.if_icmp .eq 9, 3) := by decide +kernel
theorem d_MO_wordSize_11 : decode b_MO_wordSize 11 = .ok (.iinc 1 1, 3) := by decide +kernel
theorem d_MO_wordSize_14 : decode b_MO_wordSize 14 = .ok (.goto (-12), 3) := by decide +kernel
theorem d_MO_wordSize_17 : decode b_MO_wordSize 17 = .ok (.iload_n 1, 1) := by decide +kernel
theorem d_MO_wordSize_18 : decode b_MO_wordSize 18 = .ok (.ireturn, 1) := by decide +kernel
theorem d_MO_wordByte_0 : decode b_MO_wordByte 0 = .ok (.ldc 107, 2) := by decide +kernel
theorem d_MO_wordByte_2 : decode b_MO_wordByte 2 = .ok (.astore_n 2, 1) := by decide +kernel
theorem d_MO_wordByte_3 : decode b_MO_wordByte 3 = .ok (.iconst 0, 1) := by decide +kernel
theorem d_MO_wordByte_4 : decode b_MO_wordByte 4 = .ok (.istore_n 3, 1) := by decide +kernel
theorem d_MO_wordByte_5 : decode b_MO_wordByte 5 = .ok (.iconst 0, 1) := by decide +kernel
theorem d_MO_wordByte_6 : decode b_MO_wordByte 6 = .ok (.istore 4, 2) := by decide +kernel
theorem d_MO_wordByte_8 : decode b_MO_wordByte 8 = .ok (.iload 4, 2) := by decide +kernel
theorem d_MO_wordByte_10 : decode b_MO_wordByte 10 = .ok (.iload_n 0, 1) := by decide +kernel
theorem d_MO_wordByte_11 : decode b_MO_wordByte 11 = .ok (.if_icmp .ge 28, 3) := by decide +kernel
theorem d_MO_wordByte_14 : decode b_MO_wordByte 14 = .ok (.aload_n 2, 1) := by decide +kernel
theorem d_MO_wordByte_15 : decode b_MO_wordByte 15 = .ok (.iload_n 3, 1) := by decide +kernel
theorem d_MO_wordByte_16 : decode b_MO_wordByte 16 = .ok (.invokevirtual 109, 3) := by decide +kernel
theorem d_MO_wordByte_19 : decode b_MO_wordByte 19 = .ok (.bipush 32, 2) := by decide +kernel
theorem d_MO_wordByte_21 : decode b_MO_wordByte 21 = .ok (.if_icmp .eq 9, 3) := by decide +kernel
theorem d_MO_wordByte_24 : decode b_MO_wordByte 24 = .ok (.iinc 3 1, 3) := by decide +kernel
theorem d_MO_wordByte_27 : decode b_MO_wordByte 27 = .ok (.goto (-13), 3) := by decide +kernel
theorem d_MO_wordByte_30 : decode b_MO_wordByte 30 = .ok (.iinc 3 1, 3) := by decide +kernel
theorem d_MO_wordByte_33 : decode b_MO_wordByte 33 = .ok (.iinc 4 1, 3) := by decide +kernel
theorem d_MO_wordByte_36 : decode b_MO_wordByte 36 = .ok (.goto (-28), 3) := by decide +kernel
theorem d_MO_wordByte_39 : decode b_MO_wordByte 39 = .ok (.iconst 0, 1) := by decide +kernel
theorem d_MO_wordByte_40 : decode b_MO_wordByte 40 = .ok (.istore 4, 2) := by decide +kernel
theorem d_MO_wordByte_42 : decode b_MO_wordByte 42 = .ok (.iload 4, 2) := by decide +kernel
theorem d_MO_wordByte_44 : decode b_MO_wordByte 44 = .ok (.iload_n 1, 1) := by decide +kernel
theorem d_MO_wordByte_45 : decode b_MO_wordByte 45 = .ok (.if_icmp .ge 24, 3) := by decide +kernel
theorem d_MO_wordByte_48 : decode b_MO_wordByte 48 = .ok (.aload_n 2, 1) := by decide +kernel
theorem d_MO_wordByte_49 : decode b_MO_wordByte 49 = .ok (.iload_n 3, 1) := by decide +kernel
theorem d_MO_wordByte_50 : decode b_MO_wordByte 50 = .ok (.iload 4, 2) := by decide +kernel
theorem d_MO_wordByte_52 : decode b_MO_wordByte 52 = .ok (.iadd, 1) := by decide +kernel
theorem d_MO_wordByte_53 : decode b_MO_wordByte 53 = .ok (.invokevirtual 109, 3) := by decide +kernel
theorem d_MO_wordByte_56 : decode b_MO_wordByte 56 = .ok (.bipush 32, 2) := by decide +kernel
theorem d_MO_wordByte_58 : decode b_MO_wordByte 58 = .ok (.if_icmp .ne 5, 3) := by decide +kernel
theorem d_MO_wordByte_61 : decode b_MO_wordByte 61 = .ok (.iconst (-1), 1) := by decide +kernel
theorem d_MO_wordByte_62 : decode b_MO_wordByte 62 = .ok (.ireturn, 1) := by decide +kernel
theorem d_MO_wordByte_63 : decode b_MO_wordByte 63 = .ok (.iinc 4 1, 3) := by decide +kernel
theorem d_MO_wordByte_66 : decode b_MO_wordByte 66 = .ok (.goto (-24), 3) := by decide +kernel
theorem d_MO_wordByte_69 : decode b_MO_wordByte 69 = .ok (.aload_n 2, 1) := by decide +kernel
theorem d_MO_wordByte_70 : decode b_MO_wordByte 70 = .ok (.iload_n 3, 1) := by decide +kernel
theorem d_MO_wordByte_71 : decode b_MO_wordByte 71 = .ok (.iload_n 1, 1) := by decide +kernel
theorem d_MO_wordByte_72 : decode b_MO_wordByte 72 = .ok (.iadd, 1) := by decide +kernel
theorem d_MO_wordByte_73 : decode b_MO_wordByte 73 = .ok (.invokevirtual 109, 3) := by decide +kernel
theorem d_MO_wordByte_76 : decode b_MO_wordByte 76 = .ok (.bipush 32, 2) := by decide +kernel
theorem d_MO_wordByte_78 : decode b_MO_wordByte 78 = .ok (.if_icmp .ne 7, 3) := by decide +kernel
theorem d_MO_wordByte_81 : decode b_MO_wordByte 81 = .ok (.iconst (-1), 1) := by decide +kernel
theorem d_MO_wordByte_82 : decode b_MO_wordByte 82 = .ok (.goto 10, 3) := by decide +kernel
theorem d_MO_wordByte_85 : decode b_MO_wordByte 85 = .ok (.aload_n 2, 1) := by decide +kernel
theorem d_MO_wordByte_86 : decode b_MO_wordByte 86 = .ok (.iload_n 3, 1) := by decide +kernel
theorem d_MO_wordByte_87 : decode b_MO_wordByte 87 = .ok (.iload_n 1, 1) := by decide +kernel
theorem d_MO_wordByte_88 : decode b_MO_wordByte 88 = .ok (.iadd, 1) := by decide +kernel
theorem d_MO_wordByte_89 : decode b_MO_wordByte 89 = .ok (.invokevirtual 109, 3) := by decide +kernel
theorem d_MO_wordByte_92 : decode b_MO_wordByte 92 = .ok (.ireturn, 1) := by decide +kernel
theorem d_MO_part_0 : decode b_MO_part 0 = .ok (.iload_n 0, 1) := by decide +kernel
theorem d_MO_part_1 : decode b_MO_part 1 = .ok (.tableswitch 239 0 4 #[35, 110, 162, 194, 226], 35) := by decide +kernel
theorem d_MO_part_36 : decode b_MO_part 36 = .ok (.iload_n 1, 1) := by decide +kernel
theorem d_MO_part_37 : decode b_MO_part 37 = .ok (.ifCond .ne 8, 3) := by decide +kernel
theorem d_MO_part_40 : decode b_MO_part 40 = .ok (.bipush 9, 2) := by decide +kernel
theorem d_MO_part_42 : decode b_MO_part 42 = .ok (.goto 68, 3) := by decide +kernel
theorem d_MO_part_45 : decode b_MO_part 45 = .ok (.iload_n 1, 1) := by decide +kernel
theorem d_MO_part_46 : decode b_MO_part 46 = .ok (.iconst 1, 1) := by decide +kernel
theorem d_MO_part_47 : decode b_MO_part 47 = .ok (.if_icmp .ne 8, 3) := by decide +kernel
theorem d_MO_part_50 : decode b_MO_part 50 = .ok (.bipush (-106), 2) := by decide +kernel
theorem d_MO_part_52 : decode b_MO_part 52 = .ok (.goto 58, 3) := by decide +kernel
theorem d_MO_part_55 : decode b_MO_part 55 = .ok (.iload_n 1, 1) := by decide +kernel
theorem d_MO_part_56 : decode b_MO_part 56 = .ok (.iconst 2, 1) := by decide +kernel
theorem d_MO_part_57 : decode b_MO_part 57 = .ok (.if_icmp .ne 9, 3) := by decide +kernel
theorem d_MO_part_60 : decode b_MO_part 60 = .ok (.sipush 10000, 3) := by decide +kernel
theorem d_MO_part_63 : decode b_MO_part 63 = .ok (.goto 47, 3) := by decide +kernel
theorem d_MO_part_66 : decode b_MO_part 66 = .ok (.iload_n 1, 1) := by decide +kernel
theorem d_MO_part_67 : decode b_MO_part 67 = .ok (.iconst 3, 1) := by decide +kernel
theorem d_MO_part_68 : decode b_MO_part 68 = .ok (.if_icmp .ne 8, 3) := by decide +kernel
theorem d_MO_part_71 : decode b_MO_part 71 = .ok (.bipush (-107), 2) := by decide +kernel
theorem d_MO_part_73 : decode b_MO_part 73 = .ok (.goto 37, 3) := by decide +kernel
theorem d_MO_part_76 : decode b_MO_part 76 = .ok (.iload_n 1, 1) := by decide +kernel
theorem d_MO_part_77 : decode b_MO_part 77 = .ok (.iconst 4, 1) := by decide +kernel
theorem d_MO_part_78 : decode b_MO_part 78 = .ok (.if_icmp .ne 9, 3) := by decide +kernel
theorem d_MO_part_81 : decode b_MO_part 81 = .ok (.sipush 10000, 3) := by decide +kernel
theorem d_MO_part_84 : decode b_MO_part 84 = .ok (.goto 26, 3) := by decide +kernel
theorem d_MO_part_87 : decode b_MO_part 87 = .ok (.iload_n 1, 1) := by decide +kernel
theorem d_MO_part_88 : decode b_MO_part 88 = .ok (.iconst 5, 1) := by decide +kernel
theorem d_MO_part_89 : decode b_MO_part 89 = .ok (.if_icmp .ne 8, 3) := by decide +kernel
theorem d_MO_part_92 : decode b_MO_part 92 = .ok (.bipush (-108), 2) := by decide +kernel
theorem d_MO_part_94 : decode b_MO_part 94 = .ok (.goto 16, 3) := by decide +kernel
theorem d_MO_part_97 : decode b_MO_part 97 = .ok (.iload_n 1, 1) := by decide +kernel
theorem d_MO_part_98 : decode b_MO_part 98 = .ok (.bipush 6, 2) := by decide +kernel
theorem d_MO_part_100 : decode b_MO_part 100 = .ok (.if_icmp .ne 8, 3) := by decide +kernel
theorem d_MO_part_103 : decode b_MO_part 103 = .ok (.ldc 115, 2) := by decide +kernel
theorem d_MO_part_105 : decode b_MO_part 105 = .ok (.goto 5, 3) := by decide +kernel
theorem d_MO_part_108 : decode b_MO_part 108 = .ok (.bipush (-112), 2) := by decide +kernel
theorem d_MO_part_110 : decode b_MO_part 110 = .ok (.ireturn, 1) := by decide +kernel
theorem d_MO_part_111 : decode b_MO_part 111 = .ok (.iload_n 1, 1) := by decide +kernel
theorem d_MO_part_112 : decode b_MO_part 112 = .ok (.ifCond .ne 8, 3) := by decide +kernel
theorem d_MO_part_115 : decode b_MO_part 115 = .ok (.bipush 9, 2) := by decide +kernel
theorem d_MO_part_117 : decode b_MO_part 117 = .ok (.goto 45, 3) := by decide +kernel
theorem d_MO_part_120 : decode b_MO_part 120 = .ok (.iload_n 1, 1) := by decide +kernel
theorem d_MO_part_121 : decode b_MO_part 121 = .ok (.iconst 1, 1) := by decide +kernel
theorem d_MO_part_122 : decode b_MO_part 122 = .ok (.if_icmp .ne 8, 3) := by decide +kernel
theorem d_MO_part_125 : decode b_MO_part 125 = .ok (.bipush (-109), 2) := by decide +kernel
theorem d_MO_part_127 : decode b_MO_part 127 = .ok (.goto 35, 3) := by decide +kernel
theorem d_MO_part_130 : decode b_MO_part 130 = .ok (.iload_n 1, 1) := by decide +kernel
theorem d_MO_part_131 : decode b_MO_part 131 = .ok (.iconst 2, 1) := by decide +kernel
theorem d_MO_part_132 : decode b_MO_part 132 = .ok (.if_icmp .ne 8, 3) := by decide +kernel
theorem d_MO_part_135 : decode b_MO_part 135 = .ok (.ldc 116, 2) := by decide +kernel
theorem d_MO_part_137 : decode b_MO_part 137 = .ok (.goto 25, 3) := by decide +kernel
theorem d_MO_part_140 : decode b_MO_part 140 = .ok (.iload_n 1, 1) := by decide +kernel
theorem d_MO_part_141 : decode b_MO_part 141 = .ok (.iconst 3, 1) := by decide +kernel
theorem d_MO_part_142 : decode b_MO_part 142 = .ok (.if_icmp .ne 8, 3) := by decide +kernel
theorem d_MO_part_145 : decode b_MO_part 145 = .ok (.bipush (-110), 2) := by decide +kernel
theorem d_MO_part_147 : decode b_MO_part 147 = .ok (.goto 15, 3) := by decide +kernel
theorem d_MO_part_150 : decode b_MO_part 150 = .ok (.iload_n 1, 1) := by decide +kernel
theorem d_MO_part_151 : decode b_MO_part 151 = .ok (.iconst 4, 1) := by decide +kernel
theorem d_MO_part_152 : decode b_MO_part 152 = .ok (.if_icmp .ne 8, 3) := by decide +kernel
theorem d_MO_part_155 : decode b_MO_part 155 = .ok (.bipush 100, 2) := by decide +kernel
theorem d_MO_part_157 : decode b_MO_part 157 = .ok (.goto 5, 3) := by decide +kernel
theorem d_MO_part_160 : decode b_MO_part 160 = .ok (.bipush (-112), 2) := by decide +kernel
theorem d_MO_part_162 : decode b_MO_part 162 = .ok (.ireturn, 1) := by decide +kernel
theorem d_MO_part_163 : decode b_MO_part 163 = .ok (.iload_n 1, 1) := by decide +kernel
theorem d_MO_part_164 : decode b_MO_part 164 = .ok (.ifCond .ne 8, 3) := by decide +kernel
theorem d_MO_part_167 : decode b_MO_part 167 = .ok (.bipush 9, 2) := by decide +kernel
theorem d_MO_part_169 : decode b_MO_part 169 = .ok (.goto 25, 3) := by decide +kernel
theorem d_MO_part_172 : decode b_MO_part 172 = .ok (.iload_n 1, 1) := by decide +kernel
theorem d_MO_part_173 : decode b_MO_part 173 = .ok (.iconst 1, 1) := by decide +kernel
theorem d_MO_part_174 : decode b_MO_part 174 = .ok (.if_icmp .ne 8, 3) := by decide +kernel
theorem d_MO_part_177 : decode b_MO_part 177 = .ok (.bipush (-111), 2) := by decide +kernel
theorem d_MO_part_179 : decode b_MO_part 179 = .ok (.goto 15, 3) := by decide +kernel
theorem d_MO_part_182 : decode b_MO_part 182 = .ok (.iload_n 1, 1) := by decide +kernel
theorem d_MO_part_183 : decode b_MO_part 183 = .ok (.iconst 2, 1) := by decide +kernel
theorem d_MO_part_184 : decode b_MO_part 184 = .ok (.if_icmp .ne 8, 3) := by decide +kernel
theorem d_MO_part_187 : decode b_MO_part 187 = .ok (.bipush 100, 2) := by decide +kernel
theorem d_MO_part_189 : decode b_MO_part 189 = .ok (.goto 5, 3) := by decide +kernel
theorem d_MO_part_192 : decode b_MO_part 192 = .ok (.bipush (-112), 2) := by decide +kernel
theorem d_MO_part_194 : decode b_MO_part 194 = .ok (.ireturn, 1) := by decide +kernel
theorem d_MO_part_195 : decode b_MO_part 195 = .ok (.iload_n 1, 1) := by decide +kernel
theorem d_MO_part_196 : decode b_MO_part 196 = .ok (.ifCond .ne 8, 3) := by decide +kernel
theorem d_MO_part_199 : decode b_MO_part 199 = .ok (.bipush 9, 2) := by decide +kernel
theorem d_MO_part_201 : decode b_MO_part 201 = .ok (.goto 25, 3) := by decide +kernel
theorem d_MO_part_204 : decode b_MO_part 204 = .ok (.iload_n 1, 1) := by decide +kernel
theorem d_MO_part_205 : decode b_MO_part 205 = .ok (.iconst 1, 1) := by decide +kernel
theorem d_MO_part_206 : decode b_MO_part 206 = .ok (.if_icmp .ne 8, 3) := by decide +kernel
theorem d_MO_part_209 : decode b_MO_part 209 = .ok (.bipush (-110), 2) := by decide +kernel
theorem d_MO_part_211 : decode b_MO_part 211 = .ok (.goto 15, 3) := by decide +kernel
theorem d_MO_part_214 : decode b_MO_part 214 = .ok (.iload_n 1, 1) := by decide +kernel
theorem d_MO_part_215 : decode b_MO_part 215 = .ok (.iconst 2, 1) := by decide +kernel
theorem d_MO_part_216 : decode b_MO_part 216 = .ok (.if_icmp .ne 8, 3) := by decide +kernel
theorem d_MO_part_219 : decode b_MO_part 219 = .ok (.bipush 100, 2) := by decide +kernel
theorem d_MO_part_221 : decode b_MO_part 221 = .ok (.goto 5, 3) := by decide +kernel
theorem d_MO_part_224 : decode b_MO_part 224 = .ok (.bipush (-112), 2) := by decide +kernel
theorem d_MO_part_226 : decode b_MO_part 226 = .ok (.ireturn, 1) := by decide +kernel
theorem d_MO_part_227 : decode b_MO_part 227 = .ok (.iload_n 1, 1) := by decide +kernel
theorem d_MO_part_228 : decode b_MO_part 228 = .ok (.ifCond .ne 9, 3) := by decide +kernel
theorem d_MO_part_231 : decode b_MO_part 231 = .ok (.sipush 1000, 3) := by decide +kernel
theorem d_MO_part_234 : decode b_MO_part 234 = .ok (.goto 5, 3) := by decide +kernel
theorem d_MO_part_237 : decode b_MO_part 237 = .ok (.bipush (-112), 2) := by decide +kernel
theorem d_MO_part_239 : decode b_MO_part 239 = .ok (.ireturn, 1) := by decide +kernel
theorem d_MO_part_240 : decode b_MO_part 240 = .ok (.iload_n 1, 1) := by decide +kernel
theorem d_MO_part_241 : decode b_MO_part 241 = .ok (.ifCond .ne 8, 3) := by decide +kernel
theorem d_MO_part_244 : decode b_MO_part 244 = .ok (.bipush 100, 2) := by decide +kernel
theorem d_MO_part_246 : decode b_MO_part 246 = .ok (.goto 5, 3) := by decide +kernel
theorem d_MO_part_249 : decode b_MO_part 249 = .ok (.bipush (-112), 2) := by decide +kernel
theorem d_MO_part_251 : decode b_MO_part 251 = .ok (.ireturn, 1) := by decide +kernel
theorem d_MO_number_0 : decode b_MO_number 0 = .ok (.aload_n 0, 1) := by decide +kernel
theorem d_MO_number_1 : decode b_MO_number 1 = .ok (.getfield 89, 3) := by decide +kernel
theorem d_MO_number_4 : decode b_MO_number 4 = .ok (.aload_n 0, 1) := by decide +kernel
theorem d_MO_number_5 : decode b_MO_number 5 = .ok (.getfield 86, 3) := by decide +kernel
theorem d_MO_number_8 : decode b_MO_number 8 = .ok (.if_icmp .eq 44, 3) := by decide +kernel
theorem d_MO_number_11 : decode b_MO_number 11 = .ok (.aload_n 0, 1) := by decide +kernel
theorem d_MO_number_12 : decode b_MO_number 12 = .ok (.getfield 9, 3) := by decide +kernel
theorem d_MO_number_15 : decode b_MO_number 15 = .ok (.aload_n 0, 1) := by decide +kernel
theorem d_MO_number_16 : decode b_MO_number 16 = .ok (.getfield 89, 3) := by decide +kernel
theorem d_MO_number_19 : decode b_MO_number 19 = .ok (.iaload, 1) := by decide +kernel
theorem d_MO_number_20 : decode b_MO_number 20 = .ok (.bipush 48, 2) := by decide +kernel
theorem d_MO_number_22 : decode b_MO_number 22 = .ok (.if_icmp .ne 16, 3) := by decide +kernel
theorem d_MO_number_25 : decode b_MO_number 25 = .ok (.aload_n 0, 1) := by decide +kernel
theorem d_MO_number_26 : decode b_MO_number 26 = .ok (.getfield 86, 3) := by decide +kernel
theorem d_MO_number_29 : decode b_MO_number 29 = .ok (.aload_n 0, 1) := by decide +kernel
theorem d_MO_number_30 : decode b_MO_number 30 = .ok (.getfield 89, 3) := by decide +kernel
theorem d_MO_number_33 : decode b_MO_number 33 = .ok (.isub, 1) := by decide +kernel
theorem d_MO_number_34 : decode b_MO_number 34 = .ok (.iconst 1, 1) := by decide +kernel
theorem d_MO_number_35 : decode b_MO_number 35 = .ok (.if_icmp .gt 17, 3) := by decide +kernel
theorem d_MO_number_38 : decode b_MO_number 38 = .ok (.aload_n 0, 1) := by decide +kernel
theorem d_MO_number_39 : decode b_MO_number 39 = .ok (.getfield 86, 3) := by decide +kernel
theorem d_MO_number_42 : decode b_MO_number 42 = .ok (.aload_n 0, 1) := by decide +kernel
theorem d_MO_number_43 : decode b_MO_number 43 = .ok (.getfield 89, 3) := by decide +kernel
theorem d_MO_number_46 : decode b_MO_number 46 = .ok (.isub, 1) := by decide +kernel
theorem d_MO_number_47 : decode b_MO_number 47 = .ok (.bipush 9, 2) := by decide +kernel
theorem d_MO_number_49 : decode b_MO_number 49 = .ok (.if_icmp .le 5, 3) := by decide +kernel
theorem d_MO_number_52 : decode b_MO_number 52 = .ok (.iconst (-1), 1) := by decide +kernel
theorem d_MO_number_53 : decode b_MO_number 53 = .ok (.ireturn, 1) := by decide +kernel
theorem d_MO_number_54 : decode b_MO_number 54 = .ok (.iconst 0, 1) := by decide +kernel
theorem d_MO_number_55 : decode b_MO_number 55 = .ok (.istore_n 2, 1) := by decide +kernel
theorem d_MO_number_56 : decode b_MO_number 56 = .ok (.aload_n 0, 1) := by decide +kernel
theorem d_MO_number_57 : decode b_MO_number 57 = .ok (.getfield 89, 3) := by decide +kernel
theorem d_MO_number_60 : decode b_MO_number 60 = .ok (.istore_n 3, 1) := by decide +kernel
theorem d_MO_number_61 : decode b_MO_number 61 = .ok (.iload_n 3, 1) := by decide +kernel
theorem d_MO_number_62 : decode b_MO_number 62 = .ok (.aload_n 0, 1) := by decide +kernel
theorem d_MO_number_63 : decode b_MO_number 63 = .ok (.getfield 86, 3) := by decide +kernel
theorem d_MO_number_66 : decode b_MO_number 66 = .ok (.if_icmp .ge 48, 3) := by decide +kernel
theorem d_MO_number_69 : decode b_MO_number 69 = .ok (.aload_n 0, 1) := by decide +kernel
theorem d_MO_number_70 : decode b_MO_number 70 = .ok (.getfield 9, 3) := by decide +kernel
theorem d_MO_number_73 : decode b_MO_number 73 = .ok (.iload_n 3, 1) := by decide +kernel
theorem d_MO_number_74 : decode b_MO_number 74 = .ok (.iaload, 1) := by decide +kernel
theorem d_MO_number_75 : decode b_MO_number 75 = .ok (.bipush 48, 2) := by decide +kernel
theorem d_MO_number_77 : decode b_MO_number 77 = .ok (.if_icmp .lt 14, 3) := by decide +kernel
theorem d_MO_number_80 : decode b_MO_number 80 = .ok (.aload_n 0, 1) := by decide +kernel
theorem d_MO_number_81 : decode b_MO_number 81 = .ok (.getfield 9, 3) := by decide +kernel
theorem d_MO_number_84 : decode b_MO_number 84 = .ok (.iload_n 3, 1) := by decide +kernel
theorem d_MO_number_85 : decode b_MO_number 85 = .ok (.iaload, 1) := by decide +kernel
theorem d_MO_number_86 : decode b_MO_number 86 = .ok (.bipush 57, 2) := by decide +kernel
theorem d_MO_number_88 : decode b_MO_number 88 = .ok (.if_icmp .le 5, 3) := by decide +kernel
theorem d_MO_number_91 : decode b_MO_number 91 = .ok (.iconst (-1), 1) := by decide +kernel
theorem d_MO_number_92 : decode b_MO_number 92 = .ok (.ireturn, 1) := by decide +kernel
theorem d_MO_number_93 : decode b_MO_number 93 = .ok (.bipush 10, 2) := by decide +kernel
theorem d_MO_number_95 : decode b_MO_number 95 = .ok (.iload_n 2, 1) := by decide +kernel
theorem d_MO_number_96 : decode b_MO_number 96 = .ok (.imul, 1) := by decide +kernel
theorem d_MO_number_97 : decode b_MO_number 97 = .ok (.aload_n 0, 1) := by decide +kernel
theorem d_MO_number_98 : decode b_MO_number 98 = .ok (.getfield 9, 3) := by decide +kernel
theorem d_MO_number_101 : decode b_MO_number 101 = .ok (.iload_n 3, 1) := by decide +kernel
theorem d_MO_number_102 : decode b_MO_number 102 = .ok (.iaload, 1) := by decide +kernel
theorem d_MO_number_103 : decode b_MO_number 103 = .ok (.iadd, 1) := by decide +kernel
theorem d_MO_number_104 : decode b_MO_number 104 = .ok (.bipush 48, 2) := by decide +kernel
theorem d_MO_number_106 : decode b_MO_number 106 = .ok (.isub, 1) := by decide +kernel
theorem d_MO_number_107 : decode b_MO_number 107 = .ok (.istore_n 2, 1) := by decide +kernel
theorem d_MO_number_108 : decode b_MO_number 108 = .ok (.iinc 3 1, 3) := by decide +kernel
theorem d_MO_number_111 : decode b_MO_number 111 = .ok (.goto (-50), 3) := by decide +kernel
theorem d_MO_number_114 : decode b_MO_number 114 = .ok (.iload_n 2, 1) := by decide +kernel
theorem d_MO_number_115 : decode b_MO_number 115 = .ok (.iload_n 1, 1) := by decide +kernel
theorem d_MO_number_116 : decode b_MO_number 116 = .ok (.if_icmp .le 7, 3) := by decide +kernel
theorem d_MO_number_119 : decode b_MO_number 119 = .ok (.iconst (-1), 1) := by decide +kernel
theorem d_MO_number_120 : decode b_MO_number 120 = .ok (.goto 4, 3) := by decide +kernel
theorem d_MO_number_123 : decode b_MO_number 123 = .ok (.iload_n 2, 1) := by decide +kernel
theorem d_MO_number_124 : decode b_MO_number 124 = .ok (.ireturn, 1) := by decide +kernel
theorem d_MO_edition_0 : decode b_MO_edition 0 = .ok (.lload_n 1, 1) := by decide +kernel
theorem d_MO_edition_1 : decode b_MO_edition 1 = .ok (.lconst 0, 1) := by decide +kernel
theorem d_MO_edition_2 : decode b_MO_edition 2 = .ok (.lcmp, 1) := by decide +kernel
theorem d_MO_edition_3 : decode b_MO_edition 3 = .ok (.ifCond .lt 11, 3) := by decide +kernel
theorem d_MO_edition_6 : decode b_MO_edition 6 = .ok (.lload_n 1, 1) := by decide +kernel
theorem d_MO_edition_7 : decode b_MO_edition 7 = .ok (.ldc2_w 132, 3) := by decide +kernel
theorem d_MO_edition_10 : decode b_MO_edition 10 = .ok (.lcmp, 1) := by decide +kernel
theorem d_MO_edition_11 : decode b_MO_edition 11 = .ok (.ifCond .le 5, 3) := by decide +kernel
theorem d_MO_edition_14 : decode b_MO_edition 14 = .ok (.iconst (-1), 1) := by decide +kernel
theorem d_MO_edition_15 : decode b_MO_edition 15 = .ok (.ireturn, 1) := by decide +kernel
theorem d_MO_edition_16 : decode b_MO_edition 16 = .ok (.aload_n 0, 1) := by decide +kernel
theorem d_MO_edition_17 : decode b_MO_edition 17 = .ok (.getfield 134, 3) := by decide +kernel
theorem d_MO_edition_20 : decode b_MO_edition 20 = .ok (.bipush 10, 2) := by decide +kernel
theorem d_MO_edition_22 : decode b_MO_edition 22 = .ok (.if_icmp .ne 6, 3) := by decide +kernel
theorem d_MO_edition_25 : decode b_MO_edition 25 = .ok (.bipush (-2), 2) := by decide +kernel
theorem d_MO_edition_27 : decode b_MO_edition 27 = .ok (.ireturn, 1) := by decide +kernel
theorem d_MO_edition_28 : decode b_MO_edition 28 = .ok (.iconst 0, 1) := by decide +kernel
theorem d_MO_edition_29 : decode b_MO_edition 29 = .ok (.istore_n 3, 1) := by decide +kernel
theorem d_MO_edition_30 : decode b_MO_edition 30 = .ok (.iload_n 3, 1) := by decide +kernel
theorem d_MO_edition_31 : decode b_MO_edition 31 = .ok (.sipush 200, 3) := by decide +kernel
theorem d_MO_edition_34 : decode b_MO_edition 34 = .ok (.if_icmp .ge 35, 3) := by decide +kernel
theorem d_MO_edition_37 : decode b_MO_edition 37 = .ok (.aload_n 0, 1) := by decide +kernel
theorem d_MO_edition_38 : decode b_MO_edition 38 = .ok (.getfield 16, 3) := by decide +kernel
theorem d_MO_edition_41 : decode b_MO_edition 41 = .ok (.aload_n 0, 1) := by decide +kernel
theorem d_MO_edition_42 : decode b_MO_edition 42 = .ok (.getfield 134, 3) := by decide +kernel
theorem d_MO_edition_45 : decode b_MO_edition 45 = .ok (.bipush 40, 2) := by decide +kernel
theorem d_MO_edition_47 : decode b_MO_edition 47 = .ok (.imul, 1) := by decide +kernel
theorem d_MO_edition_48 : decode b_MO_edition 48 = .ok (.iconst 5, 1) := by decide +kernel
theorem d_MO_edition_49 : decode b_MO_edition 49 = .ok (.imul, 1) := by decide +kernel
theorem d_MO_edition_50 : decode b_MO_edition 50 = .ok (.iload_n 3, 1) := by decide +kernel
theorem d_MO_edition_51 : decode b_MO_edition 51 = .ok (.iadd, 1) := by decide +kernel
theorem d_MO_edition_52 : decode b_MO_edition 52 = .ok (.aload_n 0, 1) := by decide +kernel
theorem d_MO_edition_53 : decode b_MO_edition 53 = .ok (.getfield 16, 3) := by decide +kernel
theorem d_MO_edition_56 : decode b_MO_edition 56 = .ok (.sipush 2000, 3) := by decide +kernel
theorem d_MO_edition_59 : decode b_MO_edition 59 = .ok (.iload_n 3, 1) := by decide +kernel
theorem d_MO_edition_60 : decode b_MO_edition 60 = .ok (.iadd, 1) := by decide +kernel
theorem d_MO_edition_61 : decode b_MO_edition 61 = .ok (.iaload, 1) := by decide +kernel
theorem d_MO_edition_62 : decode b_MO_edition 62 = .ok (.iastore, 1) := by decide +kernel
theorem d_MO_edition_63 : decode b_MO_edition 63 = .ok (.iinc 3 1, 3) := by decide +kernel
theorem d_MO_edition_66 : decode b_MO_edition 66 = .ok (.goto (-36), 3) := by decide +kernel
theorem d_MO_edition_69 : decode b_MO_edition 69 = .ok (.aload_n 0, 1) := by decide +kernel
theorem d_MO_edition_70 : decode b_MO_edition 70 = .ok (.getfield 19, 3) := by decide +kernel
theorem d_MO_edition_73 : decode b_MO_edition 73 = .ok (.aload_n 0, 1) := by decide +kernel
theorem d_MO_edition_74 : decode b_MO_edition 74 = .ok (.getfield 134, 3) := by decide +kernel
theorem d_MO_edition_77 : decode b_MO_edition 77 = .ok (.aload_n 0, 1) := by decide +kernel
theorem d_MO_edition_78 : decode b_MO_edition 78 = .ok (.getfield 19, 3) := by decide +kernel
theorem d_MO_edition_81 : decode b_MO_edition 81 = .ok (.bipush 10, 2) := by decide +kernel
theorem d_MO_edition_83 : decode b_MO_edition 83 = .ok (.iaload, 1) := by decide +kernel
theorem d_MO_edition_84 : decode b_MO_edition 84 = .ok (.iastore, 1) := by decide +kernel
theorem d_MO_edition_85 : decode b_MO_edition 85 = .ok (.aload_n 0, 1) := by decide +kernel
theorem d_MO_edition_86 : decode b_MO_edition 86 = .ok (.getfield 22, 3) := by decide +kernel
theorem d_MO_edition_89 : decode b_MO_edition 89 = .ok (.aload_n 0, 1) := by decide +kernel
theorem d_MO_edition_90 : decode b_MO_edition 90 = .ok (.getfield 134, 3) := by decide +kernel
theorem d_MO_edition_93 : decode b_MO_edition 93 = .ok (.lload_n 1, 1) := by decide +kernel
theorem d_MO_edition_94 : decode b_MO_edition 94 = .ok (.lastore, 1) := by decide +kernel
theorem d_MO_edition_95 : decode b_MO_edition 95 = .ok (.aload_n 0, 1) := by decide +kernel
theorem d_MO_edition_96 : decode b_MO_edition 96 = .ok (.dup, 1) := by decide +kernel
theorem d_MO_edition_97 : decode b_MO_edition 97 = .ok (.getfield 134, 3) := by decide +kernel
theorem d_MO_edition_100 : decode b_MO_edition 100 = .ok (.iconst 1, 1) := by decide +kernel
theorem d_MO_edition_101 : decode b_MO_edition 101 = .ok (.iadd, 1) := by decide +kernel
theorem d_MO_edition_102 : decode b_MO_edition 102 = .ok (.putfield 134, 3) := by decide +kernel
theorem d_MO_edition_105 : decode b_MO_edition 105 = .ok (.aload_n 0, 1) := by decide +kernel
theorem d_MO_edition_106 : decode b_MO_edition 106 = .ok (.getfield 134, 3) := by decide +kernel
theorem d_MO_edition_109 : decode b_MO_edition 109 = .ok (.iconst 1, 1) := by decide +kernel
theorem d_MO_edition_110 : decode b_MO_edition 110 = .ok (.isub, 1) := by decide +kernel
theorem d_MO_edition_111 : decode b_MO_edition 111 = .ok (.ireturn, 1) := by decide +kernel
theorem d_MO_write_0 : decode b_MO_write 0 = .ok (.aload_n 0, 1) := by decide +kernel
theorem d_MO_write_1 : decode b_MO_write 1 = .ok (.iload_n 1, 1) := by decide +kernel
theorem d_MO_write_2 : decode b_MO_write 2 = .ok (.putfield 140, 3) := by decide +kernel
theorem d_MO_write_5 : decode b_MO_write 5 = .ok (.aload_n 0, 1) := by decide +kernel
theorem d_MO_write_6 : decode b_MO_write 6 = .ok (.iconst (-1), 1) := by decide +kernel
theorem d_MO_write_7 : decode b_MO_write 7 = .ok (.putfield 143, 3) := by decide +kernel
theorem d_MO_write_10 : decode b_MO_write 10 = .ok (.aload_n 0, 1) := by decide +kernel
theorem d_MO_write_11 : decode b_MO_write 11 = .ok (.iconst 0, 1) := by decide +kernel
theorem d_MO_write_12 : decode b_MO_write 12 = .ok (.putfield 137, 3) := by decide +kernel
theorem d_MO_write_15 : decode b_MO_write 15 = .ok (.iconst 0, 1) := by decide +kernel
theorem d_MO_write_16 : decode b_MO_write 16 = .ok (.istore_n 2, 1) := by decide +kernel
theorem d_MO_write_17 : decode b_MO_write 17 = .ok (.iload_n 2, 1) := by decide +kernel
theorem d_MO_write_18 : decode b_MO_write 18 = .ok (.aload_n 0, 1) := by decide +kernel
theorem d_MO_write_19 : decode b_MO_write 19 = .ok (.getfield 19, 3) := by decide +kernel
theorem d_MO_write_22 : decode b_MO_write 22 = .ok (.bipush 10, 2) := by decide +kernel
theorem d_MO_write_24 : decode b_MO_write 24 = .ok (.iaload, 1) := by decide +kernel
theorem d_MO_write_25 : decode b_MO_write 25 = .ok (.if_icmp .ge 119, 3) := by decide +kernel
theorem d_MO_write_28 : decode b_MO_write 28 = .ok (.sipush 2000, 3) := by decide +kernel
theorem d_MO_write_31 : decode b_MO_write 31 = .ok (.iconst 5, 1) := by decide +kernel
theorem d_MO_write_32 : decode b_MO_write 32 = .ok (.iload_n 2, 1) := by decide +kernel
theorem d_MO_write_33 : decode b_MO_write 33 = .ok (.imul, 1) := by decide +kernel
theorem d_MO_write_34 : decode b_MO_write 34 = .ok (.iadd, 1) := by decide +kernel
theorem d_MO_write_35 : decode b_MO_write 35 = .ok (.istore_n 3, 1) := by decide +kernel
theorem d_MO_write_36 : decode b_MO_write 36 = .ok (.aload_n 0, 1) := by decide +kernel
theorem d_MO_write_37 : decode b_MO_write 37 = .ok (.aload_n 0, 1) := by decide +kernel
theorem d_MO_write_38 : decode b_MO_write 38 = .ok (.getfield 16, 3) := by decide +kernel
theorem d_MO_write_41 : decode b_MO_write 41 = .ok (.iload_n 3, 1) := by decide +kernel
theorem d_MO_write_42 : decode b_MO_write 42 = .ok (.iaload, 1) := by decide +kernel
theorem d_MO_write_43 : decode b_MO_write 43 = .ok (.invokevirtual 150, 3) := by decide +kernel
theorem d_MO_write_46 : decode b_MO_write 46 = .ok (.iconst 0, 1) := by decide +kernel
theorem d_MO_write_47 : decode b_MO_write 47 = .ok (.istore 4, 2) := by decide +kernel
theorem d_MO_write_49 : decode b_MO_write 49 = .ok (.iconst 0, 1) := by decide +kernel
theorem d_MO_write_50 : decode b_MO_write 50 = .ok (.istore 5, 2) := by decide +kernel
theorem d_MO_write_52 : decode b_MO_write 52 = .ok (.aload_n 0, 1) := by decide +kernel
theorem d_MO_write_53 : decode b_MO_write 53 = .ok (.getfield 16, 3) := by decide +kernel
theorem d_MO_write_56 : decode b_MO_write 56 = .ok (.iload_n 3, 1) := by decide +kernel
theorem d_MO_write_57 : decode b_MO_write 57 = .ok (.iaload, 1) := by decide +kernel
theorem d_MO_write_58 : decode b_MO_write 58 = .ok (.iload 5, 2) := by decide +kernel
theorem d_MO_write_60 : decode b_MO_write 60 = .ok (.invokestatic 123, 3) := by decide +kernel
theorem d_MO_write_63 : decode b_MO_write 63 = .ok (.bipush (-112), 2) := by decide +kernel
theorem d_MO_write_65 : decode b_MO_write 65 = .ok (.if_icmp .eq 61, 3) := by decide +kernel
theorem d_MO_write_68 : decode b_MO_write 68 = .ok (.aload_n 0, 1) := by decide +kernel
theorem d_MO_write_69 : decode b_MO_write 69 = .ok (.bipush 32, 2) := by decide +kernel
theorem d_MO_write_71 : decode b_MO_write 71 = .ok (.invokevirtual 146, 3) := by decide +kernel
theorem d_MO_write_74 : decode b_MO_write 74 = .ok (.aload_n 0, 1) := by decide +kernel
theorem d_MO_write_75 : decode b_MO_write 75 = .ok (.getfield 16, 3) := by decide +kernel
theorem d_MO_write_78 : decode b_MO_write 78 = .ok (.iload_n 3, 1) := by decide +kernel
theorem d_MO_write_79 : decode b_MO_write 79 = .ok (.iaload, 1) := by decide +kernel
theorem d_MO_write_80 : decode b_MO_write 80 = .ok (.iload 5, 2) := by decide +kernel
theorem d_MO_write_82 : decode b_MO_write 82 = .ok (.invokestatic 123, 3) := by decide +kernel
theorem d_MO_write_85 : decode b_MO_write 85 = .ok (.istore 6, 2) := by decide +kernel
theorem d_MO_write_87 : decode b_MO_write 87 = .ok (.iload 6, 2) := by decide +kernel
theorem d_MO_write_89 : decode b_MO_write 89 = .ok (.ifCond .ge 15, 3) := by decide +kernel
theorem d_MO_write_92 : decode b_MO_write 92 = .ok (.aload_n 0, 1) := by decide +kernel
theorem d_MO_write_93 : decode b_MO_write 93 = .ok (.bipush (-100), 2) := by decide +kernel
theorem d_MO_write_95 : decode b_MO_write 95 = .ok (.iload 6, 2) := by decide +kernel
theorem d_MO_write_97 : decode b_MO_write 97 = .ok (.isub, 1) := by decide +kernel
theorem d_MO_write_98 : decode b_MO_write 98 = .ok (.invokevirtual 150, 3) := by decide +kernel
theorem d_MO_write_101 : decode b_MO_write 101 = .ok (.goto 19, 3) := by decide +kernel
theorem d_MO_write_104 : decode b_MO_write 104 = .ok (.iinc 4 1, 3) := by decide +kernel
theorem d_MO_write_107 : decode b_MO_write 107 = .ok (.aload_n 0, 1) := by decide +kernel
theorem d_MO_write_108 : decode b_MO_write 108 = .ok (.aload_n 0, 1) := by decide +kernel
theorem d_MO_write_109 : decode b_MO_write 109 = .ok (.getfield 16, 3) := by decide +kernel
theorem d_MO_write_112 : decode b_MO_write 112 = .ok (.iload_n 3, 1) := by decide +kernel
theorem d_MO_write_113 : decode b_MO_write 113 = .ok (.iload 4, 2) := by decide +kernel
theorem d_MO_write_115 : decode b_MO_write 115 = .ok (.iadd, 1) := by decide +kernel
theorem d_MO_write_116 : decode b_MO_write 116 = .ok (.iaload, 1) := by decide +kernel
theorem d_MO_write_117 : decode b_MO_write 117 = .ok (.invokevirtual 153, 3) := by decide +kernel
theorem d_MO_write_120 : decode b_MO_write 120 = .ok (.iinc 5 1, 3) := by decide +kernel
theorem d_MO_write_123 : decode b_MO_write 123 = .ok (.goto (-71), 3) := by decide +kernel
theorem d_MO_write_126 : decode b_MO_write 126 = .ok (.aload_n 0, 1) := by decide +kernel
theorem d_MO_write_127 : decode b_MO_write 127 = .ok (.bipush 59, 2) := by decide +kernel
theorem d_MO_write_129 : decode b_MO_write 129 = .ok (.invokevirtual 146, 3) := by decide +kernel
theorem d_MO_write_132 : decode b_MO_write 132 = .ok (.aload_n 0, 1) := by decide +kernel
theorem d_MO_write_133 : decode b_MO_write 133 = .ok (.bipush 10, 2) := by decide +kernel
theorem d_MO_write_135 : decode b_MO_write 135 = .ok (.invokevirtual 146, 3) := by decide +kernel
theorem d_MO_write_138 : decode b_MO_write 138 = .ok (.iinc 2 1, 3) := by decide +kernel
theorem d_MO_write_141 : decode b_MO_write 141 = .ok (.goto (-124), 3) := by decide +kernel
theorem d_MO_write_144 : decode b_MO_write 144 = .ok (.aload_n 0, 1) := by decide +kernel
theorem d_MO_write_145 : decode b_MO_write 145 = .ok (.getfield 143, 3) := by decide +kernel
theorem d_MO_write_148 : decode b_MO_write 148 = .ok (.ireturn, 1) := by decide +kernel
theorem d_MO_say_0 : decode b_MO_say 0 = .ok (.iconst 0, 1) := by decide +kernel
theorem d_MO_say_1 : decode b_MO_say 1 = .ok (.istore_n 2, 1) := by decide +kernel
theorem d_MO_say_2 : decode b_MO_say 2 = .ok (.iload_n 2, 1) := by decide +kernel
theorem d_MO_say_3 : decode b_MO_say 3 = .ok (.iload_n 1, 1) := by decide +kernel
theorem d_MO_say_4 : decode b_MO_say 4 = .ok (.invokestatic 99, 3) := by decide +kernel
theorem d_MO_say_7 : decode b_MO_say 7 = .ok (.if_icmp .ge 18, 3) := by decide +kernel
theorem d_MO_say_10 : decode b_MO_say 10 = .ok (.aload_n 0, 1) := by decide +kernel
theorem d_MO_say_11 : decode b_MO_say 11 = .ok (.iload_n 1, 1) := by decide +kernel
theorem d_MO_say_12 : decode b_MO_say 12 = .ok (.iload_n 2, 1) := by decide +kernel
theorem d_MO_say_13 : decode b_MO_say 13 = .ok (.invokestatic 103, 3) := by decide +kernel
theorem d_MO_say_16 : decode b_MO_say 16 = .ok (.invokevirtual 146, 3) := by decide +kernel
theorem d_MO_say_19 : decode b_MO_say 19 = .ok (.iinc 2 1, 3) := by decide +kernel
theorem d_MO_say_22 : decode b_MO_say 22 = .ok (.goto (-20), 3) := by decide +kernel
theorem d_MO_say_25 : decode b_MO_say 25 = .ok (.return_, 1) := by decide +kernel
theorem d_MO_put_0 : decode b_MO_put 0 = .ok (.aload_n 0, 1) := by decide +kernel
theorem d_MO_put_1 : decode b_MO_put 1 = .ok (.aload_n 0, 1) := by decide +kernel
theorem d_MO_put_2 : decode b_MO_put 2 = .ok (.getfield 137, 3) := by decide +kernel
theorem d_MO_put_5 : decode b_MO_put 5 = .ok (.aload_n 0, 1) := by decide +kernel
theorem d_MO_put_6 : decode b_MO_put 6 = .ok (.getfield 140, 3) := by decide +kernel
theorem d_MO_put_9 : decode b_MO_put 9 = .ok (.if_icmp .ne 7, 3) := by decide +kernel
theorem d_MO_put_12 : decode b_MO_put 12 = .ok (.iload_n 1, 1) := by decide +kernel
theorem d_MO_put_13 : decode b_MO_put 13 = .ok (.goto 7, 3) := by decide +kernel
theorem d_MO_put_16 : decode b_MO_put 16 = .ok (.aload_n 0, 1) := by decide +kernel
theorem d_MO_put_17 : decode b_MO_put 17 = .ok (.getfield 143, 3) := by decide +kernel
theorem d_MO_put_20 : decode b_MO_put 20 = .ok (.putfield 143, 3) := by decide +kernel
theorem d_MO_put_23 : decode b_MO_put 23 = .ok (.aload_n 0, 1) := by decide +kernel
theorem d_MO_put_24 : decode b_MO_put 24 = .ok (.dup, 1) := by decide +kernel
theorem d_MO_put_25 : decode b_MO_put 25 = .ok (.getfield 137, 3) := by decide +kernel
theorem d_MO_put_28 : decode b_MO_put 28 = .ok (.iconst 1, 1) := by decide +kernel
theorem d_MO_put_29 : decode b_MO_put 29 = .ok (.iadd, 1) := by decide +kernel
theorem d_MO_put_30 : decode b_MO_put 30 = .ok (.putfield 137, 3) := by decide +kernel
theorem d_MO_put_33 : decode b_MO_put 33 = .ok (.return_, 1) := by decide +kernel
theorem d_MO_digits_0 : decode b_MO_digits 0 = .ok (.iconst 1, 1) := by decide +kernel
theorem d_MO_digits_1 : decode b_MO_digits 1 = .ok (.istore_n 2, 1) := by decide +kernel
theorem d_MO_digits_2 : decode b_MO_digits 2 = .ok (.iload_n 1, 1) := by decide +kernel
theorem d_MO_digits_3 : decode b_MO_digits 3 = .ok (.iload_n 2, 1) := by decide +kernel
theorem d_MO_digits_4 : decode b_MO_digits 4 = .ok (.idiv, 1) := by decide +kernel
theorem d_MO_digits_5 : decode b_MO_digits 5 = .ok (.bipush 9, 2) := by decide +kernel
theorem d_MO_digits_7 : decode b_MO_digits 7 = .ok (.if_icmp .le 11, 3) := by decide +kernel
theorem d_MO_digits_10 : decode b_MO_digits 10 = .ok (.iload_n 2, 1) := by decide +kernel
theorem d_MO_digits_11 : decode b_MO_digits 11 = .ok (.bipush 10, 2) := by decide +kernel
theorem d_MO_digits_13 : decode b_MO_digits 13 = .ok (.imul, 1) := by decide +kernel
theorem d_MO_digits_14 : decode b_MO_digits 14 = .ok (.istore_n 2, 1) := by decide +kernel
theorem d_MO_digits_15 : decode b_MO_digits 15 = .ok (.goto (-13), 3) := by decide +kernel
theorem d_MO_digits_18 : decode b_MO_digits 18 = .ok (.iload_n 2, 1) := by decide +kernel
theorem d_MO_digits_19 : decode b_MO_digits 19 = .ok (.ifCond .le 24, 3) := by decide +kernel
theorem d_MO_digits_22 : decode b_MO_digits 22 = .ok (.aload_n 0, 1) := by decide +kernel
theorem d_MO_digits_23 : decode b_MO_digits 23 = .ok (.bipush 48, 2) := by decide +kernel
theorem d_MO_digits_25 : decode b_MO_digits 25 = .ok (.iload_n 1, 1) := by decide +kernel
theorem d_MO_digits_26 : decode b_MO_digits 26 = .ok (.iload_n 2, 1) := by decide +kernel
theorem d_MO_digits_27 : decode b_MO_digits 27 = .ok (.idiv, 1) := by decide +kernel
theorem d_MO_digits_28 : decode b_MO_digits 28 = .ok (.bipush 10, 2) := by decide +kernel
theorem d_MO_digits_30 : decode b_MO_digits 30 = .ok (.irem, 1) := by decide +kernel
theorem d_MO_digits_31 : decode b_MO_digits 31 = .ok (.iadd, 1) := by decide +kernel
theorem d_MO_digits_32 : decode b_MO_digits 32 = .ok (.invokevirtual 146, 3) := by decide +kernel
theorem d_MO_digits_35 : decode b_MO_digits 35 = .ok (.iload_n 2, 1) := by decide +kernel
theorem d_MO_digits_36 : decode b_MO_digits 36 = .ok (.bipush 10, 2) := by decide +kernel
theorem d_MO_digits_38 : decode b_MO_digits 38 = .ok (.idiv, 1) := by decide +kernel
theorem d_MO_digits_39 : decode b_MO_digits 39 = .ok (.istore_n 2, 1) := by decide +kernel
theorem d_MO_digits_40 : decode b_MO_digits 40 = .ok (.goto (-22), 3) := by decide +kernel
theorem d_MO_digits_43 : decode b_MO_digits 43 = .ok (.return_, 1) := by decide +kernel
theorem d_MO_fact_0 : decode b_MO_fact 0 = .ok (.iload_n 1, 1) := by decide +kernel
theorem d_MO_fact_1 : decode b_MO_fact 1 = .ok (.invokestatic 164, 3) := by decide +kernel
theorem d_MO_fact_4 : decode b_MO_fact 4 = .ok (.ifCond .eq 46, 3) := by decide +kernel
theorem d_MO_fact_7 : decode b_MO_fact 7 = .ok (.iload_n 2, 1) := by decide +kernel
theorem d_MO_fact_8 : decode b_MO_fact 8 = .ok (.ifCond .lt 42, 3) := by decide +kernel
theorem d_MO_fact_11 : decode b_MO_fact 11 = .ok (.iload_n 2, 1) := by decide +kernel
theorem d_MO_fact_12 : decode b_MO_fact 12 = .ok (.bipush 6, 2) := by decide +kernel
theorem d_MO_fact_14 : decode b_MO_fact 14 = .ok (.if_icmp .ge 36, 3) := by decide +kernel
theorem d_MO_fact_17 : decode b_MO_fact 17 = .ok (.lload_n 3, 1) := by decide +kernel
theorem d_MO_fact_18 : decode b_MO_fact 18 = .ok (.invokestatic 167, 3) := by decide +kernel
theorem d_MO_fact_21 : decode b_MO_fact 21 = .ok (.ifCond .eq 29, 3) := by decide +kernel
theorem d_MO_fact_24 : decode b_MO_fact 24 = .ok (.lload 7, 2) := by decide +kernel
theorem d_MO_fact_26 : decode b_MO_fact 26 = .ok (.lconst 1, 1) := by decide +kernel
theorem d_MO_fact_27 : decode b_MO_fact 27 = .ok (.lcmp, 1) := by decide +kernel
theorem d_MO_fact_28 : decode b_MO_fact 28 = .ok (.ifCond .lt 22, 3) := by decide +kernel
theorem d_MO_fact_31 : decode b_MO_fact 31 = .ok (.lload 7, 2) := by decide +kernel
theorem d_MO_fact_33 : decode b_MO_fact 33 = .ok (.ldc2_w 171, 3) := by decide +kernel
theorem d_MO_fact_36 : decode b_MO_fact 36 = .ok (.lcmp, 1) := by decide +kernel
theorem d_MO_fact_37 : decode b_MO_fact 37 = .ok (.ifCond .gt 13, 3) := by decide +kernel
theorem d_MO_fact_40 : decode b_MO_fact 40 = .ok (.lload 5, 2) := by decide +kernel
theorem d_MO_fact_42 : decode b_MO_fact 42 = .ok (.lload 7, 2) := by decide +kernel
theorem d_MO_fact_44 : decode b_MO_fact 44 = .ok (.lrem, 1) := by decide +kernel
theorem d_MO_fact_45 : decode b_MO_fact 45 = .ok (.lconst 0, 1) := by decide +kernel
theorem d_MO_fact_46 : decode b_MO_fact 46 = .ok (.lcmp, 1) := by decide +kernel
theorem d_MO_fact_47 : decode b_MO_fact 47 = .ok (.ifCond .eq 5, 3) := by decide +kernel
theorem d_MO_fact_50 : decode b_MO_fact 50 = .ok (.iconst 0, 1) := by decide +kernel
theorem d_MO_fact_51 : decode b_MO_fact 51 = .ok (.ireturn, 1) := by decide +kernel
theorem d_MO_fact_52 : decode b_MO_fact 52 = .ok (.lload 5, 2) := by decide +kernel
theorem d_MO_fact_54 : decode b_MO_fact 54 = .ok (.lload 7, 2) := by decide +kernel
theorem d_MO_fact_56 : decode b_MO_fact 56 = .ok (.ldiv, 1) := by decide +kernel
theorem d_MO_fact_57 : decode b_MO_fact 57 = .ok (.lstore 9, 2) := by decide +kernel
theorem d_MO_fact_59 : decode b_MO_fact 59 = .ok (.lload 9, 2) := by decide +kernel
theorem d_MO_fact_61 : decode b_MO_fact 61 = .ok (.lconst 0, 1) := by decide +kernel
theorem d_MO_fact_62 : decode b_MO_fact 62 = .ok (.lcmp, 1) := by decide +kernel
theorem d_MO_fact_63 : decode b_MO_fact 63 = .ok (.ifCond .lt 23, 3) := by decide +kernel
theorem d_MO_fact_66 : decode b_MO_fact 66 = .ok (.lload 9, 2) := by decide +kernel
theorem d_MO_fact_68 : decode b_MO_fact 68 = .ok (.iload_n 2, 1) := by decide +kernel
theorem d_MO_fact_69 : decode b_MO_fact 69 = .ok (.invokestatic 173, 3) := by decide +kernel
theorem d_MO_fact_72 : decode b_MO_fact 72 = .ok (.lcmp, 1) := by decide +kernel
theorem d_MO_fact_73 : decode b_MO_fact 73 = .ok (.ifCond .gt 13, 3) := by decide +kernel
theorem d_MO_fact_76 : decode b_MO_fact 76 = .ok (.aload_n 0, 1) := by decide +kernel
theorem d_MO_fact_77 : decode b_MO_fact 77 = .ok (.getfield 177, 3) := by decide +kernel
theorem d_MO_fact_80 : decode b_MO_fact 80 = .ok (.sipush 300, 3) := by decide +kernel
theorem d_MO_fact_83 : decode b_MO_fact 83 = .ok (.if_icmp .ne 5, 3) := by decide +kernel
theorem d_MO_fact_86 : decode b_MO_fact 86 = .ok (.iconst 0, 1) := by decide +kernel
theorem d_MO_fact_87 : decode b_MO_fact 87 = .ok (.ireturn, 1) := by decide +kernel
theorem d_MO_fact_88 : decode b_MO_fact 88 = .ok (.aload_n 0, 1) := by decide +kernel
theorem d_MO_fact_89 : decode b_MO_fact 89 = .ok (.getfield 26, 3) := by decide +kernel
theorem d_MO_fact_92 : decode b_MO_fact 92 = .ok (.aload_n 0, 1) := by decide +kernel
theorem d_MO_fact_93 : decode b_MO_fact 93 = .ok (.getfield 177, 3) := by decide +kernel
theorem d_MO_fact_96 : decode b_MO_fact 96 = .ok (.iload_n 1, 1) := by decide +kernel
theorem d_MO_fact_97 : decode b_MO_fact 97 = .ok (.iastore, 1) := by decide +kernel
theorem d_MO_fact_98 : decode b_MO_fact 98 = .ok (.aload_n 0, 1) := by decide +kernel
theorem d_MO_fact_99 : decode b_MO_fact 99 = .ok (.getfield 29, 3) := by decide +kernel
theorem d_MO_fact_102 : decode b_MO_fact 102 = .ok (.aload_n 0, 1) := by decide +kernel
theorem d_MO_fact_103 : decode b_MO_fact 103 = .ok (.getfield 177, 3) := by decide +kernel
theorem d_MO_fact_106 : decode b_MO_fact 106 = .ok (.iload_n 2, 1) := by decide +kernel
theorem d_MO_fact_107 : decode b_MO_fact 107 = .ok (.iastore, 1) := by decide +kernel
theorem d_MO_fact_108 : decode b_MO_fact 108 = .ok (.aload_n 0, 1) := by decide +kernel
theorem d_MO_fact_109 : decode b_MO_fact 109 = .ok (.getfield 32, 3) := by decide +kernel
theorem d_MO_fact_112 : decode b_MO_fact 112 = .ok (.aload_n 0, 1) := by decide +kernel
theorem d_MO_fact_113 : decode b_MO_fact 113 = .ok (.getfield 177, 3) := by decide +kernel
theorem d_MO_fact_116 : decode b_MO_fact 116 = .ok (.lload_n 3, 1) := by decide +kernel
theorem d_MO_fact_117 : decode b_MO_fact 117 = .ok (.lastore, 1) := by decide +kernel
theorem d_MO_fact_118 : decode b_MO_fact 118 = .ok (.aload_n 0, 1) := by decide +kernel
theorem d_MO_fact_119 : decode b_MO_fact 119 = .ok (.getfield 35, 3) := by decide +kernel
theorem d_MO_fact_122 : decode b_MO_fact 122 = .ok (.aload_n 0, 1) := by decide +kernel
theorem d_MO_fact_123 : decode b_MO_fact 123 = .ok (.getfield 177, 3) := by decide +kernel
theorem d_MO_fact_126 : decode b_MO_fact 126 = .ok (.lload_n 3, 1) := by decide +kernel
theorem d_MO_fact_127 : decode b_MO_fact 127 = .ok (.lastore, 1) := by decide +kernel
theorem d_MO_fact_128 : decode b_MO_fact 128 = .ok (.aload_n 0, 1) := by decide +kernel
theorem d_MO_fact_129 : decode b_MO_fact 129 = .ok (.getfield 38, 3) := by decide +kernel
theorem d_MO_fact_132 : decode b_MO_fact 132 = .ok (.aload_n 0, 1) := by decide +kernel
theorem d_MO_fact_133 : decode b_MO_fact 133 = .ok (.getfield 177, 3) := by decide +kernel
theorem d_MO_fact_136 : decode b_MO_fact 136 = .ok (.lload 9, 2) := by decide +kernel
theorem d_MO_fact_138 : decode b_MO_fact 138 = .ok (.lastore, 1) := by decide +kernel
theorem d_MO_fact_139 : decode b_MO_fact 139 = .ok (.aload_n 0, 1) := by decide +kernel
theorem d_MO_fact_140 : decode b_MO_fact 140 = .ok (.dup, 1) := by decide +kernel
theorem d_MO_fact_141 : decode b_MO_fact 141 = .ok (.getfield 177, 3) := by decide +kernel
theorem d_MO_fact_144 : decode b_MO_fact 144 = .ok (.iconst 1, 1) := by decide +kernel
theorem d_MO_fact_145 : decode b_MO_fact 145 = .ok (.iadd, 1) := by decide +kernel
theorem d_MO_fact_146 : decode b_MO_fact 146 = .ok (.putfield 177, 3) := by decide +kernel
theorem d_MO_fact_149 : decode b_MO_fact 149 = .ok (.aload_n 0, 1) := by decide +kernel
theorem d_MO_fact_150 : decode b_MO_fact 150 = .ok (.lload_n 3, 1) := by decide +kernel
theorem d_MO_fact_151 : decode b_MO_fact 151 = .ok (.aload_n 0, 1) := by decide +kernel
theorem d_MO_fact_152 : decode b_MO_fact 152 = .ok (.getfield 180, 3) := by decide +kernel
theorem d_MO_fact_155 : decode b_MO_fact 155 = .ok (.lcmp, 1) := by decide +kernel
theorem d_MO_fact_156 : decode b_MO_fact 156 = .ok (.ifCond .le 7, 3) := by decide +kernel
theorem d_MO_fact_159 : decode b_MO_fact 159 = .ok (.lload_n 3, 1) := by decide +kernel
theorem d_MO_fact_160 : decode b_MO_fact 160 = .ok (.goto 7, 3) := by decide +kernel
theorem d_MO_fact_163 : decode b_MO_fact 163 = .ok (.aload_n 0, 1) := by decide +kernel
theorem d_MO_fact_164 : decode b_MO_fact 164 = .ok (.getfield 180, 3) := by decide +kernel
theorem d_MO_fact_167 : decode b_MO_fact 167 = .ok (.putfield 180, 3) := by decide +kernel
theorem d_MO_fact_170 : decode b_MO_fact 170 = .ok (.iconst 1, 1) := by decide +kernel
theorem d_MO_fact_171 : decode b_MO_fact 171 = .ok (.ireturn, 1) := by decide +kernel
theorem d_MO_isLot_0 : decode b_MO_isLot 0 = .ok (.iload_n 0, 1) := by decide +kernel
theorem d_MO_isLot_1 : decode b_MO_isLot 1 = .ok (.ifCond .lt 13, 3) := by decide +kernel
theorem d_MO_isLot_4 : decode b_MO_isLot 4 = .ok (.iload_n 0, 1) := by decide +kernel
theorem d_MO_isLot_5 : decode b_MO_isLot 5 = .ok (.bipush 30, 2) := by decide +kernel
theorem d_MO_isLot_7 : decode b_MO_isLot 7 = .ok (.if_icmp .ge 7, 3) := by decide +kernel
theorem d_MO_isLot_10 : decode b_MO_isLot 10 = .ok (.iconst 1, 1) := by decide +kernel
theorem d_MO_isLot_11 : decode b_MO_isLot 11 = .ok (.goto 4, 3) := by decide +kernel
theorem d_MO_isLot_14 : decode b_MO_isLot 14 = .ok (.iconst 0, 1) := by decide +kernel
theorem d_MO_isLot_15 : decode b_MO_isLot 15 = .ok (.ireturn, 1) := by decide +kernel
theorem d_MO_isDay_0 : decode b_MO_isDay 0 = .ok (.lload_n 0, 1) := by decide +kernel
theorem d_MO_isDay_1 : decode b_MO_isDay 1 = .ok (.lconst 0, 1) := by decide +kernel
theorem d_MO_isDay_2 : decode b_MO_isDay 2 = .ok (.lcmp, 1) := by decide +kernel
theorem d_MO_isDay_3 : decode b_MO_isDay 3 = .ok (.ifCond .lt 15, 3) := by decide +kernel
theorem d_MO_isDay_6 : decode b_MO_isDay 6 = .ok (.lload_n 0, 1) := by decide +kernel
theorem d_MO_isDay_7 : decode b_MO_isDay 7 = .ok (.ldc2_w 132, 3) := by decide +kernel
theorem d_MO_isDay_10 : decode b_MO_isDay 10 = .ok (.lcmp, 1) := by decide +kernel
theorem d_MO_isDay_11 : decode b_MO_isDay 11 = .ok (.ifCond .gt 7, 3) := by decide +kernel
theorem d_MO_isDay_14 : decode b_MO_isDay 14 = .ok (.iconst 1, 1) := by decide +kernel
theorem d_MO_isDay_15 : decode b_MO_isDay 15 = .ok (.goto 4, 3) := by decide +kernel
theorem d_MO_isDay_18 : decode b_MO_isDay 18 = .ok (.iconst 0, 1) := by decide +kernel
theorem d_MO_isDay_19 : decode b_MO_isDay 19 = .ok (.ireturn, 1) := by decide +kernel
theorem d_MO_most_0 : decode b_MO_most 0 = .ok (.iload_n 0, 1) := by decide +kernel
theorem d_MO_most_1 : decode b_MO_most 1 = .ok (.ifCond .ne 9, 3) := by decide +kernel
theorem d_MO_most_4 : decode b_MO_most 4 = .ok (.ldc2_w 156, 3) := by decide +kernel
theorem d_MO_most_7 : decode b_MO_most 7 = .ok (.goto 28, 3) := by decide +kernel
theorem d_MO_most_10 : decode b_MO_most 10 = .ok (.iload_n 0, 1) := by decide +kernel
theorem d_MO_most_11 : decode b_MO_most 11 = .ok (.iconst 1, 1) := by decide +kernel
theorem d_MO_most_12 : decode b_MO_most 12 = .ok (.if_icmp .ne 9, 3) := by decide +kernel
theorem d_MO_most_15 : decode b_MO_most 15 = .ok (.ldc2_w 158, 3) := by decide +kernel
theorem d_MO_most_18 : decode b_MO_most 18 = .ok (.goto 17, 3) := by decide +kernel
theorem d_MO_most_21 : decode b_MO_most 21 = .ok (.iload_n 0, 1) := by decide +kernel
theorem d_MO_most_22 : decode b_MO_most 22 = .ok (.iconst 3, 1) := by decide +kernel
theorem d_MO_most_23 : decode b_MO_most 23 = .ok (.if_icmp .ne 9, 3) := by decide +kernel
theorem d_MO_most_26 : decode b_MO_most 26 = .ok (.ldc2_w 160, 3) := by decide +kernel
theorem d_MO_most_29 : decode b_MO_most 29 = .ok (.goto 6, 3) := by decide +kernel
theorem d_MO_most_32 : decode b_MO_most 32 = .ok (.ldc2_w 162, 3) := by decide +kernel
theorem d_MO_most_35 : decode b_MO_most 35 = .ok (.lreturn, 1) := by decide +kernel
theorem d_MO_told_0 : decode b_MO_told 0 = .ok (.iconst (-1), 1) := by decide +kernel
theorem d_MO_told_1 : decode b_MO_told 1 = .ok (.istore 5, 2) := by decide +kernel
theorem d_MO_told_3 : decode b_MO_told 3 = .ok (.iconst 0, 1) := by decide +kernel
theorem d_MO_told_4 : decode b_MO_told 4 = .ok (.istore 6, 2) := by decide +kernel
theorem d_MO_told_6 : decode b_MO_told 6 = .ok (.iload 6, 2) := by decide +kernel
theorem d_MO_told_8 : decode b_MO_told 8 = .ok (.aload_n 0, 1) := by decide +kernel
theorem d_MO_told_9 : decode b_MO_told 9 = .ok (.getfield 177, 3) := by decide +kernel
theorem d_MO_told_12 : decode b_MO_told 12 = .ok (.if_icmp .ge 40, 3) := by decide +kernel
theorem d_MO_told_15 : decode b_MO_told 15 = .ok (.aload_n 0, 1) := by decide +kernel
theorem d_MO_told_16 : decode b_MO_told 16 = .ok (.getfield 26, 3) := by decide +kernel
theorem d_MO_told_19 : decode b_MO_told 19 = .ok (.iload 6, 2) := by decide +kernel
theorem d_MO_told_21 : decode b_MO_told 21 = .ok (.iaload, 1) := by decide +kernel
theorem d_MO_told_22 : decode b_MO_told 22 = .ok (.iload_n 1, 1) := by decide +kernel
theorem d_MO_told_23 : decode b_MO_told 23 = .ok (.if_icmp .ne 19, 3) := by decide +kernel
theorem d_MO_told_26 : decode b_MO_told 26 = .ok (.aload_n 0, 1) := by decide +kernel
theorem d_MO_told_27 : decode b_MO_told 27 = .ok (.getfield 29, 3) := by decide +kernel
theorem d_MO_told_30 : decode b_MO_told 30 = .ok (.iload 6, 2) := by decide +kernel
theorem d_MO_told_32 : decode b_MO_told 32 = .ok (.iaload, 1) := by decide +kernel
theorem d_MO_told_33 : decode b_MO_told 33 = .ok (.iload_n 2, 1) := by decide +kernel
theorem d_MO_told_34 : decode b_MO_told 34 = .ok (.if_icmp .ne 8, 3) := by decide +kernel
theorem d_MO_told_37 : decode b_MO_told 37 = .ok (.iload 6, 2) := by decide +kernel
theorem d_MO_told_39 : decode b_MO_told 39 = .ok (.goto 5, 3) := by decide +kernel
theorem d_MO_told_42 : decode b_MO_told 42 = .ok (.iload 5, 2) := by decide +kernel
theorem d_MO_told_44 : decode b_MO_told 44 = .ok (.istore 5, 2) := by decide +kernel
theorem d_MO_told_46 : decode b_MO_told 46 = .ok (.iinc 6 1, 3) := by decide +kernel
theorem d_MO_told_49 : decode b_MO_told 49 = .ok (.goto (-43), 3) := by decide +kernel
theorem d_MO_told_52 : decode b_MO_told 52 = .ok (.iload 5, 2) := by decide +kernel
theorem d_MO_told_54 : decode b_MO_told 54 = .ok (.iconst (-1), 1) := by decide +kernel
theorem d_MO_told_55 : decode b_MO_told 55 = .ok (.if_icmp .eq 10, 3) := by decide +kernel
theorem d_MO_told_58 : decode b_MO_told 58 = .ok (.lload_n 3, 1) := by decide +kernel
theorem d_MO_told_59 : decode b_MO_told 59 = .ok (.invokestatic 167, 3) := by decide +kernel
theorem d_MO_told_62 : decode b_MO_told 62 = .ok (.ifCond .ne 5, 3) := by decide +kernel
theorem d_MO_told_65 : decode b_MO_told 65 = .ok (.iconst 0, 1) := by decide +kernel
theorem d_MO_told_66 : decode b_MO_told 66 = .ok (.ireturn, 1) := by decide +kernel
theorem d_MO_told_67 : decode b_MO_told 67 = .ok (.aload_n 0, 1) := by decide +kernel
theorem d_MO_told_68 : decode b_MO_told 68 = .ok (.getfield 35, 3) := by decide +kernel
theorem d_MO_told_71 : decode b_MO_told 71 = .ok (.iload 5, 2) := by decide +kernel
theorem d_MO_told_73 : decode b_MO_told 73 = .ok (.lload_n 3, 1) := by decide +kernel
theorem d_MO_told_74 : decode b_MO_told 74 = .ok (.lastore, 1) := by decide +kernel
theorem d_MO_told_75 : decode b_MO_told 75 = .ok (.aload_n 0, 1) := by decide +kernel
theorem d_MO_told_76 : decode b_MO_told 76 = .ok (.lload_n 3, 1) := by decide +kernel
theorem d_MO_told_77 : decode b_MO_told 77 = .ok (.aload_n 0, 1) := by decide +kernel
theorem d_MO_told_78 : decode b_MO_told 78 = .ok (.getfield 180, 3) := by decide +kernel
theorem d_MO_told_81 : decode b_MO_told 81 = .ok (.lcmp, 1) := by decide +kernel
theorem d_MO_told_82 : decode b_MO_told 82 = .ok (.ifCond .le 7, 3) := by decide +kernel
theorem d_MO_told_85 : decode b_MO_told 85 = .ok (.lload_n 3, 1) := by decide +kernel
theorem d_MO_told_86 : decode b_MO_told 86 = .ok (.goto 7, 3) := by decide +kernel
theorem d_MO_told_89 : decode b_MO_told 89 = .ok (.aload_n 0, 1) := by decide +kernel
theorem d_MO_told_90 : decode b_MO_told 90 = .ok (.getfield 180, 3) := by decide +kernel
theorem d_MO_told_93 : decode b_MO_told 93 = .ok (.putfield 180, 3) := by decide +kernel
theorem d_MO_told_96 : decode b_MO_told 96 = .ok (.iconst 1, 1) := by decide +kernel
theorem d_MO_told_97 : decode b_MO_told 97 = .ok (.ireturn, 1) := by decide +kernel
theorem d_MO_duty_0 : decode b_MO_duty 0 = .ok (.iload_n 1, 1) := by decide +kernel
theorem d_MO_duty_1 : decode b_MO_duty 1 = .ok (.invokestatic 164, 3) := by decide +kernel
theorem d_MO_duty_4 : decode b_MO_duty 4 = .ok (.ifCond .eq 29, 3) := by decide +kernel
theorem d_MO_duty_7 : decode b_MO_duty 7 = .ok (.lload_n 2, 1) := by decide +kernel
theorem d_MO_duty_8 : decode b_MO_duty 8 = .ok (.invokestatic 167, 3) := by decide +kernel
theorem d_MO_duty_11 : decode b_MO_duty 11 = .ok (.ifCond .eq 22, 3) := by decide +kernel
theorem d_MO_duty_14 : decode b_MO_duty 14 = .ok (.lload 4, 2) := by decide +kernel
theorem d_MO_duty_16 : decode b_MO_duty 16 = .ok (.invokestatic 167, 3) := by decide +kernel
theorem d_MO_duty_19 : decode b_MO_duty 19 = .ok (.ifCond .eq 14, 3) := by decide +kernel
theorem d_MO_duty_22 : decode b_MO_duty 22 = .ok (.iload 6, 2) := by decide +kernel
theorem d_MO_duty_24 : decode b_MO_duty 24 = .ok (.ifCond .lt 9, 3) := by decide +kernel
theorem d_MO_duty_27 : decode b_MO_duty 27 = .ok (.iload 6, 2) := by decide +kernel
theorem d_MO_duty_29 : decode b_MO_duty 29 = .ok (.iconst 1, 1) := by decide +kernel
theorem d_MO_duty_30 : decode b_MO_duty 30 = .ok (.if_icmp .le 7, 3) := by decide +kernel
theorem d_MO_duty_33 : decode b_MO_duty 33 = .ok (.ldc2_w 228, 3) := by decide +kernel
theorem d_MO_duty_36 : decode b_MO_duty 36 = .ok (.lreturn, 1) := by decide +kernel
end
section
theorem d_MO_duty_37 : decode b_MO_duty 37 = .ok (.aload_n 0, 1) := by decide +kernel
theorem d_MO_duty_38 : decode b_MO_duty 38 = .ok (.iload_n 1, 1) := by decide +kernel
theorem d_MO_duty_39 : decode b_MO_duty 39 = .ok (.lload_n 2, 1) := by decide +kernel
theorem d_MO_duty_40 : decode b_MO_duty 40 = .ok (.lload 4, 2) := by decide +kernel
theorem d_MO_duty_42 : decode b_MO_duty 42 = .ok (.invokevirtual 230, 3) := by decide +kernel
theorem d_MO_duty_45 : decode b_MO_duty 45 = .ok (.istore 7, 2) := by decide +kernel
theorem d_MO_duty_47 : decode b_MO_duty 47 = .ok (.aload_n 0, 1) := by decide +kernel
theorem d_MO_duty_48 : decode b_MO_duty 48 = .ok (.iload_n 1, 1) := by decide +kernel
theorem d_MO_duty_49 : decode b_MO_duty 49 = .ok (.putfield 50, 3) := by decide +kernel
theorem d_MO_duty_52 : decode b_MO_duty 52 = .ok (.aload_n 0, 1) := by decide +kernel
theorem d_MO_duty_53 : decode b_MO_duty 53 = .ok (.aload_n 0, 1) := by decide +kernel
theorem d_MO_duty_54 : decode b_MO_duty 54 = .ok (.getfield 199, 3) := by decide +kernel
theorem d_MO_duty_57 : decode b_MO_duty 57 = .ok (.putfield 234, 3) := by decide +kernel
theorem d_MO_duty_60 : decode b_MO_duty 60 = .ok (.aload_n 0, 1) := by decide +kernel
theorem d_MO_duty_61 : decode b_MO_duty 61 = .ok (.iload 7, 2) := by decide +kernel
theorem d_MO_duty_63 : decode b_MO_duty 63 = .ok (.ifCond .eq 10, 3) := by decide +kernel
theorem d_MO_duty_66 : decode b_MO_duty 66 = .ok (.aload_n 0, 1) := by decide +kernel
theorem d_MO_duty_67 : decode b_MO_duty 67 = .ok (.getfield 184, 3) := by decide +kernel
theorem d_MO_duty_70 : decode b_MO_duty 70 = .ok (.goto 4, 3) := by decide +kernel
theorem d_MO_duty_73 : decode b_MO_duty 73 = .ok (.iconst 0, 1) := by decide +kernel
theorem d_MO_duty_74 : decode b_MO_duty 74 = .ok (.putfield 237, 3) := by decide +kernel
theorem d_MO_duty_77 : decode b_MO_duty 77 = .ok (.iconst 0, 1) := by decide +kernel
theorem d_MO_duty_78 : decode b_MO_duty 78 = .ok (.istore 8, 2) := by decide +kernel
theorem d_MO_duty_80 : decode b_MO_duty 80 = .ok (.iload 8, 2) := by decide +kernel
theorem d_MO_duty_82 : decode b_MO_duty 82 = .ok (.aload_n 0, 1) := by decide +kernel
theorem d_MO_duty_83 : decode b_MO_duty 83 = .ok (.getfield 184, 3) := by decide +kernel
theorem d_MO_duty_86 : decode b_MO_duty 86 = .ok (.if_icmp .ge 51, 3) := by decide +kernel
theorem d_MO_duty_89 : decode b_MO_duty 89 = .ok (.aload_n 0, 1) := by decide +kernel
theorem d_MO_duty_90 : decode b_MO_duty 90 = .ok (.getfield 54, 3) := by decide +kernel
theorem d_MO_duty_93 : decode b_MO_duty 93 = .ok (.iload 8, 2) := by decide +kernel
theorem d_MO_duty_95 : decode b_MO_duty 95 = .ok (.aload_n 0, 1) := by decide +kernel
theorem d_MO_duty_96 : decode b_MO_duty 96 = .ok (.getfield 41, 3) := by decide +kernel
theorem d_MO_duty_99 : decode b_MO_duty 99 = .ok (.iload 8, 2) := by decide +kernel
theorem d_MO_duty_101 : decode b_MO_duty 101 = .ok (.iaload, 1) := by decide +kernel
theorem d_MO_duty_102 : decode b_MO_duty 102 = .ok (.iastore, 1) := by decide +kernel
theorem d_MO_duty_103 : decode b_MO_duty 103 = .ok (.aload_n 0, 1) := by decide +kernel
theorem d_MO_duty_104 : decode b_MO_duty 104 = .ok (.getfield 57, 3) := by decide +kernel
theorem d_MO_duty_107 : decode b_MO_duty 107 = .ok (.iload 8, 2) := by decide +kernel
theorem d_MO_duty_109 : decode b_MO_duty 109 = .ok (.aload_n 0, 1) := by decide +kernel
theorem d_MO_duty_110 : decode b_MO_duty 110 = .ok (.getfield 44, 3) := by decide +kernel
theorem d_MO_duty_113 : decode b_MO_duty 113 = .ok (.iload 8, 2) := by decide +kernel
theorem d_MO_duty_115 : decode b_MO_duty 115 = .ok (.iaload, 1) := by decide +kernel
theorem d_MO_duty_116 : decode b_MO_duty 116 = .ok (.iastore, 1) := by decide +kernel
theorem d_MO_duty_117 : decode b_MO_duty 117 = .ok (.aload_n 0, 1) := by decide +kernel
theorem d_MO_duty_118 : decode b_MO_duty 118 = .ok (.getfield 60, 3) := by decide +kernel
theorem d_MO_duty_121 : decode b_MO_duty 121 = .ok (.iload 8, 2) := by decide +kernel
theorem d_MO_duty_123 : decode b_MO_duty 123 = .ok (.aload_n 0, 1) := by decide +kernel
theorem d_MO_duty_124 : decode b_MO_duty 124 = .ok (.getfield 47, 3) := by decide +kernel
theorem d_MO_duty_127 : decode b_MO_duty 127 = .ok (.iload 8, 2) := by decide +kernel
theorem d_MO_duty_129 : decode b_MO_duty 129 = .ok (.laload, 1) := by decide +kernel
theorem d_MO_duty_130 : decode b_MO_duty 130 = .ok (.lastore, 1) := by decide +kernel
theorem d_MO_duty_131 : decode b_MO_duty 131 = .ok (.iinc 8 1, 3) := by decide +kernel
theorem d_MO_duty_134 : decode b_MO_duty 134 = .ok (.goto (-54), 3) := by decide +kernel
theorem d_MO_duty_137 : decode b_MO_duty 137 = .ok (.iload 7, 2) := by decide +kernel
theorem d_MO_duty_139 : decode b_MO_duty 139 = .ok (.ifCond .eq 18, 3) := by decide +kernel
theorem d_MO_duty_142 : decode b_MO_duty 142 = .ok (.aload_n 0, 1) := by decide +kernel
theorem d_MO_duty_143 : decode b_MO_duty 143 = .ok (.getfield 187, 3) := by decide +kernel
theorem d_MO_duty_146 : decode b_MO_duty 146 = .ok (.ldc2_w 190, 3) := by decide +kernel
theorem d_MO_duty_149 : decode b_MO_duty 149 = .ok (.iload 6, 2) := by decide +kernel
theorem d_MO_duty_151 : decode b_MO_duty 151 = .ok (.invokestatic 240, 3) := by decide +kernel
theorem d_MO_duty_154 : decode b_MO_duty 154 = .ok (.goto 6, 3) := by decide +kernel
theorem d_MO_duty_157 : decode b_MO_duty 157 = .ok (.ldc2_w 228, 3) := by decide +kernel
theorem d_MO_duty_160 : decode b_MO_duty 160 = .ok (.lreturn, 1) := by decide +kernel
theorem d_MO_reckon_0 : decode b_MO_reckon 0 = .ok (.aload_n 0, 1) := by decide +kernel
theorem d_MO_reckon_1 : decode b_MO_reckon 1 = .ok (.iconst 0, 1) := by decide +kernel
theorem d_MO_reckon_2 : decode b_MO_reckon 2 = .ok (.putfield 184, 3) := by decide +kernel
theorem d_MO_reckon_5 : decode b_MO_reckon 5 = .ok (.aload_n 0, 1) := by decide +kernel
theorem d_MO_reckon_6 : decode b_MO_reckon 6 = .ok (.lconst 0, 1) := by decide +kernel
theorem d_MO_reckon_7 : decode b_MO_reckon 7 = .ok (.putfield 192, 3) := by decide +kernel
theorem d_MO_reckon_10 : decode b_MO_reckon 10 = .ok (.aload_n 0, 1) := by decide +kernel
theorem d_MO_reckon_11 : decode b_MO_reckon 11 = .ok (.lconst 0, 1) := by decide +kernel
theorem d_MO_reckon_12 : decode b_MO_reckon 12 = .ok (.putfield 187, 3) := by decide +kernel
theorem d_MO_reckon_15 : decode b_MO_reckon 15 = .ok (.aload_n 0, 1) := by decide +kernel
theorem d_MO_reckon_16 : decode b_MO_reckon 16 = .ok (.lload_n 2, 1) := by decide +kernel
theorem d_MO_reckon_17 : decode b_MO_reckon 17 = .ok (.invokevirtual 195, 3) := by decide +kernel
theorem d_MO_reckon_20 : decode b_MO_reckon 20 = .ok (.istore 6, 2) := by decide +kernel
theorem d_MO_reckon_22 : decode b_MO_reckon 22 = .ok (.aload_n 0, 1) := by decide +kernel
theorem d_MO_reckon_23 : decode b_MO_reckon 23 = .ok (.bipush 20, 2) := by decide +kernel
theorem d_MO_reckon_25 : decode b_MO_reckon 25 = .ok (.putfield 199, 3) := by decide +kernel
theorem d_MO_reckon_28 : decode b_MO_reckon 28 = .ok (.iload 6, 2) := by decide +kernel
theorem d_MO_reckon_30 : decode b_MO_reckon 30 = .ok (.iconst (-1), 1) := by decide +kernel
theorem d_MO_reckon_31 : decode b_MO_reckon 31 = .ok (.if_icmp .ne 5, 3) := by decide +kernel
theorem d_MO_reckon_34 : decode b_MO_reckon 34 = .ok (.iconst 0, 1) := by decide +kernel
theorem d_MO_reckon_35 : decode b_MO_reckon 35 = .ok (.ireturn, 1) := by decide +kernel
theorem d_MO_reckon_36 : decode b_MO_reckon 36 = .ok (.iconst 0, 1) := by decide +kernel
theorem d_MO_reckon_37 : decode b_MO_reckon 37 = .ok (.istore 7, 2) := by decide +kernel
theorem d_MO_reckon_39 : decode b_MO_reckon 39 = .ok (.iload 7, 2) := by decide +kernel
theorem d_MO_reckon_41 : decode b_MO_reckon 41 = .ok (.iconst 3, 1) := by decide +kernel
theorem d_MO_reckon_42 : decode b_MO_reckon 42 = .ok (.if_icmp .ge 31, 3) := by decide +kernel
theorem d_MO_reckon_45 : decode b_MO_reckon 45 = .ok (.aload_n 0, 1) := by decide +kernel
theorem d_MO_reckon_46 : decode b_MO_reckon 46 = .ok (.iload 7, 2) := by decide +kernel
theorem d_MO_reckon_48 : decode b_MO_reckon 48 = .ok (.putfield 199, 3) := by decide +kernel
theorem d_MO_reckon_51 : decode b_MO_reckon 51 = .ok (.aload_n 0, 1) := by decide +kernel
theorem d_MO_reckon_52 : decode b_MO_reckon 52 = .ok (.iload_n 1, 1) := by decide +kernel
theorem d_MO_reckon_53 : decode b_MO_reckon 53 = .ok (.iload 7, 2) := by decide +kernel
theorem d_MO_reckon_55 : decode b_MO_reckon 55 = .ok (.lload_n 2, 1) := by decide +kernel
theorem d_MO_reckon_56 : decode b_MO_reckon 56 = .ok (.lload 4, 2) := by decide +kernel
theorem d_MO_reckon_58 : decode b_MO_reckon 58 = .ok (.invokevirtual 202, 3) := by decide +kernel
theorem d_MO_reckon_61 : decode b_MO_reckon 61 = .ok (.iconst (-1), 1) := by decide +kernel
theorem d_MO_reckon_62 : decode b_MO_reckon 62 = .ok (.if_icmp .ne 5, 3) := by decide +kernel
theorem d_MO_reckon_65 : decode b_MO_reckon 65 = .ok (.iconst 0, 1) := by decide +kernel
theorem d_MO_reckon_66 : decode b_MO_reckon 66 = .ok (.ireturn, 1) := by decide +kernel
theorem d_MO_reckon_67 : decode b_MO_reckon 67 = .ok (.iinc 7 1, 3) := by decide +kernel
theorem d_MO_reckon_70 : decode b_MO_reckon 70 = .ok (.goto (-31), 3) := by decide +kernel
theorem d_MO_reckon_73 : decode b_MO_reckon 73 = .ok (.aload_n 0, 1) := by decide +kernel
theorem d_MO_reckon_74 : decode b_MO_reckon 74 = .ok (.getfield 38, 3) := by decide +kernel
theorem d_MO_reckon_77 : decode b_MO_reckon 77 = .ok (.aload_n 0, 1) := by decide +kernel
theorem d_MO_reckon_78 : decode b_MO_reckon 78 = .ok (.iload_n 1, 1) := by decide +kernel
theorem d_MO_reckon_79 : decode b_MO_reckon 79 = .ok (.iconst 0, 1) := by decide +kernel
theorem d_MO_reckon_80 : decode b_MO_reckon 80 = .ok (.lload_n 2, 1) := by decide +kernel
theorem d_MO_reckon_81 : decode b_MO_reckon 81 = .ok (.lload 4, 2) := by decide +kernel
theorem d_MO_reckon_83 : decode b_MO_reckon 83 = .ok (.invokevirtual 202, 3) := by decide +kernel
theorem d_MO_reckon_86 : decode b_MO_reckon 86 = .ok (.laload, 1) := by decide +kernel
theorem d_MO_reckon_87 : decode b_MO_reckon 87 = .ok (.lstore 7, 2) := by decide +kernel
theorem d_MO_reckon_89 : decode b_MO_reckon 89 = .ok (.aload_n 0, 1) := by decide +kernel
theorem d_MO_reckon_90 : decode b_MO_reckon 90 = .ok (.getfield 38, 3) := by decide +kernel
theorem d_MO_reckon_93 : decode b_MO_reckon 93 = .ok (.aload_n 0, 1) := by decide +kernel
theorem d_MO_reckon_94 : decode b_MO_reckon 94 = .ok (.iload_n 1, 1) := by decide +kernel
theorem d_MO_reckon_95 : decode b_MO_reckon 95 = .ok (.iconst 1, 1) := by decide +kernel
theorem d_MO_reckon_96 : decode b_MO_reckon 96 = .ok (.lload_n 2, 1) := by decide +kernel
theorem d_MO_reckon_97 : decode b_MO_reckon 97 = .ok (.lload 4, 2) := by decide +kernel
theorem d_MO_reckon_99 : decode b_MO_reckon 99 = .ok (.invokevirtual 202, 3) := by decide +kernel
theorem d_MO_reckon_102 : decode b_MO_reckon 102 = .ok (.laload, 1) := by decide +kernel
theorem d_MO_reckon_103 : decode b_MO_reckon 103 = .ok (.lstore 9, 2) := by decide +kernel
theorem d_MO_reckon_105 : decode b_MO_reckon 105 = .ok (.aload_n 0, 1) := by decide +kernel
theorem d_MO_reckon_106 : decode b_MO_reckon 106 = .ok (.getfield 38, 3) := by decide +kernel
theorem d_MO_reckon_109 : decode b_MO_reckon 109 = .ok (.aload_n 0, 1) := by decide +kernel
theorem d_MO_reckon_110 : decode b_MO_reckon 110 = .ok (.iload_n 1, 1) := by decide +kernel
theorem d_MO_reckon_111 : decode b_MO_reckon 111 = .ok (.iconst 2, 1) := by decide +kernel
theorem d_MO_reckon_112 : decode b_MO_reckon 112 = .ok (.lload_n 2, 1) := by decide +kernel
theorem d_MO_reckon_113 : decode b_MO_reckon 113 = .ok (.lload 4, 2) := by decide +kernel
theorem d_MO_reckon_115 : decode b_MO_reckon 115 = .ok (.invokevirtual 202, 3) := by decide +kernel
theorem d_MO_reckon_118 : decode b_MO_reckon 118 = .ok (.laload, 1) := by decide +kernel
theorem d_MO_reckon_119 : decode b_MO_reckon 119 = .ok (.lstore 11, 2) := by decide +kernel
theorem d_MO_reckon_121 : decode b_MO_reckon 121 = .ok (.aload_n 0, 1) := by decide +kernel
theorem d_MO_reckon_122 : decode b_MO_reckon 122 = .ok (.iload 6, 2) := by decide +kernel
theorem d_MO_reckon_124 : decode b_MO_reckon 124 = .ok (.iconst 0, 1) := by decide +kernel
theorem d_MO_reckon_125 : decode b_MO_reckon 125 = .ok (.lload 7, 2) := by decide +kernel
theorem d_MO_reckon_127 : decode b_MO_reckon 127 = .ok (.lload 9, 2) := by decide +kernel
theorem d_MO_reckon_129 : decode b_MO_reckon 129 = .ok (.invokevirtual 206, 3) := by decide +kernel
theorem d_MO_reckon_132 : decode b_MO_reckon 132 = .ok (.istore 13, 2) := by decide +kernel
theorem d_MO_reckon_134 : decode b_MO_reckon 134 = .ok (.aload_n 0, 1) := by decide +kernel
theorem d_MO_reckon_135 : decode b_MO_reckon 135 = .ok (.iload 6, 2) := by decide +kernel
theorem d_MO_reckon_137 : decode b_MO_reckon 137 = .ok (.iconst 1, 1) := by decide +kernel
theorem d_MO_reckon_138 : decode b_MO_reckon 138 = .ok (.lload 7, 2) := by decide +kernel
theorem d_MO_reckon_140 : decode b_MO_reckon 140 = .ok (.lconst 0, 1) := by decide +kernel
theorem d_MO_reckon_141 : decode b_MO_reckon 141 = .ok (.invokevirtual 206, 3) := by decide +kernel
theorem d_MO_reckon_144 : decode b_MO_reckon 144 = .ok (.istore 14, 2) := by decide +kernel
theorem d_MO_reckon_146 : decode b_MO_reckon 146 = .ok (.aload_n 0, 1) := by decide +kernel
theorem d_MO_reckon_147 : decode b_MO_reckon 147 = .ok (.iload_n 1, 1) := by decide +kernel
theorem d_MO_reckon_148 : decode b_MO_reckon 148 = .ok (.iconst 3, 1) := by decide +kernel
theorem d_MO_reckon_149 : decode b_MO_reckon 149 = .ok (.lload_n 2, 1) := by decide +kernel
theorem d_MO_reckon_150 : decode b_MO_reckon 150 = .ok (.lload 4, 2) := by decide +kernel
theorem d_MO_reckon_152 : decode b_MO_reckon 152 = .ok (.invokevirtual 202, 3) := by decide +kernel
theorem d_MO_reckon_155 : decode b_MO_reckon 155 = .ok (.istore 15, 2) := by decide +kernel
theorem d_MO_reckon_157 : decode b_MO_reckon 157 = .ok (.aload_n 0, 1) := by decide +kernel
theorem d_MO_reckon_158 : decode b_MO_reckon 158 = .ok (.iload 13, 2) := by decide +kernel
theorem d_MO_reckon_160 : decode b_MO_reckon 160 = .ok (.iconst (-1), 1) := by decide +kernel
theorem d_MO_reckon_161 : decode b_MO_reckon 161 = .ok (.if_icmp .ne 8, 3) := by decide +kernel
theorem d_MO_reckon_164 : decode b_MO_reckon 164 = .ok (.bipush 21, 2) := by decide +kernel
theorem d_MO_reckon_166 : decode b_MO_reckon 166 = .ok (.goto 4, 3) := by decide +kernel
theorem d_MO_reckon_169 : decode b_MO_reckon 169 = .ok (.iconst 3, 1) := by decide +kernel
theorem d_MO_reckon_170 : decode b_MO_reckon 170 = .ok (.putfield 199, 3) := by decide +kernel
theorem d_MO_reckon_173 : decode b_MO_reckon 173 = .ok (.iload 13, 2) := by decide +kernel
theorem d_MO_reckon_175 : decode b_MO_reckon 175 = .ok (.iconst (-1), 1) := by decide +kernel
theorem d_MO_reckon_176 : decode b_MO_reckon 176 = .ok (.if_icmp .eq 15, 3) := by decide +kernel
theorem d_MO_reckon_179 : decode b_MO_reckon 179 = .ok (.iload 14, 2) := by decide +kernel
theorem d_MO_reckon_181 : decode b_MO_reckon 181 = .ok (.iconst (-1), 1) := by decide +kernel
theorem d_MO_reckon_182 : decode b_MO_reckon 182 = .ok (.if_icmp .eq 11, 3) := by decide +kernel
theorem d_MO_reckon_185 : decode b_MO_reckon 185 = .ok (.iload 15, 2) := by decide +kernel
theorem d_MO_reckon_187 : decode b_MO_reckon 187 = .ok (.iconst (-1), 1) := by decide +kernel
theorem d_MO_reckon_188 : decode b_MO_reckon 188 = .ok (.if_icmp .ne 5, 3) := by decide +kernel
theorem d_MO_reckon_191 : decode b_MO_reckon 191 = .ok (.iconst 0, 1) := by decide +kernel
theorem d_MO_reckon_192 : decode b_MO_reckon 192 = .ok (.ireturn, 1) := by decide +kernel
theorem d_MO_reckon_193 : decode b_MO_reckon 193 = .ok (.aload_n 0, 1) := by decide +kernel
theorem d_MO_reckon_194 : decode b_MO_reckon 194 = .ok (.iconst (-1), 1) := by decide +kernel
theorem d_MO_reckon_195 : decode b_MO_reckon 195 = .ok (.putfield 199, 3) := by decide +kernel
theorem d_MO_reckon_198 : decode b_MO_reckon 198 = .ok (.aload_n 0, 1) := by decide +kernel
theorem d_MO_reckon_199 : decode b_MO_reckon 199 = .ok (.iload 6, 2) := by decide +kernel
theorem d_MO_reckon_201 : decode b_MO_reckon 201 = .ok (.iload 13, 2) := by decide +kernel
theorem d_MO_reckon_203 : decode b_MO_reckon 203 = .ok (.iconst 4, 1) := by decide +kernel
theorem d_MO_reckon_204 : decode b_MO_reckon 204 = .ok (.invokevirtual 209, 3) := by decide +kernel
theorem d_MO_reckon_207 : decode b_MO_reckon 207 = .ok (.i2l, 1) := by decide +kernel
theorem d_MO_reckon_208 : decode b_MO_reckon 208 = .ok (.lstore 16, 2) := by decide +kernel
theorem d_MO_reckon_210 : decode b_MO_reckon 210 = .ok (.aload_n 0, 1) := by decide +kernel
theorem d_MO_reckon_211 : decode b_MO_reckon 211 = .ok (.lload 11, 2) := by decide +kernel
theorem d_MO_reckon_213 : decode b_MO_reckon 213 = .ok (.lload 16, 2) := by decide +kernel
theorem d_MO_reckon_215 : decode b_MO_reckon 215 = .ok (.lmul, 1) := by decide +kernel
theorem d_MO_reckon_216 : decode b_MO_reckon 216 = .ok (.ldc2_w 162, 3) := by decide +kernel
theorem d_MO_reckon_219 : decode b_MO_reckon 219 = .ok (.lmul, 1) := by decide +kernel
theorem d_MO_reckon_220 : decode b_MO_reckon 220 = .ok (.putfield 187, 3) := by decide +kernel
theorem d_MO_reckon_223 : decode b_MO_reckon 223 = .ok (.aload_n 0, 1) := by decide +kernel
theorem d_MO_reckon_224 : decode b_MO_reckon 224 = .ok (.iconst 0, 1) := by decide +kernel
theorem d_MO_reckon_225 : decode b_MO_reckon 225 = .ok (.iload 13, 2) := by decide +kernel
theorem d_MO_reckon_227 : decode b_MO_reckon 227 = .ok (.invokevirtual 213, 3) := by decide +kernel
theorem d_MO_reckon_230 : decode b_MO_reckon 230 = .ok (.aload_n 0, 1) := by decide +kernel
theorem d_MO_reckon_231 : decode b_MO_reckon 231 = .ok (.iload_n 1, 1) := by decide +kernel
theorem d_MO_reckon_232 : decode b_MO_reckon 232 = .ok (.iconst 4, 1) := by decide +kernel
theorem d_MO_reckon_233 : decode b_MO_reckon 233 = .ok (.lload_n 2, 1) := by decide +kernel
theorem d_MO_reckon_234 : decode b_MO_reckon 234 = .ok (.lload 4, 2) := by decide +kernel
theorem d_MO_reckon_236 : decode b_MO_reckon 236 = .ok (.invokevirtual 202, 3) := by decide +kernel
theorem d_MO_reckon_239 : decode b_MO_reckon 239 = .ok (.istore 18, 2) := by decide +kernel
theorem d_MO_reckon_241 : decode b_MO_reckon 241 = .ok (.aload_n 0, 1) := by decide +kernel
theorem d_MO_reckon_242 : decode b_MO_reckon 242 = .ok (.iload 6, 2) := by decide +kernel
theorem d_MO_reckon_244 : decode b_MO_reckon 244 = .ok (.iconst 2, 1) := by decide +kernel
theorem d_MO_reckon_245 : decode b_MO_reckon 245 = .ok (.lload 7, 2) := by decide +kernel
theorem d_MO_reckon_247 : decode b_MO_reckon 247 = .ok (.lconst 0, 1) := by decide +kernel
theorem d_MO_reckon_248 : decode b_MO_reckon 248 = .ok (.invokevirtual 206, 3) := by decide +kernel
theorem d_MO_reckon_251 : decode b_MO_reckon 251 = .ok (.istore 19, 2) := by decide +kernel
theorem d_MO_reckon_253 : decode b_MO_reckon 253 = .ok (.iload 18, 2) := by decide +kernel
theorem d_MO_reckon_255 : decode b_MO_reckon 255 = .ok (.iconst (-1), 1) := by decide +kernel
theorem d_MO_reckon_256 : decode b_MO_reckon 256 = .ok (.if_icmp .eq 67, 3) := by decide +kernel
theorem d_MO_reckon_259 : decode b_MO_reckon 259 = .ok (.iload 19, 2) := by decide +kernel
theorem d_MO_reckon_261 : decode b_MO_reckon 261 = .ok (.iconst (-1), 1) := by decide +kernel
theorem d_MO_reckon_262 : decode b_MO_reckon 262 = .ok (.if_icmp .eq 61, 3) := by decide +kernel
theorem d_MO_reckon_265 : decode b_MO_reckon 265 = .ok (.aload_n 0, 1) := by decide +kernel
theorem d_MO_reckon_266 : decode b_MO_reckon 266 = .ok (.aload_n 0, 1) := by decide +kernel
theorem d_MO_reckon_267 : decode b_MO_reckon 267 = .ok (.getfield 38, 3) := by decide +kernel
theorem d_MO_reckon_270 : decode b_MO_reckon 270 = .ok (.iload 18, 2) := by decide +kernel
theorem d_MO_reckon_272 : decode b_MO_reckon 272 = .ok (.laload, 1) := by decide +kernel
theorem d_MO_reckon_273 : decode b_MO_reckon 273 = .ok (.ldc2_w 171, 3) := by decide +kernel
theorem d_MO_reckon_276 : decode b_MO_reckon 276 = .ok (.lmul, 1) := by decide +kernel
theorem d_MO_reckon_277 : decode b_MO_reckon 277 = .ok (.lload 11, 2) := by decide +kernel
theorem d_MO_reckon_279 : decode b_MO_reckon 279 = .ok (.aload_n 0, 1) := by decide +kernel
theorem d_MO_reckon_280 : decode b_MO_reckon 280 = .ok (.iload 6, 2) := by decide +kernel
theorem d_MO_reckon_282 : decode b_MO_reckon 282 = .ok (.iload 19, 2) := by decide +kernel
theorem d_MO_reckon_284 : decode b_MO_reckon 284 = .ok (.iconst 2, 1) := by decide +kernel
theorem d_MO_reckon_285 : decode b_MO_reckon 285 = .ok (.invokevirtual 209, 3) := by decide +kernel
theorem d_MO_reckon_288 : decode b_MO_reckon 288 = .ok (.i2l, 1) := by decide +kernel
theorem d_MO_reckon_289 : decode b_MO_reckon 289 = .ok (.lmul, 1) := by decide +kernel
theorem d_MO_reckon_290 : decode b_MO_reckon 290 = .ok (.invokestatic 217, 3) := by decide +kernel
theorem d_MO_reckon_293 : decode b_MO_reckon 293 = .ok (.putfield 192, 3) := by decide +kernel
theorem d_MO_reckon_296 : decode b_MO_reckon 296 = .ok (.aload_n 0, 1) := by decide +kernel
theorem d_MO_reckon_297 : decode b_MO_reckon 297 = .ok (.dup, 1) := by decide +kernel
theorem d_MO_reckon_298 : decode b_MO_reckon 298 = .ok (.getfield 187, 3) := by decide +kernel
theorem d_MO_reckon_301 : decode b_MO_reckon 301 = .ok (.aload_n 0, 1) := by decide +kernel
theorem d_MO_reckon_302 : decode b_MO_reckon 302 = .ok (.getfield 192, 3) := by decide +kernel
theorem d_MO_reckon_305 : decode b_MO_reckon 305 = .ok (.lload 16, 2) := by decide +kernel
theorem d_MO_reckon_307 : decode b_MO_reckon 307 = .ok (.lmul, 1) := by decide +kernel
theorem d_MO_reckon_308 : decode b_MO_reckon 308 = .ok (.ldc2_w 158, 3) := by decide +kernel
theorem d_MO_reckon_311 : decode b_MO_reckon 311 = .ok (.lmul, 1) := by decide +kernel
theorem d_MO_reckon_312 : decode b_MO_reckon 312 = .ok (.lsub, 1) := by decide +kernel
theorem d_MO_reckon_313 : decode b_MO_reckon 313 = .ok (.putfield 187, 3) := by decide +kernel
theorem d_MO_reckon_316 : decode b_MO_reckon 316 = .ok (.aload_n 0, 1) := by decide +kernel
theorem d_MO_reckon_317 : decode b_MO_reckon 317 = .ok (.iconst 1, 1) := by decide +kernel
theorem d_MO_reckon_318 : decode b_MO_reckon 318 = .ok (.iload 19, 2) := by decide +kernel
theorem d_MO_reckon_320 : decode b_MO_reckon 320 = .ok (.invokevirtual 213, 3) := by decide +kernel
theorem d_MO_reckon_323 : decode b_MO_reckon 323 = .ok (.aload_n 0, 1) := by decide +kernel
theorem d_MO_reckon_324 : decode b_MO_reckon 324 = .ok (.iload_n 1, 1) := by decide +kernel
theorem d_MO_reckon_325 : decode b_MO_reckon 325 = .ok (.iconst 5, 1) := by decide +kernel
theorem d_MO_reckon_326 : decode b_MO_reckon 326 = .ok (.lload_n 2, 1) := by decide +kernel
theorem d_MO_reckon_327 : decode b_MO_reckon 327 = .ok (.lload 4, 2) := by decide +kernel
theorem d_MO_reckon_329 : decode b_MO_reckon 329 = .ok (.invokevirtual 202, 3) := by decide +kernel
theorem d_MO_reckon_332 : decode b_MO_reckon 332 = .ok (.istore 20, 2) := by decide +kernel
theorem d_MO_reckon_334 : decode b_MO_reckon 334 = .ok (.aload_n 0, 1) := by decide +kernel
theorem d_MO_reckon_335 : decode b_MO_reckon 335 = .ok (.iload 6, 2) := by decide +kernel
theorem d_MO_reckon_337 : decode b_MO_reckon 337 = .ok (.iconst 3, 1) := by decide +kernel
theorem d_MO_reckon_338 : decode b_MO_reckon 338 = .ok (.lload 7, 2) := by decide +kernel
theorem d_MO_reckon_340 : decode b_MO_reckon 340 = .ok (.lconst 0, 1) := by decide +kernel
theorem d_MO_reckon_341 : decode b_MO_reckon 341 = .ok (.invokevirtual 206, 3) := by decide +kernel
theorem d_MO_reckon_344 : decode b_MO_reckon 344 = .ok (.istore 21, 2) := by decide +kernel
theorem d_MO_reckon_346 : decode b_MO_reckon 346 = .ok (.iload 20, 2) := by decide +kernel
theorem d_MO_reckon_348 : decode b_MO_reckon 348 = .ok (.iconst (-1), 1) := by decide +kernel
theorem d_MO_reckon_349 : decode b_MO_reckon 349 = .ok (.if_icmp .eq 72, 3) := by decide +kernel
theorem d_MO_reckon_352 : decode b_MO_reckon 352 = .ok (.iload 21, 2) := by decide +kernel
theorem d_MO_reckon_354 : decode b_MO_reckon 354 = .ok (.iconst (-1), 1) := by decide +kernel
theorem d_MO_reckon_355 : decode b_MO_reckon 355 = .ok (.if_icmp .eq 66, 3) := by decide +kernel
theorem d_MO_reckon_358 : decode b_MO_reckon 358 = .ok (.aload_n 0, 1) := by decide +kernel
theorem d_MO_reckon_359 : decode b_MO_reckon 359 = .ok (.getfield 38, 3) := by decide +kernel
theorem d_MO_reckon_362 : decode b_MO_reckon 362 = .ok (.iload 20, 2) := by decide +kernel
theorem d_MO_reckon_364 : decode b_MO_reckon 364 = .ok (.laload, 1) := by decide +kernel
theorem d_MO_reckon_365 : decode b_MO_reckon 365 = .ok (.ldc2_w 171, 3) := by decide +kernel
theorem d_MO_reckon_368 : decode b_MO_reckon 368 = .ok (.lmul, 1) := by decide +kernel
theorem d_MO_reckon_369 : decode b_MO_reckon 369 = .ok (.lload 11, 2) := by decide +kernel
theorem d_MO_reckon_371 : decode b_MO_reckon 371 = .ok (.ldc2_w 171, 3) := by decide +kernel
theorem d_MO_reckon_374 : decode b_MO_reckon 374 = .ok (.lmul, 1) := by decide +kernel
theorem d_MO_reckon_375 : decode b_MO_reckon 375 = .ok (.aload_n 0, 1) := by decide +kernel
theorem d_MO_reckon_376 : decode b_MO_reckon 376 = .ok (.getfield 192, 3) := by decide +kernel
theorem d_MO_reckon_379 : decode b_MO_reckon 379 = .ok (.lsub, 1) := by decide +kernel
theorem d_MO_reckon_380 : decode b_MO_reckon 380 = .ok (.invokestatic 217, 3) := by decide +kernel
theorem d_MO_reckon_383 : decode b_MO_reckon 383 = .ok (.lstore 22, 2) := by decide +kernel
theorem d_MO_reckon_385 : decode b_MO_reckon 385 = .ok (.aload_n 0, 1) := by decide +kernel
theorem d_MO_reckon_386 : decode b_MO_reckon 386 = .ok (.dup, 1) := by decide +kernel
theorem d_MO_reckon_387 : decode b_MO_reckon 387 = .ok (.getfield 187, 3) := by decide +kernel
theorem d_MO_reckon_390 : decode b_MO_reckon 390 = .ok (.lload 22, 2) := by decide +kernel
theorem d_MO_reckon_392 : decode b_MO_reckon 392 = .ok (.lload 16, 2) := by decide +kernel
theorem d_MO_reckon_394 : decode b_MO_reckon 394 = .ok (.lmul, 1) := by decide +kernel
theorem d_MO_reckon_395 : decode b_MO_reckon 395 = .ok (.aload_n 0, 1) := by decide +kernel
theorem d_MO_reckon_396 : decode b_MO_reckon 396 = .ok (.iload 6, 2) := by decide +kernel
theorem d_MO_reckon_398 : decode b_MO_reckon 398 = .ok (.iload 21, 2) := by decide +kernel
theorem d_MO_reckon_400 : decode b_MO_reckon 400 = .ok (.iconst 2, 1) := by decide +kernel
theorem d_MO_reckon_401 : decode b_MO_reckon 401 = .ok (.invokevirtual 209, 3) := by decide +kernel
theorem d_MO_reckon_404 : decode b_MO_reckon 404 = .ok (.i2l, 1) := by decide +kernel
theorem d_MO_reckon_405 : decode b_MO_reckon 405 = .ok (.lmul, 1) := by decide +kernel
theorem d_MO_reckon_406 : decode b_MO_reckon 406 = .ok (.ldc2_w 171, 3) := by decide +kernel
theorem d_MO_reckon_409 : decode b_MO_reckon 409 = .ok (.lmul, 1) := by decide +kernel
theorem d_MO_reckon_410 : decode b_MO_reckon 410 = .ok (.lsub, 1) := by decide +kernel
theorem d_MO_reckon_411 : decode b_MO_reckon 411 = .ok (.putfield 187, 3) := by decide +kernel
theorem d_MO_reckon_414 : decode b_MO_reckon 414 = .ok (.aload_n 0, 1) := by decide +kernel
theorem d_MO_reckon_415 : decode b_MO_reckon 415 = .ok (.iconst 2, 1) := by decide +kernel
theorem d_MO_reckon_416 : decode b_MO_reckon 416 = .ok (.iload 21, 2) := by decide +kernel
theorem d_MO_reckon_418 : decode b_MO_reckon 418 = .ok (.invokevirtual 213, 3) := by decide +kernel
theorem d_MO_reckon_421 : decode b_MO_reckon 421 = .ok (.iload 14, 2) := by decide +kernel
theorem d_MO_reckon_423 : decode b_MO_reckon 423 = .ok (.iconst (-1), 1) := by decide +kernel
theorem d_MO_reckon_424 : decode b_MO_reckon 424 = .ok (.if_icmp .eq 54, 3) := by decide +kernel
theorem d_MO_reckon_427 : decode b_MO_reckon 427 = .ok (.aload_n 0, 1) := by decide +kernel
theorem d_MO_reckon_428 : decode b_MO_reckon 428 = .ok (.getfield 38, 3) := by decide +kernel
theorem d_MO_reckon_431 : decode b_MO_reckon 431 = .ok (.iload 15, 2) := by decide +kernel
theorem d_MO_reckon_433 : decode b_MO_reckon 433 = .ok (.laload, 1) := by decide +kernel
theorem d_MO_reckon_434 : decode b_MO_reckon 434 = .ok (.aload_n 0, 1) := by decide +kernel
theorem d_MO_reckon_435 : decode b_MO_reckon 435 = .ok (.iload 6, 2) := by decide +kernel
theorem d_MO_reckon_437 : decode b_MO_reckon 437 = .ok (.iload 14, 2) := by decide +kernel
theorem d_MO_reckon_439 : decode b_MO_reckon 439 = .ok (.iconst 2, 1) := by decide +kernel
theorem d_MO_reckon_440 : decode b_MO_reckon 440 = .ok (.invokevirtual 209, 3) := by decide +kernel
theorem d_MO_reckon_443 : decode b_MO_reckon 443 = .ok (.i2l, 1) := by decide +kernel
theorem d_MO_reckon_444 : decode b_MO_reckon 444 = .ok (.lcmp, 1) := by decide +kernel
theorem d_MO_reckon_445 : decode b_MO_reckon 445 = .ok (.ifCond .ge 33, 3) := by decide +kernel
theorem d_MO_reckon_448 : decode b_MO_reckon 448 = .ok (.aload_n 0, 1) := by decide +kernel
theorem d_MO_reckon_449 : decode b_MO_reckon 449 = .ok (.aload_n 0, 1) := by decide +kernel
theorem d_MO_reckon_450 : decode b_MO_reckon 450 = .ok (.getfield 187, 3) := by decide +kernel
theorem d_MO_reckon_453 : decode b_MO_reckon 453 = .ok (.ldc2_w 171, 3) := by decide +kernel
theorem d_MO_reckon_456 : decode b_MO_reckon 456 = .ok (.ldiv, 1) := by decide +kernel
theorem d_MO_reckon_457 : decode b_MO_reckon 457 = .ok (.aload_n 0, 1) := by decide +kernel
theorem d_MO_reckon_458 : decode b_MO_reckon 458 = .ok (.iload 6, 2) := by decide +kernel
theorem d_MO_reckon_460 : decode b_MO_reckon 460 = .ok (.iload 14, 2) := by decide +kernel
theorem d_MO_reckon_462 : decode b_MO_reckon 462 = .ok (.iconst 3, 1) := by decide +kernel
theorem d_MO_reckon_463 : decode b_MO_reckon 463 = .ok (.invokevirtual 209, 3) := by decide +kernel
theorem d_MO_reckon_466 : decode b_MO_reckon 466 = .ok (.i2l, 1) := by decide +kernel
theorem d_MO_reckon_467 : decode b_MO_reckon 467 = .ok (.lmul, 1) := by decide +kernel
theorem d_MO_reckon_468 : decode b_MO_reckon 468 = .ok (.putfield 187, 3) := by decide +kernel
theorem d_MO_reckon_471 : decode b_MO_reckon 471 = .ok (.aload_n 0, 1) := by decide +kernel
theorem d_MO_reckon_472 : decode b_MO_reckon 472 = .ok (.iconst 3, 1) := by decide +kernel
theorem d_MO_reckon_473 : decode b_MO_reckon 473 = .ok (.iload 14, 2) := by decide +kernel
theorem d_MO_reckon_475 : decode b_MO_reckon 475 = .ok (.invokevirtual 213, 3) := by decide +kernel
theorem d_MO_reckon_478 : decode b_MO_reckon 478 = .ok (.aload_n 0, 1) := by decide +kernel
theorem d_MO_reckon_479 : decode b_MO_reckon 479 = .ok (.iload 6, 2) := by decide +kernel
theorem d_MO_reckon_481 : decode b_MO_reckon 481 = .ok (.iconst 4, 1) := by decide +kernel
theorem d_MO_reckon_482 : decode b_MO_reckon 482 = .ok (.lconst 0, 1) := by decide +kernel
theorem d_MO_reckon_483 : decode b_MO_reckon 483 = .ok (.lconst 0, 1) := by decide +kernel
theorem d_MO_reckon_484 : decode b_MO_reckon 484 = .ok (.invokevirtual 206, 3) := by decide +kernel
theorem d_MO_reckon_487 : decode b_MO_reckon 487 = .ok (.istore 22, 2) := by decide +kernel
theorem d_MO_reckon_489 : decode b_MO_reckon 489 = .ok (.iload 22, 2) := by decide +kernel
theorem d_MO_reckon_491 : decode b_MO_reckon 491 = .ok (.iconst (-1), 1) := by decide +kernel
theorem d_MO_reckon_492 : decode b_MO_reckon 492 = .ok (.if_icmp .eq 51, 3) := by decide +kernel
theorem d_MO_reckon_495 : decode b_MO_reckon 495 = .ok (.aload_n 0, 1) := by decide +kernel
theorem d_MO_reckon_496 : decode b_MO_reckon 496 = .ok (.iload 6, 2) := by decide +kernel
theorem d_MO_reckon_498 : decode b_MO_reckon 498 = .ok (.iload 22, 2) := by decide +kernel
theorem d_MO_reckon_500 : decode b_MO_reckon 500 = .ok (.iconst 1, 1) := by decide +kernel
theorem d_MO_reckon_501 : decode b_MO_reckon 501 = .ok (.invokevirtual 209, 3) := by decide +kernel
theorem d_MO_reckon_504 : decode b_MO_reckon 504 = .ok (.i2l, 1) := by decide +kernel
theorem d_MO_reckon_505 : decode b_MO_reckon 505 = .ok (.ldc2_w 190, 3) := by decide +kernel
theorem d_MO_reckon_508 : decode b_MO_reckon 508 = .ok (.lmul, 1) := by decide +kernel
theorem d_MO_reckon_509 : decode b_MO_reckon 509 = .ok (.lstore 23, 2) := by decide +kernel
theorem d_MO_reckon_511 : decode b_MO_reckon 511 = .ok (.aload_n 0, 1) := by decide +kernel
theorem d_MO_reckon_512 : decode b_MO_reckon 512 = .ok (.ldc2_w 221, 3) := by decide +kernel
theorem d_MO_reckon_515 : decode b_MO_reckon 515 = .ok (.aload_n 0, 1) := by decide +kernel
theorem d_MO_reckon_516 : decode b_MO_reckon 516 = .ok (.getfield 187, 3) := by decide +kernel
theorem d_MO_reckon_519 : decode b_MO_reckon 519 = .ok (.lmul, 1) := by decide +kernel
theorem d_MO_reckon_520 : decode b_MO_reckon 520 = .ok (.lload 23, 2) := by decide +kernel
theorem d_MO_reckon_522 : decode b_MO_reckon 522 = .ok (.ladd, 1) := by decide +kernel
theorem d_MO_reckon_523 : decode b_MO_reckon 523 = .ok (.ldc2_w 221, 3) := by decide +kernel
theorem d_MO_reckon_526 : decode b_MO_reckon 526 = .ok (.lload 23, 2) := by decide +kernel
theorem d_MO_reckon_528 : decode b_MO_reckon 528 = .ok (.lmul, 1) := by decide +kernel
theorem d_MO_reckon_529 : decode b_MO_reckon 529 = .ok (.ldiv, 1) := by decide +kernel
theorem d_MO_reckon_530 : decode b_MO_reckon 530 = .ok (.lload 23, 2) := by decide +kernel
theorem d_MO_reckon_532 : decode b_MO_reckon 532 = .ok (.lmul, 1) := by decide +kernel
theorem d_MO_reckon_533 : decode b_MO_reckon 533 = .ok (.putfield 187, 3) := by decide +kernel
theorem d_MO_reckon_536 : decode b_MO_reckon 536 = .ok (.aload_n 0, 1) := by decide +kernel
theorem d_MO_reckon_537 : decode b_MO_reckon 537 = .ok (.iconst 4, 1) := by decide +kernel
theorem d_MO_reckon_538 : decode b_MO_reckon 538 = .ok (.iload 22, 2) := by decide +kernel
theorem d_MO_reckon_540 : decode b_MO_reckon 540 = .ok (.invokevirtual 213, 3) := by decide +kernel
theorem d_MO_reckon_543 : decode b_MO_reckon 543 = .ok (.iconst 1, 1) := by decide +kernel
theorem d_MO_reckon_544 : decode b_MO_reckon 544 = .ok (.ireturn, 1) := by decide +kernel
theorem d_MO_editionOf_0 : decode b_MO_editionOf 0 = .ok (.iconst (-1), 1) := by decide +kernel
theorem d_MO_editionOf_1 : decode b_MO_editionOf 1 = .ok (.istore_n 3, 1) := by decide +kernel
theorem d_MO_editionOf_2 : decode b_MO_editionOf 2 = .ok (.iconst 0, 1) := by decide +kernel
theorem d_MO_editionOf_3 : decode b_MO_editionOf 3 = .ok (.istore 4, 2) := by decide +kernel
theorem d_MO_editionOf_5 : decode b_MO_editionOf 5 = .ok (.iload 4, 2) := by decide +kernel
theorem d_MO_editionOf_7 : decode b_MO_editionOf 7 = .ok (.aload_n 0, 1) := by decide +kernel
theorem d_MO_editionOf_8 : decode b_MO_editionOf 8 = .ok (.getfield 134, 3) := by decide +kernel
theorem d_MO_editionOf_11 : decode b_MO_editionOf 11 = .ok (.if_icmp .ge 50, 3) := by decide +kernel
theorem d_MO_editionOf_14 : decode b_MO_editionOf 14 = .ok (.aload_n 0, 1) := by decide +kernel
theorem d_MO_editionOf_15 : decode b_MO_editionOf 15 = .ok (.getfield 22, 3) := by decide +kernel
theorem d_MO_editionOf_18 : decode b_MO_editionOf 18 = .ok (.iload 4, 2) := by decide +kernel
theorem d_MO_editionOf_20 : decode b_MO_editionOf 20 = .ok (.laload, 1) := by decide +kernel
theorem d_MO_editionOf_21 : decode b_MO_editionOf 21 = .ok (.lload_n 1, 1) := by decide +kernel
theorem d_MO_editionOf_22 : decode b_MO_editionOf 22 = .ok (.lcmp, 1) := by decide +kernel
theorem d_MO_editionOf_23 : decode b_MO_editionOf 23 = .ok (.ifCond .gt 30, 3) := by decide +kernel
theorem d_MO_editionOf_26 : decode b_MO_editionOf 26 = .ok (.iload_n 3, 1) := by decide +kernel
theorem d_MO_editionOf_27 : decode b_MO_editionOf 27 = .ok (.iconst (-1), 1) := by decide +kernel
theorem d_MO_editionOf_28 : decode b_MO_editionOf 28 = .ok (.if_icmp .eq 20, 3) := by decide +kernel
theorem d_MO_editionOf_31 : decode b_MO_editionOf 31 = .ok (.aload_n 0, 1) := by decide +kernel
theorem d_MO_editionOf_32 : decode b_MO_editionOf 32 = .ok (.getfield 22, 3) := by decide +kernel
theorem d_MO_editionOf_35 : decode b_MO_editionOf 35 = .ok (.iload 4, 2) := by decide +kernel
theorem d_MO_editionOf_37 : decode b_MO_editionOf 37 = .ok (.laload, 1) := by decide +kernel
theorem d_MO_editionOf_38 : decode b_MO_editionOf 38 = .ok (.aload_n 0, 1) := by decide +kernel
theorem d_MO_editionOf_39 : decode b_MO_editionOf 39 = .ok (.getfield 22, 3) := by decide +kernel
theorem d_MO_editionOf_42 : decode b_MO_editionOf 42 = .ok (.iload_n 3, 1) := by decide +kernel
theorem d_MO_editionOf_43 : decode b_MO_editionOf 43 = .ok (.laload, 1) := by decide +kernel
theorem d_MO_editionOf_44 : decode b_MO_editionOf 44 = .ok (.lcmp, 1) := by decide +kernel
theorem d_MO_editionOf_45 : decode b_MO_editionOf 45 = .ok (.ifCond .lt 8, 3) := by decide +kernel
theorem d_MO_editionOf_48 : decode b_MO_editionOf 48 = .ok (.iload 4, 2) := by decide +kernel
theorem d_MO_editionOf_50 : decode b_MO_editionOf 50 = .ok (.goto 4, 3) := by decide +kernel
theorem d_MO_editionOf_53 : decode b_MO_editionOf 53 = .ok (.iload_n 3, 1) := by decide +kernel
theorem d_MO_editionOf_54 : decode b_MO_editionOf 54 = .ok (.istore_n 3, 1) := by decide +kernel
theorem d_MO_editionOf_55 : decode b_MO_editionOf 55 = .ok (.iinc 4 1, 3) := by decide +kernel
theorem d_MO_editionOf_58 : decode b_MO_editionOf 58 = .ok (.goto (-53), 3) := by decide +kernel
theorem d_MO_editionOf_61 : decode b_MO_editionOf 61 = .ok (.iload_n 3, 1) := by decide +kernel
theorem d_MO_editionOf_62 : decode b_MO_editionOf 62 = .ok (.ireturn, 1) := by decide +kernel
theorem d_MO_holds_0 : decode b_MO_holds 0 = .ok (.iconst (-1), 1) := by decide +kernel
theorem d_MO_holds_1 : decode b_MO_holds 1 = .ok (.istore 7, 2) := by decide +kernel
theorem d_MO_holds_3 : decode b_MO_holds 3 = .ok (.iconst 0, 1) := by decide +kernel
theorem d_MO_holds_4 : decode b_MO_holds 4 = .ok (.istore 8, 2) := by decide +kernel
theorem d_MO_holds_6 : decode b_MO_holds 6 = .ok (.iload 8, 2) := by decide +kernel
theorem d_MO_holds_8 : decode b_MO_holds 8 = .ok (.aload_n 0, 1) := by decide +kernel
theorem d_MO_holds_9 : decode b_MO_holds 9 = .ok (.getfield 177, 3) := by decide +kernel
theorem d_MO_holds_12 : decode b_MO_holds 12 = .ok (.if_icmp .ge 101, 3) := by decide +kernel
theorem d_MO_holds_15 : decode b_MO_holds 15 = .ok (.aload_n 0, 1) := by decide +kernel
theorem d_MO_holds_16 : decode b_MO_holds 16 = .ok (.getfield 26, 3) := by decide +kernel
theorem d_MO_holds_19 : decode b_MO_holds 19 = .ok (.iload 8, 2) := by decide +kernel
theorem d_MO_holds_21 : decode b_MO_holds 21 = .ok (.iaload, 1) := by decide +kernel
theorem d_MO_holds_22 : decode b_MO_holds 22 = .ok (.iload_n 1, 1) := by decide +kernel
theorem d_MO_holds_23 : decode b_MO_holds 23 = .ok (.if_icmp .ne 43, 3) := by decide +kernel
theorem d_MO_holds_26 : decode b_MO_holds 26 = .ok (.aload_n 0, 1) := by decide +kernel
theorem d_MO_holds_27 : decode b_MO_holds 27 = .ok (.getfield 29, 3) := by decide +kernel
theorem d_MO_holds_30 : decode b_MO_holds 30 = .ok (.iload 8, 2) := by decide +kernel
theorem d_MO_holds_32 : decode b_MO_holds 32 = .ok (.iaload, 1) := by decide +kernel
theorem d_MO_holds_33 : decode b_MO_holds 33 = .ok (.iload_n 2, 1) := by decide +kernel
theorem d_MO_holds_34 : decode b_MO_holds 34 = .ok (.if_icmp .ne 32, 3) := by decide +kernel
theorem d_MO_holds_37 : decode b_MO_holds 37 = .ok (.aload_n 0, 1) := by decide +kernel
theorem d_MO_holds_38 : decode b_MO_holds 38 = .ok (.getfield 32, 3) := by decide +kernel
theorem d_MO_holds_41 : decode b_MO_holds 41 = .ok (.iload 8, 2) := by decide +kernel
theorem d_MO_holds_43 : decode b_MO_holds 43 = .ok (.laload, 1) := by decide +kernel
theorem d_MO_holds_44 : decode b_MO_holds 44 = .ok (.lload_n 3, 1) := by decide +kernel
theorem d_MO_holds_45 : decode b_MO_holds 45 = .ok (.lcmp, 1) := by decide +kernel
theorem d_MO_holds_46 : decode b_MO_holds 46 = .ok (.ifCond .gt 20, 3) := by decide +kernel
theorem d_MO_holds_49 : decode b_MO_holds 49 = .ok (.aload_n 0, 1) := by decide +kernel
theorem d_MO_holds_50 : decode b_MO_holds 50 = .ok (.getfield 35, 3) := by decide +kernel
theorem d_MO_holds_53 : decode b_MO_holds 53 = .ok (.iload 8, 2) := by decide +kernel
theorem d_MO_holds_55 : decode b_MO_holds 55 = .ok (.laload, 1) := by decide +kernel
theorem d_MO_holds_56 : decode b_MO_holds 56 = .ok (.lload 5, 2) := by decide +kernel
theorem d_MO_holds_58 : decode b_MO_holds 58 = .ok (.lcmp, 1) := by decide +kernel
theorem d_MO_holds_59 : decode b_MO_holds 59 = .ok (.ifCond .gt 7, 3) := by decide +kernel
theorem d_MO_holds_62 : decode b_MO_holds 62 = .ok (.iconst 1, 1) := by decide +kernel
theorem d_MO_holds_63 : decode b_MO_holds 63 = .ok (.goto 4, 3) := by decide +kernel
theorem d_MO_holds_66 : decode b_MO_holds 66 = .ok (.iconst 0, 1) := by decide +kernel
theorem d_MO_holds_67 : decode b_MO_holds 67 = .ok (.istore 9, 2) := by decide +kernel
theorem d_MO_holds_69 : decode b_MO_holds 69 = .ok (.iload 9, 2) := by decide +kernel
theorem d_MO_holds_71 : decode b_MO_holds 71 = .ok (.ifCond .eq 32, 3) := by decide +kernel
theorem d_MO_holds_74 : decode b_MO_holds 74 = .ok (.iload 7, 2) := by decide +kernel
theorem d_MO_holds_76 : decode b_MO_holds 76 = .ok (.iconst (-1), 1) := by decide +kernel
theorem d_MO_holds_77 : decode b_MO_holds 77 = .ok (.if_icmp .eq 21, 3) := by decide +kernel
theorem d_MO_holds_80 : decode b_MO_holds 80 = .ok (.aload_n 0, 1) := by decide +kernel
theorem d_MO_holds_81 : decode b_MO_holds 81 = .ok (.getfield 32, 3) := by decide +kernel
theorem d_MO_holds_84 : decode b_MO_holds 84 = .ok (.iload 8, 2) := by decide +kernel
theorem d_MO_holds_86 : decode b_MO_holds 86 = .ok (.laload, 1) := by decide +kernel
theorem d_MO_holds_87 : decode b_MO_holds 87 = .ok (.aload_n 0, 1) := by decide +kernel
theorem d_MO_holds_88 : decode b_MO_holds 88 = .ok (.getfield 32, 3) := by decide +kernel
theorem d_MO_holds_91 : decode b_MO_holds 91 = .ok (.iload 7, 2) := by decide +kernel
theorem d_MO_holds_93 : decode b_MO_holds 93 = .ok (.laload, 1) := by decide +kernel
theorem d_MO_holds_94 : decode b_MO_holds 94 = .ok (.lcmp, 1) := by decide +kernel
theorem d_MO_holds_95 : decode b_MO_holds 95 = .ok (.ifCond .lt 8, 3) := by decide +kernel
theorem d_MO_holds_98 : decode b_MO_holds 98 = .ok (.iload 8, 2) := by decide +kernel
theorem d_MO_holds_100 : decode b_MO_holds 100 = .ok (.goto 5, 3) := by decide +kernel
theorem d_MO_holds_103 : decode b_MO_holds 103 = .ok (.iload 7, 2) := by decide +kernel
theorem d_MO_holds_105 : decode b_MO_holds 105 = .ok (.istore 7, 2) := by decide +kernel
theorem d_MO_holds_107 : decode b_MO_holds 107 = .ok (.iinc 8 1, 3) := by decide +kernel
theorem d_MO_holds_110 : decode b_MO_holds 110 = .ok (.goto (-104), 3) := by decide +kernel
theorem d_MO_holds_113 : decode b_MO_holds 113 = .ok (.iload 7, 2) := by decide +kernel
theorem d_MO_holds_115 : decode b_MO_holds 115 = .ok (.ireturn, 1) := by decide +kernel
theorem d_MO_find_0 : decode b_MO_find 0 = .ok (.iconst 0, 1) := by decide +kernel
theorem d_MO_find_1 : decode b_MO_find 1 = .ok (.istore 7, 2) := by decide +kernel
theorem d_MO_find_3 : decode b_MO_find 3 = .ok (.iload 7, 2) := by decide +kernel
theorem d_MO_find_5 : decode b_MO_find 5 = .ok (.aload_n 0, 1) := by decide +kernel
theorem d_MO_find_6 : decode b_MO_find 6 = .ok (.getfield 19, 3) := by decide +kernel
theorem d_MO_find_9 : decode b_MO_find 9 = .ok (.iload_n 1, 1) := by decide +kernel
theorem d_MO_find_10 : decode b_MO_find 10 = .ok (.iaload, 1) := by decide +kernel
theorem d_MO_find_11 : decode b_MO_find 11 = .ok (.if_icmp .ge 102, 3) := by decide +kernel
theorem d_MO_find_14 : decode b_MO_find 14 = .ok (.iload_n 1, 1) := by decide +kernel
theorem d_MO_find_15 : decode b_MO_find 15 = .ok (.bipush 40, 2) := by decide +kernel
theorem d_MO_find_17 : decode b_MO_find 17 = .ok (.imul, 1) := by decide +kernel
theorem d_MO_find_18 : decode b_MO_find 18 = .ok (.iload 7, 2) := by decide +kernel
theorem d_MO_find_20 : decode b_MO_find 20 = .ok (.iadd, 1) := by decide +kernel
theorem d_MO_find_21 : decode b_MO_find 21 = .ok (.iconst 5, 1) := by decide +kernel
theorem d_MO_find_22 : decode b_MO_find 22 = .ok (.imul, 1) := by decide +kernel
theorem d_MO_find_23 : decode b_MO_find 23 = .ok (.istore 8, 2) := by decide +kernel
theorem d_MO_find_25 : decode b_MO_find 25 = .ok (.aload_n 0, 1) := by decide +kernel
theorem d_MO_find_26 : decode b_MO_find 26 = .ok (.getfield 16, 3) := by decide +kernel
theorem d_MO_find_29 : decode b_MO_find 29 = .ok (.iload 8, 2) := by decide +kernel
theorem d_MO_find_31 : decode b_MO_find 31 = .ok (.iaload, 1) := by decide +kernel
theorem d_MO_find_32 : decode b_MO_find 32 = .ok (.iload_n 2, 1) := by decide +kernel
theorem d_MO_find_33 : decode b_MO_find 33 = .ok (.if_icmp .ne 27, 3) := by decide +kernel
theorem d_MO_find_36 : decode b_MO_find 36 = .ok (.iload_n 2, 1) := by decide +kernel
theorem d_MO_find_37 : decode b_MO_find 37 = .ok (.iconst 4, 1) := by decide +kernel
theorem d_MO_find_38 : decode b_MO_find 38 = .ok (.if_icmp .ge 18, 3) := by decide +kernel
theorem d_MO_find_41 : decode b_MO_find 41 = .ok (.aload_n 0, 1) := by decide +kernel
theorem d_MO_find_42 : decode b_MO_find 42 = .ok (.getfield 16, 3) := by decide +kernel
theorem d_MO_find_45 : decode b_MO_find 45 = .ok (.iload 8, 2) := by decide +kernel
theorem d_MO_find_47 : decode b_MO_find 47 = .ok (.iconst 1, 1) := by decide +kernel
theorem d_MO_find_48 : decode b_MO_find 48 = .ok (.iadd, 1) := by decide +kernel
theorem d_MO_find_49 : decode b_MO_find 49 = .ok (.iaload, 1) := by decide +kernel
theorem d_MO_find_50 : decode b_MO_find 50 = .ok (.i2l, 1) := by decide +kernel
theorem d_MO_find_51 : decode b_MO_find 51 = .ok (.lload_n 3, 1) := by decide +kernel
theorem d_MO_find_52 : decode b_MO_find 52 = .ok (.lcmp, 1) := by decide +kernel
theorem d_MO_find_53 : decode b_MO_find 53 = .ok (.ifCond .ne 7, 3) := by decide +kernel
theorem d_MO_find_56 : decode b_MO_find 56 = .ok (.iconst 1, 1) := by decide +kernel
theorem d_MO_find_57 : decode b_MO_find 57 = .ok (.goto 4, 3) := by decide +kernel
theorem d_MO_find_60 : decode b_MO_find 60 = .ok (.iconst 0, 1) := by decide +kernel
theorem d_MO_find_61 : decode b_MO_find 61 = .ok (.istore 9, 2) := by decide +kernel
theorem d_MO_find_63 : decode b_MO_find 63 = .ok (.iload 9, 2) := by decide +kernel
theorem d_MO_find_65 : decode b_MO_find 65 = .ok (.ifCond .eq 42, 3) := by decide +kernel
theorem d_MO_find_68 : decode b_MO_find 68 = .ok (.iload_n 2, 1) := by decide +kernel
theorem d_MO_find_69 : decode b_MO_find 69 = .ok (.ifCond .ne 35, 3) := by decide +kernel
theorem d_MO_find_72 : decode b_MO_find 72 = .ok (.aload_n 0, 1) := by decide +kernel
theorem d_MO_find_73 : decode b_MO_find 73 = .ok (.getfield 16, 3) := by decide +kernel
theorem d_MO_find_76 : decode b_MO_find 76 = .ok (.iload 8, 2) := by decide +kernel
theorem d_MO_find_78 : decode b_MO_find 78 = .ok (.iconst 2, 1) := by decide +kernel
theorem d_MO_find_79 : decode b_MO_find 79 = .ok (.iadd, 1) := by decide +kernel
theorem d_MO_find_80 : decode b_MO_find 80 = .ok (.iaload, 1) := by decide +kernel
theorem d_MO_find_81 : decode b_MO_find 81 = .ok (.i2l, 1) := by decide +kernel
theorem d_MO_find_82 : decode b_MO_find 82 = .ok (.lload 5, 2) := by decide +kernel
theorem d_MO_find_84 : decode b_MO_find 84 = .ok (.lcmp, 1) := by decide +kernel
theorem d_MO_find_85 : decode b_MO_find 85 = .ok (.ifCond .gt 22, 3) := by decide +kernel
theorem d_MO_find_88 : decode b_MO_find 88 = .ok (.lload 5, 2) := by decide +kernel
theorem d_MO_find_90 : decode b_MO_find 90 = .ok (.aload_n 0, 1) := by decide +kernel
theorem d_MO_find_91 : decode b_MO_find 91 = .ok (.getfield 16, 3) := by decide +kernel
theorem d_MO_find_94 : decode b_MO_find 94 = .ok (.iload 8, 2) := by decide +kernel
theorem d_MO_find_96 : decode b_MO_find 96 = .ok (.iconst 3, 1) := by decide +kernel
theorem d_MO_find_97 : decode b_MO_find 97 = .ok (.iadd, 1) := by decide +kernel
theorem d_MO_find_98 : decode b_MO_find 98 = .ok (.iaload, 1) := by decide +kernel
theorem d_MO_find_99 : decode b_MO_find 99 = .ok (.i2l, 1) := by decide +kernel
theorem d_MO_find_100 : decode b_MO_find 100 = .ok (.lcmp, 1) := by decide +kernel
theorem d_MO_find_101 : decode b_MO_find 101 = .ok (.ifCond .ge 6, 3) := by decide +kernel
theorem d_MO_find_104 : decode b_MO_find 104 = .ok (.iload 7, 2) := by decide +kernel
theorem d_MO_find_106 : decode b_MO_find 106 = .ok (.ireturn, 1) := by decide +kernel
theorem d_MO_find_107 : decode b_MO_find 107 = .ok (.iinc 7 1, 3) := by decide +kernel
theorem d_MO_find_110 : decode b_MO_find 110 = .ok (.goto (-107), 3) := by decide +kernel
theorem d_MO_find_113 : decode b_MO_find 113 = .ok (.iconst (-1), 1) := by decide +kernel
theorem d_MO_find_114 : decode b_MO_find 114 = .ok (.ireturn, 1) := by decide +kernel
theorem d_MO_value_0 : decode b_MO_value 0 = .ok (.aload_n 0, 1) := by decide +kernel
theorem d_MO_value_1 : decode b_MO_value 1 = .ok (.getfield 16, 3) := by decide +kernel
theorem d_MO_value_4 : decode b_MO_value 4 = .ok (.iload_n 1, 1) := by decide +kernel
theorem d_MO_value_5 : decode b_MO_value 5 = .ok (.bipush 40, 2) := by decide +kernel
theorem d_MO_value_7 : decode b_MO_value 7 = .ok (.imul, 1) := by decide +kernel
theorem d_MO_value_8 : decode b_MO_value 8 = .ok (.iload_n 2, 1) := by decide +kernel
theorem d_MO_value_9 : decode b_MO_value 9 = .ok (.iadd, 1) := by decide +kernel
theorem d_MO_value_10 : decode b_MO_value 10 = .ok (.iconst 5, 1) := by decide +kernel
theorem d_MO_value_11 : decode b_MO_value 11 = .ok (.imul, 1) := by decide +kernel
theorem d_MO_value_12 : decode b_MO_value 12 = .ok (.iload_n 3, 1) := by decide +kernel
theorem d_MO_value_13 : decode b_MO_value 13 = .ok (.iadd, 1) := by decide +kernel
theorem d_MO_value_14 : decode b_MO_value 14 = .ok (.iaload, 1) := by decide +kernel
theorem d_MO_value_15 : decode b_MO_value 15 = .ok (.ireturn, 1) := by decide +kernel
theorem d_MO_step_0 : decode b_MO_step 0 = .ok (.aload_n 0, 1) := by decide +kernel
theorem d_MO_step_1 : decode b_MO_step 1 = .ok (.getfield 41, 3) := by decide +kernel
theorem d_MO_step_4 : decode b_MO_step 4 = .ok (.aload_n 0, 1) := by decide +kernel
theorem d_MO_step_5 : decode b_MO_step 5 = .ok (.getfield 184, 3) := by decide +kernel
theorem d_MO_step_8 : decode b_MO_step 8 = .ok (.iload_n 1, 1) := by decide +kernel
theorem d_MO_step_9 : decode b_MO_step 9 = .ok (.iastore, 1) := by decide +kernel
theorem d_MO_step_10 : decode b_MO_step 10 = .ok (.aload_n 0, 1) := by decide +kernel
theorem d_MO_step_11 : decode b_MO_step 11 = .ok (.getfield 44, 3) := by decide +kernel
theorem d_MO_step_14 : decode b_MO_step 14 = .ok (.aload_n 0, 1) := by decide +kernel
theorem d_MO_step_15 : decode b_MO_step 15 = .ok (.getfield 184, 3) := by decide +kernel
theorem d_MO_step_18 : decode b_MO_step 18 = .ok (.iload_n 2, 1) := by decide +kernel
theorem d_MO_step_19 : decode b_MO_step 19 = .ok (.iastore, 1) := by decide +kernel
theorem d_MO_step_20 : decode b_MO_step 20 = .ok (.aload_n 0, 1) := by decide +kernel
theorem d_MO_step_21 : decode b_MO_step 21 = .ok (.getfield 47, 3) := by decide +kernel
theorem d_MO_step_24 : decode b_MO_step 24 = .ok (.aload_n 0, 1) := by decide +kernel
theorem d_MO_step_25 : decode b_MO_step 25 = .ok (.getfield 184, 3) := by decide +kernel
theorem d_MO_step_28 : decode b_MO_step 28 = .ok (.aload_n 0, 1) := by decide +kernel
theorem d_MO_step_29 : decode b_MO_step 29 = .ok (.getfield 187, 3) := by decide +kernel
theorem d_MO_step_32 : decode b_MO_step 32 = .ok (.ldc2_w 190, 3) := by decide +kernel
theorem d_MO_step_35 : decode b_MO_step 35 = .ok (.ldiv, 1) := by decide +kernel
theorem d_MO_step_36 : decode b_MO_step 36 = .ok (.lastore, 1) := by decide +kernel
theorem d_MO_step_37 : decode b_MO_step 37 = .ok (.aload_n 0, 1) := by decide +kernel
theorem d_MO_step_38 : decode b_MO_step 38 = .ok (.dup, 1) := by decide +kernel
theorem d_MO_step_39 : decode b_MO_step 39 = .ok (.getfield 184, 3) := by decide +kernel
theorem d_MO_step_42 : decode b_MO_step 42 = .ok (.iconst 1, 1) := by decide +kernel
theorem d_MO_step_43 : decode b_MO_step 43 = .ok (.iadd, 1) := by decide +kernel
theorem d_MO_step_44 : decode b_MO_step 44 = .ok (.putfield 184, 3) := by decide +kernel
theorem d_MO_step_47 : decode b_MO_step 47 = .ok (.return_, 1) := by decide +kernel
theorem d_MO_least_0 : decode b_MO_least 0 = .ok (.lload_n 0, 1) := by decide +kernel
theorem d_MO_least_1 : decode b_MO_least 1 = .ok (.lload_n 2, 1) := by decide +kernel
theorem d_MO_least_2 : decode b_MO_least 2 = .ok (.lcmp, 1) := by decide +kernel
theorem d_MO_least_3 : decode b_MO_least 3 = .ok (.ifCond .ge 7, 3) := by decide +kernel
theorem d_MO_least_6 : decode b_MO_least 6 = .ok (.lload_n 0, 1) := by decide +kernel
theorem d_MO_least_7 : decode b_MO_least 7 = .ok (.goto 4, 3) := by decide +kernel
theorem d_MO_least_10 : decode b_MO_least 10 = .ok (.lload_n 2, 1) := by decide +kernel
theorem d_MO_least_11 : decode b_MO_least 11 = .ok (.lreturn, 1) := by decide +kernel
theorem d_MO_fraction_0 : decode b_MO_fraction 0 = .ok (.lload_n 2, 1) := by decide +kernel
theorem d_MO_fraction_1 : decode b_MO_fraction 1 = .ok (.lload_n 0, 1) := by decide +kernel
theorem d_MO_fraction_2 : decode b_MO_fraction 2 = .ok (.invokestatic 223, 3) := by decide +kernel
theorem d_MO_fraction_5 : decode b_MO_fraction 5 = .ok (.lstore 5, 2) := by decide +kernel
theorem d_MO_fraction_7 : decode b_MO_fraction 7 = .ok (.iload 4, 2) := by decide +kernel
theorem d_MO_fraction_9 : decode b_MO_fraction 9 = .ok (.ifCond .ne 10, 3) := by decide +kernel
theorem d_MO_fraction_12 : decode b_MO_fraction 12 = .ok (.lload_n 0, 1) := by decide +kernel
theorem d_MO_fraction_13 : decode b_MO_fraction 13 = .ok (.lload 5, 2) := by decide +kernel
theorem d_MO_fraction_15 : decode b_MO_fraction 15 = .ok (.ldiv, 1) := by decide +kernel
theorem d_MO_fraction_16 : decode b_MO_fraction 16 = .ok (.goto 7, 3) := by decide +kernel
theorem d_MO_fraction_19 : decode b_MO_fraction 19 = .ok (.lload_n 2, 1) := by decide +kernel
theorem d_MO_fraction_20 : decode b_MO_fraction 20 = .ok (.lload 5, 2) := by decide +kernel
theorem d_MO_fraction_22 : decode b_MO_fraction 22 = .ok (.ldiv, 1) := by decide +kernel
theorem d_MO_fraction_23 : decode b_MO_fraction 23 = .ok (.lreturn, 1) := by decide +kernel
theorem d_MO_divisor_0 : decode b_MO_divisor 0 = .ok (.lload_n 0, 1) := by decide +kernel
theorem d_MO_divisor_1 : decode b_MO_divisor 1 = .ok (.lstore 4, 2) := by decide +kernel
theorem d_MO_divisor_3 : decode b_MO_divisor 3 = .ok (.lload_n 2, 1) := by decide +kernel
theorem d_MO_divisor_4 : decode b_MO_divisor 4 = .ok (.lstore 6, 2) := by decide +kernel
theorem d_MO_divisor_6 : decode b_MO_divisor 6 = .ok (.lload 6, 2) := by decide +kernel
theorem d_MO_divisor_8 : decode b_MO_divisor 8 = .ok (.lconst 0, 1) := by decide +kernel
theorem d_MO_divisor_9 : decode b_MO_divisor 9 = .ok (.lcmp, 1) := by decide +kernel
theorem d_MO_divisor_10 : decode b_MO_divisor 10 = .ok (.ifCond .eq 21, 3) := by decide +kernel
theorem d_MO_divisor_13 : decode b_MO_divisor 13 = .ok (.lload 4, 2) := by decide +kernel
theorem d_MO_divisor_15 : decode b_MO_divisor 15 = .ok (.lload 6, 2) := by decide +kernel
theorem d_MO_divisor_17 : decode b_MO_divisor 17 = .ok (.lrem, 1) := by decide +kernel
theorem d_MO_divisor_18 : decode b_MO_divisor 18 = .ok (.lstore 8, 2) := by decide +kernel
theorem d_MO_divisor_20 : decode b_MO_divisor 20 = .ok (.lload 6, 2) := by decide +kernel
theorem d_MO_divisor_22 : decode b_MO_divisor 22 = .ok (.lstore 4, 2) := by decide +kernel
theorem d_MO_divisor_24 : decode b_MO_divisor 24 = .ok (.lload 8, 2) := by decide +kernel
theorem d_MO_divisor_26 : decode b_MO_divisor 26 = .ok (.lstore 6, 2) := by decide +kernel
theorem d_MO_divisor_28 : decode b_MO_divisor 28 = .ok (.goto (-22), 3) := by decide +kernel
theorem d_MO_divisor_31 : decode b_MO_divisor 31 = .ok (.lload 4, 2) := by decide +kernel
theorem d_MO_divisor_33 : decode b_MO_divisor 33 = .ok (.lreturn, 1) := by decide +kernel
theorem d_MO_open_0 : decode b_MO_open 0 = .ok (.aload_n 0, 1) := by decide +kernel
theorem d_MO_open_1 : decode b_MO_open 1 = .ok (.getfield 50, 3) := by decide +kernel
theorem d_MO_open_4 : decode b_MO_open 4 = .ok (.iconst (-1), 1) := by decide +kernel
theorem d_MO_open_5 : decode b_MO_open 5 = .ok (.if_icmp .ne 5, 3) := by decide +kernel
theorem d_MO_open_8 : decode b_MO_open 8 = .ok (.iconst (-1), 1) := by decide +kernel
theorem d_MO_open_9 : decode b_MO_open 9 = .ok (.ireturn, 1) := by decide +kernel
theorem d_MO_open_10 : decode b_MO_open 10 = .ok (.iload_n 1, 1) := by decide +kernel
theorem d_MO_open_11 : decode b_MO_open 11 = .ok (.ifCond .ne 10, 3) := by decide +kernel
theorem d_MO_open_14 : decode b_MO_open 14 = .ok (.aload_n 0, 1) := by decide +kernel
theorem d_MO_open_15 : decode b_MO_open 15 = .ok (.getfield 50, 3) := by decide +kernel
theorem d_MO_open_18 : decode b_MO_open 18 = .ok (.goto 28, 3) := by decide +kernel
theorem d_MO_open_21 : decode b_MO_open 21 = .ok (.iload_n 1, 1) := by decide +kernel
theorem d_MO_open_22 : decode b_MO_open 22 = .ok (.iconst 1, 1) := by decide +kernel
theorem d_MO_open_23 : decode b_MO_open 23 = .ok (.if_icmp .ne 10, 3) := by decide +kernel
theorem d_MO_open_26 : decode b_MO_open 26 = .ok (.aload_n 0, 1) := by decide +kernel
theorem d_MO_open_27 : decode b_MO_open 27 = .ok (.getfield 234, 3) := by decide +kernel
theorem d_MO_open_30 : decode b_MO_open 30 = .ok (.goto 16, 3) := by decide +kernel
theorem d_MO_open_33 : decode b_MO_open 33 = .ok (.iload_n 1, 1) := by decide +kernel
theorem d_MO_open_34 : decode b_MO_open 34 = .ok (.iconst 2, 1) := by decide +kernel
theorem d_MO_open_35 : decode b_MO_open 35 = .ok (.if_icmp .ne 10, 3) := by decide +kernel
theorem d_MO_open_38 : decode b_MO_open 38 = .ok (.aload_n 0, 1) := by decide +kernel
theorem d_MO_open_39 : decode b_MO_open 39 = .ok (.getfield 237, 3) := by decide +kernel
theorem d_MO_open_42 : decode b_MO_open 42 = .ok (.goto 4, 3) := by decide +kernel
theorem d_MO_open_45 : decode b_MO_open 45 = .ok (.iconst (-1), 1) := by decide +kernel
theorem d_MO_open_46 : decode b_MO_open 46 = .ok (.ireturn, 1) := by decide +kernel
theorem d_MO_step2_0 : decode b_MO_step2 0 = .ok (.iload_n 1, 1) := by decide +kernel
theorem d_MO_step2_1 : decode b_MO_step2 1 = .ok (.aload_n 0, 1) := by decide +kernel
theorem d_MO_step2_2 : decode b_MO_step2 2 = .ok (.getfield 50, 3) := by decide +kernel
theorem d_MO_step2_5 : decode b_MO_step2 5 = .ok (.if_icmp .ne 15, 3) := by decide +kernel
theorem d_MO_step2_8 : decode b_MO_step2 8 = .ok (.iload_n 2, 1) := by decide +kernel
theorem d_MO_step2_9 : decode b_MO_step2 9 = .ok (.ifCond .lt 11, 3) := by decide +kernel
theorem d_MO_step2_12 : decode b_MO_step2 12 = .ok (.iload_n 2, 1) := by decide +kernel
theorem d_MO_step2_13 : decode b_MO_step2 13 = .ok (.aload_n 0, 1) := by decide +kernel
theorem d_MO_step2_14 : decode b_MO_step2 14 = .ok (.getfield 237, 3) := by decide +kernel
theorem d_MO_step2_17 : decode b_MO_step2 17 = .ok (.if_icmp .lt 5, 3) := by decide +kernel
theorem d_MO_step2_20 : decode b_MO_step2 20 = .ok (.iconst (-1), 1) := by decide +kernel
theorem d_MO_step2_21 : decode b_MO_step2 21 = .ok (.ireturn, 1) := by decide +kernel
theorem d_MO_step2_22 : decode b_MO_step2 22 = .ok (.iload_n 3, 1) := by decide +kernel
theorem d_MO_step2_23 : decode b_MO_step2 23 = .ok (.ifCond .ne 12, 3) := by decide +kernel
theorem d_MO_step2_26 : decode b_MO_step2 26 = .ok (.aload_n 0, 1) := by decide +kernel
theorem d_MO_step2_27 : decode b_MO_step2 27 = .ok (.getfield 54, 3) := by decide +kernel
theorem d_MO_step2_30 : decode b_MO_step2 30 = .ok (.iload_n 2, 1) := by decide +kernel
theorem d_MO_step2_31 : decode b_MO_step2 31 = .ok (.iaload, 1) := by decide +kernel
theorem d_MO_step2_32 : decode b_MO_step2 32 = .ok (.goto 39, 3) := by decide +kernel
theorem d_MO_step2_35 : decode b_MO_step2 35 = .ok (.iload_n 3, 1) := by decide +kernel
theorem d_MO_step2_36 : decode b_MO_step2 36 = .ok (.iconst 1, 1) := by decide +kernel
theorem d_MO_step2_37 : decode b_MO_step2 37 = .ok (.if_icmp .ne 12, 3) := by decide +kernel
theorem d_MO_step2_40 : decode b_MO_step2 40 = .ok (.aload_n 0, 1) := by decide +kernel
theorem d_MO_step2_41 : decode b_MO_step2 41 = .ok (.getfield 57, 3) := by decide +kernel
theorem d_MO_step2_44 : decode b_MO_step2 44 = .ok (.iload_n 2, 1) := by decide +kernel
theorem d_MO_step2_45 : decode b_MO_step2 45 = .ok (.iaload, 1) := by decide +kernel
theorem d_MO_step2_46 : decode b_MO_step2 46 = .ok (.goto 25, 3) := by decide +kernel
theorem d_MO_step2_49 : decode b_MO_step2 49 = .ok (.iload_n 3, 1) := by decide +kernel
theorem d_MO_step2_50 : decode b_MO_step2 50 = .ok (.iconst 2, 1) := by decide +kernel
theorem d_MO_step2_51 : decode b_MO_step2 51 = .ok (.if_icmp .ne 19, 3) := by decide +kernel
theorem d_MO_step2_54 : decode b_MO_step2 54 = .ok (.aload_n 0, 1) := by decide +kernel
theorem d_MO_step2_55 : decode b_MO_step2 55 = .ok (.getfield 60, 3) := by decide +kernel
theorem d_MO_step2_58 : decode b_MO_step2 58 = .ok (.iload_n 2, 1) := by decide +kernel
theorem d_MO_step2_59 : decode b_MO_step2 59 = .ok (.laload, 1) := by decide +kernel
theorem d_MO_step2_60 : decode b_MO_step2 60 = .ok (.ldc2_w 244, 3) := by decide +kernel
theorem d_MO_step2_63 : decode b_MO_step2 63 = .ok (.invokestatic 217, 3) := by decide +kernel
theorem d_MO_step2_66 : decode b_MO_step2 66 = .ok (.l2i, 1) := by decide +kernel
theorem d_MO_step2_67 : decode b_MO_step2 67 = .ok (.goto 4, 3) := by decide +kernel
theorem d_MO_step2_70 : decode b_MO_step2 70 = .ok (.iconst (-1), 1) := by decide +kernel
theorem d_MO_step2_71 : decode b_MO_step2 71 = .ok (.ireturn, 1) := by decide +kernel
theorem d_MO_allowed_0 : decode b_MO_allowed 0 = .ok (.iload_n 1, 1) := by decide +kernel
theorem d_MO_allowed_1 : decode b_MO_allowed 1 = .ok (.invokestatic 250, 3) := by decide +kernel
theorem d_MO_allowed_4 : decode b_MO_allowed 4 = .ok (.ifCond .eq 12, 3) := by decide +kernel
theorem d_MO_allowed_7 : decode b_MO_allowed 7 = .ok (.iload_n 2, 1) := by decide +kernel
theorem d_MO_allowed_8 : decode b_MO_allowed 8 = .ok (.ifCond .lt 8, 3) := by decide +kernel
theorem d_MO_allowed_11 : decode b_MO_allowed 11 = .ok (.iload_n 2, 1) := by decide +kernel
theorem d_MO_allowed_12 : decode b_MO_allowed 12 = .ok (.iconst 1, 1) := by decide +kernel
theorem d_MO_allowed_13 : decode b_MO_allowed 13 = .ok (.if_icmp .le 7, 3) := by decide +kernel
theorem d_MO_allowed_16 : decode b_MO_allowed 16 = .ok (.ldc2_w 253, 3) := by decide +kernel
theorem d_MO_allowed_19 : decode b_MO_allowed 19 = .ok (.lreturn, 1) := by decide +kernel
theorem d_MO_allowed_20 : decode b_MO_allowed 20 = .ok (.lconst 0, 1) := by decide +kernel
theorem d_MO_allowed_21 : decode b_MO_allowed 21 = .ok (.lstore_n 3, 1) := by decide +kernel
theorem d_MO_allowed_22 : decode b_MO_allowed 22 = .ok (.iconst 0, 1) := by decide +kernel
theorem d_MO_allowed_23 : decode b_MO_allowed 23 = .ok (.istore 5, 2) := by decide +kernel
theorem d_MO_allowed_25 : decode b_MO_allowed 25 = .ok (.iload 5, 2) := by decide +kernel
theorem d_MO_allowed_27 : decode b_MO_allowed 27 = .ok (.bipush 30, 2) := by decide +kernel
theorem d_MO_allowed_29 : decode b_MO_allowed 29 = .ok (.if_icmp .ge 37, 3) := by decide +kernel
theorem d_MO_allowed_32 : decode b_MO_allowed 32 = .ok (.lload_n 3, 1) := by decide +kernel
theorem d_MO_allowed_33 : decode b_MO_allowed 33 = .ok (.aload_n 0, 1) := by decide +kernel
theorem d_MO_allowed_34 : decode b_MO_allowed 34 = .ok (.iload 5, 2) := by decide +kernel
theorem d_MO_allowed_36 : decode b_MO_allowed 36 = .ok (.iload_n 1, 1) := by decide +kernel
theorem d_MO_allowed_37 : decode b_MO_allowed 37 = .ok (.invokestatic 255, 3) := by decide +kernel
theorem d_MO_allowed_40 : decode b_MO_allowed 40 = .ok (.iload_n 1, 1) := by decide +kernel
theorem d_MO_allowed_41 : decode b_MO_allowed 41 = .ok (.invokestatic 255, 3) := by decide +kernel
theorem d_MO_allowed_44 : decode b_MO_allowed 44 = .ok (.invokevirtual 230, 3) := by decide +kernel
theorem d_MO_allowed_47 : decode b_MO_allowed 47 = .ok (.ifCond .eq 10, 3) := by decide +kernel
theorem d_MO_allowed_50 : decode b_MO_allowed 50 = .ok (.aload_n 0, 1) := by decide +kernel
theorem d_MO_allowed_51 : decode b_MO_allowed 51 = .ok (.getfield 192, 3) := by decide +kernel
theorem d_MO_allowed_54 : decode b_MO_allowed 54 = .ok (.goto 4, 3) := by decide +kernel
theorem d_MO_allowed_57 : decode b_MO_allowed 57 = .ok (.lconst 0, 1) := by decide +kernel
theorem d_MO_allowed_58 : decode b_MO_allowed 58 = .ok (.ladd, 1) := by decide +kernel
theorem d_MO_allowed_59 : decode b_MO_allowed 59 = .ok (.lstore_n 3, 1) := by decide +kernel
theorem d_MO_allowed_60 : decode b_MO_allowed 60 = .ok (.iinc 5 1, 3) := by decide +kernel
theorem d_MO_allowed_63 : decode b_MO_allowed 63 = .ok (.goto (-38), 3) := by decide +kernel
theorem d_MO_allowed_66 : decode b_MO_allowed 66 = .ok (.lload_n 3, 1) := by decide +kernel
theorem d_MO_allowed_67 : decode b_MO_allowed 67 = .ok (.ldc2_w 158, 3) := by decide +kernel
theorem d_MO_allowed_70 : decode b_MO_allowed 70 = .ok (.iload_n 2, 1) := by decide +kernel
theorem d_MO_allowed_71 : decode b_MO_allowed 71 = .ok (.invokestatic 240, 3) := by decide +kernel
theorem d_MO_allowed_74 : decode b_MO_allowed 74 = .ok (.lreturn, 1) := by decide +kernel
theorem d_MO_isMonth_0 : decode b_MO_isMonth 0 = .ok (.iload_n 0, 1) := by decide +kernel
theorem d_MO_isMonth_1 : decode b_MO_isMonth 1 = .ok (.ifCond .lt 14, 3) := by decide +kernel
theorem d_MO_isMonth_4 : decode b_MO_isMonth 4 = .ok (.iload_n 0, 1) := by decide +kernel
theorem d_MO_isMonth_5 : decode b_MO_isMonth 5 = .ok (.sipush 3001, 3) := by decide +kernel
theorem d_MO_isMonth_8 : decode b_MO_isMonth 8 = .ok (.if_icmp .ge 7, 3) := by decide +kernel
theorem d_MO_isMonth_11 : decode b_MO_isMonth 11 = .ok (.iconst 1, 1) := by decide +kernel
theorem d_MO_isMonth_12 : decode b_MO_isMonth 12 = .ok (.goto 4, 3) := by decide +kernel
theorem d_MO_isMonth_15 : decode b_MO_isMonth 15 = .ok (.iconst 0, 1) := by decide +kernel
theorem d_MO_isMonth_16 : decode b_MO_isMonth 16 = .ok (.ireturn, 1) := by decide +kernel
theorem d_MO_lastOf_0 : decode b_MO_lastOf 0 = .ok (.ldc2_w 246, 3) := by decide +kernel
theorem d_MO_lastOf_3 : decode b_MO_lastOf 3 = .ok (.iload_n 0, 1) := by decide +kernel
theorem d_MO_lastOf_4 : decode b_MO_lastOf 4 = .ok (.i2l, 1) := by decide +kernel
theorem d_MO_lastOf_5 : decode b_MO_lastOf 5 = .ok (.lmul, 1) := by decide +kernel
theorem d_MO_lastOf_6 : decode b_MO_lastOf 6 = .ok (.ldc2_w 248, 3) := by decide +kernel
theorem d_MO_lastOf_9 : decode b_MO_lastOf 9 = .ok (.ladd, 1) := by decide +kernel
theorem d_MO_lastOf_10 : decode b_MO_lastOf 10 = .ok (.lreturn, 1) := by decide +kernel
theorem d_MO_returned_0 : decode b_MO_returned 0 = .ok (.iload_n 1, 1) := by decide +kernel
theorem d_MO_returned_1 : decode b_MO_returned 1 = .ok (.invokestatic 250, 3) := by decide +kernel
theorem d_MO_returned_4 : decode b_MO_returned 4 = .ok (.ifCond .ne 5, 3) := by decide +kernel
theorem d_MO_returned_7 : decode b_MO_returned 7 = .ok (.iconst (-1), 1) := by decide +kernel
theorem d_MO_returned_8 : decode b_MO_returned 8 = .ok (.ireturn, 1) := by decide +kernel
theorem d_MO_returned_9 : decode b_MO_returned 9 = .ok (.aload_n 0, 1) := by decide +kernel
theorem d_MO_returned_10 : decode b_MO_returned 10 = .ok (.iconst 0, 1) := by decide +kernel
theorem d_MO_returned_11 : decode b_MO_returned 11 = .ok (.putfield 258, 3) := by decide +kernel
theorem d_MO_returned_14 : decode b_MO_returned 14 = .ok (.iconst 0, 1) := by decide +kernel
theorem d_MO_returned_15 : decode b_MO_returned 15 = .ok (.istore_n 2, 1) := by decide +kernel
theorem d_MO_returned_16 : decode b_MO_returned 16 = .ok (.iload_n 2, 1) := by decide +kernel
theorem d_MO_returned_17 : decode b_MO_returned 17 = .ok (.bipush 30, 2) := by decide +kernel
theorem d_MO_returned_19 : decode b_MO_returned 19 = .ok (.if_icmp .ge 172, 3) := by decide +kernel
theorem d_MO_returned_22 : decode b_MO_returned 22 = .ok (.iload_n 1, 1) := by decide +kernel
theorem d_MO_returned_23 : decode b_MO_returned 23 = .ok (.bipush 30, 2) := by decide +kernel
theorem d_MO_returned_25 : decode b_MO_returned 25 = .ok (.imul, 1) := by decide +kernel
theorem d_MO_returned_26 : decode b_MO_returned 26 = .ok (.iload_n 2, 1) := by decide +kernel
theorem d_MO_returned_27 : decode b_MO_returned 27 = .ok (.iadd, 1) := by decide +kernel
theorem d_MO_returned_28 : decode b_MO_returned 28 = .ok (.istore_n 3, 1) := by decide +kernel
theorem d_MO_returned_29 : decode b_MO_returned 29 = .ok (.aload_n 0, 1) := by decide +kernel
theorem d_MO_returned_30 : decode b_MO_returned 30 = .ok (.getfield 64, 3) := by decide +kernel
theorem d_MO_returned_33 : decode b_MO_returned 33 = .ok (.iload_n 3, 1) := by decide +kernel
theorem d_MO_returned_34 : decode b_MO_returned 34 = .ok (.iaload, 1) := by decide +kernel
theorem d_MO_returned_35 : decode b_MO_returned 35 = .ok (.istore 4, 2) := by decide +kernel
theorem d_MO_returned_37 : decode b_MO_returned 37 = .ok (.aload_n 0, 1) := by decide +kernel
theorem d_MO_returned_38 : decode b_MO_returned 38 = .ok (.getfield 67, 3) := by decide +kernel
theorem d_MO_returned_41 : decode b_MO_returned 41 = .ok (.iload_n 3, 1) := by decide +kernel
theorem d_MO_returned_42 : decode b_MO_returned 42 = .ok (.laload, 1) := by decide +kernel
theorem d_MO_returned_43 : decode b_MO_returned 43 = .ok (.lstore 5, 2) := by decide +kernel
theorem d_MO_returned_45 : decode b_MO_returned 45 = .ok (.aload_n 0, 1) := by decide +kernel
theorem d_MO_returned_46 : decode b_MO_returned 46 = .ok (.getfield 64, 3) := by decide +kernel
theorem d_MO_returned_49 : decode b_MO_returned 49 = .ok (.iload_n 3, 1) := by decide +kernel
theorem d_MO_returned_50 : decode b_MO_returned 50 = .ok (.iconst 0, 1) := by decide +kernel
theorem d_MO_returned_51 : decode b_MO_returned 51 = .ok (.iastore, 1) := by decide +kernel
theorem d_MO_returned_52 : decode b_MO_returned 52 = .ok (.aload_n 0, 1) := by decide +kernel
theorem d_MO_returned_53 : decode b_MO_returned 53 = .ok (.iload_n 2, 1) := by decide +kernel
theorem d_MO_returned_54 : decode b_MO_returned 54 = .ok (.iload_n 1, 1) := by decide +kernel
theorem d_MO_returned_55 : decode b_MO_returned 55 = .ok (.invokevirtual 261, 3) := by decide +kernel
theorem d_MO_returned_58 : decode b_MO_returned 58 = .ok (.ifCond .eq 127, 3) := by decide +kernel
theorem d_MO_returned_61 : decode b_MO_returned 61 = .ok (.aload_n 0, 1) := by decide +kernel
theorem d_MO_returned_62 : decode b_MO_returned 62 = .ok (.iload_n 2, 1) := by decide +kernel
theorem d_MO_returned_63 : decode b_MO_returned 63 = .ok (.iload_n 1, 1) := by decide +kernel
theorem d_MO_returned_64 : decode b_MO_returned 64 = .ok (.invokestatic 255, 3) := by decide +kernel
theorem d_MO_returned_67 : decode b_MO_returned 67 = .ok (.aload_n 0, 1) := by decide +kernel
theorem d_MO_returned_68 : decode b_MO_returned 68 = .ok (.getfield 180, 3) := by decide +kernel
theorem d_MO_returned_71 : decode b_MO_returned 71 = .ok (.invokevirtual 230, 3) := by decide +kernel
theorem d_MO_returned_74 : decode b_MO_returned 74 = .ok (.istore 7, 2) := by decide +kernel
theorem d_MO_returned_76 : decode b_MO_returned 76 = .ok (.aload_n 0, 1) := by decide +kernel
theorem d_MO_returned_77 : decode b_MO_returned 77 = .ok (.getfield 64, 3) := by decide +kernel
theorem d_MO_returned_80 : decode b_MO_returned 80 = .ok (.iload_n 3, 1) := by decide +kernel
theorem d_MO_returned_81 : decode b_MO_returned 81 = .ok (.iload 7, 2) := by decide +kernel
theorem d_MO_returned_83 : decode b_MO_returned 83 = .ok (.ifCond .eq 7, 3) := by decide +kernel
theorem d_MO_returned_86 : decode b_MO_returned 86 = .ok (.iconst 1, 1) := by decide +kernel
theorem d_MO_returned_87 : decode b_MO_returned 87 = .ok (.goto 4, 3) := by decide +kernel
theorem d_MO_returned_90 : decode b_MO_returned 90 = .ok (.iconst 2, 1) := by decide +kernel
theorem d_MO_returned_91 : decode b_MO_returned 91 = .ok (.iastore, 1) := by decide +kernel
theorem d_MO_returned_92 : decode b_MO_returned 92 = .ok (.aload_n 0, 1) := by decide +kernel
theorem d_MO_returned_93 : decode b_MO_returned 93 = .ok (.getfield 67, 3) := by decide +kernel
theorem d_MO_returned_96 : decode b_MO_returned 96 = .ok (.iload_n 3, 1) := by decide +kernel
theorem d_MO_returned_97 : decode b_MO_returned 97 = .ok (.aload_n 0, 1) := by decide +kernel
theorem d_MO_returned_98 : decode b_MO_returned 98 = .ok (.getfield 187, 3) := by decide +kernel
theorem d_MO_returned_101 : decode b_MO_returned 101 = .ok (.ldc2_w 190, 3) := by decide +kernel
theorem d_MO_returned_104 : decode b_MO_returned 104 = .ok (.ldiv, 1) := by decide +kernel
theorem d_MO_returned_105 : decode b_MO_returned 105 = .ok (.lastore, 1) := by decide +kernel
theorem d_MO_returned_106 : decode b_MO_returned 106 = .ok (.aload_n 0, 1) := by decide +kernel
theorem d_MO_returned_107 : decode b_MO_returned 107 = .ok (.getfield 74, 3) := by decide +kernel
theorem d_MO_returned_110 : decode b_MO_returned 110 = .ok (.aload_n 0, 1) := by decide +kernel
theorem d_MO_returned_111 : decode b_MO_returned 111 = .ok (.getfield 258, 3) := by decide +kernel
theorem d_MO_returned_114 : decode b_MO_returned 114 = .ok (.iload_n 2, 1) := by decide +kernel
theorem d_MO_returned_115 : decode b_MO_returned 115 = .ok (.iastore, 1) := by decide +kernel
theorem d_MO_returned_116 : decode b_MO_returned 116 = .ok (.aload_n 0, 1) := by decide +kernel
theorem d_MO_returned_117 : decode b_MO_returned 117 = .ok (.getfield 77, 3) := by decide +kernel
theorem d_MO_returned_120 : decode b_MO_returned 120 = .ok (.aload_n 0, 1) := by decide +kernel
theorem d_MO_returned_121 : decode b_MO_returned 121 = .ok (.getfield 258, 3) := by decide +kernel
theorem d_MO_returned_124 : decode b_MO_returned 124 = .ok (.iload 7, 2) := by decide +kernel
theorem d_MO_returned_126 : decode b_MO_returned 126 = .ok (.ifCond .eq 12, 3) := by decide +kernel
theorem d_MO_returned_129 : decode b_MO_returned 129 = .ok (.aload_n 0, 1) := by decide +kernel
theorem d_MO_returned_130 : decode b_MO_returned 130 = .ok (.getfield 67, 3) := by decide +kernel
theorem d_MO_returned_133 : decode b_MO_returned 133 = .ok (.iload_n 3, 1) := by decide +kernel
theorem d_MO_returned_134 : decode b_MO_returned 134 = .ok (.laload, 1) := by decide +kernel
theorem d_MO_returned_135 : decode b_MO_returned 135 = .ok (.goto 6, 3) := by decide +kernel
theorem d_MO_returned_138 : decode b_MO_returned 138 = .ok (.ldc2_w 228, 3) := by decide +kernel
theorem d_MO_returned_141 : decode b_MO_returned 141 = .ok (.lastore, 1) := by decide +kernel
theorem d_MO_returned_142 : decode b_MO_returned 142 = .ok (.aload_n 0, 1) := by decide +kernel
theorem d_MO_returned_143 : decode b_MO_returned 143 = .ok (.getfield 80, 3) := by decide +kernel
theorem d_MO_returned_146 : decode b_MO_returned 146 = .ok (.aload_n 0, 1) := by decide +kernel
theorem d_MO_returned_147 : decode b_MO_returned 147 = .ok (.getfield 258, 3) := by decide +kernel
theorem d_MO_returned_150 : decode b_MO_returned 150 = .ok (.iload 7, 2) := by decide +kernel
theorem d_MO_returned_152 : decode b_MO_returned 152 = .ok (.ifCond .eq 21, 3) := by decide +kernel
theorem d_MO_returned_155 : decode b_MO_returned 155 = .ok (.iload 4, 2) := by decide +kernel
theorem d_MO_returned_157 : decode b_MO_returned 157 = .ok (.iconst 1, 1) := by decide +kernel
theorem d_MO_returned_158 : decode b_MO_returned 158 = .ok (.if_icmp .ne 15, 3) := by decide +kernel
theorem d_MO_returned_161 : decode b_MO_returned 161 = .ok (.aload_n 0, 1) := by decide +kernel
theorem d_MO_returned_162 : decode b_MO_returned 162 = .ok (.getfield 67, 3) := by decide +kernel
theorem d_MO_returned_165 : decode b_MO_returned 165 = .ok (.iload_n 3, 1) := by decide +kernel
theorem d_MO_returned_166 : decode b_MO_returned 166 = .ok (.laload, 1) := by decide +kernel
theorem d_MO_returned_167 : decode b_MO_returned 167 = .ok (.lload 5, 2) := by decide +kernel
theorem d_MO_returned_169 : decode b_MO_returned 169 = .ok (.lsub, 1) := by decide +kernel
theorem d_MO_returned_170 : decode b_MO_returned 170 = .ok (.goto 4, 3) := by decide +kernel
theorem d_MO_returned_173 : decode b_MO_returned 173 = .ok (.lconst 0, 1) := by decide +kernel
theorem d_MO_returned_174 : decode b_MO_returned 174 = .ok (.lastore, 1) := by decide +kernel
theorem d_MO_returned_175 : decode b_MO_returned 175 = .ok (.aload_n 0, 1) := by decide +kernel
theorem d_MO_returned_176 : decode b_MO_returned 176 = .ok (.dup, 1) := by decide +kernel
theorem d_MO_returned_177 : decode b_MO_returned 177 = .ok (.getfield 258, 3) := by decide +kernel
theorem d_MO_returned_180 : decode b_MO_returned 180 = .ok (.iconst 1, 1) := by decide +kernel
theorem d_MO_returned_181 : decode b_MO_returned 181 = .ok (.iadd, 1) := by decide +kernel
theorem d_MO_returned_182 : decode b_MO_returned 182 = .ok (.putfield 258, 3) := by decide +kernel
theorem d_MO_returned_185 : decode b_MO_returned 185 = .ok (.iinc 2 1, 3) := by decide +kernel
theorem d_MO_returned_188 : decode b_MO_returned 188 = .ok (.goto (-172), 3) := by decide +kernel
theorem d_MO_returned_191 : decode b_MO_returned 191 = .ok (.aload_n 0, 1) := by decide +kernel
theorem d_MO_returned_192 : decode b_MO_returned 192 = .ok (.getfield 70, 3) := by decide +kernel
theorem d_MO_returned_195 : decode b_MO_returned 195 = .ok (.iload_n 1, 1) := by decide +kernel
theorem d_MO_returned_196 : decode b_MO_returned 196 = .ok (.iconst 1, 1) := by decide +kernel
theorem d_MO_returned_197 : decode b_MO_returned 197 = .ok (.bastore, 1) := by decide +kernel
theorem d_MO_returned_198 : decode b_MO_returned 198 = .ok (.aload_n 0, 1) := by decide +kernel
theorem d_MO_returned_199 : decode b_MO_returned 199 = .ok (.getfield 258, 3) := by decide +kernel
theorem d_MO_returned_202 : decode b_MO_returned 202 = .ok (.ireturn, 1) := by decide +kernel
theorem d_MO_hasLitres_0 : decode b_MO_hasLitres 0 = .ok (.iconst 0, 1) := by decide +kernel
theorem d_MO_hasLitres_1 : decode b_MO_hasLitres 1 = .ok (.istore_n 3, 1) := by decide +kernel
theorem d_MO_hasLitres_2 : decode b_MO_hasLitres 2 = .ok (.iconst 0, 1) := by decide +kernel
theorem d_MO_hasLitres_3 : decode b_MO_hasLitres 3 = .ok (.istore 4, 2) := by decide +kernel
theorem d_MO_hasLitres_5 : decode b_MO_hasLitres 5 = .ok (.iload 4, 2) := by decide +kernel
theorem d_MO_hasLitres_7 : decode b_MO_hasLitres 7 = .ok (.aload_n 0, 1) := by decide +kernel
theorem d_MO_hasLitres_8 : decode b_MO_hasLitres 8 = .ok (.getfield 177, 3) := by decide +kernel
theorem d_MO_hasLitres_11 : decode b_MO_hasLitres 11 = .ok (.if_icmp .ge 56, 3) := by decide +kernel
theorem d_MO_hasLitres_14 : decode b_MO_hasLitres 14 = .ok (.iload_n 3, 1) := by decide +kernel
theorem d_MO_hasLitres_15 : decode b_MO_hasLitres 15 = .ok (.aload_n 0, 1) := by decide +kernel
theorem d_MO_hasLitres_16 : decode b_MO_hasLitres 16 = .ok (.getfield 26, 3) := by decide +kernel
theorem d_MO_hasLitres_19 : decode b_MO_hasLitres 19 = .ok (.iload 4, 2) := by decide +kernel
theorem d_MO_hasLitres_21 : decode b_MO_hasLitres 21 = .ok (.iaload, 1) := by decide +kernel
theorem d_MO_hasLitres_22 : decode b_MO_hasLitres 22 = .ok (.iload_n 1, 1) := by decide +kernel
theorem d_MO_hasLitres_23 : decode b_MO_hasLitres 23 = .ok (.if_icmp .ne 35, 3) := by decide +kernel
theorem d_MO_hasLitres_26 : decode b_MO_hasLitres 26 = .ok (.aload_n 0, 1) := by decide +kernel
theorem d_MO_hasLitres_27 : decode b_MO_hasLitres 27 = .ok (.getfield 29, 3) := by decide +kernel
theorem d_MO_hasLitres_30 : decode b_MO_hasLitres 30 = .ok (.iload 4, 2) := by decide +kernel
theorem d_MO_hasLitres_32 : decode b_MO_hasLitres 32 = .ok (.iaload, 1) := by decide +kernel
theorem d_MO_hasLitres_33 : decode b_MO_hasLitres 33 = .ok (.iconst 2, 1) := by decide +kernel
theorem d_MO_hasLitres_34 : decode b_MO_hasLitres 34 = .ok (.if_icmp .ne 24, 3) := by decide +kernel
theorem d_MO_hasLitres_37 : decode b_MO_hasLitres 37 = .ok (.aload_n 0, 1) := by decide +kernel
theorem d_MO_hasLitres_38 : decode b_MO_hasLitres 38 = .ok (.getfield 32, 3) := by decide +kernel
theorem d_MO_hasLitres_41 : decode b_MO_hasLitres 41 = .ok (.iload 4, 2) := by decide +kernel
theorem d_MO_hasLitres_43 : decode b_MO_hasLitres 43 = .ok (.laload, 1) := by decide +kernel
theorem d_MO_hasLitres_44 : decode b_MO_hasLitres 44 = .ok (.ldc2_w 246, 3) := by decide +kernel
theorem d_MO_hasLitres_47 : decode b_MO_hasLitres 47 = .ok (.ldiv, 1) := by decide +kernel
theorem d_MO_hasLitres_48 : decode b_MO_hasLitres 48 = .ok (.iload_n 2, 1) := by decide +kernel
theorem d_MO_hasLitres_49 : decode b_MO_hasLitres 49 = .ok (.i2l, 1) := by decide +kernel
theorem d_MO_hasLitres_50 : decode b_MO_hasLitres 50 = .ok (.lcmp, 1) := by decide +kernel
theorem d_MO_hasLitres_51 : decode b_MO_hasLitres 51 = .ok (.ifCond .ne 7, 3) := by decide +kernel
theorem d_MO_hasLitres_54 : decode b_MO_hasLitres 54 = .ok (.iconst 1, 1) := by decide +kernel
theorem d_MO_hasLitres_55 : decode b_MO_hasLitres 55 = .ok (.goto 4, 3) := by decide +kernel
theorem d_MO_hasLitres_58 : decode b_MO_hasLitres 58 = .ok (.iconst 0, 1) := by decide +kernel
theorem d_MO_hasLitres_59 : decode b_MO_hasLitres 59 = .ok (.ior, 1) := by decide +kernel
theorem d_MO_hasLitres_60 : decode b_MO_hasLitres 60 = .ok (.istore_n 3, 1) := by decide +kernel
theorem d_MO_hasLitres_61 : decode b_MO_hasLitres 61 = .ok (.iinc 4 1, 3) := by decide +kernel
theorem d_MO_hasLitres_64 : decode b_MO_hasLitres 64 = .ok (.goto (-59), 3) := by decide +kernel
theorem d_MO_hasLitres_67 : decode b_MO_hasLitres 67 = .ok (.iload_n 3, 1) := by decide +kernel
theorem d_MO_hasLitres_68 : decode b_MO_hasLitres 68 = .ok (.ireturn, 1) := by decide +kernel
theorem d_MO_row_0 : decode b_MO_row 0 = .ok (.iload_n 1, 1) := by decide +kernel
theorem d_MO_row_1 : decode b_MO_row 1 = .ok (.ifCond .lt 11, 3) := by decide +kernel
theorem d_MO_row_4 : decode b_MO_row 4 = .ok (.iload_n 1, 1) := by decide +kernel
theorem d_MO_row_5 : decode b_MO_row 5 = .ok (.aload_n 0, 1) := by decide +kernel
theorem d_MO_row_6 : decode b_MO_row 6 = .ok (.getfield 258, 3) := by decide +kernel
theorem d_MO_row_9 : decode b_MO_row 9 = .ok (.if_icmp .lt 7, 3) := by decide +kernel
theorem d_MO_row_12 : decode b_MO_row 12 = .ok (.ldc2_w 253, 3) := by decide +kernel
theorem d_MO_row_15 : decode b_MO_row 15 = .ok (.lreturn, 1) := by decide +kernel
theorem d_MO_row_16 : decode b_MO_row 16 = .ok (.iload_n 2, 1) := by decide +kernel
theorem d_MO_row_17 : decode b_MO_row 17 = .ok (.ifCond .ne 13, 3) := by decide +kernel
theorem d_MO_row_20 : decode b_MO_row 20 = .ok (.aload_n 0, 1) := by decide +kernel
theorem d_MO_row_21 : decode b_MO_row 21 = .ok (.getfield 74, 3) := by decide +kernel
theorem d_MO_row_24 : decode b_MO_row 24 = .ok (.iload_n 1, 1) := by decide +kernel
theorem d_MO_row_25 : decode b_MO_row 25 = .ok (.iaload, 1) := by decide +kernel
theorem d_MO_row_26 : decode b_MO_row 26 = .ok (.i2l, 1) := by decide +kernel
theorem d_MO_row_27 : decode b_MO_row 27 = .ok (.goto 34, 3) := by decide +kernel
theorem d_MO_row_30 : decode b_MO_row 30 = .ok (.iload_n 2, 1) := by decide +kernel
theorem d_MO_row_31 : decode b_MO_row 31 = .ok (.iconst 1, 1) := by decide +kernel
theorem d_MO_row_32 : decode b_MO_row 32 = .ok (.if_icmp .ne 12, 3) := by decide +kernel
theorem d_MO_row_35 : decode b_MO_row 35 = .ok (.aload_n 0, 1) := by decide +kernel
theorem d_MO_row_36 : decode b_MO_row 36 = .ok (.getfield 77, 3) := by decide +kernel
theorem d_MO_row_39 : decode b_MO_row 39 = .ok (.iload_n 1, 1) := by decide +kernel
theorem d_MO_row_40 : decode b_MO_row 40 = .ok (.laload, 1) := by decide +kernel
theorem d_MO_row_41 : decode b_MO_row 41 = .ok (.goto 20, 3) := by decide +kernel
theorem d_MO_row_44 : decode b_MO_row 44 = .ok (.iload_n 2, 1) := by decide +kernel
theorem d_MO_row_45 : decode b_MO_row 45 = .ok (.iconst 2, 1) := by decide +kernel
theorem d_MO_row_46 : decode b_MO_row 46 = .ok (.if_icmp .ne 12, 3) := by decide +kernel
theorem d_MO_row_49 : decode b_MO_row 49 = .ok (.aload_n 0, 1) := by decide +kernel
theorem d_MO_row_50 : decode b_MO_row 50 = .ok (.getfield 80, 3) := by decide +kernel
theorem d_MO_row_53 : decode b_MO_row 53 = .ok (.iload_n 1, 1) := by decide +kernel
theorem d_MO_row_54 : decode b_MO_row 54 = .ok (.laload, 1) := by decide +kernel
theorem d_MO_row_55 : decode b_MO_row 55 = .ok (.goto 6, 3) := by decide +kernel
theorem d_MO_row_58 : decode b_MO_row 58 = .ok (.ldc2_w 253, 3) := by decide +kernel
theorem d_MO_row_61 : decode b_MO_row 61 = .ok (.lreturn, 1) := by decide +kernel
theorem d_MO_difference_0 : decode b_MO_difference 0 = .ok (.iload_n 1, 1) := by decide +kernel
theorem d_MO_difference_1 : decode b_MO_difference 1 = .ok (.invokestatic 250, 3) := by decide +kernel
theorem d_MO_difference_4 : decode b_MO_difference 4 = .ok (.ifCond .eq 19, 3) := by decide +kernel
theorem d_MO_difference_7 : decode b_MO_difference 7 = .ok (.aload_n 0, 1) := by decide +kernel
theorem d_MO_difference_8 : decode b_MO_difference 8 = .ok (.getfield 70, 3) := by decide +kernel
theorem d_MO_difference_11 : decode b_MO_difference 11 = .ok (.iload_n 1, 1) := by decide +kernel
theorem d_MO_difference_12 : decode b_MO_difference 12 = .ok (.baload, 1) := by decide +kernel
theorem d_MO_difference_13 : decode b_MO_difference 13 = .ok (.ifCond .eq 10, 3) := by decide +kernel
theorem d_MO_difference_16 : decode b_MO_difference 16 = .ok (.lload_n 2, 1) := by decide +kernel
theorem d_MO_difference_17 : decode b_MO_difference 17 = .ok (.invokestatic 167, 3) := by decide +kernel
theorem d_MO_difference_20 : decode b_MO_difference 20 = .ok (.ifCond .ne 5, 3) := by decide +kernel
theorem d_MO_difference_23 : decode b_MO_difference 23 = .ok (.lconst 0, 1) := by decide +kernel
theorem d_MO_difference_24 : decode b_MO_difference 24 = .ok (.lreturn, 1) := by decide +kernel
theorem d_MO_difference_25 : decode b_MO_difference 25 = .ok (.lconst 0, 1) := by decide +kernel
theorem d_MO_difference_26 : decode b_MO_difference 26 = .ok (.lstore 4, 2) := by decide +kernel
theorem d_MO_difference_28 : decode b_MO_difference 28 = .ok (.iconst 0, 1) := by decide +kernel
theorem d_MO_difference_29 : decode b_MO_difference 29 = .ok (.istore 6, 2) := by decide +kernel
theorem d_MO_difference_31 : decode b_MO_difference 31 = .ok (.iload 6, 2) := by decide +kernel
theorem d_MO_difference_33 : decode b_MO_difference 33 = .ok (.bipush 30, 2) := by decide +kernel
theorem d_MO_difference_35 : decode b_MO_difference 35 = .ok (.if_icmp .ge 73, 3) := by decide +kernel
theorem d_MO_difference_38 : decode b_MO_difference 38 = .ok (.aload_n 0, 1) := by decide +kernel
theorem d_MO_difference_39 : decode b_MO_difference 39 = .ok (.getfield 64, 3) := by decide +kernel
theorem d_MO_difference_42 : decode b_MO_difference 42 = .ok (.iload_n 1, 1) := by decide +kernel
theorem d_MO_difference_43 : decode b_MO_difference 43 = .ok (.bipush 30, 2) := by decide +kernel
theorem d_MO_difference_45 : decode b_MO_difference 45 = .ok (.imul, 1) := by decide +kernel
theorem d_MO_difference_46 : decode b_MO_difference 46 = .ok (.iload 6, 2) := by decide +kernel
theorem d_MO_difference_48 : decode b_MO_difference 48 = .ok (.iadd, 1) := by decide +kernel
theorem d_MO_difference_49 : decode b_MO_difference 49 = .ok (.iaload, 1) := by decide +kernel
theorem d_MO_difference_50 : decode b_MO_difference 50 = .ok (.iconst 1, 1) := by decide +kernel
theorem d_MO_difference_51 : decode b_MO_difference 51 = .ok (.if_icmp .ne 51, 3) := by decide +kernel
theorem d_MO_difference_54 : decode b_MO_difference 54 = .ok (.aload_n 0, 1) := by decide +kernel
theorem d_MO_difference_55 : decode b_MO_difference 55 = .ok (.iload 6, 2) := by decide +kernel
theorem d_MO_difference_57 : decode b_MO_difference 57 = .ok (.iload_n 1, 1) := by decide +kernel
theorem d_MO_difference_58 : decode b_MO_difference 58 = .ok (.invokestatic 255, 3) := by decide +kernel
theorem d_MO_difference_61 : decode b_MO_difference 61 = .ok (.lload_n 2, 1) := by decide +kernel
theorem d_MO_difference_62 : decode b_MO_difference 62 = .ok (.invokevirtual 230, 3) := by decide +kernel
theorem d_MO_difference_65 : decode b_MO_difference 65 = .ok (.istore 7, 2) := by decide +kernel
theorem d_MO_difference_67 : decode b_MO_difference 67 = .ok (.lload 4, 2) := by decide +kernel
theorem d_MO_difference_69 : decode b_MO_difference 69 = .ok (.iload 7, 2) := by decide +kernel
theorem d_MO_difference_71 : decode b_MO_difference 71 = .ok (.ifCond .eq 14, 3) := by decide +kernel
theorem d_MO_difference_74 : decode b_MO_difference 74 = .ok (.aload_n 0, 1) := by decide +kernel
theorem d_MO_difference_75 : decode b_MO_difference 75 = .ok (.getfield 187, 3) := by decide +kernel
theorem d_MO_difference_78 : decode b_MO_difference 78 = .ok (.ldc2_w 190, 3) := by decide +kernel
theorem d_MO_difference_81 : decode b_MO_difference 81 = .ok (.ldiv, 1) := by decide +kernel
theorem d_MO_difference_82 : decode b_MO_difference 82 = .ok (.goto 4, 3) := by decide +kernel
theorem d_MO_difference_85 : decode b_MO_difference 85 = .ok (.lconst 0, 1) := by decide +kernel
theorem d_MO_difference_86 : decode b_MO_difference 86 = .ok (.aload_n 0, 1) := by decide +kernel
theorem d_MO_difference_87 : decode b_MO_difference 87 = .ok (.getfield 67, 3) := by decide +kernel
theorem d_MO_difference_90 : decode b_MO_difference 90 = .ok (.iload_n 1, 1) := by decide +kernel
theorem d_MO_difference_91 : decode b_MO_difference 91 = .ok (.bipush 30, 2) := by decide +kernel
theorem d_MO_difference_93 : decode b_MO_difference 93 = .ok (.imul, 1) := by decide +kernel
theorem d_MO_difference_94 : decode b_MO_difference 94 = .ok (.iload 6, 2) := by decide +kernel
theorem d_MO_difference_96 : decode b_MO_difference 96 = .ok (.iadd, 1) := by decide +kernel
theorem d_MO_difference_97 : decode b_MO_difference 97 = .ok (.laload, 1) := by decide +kernel
theorem d_MO_difference_98 : decode b_MO_difference 98 = .ok (.lsub, 1) := by decide +kernel
theorem d_MO_difference_99 : decode b_MO_difference 99 = .ok (.ladd, 1) := by decide +kernel
theorem d_MO_difference_100 : decode b_MO_difference 100 = .ok (.lstore 4, 2) := by decide +kernel
theorem d_MO_difference_102 : decode b_MO_difference 102 = .ok (.iinc 6 1, 3) := by decide +kernel
theorem d_MO_difference_105 : decode b_MO_difference 105 = .ok (.goto (-74), 3) := by decide +kernel
theorem d_MO_difference_108 : decode b_MO_difference 108 = .ok (.lload 4, 2) := by decide +kernel
theorem d_MO_difference_110 : decode b_MO_difference 110 = .ok (.lreturn, 1) := by decide +kernel
theorem d_MO_interest_0 : decode b_MO_interest 0 = .ok (.iload_n 1, 1) := by decide +kernel
theorem d_MO_interest_1 : decode b_MO_interest 1 = .ok (.invokestatic 250, 3) := by decide +kernel
theorem d_MO_interest_4 : decode b_MO_interest 4 = .ok (.ifCond .eq 30, 3) := by decide +kernel
theorem d_MO_interest_7 : decode b_MO_interest 7 = .ok (.aload_n 0, 1) := by decide +kernel
theorem d_MO_interest_8 : decode b_MO_interest 8 = .ok (.getfield 70, 3) := by decide +kernel
theorem d_MO_interest_11 : decode b_MO_interest 11 = .ok (.iload_n 1, 1) := by decide +kernel
theorem d_MO_interest_12 : decode b_MO_interest 12 = .ok (.baload, 1) := by decide +kernel
theorem d_MO_interest_13 : decode b_MO_interest 13 = .ok (.ifCond .eq 21, 3) := by decide +kernel
theorem d_MO_interest_16 : decode b_MO_interest 16 = .ok (.lload_n 2, 1) := by decide +kernel
theorem d_MO_interest_17 : decode b_MO_interest 17 = .ok (.invokestatic 167, 3) := by decide +kernel
theorem d_MO_interest_20 : decode b_MO_interest 20 = .ok (.ifCond .eq 14, 3) := by decide +kernel
theorem d_MO_interest_23 : decode b_MO_interest 23 = .ok (.iload 4, 2) := by decide +kernel
theorem d_MO_interest_25 : decode b_MO_interest 25 = .ok (.ifCond .lt 9, 3) := by decide +kernel
theorem d_MO_interest_28 : decode b_MO_interest 28 = .ok (.iload 4, 2) := by decide +kernel
theorem d_MO_interest_30 : decode b_MO_interest 30 = .ok (.iconst 1, 1) := by decide +kernel
theorem d_MO_interest_31 : decode b_MO_interest 31 = .ok (.if_icmp .le 7, 3) := by decide +kernel
theorem d_MO_interest_34 : decode b_MO_interest 34 = .ok (.ldc2_w 228, 3) := by decide +kernel
theorem d_MO_interest_37 : decode b_MO_interest 37 = .ok (.lreturn, 1) := by decide +kernel
theorem d_MO_interest_38 : decode b_MO_interest 38 = .ok (.aload_n 0, 1) := by decide +kernel
theorem d_MO_interest_39 : decode b_MO_interest 39 = .ok (.iload_n 1, 1) := by decide +kernel
theorem d_MO_interest_40 : decode b_MO_interest 40 = .ok (.invokestatic 255, 3) := by decide +kernel
theorem d_MO_interest_43 : decode b_MO_interest 43 = .ok (.invokevirtual 195, 3) := by decide +kernel
theorem d_MO_interest_46 : decode b_MO_interest 46 = .ok (.istore 5, 2) := by decide +kernel
theorem d_MO_interest_48 : decode b_MO_interest 48 = .ok (.iload 5, 2) := by decide +kernel
theorem d_MO_interest_50 : decode b_MO_interest 50 = .ok (.iconst (-1), 1) := by decide +kernel
theorem d_MO_interest_51 : decode b_MO_interest 51 = .ok (.if_icmp .ne 7, 3) := by decide +kernel
theorem d_MO_interest_54 : decode b_MO_interest 54 = .ok (.iconst (-1), 1) := by decide +kernel
theorem d_MO_interest_55 : decode b_MO_interest 55 = .ok (.goto 12, 3) := by decide +kernel
theorem d_MO_interest_58 : decode b_MO_interest 58 = .ok (.aload_n 0, 1) := by decide +kernel
theorem d_MO_interest_59 : decode b_MO_interest 59 = .ok (.iload 5, 2) := by decide +kernel
theorem d_MO_interest_61 : decode b_MO_interest 61 = .ok (.iconst 5, 1) := by decide +kernel
theorem d_MO_interest_62 : decode b_MO_interest 62 = .ok (.lconst 0, 1) := by decide +kernel
theorem d_MO_interest_63 : decode b_MO_interest 63 = .ok (.lconst 0, 1) := by decide +kernel
theorem d_MO_interest_64 : decode b_MO_interest 64 = .ok (.invokevirtual 206, 3) := by decide +kernel
theorem d_MO_interest_67 : decode b_MO_interest 67 = .ok (.istore 6, 2) := by decide +kernel
theorem d_MO_interest_69 : decode b_MO_interest 69 = .ok (.iload 6, 2) := by decide +kernel
theorem d_MO_interest_71 : decode b_MO_interest 71 = .ok (.iconst (-1), 1) := by decide +kernel
theorem d_MO_interest_72 : decode b_MO_interest 72 = .ok (.if_icmp .eq 12, 3) := by decide +kernel
theorem d_MO_interest_75 : decode b_MO_interest 75 = .ok (.lload_n 2, 1) := by decide +kernel
theorem d_MO_interest_76 : decode b_MO_interest 76 = .ok (.iload_n 1, 1) := by decide +kernel
theorem d_MO_interest_77 : decode b_MO_interest 77 = .ok (.invokestatic 255, 3) := by decide +kernel
theorem d_MO_interest_80 : decode b_MO_interest 80 = .ok (.lcmp, 1) := by decide +kernel
theorem d_MO_interest_81 : decode b_MO_interest 81 = .ok (.ifCond .gt 7, 3) := by decide +kernel
theorem d_MO_interest_84 : decode b_MO_interest 84 = .ok (.iload 4, 2) := by decide +kernel
theorem d_MO_interest_86 : decode b_MO_interest 86 = .ok (.i2l, 1) := by decide +kernel
theorem d_MO_interest_87 : decode b_MO_interest 87 = .ok (.lreturn, 1) := by decide +kernel
theorem d_MO_interest_88 : decode b_MO_interest 88 = .ok (.lconst 0, 1) := by decide +kernel
theorem d_MO_interest_89 : decode b_MO_interest 89 = .ok (.lstore 7, 2) := by decide +kernel
theorem d_MO_interest_91 : decode b_MO_interest 91 = .ok (.iconst 0, 1) := by decide +kernel
theorem d_MO_interest_92 : decode b_MO_interest 92 = .ok (.istore 9, 2) := by decide +kernel
theorem d_MO_interest_94 : decode b_MO_interest 94 = .ok (.iload 9, 2) := by decide +kernel
theorem d_MO_interest_96 : decode b_MO_interest 96 = .ok (.bipush 30, 2) := by decide +kernel
theorem d_MO_interest_98 : decode b_MO_interest 98 = .ok (.if_icmp .ge 46, 3) := by decide +kernel
theorem d_MO_interest_101 : decode b_MO_interest 101 = .ok (.lload 7, 2) := by decide +kernel
theorem d_MO_interest_103 : decode b_MO_interest 103 = .ok (.aload_n 0, 1) := by decide +kernel
theorem d_MO_interest_104 : decode b_MO_interest 104 = .ok (.getfield 64, 3) := by decide +kernel
theorem d_MO_interest_107 : decode b_MO_interest 107 = .ok (.iload_n 1, 1) := by decide +kernel
theorem d_MO_interest_108 : decode b_MO_interest 108 = .ok (.bipush 30, 2) := by decide +kernel
theorem d_MO_interest_110 : decode b_MO_interest 110 = .ok (.imul, 1) := by decide +kernel
theorem d_MO_interest_111 : decode b_MO_interest 111 = .ok (.iload 9, 2) := by decide +kernel
theorem d_MO_interest_113 : decode b_MO_interest 113 = .ok (.iadd, 1) := by decide +kernel
theorem d_MO_interest_114 : decode b_MO_interest 114 = .ok (.iaload, 1) := by decide +kernel
theorem d_MO_interest_115 : decode b_MO_interest 115 = .ok (.iconst 1, 1) := by decide +kernel
theorem d_MO_interest_116 : decode b_MO_interest 116 = .ok (.if_icmp .ne 18, 3) := by decide +kernel
theorem d_MO_interest_119 : decode b_MO_interest 119 = .ok (.aload_n 0, 1) := by decide +kernel
theorem d_MO_interest_120 : decode b_MO_interest 120 = .ok (.getfield 67, 3) := by decide +kernel
theorem d_MO_interest_123 : decode b_MO_interest 123 = .ok (.iload_n 1, 1) := by decide +kernel
theorem d_MO_interest_124 : decode b_MO_interest 124 = .ok (.bipush 30, 2) := by decide +kernel
theorem d_MO_interest_126 : decode b_MO_interest 126 = .ok (.imul, 1) := by decide +kernel
theorem d_MO_interest_127 : decode b_MO_interest 127 = .ok (.iload 9, 2) := by decide +kernel
theorem d_MO_interest_129 : decode b_MO_interest 129 = .ok (.iadd, 1) := by decide +kernel
theorem d_MO_interest_130 : decode b_MO_interest 130 = .ok (.laload, 1) := by decide +kernel
theorem d_MO_interest_131 : decode b_MO_interest 131 = .ok (.goto 4, 3) := by decide +kernel
theorem d_MO_interest_134 : decode b_MO_interest 134 = .ok (.lconst 0, 1) := by decide +kernel
theorem d_MO_interest_135 : decode b_MO_interest 135 = .ok (.ladd, 1) := by decide +kernel
theorem d_MO_interest_136 : decode b_MO_interest 136 = .ok (.lstore 7, 2) := by decide +kernel
theorem d_MO_interest_138 : decode b_MO_interest 138 = .ok (.iinc 9 1, 3) := by decide +kernel
theorem d_MO_interest_141 : decode b_MO_interest 141 = .ok (.goto (-47), 3) := by decide +kernel
theorem d_MO_interest_144 : decode b_MO_interest 144 = .ok (.lload 7, 2) := by decide +kernel
theorem d_MO_interest_146 : decode b_MO_interest 146 = .ok (.aload_n 0, 1) := by decide +kernel
theorem d_MO_interest_147 : decode b_MO_interest 147 = .ok (.iload 5, 2) := by decide +kernel
theorem d_MO_interest_149 : decode b_MO_interest 149 = .ok (.iload 6, 2) := by decide +kernel
theorem d_MO_interest_151 : decode b_MO_interest 151 = .ok (.iconst 1, 1) := by decide +kernel
theorem d_MO_interest_152 : decode b_MO_interest 152 = .ok (.invokevirtual 209, 3) := by decide +kernel
theorem d_MO_interest_155 : decode b_MO_interest 155 = .ok (.i2l, 1) := by decide +kernel
theorem d_MO_interest_156 : decode b_MO_interest 156 = .ok (.lmul, 1) := by decide +kernel
theorem d_MO_interest_157 : decode b_MO_interest 157 = .ok (.lload_n 2, 1) := by decide +kernel
theorem d_MO_interest_158 : decode b_MO_interest 158 = .ok (.iload_n 1, 1) := by decide +kernel
theorem d_MO_interest_159 : decode b_MO_interest 159 = .ok (.invokestatic 255, 3) := by decide +kernel
theorem d_MO_interest_162 : decode b_MO_interest 162 = .ok (.lsub, 1) := by decide +kernel
theorem d_MO_interest_163 : decode b_MO_interest 163 = .ok (.lmul, 1) := by decide +kernel
theorem d_MO_interest_164 : decode b_MO_interest 164 = .ok (.ldc2_w 171, 3) := by decide +kernel
theorem d_MO_interest_167 : decode b_MO_interest 167 = .ok (.iload 4, 2) := by decide +kernel
theorem d_MO_interest_169 : decode b_MO_interest 169 = .ok (.invokestatic 240, 3) := by decide +kernel
theorem d_MO_interest_172 : decode b_MO_interest 172 = .ok (.lreturn, 1) := by decide +kernel
end
section
theorem d_SB_init_0 : decode b_SB_init 0 = .ok (.aload_n 0, 1) := by decide +kernel
theorem d_SB_init_1 : decode b_SB_init 1 = .ok (.bipush 16, 2) := by decide +kernel
theorem d_SB_init_3 : decode b_SB_init 3 = .ok (.invokespecial 1, 3) := by decide +kernel
theorem d_SB_init_6 : decode b_SB_init 6 = .ok (.return_, 1) := by decide +kernel
theorem d_AB_init_0 : decode b_AB_init 0 = .ok (.aload_n 0, 1) := by decide +kernel
theorem d_AB_init_1 : decode b_AB_init 1 = .ok (.invokespecial 3, 3) := by decide +kernel
theorem d_AB_init_4 : decode b_AB_init 4 = .ok (.getstatic 18, 3) := by decide +kernel
theorem d_AB_init_7 : decode b_AB_init 7 = .ok (.ifCond .eq 18, 3) := by decide +kernel
theorem d_AB_init_10 : decode b_AB_init 10 = .ok (.aload_n 0, 1) := by decide +kernel
theorem d_AB_init_11 : decode b_AB_init 11 = .ok (.iload_n 1, 1) := by decide +kernel
theorem d_AB_init_12 : decode b_AB_init 12 = .ok (.newarray .byte, 2) := by decide +kernel
theorem d_AB_init_14 : decode b_AB_init 14 = .ok (.putfield 15, 3) := by decide +kernel
theorem d_AB_init_17 : decode b_AB_init 17 = .ok (.aload_n 0, 1) := by decide +kernel
theorem d_AB_init_18 : decode b_AB_init 18 = .ok (.iconst 0, 1) := by decide +kernel
theorem d_AB_init_19 : decode b_AB_init 19 = .ok (.putfield 22, 3) := by decide +kernel
theorem d_AB_init_22 : decode b_AB_init 22 = .ok (.goto 16, 3) := by decide +kernel
theorem d_AB_init_25 : decode b_AB_init 25 = .ok (.aload_n 0, 1) := by decide +kernel
theorem d_AB_init_26 : decode b_AB_init 26 = .ok (.iload_n 1, 1) := by decide +kernel
theorem d_AB_init_27 : decode b_AB_init 27 = .ok (.invokestatic 26, 3) := by decide +kernel
theorem d_AB_init_30 : decode b_AB_init 30 = .ok (.putfield 15, 3) := by decide +kernel
theorem d_AB_init_33 : decode b_AB_init 33 = .ok (.aload_n 0, 1) := by decide +kernel
theorem d_AB_init_34 : decode b_AB_init 34 = .ok (.iconst 1, 1) := by decide +kernel
theorem d_AB_init_35 : decode b_AB_init 35 = .ok (.putfield 22, 3) := by decide +kernel
theorem d_AB_init_38 : decode b_AB_init 38 = .ok (.return_, 1) := by decide +kernel
theorem d_SB_length_0 : decode b_SB_length 0 = .ok (.aload_n 0, 1) := by decide +kernel
theorem d_SB_length_1 : decode b_SB_length 1 = .ok (.invokespecial 343, 3) := by decide +kernel
theorem d_SB_length_4 : decode b_SB_length 4 = .ok (.ireturn, 1) := by decide +kernel
theorem d_AB_length_0 : decode b_AB_length 0 = .ok (.aload_n 0, 1) := by decide +kernel
theorem d_AB_length_1 : decode b_AB_length 1 = .ok (.getfield 79, 3) := by decide +kernel
theorem d_AB_length_4 : decode b_AB_length 4 = .ok (.ireturn, 1) := by decide +kernel
theorem d_SB_append_0 : decode b_SB_append 0 = .ok (.aload_n 0, 1) := by decide +kernel
theorem d_SB_append_1 : decode b_SB_append 1 = .ok (.iload_n 1, 1) := by decide +kernel
theorem d_SB_append_2 : decode b_SB_append 2 = .ok (.invokespecial 50, 3) := by decide +kernel
theorem d_SB_append_5 : decode b_SB_append 5 = .ok (.pop, 1) := by decide +kernel
theorem d_SB_append_6 : decode b_SB_append 6 = .ok (.aload_n 0, 1) := by decide +kernel
theorem d_SB_append_7 : decode b_SB_append 7 = .ok (.areturn, 1) := by decide +kernel
theorem d_AB_append_0 : decode b_AB_append 0 = .ok (.aload_n 0, 1) := by decide +kernel
theorem d_AB_append_1 : decode b_AB_append 1 = .ok (.aload_n 0, 1) := by decide +kernel
theorem d_AB_append_2 : decode b_AB_append 2 = .ok (.getfield 79, 3) := by decide +kernel
theorem d_AB_append_5 : decode b_AB_append 5 = .ok (.iconst 1, 1) := by decide +kernel
theorem d_AB_append_6 : decode b_AB_append 6 = .ok (.iadd, 1) := by decide +kernel
theorem d_AB_append_7 : decode b_AB_append 7 = .ok (.invokevirtual 100, 3) := by decide +kernel
theorem d_AB_append_10 : decode b_AB_append 10 = .ok (.aload_n 0, 1) := by decide +kernel
theorem d_AB_append_11 : decode b_AB_append 11 = .ok (.invokevirtual 83, 3) := by decide +kernel
theorem d_AB_append_14 : decode b_AB_append 14 = .ok (.ifCond .eq 31, 3) := by decide +kernel
theorem d_AB_append_17 : decode b_AB_append 17 = .ok (.iload_n 1, 1) := by decide +kernel
theorem d_AB_append_18 : decode b_AB_append 18 = .ok (.invokestatic 191, 3) := by decide +kernel
theorem d_AB_append_21 : decode b_AB_append 21 = .ok (.ifCond .eq 24, 3) := by decide +kernel
theorem d_AB_append_24 : decode b_AB_append 24 = .ok (.aload_n 0, 1) := by decide +kernel
theorem d_AB_append_25 : decode b_AB_append 25 = .ok (.getfield 15, 3) := by decide +kernel
theorem d_AB_append_28 : decode b_AB_append 28 = .ok (.aload_n 0, 1) := by decide +kernel
theorem d_AB_append_29 : decode b_AB_append 29 = .ok (.dup, 1) := by decide +kernel
theorem d_AB_append_30 : decode b_AB_append 30 = .ok (.getfield 79, 3) := by decide +kernel
theorem d_AB_append_33 : decode b_AB_append 33 = .ok (.dup_x1, 1) := by decide +kernel
theorem d_AB_append_34 : decode b_AB_append 34 = .ok (.iconst 1, 1) := by decide +kernel
theorem d_AB_append_35 : decode b_AB_append 35 = .ok (.iadd, 1) := by decide +kernel
theorem d_AB_append_36 : decode b_AB_append 36 = .ok (.putfield 79, 3) := by decide +kernel
theorem d_AB_append_39 : decode b_AB_append 39 = .ok (.iload_n 1, 1) := by decide +kernel
theorem d_AB_append_40 : decode b_AB_append 40 = .ok (.i2b, 1) := by decide +kernel
theorem d_AB_append_41 : decode b_AB_append 41 = .ok (.bastore, 1) := by decide +kernel
theorem d_AB_append_42 : decode b_AB_append 42 = .ok (.goto 33, 3) := by decide +kernel
theorem d_AB_append_45 : decode b_AB_append 45 = .ok (.aload_n 0, 1) := by decide +kernel
theorem d_AB_append_46 : decode b_AB_append 46 = .ok (.invokevirtual 83, 3) := by decide +kernel
theorem d_AB_append_49 : decode b_AB_append 49 = .ok (.ifCond .eq 7, 3) := by decide +kernel
theorem d_AB_append_52 : decode b_AB_append 52 = .ok (.aload_n 0, 1) := by decide +kernel
theorem d_AB_append_53 : decode b_AB_append 53 = .ok (.invokevirtual 195, 3) := by decide +kernel
theorem d_AB_append_56 : decode b_AB_append 56 = .ok (.aload_n 0, 1) := by decide +kernel
theorem d_AB_append_57 : decode b_AB_append 57 = .ok (.getfield 15, 3) := by decide +kernel
theorem d_AB_append_60 : decode b_AB_append 60 = .ok (.aload_n 0, 1) := by decide +kernel
theorem d_AB_append_61 : decode b_AB_append 61 = .ok (.dup, 1) := by decide +kernel
theorem d_AB_append_62 : decode b_AB_append 62 = .ok (.getfield 79, 3) := by decide +kernel
theorem d_AB_append_65 : decode b_AB_append 65 = .ok (.dup_x1, 1) := by decide +kernel
theorem d_AB_append_66 : decode b_AB_append 66 = .ok (.iconst 1, 1) := by decide +kernel
theorem d_AB_append_67 : decode b_AB_append 67 = .ok (.iadd, 1) := by decide +kernel
theorem d_AB_append_68 : decode b_AB_append 68 = .ok (.putfield 79, 3) := by decide +kernel
theorem d_AB_append_71 : decode b_AB_append 71 = .ok (.iload_n 1, 1) := by decide +kernel
theorem d_AB_append_72 : decode b_AB_append 72 = .ok (.invokestatic 197, 3) := by decide +kernel
theorem d_AB_append_75 : decode b_AB_append 75 = .ok (.aload_n 0, 1) := by decide +kernel
theorem d_AB_append_76 : decode b_AB_append 76 = .ok (.areturn, 1) := by decide +kernel
theorem d_AB_ensureCapacityInternal_0 : decode b_AB_ensureCapacityInternal 0 = .ok (.aload_n 0, 1) := by decide +kernel
theorem d_AB_ensureCapacityInternal_1 : decode b_AB_ensureCapacityInternal 1 = .ok (.getfield 15, 3) := by decide +kernel
theorem d_AB_ensureCapacityInternal_4 : decode b_AB_ensureCapacityInternal 4 = .ok (.arraylength, 1) := by decide +kernel
theorem d_AB_ensureCapacityInternal_5 : decode b_AB_ensureCapacityInternal 5 = .ok (.aload_n 0, 1) := by decide +kernel
theorem d_AB_ensureCapacityInternal_6 : decode b_AB_ensureCapacityInternal 6 = .ok (.getfield 22, 3) := by decide +kernel
theorem d_AB_ensureCapacityInternal_9 : decode b_AB_ensureCapacityInternal 9 = .ok (.ishr, 1) := by decide +kernel
theorem d_AB_ensureCapacityInternal_10 : decode b_AB_ensureCapacityInternal 10 = .ok (.istore_n 2, 1) := by decide +kernel
theorem d_AB_ensureCapacityInternal_11 : decode b_AB_ensureCapacityInternal 11 = .ok (.iload_n 1, 1) := by decide +kernel
theorem d_AB_ensureCapacityInternal_12 : decode b_AB_ensureCapacityInternal 12 = .ok (.iload_n 2, 1) := by decide +kernel
theorem d_AB_ensureCapacityInternal_13 : decode b_AB_ensureCapacityInternal 13 = .ok (.isub, 1) := by decide +kernel
theorem d_AB_ensureCapacityInternal_14 : decode b_AB_ensureCapacityInternal 14 = .ok (.ifCond .le 24, 3) := by decide +kernel
theorem d_AB_ensureCapacityInternal_17 : decode b_AB_ensureCapacityInternal 17 = .ok (.aload_n 0, 1) := by decide +kernel
theorem d_AB_ensureCapacityInternal_18 : decode b_AB_ensureCapacityInternal 18 = .ok (.aload_n 0, 1) := by decide +kernel
theorem d_AB_ensureCapacityInternal_19 : decode b_AB_ensureCapacityInternal 19 = .ok (.getfield 15, 3) := by decide +kernel
theorem d_AB_ensureCapacityInternal_22 : decode b_AB_ensureCapacityInternal 22 = .ok (.aload_n 0, 1) := by decide +kernel
theorem d_AB_ensureCapacityInternal_23 : decode b_AB_ensureCapacityInternal 23 = .ok (.iload_n 1, 1) := by decide +kernel
theorem d_AB_ensureCapacityInternal_24 : decode b_AB_ensureCapacityInternal 24 = .ok (.invokevirtual 104, 3) := by decide +kernel
theorem d_AB_ensureCapacityInternal_27 : decode b_AB_ensureCapacityInternal 27 = .ok (.aload_n 0, 1) := by decide +kernel
theorem d_AB_ensureCapacityInternal_28 : decode b_AB_ensureCapacityInternal 28 = .ok (.getfield 22, 3) := by decide +kernel
theorem d_AB_ensureCapacityInternal_31 : decode b_AB_ensureCapacityInternal 31 = .ok (.ishl, 1) := by decide +kernel
theorem d_AB_ensureCapacityInternal_32 : decode b_AB_ensureCapacityInternal 32 = .ok (.invokestatic 108, 3) := by decide +kernel
theorem d_AB_ensureCapacityInternal_35 : decode b_AB_ensureCapacityInternal 35 = .ok (.putfield 15, 3) := by decide +kernel
theorem d_AB_ensureCapacityInternal_38 : decode b_AB_ensureCapacityInternal 38 = .ok (.return_, 1) := by decide +kernel
theorem d_AB_newCapacity_0 : decode b_AB_newCapacity 0 = .ok (.aload_n 0, 1) := by decide +kernel
theorem d_AB_newCapacity_1 : decode b_AB_newCapacity 1 = .ok (.getfield 15, 3) := by decide +kernel
theorem d_AB_newCapacity_4 : decode b_AB_newCapacity 4 = .ok (.arraylength, 1) := by decide +kernel
theorem d_AB_newCapacity_5 : decode b_AB_newCapacity 5 = .ok (.istore_n 2, 1) := by decide +kernel
theorem d_AB_newCapacity_6 : decode b_AB_newCapacity 6 = .ok (.iload_n 1, 1) := by decide +kernel
theorem d_AB_newCapacity_7 : decode b_AB_newCapacity 7 = .ok (.aload_n 0, 1) := by decide +kernel
theorem d_AB_newCapacity_8 : decode b_AB_newCapacity 8 = .ok (.getfield 22, 3) := by decide +kernel
theorem d_AB_newCapacity_11 : decode b_AB_newCapacity 11 = .ok (.ishl, 1) := by decide +kernel
theorem d_AB_newCapacity_12 : decode b_AB_newCapacity 12 = .ok (.istore_n 3, 1) := by decide +kernel
theorem d_AB_newCapacity_13 : decode b_AB_newCapacity 13 = .ok (.iload_n 3, 1) := by decide +kernel
theorem d_AB_newCapacity_14 : decode b_AB_newCapacity 14 = .ok (.iload_n 2, 1) := by decide +kernel
theorem d_AB_newCapacity_15 : decode b_AB_newCapacity 15 = .ok (.isub, 1) := by decide +kernel
theorem d_AB_newCapacity_16 : decode b_AB_newCapacity 16 = .ok (.istore 4, 2) := by decide +kernel
theorem d_AB_newCapacity_18 : decode b_AB_newCapacity 18 = .ok (.iload_n 2, 1) := by decide +kernel
theorem d_AB_newCapacity_19 : decode b_AB_newCapacity 19 = .ok (.iload 4, 2) := by decide +kernel
theorem d_AB_newCapacity_21 : decode b_AB_newCapacity 21 = .ok (.iload_n 2, 1) := by decide +kernel
theorem d_AB_newCapacity_22 : decode b_AB_newCapacity 22 = .ok (.iconst 2, 1) := by decide +kernel
theorem d_AB_newCapacity_23 : decode b_AB_newCapacity 23 = .ok (.aload_n 0, 1) := by decide +kernel
theorem d_AB_newCapacity_24 : decode b_AB_newCapacity 24 = .ok (.getfield 22, 3) := by decide +kernel
theorem d_AB_newCapacity_27 : decode b_AB_newCapacity 27 = .ok (.ishl, 1) := by decide +kernel
theorem d_AB_newCapacity_28 : decode b_AB_newCapacity 28 = .ok (.iadd, 1) := by decide +kernel
theorem d_AB_newCapacity_29 : decode b_AB_newCapacity 29 = .ok (.invokestatic 114, 3) := by decide +kernel
theorem d_AB_newCapacity_32 : decode b_AB_newCapacity 32 = .ok (.istore 5, 2) := by decide +kernel
theorem d_AB_newCapacity_34 : decode b_AB_newCapacity 34 = .ok (.iload 5, 2) := by decide +kernel
theorem d_AB_newCapacity_36 : decode b_AB_newCapacity 36 = .ok (.ldc 39, 2) := by decide +kernel
theorem d_AB_newCapacity_38 : decode b_AB_newCapacity 38 = .ok (.if_icmp .ne 13, 3) := by decide +kernel
theorem d_AB_newCapacity_41 : decode b_AB_newCapacity 41 = .ok (.new 120, 3) := by decide +kernel
theorem d_AB_newCapacity_44 : decode b_AB_newCapacity 44 = .ok (.dup, 1) := by decide +kernel
theorem d_AB_newCapacity_45 : decode b_AB_newCapacity 45 = .ok (.ldc 122, 2) := by decide +kernel
theorem d_AB_newCapacity_47 : decode b_AB_newCapacity 47 = .ok (.invokespecial 124, 3) := by decide +kernel
theorem d_AB_newCapacity_50 : decode b_AB_newCapacity 50 = .ok (.athrow, 1) := by decide +kernel
theorem d_AB_newCapacity_51 : decode b_AB_newCapacity 51 = .ok (.iload 5, 2) := by decide +kernel
theorem d_AB_newCapacity_53 : decode b_AB_newCapacity 53 = .ok (.aload_n 0, 1) := by decide +kernel
theorem d_AB_newCapacity_54 : decode b_AB_newCapacity 54 = .ok (.getfield 22, 3) := by decide +kernel
theorem d_AB_newCapacity_57 : decode b_AB_newCapacity 57 = .ok (.ishr, 1) := by decide +kernel
theorem d_AB_newCapacity_58 : decode b_AB_newCapacity 58 = .ok (.ireturn, 1) := by decide +kernel
theorem d_AS_newLength_0 : decode b_AS_newLength 0 = .ok (.iload_n 0, 1) := by decide +kernel
theorem d_AS_newLength_1 : decode b_AS_newLength 1 = .ok (.iload_n 1, 1) := by decide +kernel
theorem d_AS_newLength_2 : decode b_AS_newLength 2 = .ok (.iload_n 2, 1) := by decide +kernel
theorem d_AS_newLength_3 : decode b_AS_newLength 3 = .ok (.invokestatic 194, 3) := by decide +kernel
theorem d_AS_newLength_6 : decode b_AS_newLength 6 = .ok (.iadd, 1) := by decide +kernel
theorem d_AS_newLength_7 : decode b_AS_newLength 7 = .ok (.istore_n 3, 1) := by decide +kernel
theorem d_AS_newLength_8 : decode b_AS_newLength 8 = .ok (.iconst 0, 1) := by decide +kernel
theorem d_AS_newLength_9 : decode b_AS_newLength 9 = .ok (.iload_n 3, 1) := by decide +kernel
theorem d_AS_newLength_10 : decode b_AS_newLength 10 = .ok (.if_icmp .ge 11, 3) := by decide +kernel
theorem d_AS_newLength_13 : decode b_AS_newLength 13 = .ok (.iload_n 3, 1) := by decide +kernel
theorem d_AS_newLength_14 : decode b_AS_newLength 14 = .ok (.ldc 200, 2) := by decide +kernel
theorem d_AS_newLength_16 : decode b_AS_newLength 16 = .ok (.if_icmp .gt 5, 3) := by decide +kernel
theorem d_AS_newLength_19 : decode b_AS_newLength 19 = .ok (.iload_n 3, 1) := by decide +kernel
theorem d_AS_newLength_20 : decode b_AS_newLength 20 = .ok (.ireturn, 1) := by decide +kernel
theorem d_AS_newLength_21 : decode b_AS_newLength 21 = .ok (.iload_n 0, 1) := by decide +kernel
theorem d_AS_newLength_22 : decode b_AS_newLength 22 = .ok (.iload_n 1, 1) := by decide +kernel
theorem d_AS_newLength_23 : decode b_AS_newLength 23 = .ok (.invokestatic 201, 3) := by decide +kernel
theorem d_AS_newLength_26 : decode b_AS_newLength 26 = .ok (.ireturn, 1) := by decide +kernel
theorem d_MA_max_0 : decode b_MA_max 0 = .ok (.iload_n 0, 1) := by decide +kernel
theorem d_MA_max_1 : decode b_MA_max 1 = .ok (.iload_n 1, 1) := by decide +kernel
theorem d_MA_max_2 : decode b_MA_max 2 = .ok (.if_icmp .lt 7, 3) := by decide +kernel
theorem d_MA_max_5 : decode b_MA_max 5 = .ok (.iload_n 0, 1) := by decide +kernel
theorem d_MA_max_6 : decode b_MA_max 6 = .ok (.goto 4, 3) := by decide +kernel
theorem d_MA_max_9 : decode b_MA_max 9 = .ok (.iload_n 1, 1) := by decide +kernel
theorem d_MA_max_10 : decode b_MA_max 10 = .ok (.ireturn, 1) := by decide +kernel
theorem d_AS_hugeLength_0 : decode b_AS_hugeLength 0 = .ok (.iload_n 0, 1) := by decide +kernel
theorem d_AS_hugeLength_1 : decode b_AS_hugeLength 1 = .ok (.iload_n 1, 1) := by decide +kernel
theorem d_AS_hugeLength_2 : decode b_AS_hugeLength 2 = .ok (.iadd, 1) := by decide +kernel
theorem d_AS_hugeLength_3 : decode b_AS_hugeLength 3 = .ok (.istore_n 2, 1) := by decide +kernel
theorem d_AS_hugeLength_4 : decode b_AS_hugeLength 4 = .ok (.iload_n 2, 1) := by decide +kernel
theorem d_AS_hugeLength_5 : decode b_AS_hugeLength 5 = .ok (.ifCond .ge 44, 3) := by decide +kernel
theorem d_AS_hugeLength_8 : decode b_AS_hugeLength 8 = .ok (.new 204, 3) := by decide +kernel
theorem d_AS_hugeLength_11 : decode b_AS_hugeLength 11 = .ok (.dup, 1) := by decide +kernel
theorem d_AS_hugeLength_12 : decode b_AS_hugeLength 12 = .ok (.new 89, 3) := by decide +kernel
theorem d_AS_hugeLength_15 : decode b_AS_hugeLength 15 = .ok (.dup, 1) := by decide +kernel
theorem d_AS_hugeLength_16 : decode b_AS_hugeLength 16 = .ok (.invokespecial 91, 3) := by decide +kernel
theorem d_AS_hugeLength_19 : decode b_AS_hugeLength 19 = .ok (.ldc 206, 2) := by decide +kernel
theorem d_AS_hugeLength_21 : decode b_AS_hugeLength 21 = .ok (.invokevirtual 94, 3) := by decide +kernel
theorem d_AS_hugeLength_24 : decode b_AS_hugeLength 24 = .ok (.iload_n 0, 1) := by decide +kernel
theorem d_AS_hugeLength_25 : decode b_AS_hugeLength 25 = .ok (.invokevirtual 98, 3) := by decide +kernel
theorem d_AS_hugeLength_28 : decode b_AS_hugeLength 28 = .ok (.ldc 208, 2) := by decide +kernel
theorem d_AS_hugeLength_30 : decode b_AS_hugeLength 30 = .ok (.invokevirtual 94, 3) := by decide +kernel
theorem d_AS_hugeLength_33 : decode b_AS_hugeLength 33 = .ok (.iload_n 1, 1) := by decide +kernel
theorem d_AS_hugeLength_34 : decode b_AS_hugeLength 34 = .ok (.invokevirtual 98, 3) := by decide +kernel
theorem d_AS_hugeLength_37 : decode b_AS_hugeLength 37 = .ok (.ldc 210, 2) := by decide +kernel
theorem d_AS_hugeLength_39 : decode b_AS_hugeLength 39 = .ok (.invokevirtual 94, 3) := by decide +kernel
theorem d_AS_hugeLength_42 : decode b_AS_hugeLength 42 = .ok (.invokevirtual 101, 3) := by decide +kernel
theorem d_AS_hugeLength_45 : decode b_AS_hugeLength 45 = .ok (.invokespecial 212, 3) := by decide +kernel
theorem d_AS_hugeLength_48 : decode b_AS_hugeLength 48 = .ok (.athrow, 1) := by decide +kernel
theorem d_AS_hugeLength_49 : decode b_AS_hugeLength 49 = .ok (.iload_n 2, 1) := by decide +kernel
theorem d_AS_hugeLength_50 : decode b_AS_hugeLength 50 = .ok (.ldc 200, 2) := by decide +kernel
theorem d_AS_hugeLength_52 : decode b_AS_hugeLength 52 = .ok (.if_icmp .gt 6, 3) := by decide +kernel
theorem d_AS_hugeLength_55 : decode b_AS_hugeLength 55 = .ok (.ldc 200, 2) := by decide +kernel
theorem d_AS_hugeLength_57 : decode b_AS_hugeLength 57 = .ok (.ireturn, 1) := by decide +kernel
theorem d_AS_hugeLength_58 : decode b_AS_hugeLength 58 = .ok (.iload_n 2, 1) := by decide +kernel
theorem d_AS_hugeLength_59 : decode b_AS_hugeLength 59 = .ok (.ireturn, 1) := by decide +kernel
theorem d_AR_copyOf_0 : decode b_AR_copyOf 0 = .ok (.iload_n 1, 1) := by decide +kernel
theorem d_AR_copyOf_1 : decode b_AR_copyOf 1 = .ok (.aload_n 0, 1) := by decide +kernel
theorem d_AR_copyOf_2 : decode b_AR_copyOf 2 = .ok (.arraylength, 1) := by decide +kernel
theorem d_AR_copyOf_3 : decode b_AR_copyOf 3 = .ok (.if_icmp .ne 11, 3) := by decide +kernel
theorem d_AR_copyOf_6 : decode b_AR_copyOf 6 = .ok (.aload_n 0, 1) := by decide +kernel
theorem d_AR_copyOf_7 : decode b_AR_copyOf 7 = .ok (.invokevirtual 310, 3) := by decide +kernel
theorem d_AR_copyOf_10 : decode b_AR_copyOf 10 = .ok (.checkcast 311, 3) := by decide +kernel
theorem d_AR_copyOf_13 : decode b_AR_copyOf 13 = .ok (.areturn, 1) := by decide +kernel
theorem d_AR_copyOf_14 : decode b_AR_copyOf 14 = .ok (.iload_n 1, 1) := by decide +kernel
theorem d_AR_copyOf_15 : decode b_AR_copyOf 15 = .ok (.newarray .byte, 2) := by decide +kernel
theorem d_AR_copyOf_17 : decode b_AR_copyOf 17 = .ok (.astore_n 2, 1) := by decide +kernel
theorem d_AR_copyOf_18 : decode b_AR_copyOf 18 = .ok (.aload_n 0, 1) := by decide +kernel
theorem d_AR_copyOf_19 : decode b_AR_copyOf 19 = .ok (.iconst 0, 1) := by decide +kernel
theorem d_AR_copyOf_20 : decode b_AR_copyOf 20 = .ok (.aload_n 2, 1) := by decide +kernel
theorem d_AR_copyOf_21 : decode b_AR_copyOf 21 = .ok (.iconst 0, 1) := by decide +kernel
theorem d_AR_copyOf_22 : decode b_AR_copyOf 22 = .ok (.aload_n 0, 1) := by decide +kernel
theorem d_AR_copyOf_23 : decode b_AR_copyOf 23 = .ok (.arraylength, 1) := by decide +kernel
theorem d_AR_copyOf_24 : decode b_AR_copyOf 24 = .ok (.iload_n 1, 1) := by decide +kernel
theorem d_AR_copyOf_25 : decode b_AR_copyOf 25 = .ok (.invokestatic 304, 3) := by decide +kernel
theorem d_AR_copyOf_28 : decode b_AR_copyOf 28 = .ok (.invokestatic 150, 3) := by decide +kernel
theorem d_AR_copyOf_31 : decode b_AR_copyOf 31 = .ok (.aload_n 2, 1) := by decide +kernel
theorem d_AR_copyOf_32 : decode b_AR_copyOf 32 = .ok (.areturn, 1) := by decide +kernel
theorem d_MA_min_0 : decode b_MA_min 0 = .ok (.iload_n 0, 1) := by decide +kernel
theorem d_MA_min_1 : decode b_MA_min 1 = .ok (.iload_n 1, 1) := by decide +kernel
theorem d_MA_min_2 : decode b_MA_min 2 = .ok (.if_icmp .gt 7, 3) := by decide +kernel
theorem d_MA_min_5 : decode b_MA_min 5 = .ok (.iload_n 0, 1) := by decide +kernel
theorem d_MA_min_6 : decode b_MA_min 6 = .ok (.goto 4, 3) := by decide +kernel
theorem d_MA_min_9 : decode b_MA_min 9 = .ok (.iload_n 1, 1) := by decide +kernel
theorem d_MA_min_10 : decode b_MA_min 10 = .ok (.ireturn, 1) := by decide +kernel
theorem d_AB_isLatin1_0 : decode b_AB_isLatin1 0 = .ok (.getstatic 18, 3) := by decide +kernel
theorem d_AB_isLatin1_3 : decode b_AB_isLatin1 3 = .ok (.ifCond .eq 14, 3) := by decide +kernel
theorem d_AB_isLatin1_6 : decode b_AB_isLatin1 6 = .ok (.aload_n 0, 1) := by decide +kernel
theorem d_AB_isLatin1_7 : decode b_AB_isLatin1 7 = .ok (.getfield 22, 3) := by decide +kernel
theorem d_AB_isLatin1_10 : decode b_AB_isLatin1 10 = .ok (.ifCond .ne 7, 3) := by decide +kernel
theorem d_AB_isLatin1_13 : decode b_AB_isLatin1 13 = .ok (.iconst 1, 1) := by decide +kernel
theorem d_AB_isLatin1_14 : decode b_AB_isLatin1 14 = .ok (.goto 4, 3) := by decide +kernel
theorem d_AB_isLatin1_17 : decode b_AB_isLatin1 17 = .ok (.iconst 0, 1) := by decide +kernel
theorem d_AB_isLatin1_18 : decode b_AB_isLatin1 18 = .ok (.ireturn, 1) := by decide +kernel
theorem d_L1_canEncode_0 : decode b_L1_canEncode 0 = .ok (.iload_n 0, 1) := by decide +kernel
theorem d_L1_canEncode_1 : decode b_L1_canEncode 1 = .ok (.sipush 255, 3) := by decide +kernel
theorem d_L1_canEncode_4 : decode b_L1_canEncode 4 = .ok (.if_icmp .gt 7, 3) := by decide +kernel
theorem d_L1_canEncode_7 : decode b_L1_canEncode 7 = .ok (.iconst 1, 1) := by decide +kernel
theorem d_L1_canEncode_8 : decode b_L1_canEncode 8 = .ok (.goto 4, 3) := by decide +kernel
theorem d_L1_canEncode_11 : decode b_L1_canEncode 11 = .ok (.iconst 0, 1) := by decide +kernel
theorem d_L1_canEncode_12 : decode b_L1_canEncode 12 = .ok (.ireturn, 1) := by decide +kernel
theorem d_AB_inflate_0 : decode b_AB_inflate 0 = .ok (.aload_n 0, 1) := by decide +kernel
theorem d_AB_inflate_1 : decode b_AB_inflate 1 = .ok (.invokevirtual 83, 3) := by decide +kernel
theorem d_AB_inflate_4 : decode b_AB_inflate 4 = .ok (.ifCond .ne 4, 3) := by decide +kernel
theorem d_AB_inflate_7 : decode b_AB_inflate 7 = .ok (.return_, 1) := by decide +kernel
theorem d_AB_inflate_8 : decode b_AB_inflate 8 = .ok (.aload_n 0, 1) := by decide +kernel
theorem d_AB_inflate_9 : decode b_AB_inflate 9 = .ok (.getfield 15, 3) := by decide +kernel
theorem d_AB_inflate_12 : decode b_AB_inflate 12 = .ok (.arraylength, 1) := by decide +kernel
theorem d_AB_inflate_13 : decode b_AB_inflate 13 = .ok (.invokestatic 26, 3) := by decide +kernel
theorem d_AB_inflate_16 : decode b_AB_inflate 16 = .ok (.astore_n 1, 1) := by decide +kernel
theorem d_AB_inflate_17 : decode b_AB_inflate 17 = .ok (.aload_n 0, 1) := by decide +kernel
theorem d_AB_inflate_18 : decode b_AB_inflate 18 = .ok (.getfield 15, 3) := by decide +kernel
theorem d_AB_inflate_21 : decode b_AB_inflate 21 = .ok (.iconst 0, 1) := by decide +kernel
theorem d_AB_inflate_22 : decode b_AB_inflate 22 = .ok (.aload_n 1, 1) := by decide +kernel
theorem d_AB_inflate_23 : decode b_AB_inflate 23 = .ok (.iconst 0, 1) := by decide +kernel
theorem d_AB_inflate_24 : decode b_AB_inflate 24 = .ok (.aload_n 0, 1) := by decide +kernel
theorem d_AB_inflate_25 : decode b_AB_inflate 25 = .ok (.getfield 79, 3) := by decide +kernel
theorem d_AB_inflate_28 : decode b_AB_inflate 28 = .ok (.invokestatic 125, 3) := by decide +kernel
theorem d_AB_inflate_31 : decode b_AB_inflate 31 = .ok (.aload_n 0, 1) := by decide +kernel
theorem d_AB_inflate_32 : decode b_AB_inflate 32 = .ok (.aload_n 1, 1) := by decide +kernel
theorem d_AB_inflate_33 : decode b_AB_inflate 33 = .ok (.putfield 15, 3) := by decide +kernel
theorem d_AB_inflate_36 : decode b_AB_inflate 36 = .ok (.aload_n 0, 1) := by decide +kernel
theorem d_AB_inflate_37 : decode b_AB_inflate 37 = .ok (.iconst 1, 1) := by decide +kernel
theorem d_AB_inflate_38 : decode b_AB_inflate 38 = .ok (.putfield 22, 3) := by decide +kernel
theorem d_AB_inflate_41 : decode b_AB_inflate 41 = .ok (.return_, 1) := by decide +kernel
theorem d_L1_inflate_0 : decode b_L1_inflate 0 = .ok (.aload_n 0, 1) := by decide +kernel
theorem d_L1_inflate_1 : decode b_L1_inflate 1 = .ok (.iload_n 1, 1) := by decide +kernel
theorem d_L1_inflate_2 : decode b_L1_inflate 2 = .ok (.aload_n 2, 1) := by decide +kernel
theorem d_L1_inflate_3 : decode b_L1_inflate 3 = .ok (.iload_n 3, 1) := by decide +kernel
theorem d_L1_inflate_4 : decode b_L1_inflate 4 = .ok (.iload 4, 2) := by decide +kernel
theorem d_L1_inflate_6 : decode b_L1_inflate 6 = .ok (.invokestatic 240, 3) := by decide +kernel
theorem d_L1_inflate_9 : decode b_L1_inflate 9 = .ok (.return_, 1) := by decide +kernel
theorem d_ST_checkBoundsOffCount_0 : decode b_ST_checkBoundsOffCount 0 = .ok (.iload_n 0, 1) := by decide +kernel
theorem d_ST_checkBoundsOffCount_1 : decode b_ST_checkBoundsOffCount 1 = .ok (.iload_n 1, 1) := by decide +kernel
theorem d_ST_checkBoundsOffCount_2 : decode b_ST_checkBoundsOffCount 2 = .ok (.iload_n 2, 1) := by decide +kernel
theorem d_ST_checkBoundsOffCount_3 : decode b_ST_checkBoundsOffCount 3 = .ok (.getstatic 1053, 3) := by decide +kernel
theorem d_ST_checkBoundsOffCount_6 : decode b_ST_checkBoundsOffCount 6 = .ok (.invokestatic 1065, 3) := by decide +kernel
theorem d_ST_checkBoundsOffCount_9 : decode b_ST_checkBoundsOffCount 9 = .ok (.ireturn, 1) := by decide +kernel
theorem d_PR_checkFromIndexSize_0 : decode b_PR_checkFromIndexSize 0 = .ok (.iload_n 2, 1) := by decide +kernel
theorem d_PR_checkFromIndexSize_1 : decode b_PR_checkFromIndexSize 1 = .ok (.iload_n 0, 1) := by decide +kernel
theorem d_PR_checkFromIndexSize_2 : decode b_PR_checkFromIndexSize 2 = .ok (.ior, 1) := by decide +kernel
theorem d_PR_checkFromIndexSize_3 : decode b_PR_checkFromIndexSize 3 = .ok (.iload_n 1, 1) := by decide +kernel
theorem d_PR_checkFromIndexSize_4 : decode b_PR_checkFromIndexSize 4 = .ok (.ior, 1) := by decide +kernel
theorem d_PR_checkFromIndexSize_5 : decode b_PR_checkFromIndexSize 5 = .ok (.ifCond .lt 10, 3) := by decide +kernel
theorem d_PR_checkFromIndexSize_8 : decode b_PR_checkFromIndexSize 8 = .ok (.iload_n 1, 1) := by decide +kernel
theorem d_PR_checkFromIndexSize_9 : decode b_PR_checkFromIndexSize 9 = .ok (.iload_n 2, 1) := by decide +kernel
theorem d_PR_checkFromIndexSize_10 : decode b_PR_checkFromIndexSize 10 = .ok (.iload_n 0, 1) := by decide +kernel
theorem d_PR_checkFromIndexSize_11 : decode b_PR_checkFromIndexSize 11 = .ok (.isub, 1) := by decide +kernel
theorem d_PR_checkFromIndexSize_12 : decode b_PR_checkFromIndexSize 12 = .ok (.if_icmp .le 11, 3) := by decide +kernel
theorem d_PR_checkFromIndexSize_15 : decode b_PR_checkFromIndexSize 15 = .ok (.aload_n 3, 1) := by decide +kernel
theorem d_PR_checkFromIndexSize_16 : decode b_PR_checkFromIndexSize 16 = .ok (.iload_n 0, 1) := by decide +kernel
theorem d_PR_checkFromIndexSize_17 : decode b_PR_checkFromIndexSize 17 = .ok (.iload_n 1, 1) := by decide +kernel
theorem d_PR_checkFromIndexSize_18 : decode b_PR_checkFromIndexSize 18 = .ok (.iload_n 2, 1) := by decide +kernel
theorem d_PR_checkFromIndexSize_19 : decode b_PR_checkFromIndexSize 19 = .ok (.invokestatic 103, 3) := by decide +kernel
theorem d_PR_checkFromIndexSize_22 : decode b_PR_checkFromIndexSize 22 = .ok (.athrow, 1) := by decide +kernel
theorem d_PR_checkFromIndexSize_23 : decode b_PR_checkFromIndexSize 23 = .ok (.iload_n 0, 1) := by decide +kernel
theorem d_PR_checkFromIndexSize_24 : decode b_PR_checkFromIndexSize 24 = .ok (.ireturn, 1) := by decide +kernel
theorem d_ST_checkIndex_0 : decode b_ST_checkIndex 0 = .ok (.iload_n 0, 1) := by decide +kernel
theorem d_ST_checkIndex_1 : decode b_ST_checkIndex 1 = .ok (.iload_n 1, 1) := by decide +kernel
theorem d_ST_checkIndex_2 : decode b_ST_checkIndex 2 = .ok (.getstatic 1053, 3) := by decide +kernel
theorem d_ST_checkIndex_5 : decode b_ST_checkIndex 5 = .ok (.invokestatic 1059, 3) := by decide +kernel
theorem d_ST_checkIndex_8 : decode b_ST_checkIndex 8 = .ok (.pop, 1) := by decide +kernel
theorem d_ST_checkIndex_9 : decode b_ST_checkIndex 9 = .ok (.return_, 1) := by decide +kernel
theorem d_PR_checkIndex_0 : decode b_PR_checkIndex 0 = .ok (.iload_n 0, 1) := by decide +kernel
theorem d_PR_checkIndex_1 : decode b_PR_checkIndex 1 = .ok (.ifCond .lt 8, 3) := by decide +kernel
theorem d_PR_checkIndex_4 : decode b_PR_checkIndex 4 = .ok (.iload_n 0, 1) := by decide +kernel
theorem d_PR_checkIndex_5 : decode b_PR_checkIndex 5 = .ok (.iload_n 1, 1) := by decide +kernel
theorem d_PR_checkIndex_6 : decode b_PR_checkIndex 6 = .ok (.if_icmp .lt 10, 3) := by decide +kernel
theorem d_PR_checkIndex_9 : decode b_PR_checkIndex 9 = .ok (.aload_n 2, 1) := by decide +kernel
theorem d_PR_checkIndex_10 : decode b_PR_checkIndex 10 = .ok (.iload_n 0, 1) := by decide +kernel
theorem d_PR_checkIndex_11 : decode b_PR_checkIndex 11 = .ok (.iload_n 1, 1) := by decide +kernel
theorem d_PR_checkIndex_12 : decode b_PR_checkIndex 12 = .ok (.invokestatic 95, 3) := by decide +kernel
theorem d_PR_checkIndex_15 : decode b_PR_checkIndex 15 = .ok (.athrow, 1) := by decide +kernel
theorem d_PR_checkIndex_16 : decode b_PR_checkIndex 16 = .ok (.iload_n 0, 1) := by decide +kernel
theorem d_PR_checkIndex_17 : decode b_PR_checkIndex 17 = .ok (.ireturn, 1) := by decide +kernel
theorem d_SB_toString_0 : decode b_SB_toString 0 = .ok (.new 18, 3) := by decide +kernel
theorem d_SB_toString_3 : decode b_SB_toString 3 = .ok (.dup, 1) := by decide +kernel
theorem d_SB_toString_4 : decode b_SB_toString 4 = .ok (.aload_n 0, 1) := by decide +kernel
theorem d_SB_toString_5 : decode b_SB_toString 5 = .ok (.invokespecial 137, 3) := by decide +kernel
theorem d_SB_toString_8 : decode b_SB_toString 8 = .ok (.areturn, 1) := by decide +kernel
theorem d_ST_init_0 : decode b_ST_init 0 = .ok (.aload_n 0, 1) := by decide +kernel
theorem d_ST_init_1 : decode b_ST_init 1 = .ok (.aload_n 1, 1) := by decide +kernel
theorem d_ST_init_2 : decode b_ST_init 2 = .ok (.aconst_null, 1) := by decide +kernel
theorem d_ST_init_3 : decode b_ST_init 3 = .ok (.invokespecial 489, 3) := by decide +kernel
theorem d_ST_init_6 : decode b_ST_init 6 = .ok (.return_, 1) := by decide +kernel
theorem d_ST_init2_0 : decode b_ST_init2 0 = .ok (.aload_n 0, 1) := by decide +kernel
theorem d_ST_init2_1 : decode b_ST_init2 1 = .ok (.invokespecial 1, 3) := by decide +kernel
theorem d_ST_init2_4 : decode b_ST_init2 4 = .ok (.aload_n 1, 1) := by decide +kernel
theorem d_ST_init2_5 : decode b_ST_init2 5 = .ok (.invokevirtual 552, 3) := by decide +kernel
theorem d_ST_init2_8 : decode b_ST_init2 8 = .ok (.astore_n 3, 1) := by decide +kernel
theorem d_ST_init2_9 : decode b_ST_init2 9 = .ok (.aload_n 1, 1) := by decide +kernel
theorem d_ST_init2_10 : decode b_ST_init2 10 = .ok (.invokevirtual 549, 3) := by decide +kernel
theorem d_ST_init2_13 : decode b_ST_init2 13 = .ok (.istore 4, 2) := by decide +kernel
theorem d_ST_init2_15 : decode b_ST_init2 15 = .ok (.aload_n 1, 1) := by decide +kernel
theorem d_ST_init2_16 : decode b_ST_init2 16 = .ok (.invokevirtual 1047, 3) := by decide +kernel
theorem d_ST_init2_19 : decode b_ST_init2 19 = .ok (.ifCond .eq 22, 3) := by decide +kernel
theorem d_ST_init2_22 : decode b_ST_init2 22 = .ok (.aload_n 0, 1) := by decide +kernel
theorem d_ST_init2_23 : decode b_ST_init2 23 = .ok (.iconst 0, 1) := by decide +kernel
theorem d_ST_init2_24 : decode b_ST_init2 24 = .ok (.putfield 15, 3) := by decide +kernel
theorem d_ST_init2_27 : decode b_ST_init2 27 = .ok (.aload_n 0, 1) := by decide +kernel
theorem d_ST_init2_28 : decode b_ST_init2 28 = .ok (.aload_n 3, 1) := by decide +kernel
theorem d_ST_init2_29 : decode b_ST_init2 29 = .ok (.iconst 0, 1) := by decide +kernel
theorem d_ST_init2_30 : decode b_ST_init2 30 = .ok (.iload 4, 2) := by decide +kernel
theorem d_ST_init2_32 : decode b_ST_init2 32 = .ok (.invokestatic 54, 3) := by decide +kernel
theorem d_ST_init2_35 : decode b_ST_init2 35 = .ok (.putfield 9, 3) := by decide +kernel
theorem d_ST_init2_38 : decode b_ST_init2 38 = .ok (.goto 59, 3) := by decide +kernel
theorem d_ST_init2_41 : decode b_ST_init2 41 = .ok (.getstatic 38, 3) := by decide +kernel
theorem d_ST_init2_44 : decode b_ST_init2 44 = .ok (.ifCond .eq 35, 3) := by decide +kernel
theorem d_ST_init2_47 : decode b_ST_init2 47 = .ok (.aload_n 1, 1) := by decide +kernel
theorem d_ST_init2_48 : decode b_ST_init2 48 = .ok (.getfield 1048, 3) := by decide +kernel
theorem d_ST_init2_51 : decode b_ST_init2 51 = .ok (.ifCond .eq 28, 3) := by decide +kernel
theorem d_ST_init2_54 : decode b_ST_init2 54 = .ok (.aload_n 0, 1) := by decide +kernel
theorem d_ST_init2_55 : decode b_ST_init2 55 = .ok (.aload_n 3, 1) := by decide +kernel
theorem d_ST_init2_56 : decode b_ST_init2 56 = .ok (.iconst 0, 1) := by decide +kernel
theorem d_ST_init2_57 : decode b_ST_init2 57 = .ok (.iload 4, 2) := by decide +kernel
theorem d_ST_init2_59 : decode b_ST_init2 59 = .ok (.invokestatic 1051, 3) := by decide +kernel
theorem d_ST_init2_62 : decode b_ST_init2 62 = .ok (.putfield 9, 3) := by decide +kernel
theorem d_ST_init2_65 : decode b_ST_init2 65 = .ok (.aload_n 0, 1) := by decide +kernel
theorem d_ST_init2_66 : decode b_ST_init2 66 = .ok (.aload_n 0, 1) := by decide +kernel
theorem d_ST_init2_67 : decode b_ST_init2 67 = .ok (.getfield 9, 3) := by decide +kernel
theorem d_ST_init2_70 : decode b_ST_init2 70 = .ok (.iload 4, 2) := by decide +kernel
theorem d_ST_init2_72 : decode b_ST_init2 72 = .ok (.invokestatic 47, 3) := by decide +kernel
theorem d_ST_init2_75 : decode b_ST_init2 75 = .ok (.putfield 15, 3) := by decide +kernel
theorem d_ST_init2_78 : decode b_ST_init2 78 = .ok (.return_, 1) := by decide +kernel
theorem d_ST_init2_79 : decode b_ST_init2 79 = .ok (.aload_n 0, 1) := by decide +kernel
theorem d_ST_init2_80 : decode b_ST_init2 80 = .ok (.iconst 1, 1) := by decide +kernel
theorem d_ST_init2_81 : decode b_ST_init2 81 = .ok (.putfield 15, 3) := by decide +kernel
theorem d_ST_init2_84 : decode b_ST_init2 84 = .ok (.aload_n 0, 1) := by decide +kernel
theorem d_ST_init2_85 : decode b_ST_init2 85 = .ok (.aload_n 3, 1) := by decide +kernel
theorem d_ST_init2_86 : decode b_ST_init2 86 = .ok (.iconst 0, 1) := by decide +kernel
theorem d_ST_init2_87 : decode b_ST_init2 87 = .ok (.iload 4, 2) := by decide +kernel
theorem d_ST_init2_89 : decode b_ST_init2 89 = .ok (.iconst 1, 1) := by decide +kernel
theorem d_ST_init2_90 : decode b_ST_init2 90 = .ok (.ishl, 1) := by decide +kernel
theorem d_ST_init2_91 : decode b_ST_init2 91 = .ok (.invokestatic 54, 3) := by decide +kernel
theorem d_ST_init2_94 : decode b_ST_init2 94 = .ok (.putfield 9, 3) := by decide +kernel
theorem d_ST_init2_97 : decode b_ST_init2 97 = .ok (.return_, 1) := by decide +kernel
theorem d_AB_getValue_0 : decode b_AB_getValue 0 = .ok (.aload_n 0, 1) := by decide +kernel
theorem d_AB_getValue_1 : decode b_AB_getValue 1 = .ok (.getfield 15, 3) := by decide +kernel
theorem d_AB_getValue_4 : decode b_AB_getValue 4 = .ok (.areturn, 1) := by decide +kernel
theorem d_AR_copyOfRange_0 : decode b_AR_copyOfRange 0 = .ok (.iload_n 1, 1) := by decide +kernel
theorem d_AR_copyOfRange_1 : decode b_AR_copyOfRange 1 = .ok (.ifCond .ne 9, 3) := by decide +kernel
theorem d_AR_copyOfRange_4 : decode b_AR_copyOfRange 4 = .ok (.iload_n 2, 1) := by decide +kernel
theorem d_AR_copyOfRange_5 : decode b_AR_copyOfRange 5 = .ok (.aload_n 0, 1) := by decide +kernel
theorem d_AR_copyOfRange_6 : decode b_AR_copyOfRange 6 = .ok (.arraylength, 1) := by decide +kernel
theorem d_AR_copyOfRange_7 : decode b_AR_copyOfRange 7 = .ok (.if_icmp .eq 10, 3) := by decide +kernel
theorem d_AR_copyOfRange_10 : decode b_AR_copyOfRange 10 = .ok (.aload_n 0, 1) := by decide +kernel
theorem d_AR_copyOfRange_11 : decode b_AR_copyOfRange 11 = .ok (.iload_n 1, 1) := by decide +kernel
theorem d_AR_copyOfRange_12 : decode b_AR_copyOfRange 12 = .ok (.iload_n 2, 1) := by decide +kernel
theorem d_AR_copyOfRange_13 : decode b_AR_copyOfRange 13 = .ok (.invokestatic 339, 3) := by decide +kernel
theorem d_AR_copyOfRange_16 : decode b_AR_copyOfRange 16 = .ok (.areturn, 1) := by decide +kernel
theorem d_AR_copyOfRange_17 : decode b_AR_copyOfRange 17 = .ok (.aload_n 0, 1) := by decide +kernel
theorem d_AR_copyOfRange_18 : decode b_AR_copyOfRange 18 = .ok (.invokevirtual 310, 3) := by decide +kernel
theorem d_AR_copyOfRange_21 : decode b_AR_copyOfRange 21 = .ok (.checkcast 311, 3) := by decide +kernel
theorem d_AR_copyOfRange_24 : decode b_AR_copyOfRange 24 = .ok (.areturn, 1) := by decide +kernel
theorem d_AR_copyOfRangeByte_0 : decode b_AR_copyOfRangeByte 0 = .ok (.iload_n 1, 1) := by decide +kernel
theorem d_AR_copyOfRangeByte_1 : decode b_AR_copyOfRangeByte 1 = .ok (.iload_n 2, 1) := by decide +kernel
theorem d_AR_copyOfRangeByte_2 : decode b_AR_copyOfRangeByte 2 = .ok (.invokestatic 343, 3) := by decide +kernel
theorem d_AR_copyOfRangeByte_5 : decode b_AR_copyOfRangeByte 5 = .ok (.iload_n 2, 1) := by decide +kernel
theorem d_AR_copyOfRangeByte_6 : decode b_AR_copyOfRangeByte 6 = .ok (.iload_n 1, 1) := by decide +kernel
theorem d_AR_copyOfRangeByte_7 : decode b_AR_copyOfRangeByte 7 = .ok (.isub, 1) := by decide +kernel
theorem d_AR_copyOfRangeByte_8 : decode b_AR_copyOfRangeByte 8 = .ok (.istore_n 3, 1) := by decide +kernel
theorem d_AR_copyOfRangeByte_9 : decode b_AR_copyOfRangeByte 9 = .ok (.iload_n 3, 1) := by decide +kernel
theorem d_AR_copyOfRangeByte_10 : decode b_AR_copyOfRangeByte 10 = .ok (.newarray .byte, 2) := by decide +kernel
theorem d_AR_copyOfRangeByte_12 : decode b_AR_copyOfRangeByte 12 = .ok (.astore 4, 2) := by decide +kernel
theorem d_AR_copyOfRangeByte_14 : decode b_AR_copyOfRangeByte 14 = .ok (.aload_n 0, 1) := by decide +kernel
theorem d_AR_copyOfRangeByte_15 : decode b_AR_copyOfRangeByte 15 = .ok (.iload_n 1, 1) := by decide +kernel
theorem d_AR_copyOfRangeByte_16 : decode b_AR_copyOfRangeByte 16 = .ok (.aload 4, 2) := by decide +kernel
theorem d_AR_copyOfRangeByte_18 : decode b_AR_copyOfRangeByte 18 = .ok (.iconst 0, 1) := by decide +kernel
theorem d_AR_copyOfRangeByte_19 : decode b_AR_copyOfRangeByte 19 = .ok (.aload_n 0, 1) := by decide +kernel
theorem d_AR_copyOfRangeByte_20 : decode b_AR_copyOfRangeByte 20 = .ok (.arraylength, 1) := by decide +kernel
theorem d_AR_copyOfRangeByte_21 : decode b_AR_copyOfRangeByte 21 = .ok (.iload_n 1, 1) := by decide +kernel
theorem d_AR_copyOfRangeByte_22 : decode b_AR_copyOfRangeByte 22 = .ok (.isub, 1) := by decide +kernel
theorem d_AR_copyOfRangeByte_23 : decode b_AR_copyOfRangeByte 23 = .ok (.iload_n 3, 1) := by decide +kernel
theorem d_AR_copyOfRangeByte_24 : decode b_AR_copyOfRangeByte 24 = .ok (.invokestatic 304, 3) := by decide +kernel
theorem d_AR_copyOfRangeByte_27 : decode b_AR_copyOfRangeByte 27 = .ok (.invokestatic 150, 3) := by decide +kernel
theorem d_AR_copyOfRangeByte_30 : decode b_AR_copyOfRangeByte 30 = .ok (.aload 4, 2) := by decide +kernel
theorem d_AR_copyOfRangeByte_32 : decode b_AR_copyOfRangeByte 32 = .ok (.areturn, 1) := by decide +kernel
theorem d_AR_checkLength_0 : decode b_AR_checkLength 0 = .ok (.iload_n 1, 1) := by decide +kernel
theorem d_AR_checkLength_1 : decode b_AR_checkLength 1 = .ok (.iload_n 0, 1) := by decide +kernel
theorem d_AR_checkLength_2 : decode b_AR_checkLength 2 = .ok (.if_icmp .ge 35, 3) := by decide +kernel
theorem d_AR_checkLength_5 : decode b_AR_checkLength 5 = .ok (.new 43, 3) := by decide +kernel
theorem d_AR_checkLength_8 : decode b_AR_checkLength 8 = .ok (.dup, 1) := by decide +kernel
theorem d_AR_checkLength_9 : decode b_AR_checkLength 9 = .ok (.new 45, 3) := by decide +kernel
theorem d_AR_checkLength_12 : decode b_AR_checkLength 12 = .ok (.dup, 1) := by decide +kernel
theorem d_AR_checkLength_13 : decode b_AR_checkLength 13 = .ok (.invokespecial 47, 3) := by decide +kernel
theorem d_AR_checkLength_16 : decode b_AR_checkLength 16 = .ok (.iload_n 0, 1) := by decide +kernel
theorem d_AR_checkLength_17 : decode b_AR_checkLength 17 = .ok (.invokevirtual 54, 3) := by decide +kernel
theorem d_AR_checkLength_20 : decode b_AR_checkLength 20 = .ok (.ldc_w 337, 3) := by decide +kernel
theorem d_AR_checkLength_23 : decode b_AR_checkLength 23 = .ok (.invokevirtual 50, 3) := by decide +kernel
theorem d_AR_checkLength_26 : decode b_AR_checkLength 26 = .ok (.iload_n 1, 1) := by decide +kernel
theorem d_AR_checkLength_27 : decode b_AR_checkLength 27 = .ok (.invokevirtual 54, 3) := by decide +kernel
theorem d_AR_checkLength_30 : decode b_AR_checkLength 30 = .ok (.invokevirtual 61, 3) := by decide +kernel
theorem d_AR_checkLength_33 : decode b_AR_checkLength 33 = .ok (.invokespecial 65, 3) := by decide +kernel
theorem d_AR_checkLength_36 : decode b_AR_checkLength 36 = .ok (.athrow, 1) := by decide +kernel
theorem d_AR_checkLength_37 : decode b_AR_checkLength 37 = .ok (.return_, 1) := by decide +kernel
theorem d_ST_length_0 : decode b_ST_length 0 = .ok (.aload_n 0, 1) := by decide +kernel
theorem d_ST_length_1 : decode b_ST_length 1 = .ok (.getfield 9, 3) := by decide +kernel
theorem d_ST_length_4 : decode b_ST_length 4 = .ok (.arraylength, 1) := by decide +kernel
theorem d_ST_length_5 : decode b_ST_length 5 = .ok (.aload_n 0, 1) := by decide +kernel
theorem d_ST_length_6 : decode b_ST_length 6 = .ok (.invokevirtual 335, 3) := by decide +kernel
theorem d_ST_length_9 : decode b_ST_length 9 = .ok (.ishr, 1) := by decide +kernel
theorem d_ST_length_10 : decode b_ST_length 10 = .ok (.ireturn, 1) := by decide +kernel
theorem d_ST_coder_0 : decode b_ST_coder 0 = .ok (.getstatic 38, 3) := by decide +kernel
theorem d_ST_coder_3 : decode b_ST_coder 3 = .ok (.ifCond .eq 10, 3) := by decide +kernel
theorem d_ST_coder_6 : decode b_ST_coder 6 = .ok (.aload_n 0, 1) := by decide +kernel
theorem d_ST_coder_7 : decode b_ST_coder 7 = .ok (.getfield 15, 3) := by decide +kernel
theorem d_ST_coder_10 : decode b_ST_coder 10 = .ok (.goto 4, 3) := by decide +kernel
theorem d_ST_coder_13 : decode b_ST_coder 13 = .ok (.iconst 1, 1) := by decide +kernel
theorem d_ST_coder_14 : decode b_ST_coder 14 = .ok (.ireturn, 1) := by decide +kernel
theorem d_ST_charAt_0 : decode b_ST_charAt 0 = .ok (.aload_n 0, 1) := by decide +kernel
theorem d_ST_charAt_1 : decode b_ST_charAt 1 = .ok (.invokevirtual 492, 3) := by decide +kernel
theorem d_ST_charAt_4 : decode b_ST_charAt 4 = .ok (.ifCond .eq 12, 3) := by decide +kernel
theorem d_ST_charAt_7 : decode b_ST_charAt 7 = .ok (.aload_n 0, 1) := by decide +kernel
theorem d_ST_charAt_8 : decode b_ST_charAt 8 = .ok (.getfield 9, 3) := by decide +kernel
theorem d_ST_charAt_11 : decode b_ST_charAt 11 = .ok (.iload_n 1, 1) := by decide +kernel
theorem d_ST_charAt_12 : decode b_ST_charAt 12 = .ok (.invokestatic 495, 3) := by decide +kernel
theorem d_ST_charAt_15 : decode b_ST_charAt 15 = .ok (.ireturn, 1) := by decide +kernel
theorem d_ST_charAt_16 : decode b_ST_charAt 16 = .ok (.aload_n 0, 1) := by decide +kernel
theorem d_ST_charAt_17 : decode b_ST_charAt 17 = .ok (.getfield 9, 3) := by decide +kernel
theorem d_ST_charAt_20 : decode b_ST_charAt 20 = .ok (.iload_n 1, 1) := by decide +kernel
theorem d_ST_charAt_21 : decode b_ST_charAt 21 = .ok (.invokestatic 498, 3) := by decide +kernel
theorem d_ST_charAt_24 : decode b_ST_charAt 24 = .ok (.ireturn, 1) := by decide +kernel
theorem d_ST_isLatin1_0 : decode b_ST_isLatin1 0 = .ok (.getstatic 38, 3) := by decide +kernel
theorem d_ST_isLatin1_3 : decode b_ST_isLatin1 3 = .ok (.ifCond .eq 14, 3) := by decide +kernel
theorem d_ST_isLatin1_6 : decode b_ST_isLatin1 6 = .ok (.aload_n 0, 1) := by decide +kernel
theorem d_ST_isLatin1_7 : decode b_ST_isLatin1 7 = .ok (.getfield 15, 3) := by decide +kernel
theorem d_ST_isLatin1_10 : decode b_ST_isLatin1 10 = .ok (.ifCond .ne 7, 3) := by decide +kernel
theorem d_ST_isLatin1_13 : decode b_ST_isLatin1 13 = .ok (.iconst 1, 1) := by decide +kernel
theorem d_ST_isLatin1_14 : decode b_ST_isLatin1 14 = .ok (.goto 4, 3) := by decide +kernel
theorem d_ST_isLatin1_17 : decode b_ST_isLatin1 17 = .ok (.iconst 0, 1) := by decide +kernel
theorem d_ST_isLatin1_18 : decode b_ST_isLatin1 18 = .ok (.ireturn, 1) := by decide +kernel
theorem d_L1_charAt_0 : decode b_L1_charAt 0 = .ok (.iload_n 1, 1) := by decide +kernel
theorem d_L1_charAt_1 : decode b_L1_charAt 1 = .ok (.aload_n 0, 1) := by decide +kernel
theorem d_L1_charAt_2 : decode b_L1_charAt 2 = .ok (.arraylength, 1) := by decide +kernel
theorem d_L1_charAt_3 : decode b_L1_charAt 3 = .ok (.invokestatic 9, 3) := by decide +kernel
theorem d_L1_charAt_6 : decode b_L1_charAt 6 = .ok (.aload_n 0, 1) := by decide +kernel
theorem d_L1_charAt_7 : decode b_L1_charAt 7 = .ok (.iload_n 1, 1) := by decide +kernel
theorem d_L1_charAt_8 : decode b_L1_charAt 8 = .ok (.baload, 1) := by decide +kernel
theorem d_L1_charAt_9 : decode b_L1_charAt 9 = .ok (.sipush 255, 3) := by decide +kernel
theorem d_L1_charAt_12 : decode b_L1_charAt 12 = .ok (.iand, 1) := by decide +kernel
theorem d_L1_charAt_13 : decode b_L1_charAt 13 = .ok (.i2c, 1) := by decide +kernel
theorem d_L1_charAt_14 : decode b_L1_charAt 14 = .ok (.ireturn, 1) := by decide +kernel
theorem d_SB_setLength_0 : decode b_SB_setLength 0 = .ok (.aload_n 0, 1) := by decide +kernel
theorem d_SB_setLength_1 : decode b_SB_setLength 1 = .ok (.iload_n 1, 1) := by decide +kernel
theorem d_SB_setLength_2 : decode b_SB_setLength 2 = .ok (.invokespecial 333, 3) := by decide +kernel
theorem d_SB_setLength_5 : decode b_SB_setLength 5 = .ok (.return_, 1) := by decide +kernel
theorem d_AB_setLength_0 : decode b_AB_setLength 0 = .ok (.iload_n 1, 1) := by decide +kernel
theorem d_AB_setLength_1 : decode b_AB_setLength 1 = .ok (.ifCond .ge 12, 3) := by decide +kernel
theorem d_AB_setLength_4 : decode b_AB_setLength 4 = .ok (.new 129, 3) := by decide +kernel
theorem d_AB_setLength_7 : decode b_AB_setLength 7 = .ok (.dup, 1) := by decide +kernel
theorem d_AB_setLength_8 : decode b_AB_setLength 8 = .ok (.iload_n 1, 1) := by decide +kernel
theorem d_AB_setLength_9 : decode b_AB_setLength 9 = .ok (.invokespecial 131, 3) := by decide +kernel
theorem d_AB_setLength_12 : decode b_AB_setLength 12 = .ok (.athrow, 1) := by decide +kernel
theorem d_AB_setLength_13 : decode b_AB_setLength 13 = .ok (.aload_n 0, 1) := by decide +kernel
theorem d_AB_setLength_14 : decode b_AB_setLength 14 = .ok (.iload_n 1, 1) := by decide +kernel
theorem d_AB_setLength_15 : decode b_AB_setLength 15 = .ok (.invokevirtual 100, 3) := by decide +kernel
theorem d_AB_setLength_18 : decode b_AB_setLength 18 = .ok (.aload_n 0, 1) := by decide +kernel
theorem d_AB_setLength_19 : decode b_AB_setLength 19 = .ok (.getfield 79, 3) := by decide +kernel
theorem d_AB_setLength_22 : decode b_AB_setLength 22 = .ok (.iload_n 1, 1) := by decide +kernel
theorem d_AB_setLength_23 : decode b_AB_setLength 23 = .ok (.if_icmp .ge 40, 3) := by decide +kernel
theorem d_AB_setLength_26 : decode b_AB_setLength 26 = .ok (.aload_n 0, 1) := by decide +kernel
theorem d_AB_setLength_27 : decode b_AB_setLength 27 = .ok (.invokevirtual 83, 3) := by decide +kernel
theorem d_AB_setLength_30 : decode b_AB_setLength 30 = .ok (.ifCond .eq 18, 3) := by decide +kernel
theorem d_AB_setLength_33 : decode b_AB_setLength 33 = .ok (.aload_n 0, 1) := by decide +kernel
theorem d_AB_setLength_34 : decode b_AB_setLength 34 = .ok (.getfield 15, 3) := by decide +kernel
theorem d_AB_setLength_37 : decode b_AB_setLength 37 = .ok (.aload_n 0, 1) := by decide +kernel
theorem d_AB_setLength_38 : decode b_AB_setLength 38 = .ok (.getfield 79, 3) := by decide +kernel
theorem d_AB_setLength_41 : decode b_AB_setLength 41 = .ok (.iload_n 1, 1) := by decide +kernel
theorem d_AB_setLength_42 : decode b_AB_setLength 42 = .ok (.invokestatic 133, 3) := by decide +kernel
theorem d_AB_setLength_45 : decode b_AB_setLength 45 = .ok (.goto 31, 3) := by decide +kernel
theorem d_AB_setLength_48 : decode b_AB_setLength 48 = .ok (.aload_n 0, 1) := by decide +kernel
theorem d_AB_setLength_49 : decode b_AB_setLength 49 = .ok (.getfield 15, 3) := by decide +kernel
theorem d_AB_setLength_52 : decode b_AB_setLength 52 = .ok (.aload_n 0, 1) := by decide +kernel
theorem d_AB_setLength_53 : decode b_AB_setLength 53 = .ok (.getfield 79, 3) := by decide +kernel
theorem d_AB_setLength_56 : decode b_AB_setLength 56 = .ok (.iload_n 1, 1) := by decide +kernel
theorem d_AB_setLength_57 : decode b_AB_setLength 57 = .ok (.invokestatic 137, 3) := by decide +kernel
theorem d_AB_setLength_60 : decode b_AB_setLength 60 = .ok (.goto 16, 3) := by decide +kernel
theorem d_AB_setLength_63 : decode b_AB_setLength 63 = .ok (.aload_n 0, 1) := by decide +kernel
theorem d_AB_setLength_64 : decode b_AB_setLength 64 = .ok (.getfield 79, 3) := by decide +kernel
theorem d_AB_setLength_67 : decode b_AB_setLength 67 = .ok (.iload_n 1, 1) := by decide +kernel
theorem d_AB_setLength_68 : decode b_AB_setLength 68 = .ok (.if_icmp .le 8, 3) := by decide +kernel
theorem d_AB_setLength_71 : decode b_AB_setLength 71 = .ok (.aload_n 0, 1) := by decide +kernel
theorem d_AB_setLength_72 : decode b_AB_setLength 72 = .ok (.iconst 1, 1) := by decide +kernel
theorem d_AB_setLength_73 : decode b_AB_setLength 73 = .ok (.putfield 73, 3) := by decide +kernel
theorem d_AB_setLength_76 : decode b_AB_setLength 76 = .ok (.aload_n 0, 1) := by decide +kernel
theorem d_AB_setLength_77 : decode b_AB_setLength 77 = .ok (.iload_n 1, 1) := by decide +kernel
theorem d_AB_setLength_78 : decode b_AB_setLength 78 = .ok (.putfield 79, 3) := by decide +kernel
theorem d_AB_setLength_81 : decode b_AB_setLength 81 = .ok (.return_, 1) := by decide +kernel
theorem d_L1_fillNull_0 : decode b_L1_fillNull 0 = .ok (.aload_n 0, 1) := by decide +kernel
theorem d_L1_fillNull_1 : decode b_L1_fillNull 1 = .ok (.iload_n 1, 1) := by decide +kernel
theorem d_L1_fillNull_2 : decode b_L1_fillNull 2 = .ok (.iload_n 2, 1) := by decide +kernel
theorem d_L1_fillNull_3 : decode b_L1_fillNull 3 = .ok (.iconst 0, 1) := by decide +kernel
theorem d_L1_fillNull_4 : decode b_L1_fillNull 4 = .ok (.invokestatic 236, 3) := by decide +kernel
theorem d_L1_fillNull_7 : decode b_L1_fillNull 7 = .ok (.return_, 1) := by decide +kernel
theorem d_AR_fill_0 : decode b_AR_fill 0 = .ok (.aload_n 0, 1) := by decide +kernel
theorem d_AR_fill_1 : decode b_AR_fill 1 = .ok (.arraylength, 1) := by decide +kernel
theorem d_AR_fill_2 : decode b_AR_fill 2 = .ok (.iload_n 1, 1) := by decide +kernel
theorem d_AR_fill_3 : decode b_AR_fill 3 = .ok (.iload_n 2, 1) := by decide +kernel
theorem d_AR_fill_4 : decode b_AR_fill 4 = .ok (.invokestatic 13, 3) := by decide +kernel
theorem d_AR_fill_7 : decode b_AR_fill 7 = .ok (.iload_n 1, 1) := by decide +kernel
theorem d_AR_fill_8 : decode b_AR_fill 8 = .ok (.istore 4, 2) := by decide +kernel
theorem d_AR_fill_10 : decode b_AR_fill 10 = .ok (.iload 4, 2) := by decide +kernel
theorem d_AR_fill_12 : decode b_AR_fill 12 = .ok (.iload_n 2, 1) := by decide +kernel
theorem d_AR_fill_13 : decode b_AR_fill 13 = .ok (.if_icmp .ge 14, 3) := by decide +kernel
theorem d_AR_fill_16 : decode b_AR_fill 16 = .ok (.aload_n 0, 1) := by decide +kernel
theorem d_AR_fill_17 : decode b_AR_fill 17 = .ok (.iload 4, 2) := by decide +kernel
theorem d_AR_fill_19 : decode b_AR_fill 19 = .ok (.iload_n 3, 1) := by decide +kernel
theorem d_AR_fill_20 : decode b_AR_fill 20 = .ok (.bastore, 1) := by decide +kernel
theorem d_AR_fill_21 : decode b_AR_fill 21 = .ok (.iinc 4 1, 3) := by decide +kernel
theorem d_AR_fill_24 : decode b_AR_fill 24 = .ok (.goto (-14), 3) := by decide +kernel
theorem d_AR_fill_27 : decode b_AR_fill 27 = .ok (.return_, 1) := by decide +kernel
theorem d_AR_rangeCheck_0 : decode b_AR_rangeCheck 0 = .ok (.iload_n 1, 1) := by decide +kernel
theorem d_AR_rangeCheck_1 : decode b_AR_rangeCheck 1 = .ok (.iload_n 2, 1) := by decide +kernel
theorem d_AR_rangeCheck_2 : decode b_AR_rangeCheck 2 = .ok (.if_icmp .le 44, 3) := by decide +kernel
theorem d_AR_rangeCheck_5 : decode b_AR_rangeCheck 5 = .ok (.new 43, 3) := by decide +kernel
theorem d_AR_rangeCheck_8 : decode b_AR_rangeCheck 8 = .ok (.dup, 1) := by decide +kernel
theorem d_AR_rangeCheck_9 : decode b_AR_rangeCheck 9 = .ok (.new 45, 3) := by decide +kernel
theorem d_AR_rangeCheck_12 : decode b_AR_rangeCheck 12 = .ok (.dup, 1) := by decide +kernel
theorem d_AR_rangeCheck_13 : decode b_AR_rangeCheck 13 = .ok (.invokespecial 47, 3) := by decide +kernel
theorem d_AR_rangeCheck_16 : decode b_AR_rangeCheck 16 = .ok (.ldc 48, 2) := by decide +kernel
theorem d_AR_rangeCheck_18 : decode b_AR_rangeCheck 18 = .ok (.invokevirtual 50, 3) := by decide +kernel
theorem d_AR_rangeCheck_21 : decode b_AR_rangeCheck 21 = .ok (.iload_n 1, 1) := by decide +kernel
theorem d_AR_rangeCheck_22 : decode b_AR_rangeCheck 22 = .ok (.invokevirtual 54, 3) := by decide +kernel
theorem d_AR_rangeCheck_25 : decode b_AR_rangeCheck 25 = .ok (.ldc 57, 2) := by decide +kernel
theorem d_AR_rangeCheck_27 : decode b_AR_rangeCheck 27 = .ok (.invokevirtual 50, 3) := by decide +kernel
theorem d_AR_rangeCheck_30 : decode b_AR_rangeCheck 30 = .ok (.iload_n 2, 1) := by decide +kernel
theorem d_AR_rangeCheck_31 : decode b_AR_rangeCheck 31 = .ok (.invokevirtual 54, 3) := by decide +kernel
theorem d_AR_rangeCheck_34 : decode b_AR_rangeCheck 34 = .ok (.ldc 59, 2) := by decide +kernel
theorem d_AR_rangeCheck_36 : decode b_AR_rangeCheck 36 = .ok (.invokevirtual 50, 3) := by decide +kernel
theorem d_AR_rangeCheck_39 : decode b_AR_rangeCheck 39 = .ok (.invokevirtual 61, 3) := by decide +kernel
theorem d_AR_rangeCheck_42 : decode b_AR_rangeCheck 42 = .ok (.invokespecial 65, 3) := by decide +kernel
theorem d_AR_rangeCheck_45 : decode b_AR_rangeCheck 45 = .ok (.athrow, 1) := by decide +kernel
theorem d_AR_rangeCheck_46 : decode b_AR_rangeCheck 46 = .ok (.iload_n 1, 1) := by decide +kernel
theorem d_AR_rangeCheck_47 : decode b_AR_rangeCheck 47 = .ok (.ifCond .ge 12, 3) := by decide +kernel
theorem d_AR_rangeCheck_50 : decode b_AR_rangeCheck 50 = .ok (.new 68, 3) := by decide +kernel
theorem d_AR_rangeCheck_53 : decode b_AR_rangeCheck 53 = .ok (.dup, 1) := by decide +kernel
theorem d_AR_rangeCheck_54 : decode b_AR_rangeCheck 54 = .ok (.iload_n 1, 1) := by decide +kernel
theorem d_AR_rangeCheck_55 : decode b_AR_rangeCheck 55 = .ok (.invokespecial 70, 3) := by decide +kernel
theorem d_AR_rangeCheck_58 : decode b_AR_rangeCheck 58 = .ok (.athrow, 1) := by decide +kernel
theorem d_AR_rangeCheck_59 : decode b_AR_rangeCheck 59 = .ok (.iload_n 2, 1) := by decide +kernel
theorem d_AR_rangeCheck_60 : decode b_AR_rangeCheck 60 = .ok (.iload_n 0, 1) := by decide +kernel
theorem d_AR_rangeCheck_61 : decode b_AR_rangeCheck 61 = .ok (.if_icmp .le 12, 3) := by decide +kernel
theorem d_AR_rangeCheck_64 : decode b_AR_rangeCheck 64 = .ok (.new 68, 3) := by decide +kernel
theorem d_AR_rangeCheck_67 : decode b_AR_rangeCheck 67 = .ok (.dup, 1) := by decide +kernel
theorem d_AR_rangeCheck_68 : decode b_AR_rangeCheck 68 = .ok (.iload_n 2, 1) := by decide +kernel
theorem d_AR_rangeCheck_69 : decode b_AR_rangeCheck 69 = .ok (.invokespecial 70, 3) := by decide +kernel
theorem d_AR_rangeCheck_72 : decode b_AR_rangeCheck 72 = .ok (.athrow, 1) := by decide +kernel
theorem d_AR_rangeCheck_73 : decode b_AR_rangeCheck 73 = .ok (.return_, 1) := by decide +kernel
theorem d_SB_append2_0 : decode b_SB_append2 0 = .ok (.aload_n 0, 1) := by decide +kernel
theorem d_SB_append2_1 : decode b_SB_append2 1 = .ok (.iload_n 1, 1) := by decide +kernel
theorem d_SB_append2_2 : decode b_SB_append2 2 = .ok (.invokespecial 53, 3) := by decide +kernel
theorem d_SB_append2_5 : decode b_SB_append2 5 = .ok (.pop, 1) := by decide +kernel
theorem d_SB_append2_6 : decode b_SB_append2 6 = .ok (.aload_n 0, 1) := by decide +kernel
theorem d_SB_append2_7 : decode b_SB_append2 7 = .ok (.areturn, 1) := by decide +kernel
theorem d_AB_append2_0 : decode b_AB_append2 0 = .ok (.aload_n 0, 1) := by decide +kernel
theorem d_AB_append2_1 : decode b_AB_append2 1 = .ok (.getfield 79, 3) := by decide +kernel
theorem d_AB_append2_4 : decode b_AB_append2 4 = .ok (.istore_n 2, 1) := by decide +kernel
theorem d_AB_append2_5 : decode b_AB_append2 5 = .ok (.iload_n 2, 1) := by decide +kernel
theorem d_AB_append2_6 : decode b_AB_append2 6 = .ok (.iload_n 1, 1) := by decide +kernel
theorem d_AB_append2_7 : decode b_AB_append2 7 = .ok (.invokestatic 245, 3) := by decide +kernel
theorem d_AB_append2_10 : decode b_AB_append2 10 = .ok (.iadd, 1) := by decide +kernel
theorem d_AB_append2_11 : decode b_AB_append2 11 = .ok (.istore_n 3, 1) := by decide +kernel
theorem d_AB_append2_12 : decode b_AB_append2 12 = .ok (.aload_n 0, 1) := by decide +kernel
theorem d_AB_append2_13 : decode b_AB_append2 13 = .ok (.iload_n 3, 1) := by decide +kernel
theorem d_AB_append2_14 : decode b_AB_append2 14 = .ok (.invokevirtual 100, 3) := by decide +kernel
theorem d_AB_append2_17 : decode b_AB_append2 17 = .ok (.aload_n 0, 1) := by decide +kernel
theorem d_AB_append2_18 : decode b_AB_append2 18 = .ok (.invokevirtual 83, 3) := by decide +kernel
theorem d_AB_append2_21 : decode b_AB_append2 21 = .ok (.ifCond .eq 16, 3) := by decide +kernel
theorem d_AB_append2_24 : decode b_AB_append2 24 = .ok (.iload_n 1, 1) := by decide +kernel
theorem d_AB_append2_25 : decode b_AB_append2 25 = .ok (.iload_n 3, 1) := by decide +kernel
theorem d_AB_append2_26 : decode b_AB_append2 26 = .ok (.aload_n 0, 1) := by decide +kernel
theorem d_AB_append2_27 : decode b_AB_append2 27 = .ok (.getfield 15, 3) := by decide +kernel
theorem d_AB_append2_30 : decode b_AB_append2 30 = .ok (.invokestatic 248, 3) := by decide +kernel
theorem d_AB_append2_33 : decode b_AB_append2 33 = .ok (.pop, 1) := by decide +kernel
theorem d_AB_append2_34 : decode b_AB_append2 34 = .ok (.goto 14, 3) := by decide +kernel
theorem d_AB_append2_37 : decode b_AB_append2 37 = .ok (.iload_n 1, 1) := by decide +kernel
theorem d_AB_append2_38 : decode b_AB_append2 38 = .ok (.iload_n 2, 1) := by decide +kernel
theorem d_AB_append2_39 : decode b_AB_append2 39 = .ok (.iload_n 3, 1) := by decide +kernel
theorem d_AB_append2_40 : decode b_AB_append2 40 = .ok (.aload_n 0, 1) := by decide +kernel
theorem d_AB_append2_41 : decode b_AB_append2 41 = .ok (.getfield 15, 3) := by decide +kernel
theorem d_AB_append2_44 : decode b_AB_append2 44 = .ok (.invokestatic 251, 3) := by decide +kernel
theorem d_AB_append2_47 : decode b_AB_append2 47 = .ok (.pop, 1) := by decide +kernel
theorem d_AB_append2_48 : decode b_AB_append2 48 = .ok (.aload_n 0, 1) := by decide +kernel
theorem d_AB_append2_49 : decode b_AB_append2 49 = .ok (.iload_n 3, 1) := by decide +kernel
theorem d_AB_append2_50 : decode b_AB_append2 50 = .ok (.putfield 79, 3) := by decide +kernel
theorem d_AB_append2_53 : decode b_AB_append2 53 = .ok (.aload_n 0, 1) := by decide +kernel
theorem d_AB_append2_54 : decode b_AB_append2 54 = .ok (.areturn, 1) := by decide +kernel
theorem d_IN_stringSize_0 : decode b_IN_stringSize 0 = .ok (.iconst 1, 1) := by decide +kernel
theorem d_IN_stringSize_1 : decode b_IN_stringSize 1 = .ok (.istore_n 1, 1) := by decide +kernel
theorem d_IN_stringSize_2 : decode b_IN_stringSize 2 = .ok (.iload_n 0, 1) := by decide +kernel
theorem d_IN_stringSize_3 : decode b_IN_stringSize 3 = .ok (.ifCond .lt 8, 3) := by decide +kernel
theorem d_IN_stringSize_6 : decode b_IN_stringSize 6 = .ok (.iconst 0, 1) := by decide +kernel
theorem d_IN_stringSize_7 : decode b_IN_stringSize 7 = .ok (.istore_n 1, 1) := by decide +kernel
theorem d_IN_stringSize_8 : decode b_IN_stringSize 8 = .ok (.iload_n 0, 1) := by decide +kernel
theorem d_IN_stringSize_9 : decode b_IN_stringSize 9 = .ok (.ineg, 1) := by decide +kernel
theorem d_IN_stringSize_10 : decode b_IN_stringSize 10 = .ok (.istore_n 0, 1) := by decide +kernel
theorem d_IN_stringSize_11 : decode b_IN_stringSize 11 = .ok (.bipush (-10), 2) := by decide +kernel
theorem d_IN_stringSize_13 : decode b_IN_stringSize 13 = .ok (.istore_n 2, 1) := by decide +kernel
theorem d_IN_stringSize_14 : decode b_IN_stringSize 14 = .ok (.iconst 1, 1) := by decide +kernel
theorem d_IN_stringSize_15 : decode b_IN_stringSize 15 = .ok (.istore_n 3, 1) := by decide +kernel
theorem d_IN_stringSize_16 : decode b_IN_stringSize 16 = .ok (.iload_n 3, 1) := by decide +kernel
theorem d_IN_stringSize_17 : decode b_IN_stringSize 17 = .ok (.bipush 10, 2) := by decide +kernel
theorem d_IN_stringSize_19 : decode b_IN_stringSize 19 = .ok (.if_icmp .ge 23, 3) := by decide +kernel
theorem d_IN_stringSize_22 : decode b_IN_stringSize 22 = .ok (.iload_n 0, 1) := by decide +kernel
theorem d_IN_stringSize_23 : decode b_IN_stringSize 23 = .ok (.iload_n 2, 1) := by decide +kernel
theorem d_IN_stringSize_24 : decode b_IN_stringSize 24 = .ok (.if_icmp .le 7, 3) := by decide +kernel
theorem d_IN_stringSize_27 : decode b_IN_stringSize 27 = .ok (.iload_n 3, 1) := by decide +kernel
theorem d_IN_stringSize_28 : decode b_IN_stringSize 28 = .ok (.iload_n 1, 1) := by decide +kernel
theorem d_IN_stringSize_29 : decode b_IN_stringSize 29 = .ok (.iadd, 1) := by decide +kernel
theorem d_IN_stringSize_30 : decode b_IN_stringSize 30 = .ok (.ireturn, 1) := by decide +kernel
theorem d_IN_stringSize_31 : decode b_IN_stringSize 31 = .ok (.bipush 10, 2) := by decide +kernel
theorem d_IN_stringSize_33 : decode b_IN_stringSize 33 = .ok (.iload_n 2, 1) := by decide +kernel
theorem d_IN_stringSize_34 : decode b_IN_stringSize 34 = .ok (.imul, 1) := by decide +kernel
theorem d_IN_stringSize_35 : decode b_IN_stringSize 35 = .ok (.istore_n 2, 1) := by decide +kernel
theorem d_IN_stringSize_36 : decode b_IN_stringSize 36 = .ok (.iinc 3 1, 3) := by decide +kernel
theorem d_IN_stringSize_39 : decode b_IN_stringSize 39 = .ok (.goto (-23), 3) := by decide +kernel
theorem d_IN_stringSize_42 : decode b_IN_stringSize 42 = .ok (.bipush 10, 2) := by decide +kernel
theorem d_IN_stringSize_44 : decode b_IN_stringSize 44 = .ok (.iload_n 1, 1) := by decide +kernel
theorem d_IN_stringSize_45 : decode b_IN_stringSize 45 = .ok (.iadd, 1) := by decide +kernel
theorem d_IN_stringSize_46 : decode b_IN_stringSize 46 = .ok (.ireturn, 1) := by decide +kernel
theorem d_IN_getChars_0 : decode b_IN_getChars 0 = .ok (.iload_n 1, 1) := by decide +kernel
theorem d_IN_getChars_1 : decode b_IN_getChars 1 = .ok (.istore 5, 2) := by decide +kernel
theorem d_IN_getChars_3 : decode b_IN_getChars 3 = .ok (.iload_n 0, 1) := by decide +kernel
theorem d_IN_getChars_4 : decode b_IN_getChars 4 = .ok (.ifCond .ge 7, 3) := by decide +kernel
theorem d_IN_getChars_7 : decode b_IN_getChars 7 = .ok (.iconst 1, 1) := by decide +kernel
theorem d_IN_getChars_8 : decode b_IN_getChars 8 = .ok (.goto 4, 3) := by decide +kernel
theorem d_IN_getChars_11 : decode b_IN_getChars 11 = .ok (.iconst 0, 1) := by decide +kernel
theorem d_IN_getChars_12 : decode b_IN_getChars 12 = .ok (.istore 6, 2) := by decide +kernel
theorem d_IN_getChars_14 : decode b_IN_getChars 14 = .ok (.iload 6, 2) := by decide +kernel
theorem d_IN_getChars_16 : decode b_IN_getChars 16 = .ok (.ifCond .ne 6, 3) := by decide +kernel
theorem d_IN_getChars_19 : decode b_IN_getChars 19 = .ok (.iload_n 0, 1) := by decide +kernel
theorem d_IN_getChars_20 : decode b_IN_getChars 20 = .ok (.ineg, 1) := by decide +kernel
theorem d_IN_getChars_21 : decode b_IN_getChars 21 = .ok (.istore_n 0, 1) := by decide +kernel
theorem d_IN_getChars_22 : decode b_IN_getChars 22 = .ok (.iload_n 0, 1) := by decide +kernel
theorem d_IN_getChars_23 : decode b_IN_getChars 23 = .ok (.bipush (-100), 2) := by decide +kernel
theorem d_IN_getChars_25 : decode b_IN_getChars 25 = .ok (.if_icmp .gt 47, 3) := by decide +kernel
theorem d_IN_getChars_28 : decode b_IN_getChars 28 = .ok (.iload_n 0, 1) := by decide +kernel
theorem d_IN_getChars_29 : decode b_IN_getChars 29 = .ok (.bipush 100, 2) := by decide +kernel
theorem d_IN_getChars_31 : decode b_IN_getChars 31 = .ok (.idiv, 1) := by decide +kernel
theorem d_IN_getChars_32 : decode b_IN_getChars 32 = .ok (.istore_n 3, 1) := by decide +kernel
theorem d_IN_getChars_33 : decode b_IN_getChars 33 = .ok (.iload_n 3, 1) := by decide +kernel
theorem d_IN_getChars_34 : decode b_IN_getChars 34 = .ok (.bipush 100, 2) := by decide +kernel
theorem d_IN_getChars_36 : decode b_IN_getChars 36 = .ok (.imul, 1) := by decide +kernel
theorem d_IN_getChars_37 : decode b_IN_getChars 37 = .ok (.iload_n 0, 1) := by decide +kernel
theorem d_IN_getChars_38 : decode b_IN_getChars 38 = .ok (.isub, 1) := by decide +kernel
theorem d_IN_getChars_39 : decode b_IN_getChars 39 = .ok (.istore 4, 2) := by decide +kernel
theorem d_IN_getChars_41 : decode b_IN_getChars 41 = .ok (.iload_n 3, 1) := by decide +kernel
theorem d_IN_getChars_42 : decode b_IN_getChars 42 = .ok (.istore_n 0, 1) := by decide +kernel
theorem d_IN_getChars_43 : decode b_IN_getChars 43 = .ok (.aload_n 2, 1) := by decide +kernel
theorem d_IN_getChars_44 : decode b_IN_getChars 44 = .ok (.iinc 5 (-1), 3) := by decide +kernel
theorem d_IN_getChars_47 : decode b_IN_getChars 47 = .ok (.iload 5, 2) := by decide +kernel
theorem d_IN_getChars_49 : decode b_IN_getChars 49 = .ok (.getstatic 83, 3) := by decide +kernel
theorem d_IN_getChars_52 : decode b_IN_getChars 52 = .ok (.iload 4, 2) := by decide +kernel
theorem d_IN_getChars_54 : decode b_IN_getChars 54 = .ok (.baload, 1) := by decide +kernel
theorem d_IN_getChars_55 : decode b_IN_getChars 55 = .ok (.bastore, 1) := by decide +kernel
theorem d_IN_getChars_56 : decode b_IN_getChars 56 = .ok (.aload_n 2, 1) := by decide +kernel
theorem d_IN_getChars_57 : decode b_IN_getChars 57 = .ok (.iinc 5 (-1), 3) := by decide +kernel
theorem d_IN_getChars_60 : decode b_IN_getChars 60 = .ok (.iload 5, 2) := by decide +kernel
theorem d_IN_getChars_62 : decode b_IN_getChars 62 = .ok (.getstatic 87, 3) := by decide +kernel
theorem d_IN_getChars_65 : decode b_IN_getChars 65 = .ok (.iload 4, 2) := by decide +kernel
theorem d_IN_getChars_67 : decode b_IN_getChars 67 = .ok (.baload, 1) := by decide +kernel
theorem d_IN_getChars_68 : decode b_IN_getChars 68 = .ok (.bastore, 1) := by decide +kernel
theorem d_IN_getChars_69 : decode b_IN_getChars 69 = .ok (.goto (-47), 3) := by decide +kernel
theorem d_IN_getChars_72 : decode b_IN_getChars 72 = .ok (.aload_n 2, 1) := by decide +kernel
theorem d_IN_getChars_73 : decode b_IN_getChars 73 = .ok (.iinc 5 (-1), 3) := by decide +kernel
theorem d_IN_getChars_76 : decode b_IN_getChars 76 = .ok (.iload 5, 2) := by decide +kernel
theorem d_IN_getChars_78 : decode b_IN_getChars 78 = .ok (.getstatic 83, 3) := by decide +kernel
theorem d_IN_getChars_81 : decode b_IN_getChars 81 = .ok (.iload_n 0, 1) := by decide +kernel
theorem d_IN_getChars_82 : decode b_IN_getChars 82 = .ok (.ineg, 1) := by decide +kernel
theorem d_IN_getChars_83 : decode b_IN_getChars 83 = .ok (.baload, 1) := by decide +kernel
theorem d_IN_getChars_84 : decode b_IN_getChars 84 = .ok (.bastore, 1) := by decide +kernel
theorem d_IN_getChars_85 : decode b_IN_getChars 85 = .ok (.iload_n 0, 1) := by decide +kernel
theorem d_IN_getChars_86 : decode b_IN_getChars 86 = .ok (.bipush (-9), 2) := by decide +kernel
theorem d_IN_getChars_88 : decode b_IN_getChars 88 = .ok (.if_icmp .ge 16, 3) := by decide +kernel
theorem d_IN_getChars_91 : decode b_IN_getChars 91 = .ok (.aload_n 2, 1) := by decide +kernel
theorem d_IN_getChars_92 : decode b_IN_getChars 92 = .ok (.iinc 5 (-1), 3) := by decide +kernel
theorem d_IN_getChars_95 : decode b_IN_getChars 95 = .ok (.iload 5, 2) := by decide +kernel
theorem d_IN_getChars_97 : decode b_IN_getChars 97 = .ok (.getstatic 87, 3) := by decide +kernel
theorem d_IN_getChars_100 : decode b_IN_getChars 100 = .ok (.iload_n 0, 1) := by decide +kernel
theorem d_IN_getChars_101 : decode b_IN_getChars 101 = .ok (.ineg, 1) := by decide +kernel
theorem d_IN_getChars_102 : decode b_IN_getChars 102 = .ok (.baload, 1) := by decide +kernel
theorem d_IN_getChars_103 : decode b_IN_getChars 103 = .ok (.bastore, 1) := by decide +kernel
theorem d_IN_getChars_104 : decode b_IN_getChars 104 = .ok (.iload 6, 2) := by decide +kernel
theorem d_IN_getChars_106 : decode b_IN_getChars 106 = .ok (.ifCond .eq 12, 3) := by decide +kernel
theorem d_IN_getChars_109 : decode b_IN_getChars 109 = .ok (.aload_n 2, 1) := by decide +kernel
theorem d_IN_getChars_110 : decode b_IN_getChars 110 = .ok (.iinc 5 (-1), 3) := by decide +kernel
theorem d_IN_getChars_113 : decode b_IN_getChars 113 = .ok (.iload 5, 2) := by decide +kernel
theorem d_IN_getChars_115 : decode b_IN_getChars 115 = .ok (.bipush 45, 2) := by decide +kernel
theorem d_IN_getChars_117 : decode b_IN_getChars 117 = .ok (.bastore, 1) := by decide +kernel
theorem d_IN_getChars_118 : decode b_IN_getChars 118 = .ok (.iload 5, 2) := by decide +kernel
theorem d_IN_getChars_120 : decode b_IN_getChars 120 = .ok (.ireturn, 1) := by decide +kernel
theorem d_ST_checkBoundsBeginEnd_0 : decode b_ST_checkBoundsBeginEnd 0 = .ok (.iload_n 0, 1) := by decide +kernel
theorem d_ST_checkBoundsBeginEnd_1 : decode b_ST_checkBoundsBeginEnd 1 = .ok (.iload_n 1, 1) := by decide +kernel
theorem d_ST_checkBoundsBeginEnd_2 : decode b_ST_checkBoundsBeginEnd 2 = .ok (.iload_n 2, 1) := by decide +kernel
theorem d_ST_checkBoundsBeginEnd_3 : decode b_ST_checkBoundsBeginEnd 3 = .ok (.getstatic 1053, 3) := by decide +kernel
theorem d_ST_checkBoundsBeginEnd_6 : decode b_ST_checkBoundsBeginEnd 6 = .ok (.invokestatic 1062, 3) := by decide +kernel
theorem d_ST_checkBoundsBeginEnd_9 : decode b_ST_checkBoundsBeginEnd 9 = .ok (.pop, 1) := by decide +kernel
theorem d_ST_checkBoundsBeginEnd_10 : decode b_ST_checkBoundsBeginEnd 10 = .ok (.return_, 1) := by decide +kernel
theorem d_PR_checkFromToIndex_0 : decode b_PR_checkFromToIndex 0 = .ok (.iload_n 0, 1) := by decide +kernel
theorem d_PR_checkFromToIndex_1 : decode b_PR_checkFromToIndex 1 = .ok (.ifCond .lt 13, 3) := by decide +kernel
theorem d_PR_checkFromToIndex_4 : decode b_PR_checkFromToIndex 4 = .ok (.iload_n 0, 1) := by decide +kernel
theorem d_PR_checkFromToIndex_5 : decode b_PR_checkFromToIndex 5 = .ok (.iload_n 1, 1) := by decide +kernel
theorem d_PR_checkFromToIndex_6 : decode b_PR_checkFromToIndex 6 = .ok (.if_icmp .gt 8, 3) := by decide +kernel
theorem d_PR_checkFromToIndex_9 : decode b_PR_checkFromToIndex 9 = .ok (.iload_n 1, 1) := by decide +kernel
theorem d_PR_checkFromToIndex_10 : decode b_PR_checkFromToIndex 10 = .ok (.iload_n 2, 1) := by decide +kernel
theorem d_PR_checkFromToIndex_11 : decode b_PR_checkFromToIndex 11 = .ok (.if_icmp .le 11, 3) := by decide +kernel
theorem d_PR_checkFromToIndex_14 : decode b_PR_checkFromToIndex 14 = .ok (.aload_n 3, 1) := by decide +kernel
theorem d_PR_checkFromToIndex_15 : decode b_PR_checkFromToIndex 15 = .ok (.iload_n 0, 1) := by decide +kernel
theorem d_PR_checkFromToIndex_16 : decode b_PR_checkFromToIndex 16 = .ok (.iload_n 1, 1) := by decide +kernel
theorem d_PR_checkFromToIndex_17 : decode b_PR_checkFromToIndex 17 = .ok (.iload_n 2, 1) := by decide +kernel
theorem d_PR_checkFromToIndex_18 : decode b_PR_checkFromToIndex 18 = .ok (.invokestatic 99, 3) := by decide +kernel
theorem d_PR_checkFromToIndex_21 : decode b_PR_checkFromToIndex 21 = .ok (.athrow, 1) := by decide +kernel
theorem d_PR_checkFromToIndex_22 : decode b_PR_checkFromToIndex 22 = .ok (.iload_n 0, 1) := by decide +kernel
theorem d_PR_checkFromToIndex_23 : decode b_PR_checkFromToIndex 23 = .ok (.ireturn, 1) := by decide +kernel
theorem d_MA_min2_0 : decode b_MA_min2 0 = .ok (.lload_n 0, 1) := by decide +kernel
theorem d_MA_min2_1 : decode b_MA_min2 1 = .ok (.lload_n 2, 1) := by decide +kernel
theorem d_MA_min2_2 : decode b_MA_min2 2 = .ok (.lcmp, 1) := by decide +kernel
theorem d_MA_min2_3 : decode b_MA_min2 3 = .ok (.ifCond .gt 7, 3) := by decide +kernel
theorem d_MA_min2_6 : decode b_MA_min2 6 = .ok (.lload_n 0, 1) := by decide +kernel
theorem d_MA_min2_7 : decode b_MA_min2 7 = .ok (.goto 4, 3) := by decide +kernel
theorem d_MA_min2_10 : decode b_MA_min2 10 = .ok (.lload_n 2, 1) := by decide +kernel
theorem d_MA_min2_11 : decode b_MA_min2 11 = .ok (.lreturn, 1) := by decide +kernel
theorem d_MA_max2_0 : decode b_MA_max2 0 = .ok (.lload_n 0, 1) := by decide +kernel
theorem d_MA_max2_1 : decode b_MA_max2 1 = .ok (.lload_n 2, 1) := by decide +kernel
theorem d_MA_max2_2 : decode b_MA_max2 2 = .ok (.lcmp, 1) := by decide +kernel
theorem d_MA_max2_3 : decode b_MA_max2 3 = .ok (.ifCond .lt 7, 3) := by decide +kernel
theorem d_MA_max2_6 : decode b_MA_max2 6 = .ok (.lload_n 0, 1) := by decide +kernel
theorem d_MA_max2_7 : decode b_MA_max2 7 = .ok (.goto 4, 3) := by decide +kernel
theorem d_MA_max2_10 : decode b_MA_max2 10 = .ok (.lload_n 2, 1) := by decide +kernel
theorem d_MA_max2_11 : decode b_MA_max2 11 = .ok (.lreturn, 1) := by decide +kernel
end
section
/-! THE HEAP AS A FUNCTION: an address has a role, an owner and contents. Two cells of different roles (or owners) are apart: no lists of places. Role 0: cells that nobody writes. -/
abbrev fC : Type := Nat × Nat × va_E
abbrev fH : Type := Nat → Option fC
def fU (h : fH) (a : Nat) (c : fC) : fH := fun q => if q = a then some c else h q
theorem fU_self (h : fH) (a : Nat) (c : fC) : fU h a c a = some c := by simp [fU]
theorem fU_ne (h : fH) {a q : Nat} (c : fC) (hq : q ≠ a) : fU h a c q = h q := by simp [fU, hq]
theorem fU_uu (h : fH) (a : Nat) (c d : fC) : fU (fU h a c) a d = fU h a d := by
  funext q
  by_cases hq : q = a
  · subst hq; simp [fU]
  · simp [fU, hq]
/-- an array's place, as a value -/
def fEl (x : (Nat → Int32) ⊕ (Nat → Int64) ⊕ (Nat → UInt32) ⊕ (Nat → UInt64) ⊕ (Nat → Option Nat)) (j : Nat) : Value := match x with
  | .inl f => .int (f j)
  | .inr (.inl f) => .long (f j)
  | .inr (.inr (.inl f)) => .float (f j)
  | .inr (.inr (.inr (.inl f))) => .double (f j)
  | .inr (.inr (.inr (.inr f))) => va_rf (f j)
theorem fEl_cell (cA : ClassId) (x : vp_A) : vp_cell cA x = arrV cA x.1 (fEl x.2) := by
  obtain ⟨n, f | f | f | f | f⟩ := x <;> rfl
/-- a cell as it can be read -/
def fW (D : va_G) (cl : List vw_C) (a : Nat) (e : va_E) (H : Heap) : Prop := match e with
  | .inl x => ∃ cell : Cell, H[a]? = some cell ∧ cell.cls = x.1 ∧ cell.vm ≠ .unknown ∧ (∀ k, cell.vm ≠ .statics k) ∧ x.2.1 ≤ cell.slots.size ∧ cell.slots.size.toInt32 = Int32.ofNat x.2.1 ∧ ∀ j : Nat, j < x.2.1 → cell.slots[j]? = some (fEl x.2.2 j)
  | .inr o => ∃ (r : vw_C) (cell : Cell), cl[o.1]? = some r ∧ H[a]? = some cell ∧ cell.cls = D.1 o.1 ∧ cell.vm ≠ .unknown ∧ cell.vm.isStatics = false ∧ ∀ k, k < r.2.2 → cell.slots[D.2 o.1 k]? = some (vp_V o.2 k)
theorem fW.of {D : va_G} {cl : List vw_C} {a : Nat} {e : va_E} {H : Heap} (h : va_at D cl (a, e) H) : fW D cl a e H := by
  cases e with
  | inl x =>
    have h' : H[a]? = some (vp_cell x.1 x.2) := h
    rw [fEl_cell] at h'
    refine ⟨_, h', rfl, (fun q => by cases q), (fun k q => by cases q), ?_, ?_, fun j hj => arrV_read _ _ hj⟩
    · rw [arrV_size]; exact Nat.le_refl _
    · rw [arrV_size] <;> rfl
  | inr o =>
    obtain ⟨r, h1, cell, h2, h3, h4, h5⟩ := h
    exact ⟨r, cell, h1, h2, h3, (by rw [h4]; exact fun q => by cases q), (by rw [h4]; rfl), h5⟩
theorem fW.kept {D : va_G} {cl : List vw_C} {a : Nat} {e : va_E} {H H1 : Heap} (h : fW D cl a e H) (hq : H1[a]? = H[a]?) : fW D cl a e H1 := by
  cases e with
  | inl x =>
    obtain ⟨cell, h1, h2⟩ := h
    exact ⟨cell, by rw [hq]; exact h1, h2⟩
  | inr o =>
    obtain ⟨r, cell, h1, h2, h3⟩ := h
    exact ⟨r, cell, h1, by rw [hq]; exact h2, h3⟩
theorem fW.lt {D : va_G} {cl : List vw_C} {a : Nat} {e : va_E} {H : Heap} (h : fW D cl a e H) : a < H.size := by
  cases e with
  | inl x =>
    obtain ⟨cell, h1, h2⟩ := h
    exact (Array.getElem?_eq_some_iff.mp h1).1
  | inr o =>
    obtain ⟨r, cell, h1, h2, h3⟩ := h
    exact (Array.getElem?_eq_some_iff.mp h2).1
def fP (D : va_G) (cl : List vw_C) (h : fH) (H : Heap) : Prop := ∀ (a : Nat) (c : fC), h a = some c → fW D cl a c.2.2 H ∧ (c.1 ≠ 0 → va_at D cl (a, c.2.2) H)
theorem fP.lt {D : va_G} {cl : List vw_C} {h : fH} {H : Heap} (hP : fP D cl h H) {a : Nat} {c : fC} (ha : h a = some c) : a < H.size := (hP a c ha).1.lt
def fI (D : va_G) (cl : List vw_C) (A : Nat → Prop) (H0 : Heap) (h : fH) (H : Heap) (locs : List Loc) : Prop := fP D cl h H ∧ (∀ (a : Nat) (c : fC), h a = some c → c.1 ≠ 0 → A a) ∧ (∀ q, H0.size ≤ q → A q) ∧ va_S A H0 H locs
theorem fI.set {D : va_G} {cl : List vw_C} {A : Nat → Prop} {H0 H H1 : Heap} {h : fH} {locs : List Loc} {a i r o : Nat} {e0 e : va_E} (hI : fI D cl A H0 h H locs) (ha : h a = some (r, o, e0)) (hr : r ≠ 0) (he : va_at D cl (a, e) H1) (z : H1.size = H.size) (oq : ∀ q : Nat, q ≠ a → H1[q]? = H[q]?) : fI D cl A H0 (fU h a (r, o, e)) H1 (locs ++ [⟨a, i⟩]) := by
  obtain ⟨hP, hA, hN, hS⟩ := hI
  refine ⟨fun q c hq => ?_, fun q c hq hc => ?_, hN, hS.put z oq (hA a _ ha hr)⟩
  · by_cases hqa : q = a
    · subst hqa
      rw [fU_self] at hq
      cases hq
      exact ⟨fW.of he, fun _ => he⟩
    · rw [fU_ne _ _ hqa] at hq
      exact ⟨(hP q c hq).1.kept (oq q hqa), fun hc => ((hP q c hq).2 hc).kept (oq q hqa)⟩
  · by_cases hqa : q = a
    · subst hqa
      exact hA q _ ha hr
    · rw [fU_ne _ _ hqa] at hq
      exact hA q c hq hc
theorem fI.new {D : va_G} {cl : List vw_C} {A : Nat → Prop} {H0 H H1 : Heap} {h : fH} {locs : List Loc} {e : va_E} (r o : Nat) (hI : fI D cl A H0 h H locs) (he : va_at D cl (H.size, e) H1) (z : H1.size = H.size + 1) (oq : ∀ q : Nat, q < H.size → H1[q]? = H[q]?) : fI D cl A H0 (fU h H.size (r, o, e)) H1 locs := by
  obtain ⟨hP, hA, hN, hS⟩ := hI
  refine ⟨fun q c hq => ?_, fun q c hq hc => ?_, hN, ⟨Nat.le_trans hS.1 (by omega), fun x h1 h2 => (oq x (Nat.lt_of_lt_of_le h1 hS.1)).trans (hS.2.1 x h1 h2), hS.2.2⟩⟩
  · by_cases hqa : q = H.size
    · subst hqa
      rw [fU_self] at hq
      cases hq
      exact ⟨fW.of he, fun _ => he⟩
    · rw [fU_ne _ _ hqa] at hq
      have hl := hP.lt hq
      exact ⟨(hP q c hq).1.kept (oq q hl), fun hc => ((hP q c hq).2 hc).kept (oq q hl)⟩
  · by_cases hqa : q = H.size
    · subst hqa
      exact hN _ hS.1
    · rw [fU_ne _ _ hqa] at hq
      exact hA q c hq hc
theorem fI.none {D : va_G} {cl : List vw_C} {A : Nat → Prop} {H0 H : Heap} {h : fH} {locs : List Loc} (hI : fI D cl A H0 h H locs) : h H.size = none := by
  cases hq : h H.size with
  | none => rfl
  | some c => exact absurd (hI.1.lt hq) (Nat.lt_irrefl _)
theorem fI.lt {D : va_G} {cl : List vw_C} {A : Nat → Prop} {H0 H : Heap} {h : fH} {locs : List Loc} (hI : fI D cl A H0 h H locs) {a : Nat} {c : fC} (ha : h a = some c) : a < H.size := hI.1.lt ha
/-- two cells that tell apart are apart -/
theorem f_ne {h : fH} {a b : Nat} {x y : fC} (ha : h a = some x) (hb : h b = some y) (hne : x ≠ y) : a ≠ b := fun q => hne (Option.some.inj (ha.symm.trans (by rw [q]; exact hb)))
theorem f_neR {h : fH} {a b r o r2 o2 : Nat} {x y : va_E} (ha : h a = some (r, o, x)) (hb : h b = some (r2, o2, y)) (hne : r ≠ r2) : a ≠ b := f_ne ha hb (fun q => hne (by cases q; rfl))
theorem f_neO {h : fH} {a b r o r2 o2 : Nat} {x y : va_E} (ha : h a = some (r, o, x)) (hb : h b = some (r2, o2, y)) (hne : o ≠ o2) : a ≠ b := f_ne ha hb (fun q => hne (by cases q; rfl))
theorem f_neN {h : fH} {a b : Nat} {x : fC} (ha : h a = some x) (hb : h b = none) : a ≠ b := fun q => by rw [q, hb] at ha; cases ha
theorem fU_keep {h : fH} {a q : Nat} {c x : fC} (hq : h q = some x) (hne : q ≠ a) : fU h a c q = some x := by rw [fU_ne _ _ hne]; exact hq
/-- what a method leaves behind: old cells stay in their roles, new ones are new -/
def fA (h : fH) (sz : Nat) : Nat → Prop := fun q => (∃ c : fC, h q = some c ∧ c.1 ≠ 0) ∨ sz ≤ q
def fX (h : fH) (sz : Nat) (h' : fH) : Prop := (∀ (a o : Nat) (e : va_E), h a = some (0, o, e) → h' a = some (0, o, e)) ∧ ∀ (a : Nat) (c : fC), h' a = some c → c.1 ≠ 0 → (∃ c' : fC, h a = some c' ∧ c'.1 ≠ 0) ∨ sz ≤ a
theorem fX.rf {h : fH} {sz : Nat} : fX h sz h := ⟨fun _ _ _ h => h, fun a c ha hc => Or.inl ⟨c, ha, hc⟩⟩
theorem fX.tr {h h1 h2 : fH} {sz sz1 : Nat} (hz : sz ≤ sz1) (x : fX h sz h1) (y : fX h1 sz1 h2) : fX h sz h2 := by
  refine ⟨fun a o e ha => y.1 a o e (x.1 a o e ha), fun a c ha hc => ?_⟩
  rcases y.2 a c ha hc with ⟨c1, q1, q2⟩ | q
  · exact x.2 a c1 q1 q2
  · exact Or.inr (Nat.le_trans hz q)
theorem fX.set {h h1 : fH} {sz a r o : Nat} {e0 e : va_E} (x : fX h sz h1) (ha : h1 a = some (r, o, e0)) (hr : r ≠ 0) : fX h sz (fU h1 a (r, o, e)) := by
  refine ⟨fun q o2 e2 hq => ?_, fun q c hq hc => ?_⟩
  · have h2 := x.1 _ _ _ hq
    exact fU_keep h2 (f_neR h2 ha (fun z => hr z.symm))
  · by_cases hqa : q = a
    · subst hqa
      exact x.2 _ _ ha hr
    · rw [fU_ne _ _ hqa] at hq
      exact x.2 _ _ hq hc
theorem fX.new {h h1 : fH} {sz a r o : Nat} {e : va_E} (x : fX h sz h1) (ha : h1 a = none) (hz : sz ≤ a) : fX h sz (fU h1 a (r, o, e)) := by
  refine ⟨fun q o2 e2 hq => ?_, fun q c hq hc => ?_⟩
  · have h2 := x.1 _ _ _ hq
    exact fU_keep h2 (f_neN h2 ha)
  · by_cases hqa : q = a
    · exact Or.inr (by omega)
    · rw [fU_ne _ _ hqa] at hq
      exact x.2 _ _ hq hc
/-- cells may be forgotten, and given other roles -/
def fV (h h' : fH) : Prop := (∀ (a : Nat) (c' : fC), h' a = some c' → ∃ c : fC, h a = some c ∧ c.2.2 = c'.2.2 ∧ (c.1 = 0 ↔ c'.1 = 0)) ∧ ∀ (a o : Nat) (e : va_E), h a = some (0, o, e) → h' a = some (0, o, e)
theorem fI.view {D : va_G} {cl : List vw_C} {A : Nat → Prop} {H0 H : Heap} {h h' : fH} {locs : List Loc} (hI : fI D cl A H0 h H locs) (v : fV h h') : fI D cl A H0 h' H locs := by
  obtain ⟨hP, hA, hN, hS⟩ := hI
  refine ⟨fun a c' ha => ?_, fun a c' ha hc => ?_, hN, hS⟩
  · obtain ⟨c, h1, h2, h3⟩ := v.1 a c' ha
    rw [← h2]
    exact ⟨(hP a c h1).1, fun hc => (hP a c h1).2 (fun z => hc (h3.mp z))⟩
  · obtain ⟨c, h1, h2, h3⟩ := v.1 a c' ha
    exact hA a c h1 (fun z => hc (h3.mp z))
theorem fX.view {h h1 h2 : fH} {sz : Nat} (x : fX h sz h1) (v : fV h1 h2) : fX h sz h2 := by
  refine ⟨fun a o e ha => v.2 a o e (x.1 a o e ha), fun a c ha hc => ?_⟩
  obtain ⟨c1, q1, q2, q3⟩ := v.1 a c ha
  exact x.2 a c1 q1 (fun z => hc (q3.mp z))
/-- cells whose role and owner are not in S stay as they are -/
def fF (S : Nat → Nat → Prop) (h h' : fH) : Prop := ∀ (a r o : Nat) (e : va_E), h a = some (r, o, e) → ¬ S r o → h' a = some (r, o, e)
abbrev inR (L : List Nat) : Nat → Nat → Prop := fun r _ => r ∈ L
abbrev inO (L : List Nat) (o0 : Nat) : Nat → Nat → Prop := fun r o => r ∈ L ∧ o = o0
theorem fF.rf {S : Nat → Nat → Prop} {h : fH} : fF S h h := fun _ _ _ _ ha _ => ha
theorem fF.tr {S : Nat → Nat → Prop} {h h1 h2 : fH} (x : fF S h h1) (y : fF S h1 h2) : fF S h h2 := fun a r o e ha hr => y a r o e (x a r o e ha hr) hr
theorem fF.mono {S S' : Nat → Nat → Prop} {h h1 : fH} (x : fF S h h1) (hs : ∀ r o, S r o → S' r o) : fF S' h h1 := fun a r o e ha hr => x a r o e ha (fun q => hr (hs r o q))
theorem fF.set {S : Nat → Nat → Prop} {h h1 : fH} {a r o : Nat} {e0 e : va_E} (x : fF S h h1) (ha : h1 a = some (r, o, e0)) (hr : S r o) : fF S h (fU h1 a (r, o, e)) := by
  intro q r2 o2 e2 hq hr2
  have h2 := x q r2 o2 e2 hq hr2
  exact fU_keep h2 (f_ne h2 ha (fun z => by cases z; exact hr2 hr))
theorem fF.new {S : Nat → Nat → Prop} {h h1 : fH} {a : Nat} {c : fC} (x : fF S h h1) (ha : h1 a = none) : fF S h (fU h1 a c) := by
  intro q r2 o2 e2 hq hr2
  have h2 := x q r2 o2 e2 hq hr2
  exact fU_keep h2 (f_neN h2 ha)
/-- an object of many fields, as a function of their places -/
def mo (mf : Nat → Value) : List Value := (List.range 40).map mf
theorem mo_get {mf : Nat → Value} {k : Nat} {v : Value} (hk : k < 40) (h : mf k = v) : (mo mf)[k]? = some v := by
  simp [mo, hk, h]
theorem mo_len (mf : Nat → Value) : (mo mf).length = 40 := by simp [mo]
theorem mo_set {mf : Nat → Value} {k : Nat} (v : Value) : (mo mf).set k v = mo (va_up mf k v) := by
  apply List.ext_getElem?
  intro j
  by_cases hj : j < 40
  · by_cases hjk : k = j
    · subst hjk
      rw [List.getElem?_set_self (by rw [mo_len]; exact hj), mo_get hj (va_up_self mf k v)]
    · rw [List.getElem?_set_ne hjk, mo_get hj rfl, mo_get hj (va_up_ne mf v (Ne.symm hjk))]
  · rw [List.getElem?_eq_none (by rw [List.length_set, mo_len]; omega), List.getElem?_eq_none (by rw [mo_len]; omega)]
/-- an array class by its number -/
def fT (U : State) (cA : ClassId) (ty : FieldType) : Prop := ∃ k, U.vm.classes[cA]? = some k ∧ ∃ comp, k.kind = .array comp ty
theorem fT.moved {u U : State} (hvm : u.vm.Alike U.vm) {cA : ClassId} {ty : FieldType} (h : fT u cA ty) : fT U cA ty := by
  obtain ⟨k, h1, comp, h2⟩ := h
  obtain ⟨k', hk', he⟩ := hvm.2.2 _ _ h1
  exact ⟨k', hk', comp, by rw [he]; exact h2⟩
theorem fT.ofK {D : va_G} {cl : List vw_C} {tys : List (ClassId × FieldType)} {U : State} (hK : va_K D cl tys U) {t0 : Nat} {cA : ClassId} {ty : FieldType} (ht : tys[t0]? = some (cA, ty)) : fT U cA ty := ((hK.2 t0 _ ht).1 0 (fun _ => .null)).2
theorem fT.arr {U : State} {cA : ClassId} {ty : FieldType} (h : fT U cA ty) {cell : Cell} (hc : cell.cls = cA) (hs : ∀ k, cell.vm ≠ .statics k) : U.isArrayOf cell ty := ⟨hs, by rw [hc]; exact h⟩
section FR
variable {p : Program} {l : Launch} {e : Env} {R : Room} {s : State} {m : MethodId} {args : Array Value} {below : List Frame} {meth : Method} {c : Code} {H : Heap} {locs : List Loc} {cells slots : Nat} {Q : State → Prop}
variable {cc : ByteArray} {pc : Nat} {ls : Array Slot} {rest : List Value} {D : va_G} {cl : List vw_C} {A : Nat → Prop} {a r o : Nat} {tys : List (ClassId × FieldType)} {h : fH} {H0 : Heap}
theorem f_get (hexec : p.tables.exec = Jvm.exec) (hb : c.code = cc) {own ref C : String} {T : u_T} {N ci index : Nat} (hts : ∀ w ∈ u_ws C T N, w.before args s = true) (hown : s.vm.findClass own = some m.cls) (hK : va_K D cl tys s) (hI : fI D cl A H0 h H locs) {fs : List Value} (he : h a = some (r, o, .inr (ci, fs))) (hc : cl[ci]? = some (C, T, N)) (k : Nat) (hk : k < N) (hlink : (Cond.fieldLink own index ref (T k).2.1 (T k).2.2.1).before args s = true) (hsame : ∀ x, s.fieldFound? (T k).1 (T k).2.1 (T k).2.2.1 = some x → s.fieldFound? ref (T k).2.1 (T k).2.2.1 = some x) {v : Value} (hv : fs[k]? = some v) (hdg : decode cc pc = .ok (.getfield index, 3))
    (kk : W p l e R s m args below meth c H locs cells slots Q (F0 m (pc + 3) ls (v :: rest))) : W p l e R s m args below meth c H locs cells slots Q (F0 m pc ls (.ref a :: rest)) := by
  obtain ⟨r', cell, h1, q1, q2, q3, q5, q4⟩ := (hI.1 a _ he).1
  have hr : r' = (C, T, N) := Option.some.inj (h1.symm.trans hc)
  subst hr
  obtain ⟨hS, hfc, kC, hkC, hkind⟩ := hK.1 ci _ hc
  obtain ⟨cf, kf, fi, f, hi, hsl⟩ := hS k hk
  refine W.getf hexec hb hown hlink (hsame _ hi) (u_facts hfc hkC (u_lays hts (fun _ h => h) hk) hi).1 q1 q3 (v := v) ?_ rfl rfl hdg kk
  rw [hsl, q4 k hk]
  simp [vp_V, hv]
theorem f_getN (hexec : p.tables.exec = Jvm.exec) (hb : c.code = cc) {own ref C host : String} {T : u_T} {N ci index : Nat} (hts : ∀ w ∈ u_ws C T N, w.before args s = true) (hown : s.vm.findClass own = some m.cls) (hK : va_K D cl tys s) (hI : fI D cl A H0 h H locs) {fs : List Value} (he : h a = some (r, o, .inr (ci, fs))) (hc : cl[ci]? = some (C, T, N)) (k : Nat) (hk : k < N) (hlink : va_Nw (.fieldLinkNest own index ref (T k).2.1 (T k).2.2.1 host) s) (hsame : ∀ x, s.fieldFound? (T k).1 (T k).2.1 (T k).2.2.1 = some x → s.fieldFound? ref (T k).2.1 (T k).2.2.1 = some x) {v : Value} (hv : fs[k]? = some v) (hdg : decode cc pc = .ok (.getfield index, 3))
    (kk : W p l e R s m args below meth c H locs cells slots Q (F0 m (pc + 3) ls (v :: rest))) : W p l e R s m args below meth c H locs cells slots Q (F0 m pc ls (.ref a :: rest)) := by
  obtain ⟨r', cell, h1, q1, q2, q3, q5, q4⟩ := (hI.1 a _ he).1
  have hr : r' = (C, T, N) := Option.some.inj (h1.symm.trans hc)
  subst hr
  obtain ⟨hS, hfc, kC, hkC, hkind⟩ := hK.1 ci _ hc
  obtain ⟨cf, kf, fi, f, hi, hsl⟩ := hS k hk
  refine va_Wgetf hexec hb hown (va_Nw.use rfl hlink) (hsame _ hi) (u_facts hfc hkC (u_lays hts (fun _ h => h) hk) hi).1 q1 q3 (v := v) ?_ rfl rfl hdg kk
  rw [hsl, q4 k hk]
  simp [vp_V, hv]
theorem f_put (hexec : p.tables.exec = Jvm.exec) (hb : c.code = cc) {own ref C : String} {T : u_T} {N ci index : Nat} (hts : ∀ w ∈ u_ws C T N, w.before args s = true) (ty0 : Nat → FieldType) (hty : ∀ k, k < N → parseFieldDescriptor (T k).2.2.1 = some (ty0 k)) (hnm : ∀ a, a < N → ∀ b, b < N → a ≠ b → (T a).2.1 ≠ (T b).2.1) (hown : s.vm.findClass own = some m.cls) (hK : va_K D cl tys s) (hI : fI D cl A H0 h H locs) {fs : List Value} (he : h a = some (r, o, .inr (ci, fs))) (hr0 : r ≠ 0) (hc : cl[ci]? = some (C, T, N)) (k : Nat) (hk : k < N) (hlink : (Cond.fieldLink own index ref (T k).2.1 (T k).2.2.1).before args s = true) (hsame : ∀ x, s.fieldFound? (T k).1 (T k).2.1 (T k).2.2.1 = some x → s.fieldFound? ref (T k).2.1 (T k).2.2.1 = some x) (hfin : (T k).2.2.2 = false) {v : Value} (hn : narrow (ty0 k) v = v) (hfit : fits (ty0 k) v = true) (hl : k < fs.length) {fs' : List Value} (hfs : fs.set k v = fs')
    (hdg : decode cc pc = .ok (.putfield index, 3)) (kk : ∀ (H : Heap) (locs : List Loc), fI D cl A H0 (fU h a (r, o, .inr (ci, fs'))) H locs → W p l e R s m args below meth c H locs cells slots Q (F0 m (pc + 3) ls rest)) : W p l e R s m args below meth c H locs cells slots Q (F0 m pc ls (v :: .ref a :: rest)) := by
  subst hfs
  have hap := va_apart (own := own) hts (fun _ h => h) ty0 hty hnm hK hc
  obtain ⟨r', h1, cell, q1, q2, q3, q4⟩ := (hI.1 a _ he).2 hr0
  have hr : r' = (C, T, N) := Option.some.inj (h1.symm.trans hc)
  subst hr
  obtain ⟨hS, hfc, kC, hkC, hkind⟩ := hK.1 ci _ hc
  obtain ⟨cf, kf, fi, f, hi, hsl⟩ := hS k hk
  have hlay := hts _ (u_in_lay hk)
  unfold u_lay at hlay
  rw [if_neg (by rw [hfin]; decide)] at hlay
  have hst := (u_facts hfc hkC (u_lays hts (fun _ h => h) hk) hi).1
  have h6 := u_store hfc hkC hkind hlay hi (hty k hk) hn hfit
  refine W.putK hexec hb (f := f) ⟨hown, hlink, ⟨_, _, _, hsame _ hi⟩, hst⟩ (by rw [q2]; exact h6) q1 q3 (by rw [hsl]; exact k2_hasslot (q4 k hk)) rfl rfl hdg fun H' e1 e2 e3 => ?_
  rw [hsl] at e1 ⊢
  exact kk H' _ (hI.set he hr0 ⟨_, hc, t_OB.to (V := updV (vp_V fs) k v) ⟨_, e1, q2, q3, t_set q4 hap hk v⟩ (fun j _ => vp_updV_set hl v j)⟩ e2 e3)
theorem f_putN (hexec : p.tables.exec = Jvm.exec) (hb : c.code = cc) {own ref C host : String} {T : u_T} {N ci index : Nat} (hts : ∀ w ∈ u_ws C T N, w.before args s = true) (ty0 : Nat → FieldType) (hty : ∀ k, k < N → parseFieldDescriptor (T k).2.2.1 = some (ty0 k)) (hnm : ∀ a, a < N → ∀ b, b < N → a ≠ b → (T a).2.1 ≠ (T b).2.1) (hown : s.vm.findClass own = some m.cls) (hK : va_K D cl tys s) (hI : fI D cl A H0 h H locs) {fs : List Value} (he : h a = some (r, o, .inr (ci, fs))) (hr0 : r ≠ 0) (hc : cl[ci]? = some (C, T, N)) (k : Nat) (hk : k < N) (hlink : va_Nw (.fieldLinkNest own index ref (T k).2.1 (T k).2.2.1 host) s) (hsame : ∀ x, s.fieldFound? (T k).1 (T k).2.1 (T k).2.2.1 = some x → s.fieldFound? ref (T k).2.1 (T k).2.2.1 = some x) (hfin : (T k).2.2.2 = false) {v : Value} (hn : narrow (ty0 k) v = v) (hfit : fits (ty0 k) v = true) (hl : k < fs.length) {fs' : List Value} (hfs : fs.set k v = fs')
    (hdg : decode cc pc = .ok (.putfield index, 3)) (kk : ∀ (H : Heap) (locs : List Loc), fI D cl A H0 (fU h a (r, o, .inr (ci, fs'))) H locs → W p l e R s m args below meth c H locs cells slots Q (F0 m (pc + 3) ls rest)) : W p l e R s m args below meth c H locs cells slots Q (F0 m pc ls (v :: .ref a :: rest)) := by
  subst hfs
  have hap := va_apart (own := own) hts (fun _ h => h) ty0 hty hnm hK hc
  obtain ⟨r', h1, cell, q1, q2, q3, q4⟩ := (hI.1 a _ he).2 hr0
  have hr : r' = (C, T, N) := Option.some.inj (h1.symm.trans hc)
  subst hr
  obtain ⟨hS, hfc, kC, hkC, hkind⟩ := hK.1 ci _ hc
  obtain ⟨cf, kf, fi, f, hi, hsl⟩ := hS k hk
  have hlay := hts _ (u_in_lay hk)
  unfold u_lay at hlay
  rw [if_neg (by rw [hfin]; decide)] at hlay
  have hst := (u_facts hfc hkC (u_lays hts (fun _ h => h) hk) hi).1
  have h6 := u_store hfc hkC hkind hlay hi (hty k hk) hn hfit
  refine va_WputK hexec hb (f := f) hown (va_Nw.use rfl hlink) (hsame _ hi) hst (by rw [q2]; exact h6) q1 q3 (by rw [hsl]; exact k2_hasslot (q4 k hk)) rfl rfl hdg fun H' e1 e2 e3 => ?_
  rw [hsl] at e1 ⊢
  exact kk H' _ (hI.set he hr0 ⟨_, hc, t_OB.to (V := updV (vp_V fs) k v) ⟨_, e1, q2, q3, t_set q4 hap hk v⟩ (fun j _ => vp_updV_set hl v j)⟩ e2 e3)
theorem f_putF (hexec : p.tables.exec = Jvm.exec) (hb : c.code = cc) {own ref C : String} {T : u_T} {N ci index : Nat} (hts : ∀ w ∈ u_ws C T N, w.before args s = true) (ty0 : Nat → FieldType) (hty : ∀ k, k < N → parseFieldDescriptor (T k).2.2.1 = some (ty0 k)) (hnm : ∀ a, a < N → ∀ b, b < N → a ≠ b → (T a).2.1 ≠ (T b).2.1) (hown : s.vm.findClass own = some m.cls) (hK : va_K D cl tys s) (hI : fI D cl A H0 h H locs) {fs : List Value} (he : h a = some (r, o, .inr (ci, fs))) (hr0 : r ≠ 0) (hc : cl[ci]? = some (C, T, N)) (k : Nat) (hk : k < N) (hlink : (Cond.fieldLink own index ref (T k).2.1 (T k).2.2.1).before args s = true) (hsame : ∀ x, s.fieldFound? (T k).1 (T k).2.1 (T k).2.2.1 = some x → s.fieldFound? ref (T k).2.1 (T k).2.2.1 = some x) (hfin : (T k).2.2.2 = true) (hin2 : meth.name = "<init>") (hdecl : (T k).1 = own) {v : Value} (hn : narrow (ty0 k) v = v) (hfit : fits (ty0 k) v = true) (hl : k < fs.length) {fs' : List Value} (hfs : fs.set k v = fs')
    (hdg : decode cc pc = .ok (.putfield index, 3)) (kk : ∀ (H : Heap) (locs : List Loc), fI D cl A H0 (fU h a (r, o, .inr (ci, fs'))) H locs → W p l e R s m args below meth c H locs cells slots Q (F0 m (pc + 3) ls rest)) : W p l e R s m args below meth c H locs cells slots Q (F0 m pc ls (v :: .ref a :: rest)) := by
  subst hfs
  have hap := va_apart (own := own) hts (fun _ h => h) ty0 hty hnm hK hc
  obtain ⟨r', h1, cell, q1, q2, q3, q4⟩ := (hI.1 a _ he).2 hr0
  have hr : r' = (C, T, N) := Option.some.inj (h1.symm.trans hc)
  subst hr
  obtain ⟨hS, hfc, kC, hkC, hkind⟩ := hK.1 ci _ hc
  obtain ⟨cf, kf, fi, f, hi, hsl⟩ := hS k hk
  have hlay := hts _ (u_in_lay hk)
  unfold u_lay at hlay
  rw [if_pos hfin] at hlay
  have hst := (u_facts hfc hkC (u_lays hts (fun _ h => h) hk) hi).1
  have hcf : m.cls = cf := by
    obtain ⟨_, _, c', _, _, _, -, -, hf', -, -, -, hown2, -⟩ := Cond.laysFinal_spec hlay
    have e1 : c' = cf := by have := hi.symm.trans hf'; simp at this; exact this.1.symm
    rw [hdecl] at hown2
    rw [← e1]; exact Option.some.inj (hown.symm.trans hown2)
  have h6 := u_fits hfc hkC hkind (Or.inr hlay) hi (hty k hk) hn hfit
  refine W.putFinK hexec hb hown hlink (hsame _ hi) hst hcf hin2 (by rw [q2]; exact h6) q1 q3 (by rw [hsl]; exact k2_hasslot (q4 k hk)) rfl rfl hdg fun H' e1 e2 e3 => ?_
  rw [hsl] at e1 ⊢
  exact kk H' _ (hI.set he hr0 ⟨_, hc, t_OB.to (V := updV (vp_V fs) k v) ⟨_, e1, q2, q3, t_set q4 hap hk v⟩ (fun j _ => vp_updV_set hl v j)⟩ e2 e3)
theorem f_new {c0 : Code} (hexec : p.tables.exec = Jvm.exec) (hb : c0.code = cc) {own C : String} {T : u_T} {N ci index : Nat} (hts : ∀ w ∈ u_ws C T N, w.before args s = true) (ty : Nat → FieldType) (hty : ∀ k, k < N → parseFieldDescriptor (T k).2.2.1 = some (ty k)) (hown : s.vm.findClass own = some m.cls) (hcl : (Cond.classLink own index C).before args s = true) {N2 : Nat} (hinst : (Cond.instantiable C N2).before args s = true) (hini : (Cond.initialized C).before args s = true)
    (hK : va_K D cl tys s) (hI : fI D cl A H0 h H locs) (hc : cl[ci]? = some (C, T, N)) {fs : List Value} (hfs : ∀ j, j < N → defaultValue (ty j) = vp_V fs j) (r o : Nat) (hcells : cells + 1 ≤ R.cells) (hslots : slots + N2 ≤ R.slots) (hdg : decode cc pc = .ok (.new index, 3))
    (kk : ∀ (q : Nat) (H1 : Heap), q = H.size → H1.size = H.size + 1 → h q = none → fI D cl A H0 (fU h q (r, o, .inr (ci, fs))) H1 locs →
      W p l e R s m args below meth c0 H1 locs (cells + 1) (slots + N2) Q (F0 m (pc + 3) ls (.ref q :: rest))) : W p l e R s m args below meth c0 H locs cells slots Q (F0 m pc ls rest) := by
  have hKn := hK.1 ci _ hc
  refine W.newcK hexec hb hown hcl hinst hini rfl hdg hcells hslots hKn.2.1 rfl fun H1 kC hkC e1 z1 o1 => ?_
  exact kk H.size H1 rfl z1 hI.none (hI.new r o ⟨_, hc, (u_born ty hts (fun _ h => h) hKn hkC e1 hty).to hfs⟩ z1 o1)
theorem f_newa (hexec : p.tables.exec = Jvm.exec) (hb : c.code = cc) {atype : ArrayType} (harr : (Cond.arrayClass (newarray.typeOf atype)).before args s = true) {ty : FieldType} (hty : newarray.typeOf atype = ty) (hI : fI D cl A H0 h H locs) {cA : ClassId} (hcA : s.vm.findClass ("[" ++ ty.toString) = some cA)
    {n : Int32} {N' : Nat} {a0 : vp_A} (ha : vp_cell cA a0 = arrV cA N' (fun _ => defaultValue ty)) (hn : ¬ n < 0) (hN : n.toNatClampNeg = N') (hbytes : N' * componentBytes ty ≤ 536870912) (r o : Nat) (hcells : cells + 1 ≤ R.cells) (hslots : slots + N' ≤ R.slots) (hdg : decode cc pc = .ok (.newarray atype, 2))
    (kk : ∀ (q : Nat) (H1 : Heap), q = H.size → H1.size = H.size + 1 → h q = none → fI D cl A H0 (fU h q (r, o, .inl (cA, a0))) H1 locs →
      W p l e R s m args below meth c H1 locs (cells + 1) (slots + N') Q (F0 m (pc + 2) ls (.ref q :: rest))) : W p l e R s m args below meth c H locs cells slots Q (F0 m pc ls (.int n :: rest)) := by
  subst hty
  refine va_newaK hexec hb harr rfl hdg rfl hn hN hbytes hcells hslots rfl fun H1 cA' e1 z1 o1 hAr hNm => ?_
  have he : cA' = cA := Option.some.inj (hNm.symm.trans hcA)
  subst he
  refine kk H.size H1 rfl z1 hI.none (hI.new r o ?_ z1 o1)
  show H1[H.size]? = some (vp_cell _ _)
  rw [ha]
  exact e1
theorem f_newq (hexec : p.tables.exec = Jvm.exec) (hb : c.code = cc) {own C : String} {index : Nat} (hown : s.vm.findClass own = some m.cls) (hclink : (Cond.classLink own index C).before args s = true) (hover : va_AO C s) (hI : fI D cl A H0 h H locs) {cA : ClassId} (hcA : s.vm.findClass ("[" ++ (FieldType.object C).toString) = some cA)
    {n : Int32} {N' : Nat} (hn : ¬ n < 0) (hN : n.toNatClampNeg = N') (hbytes : N' * 4 ≤ 536870912) (r o : Nat) (hcells : cells + 1 ≤ R.cells) (hslots : slots + N' ≤ R.slots) (hdg : decode cc pc = .ok (.anewarray index, 3))
    (kk : ∀ (q : Nat) (H1 : Heap), q = H.size → H1.size = H.size + 1 → h q = none → fI D cl A H0 (fU h q (r, o, .inl (cA, N', .inr (.inr (.inr (.inr (fun _ => none))))))) H1 locs →
      W p l e R s m args below meth c H1 locs (cells + 1) (slots + N') Q (F0 m (pc + 3) ls (.ref q :: rest))) : W p l e R s m args below meth c H locs cells slots Q (F0 m pc ls (.int n :: rest)) := by
  subst hN
  refine W.anew hexec hb hown hclink (va_AO.use hover) rfl hdg rfl hn hbytes hcells hslots fun cA' kA comp f1 f2 f3 f4 => ?_
  have he : cA' = cA := Option.some.inj (f1.symm.trans hcA)
  subst he
  generalize hH1 : H.push ({ cls := cA', slots := Array.replicate n.toNatClampNeg .null, vm := .none } : Cell) = H1
  have z1 : H1.size = H.size + 1 := by rw [← hH1, Array.size_push]
  have e1 : H1[H.size]? = some (arrV cA' n.toNatClampNeg (fun _ => .null)) := by rw [← hH1, Array.getElem?_push_size, ← arrV_new]
  have o1 : ∀ q : Nat, q < H.size → H1[q]? = H[q]? := fun q hq => by rw [← hH1, Array.getElem?_push, if_neg (Nat.ne_of_lt hq)]
  refine kk H.size H1 rfl z1 hI.none (hI.new r o ?_ z1 o1)
  show H1[H.size]? = some (vp_cell _ _)
  rw [vp_cell_q]
  exact e1
theorem f_alen (hexec : p.tables.exec = Jvm.exec) (hb : c.code = cc) (hI : fI D cl A H0 h H locs) {cA : ClassId} {x : vp_A} (ha : h a = some (r, o, .inl (cA, x))) {ty : FieldType} (ht : fT s cA ty) {v : Int32} (hv : Int32.ofNat x.1 = v) (hdg : decode cc pc = .ok (.arraylength, 1))
    (kk : W p l e R s m args below meth c H locs cells slots Q (F0 m (pc + 1) ls (.int v :: rest))) : W p l e R s m args below meth c H locs cells slots Q (F0 m pc ls (.ref a :: rest)) := by
  subst hv
  obtain ⟨cell, h1, h2, h3, h4, h5, h6, h7⟩ := (hI.1 a _ ha).1
  exact W.alen hexec hb h1 (ht.arr h2 h4) h6 rfl rfl hdg kk
theorem f_in {n k : Nat} {i : Int32} (hin : vp_in i n) (hk : n ≤ k) : ¬ (i < 0 ∨ k ≤ i.toNatClampNeg) := fun q => hin (q.imp id (fun z => Nat.le_trans hk z))
theorem f_inl {n : Nat} {i : Int32} (hin : vp_in i n) : i.toNatClampNeg < n := Nat.not_le.mp fun q => hin (Or.inr q)
theorem f_iald (hexec : p.tables.exec = Jvm.exec) (hb : c.code = cc) (hI : fI D cl A H0 h H locs) {cA : ClassId} {n : Nat} {f : Nat → Int32} (ha : h a = some (r, o, .inl (cA, n, .inl f))) (ht : fT s cA .int) {i : Int32} (hin : vp_in i n) (hdg : decode cc pc = .ok (.iaload, 1))
    (kk : W p l e R s m args below meth c H locs cells slots Q (F0 m (pc + 1) ls (.int (f i.toNatClampNeg) :: rest))) : W p l e R s m args below meth c H locs cells slots Q (F0 m pc ls (.int i :: .ref a :: rest)) := by
  obtain ⟨cell, h1, h2, h3, h4, h5, h6, h7⟩ := (hI.1 a _ ha).1
  exact W.iald (v := .int (f i.toNatClampNeg)) hexec hb h1 (ht.arr h2 h4) h3 (f_in hin h5) (h7 _ (f_inl hin)) rfl rfl hdg kk
theorem f_bald (hexec : p.tables.exec = Jvm.exec) (hb : c.code = cc) (hI : fI D cl A H0 h H locs) {cA : ClassId} {n : Nat} {f : Nat → Int32} (ha : h a = some (r, o, .inl (cA, n, .inl f))) (ht : fT s cA .byte) {i : Int32} (hin : vp_in i n) (hdg : decode cc pc = .ok (.baload, 1))
    (kk : W p l e R s m args below meth c H locs cells slots Q (F0 m (pc + 1) ls (.int (f i.toNatClampNeg) :: rest))) : W p l e R s m args below meth c H locs cells slots Q (F0 m pc ls (.int i :: .ref a :: rest)) := by
  obtain ⟨cell, h1, h2, h3, h4, h5, h6, h7⟩ := (hI.1 a _ ha).1
  exact W.bald (v := .int (f i.toNatClampNeg)) hexec hb h1 (ht.arr h2 h4) h3 (f_in hin h5) (h7 _ (f_inl hin)) rfl rfl hdg kk
theorem f_zald (hexec : p.tables.exec = Jvm.exec) (hb : c.code = cc) (hI : fI D cl A H0 h H locs) {cA : ClassId} {n : Nat} {f : Nat → Int32} (ha : h a = some (r, o, .inl (cA, n, .inl f))) (ht : fT s cA .boolean) {i : Int32} (hin : vp_in i n) (hdg : decode cc pc = .ok (.baload, 1))
    (kk : W p l e R s m args below meth c H locs cells slots Q (F0 m (pc + 1) ls (.int (f i.toNatClampNeg) :: rest))) : W p l e R s m args below meth c H locs cells slots Q (F0 m pc ls (.int i :: .ref a :: rest)) := by
  obtain ⟨cell, h1, h2, h3, h4, h5, h6, h7⟩ := (hI.1 a _ ha).1
  exact W.zald (v := .int (f i.toNatClampNeg)) hexec hb h1 (ht.arr h2 h4) h3 (f_in hin h5) (h7 _ (f_inl hin)) rfl rfl hdg kk
theorem f_cald (hexec : p.tables.exec = Jvm.exec) (hb : c.code = cc) (hI : fI D cl A H0 h H locs) {cA : ClassId} {n : Nat} {f : Nat → Int32} (ha : h a = some (r, o, .inl (cA, n, .inl f))) (ht : fT s cA .char) {i : Int32} (hin : vp_in i n) (hdg : decode cc pc = .ok (.caload, 1))
    (kk : W p l e R s m args below meth c H locs cells slots Q (F0 m (pc + 1) ls (.int (f i.toNatClampNeg) :: rest))) : W p l e R s m args below meth c H locs cells slots Q (F0 m pc ls (.int i :: .ref a :: rest)) := by
  obtain ⟨cell, h1, h2, h3, h4, h5, h6, h7⟩ := (hI.1 a _ ha).1
  exact W.cald (v := .int (f i.toNatClampNeg)) hexec hb h1 (ht.arr h2 h4) h3 (f_in hin h5) (h7 _ (f_inl hin)) rfl rfl hdg kk
theorem f_lald (hexec : p.tables.exec = Jvm.exec) (hb : c.code = cc) (hI : fI D cl A H0 h H locs) {cA : ClassId} {n : Nat} {f : Nat → Int64} (ha : h a = some (r, o, .inl (cA, n, .inr (.inl f)))) (ht : fT s cA .long) {i : Int32} (hin : vp_in i n) (hdg : decode cc pc = .ok (.laload, 1))
    (kk : W p l e R s m args below meth c H locs cells slots Q (F0 m (pc + 1) ls (.long (f i.toNatClampNeg) :: rest))) : W p l e R s m args below meth c H locs cells slots Q (F0 m pc ls (.int i :: .ref a :: rest)) := by
  obtain ⟨cell, h1, h2, h3, h4, h5, h6, h7⟩ := (hI.1 a _ ha).1
  exact W.lald (v := .long (f i.toNatClampNeg)) hexec hb h1 (ht.arr h2 h4) h3 (f_in hin h5) (h7 _ (f_inl hin)) rfl rfl hdg kk
theorem f_aald (hexec : p.tables.exec = Jvm.exec) (hb : c.code = cc) (hI : fI D cl A H0 h H locs) {cA : ClassId} {C : String} {n : Nat} {f : Nat → Option Nat} (ha : h a = some (r, o, .inl (cA, n, .inr (.inr (.inr (.inr f)))))) (ht : fT s cA (.object C)) {i : Int32} (hin : vp_in i n) (hdg : decode cc pc = .ok (.aaload, 1))
    (kk : W p l e R s m args below meth c H locs cells slots Q (F0 m (pc + 1) ls (va_rf (f i.toNatClampNeg) :: rest))) : W p l e R s m args below meth c H locs cells slots Q (F0 m pc ls (.int i :: .ref a :: rest)) := by
  obtain ⟨cell, h1, h2, h3, h4, h5, h6, h7⟩ := (hI.1 a _ ha).1
  exact W.aald (v := va_rf (f i.toNatClampNeg)) (ty := .object C) hexec hb h1 (ht.arr h2 h4) rfl h3 (f_in hin h5) (h7 _ (f_inl hin)) rfl rfl hdg kk
theorem f_iast (hexec : p.tables.exec = Jvm.exec) (hb : c.code = cc) (hI : fI D cl A H0 h H locs) {cA : ClassId} {n : Nat} {f : Nat → Int32} (ha : h a = some (r, o, .inl (cA, n, .inl f))) (hr0 : r ≠ 0) (ht : fT s cA .int) {i : Int32} {x : Int32} (hin : vp_in i n) (hdg : decode cc pc = .ok (.iastore, 1))
    (kk : ∀ (H : Heap) (locs : List Loc), fI D cl A H0 (fU h a (r, o, .inl (cA, n, .inl (upd f i.toNatClampNeg x)))) H locs → W p l e R s m args below meth c H locs cells slots Q (F0 m (pc + 1) ls rest)) : W p l e R s m args below meth c H locs cells slots Q (F0 m pc ls (.int x :: .int i :: .ref a :: rest)) := by
  have h1 : H[a]? = some (arrV cA n (fun j => .int (f j))) := (hI.1 a _ ha).2 hr0
  refine W.iast hexec hb h1 (ht.arr rfl (fun k q => by cases q)) (fun q => by cases q) (f_in hin (by rw [arrV_size]; exact Nat.le_refl _)) rfl rfl hdg fun H1 e z oq => ?_
  refine kk H1 _ (hI.set ha hr0 ?_ z oq)
  show H1[a]? = some (vp_cell _ _)
  rw [e, vp_cell_i, arrV_store]
  congr 2
  funext q
  by_cases hq : q = i.toNatClampNeg
  · subst hq
    simp [updV, upd]
  · simp [updV, upd, hq]
theorem f_last (hexec : p.tables.exec = Jvm.exec) (hb : c.code = cc) (hI : fI D cl A H0 h H locs) {cA : ClassId} {n : Nat} {f : Nat → Int64} (ha : h a = some (r, o, .inl (cA, n, .inr (.inl f)))) (hr0 : r ≠ 0) (ht : fT s cA .long) {i : Int32} {x : Int64} (hin : vp_in i n) (hdg : decode cc pc = .ok (.lastore, 1))
    (kk : ∀ (H : Heap) (locs : List Loc), fI D cl A H0 (fU h a (r, o, .inl (cA, n, .inr (.inl (vp_updL f i.toNatClampNeg x))))) H locs → W p l e R s m args below meth c H locs cells slots Q (F0 m (pc + 1) ls rest)) : W p l e R s m args below meth c H locs cells slots Q (F0 m pc ls (.long x :: .int i :: .ref a :: rest)) := by
  have h1 : H[a]? = some (arrV cA n (fun j => .long (f j))) := (hI.1 a _ ha).2 hr0
  refine W.last hexec hb h1 (ht.arr rfl (fun k q => by cases q)) (fun q => by cases q) (f_in hin (by rw [arrV_size]; exact Nat.le_refl _)) rfl rfl hdg fun H1 e z oq => ?_
  refine kk H1 _ (hI.set ha hr0 ?_ z oq)
  show H1[a]? = some (vp_cell _ _)
  rw [e, vp_cell_l, arrV_store]
  congr 2
  funext q
  by_cases hq : q = i.toNatClampNeg
  · subst hq
    simp [updV, vp_updL]
  · simp [updV, vp_updL, hq]
theorem f_nar {ty : FieldType} {x y : Int32} (h : narrow ty (.int x) = .int y) : vp_nar ty x = y := by simp [vp_nar, h]
theorem f_bast (hexec : p.tables.exec = Jvm.exec) (hb : c.code = cc) (hI : fI D cl A H0 h H locs) {cA : ClassId} {n : Nat} {f : Nat → Int32} (ha : h a = some (r, o, .inl (cA, n, .inl f))) (hr0 : r ≠ 0) (ht : fT s cA .byte) {i : Int32} {x : Int32} (hin : vp_in i n) (hdg : decode cc pc = .ok (.bastore, 1))
    (kk : ∀ (H : Heap) (locs : List Loc), fI D cl A H0 (fU h a (r, o, .inl (cA, n, .inl (upd f i.toNatClampNeg x.toInt8.toInt32)))) H locs → W p l e R s m args below meth c H locs cells slots Q (F0 m (pc + 1) ls rest)) : W p l e R s m args below meth c H locs cells slots Q (F0 m pc ls (.int x :: .int i :: .ref a :: rest)) := by
  have h1 : H[a]? = some (arrV cA n (fun j => .int (f j))) := (hI.1 a _ ha).2 hr0
  refine W.bast hexec hb h1 (ht.arr rfl (fun k q => by cases q)) (fun q => by cases q) (f_in hin (by rw [arrV_size]; exact Nat.le_refl _)) rfl rfl hdg fun H1 e z oq => ?_
  refine kk H1 _ (hI.set ha hr0 ?_ z oq)
  show H1[a]? = some (vp_cell _ _)
  rw [e, vp_cell_i, arrV_store]
  congr 2
  funext q
  by_cases hq : q = i.toNatClampNeg
  · subst hq
    simp [updV, upd, narrow]
  · simp [updV, upd, hq]
theorem f_zast (hexec : p.tables.exec = Jvm.exec) (hb : c.code = cc) (hI : fI D cl A H0 h H locs) {cA : ClassId} {n : Nat} {f : Nat → Int32} (ha : h a = some (r, o, .inl (cA, n, .inl f))) (hr0 : r ≠ 0) (ht : fT s cA .boolean) {i : Int32} {x : Int32} (hin : vp_in i n) (hdg : decode cc pc = .ok (.bastore, 1))
    (kk : ∀ (H : Heap) (locs : List Loc), fI D cl A H0 (fU h a (r, o, .inl (cA, n, .inl (upd f i.toNatClampNeg (x &&& 1))))) H locs → W p l e R s m args below meth c H locs cells slots Q (F0 m (pc + 1) ls rest)) : W p l e R s m args below meth c H locs cells slots Q (F0 m pc ls (.int x :: .int i :: .ref a :: rest)) := by
  have h1 : H[a]? = some (arrV cA n (fun j => .int (f j))) := (hI.1 a _ ha).2 hr0
  refine W.zast hexec hb h1 (ht.arr rfl (fun k q => by cases q)) (fun q => by cases q) (f_in hin (by rw [arrV_size]; exact Nat.le_refl _)) rfl rfl hdg fun H1 e z oq => ?_
  refine kk H1 _ (hI.set ha hr0 ?_ z oq)
  show H1[a]? = some (vp_cell _ _)
  rw [e, vp_cell_i, arrV_store]
  congr 2
  funext q
  by_cases hq : q = i.toNatClampNeg
  · subst hq
    simp [updV, upd, narrow]
  · simp [updV, upd, hq]
theorem f_aast (hexec : p.tables.exec = Jvm.exec) (hb : c.code = cc) (hK : va_K D cl tys s) (hI : fI D cl A H0 h H locs) {cA : ClassId} {q : vw_C} {n v r2 o2 ci t0 : Nat} {vs : List Value} {f : Nat → Option Nat} (ha : h a = some (r, o, .inl (cA, n, .inr (.inr (.inr (.inr f)))))) (hr0 : r ≠ 0) (ht : tys[t0]? = some (cA, .object q.1)) (hv : h v = some (r2, o2, .inr (ci, vs))) (hr2 : r2 ≠ 0) (hc : cl[ci]? = some q) {i : Int32} (hin : vp_in i n) (hdg : decode cc pc = .ok (.aastore, 1))
    (kk : ∀ (H : Heap) (locs : List Loc), fI D cl A H0 (fU h a (r, o, .inl (cA, n, .inr (.inr (.inr (.inr (va_up f i.toNatClampNeg (some v)))))))) H locs → W p l e R s m args below meth c H locs cells slots Q (F0 m (pc + 1) ls rest)) : W p l e R s m args below meth c H locs cells slots Q (F0 m pc ls (.ref v :: .int i :: .ref a :: rest)) := by
  have h1 : H[a]? = some (arrV cA n (fun j => va_rf (f j))) := (hI.1 a _ ha).2 hr0
  have hlt := f_inl hin
  have h0 : ¬ i < 0 := fun q => hin (Or.inl q)
  obtain ⟨r', hr', cellV, g1, g2, g3, -⟩ := (hI.1 v _ hv).2 hr2
  have hcls := (hK.1 ci q hc).2
  obtain ⟨kA, comp, k1, k2, k3, -⟩ := (hK.2 t0 _ ht).2
  have hcomp : comp = D.1 ci := Option.some.inj (k3.symm.trans hcls.1)
  subst hcomp
  obtain ⟨kC, hkC, -⟩ := hcls.2
  refine W.aast hexec hb h1 (fun q h => by cases h) (fun h => by cases h) k1 k2 rfl hkC ⟨h0, by show _ < (arrV _ _ _).slots.size; rw [arrV_size]; exact hlt⟩ g1 (fun q h => by rw [g3] at h; cases h) (by rw [g2]; exact hkC) (by rw [g2]; exact va_assign hcls) rfl rfl hdg fun H1 e z oq => ?_
  refine kk H1 _ (hI.set ha hr0 ?_ z oq)
  show H1[a]? = some (vp_cell _ _)
  rw [e, vp_cell_q, arrV_store]
  congr 2
  funext x
  by_cases hq : x = i.toNatClampNeg
  · subst hq
    simp [updV, va_up, va_rf]
  · simp [updV, va_up, hq]
end FR
section FQ
variable {p : Program} {l : Launch} {e : Env} {R : Room} {s : State} {m : MethodId} {args : Array Value} {below : List Frame} {meth : Method} {c : Code} {H : Heap} {locs : List Loc} {cells slots : Nat} {Q : State → Prop}
variable {cc : ByteArray} {pc : Nat} {ls : Array Slot} {rest : List Value}
theorem f_rfcat (x : Option Nat) : (va_rf x).category = 1 := by cases x <;> rfl
theorem f_aload_nq (hexec : p.tables.exec = Jvm.exec) (hb : c.code = cc) {k : Fin 4} {i : Nat} {x : Option Nat} (hdg : decode cc pc = .ok (.aload_n k, 1)) (hi : (k : Nat) = i) (hl : ls[i]? = some (.val (va_rf x)))
    (kk : W p l e R s m args below meth c H locs cells slots Q (F0 m (pc + 1) ls (va_rf x :: rest))) : W p l e R s m args below meth c H locs cells slots Q (F0 m pc ls rest) := by
  cases x with
  | none => exact lv_aload_nN hexec hb hdg hi hl kk
  | some q => exact lv_aload_n hexec hb hdg hi hl kk
theorem f_aloadq (hexec : p.tables.exec = Jvm.exec) (hb : c.code = cc) {i : Nat} {x : Option Nat} (hdg : decode cc pc = .ok (.aload i, 2)) (hl : ls[i]? = some (.val (va_rf x)))
    (kk : W p l e R s m args below meth c H locs cells slots Q (F0 m (pc + 2) ls (va_rf x :: rest))) : W p l e R s m args below meth c H locs cells slots Q (F0 m pc ls rest) := by
  cases x with
  | none => exact lv_aloadN hexec hb hdg hl kk
  | some q => exact lv_aload hexec hb hdg hl kk
theorem f_astore_nq (hexec : p.tables.exec = Jvm.exec) (hb : c.code = cc) {k : Fin 4} {i nL : Nat} {x : Option Nat} {lv lv' : List (Nat × Value)} (hdg : decode cc pc = .ok (.astore_n k, 1)) (hi : (k : Nat) = i) (h : lv_has ls nL lv) (hn : i < nL) (hl : (i, va_rf x) :: lv.filter (fun q => !(q.1 == i) && !(q.1 + 1 == i && q.2.category == 2)) = lv')
    (kk : ∀ ls' : Array Slot, lv_has ls' nL lv' → W p l e R s m args below meth c H locs cells slots Q (F0 m (pc + 1) ls' rest)) : W p l e R s m args below meth c H locs cells slots Q (F0 m pc ls (va_rf x :: rest)) := by
  cases x with
  | none => exact lv_astore_nN hexec hb hdg hi h hn hl kk
  | some q => exact lv_astore_n hexec hb hdg hi h hn hl kk
theorem f_astoreq (hexec : p.tables.exec = Jvm.exec) (hb : c.code = cc) {i nL : Nat} {x : Option Nat} {lv lv' : List (Nat × Value)} (hdg : decode cc pc = .ok (.astore i, 2)) (h : lv_has ls nL lv) (hn : i < nL) (hl : (i, va_rf x) :: lv.filter (fun q => !(q.1 == i) && !(q.1 + 1 == i && q.2.category == 2)) = lv')
    (kk : ∀ ls' : Array Slot, lv_has ls' nL lv' → W p l e R s m args below meth c H locs cells slots Q (F0 m (pc + 2) ls' rest)) : W p l e R s m args below meth c H locs cells slots Q (F0 m pc ls (va_rf x :: rest)) := by
  cases x with
  | none => exact lv_astoreN hexec hb hdg h hn hl kk
  | some q => exact lv_astore hexec hb hdg h hn hl kk
theorem lgc (x y : Int64) : (x < y ∧ lg_cmp x y = -1) ∨ (x = y ∧ lg_cmp x y = 0) ∨ (y < x ∧ lg_cmp x y = 1) := by
  by_cases h1 : y < x
  · exact Or.inr (Or.inr ⟨h1, by simp [lg_cmp, h1]⟩)
  · by_cases h2 : x = y
    · exact Or.inr (Or.inl ⟨h2, by subst h2; simp [lg_cmp]⟩)
    · refine Or.inl ⟨?_, by simp [lg_cmp, h1, h2]⟩
      rw [Int64.lt_iff_toInt_lt] at h1 ⊢
      have h3 : x.toInt ≠ y.toInt := fun q => h2 (Int64.toInt_inj.mp q)
      omega
theorem l_asym {x y : Int64} (h : x < y) : ¬ y < x := by rw [Int64.lt_iff_toInt_lt] at h ⊢; omega
theorem l_ne {x y : Int64} (h : x < y) : ¬ x = y := fun q => by subst q; rw [Int64.lt_iff_toInt_lt] at h; omega
theorem l_nle {x y : Int64} (h : x < y) : ¬ y ≤ x := by rw [Int64.lt_iff_toInt_lt] at h; rw [Int64.le_iff_toInt_le]; omega
theorem l_le {x y : Int64} (h : x < y) : x ≤ y := by rw [Int64.lt_iff_toInt_lt] at h; rw [Int64.le_iff_toInt_le]; omega
theorem l_irr (x : Int64) : ¬ x < x := by rw [Int64.lt_iff_toInt_lt]; omega
theorem l_rf (x : Int64) : x ≤ x := by rw [Int64.le_iff_toInt_le]; omega
theorem f_lc_eq (hexec : p.tables.exec = Jvm.exec) (hb : c.code = cc) {x y : Int64} {off : Int} {tgt : Nat} (hd1 : decode cc pc = .ok (.lcmp, 1)) (hd2 : decode cc (pc + 1) = .ok (.ifCond .eq off, 3)) (ht : ((pc + 1 : Nat) : Int) + off = (tgt : Int))
    (kt : x = y → W p l e R s m args below meth c H locs cells slots Q (F0 m tgt ls rest)) (kf : ¬ x = y → W p l e R s m args below meth c H locs cells slots Q (F0 m (pc + 4) ls rest)) : W p l e R s m args below meth c H locs cells slots Q (F0 m pc ls (.long y :: .long x :: rest)) := by
  refine W.lcmp hexec hb hd1 (lv_if_eq (tgt := tgt) hexec hb hd2 ht (fun h => ?_) (fun h => ?_))
  · rcases lgc x y with ⟨a, b⟩ | ⟨a, b⟩ | ⟨a, b⟩
    · rw [b] at h; exact absurd h (by decide)
    · exact kt a
    · rw [b] at h; exact absurd h (by decide)
  · rcases lgc x y with ⟨a, b⟩ | ⟨a, b⟩ | ⟨a, b⟩
    · exact kf (l_ne a)
    · rw [b] at h; exact absurd rfl h
    · exact kf (fun q => l_ne a q.symm)
theorem f_lc_ne (hexec : p.tables.exec = Jvm.exec) (hb : c.code = cc) {x y : Int64} {off : Int} {tgt : Nat} (hd1 : decode cc pc = .ok (.lcmp, 1)) (hd2 : decode cc (pc + 1) = .ok (.ifCond .ne off, 3)) (ht : ((pc + 1 : Nat) : Int) + off = (tgt : Int))
    (kt : ¬ x = y → W p l e R s m args below meth c H locs cells slots Q (F0 m tgt ls rest)) (kf : x = y → W p l e R s m args below meth c H locs cells slots Q (F0 m (pc + 4) ls rest)) : W p l e R s m args below meth c H locs cells slots Q (F0 m pc ls (.long y :: .long x :: rest)) := by
  refine W.lcmp hexec hb hd1 (lv_if_ne (tgt := tgt) hexec hb hd2 ht (fun h => ?_) (fun h => ?_))
  · rcases lgc x y with ⟨a, b⟩ | ⟨a, b⟩ | ⟨a, b⟩
    · exact kt (l_ne a)
    · rw [b] at h; exact absurd rfl h
    · exact kt (fun q => l_ne a q.symm)
  · rcases lgc x y with ⟨a, b⟩ | ⟨a, b⟩ | ⟨a, b⟩
    · rw [b] at h; exact absurd h (by decide)
    · exact kf a
    · rw [b] at h; exact absurd h (by decide)
theorem f_lc_lt (hexec : p.tables.exec = Jvm.exec) (hb : c.code = cc) {x y : Int64} {off : Int} {tgt : Nat} (hd1 : decode cc pc = .ok (.lcmp, 1)) (hd2 : decode cc (pc + 1) = .ok (.ifCond .lt off, 3)) (ht : ((pc + 1 : Nat) : Int) + off = (tgt : Int))
    (kt : x < y → W p l e R s m args below meth c H locs cells slots Q (F0 m tgt ls rest)) (kf : ¬ x < y → W p l e R s m args below meth c H locs cells slots Q (F0 m (pc + 4) ls rest)) : W p l e R s m args below meth c H locs cells slots Q (F0 m pc ls (.long y :: .long x :: rest)) := by
  refine W.lcmp hexec hb hd1 (lv_if_lt (tgt := tgt) hexec hb hd2 ht (fun h => ?_) (fun h => ?_))
  · rcases lgc x y with ⟨a, b⟩ | ⟨a, b⟩ | ⟨a, b⟩
    · exact kt a
    · rw [b] at h; exact absurd h (by decide)
    · rw [b] at h; exact absurd h (by decide)
  · rcases lgc x y with ⟨a, b⟩ | ⟨a, b⟩ | ⟨a, b⟩
    · rw [b] at h; exact absurd (by decide) h
    · exact kf (fun q => l_ne q a)
    · exact kf (l_asym a)
theorem f_lc_ge (hexec : p.tables.exec = Jvm.exec) (hb : c.code = cc) {x y : Int64} {off : Int} {tgt : Nat} (hd1 : decode cc pc = .ok (.lcmp, 1)) (hd2 : decode cc (pc + 1) = .ok (.ifCond .ge off, 3)) (ht : ((pc + 1 : Nat) : Int) + off = (tgt : Int))
    (kt : y ≤ x → W p l e R s m args below meth c H locs cells slots Q (F0 m tgt ls rest)) (kf : ¬ y ≤ x → W p l e R s m args below meth c H locs cells slots Q (F0 m (pc + 4) ls rest)) : W p l e R s m args below meth c H locs cells slots Q (F0 m pc ls (.long y :: .long x :: rest)) := by
  refine W.lcmp hexec hb hd1 (lv_if_ge (tgt := tgt) hexec hb hd2 ht (fun h => ?_) (fun h => ?_))
  · rcases lgc x y with ⟨a, b⟩ | ⟨a, b⟩ | ⟨a, b⟩
    · rw [b] at h; exact absurd h (by decide)
    · exact kt (by rw [a]; exact l_rf _)
    · exact kt (l_le a)
  · rcases lgc x y with ⟨a, b⟩ | ⟨a, b⟩ | ⟨a, b⟩
    · exact kf (l_nle a)
    · rw [b] at h; exact absurd (by decide) h
    · rw [b] at h; exact absurd (by decide) h
theorem f_lc_gt (hexec : p.tables.exec = Jvm.exec) (hb : c.code = cc) {x y : Int64} {off : Int} {tgt : Nat} (hd1 : decode cc pc = .ok (.lcmp, 1)) (hd2 : decode cc (pc + 1) = .ok (.ifCond .gt off, 3)) (ht : ((pc + 1 : Nat) : Int) + off = (tgt : Int))
    (kt : y < x → W p l e R s m args below meth c H locs cells slots Q (F0 m tgt ls rest)) (kf : ¬ y < x → W p l e R s m args below meth c H locs cells slots Q (F0 m (pc + 4) ls rest)) : W p l e R s m args below meth c H locs cells slots Q (F0 m pc ls (.long y :: .long x :: rest)) := by
  refine W.lcmp hexec hb hd1 (lv_if_gt (tgt := tgt) hexec hb hd2 ht (fun h => ?_) (fun h => ?_))
  · rcases lgc x y with ⟨a, b⟩ | ⟨a, b⟩ | ⟨a, b⟩
    · rw [b] at h; exact absurd h (by decide)
    · rw [b] at h; exact absurd h (by decide)
    · exact kt a
  · rcases lgc x y with ⟨a, b⟩ | ⟨a, b⟩ | ⟨a, b⟩
    · exact kf (l_asym a)
    · exact kf (by rw [a]; exact l_irr _)
    · rw [b] at h; exact absurd (by decide) h
theorem f_lc_le (hexec : p.tables.exec = Jvm.exec) (hb : c.code = cc) {x y : Int64} {off : Int} {tgt : Nat} (hd1 : decode cc pc = .ok (.lcmp, 1)) (hd2 : decode cc (pc + 1) = .ok (.ifCond .le off, 3)) (ht : ((pc + 1 : Nat) : Int) + off = (tgt : Int))
    (kt : x ≤ y → W p l e R s m args below meth c H locs cells slots Q (F0 m tgt ls rest)) (kf : ¬ x ≤ y → W p l e R s m args below meth c H locs cells slots Q (F0 m (pc + 4) ls rest)) : W p l e R s m args below meth c H locs cells slots Q (F0 m pc ls (.long y :: .long x :: rest)) := by
  refine W.lcmp hexec hb hd1 (lv_if_le (tgt := tgt) hexec hb hd2 ht (fun h => ?_) (fun h => ?_))
  · rcases lgc x y with ⟨a, b⟩ | ⟨a, b⟩ | ⟨a, b⟩
    · exact kt (l_le a)
    · exact kt (by rw [a]; exact l_rf _)
    · rw [b] at h; exact absurd h (by decide)
  · rcases lgc x y with ⟨a, b⟩ | ⟨a, b⟩ | ⟨a, b⟩
    · rw [b] at h; exact absurd (by decide) h
    · rw [b] at h; exact absurd (by decide) h
    · exact kf (l_nle a)
end FQ
/-! EUCLID: two steps halve the lesser number -/
def eu : Nat → Nat → Nat → Nat × Nat
  | 0, a, b => (a, b)
  | n + 1, a, b => if b = 0 then (a, b) else eu n b (a % b)
theorem eu_0 (n a : Nat) : eu n a 0 = (a, 0) := by cases n <;> simp [eu]
theorem eu_gcd : ∀ (k a b : Nat), b < 2 ^ k → eu (2 * k) a b = (Nat.gcd a b, 0)
  | 0, a, b, h => by
    have hb : b = 0 := by simpa using h
    subst hb
    simp [eu]
  | k + 1, a, b, h => by
    by_cases hb : b = 0
    · subst hb
      rw [eu_0]; simp
    · have e1 : 2 * (k + 1) = (2 * k + 1) + 1 := by omega
      rw [e1]
      show (if b = 0 then (a, b) else eu (2 * k + 1) b (a % b)) = _
      rw [if_neg hb]
      have hr : a % b < b := Nat.mod_lt _ (by omega)
      have g1 : Nat.gcd a b = Nat.gcd b (a % b) := by rw [Nat.gcd_comm a b, Nat.gcd_rec b a, Nat.gcd_comm]
      by_cases hr0 : a % b = 0
      · rw [hr0, eu_0, g1, hr0]; simp
      · show (if a % b = 0 then (b, a % b) else eu (2 * k) (a % b) (b % (a % b))) = _
        rw [if_neg hr0]
        generalize a % b = r at hr hr0 g1
        have h1 : b % r < r := Nat.mod_lt _ (by omega)
        have h2 : b % r ≤ b - r := by
          rw [Nat.mod_eq_sub_mod (by omega)]
          exact Nat.mod_le _ _
        have h3 : 2 ^ (k + 1) = 2 * 2 ^ k := by rw [Nat.pow_succ]; omega
        rw [eu_gcd k r (b % r) (by omega), g1]
        have g2 : Nat.gcd b r = Nat.gcd r (b % r) := by rw [Nat.gcd_comm b r, Nat.gcd_rec r b, Nat.gcd_comm]
        rw [g2]
/-- more steps do no harm -/
theorem eu_mono : ∀ (n m a b : Nat), n ≤ m → (eu n a b).2 = 0 → eu m a b = eu n a b
  | 0, m, a, b, _, h => by
    have hb : b = 0 := h
    subst hb
    rw [eu_0]; rfl
  | n + 1, 0, a, b, hl, h => by omega
  | n + 1, m + 1, a, b, hl, h => by
    by_cases hb : b = 0
    · subst hb; rw [eu_0, eu_0]
    · have e1 : eu (n + 1) a b = eu n b (a % b) := by show (if b = 0 then (a, b) else _) = _; rw [if_neg hb]
      have e2 : eu (m + 1) a b = eu m b (a % b) := by show (if b = 0 then (a, b) else _) = _; rw [if_neg hb]
      rw [e1] at h ⊢
      rw [e2]
      exact eu_mono n m b (a % b) (by omega) h
end
section
/-! CONTRACTS OVER THE HEAP AS A FUNCTION. g_T: the tables' words that stay; g_cl: the classes; g_nl: the nest's links; g_al: arrays of references; g_sl: the String constants; g_zl: the statics (all of 01, 02) -/
abbrev gG : Type := va_G × (Nat → ClassId) × (ClassId → Prop) × (Nat → Nat)
def gK (G : gG) (U : State) : Prop := va_K G.1 g_cl (gTys G.2.1) U ∧ (∀ w ∈ g_nl, va_Nw w U) ∧ (∀ C ∈ g_al, va_AO C U) ∧ (∀ q ∈ g_sl, vk_R q.1 q.2.1 q.2.2.1 (G.2.2.2 q.2.2.2) U) ∧ ∀ cA, G.2.2.1 cA → fT U cA .byte
theorem gNw.warm {w : Cond} (hn : gNb w = true) {s U : State} (hW : s.WarmedH U.vm) (h : va_Nw w s) : va_Nw w U := by
  cases w <;> first | exact va_Nw.warmF hW h | exact va_Nw.warmM hW h | (simp [gNb] at hn; done)
theorem gNw.same {w : Cond} (hn : gNb w = true) {u U : State} (hv : u.vm = U.vm) (h : va_Nw w u) : va_Nw w U := by
  cases w <;> first | exact va_Nw.same rfl hv h | (simp [gNb] at hn; done)
theorem gK.warm {G : gG} {s U : State} (hW : s.WarmedH U.vm) (h : gK G s) : gK G U :=
  ⟨va_K.moved hW.alike h.1, fun w hw => gNw.warm (List.all_eq_true.mp g_nl_ok w hw) hW (h.2.1 w hw), fun C hC => va_AO.moved hW.alike (h.2.2.1 C hC), fun q hq => (h.2.2.2.1 q hq).warm hW, fun cA hA => (h.2.2.2.2 cA hA).moved hW.alike⟩
theorem gK.same {G : gG} {s U : State} (hv : s.vm = U.vm) (h : gK G s) : gK G U := by
  have ha : s.vm.Alike U.vm := by rw [hv]; exact Vm.Alike.refl _
  exact ⟨va_K.moved ha h.1, fun w hw => gNw.same (List.all_eq_true.mp g_nl_ok w hw) hv (h.2.1 w hw), fun C hC => va_AO.moved ha (h.2.2.1 C hC), fun q hq => (h.2.2.2.1 q hq).same hv.symm, fun cA hA => (h.2.2.2.2 cA hA).moved ha⟩
def gZ (A : Nat → Prop) (U : State) (H : Heap) : Prop := ∀ z ∈ g_zl, va_Z z.1 z.2.1 z.2.2.1 z.2.2.2 A U H
def gPre (G : gG) (h : fH) (sz : Nat) (U : State) : Prop := U.heap.size = sz ∧ fP G.1 g_cl h U.heap ∧ gK G U ∧ gZ (fA h sz) U U.heap
theorem gPre.blind {G : gG} {h : fH} {sz : Nat} {av : List Value} : FrameBlind (va_Pc av (gPre G h sz)) := by
  intro a U g mk ⟨q0, q1, q2, q3, q4⟩
  exact ⟨q0, q1, q2, gK.same (s := U) (U := U.calling g mk a) rfl q3, fun z hz => (q4 z hz).moved (u := U) (U := U.calling g mk a) (Vm.Alike.refl U.vm)⟩
/-- what is known in a method's body -/
def gC (G : gG) (p : Program) (s : State) (m : MethodId) (args : Array Value) (meth : Method) (c : Code) (A : Nat → Prop) (cc : ByteArray) (maxL : Nat) (own nm : String) : Prop :=
  p.tables.exec = Jvm.exec ∧ c.code = cc ∧ c.maxLocals = maxL ∧ s.vm.findClass own = some m.cls ∧ meth.name = nm ∧ meth.locks = false ∧ (∀ w ∈ g_T, w.before args s = true) ∧ gK G s ∧ gZ A s s.heap
/-- the contracts: an int (boolean, char ..), a long, nothing, a reference -/
abbrev cQi (G : gG) (h : fH) (sz : Nat) (post : Int32 → fH → Prop) : Array Value → State → Outcome → State → Prop := va_Qi (fun r h' => post r h' ∧ fX h sz h') (fun h' t => fP G.1 g_cl h' t.heap) (fA h sz)
abbrev cQl (G : gG) (h : fH) (sz : Nat) (post : Int64 → fH → Prop) : Array Value → State → Outcome → State → Prop := va_Ql (fun r h' => post r h' ∧ fX h sz h') (fun h' t => fP G.1 g_cl h' t.heap) (fA h sz)
abbrev cQv (G : gG) (h : fH) (sz : Nat) (post : fH → Prop) : Array Value → State → Outcome → State → Prop := va_Qv (fun h' => post h' ∧ fX h sz h') (fun h' t => fP G.1 g_cl h' t.heap) (fA h sz)
abbrev cQq (G : gG) (h : fH) (sz : Nat) (post : Option Nat → fH → Prop) : Array Value → State → Outcome → State → Prop := va_Qq (fun r h' => post r h' ∧ fX h sz h') (fun h' t => fP G.1 g_cl h' t.heap) (fA h sz)
abbrev cM (l : Launch) (y : MethodName) (cc : ByteArray) (maxL : Nat) (ret : Option FieldType) (rm : Room) (G : gG) (av : List Value) (h : fH) (sz : Nat) (Qc : Array Value → State → Outcome → State → Prop) : Prop :=
  Met l y (.code y cc maxL ret :: g_T) rm (va_Pc av (gPre G h sz)) Qc rm.cells rm.slots (fA h sz)
theorem f_start {l : Launch} {y : MethodName} {cc : ByteArray} {maxL : Nat} {ret : Option FieldType} {rm : Room} {G : gG} {av : List Value} {h : fH} {sz : Nat} {Qc : Array Value → State → Outcome → State → Prop} (hy : plainName y.cls = true) (hlen : (lg_sl av).length ≤ maxL)
    (body : ∀ (p : Program) (e : Env) (s : State) (m : MethodId) (below : List Frame) (meth : Method) (c : Code) (ls : Array Slot), gC G p s m av.toArray meth c (fA h sz) cc maxL y.cls y.name → meth.sig.returnType = ret → s.heap.size = sz → fI G.1 g_cl (fA h sz) s.heap h s.heap [] → lv_has ls maxL (lv_args 0 av) →
      W p l e rm s m av.toArray below meth c s.heap [] 0 0 (MQ below Qc av.toArray s rm.cells rm.slots (fA h sz)) (F0 m 0 ls [])) : cM l y cc maxL ret rm G av h sz Qc := by
  refine Met.ofW (cc := cc) (maxL := maxL) (ret := ret) hy rfl ?_
  intro p e s m args below meth c s₁ B hml hv
  obtain ⟨rfl, hsz, hP, hK, hZ⟩ := hv
  have hts := atoms_spec (ws := .code y cc maxL ret :: g_T) B.pre
  have hl := lv_entry av (n := maxL) hlen
  rw [lg_entry_eq]
  exact body p e s m below meth c _ ⟨B.exec, B.bytes, hml, findClass_of_methodNamed B.named, (name_of_methodNamed B.named B.method).1, B.notSynchronized, fun w hw => hts w (List.mem_cons_of_mem _ hw), hK, hZ⟩ B.returns hsz
    ⟨hP, fun a c ha hc => Or.inl ⟨c, ha, hc⟩, fun q hq => Or.inr (by omega), va_S.rf⟩ hl
/-- a method that is called -/
def gM (y : MethodName) (bytes : ByteArray) (maxL : Nat) (ret : Option FieldType) (n : Nat) : Prop := Cond.code y bytes maxL ret ∈ g_T ∧ Cond.initialized y.cls ∈ g_T ∧ (y.cls ≠ "java/lang/invoke/MethodHandle" ∧ y.cls ≠ "java/lang/invoke/VarHandle") ∧ (parseMethodDescriptor y.desc).map (fun d => d.parameters.length) = some n
section FC
variable {p : Program} {l : Launch} {e : Env} {R : Room} {s : State} {m : MethodId} {args : Array Value} {below : List Frame} {meth : Method} {c : Code} {H : Heap} {locs : List Loc} {cells slots : Nat} {Q : State → Prop}
variable {cc bytes : ByteArray} {pc nL maxL n index : Nat} {ls : Array Slot} {rest As st0 : List Value} {A : Nat → Prop} {a r o ci : Nat} {h : fH} {G : gG} {own nm : String} {y : MethodName} {rm : Room} {ret : Option FieldType} {Qc : Array Value → State → Outcome → State → Prop}
theorem f_len {sig : MethodDescriptor} (hd : (parseMethodDescriptor y.desc).map (fun d => d.parameters.length) = some n) (hs : parseMethodDescriptor y.desc = some sig) : n = sig.parameters.length := by
  rw [hs] at hd
  exact (Option.some.inj hd).symm
theorem f_free (hI : fI G.1 g_cl A s.heap h H locs) : ∀ q, fA h H.size q → A q := by
  intro q hq
  rcases hq with ⟨c, h1, h2⟩ | hq
  · exact hI.2.1 q c h1 h2
  · exact hI.2.2.1 q (Nat.le_trans hI.2.2.2.1 hq)
theorem f_pre (hC : gC G p s m args meth c A cc nL own nm) (hI : fI G.1 g_cl A s.heap h H locs) (av : List Value) : ∀ U : State, U.heap = H → s.WarmedH U.vm → va_Pc av (gPre G h H.size) av.toArray U := by
  intro U hU hW
  refine ⟨rfl, by rw [hU], by rw [hU]; exact hI.1, gK.warm hW hC.2.2.2.2.2.2.2.1, fun z hz => ?_⟩
  rw [hU]
  exact (((hC.2.2.2.2.2.2.2.2 z hz).kept hI.2.2.2.2.1).narrow (f_free hI)).moved hW.alike
theorem f_callB (hC : gC G p s m args meth c A cc nL own nm) (gm : gM y bytes maxL ret n) (hl : Cond.methodLink own index y ∈ g_T) (hR : rm.frames + 1 ≤ R.frames ∧ 8 + (maxL + 11) + rm.locals ≤ R.locals) : CallB R s args own index y bytes maxL ret (.code y bytes maxL ret :: g_T) rm rm.cells rm.slots n := by
  obtain ⟨h1, h2, h3, h4⟩ := gm
  have hT := hC.2.2.2.2.2.2.1
  have hp : ∀ w ∈ (Cond.code y bytes maxL ret :: g_T), w ∈ g_T := fun w hw => by
    rcases List.mem_cons.mp hw with q | q
    · rw [q]; exact h1
    · exact q
  exact ⟨rfl, rfl, hR.1, hR.2, fun w hw a' U hW => word_at hW (g_T_good w (hp w hw)) (hT w (hp w hw)), List.mem_cons_self, hT _ h1, hT _ h2, h3, fun sig hs => f_len h4 hs, hT _ hl⟩
theorem f_callN {host : String} (hC : gC G p s m args meth c A cc nL own nm) (gm : gM y bytes maxL ret n) (hl : Cond.methodLinkNest own index y host ∈ g_nl) (hR : rm.frames + 1 ≤ R.frames ∧ 8 + (maxL + 11) + rm.locals ≤ R.locals) : va_CN R s args own index y host bytes maxL ret (.code y bytes maxL ret :: g_T) rm rm.cells rm.slots n := by
  obtain ⟨h1, h2, h3, h4⟩ := gm
  have hT := hC.2.2.2.2.2.2.1
  have hp : ∀ w ∈ (Cond.code y bytes maxL ret :: g_T), w ∈ g_T := fun w hw => by
    rcases List.mem_cons.mp hw with q | q
    · rw [q]; exact h1
    · exact q
  exact ⟨⟨rfl, rfl, hR.1, hR.2, fun w hw a' U hW => word_at hW (g_T_good w (hp w hw)) (hT w (hp w hw)), List.mem_cons_self⟩, hT _ h1, hT _ h2, h3, fun sig hs => f_len h4 hs, va_Nw.use rfl (hC.2.2.2.2.2.2.2.1.2.1 _ hl)⟩
theorem f_recv (hC : gC G p s m args meth c A cc nL own nm) (hI : fI G.1 g_cl A s.heap h H locs) {fs : List Value} {q : vw_C} (he : h a = some (r, o, .inr (ci, fs))) (hq : g_cl[ci]? = some q) : ∃ cell : Cell, H[a]? = some cell ∧ cell.vm.isStatics = false ∧ s.vm.findClass q.1 = some cell.cls := by
  obtain ⟨r', cell, h1, q1, q2, q3, q5, q4⟩ := (hI.1 a _ he).1
  exact ⟨cell, q1, q5, by rw [q2]; exact (hC.2.2.2.2.2.2.2.1.1.1 ci q hq).2.1⟩
/-- invokevirtual, of the receiver's own class -/
theorem f_runV (hC : gC G p s m args meth c A cc nL own nm) (hI : fI G.1 g_cl A s.heap h H locs) (hM : cM l y bytes maxL ret rm G (.ref a :: As) h H.size Qc) (gm : gM y bytes maxL ret n) (hi : Cond.instanceMethod y ∈ g_T) (hs : Cond.selects y.cls y y ∈ g_T) (hl : Cond.methodLink own index y ∈ g_T) {fs : List Value} {q : vw_C} (he : h a = some (r, o, .inr (ci, fs))) (hq : g_cl[ci]? = some q) (hqc : q.1 = y.cls)
    (hn : As.length = n) (hsize : ls.size = nL) (hstack : st0 = As.reverse ++ .ref a :: rest) (hW : (rest.map fun v => v.category).sum ≤ 8) (hR : rm.frames + 1 ≤ R.frames ∧ 8 + (maxL + 11) + rm.locals ≤ R.locals) (hdg : decode cc pc = .ok (.invokevirtual index, 3)) (hf : cells + rm.cells ≤ R.cells ∧ slots + rm.slots ≤ R.slots) :
    va_Run p l e R s m args below meth c H locs cells slots rm.cells rm.slots (F0 m pc ls st0) rest (Qc (Value.ref a :: As).toArray) (fA h H.size) :=
  va_runV (C := y.cls) ⟨hC.1, hC.2.1, hC.2.2.1, hC.2.2.2.1, hC.2.2.2.2.2.2.1⟩ hM ⟨f_callB hC gm hl hR, hC.2.2.2.2.2.2.1 _ hi, hC.2.2.2.2.2.2.1 _ hs⟩ ⟨gPre.blind, by rw [← hqc]; exact f_recv hC hI he hq, f_pre hC hI _⟩ rfl hn hsize hstack (lv_room hW) hdg hf
theorem f_runVN {host : String} (hC : gC G p s m args meth c A cc nL own nm) (hI : fI G.1 g_cl A s.heap h H locs) (hM : cM l y bytes maxL ret rm G (.ref a :: As) h H.size Qc) (gm : gM y bytes maxL ret n) (hi : Cond.instanceMethod y ∈ g_T) (hs : Cond.selects y.cls y y ∈ g_T) (hl : Cond.methodLinkNest own index y host ∈ g_nl) {fs : List Value} {q : vw_C} (he : h a = some (r, o, .inr (ci, fs))) (hq : g_cl[ci]? = some q) (hqc : q.1 = y.cls)
    (hn : As.length = n) (hsize : ls.size = nL) (hstack : st0 = As.reverse ++ .ref a :: rest) (hW : (rest.map fun v => v.category).sum ≤ 8) (hR : rm.frames + 1 ≤ R.frames ∧ 8 + (maxL + 11) + rm.locals ≤ R.locals) (hdg : decode cc pc = .ok (.invokevirtual index, 3)) (hf : cells + rm.cells ≤ R.cells ∧ slots + rm.slots ≤ R.slots) :
    va_Run p l e R s m args below meth c H locs cells slots rm.cells rm.slots (F0 m pc ls st0) rest (Qc (Value.ref a :: As).toArray) (fA h H.size) :=
  va_runVN (C := y.cls) ⟨hC.1, hC.2.1, hC.2.2.1, hC.2.2.2.1, hC.2.2.2.2.2.2.1⟩ hM ⟨f_callN hC gm hl hR, hC.2.2.2.2.2.2.1 _ hi, hC.2.2.2.2.2.2.1 _ hs⟩ ⟨gPre.blind, by rw [← hqc]; exact f_recv hC hI he hq, f_pre hC hI _⟩ rfl hn hsize hstack (lv_room hW) hdg hf
theorem f_runS (hC : gC G p s m args meth c A cc nL own nm) (hI : fI G.1 g_cl A s.heap h H locs) (hM : cM l y bytes maxL ret rm G As h H.size Qc) (gm : gM y bytes maxL ret n) (hi : Cond.static y ∈ g_T) (hl : Cond.methodLink own index y ∈ g_T)
    (hn : As.length = n) (hsize : ls.size = nL) (hstack : st0 = As.reverse ++ rest) (hW : (rest.map fun v => v.category).sum ≤ 8) (hR : rm.frames + 1 ≤ R.frames ∧ 8 + (maxL + 11) + rm.locals ≤ R.locals) (hdg : decode cc pc = .ok (.invokestatic index, 3)) (hf : cells + rm.cells ≤ R.cells ∧ slots + rm.slots ≤ R.slots) :
    va_Run p l e R s m args below meth c H locs cells slots rm.cells rm.slots (F0 m pc ls st0) rest (Qc As.toArray) (fA h H.size) :=
  va_runS ⟨hC.1, hC.2.1, hC.2.2.1, hC.2.2.2.1, hC.2.2.2.2.2.2.1⟩ hM ⟨f_callB hC gm hl hR, hC.2.2.2.2.2.2.1 _ hi⟩ ⟨gPre.blind, f_pre hC hI _⟩ rfl hn hsize hstack (lv_room hW) hdg hf
theorem f_runSN {host : String} (hC : gC G p s m args meth c A cc nL own nm) (hI : fI G.1 g_cl A s.heap h H locs) (hM : cM l y bytes maxL ret rm G As h H.size Qc) (gm : gM y bytes maxL ret n) (hi : Cond.static y ∈ g_T) (hl : Cond.methodLinkNest own index y host ∈ g_nl)
    (hn : As.length = n) (hsize : ls.size = nL) (hstack : st0 = As.reverse ++ rest) (hW : (rest.map fun v => v.category).sum ≤ 8) (hR : rm.frames + 1 ≤ R.frames ∧ 8 + (maxL + 11) + rm.locals ≤ R.locals) (hdg : decode cc pc = .ok (.invokestatic index, 3)) (hf : cells + rm.cells ≤ R.cells ∧ slots + rm.slots ≤ R.slots) :
    va_Run p l e R s m args below meth c H locs cells slots rm.cells rm.slots (F0 m pc ls st0) rest (Qc As.toArray) (fA h H.size) :=
  va_runSN ⟨hC.1, hC.2.1, hC.2.2.1, hC.2.2.2.1, hC.2.2.2.2.2.2.1⟩ hM ⟨f_callN hC gm hl hR, hC.2.2.2.2.2.2.1 _ hi, trivial⟩ ⟨gPre.blind, f_pre hC hI _⟩ rfl hn hsize hstack (lv_room hW) hdg hf
theorem f_runI (hC : gC G p s m args meth c A cc nL own nm) (hI : fI G.1 g_cl A s.heap h H locs) (hM : cM l y bytes maxL none rm G (.ref a :: As) h H.size Qc) (gm : gM y bytes maxL none n) (hi : Cond.instanceMethod y ∈ g_T) (hy1 : y.name = "<init>") (hl : Cond.methodLink own index y ∈ g_T)
    (hn : As.length = n) (hsize : ls.size = nL) (hstack : st0 = As.reverse ++ .ref a :: rest) (hW : (rest.map fun v => v.category).sum ≤ 8) (hR : rm.frames + 1 ≤ R.frames ∧ 8 + (maxL + 11) + rm.locals ≤ R.locals) (hdg : decode cc pc = .ok (.invokespecial index, 3)) (hf : cells + rm.cells ≤ R.cells ∧ slots + rm.slots ≤ R.slots) :
    va_Run p l e R s m args below meth c H locs cells slots rm.cells rm.slots (F0 m pc ls st0) rest (Qc (Value.ref a :: As).toArray) (fA h H.size) :=
  va_runI ⟨hC.1, hC.2.1, hC.2.2.1, hC.2.2.2.1, hC.2.2.2.2.2.2.1⟩ hM ⟨f_callB hC gm hl hR, hy1, hC.2.2.2.2.2.2.1 _ hi⟩ ⟨gPre.blind, f_pre hC hI _⟩ rfl hn hsize hstack (lv_room hW) hdg hf
theorem f_runIN {host : String} (hC : gC G p s m args meth c A cc nL own nm) (hI : fI G.1 g_cl A s.heap h H locs) (hM : cM l y bytes maxL none rm G (.ref a :: As) h H.size Qc) (gm : gM y bytes maxL none n) (hi : Cond.instanceMethod y ∈ g_T) (hy1 : y.name = "<init>") (hl : Cond.methodLinkNest own index y host ∈ g_nl)
    (hn : As.length = n) (hsize : ls.size = nL) (hstack : st0 = As.reverse ++ .ref a :: rest) (hW : (rest.map fun v => v.category).sum ≤ 8) (hR : rm.frames + 1 ≤ R.frames ∧ 8 + (maxL + 11) + rm.locals ≤ R.locals) (hdg : decode cc pc = .ok (.invokespecial index, 3)) (hf : cells + rm.cells ≤ R.cells ∧ slots + rm.slots ≤ R.slots) :
    va_Run p l e R s m args below meth c H locs cells slots rm.cells rm.slots (F0 m pc ls st0) rest (Qc (Value.ref a :: As).toArray) (fA h H.size) :=
  va_runIN ⟨hC.1, hC.2.1, hC.2.2.1, hC.2.2.2.1, hC.2.2.2.2.2.2.1⟩ hM ⟨f_callN hC gm hl hR, hy1, hC.2.2.2.2.2.2.1 _ hi⟩ ⟨gPre.blind, f_pre hC hI _⟩ rfl hn hsize hstack (lv_room hW) hdg hf
theorem f_dom (hI : fI G.1 g_cl A s.heap h H locs) {h' : fH} (hX : fX h H.size h') : ∀ (a : Nat) (c : fC), h' a = some c → c.1 ≠ 0 → A a := by
  intro a c ha hc
  rcases hX.2 a c ha hc with ⟨c', h1, h2⟩ | h1
  · exact hI.2.1 a c' h1 h2
  · exact hI.2.2.1 a (Nat.le_trans hI.2.2.2.1 h1)
variable {mc ms : Nat} {av : Array Value}
theorem f_calli {post : Int32 → fH → Prop} (hI : fI G.1 g_cl A s.heap h H locs) (hr : va_Run p l e R s m args below meth c H locs cells slots mc ms (F0 m pc ls st0) rest (cQi G h H.size post av) (fA h H.size))
    (kk : ∀ (r : Int32) (h' : fH) (H1 : Heap) (locs : List Loc), post r h' → fX h H.size h' → H.size ≤ H1.size → fI G.1 g_cl A s.heap h' H1 locs → W p l e R s m args below meth c H1 locs (cells + mc) (slots + ms) Q (F0 m (pc + 3) ls (.int r :: rest))) : W p l e R s m args below meth c H locs cells slots Q (F0 m pc ls st0) :=
  va_calli hr hI.2.2.2 (fun q _ hq => f_free hI q hq) (f_free hI) (fun r h' t H1 locs1 ht _ hp hB hz _ hS => kk r h' H1 locs1 hp.1 hp.2 hz ⟨by rw [← ht]; exact hB, f_dom hI hp.2, hI.2.2.1, hS⟩)
theorem f_calll {post : Int64 → fH → Prop} (hI : fI G.1 g_cl A s.heap h H locs) (hr : va_Run p l e R s m args below meth c H locs cells slots mc ms (F0 m pc ls st0) rest (cQl G h H.size post av) (fA h H.size))
    (kk : ∀ (r : Int64) (h' : fH) (H1 : Heap) (locs : List Loc), post r h' → fX h H.size h' → H.size ≤ H1.size → fI G.1 g_cl A s.heap h' H1 locs → W p l e R s m args below meth c H1 locs (cells + mc) (slots + ms) Q (F0 m (pc + 3) ls (.long r :: rest))) : W p l e R s m args below meth c H locs cells slots Q (F0 m pc ls st0) :=
  va_calll hr hI.2.2.2 (fun q _ hq => f_free hI q hq) (f_free hI) (fun r h' t H1 locs1 ht _ hp hB hz _ hS => kk r h' H1 locs1 hp.1 hp.2 hz ⟨by rw [← ht]; exact hB, f_dom hI hp.2, hI.2.2.1, hS⟩)
theorem f_callv {post : fH → Prop} (hI : fI G.1 g_cl A s.heap h H locs) (hr : va_Run p l e R s m args below meth c H locs cells slots mc ms (F0 m pc ls st0) rest (cQv G h H.size post av) (fA h H.size))
    (kk : ∀ (h' : fH) (H1 : Heap) (locs : List Loc), post h' → fX h H.size h' → H.size ≤ H1.size → fI G.1 g_cl A s.heap h' H1 locs → W p l e R s m args below meth c H1 locs (cells + mc) (slots + ms) Q (F0 m (pc + 3) ls rest)) : W p l e R s m args below meth c H locs cells slots Q (F0 m pc ls st0) :=
  va_callv hr hI.2.2.2 (fun q _ hq => f_free hI q hq) (f_free hI) (fun h' t H1 locs1 ht _ hp hB hz _ hS => kk h' H1 locs1 hp.1 hp.2 hz ⟨by rw [← ht]; exact hB, f_dom hI hp.2, hI.2.2.1, hS⟩)
theorem f_callq {post : Option Nat → fH → Prop} (hI : fI G.1 g_cl A s.heap h H locs) (hr : va_Run p l e R s m args below meth c H locs cells slots mc ms (F0 m pc ls st0) rest (cQq G h H.size post av) (fA h H.size))
    (kk : ∀ (r : Option Nat) (h' : fH) (H1 : Heap) (locs : List Loc), post r h' → fX h H.size h' → H.size ≤ H1.size → fI G.1 g_cl A s.heap h' H1 locs → W p l e R s m args below meth c H1 locs (cells + mc) (slots + ms) Q (F0 m (pc + 3) ls (va_rf r :: rest))) : W p l e R s m args below meth c H locs cells slots Q (F0 m pc ls st0) :=
  va_callq hr hI.2.2.2 (fun q _ hq => f_free hI q hq) (f_free hI) (fun r h' t H1 locs1 ht _ hp hB hz _ hS => kk r h' H1 locs1 hp.1 hp.2 hz ⟨by rw [← ht]; exact hB, f_dom hI hp.2, hI.2.2.1, hS⟩)
variable {h0 : fH} {sz k k2 : Nat}
theorem f_iret {post : Int32 → fH → Prop} {v : Int32} (hC : gC G p s m args meth c (fA h0 sz) cc nL own nm) (hr : meth.sig.returnType = some .int) (hI : fI G.1 g_cl (fA h0 sz) s.heap h H locs) (hp : post v h) (hX : fX h0 sz h) (hk : cells ≤ k) (hk2 : slots ≤ k2) (hdg : decode cc pc = .ok (.ireturn, 1)) :
    W p l e R s m args below meth c H locs cells slots (MQ below (cQi G h0 sz post) args s k k2 (fA h0 sz)) (F0 m pc ls [.int v]) :=
  W.widen hk hk2 (W.iret hC.1 hC.2.1 hr (fun t ht _ => ⟨⟨v, h, rfl, ⟨hp, hX⟩, (by show fP _ _ _ t.heap; rw [ht]; exact hI.1)⟩, hI.2.2.2.F ht⟩) hI.2.2.2.2.2 hdg hC.2.2.2.2.2.1)
theorem f_zret {post : Int32 → fH → Prop} {v : Int32} {ty : FieldType} (hC : gC G p s m args meth c (fA h0 sz) cc nL own nm) (hr : meth.sig.returnType = some ty) (hn : narrow ty (.int v) = .int v) (hI : fI G.1 g_cl (fA h0 sz) s.heap h H locs) (hp : post v h) (hX : fX h0 sz h) (hk : cells ≤ k) (hk2 : slots ≤ k2) (hdg : decode cc pc = .ok (.ireturn, 1)) :
    W p l e R s m args below meth c H locs cells slots (MQ below (cQi G h0 sz post) args s k k2 (fA h0 sz)) (F0 m pc ls [.int v]) :=
  W.widen hk hk2 (W.zret hC.1 hC.2.1 hr hn (fun t ht _ => ⟨⟨v, h, rfl, ⟨hp, hX⟩, (by show fP _ _ _ t.heap; rw [ht]; exact hI.1)⟩, hI.2.2.2.F ht⟩) hI.2.2.2.2.2 hdg hC.2.2.2.2.2.1)
theorem f_lret {post : Int64 → fH → Prop} {v : Int64} (hC : gC G p s m args meth c (fA h0 sz) cc nL own nm) (hr : meth.sig.returnType = some .long) (hI : fI G.1 g_cl (fA h0 sz) s.heap h H locs) (hp : post v h) (hX : fX h0 sz h) (hk : cells ≤ k) (hk2 : slots ≤ k2) (hdg : decode cc pc = .ok (.lreturn, 1)) :
    W p l e R s m args below meth c H locs cells slots (MQ below (cQl G h0 sz post) args s k k2 (fA h0 sz)) (F0 m pc ls [.long v]) :=
  W.widen hk hk2 (W.lret hC.1 hC.2.1 hr (fun t ht _ => ⟨⟨v, h, rfl, ⟨hp, hX⟩, (by show fP _ _ _ t.heap; rw [ht]; exact hI.1)⟩, hI.2.2.2.F ht⟩) hI.2.2.2.2.2 hdg hC.2.2.2.2.2.1)
theorem f_vret {post : fH → Prop} (hC : gC G p s m args meth c (fA h0 sz) cc nL own nm) (hr : meth.sig.returnType = none) (hI : fI G.1 g_cl (fA h0 sz) s.heap h H locs) (hp : post h) (hX : fX h0 sz h) (hk : cells ≤ k) (hk2 : slots ≤ k2) (hdg : decode cc pc = .ok (.return_, 1)) :
    W p l e R s m args below meth c H locs cells slots (MQ below (cQv G h0 sz post) args s k k2 (fA h0 sz)) (F0 m pc ls []) :=
  W.widen hk hk2 (W.vret hC.1 hC.2.1 hr (fun t ht _ => ⟨⟨h, rfl, ⟨hp, hX⟩, (by show fP _ _ _ t.heap; rw [ht]; exact hI.1)⟩, hI.2.2.2.F ht⟩) hI.2.2.2.2.2 hdg hC.2.2.2.2.2.1)
theorem f_aret {post : Option Nat → fH → Prop} {v : Option Nat} {rt : FieldType} (hC : gC G p s m args meth c (fA h0 sz) cc nL own nm) (hr : meth.sig.returnType = some rt) (hrt : (∃ n, rt = .object n) ∨ ∃ t, rt = .array t) (hI : fI G.1 g_cl (fA h0 sz) s.heap h H locs) (hp : post v h) (hX : fX h0 sz h) (hk : cells ≤ k) (hk2 : slots ≤ k2) (hdg : decode cc pc = .ok (.areturn, 1)) :
    W p l e R s m args below meth c H locs cells slots (MQ below (cQq G h0 sz post) args s k k2 (fA h0 sz)) (F0 m pc ls [va_rf v]) :=
  W.widen hk hk2 (W.aret hC.1 hC.2.1 hr hrt (va_rf_or v) (fun t ht _ => ⟨⟨v, h, rfl, ⟨hp, hX⟩, (by show fP _ _ _ t.heap; rw [ht]; exact hI.1)⟩, hI.2.2.2.F ht⟩) hI.2.2.2.2.2 hdg hC.2.2.2.2.2.1)
end FC
end
section
theorem gm_DR_isLot : gM y_DR_isLot b_DR_isLot 1 (some .boolean) 1 := ⟨w_560, w_1, ⟨by decide, by decide⟩, by decide +kernel⟩
set_option maxHeartbeats 4000000 in
set_option maxRecDepth 100000 in
/-- DR_isLot  -/
theorem c_DR_isLot (l : Launch) (G : gG) (h : fH) (sz : Nat) (a : Int32) : cM l y_DR_isLot b_DR_isLot 1 (some .boolean) { frames := 0, cells := 0, slots := 0, locals := 0 } G [.int a] h sz (cQi G h sz (fun (r : Int32) h' => r = (if a < 0 then 0 else (if 30 ≤ a then 0 else 1)) ∧ h' = h)) := by
  refine f_start (by decide) (Nat.le_of_ble_eq_true rfl) ?_
  intro p e s m below meth c ls C hr hsz hI hl
  obtain ⟨hx, hb, hml, hown, hnm, hlk, hT, hG, hZ⟩ := id C
  have hK := hG.1
  have hX : fX h sz h := fX.rf
  have hl : lv_has ls 1 [(0, .int a)] := hl
  refine lv_iload_n hx hb d_DR_isLot_0 rfl (lv_at hl 0 rfl) ?_
  refine lv_if_lt (tgt := 14) hx hb d_DR_isLot_1 (by decide) (fun c_1 => ?_) (fun c_1 => ?_)
  · skip
    refine lv_iconst (v := 0) hx hb d_DR_isLot_14 (by decide) ?_
    exact f_zret C hr rfl hI ⟨by rw [if_pos c_1], rfl⟩ hX (Nat.le_refl _) (Nat.le_refl _) d_DR_isLot_15
  · skip
    refine lv_iload_n hx hb d_DR_isLot_4 rfl (lv_at hl 0 rfl) ?_
    refine lv_bipush (v := 30) hx hb d_DR_isLot_5 (by decide) ?_
    refine lv_icmp_ge (tgt := 14) hx hb d_DR_isLot_7 (by decide) (fun c_2 => ?_) (fun c_2 => ?_)
    · skip
      refine lv_iconst (v := 0) hx hb d_DR_isLot_14 (by decide) ?_
      exact f_zret C hr rfl hI ⟨by rw [if_neg c_1, if_pos c_2], rfl⟩ hX (Nat.le_refl _) (Nat.le_refl _) d_DR_isLot_15
    · skip
      refine lv_iconst (v := 1) hx hb d_DR_isLot_10 (by decide) ?_
      refine lv_goto (tgt := 15) hx hb d_DR_isLot_11 (by decide) ?_
      exact f_zret C hr rfl hI ⟨by rw [if_neg c_1, if_neg c_2], rfl⟩ hX (Nat.le_refl _) (Nat.le_refl _) d_DR_isLot_15
theorem gm_DR_isFactKind : gM y_DR_isFactKind b_DR_isFactKind 1 (some .boolean) 1 := ⟨w_563, w_1, ⟨by decide, by decide⟩, by decide +kernel⟩
set_option maxHeartbeats 4000000 in
set_option maxRecDepth 100000 in
/-- DR_isFactKind  -/
theorem c_DR_isFactKind (l : Launch) (G : gG) (h : fH) (sz : Nat) (a : Int32) : cM l y_DR_isFactKind b_DR_isFactKind 1 (some .boolean) { frames := 0, cells := 0, slots := 0, locals := 0 } G [.int a] h sz (cQi G h sz (fun (r : Int32) h' => r = (if a < 0 then 0 else (if 6 ≤ a then 0 else 1)) ∧ h' = h)) := by
  refine f_start (by decide) (Nat.le_of_ble_eq_true rfl) ?_
  intro p e s m below meth c ls C hr hsz hI hl
  obtain ⟨hx, hb, hml, hown, hnm, hlk, hT, hG, hZ⟩ := id C
  have hK := hG.1
  have hX : fX h sz h := fX.rf
  have hl : lv_has ls 1 [(0, .int a)] := hl
  refine lv_iload_n hx hb d_DR_isFactKind_0 rfl (lv_at hl 0 rfl) ?_
  refine lv_if_lt (tgt := 14) hx hb d_DR_isFactKind_1 (by decide) (fun c_1 => ?_) (fun c_1 => ?_)
  · skip
    refine lv_iconst (v := 0) hx hb d_DR_isFactKind_14 (by decide) ?_
    exact f_zret C hr rfl hI ⟨by rw [if_pos c_1], rfl⟩ hX (Nat.le_refl _) (Nat.le_refl _) d_DR_isFactKind_15
  · skip
    refine lv_iload_n hx hb d_DR_isFactKind_4 rfl (lv_at hl 0 rfl) ?_
    refine lv_bipush (v := 6) hx hb d_DR_isFactKind_5 (by decide) ?_
    refine lv_icmp_ge (tgt := 14) hx hb d_DR_isFactKind_7 (by decide) (fun c_2 => ?_) (fun c_2 => ?_)
    · skip
      refine lv_iconst (v := 0) hx hb d_DR_isFactKind_14 (by decide) ?_
      exact f_zret C hr rfl hI ⟨by rw [if_neg c_1, if_pos c_2], rfl⟩ hX (Nat.le_refl _) (Nat.le_refl _) d_DR_isFactKind_15
    · skip
      refine lv_iconst (v := 1) hx hb d_DR_isFactKind_10 (by decide) ?_
      refine lv_goto (tgt := 15) hx hb d_DR_isFactKind_11 (by decide) ?_
      exact f_zret C hr rfl hI ⟨by rw [if_neg c_1, if_neg c_2], rfl⟩ hX (Nat.le_refl _) (Nat.le_refl _) d_DR_isFactKind_15
theorem gm_DR_isDay : gM y_DR_isDay b_DR_isDay 2 (some .boolean) 1 := ⟨w_548, w_1, ⟨by decide, by decide⟩, by decide +kernel⟩
set_option maxHeartbeats 4000000 in
set_option maxRecDepth 100000 in
/-- DR_isDay  -/
theorem c_DR_isDay (l : Launch) (G : gG) (h : fH) (sz : Nat) (a : Int64) : cM l y_DR_isDay b_DR_isDay 2 (some .boolean) { frames := 0, cells := 0, slots := 0, locals := 0 } G [.long a] h sz (cQi G h sz (fun (r : Int32) h' => r = (if a < 0 then 0 else (if 100000 < a then 0 else 1)) ∧ h' = h)) := by
  refine f_start (by decide) (Nat.le_of_ble_eq_true rfl) ?_
  intro p e s m below meth c ls C hr hsz hI hl
  obtain ⟨hx, hb, hml, hown, hnm, hlk, hT, hG, hZ⟩ := id C
  have hK := hG.1
  have hX : fX h sz h := fX.rf
  have hl : lv_has ls 2 [(0, .long a)] := hl
  refine lv_lload_n hx hb d_DR_isDay_0 rfl (lv_at hl 0 rfl) ?_
  refine lv_lconst (v := 0) hx hb d_DR_isDay_1 (by decide) ?_
  refine f_lc_lt (tgt := 18) hx hb d_DR_isDay_2 d_DR_isDay_3 (by decide) (fun c_1 => ?_) (fun c_1 => ?_)
  · skip
    refine lv_iconst (v := 0) hx hb d_DR_isDay_18 (by decide) ?_
    exact f_zret C hr rfl hI ⟨by rw [if_pos c_1], rfl⟩ hX (Nat.le_refl _) (Nat.le_refl _) d_DR_isDay_19
  · skip
    refine lv_lload_n hx hb d_DR_isDay_6 rfl (lv_at hl 0 rfl) ?_
    refine lv_ldc2 (v := 100000) hx hb hown (hT _ w_549) d_DR_isDay_7 ?_
    refine f_lc_gt (tgt := 18) hx hb d_DR_isDay_10 d_DR_isDay_11 (by decide) (fun c_2 => ?_) (fun c_2 => ?_)
    · skip
      refine lv_iconst (v := 0) hx hb d_DR_isDay_18 (by decide) ?_
      exact f_zret C hr rfl hI ⟨by rw [if_neg c_1, if_pos c_2], rfl⟩ hX (Nat.le_refl _) (Nat.le_refl _) d_DR_isDay_19
    · skip
      refine lv_iconst (v := 1) hx hb d_DR_isDay_14 (by decide) ?_
      refine lv_goto (tgt := 19) hx hb d_DR_isDay_15 (by decide) ?_
      exact f_zret C hr rfl hI ⟨by rw [if_neg c_1, if_neg c_2], rfl⟩ hX (Nat.le_refl _) (Nat.le_refl _) d_DR_isDay_19
theorem gm_DR_isMonth : gM y_DR_isMonth b_DR_isMonth 1 (some .boolean) 1 := ⟨w_702, w_1, ⟨by decide, by decide⟩, by decide +kernel⟩
set_option maxHeartbeats 4000000 in
set_option maxRecDepth 100000 in
/-- DR_isMonth  -/
theorem c_DR_isMonth (l : Launch) (G : gG) (h : fH) (sz : Nat) (a : Int32) : cM l y_DR_isMonth b_DR_isMonth 1 (some .boolean) { frames := 0, cells := 0, slots := 0, locals := 0 } G [.int a] h sz (cQi G h sz (fun (r : Int32) h' => r = (if a < 0 then 0 else (if 3000 < a then 0 else 1)) ∧ h' = h)) := by
  refine f_start (by decide) (Nat.le_of_ble_eq_true rfl) ?_
  intro p e s m below meth c ls C hr hsz hI hl
  obtain ⟨hx, hb, hml, hown, hnm, hlk, hT, hG, hZ⟩ := id C
  have hK := hG.1
  have hX : fX h sz h := fX.rf
  have hl : lv_has ls 1 [(0, .int a)] := hl
  refine lv_iload_n hx hb d_DR_isMonth_0 rfl (lv_at hl 0 rfl) ?_
  refine lv_if_lt (tgt := 15) hx hb d_DR_isMonth_1 (by decide) (fun c_1 => ?_) (fun c_1 => ?_)
  · skip
    refine lv_iconst (v := 0) hx hb d_DR_isMonth_15 (by decide) ?_
    exact f_zret C hr rfl hI ⟨by rw [if_pos c_1], rfl⟩ hX (Nat.le_refl _) (Nat.le_refl _) d_DR_isMonth_16
  · skip
    refine lv_iload_n hx hb d_DR_isMonth_4 rfl (lv_at hl 0 rfl) ?_
    refine lv_sipush (v := 3000) hx hb d_DR_isMonth_5 (by decide) ?_
    refine lv_icmp_gt (tgt := 15) hx hb d_DR_isMonth_8 (by decide) (fun c_2 => ?_) (fun c_2 => ?_)
    · skip
      refine lv_iconst (v := 0) hx hb d_DR_isMonth_15 (by decide) ?_
      exact f_zret C hr rfl hI ⟨by rw [if_neg c_1, if_pos c_2], rfl⟩ hX (Nat.le_refl _) (Nat.le_refl _) d_DR_isMonth_16
    · skip
      refine lv_iconst (v := 1) hx hb d_DR_isMonth_11 (by decide) ?_
      refine lv_goto (tgt := 16) hx hb d_DR_isMonth_12 (by decide) ?_
      exact f_zret C hr rfl hI ⟨by rw [if_neg c_1, if_neg c_2], rfl⟩ hX (Nat.le_refl _) (Nat.le_refl _) d_DR_isMonth_16
theorem gm_DR_isPart : gM y_DR_isPart b_DR_isPart 1 (some .boolean) 1 := ⟨w_620, w_1, ⟨by decide, by decide⟩, by decide +kernel⟩
set_option maxHeartbeats 4000000 in
set_option maxRecDepth 100000 in
/-- DR_isPart  -/
theorem c_DR_isPart (l : Launch) (G : gG) (h : fH) (sz : Nat) (a : Int32) : cM l y_DR_isPart b_DR_isPart 1 (some .boolean) { frames := 0, cells := 0, slots := 0, locals := 0 } G [.int a] h sz (cQi G h sz (fun (r : Int32) h' => r = (if a = 0 then 1 else (if a = 1 then 1 else 0)) ∧ h' = h)) := by
  refine f_start (by decide) (Nat.le_of_ble_eq_true rfl) ?_
  intro p e s m below meth c ls C hr hsz hI hl
  obtain ⟨hx, hb, hml, hown, hnm, hlk, hT, hG, hZ⟩ := id C
  have hK := hG.1
  have hX : fX h sz h := fX.rf
  have hl : lv_has ls 1 [(0, .int a)] := hl
  refine lv_iload_n hx hb d_DR_isPart_0 rfl (lv_at hl 0 rfl) ?_
  refine lv_if_eq (tgt := 9) hx hb d_DR_isPart_1 (by decide) (fun c_1 => ?_) (fun c_1 => ?_)
  · skip
    refine lv_iconst (v := 1) hx hb d_DR_isPart_9 (by decide) ?_
    refine lv_goto (tgt := 14) hx hb d_DR_isPart_10 (by decide) ?_
    exact f_zret C hr rfl hI ⟨by rw [if_pos c_1], rfl⟩ hX (Nat.le_refl _) (Nat.le_refl _) d_DR_isPart_14
  · skip
    refine lv_iload_n hx hb d_DR_isPart_4 rfl (lv_at hl 0 rfl) ?_
    refine lv_iconst (v := 1) hx hb d_DR_isPart_5 (by decide) ?_
    refine lv_icmp_ne (tgt := 13) hx hb d_DR_isPart_6 (by decide) (fun c_2 => ?_) (fun c_2 => ?_)
    · skip
      refine lv_iconst (v := 0) hx hb d_DR_isPart_13 (by decide) ?_
      exact f_zret C hr rfl hI ⟨by rw [if_neg c_1, if_neg c_2], rfl⟩ hX (Nat.le_refl _) (Nat.le_refl _) d_DR_isPart_14
    · skip
      refine lv_iconst (v := 1) hx hb d_DR_isPart_9 (by decide) ?_
      refine lv_goto (tgt := 14) hx hb d_DR_isPart_10 (by decide) ?_
      exact f_zret C hr rfl hI ⟨by rw [if_neg c_1, if_pos c_2], rfl⟩ hX (Nat.le_refl _) (Nat.le_refl _) d_DR_isPart_14
theorem gm_DR_lastDayOf : gM y_DR_lastDayOf b_DR_lastDayOf 1 (some .int) 1 := ⟨w_706, w_1, ⟨by decide, by decide⟩, by decide +kernel⟩
set_option maxHeartbeats 4000000 in
set_option maxRecDepth 100000 in
/-- DR_lastDayOf  -/
theorem c_DR_lastDayOf (l : Launch) (G : gG) (h : fH) (sz : Nat) (a : Int32) : cM l y_DR_lastDayOf b_DR_lastDayOf 1 (some .int) { frames := 0, cells := 0, slots := 0, locals := 0 } G [.int a] h sz (cQi G h sz (fun (r : Int32) h' => r = ((30 * a) + 30) - 1 ∧ h' = h)) := by
  refine f_start (by decide) (Nat.le_of_ble_eq_true rfl) ?_
  intro p e s m below meth c ls C hr hsz hI hl
  obtain ⟨hx, hb, hml, hown, hnm, hlk, hT, hG, hZ⟩ := id C
  have hK := hG.1
  have hX : fX h sz h := fX.rf
  have hl : lv_has ls 1 [(0, .int a)] := hl
  refine lv_bipush (v := 30) hx hb d_DR_lastDayOf_0 (by decide) ?_
  refine lv_iload_n hx hb d_DR_lastDayOf_2 rfl (lv_at hl 0 rfl) ?_
  refine lv_imul hx hb d_DR_lastDayOf_3 ?_
  refine lv_bipush (v := 30) hx hb d_DR_lastDayOf_4 (by decide) ?_
  refine lv_iadd hx hb d_DR_lastDayOf_6 ?_
  refine lv_iconst (v := 1) hx hb d_DR_lastDayOf_7 (by decide) ?_
  refine lv_isub hx hb d_DR_lastDayOf_8 ?_
  exact f_iret C hr hI ⟨rfl, rfl⟩ hX (Nat.le_refl _) (Nat.le_refl _) d_DR_lastDayOf_9
theorem gm_DR_greatestValue : gM y_DR_greatestValue b_DR_greatestValue 1 (some .int) 1 := ⟨w_567, w_1, ⟨by decide, by decide⟩, by decide +kernel⟩
set_option maxHeartbeats 4000000 in
set_option maxRecDepth 100000 in
/-- DR_greatestValue  -/
theorem c_DR_greatestValue (l : Launch) (G : gG) (h : fH) (sz : Nat) (a : Int32) : cM l y_DR_greatestValue b_DR_greatestValue 1 (some .int) { frames := 0, cells := 0, slots := 0, locals := 0 } G [.int a] h sz (cQi G h sz (fun (r : Int32) h' => r = (if a.toInt = 0 then 9 else (if a.toInt = 1 then 10000 else (if a.toInt = 2 then 1000000 else (if a.toInt = 3 then 100000000 else 1000000)))) ∧ h' = h)) := by
  refine f_start (by decide) (Nat.le_of_ble_eq_true rfl) ?_
  intro p e s m below meth c ls C hr hsz hI hl
  obtain ⟨hx, hb, hml, hown, hnm, hlk, hT, hG, hZ⟩ := id C
  have hK := hG.1
  have hX : fX h sz h := fX.rf
  have hl : lv_has ls 1 [(0, .int a)] := hl
  refine lv_iload_n hx hb d_DR_greatestValue_0 rfl (lv_at hl 0 rfl) ?_
  rcases (show a.toInt = 0 ∨ a.toInt = 1 ∨ a.toInt = 2 ∨ a.toInt = 3 ∨ (a.toInt < 0 ∨ 3 < a.toInt) by omega) with e_1 | e_1 | e_1 | e_1 | e_1
  · refine lv_tableIn (off := 31) (tgt := 32) hx hb d_DR_greatestValue_1 (by rw [e_1]; decide) (by rw [e_1]; decide) (by rw [e_1]; decide) (by decide) ?_
    refine lv_bipush (v := 9) hx hb d_DR_greatestValue_32 (by decide) ?_
    exact f_iret C hr hI ⟨by rw [if_pos e_1], rfl⟩ hX (Nat.le_refl _) (Nat.le_refl _) d_DR_greatestValue_34
  · refine lv_tableIn (off := 34) (tgt := 35) hx hb d_DR_greatestValue_1 (by rw [e_1]; decide) (by rw [e_1]; decide) (by rw [e_1]; decide) (by decide) ?_
    refine lv_sipush (v := 10000) hx hb d_DR_greatestValue_35 (by decide) ?_
    exact f_iret C hr hI ⟨by rw [if_neg (show ¬ a.toInt = 0 by omega), if_pos e_1], rfl⟩ hX (Nat.le_refl _) (Nat.le_refl _) d_DR_greatestValue_38
  · refine lv_tableIn (off := 41) (tgt := 42) hx hb d_DR_greatestValue_1 (by rw [e_1]; decide) (by rw [e_1]; decide) (by rw [e_1]; decide) (by decide) ?_
    refine lv_ldc (v := 1000000) hx hb hown (hT _ w_569) d_DR_greatestValue_42 ?_
    exact f_iret C hr hI ⟨by rw [if_neg (show ¬ a.toInt = 0 by omega), if_neg (show ¬ a.toInt = 1 by omega), if_pos e_1], rfl⟩ hX (Nat.le_refl _) (Nat.le_refl _) d_DR_greatestValue_44
  · refine lv_tableIn (off := 38) (tgt := 39) hx hb d_DR_greatestValue_1 (by rw [e_1]; decide) (by rw [e_1]; decide) (by rw [e_1]; decide) (by decide) ?_
    refine lv_ldc (v := 100000000) hx hb hown (hT _ w_568) d_DR_greatestValue_39 ?_
    exact f_iret C hr hI ⟨by rw [if_neg (show ¬ a.toInt = 0 by omega), if_neg (show ¬ a.toInt = 1 by omega), if_neg (show ¬ a.toInt = 2 by omega), if_pos e_1], rfl⟩ hX (Nat.le_refl _) (Nat.le_refl _) d_DR_greatestValue_41
  · refine lv_tableOut (tgt := 42) hx hb d_DR_greatestValue_1 e_1 (by decide) ?_
    refine lv_ldc (v := 1000000) hx hb hown (hT _ w_569) d_DR_greatestValue_42 ?_
    exact f_iret C hr hI ⟨by rw [if_neg (show ¬ a.toInt = 0 by omega), if_neg (show ¬ a.toInt = 1 by omega), if_neg (show ¬ a.toInt = 2 by omega), if_neg (show ¬ a.toInt = 3 by omega)], rfl⟩ hX (Nat.le_refl _) (Nat.le_refl _) d_DR_greatestValue_44
theorem gm_WO_isBlank : gM y_WO_isBlank b_WO_isBlank 1 (some .boolean) 1 := ⟨w_393, w_17, ⟨by decide, by decide⟩, by decide +kernel⟩
set_option maxHeartbeats 4000000 in
set_option maxRecDepth 100000 in
/-- WO_isBlank  -/
theorem c_WO_isBlank (l : Launch) (G : gG) (h : fH) (sz : Nat) (a : Int32) : cM l y_WO_isBlank b_WO_isBlank 1 (some .boolean) { frames := 0, cells := 0, slots := 0, locals := 0 } G [.int a] h sz (cQi G h sz (fun (r : Int32) h' => r = (if a = 32 then 1 else (if a = 10 then 1 else 0)) ∧ h' = h)) := by
  refine f_start (by decide) (Nat.le_of_ble_eq_true rfl) ?_
  intro p e s m below meth c ls C hr hsz hI hl
  obtain ⟨hx, hb, hml, hown, hnm, hlk, hT, hG, hZ⟩ := id C
  have hK := hG.1
  have hX : fX h sz h := fX.rf
  have hl : lv_has ls 1 [(0, .int a)] := hl
  refine lv_iload_n hx hb d_WO_isBlank_0 rfl (lv_at hl 0 rfl) ?_
  refine lv_bipush (v := 32) hx hb d_WO_isBlank_1 (by decide) ?_
  refine lv_icmp_eq (tgt := 12) hx hb d_WO_isBlank_3 (by decide) (fun c_1 => ?_) (fun c_1 => ?_)
  · skip
    refine lv_iconst (v := 1) hx hb d_WO_isBlank_12 (by decide) ?_
    refine lv_goto (tgt := 17) hx hb d_WO_isBlank_13 (by decide) ?_
    exact f_zret C hr rfl hI ⟨by rw [if_pos c_1], rfl⟩ hX (Nat.le_refl _) (Nat.le_refl _) d_WO_isBlank_17
  · skip
    refine lv_iload_n hx hb d_WO_isBlank_6 rfl (lv_at hl 0 rfl) ?_
    refine lv_bipush (v := 10) hx hb d_WO_isBlank_7 (by decide) ?_
    refine lv_icmp_ne (tgt := 16) hx hb d_WO_isBlank_9 (by decide) (fun c_2 => ?_) (fun c_2 => ?_)
    · skip
      refine lv_iconst (v := 0) hx hb d_WO_isBlank_16 (by decide) ?_
      exact f_zret C hr rfl hI ⟨by rw [if_neg c_1, if_neg c_2], rfl⟩ hX (Nat.le_refl _) (Nat.le_refl _) d_WO_isBlank_17
    · skip
      refine lv_iconst (v := 1) hx hb d_WO_isBlank_12 (by decide) ?_
      refine lv_goto (tgt := 17) hx hb d_WO_isBlank_13 (by decide) ?_
      exact f_zret C hr rfl hI ⟨by rw [if_neg c_1, if_pos c_2], rfl⟩ hX (Nat.le_refl _) (Nat.le_refl _) d_WO_isBlank_17
theorem gm_GR_isSlot : gM y_GR_isSlot b_GR_isSlot 1 (some .boolean) 1 := ⟨w_474, w_18, ⟨by decide, by decide⟩, by decide +kernel⟩
set_option maxHeartbeats 4000000 in
set_option maxRecDepth 100000 in
/-- GR_isSlot  -/
theorem c_GR_isSlot (l : Launch) (G : gG) (h : fH) (sz : Nat) (a : Int32) : cM l y_GR_isSlot b_GR_isSlot 1 (some .boolean) { frames := 0, cells := 0, slots := 0, locals := 0 } G [.int a] h sz (cQi G h sz (fun (r : Int32) h' => r = (if a < 65 then 0 else (if 90 < a then 0 else 1)) ∧ h' = h)) := by
  refine f_start (by decide) (Nat.le_of_ble_eq_true rfl) ?_
  intro p e s m below meth c ls C hr hsz hI hl
  obtain ⟨hx, hb, hml, hown, hnm, hlk, hT, hG, hZ⟩ := id C
  have hK := hG.1
  have hX : fX h sz h := fX.rf
  have hl : lv_has ls 1 [(0, .int a)] := hl
  refine lv_iload_n hx hb d_GR_isSlot_0 rfl (lv_at hl 0 rfl) ?_
  refine lv_bipush (v := 65) hx hb d_GR_isSlot_1 (by decide) ?_
  refine lv_icmp_lt (tgt := 16) hx hb d_GR_isSlot_3 (by decide) (fun c_1 => ?_) (fun c_1 => ?_)
  · skip
    refine lv_iconst (v := 0) hx hb d_GR_isSlot_16 (by decide) ?_
    exact f_zret C hr rfl hI ⟨by rw [if_pos c_1], rfl⟩ hX (Nat.le_refl _) (Nat.le_refl _) d_GR_isSlot_17
  · skip
    refine lv_iload_n hx hb d_GR_isSlot_6 rfl (lv_at hl 0 rfl) ?_
    refine lv_bipush (v := 90) hx hb d_GR_isSlot_7 (by decide) ?_
    refine lv_icmp_gt (tgt := 16) hx hb d_GR_isSlot_9 (by decide) (fun c_2 => ?_) (fun c_2 => ?_)
    · skip
      refine lv_iconst (v := 0) hx hb d_GR_isSlot_16 (by decide) ?_
      exact f_zret C hr rfl hI ⟨by rw [if_neg c_1, if_pos c_2], rfl⟩ hX (Nat.le_refl _) (Nat.le_refl _) d_GR_isSlot_17
    · skip
      refine lv_iconst (v := 1) hx hb d_GR_isSlot_12 (by decide) ?_
      refine lv_goto (tgt := 17) hx hb d_GR_isSlot_13 (by decide) ?_
      exact f_zret C hr rfl hI ⟨by rw [if_neg c_1, if_neg c_2], rfl⟩ hX (Nat.le_refl _) (Nat.le_refl _) d_GR_isSlot_17
theorem gm_MO_isBlank : gM y_MO_isBlank b_MO_isBlank 1 (some .boolean) 1 := ⟨w_944, w_10, ⟨by decide, by decide⟩, by decide +kernel⟩
set_option maxHeartbeats 4000000 in
set_option maxRecDepth 100000 in
/-- MO_isBlank  -/
theorem c_MO_isBlank (l : Launch) (G : gG) (h : fH) (sz : Nat) (a : Int32) : cM l y_MO_isBlank b_MO_isBlank 1 (some .boolean) { frames := 0, cells := 0, slots := 0, locals := 0 } G [.int a] h sz (cQi G h sz (fun (r : Int32) h' => r = (if a = 32 then 1 else (if a = 10 then 1 else 0)) ∧ h' = h)) := by
  refine f_start (by decide) (Nat.le_of_ble_eq_true rfl) ?_
  intro p e s m below meth c ls C hr hsz hI hl
  obtain ⟨hx, hb, hml, hown, hnm, hlk, hT, hG, hZ⟩ := id C
  have hK := hG.1
  have hX : fX h sz h := fX.rf
  have hl : lv_has ls 1 [(0, .int a)] := hl
  refine lv_iload_n hx hb d_MO_isBlank_0 rfl (lv_at hl 0 rfl) ?_
  refine lv_bipush (v := 32) hx hb d_MO_isBlank_1 (by decide) ?_
  refine lv_icmp_eq (tgt := 12) hx hb d_MO_isBlank_3 (by decide) (fun c_1 => ?_) (fun c_1 => ?_)
  · skip
    refine lv_iconst (v := 1) hx hb d_MO_isBlank_12 (by decide) ?_
    refine lv_goto (tgt := 17) hx hb d_MO_isBlank_13 (by decide) ?_
    exact f_zret C hr rfl hI ⟨by rw [if_pos c_1], rfl⟩ hX (Nat.le_refl _) (Nat.le_refl _) d_MO_isBlank_17
  · skip
    refine lv_iload_n hx hb d_MO_isBlank_6 rfl (lv_at hl 0 rfl) ?_
    refine lv_bipush (v := 10) hx hb d_MO_isBlank_7 (by decide) ?_
    refine lv_icmp_ne (tgt := 16) hx hb d_MO_isBlank_9 (by decide) (fun c_2 => ?_) (fun c_2 => ?_)
    · skip
      refine lv_iconst (v := 0) hx hb d_MO_isBlank_16 (by decide) ?_
      exact f_zret C hr rfl hI ⟨by rw [if_neg c_1, if_neg c_2], rfl⟩ hX (Nat.le_refl _) (Nat.le_refl _) d_MO_isBlank_17
    · skip
      refine lv_iconst (v := 1) hx hb d_MO_isBlank_12 (by decide) ?_
      refine lv_goto (tgt := 17) hx hb d_MO_isBlank_13 (by decide) ?_
      exact f_zret C hr rfl hI ⟨by rw [if_neg c_1, if_pos c_2], rfl⟩ hX (Nat.le_refl _) (Nat.le_refl _) d_MO_isBlank_17
theorem gm_MO_isDay : gM y_MO_isDay b_MO_isDay 2 (some .boolean) 1 := ⟨w_1000, w_10, ⟨by decide, by decide⟩, by decide +kernel⟩
set_option maxHeartbeats 4000000 in
set_option maxRecDepth 100000 in
/-- MO_isDay  -/
theorem c_MO_isDay (l : Launch) (G : gG) (h : fH) (sz : Nat) (a : Int64) : cM l y_MO_isDay b_MO_isDay 2 (some .boolean) { frames := 0, cells := 0, slots := 0, locals := 0 } G [.long a] h sz (cQi G h sz (fun (r : Int32) h' => r = (if a < 0 then 0 else (if 100000 < a then 0 else 1)) ∧ h' = h)) := by
  refine f_start (by decide) (Nat.le_of_ble_eq_true rfl) ?_
  intro p e s m below meth c ls C hr hsz hI hl
  obtain ⟨hx, hb, hml, hown, hnm, hlk, hT, hG, hZ⟩ := id C
  have hK := hG.1
  have hX : fX h sz h := fX.rf
  have hl : lv_has ls 2 [(0, .long a)] := hl
  refine lv_lload_n hx hb d_MO_isDay_0 rfl (lv_at hl 0 rfl) ?_
  refine lv_lconst (v := 0) hx hb d_MO_isDay_1 (by decide) ?_
  refine f_lc_lt (tgt := 18) hx hb d_MO_isDay_2 d_MO_isDay_3 (by decide) (fun c_1 => ?_) (fun c_1 => ?_)
  · skip
    refine lv_iconst (v := 0) hx hb d_MO_isDay_18 (by decide) ?_
    exact f_zret C hr rfl hI ⟨by rw [if_pos c_1], rfl⟩ hX (Nat.le_refl _) (Nat.le_refl _) d_MO_isDay_19
  · skip
    refine lv_lload_n hx hb d_MO_isDay_6 rfl (lv_at hl 0 rfl) ?_
    refine lv_ldc2 (v := 100000) hx hb hown (hT _ w_974) d_MO_isDay_7 ?_
    refine f_lc_gt (tgt := 18) hx hb d_MO_isDay_10 d_MO_isDay_11 (by decide) (fun c_2 => ?_) (fun c_2 => ?_)
    · skip
      refine lv_iconst (v := 0) hx hb d_MO_isDay_18 (by decide) ?_
      exact f_zret C hr rfl hI ⟨by rw [if_neg c_1, if_pos c_2], rfl⟩ hX (Nat.le_refl _) (Nat.le_refl _) d_MO_isDay_19
    · skip
      refine lv_iconst (v := 1) hx hb d_MO_isDay_14 (by decide) ?_
      refine lv_goto (tgt := 19) hx hb d_MO_isDay_15 (by decide) ?_
      exact f_zret C hr rfl hI ⟨by rw [if_neg c_1, if_neg c_2], rfl⟩ hX (Nat.le_refl _) (Nat.le_refl _) d_MO_isDay_19
theorem gm_MO_isLot : gM y_MO_isLot b_MO_isLot 1 (some .boolean) 1 := ⟨w_997, w_10, ⟨by decide, by decide⟩, by decide +kernel⟩
set_option maxHeartbeats 4000000 in
set_option maxRecDepth 100000 in
/-- MO_isLot  -/
theorem c_MO_isLot (l : Launch) (G : gG) (h : fH) (sz : Nat) (a : Int32) : cM l y_MO_isLot b_MO_isLot 1 (some .boolean) { frames := 0, cells := 0, slots := 0, locals := 0 } G [.int a] h sz (cQi G h sz (fun (r : Int32) h' => r = (if a < 0 then 0 else (if 30 ≤ a then 0 else 1)) ∧ h' = h)) := by
  refine f_start (by decide) (Nat.le_of_ble_eq_true rfl) ?_
  intro p e s m below meth c ls C hr hsz hI hl
  obtain ⟨hx, hb, hml, hown, hnm, hlk, hT, hG, hZ⟩ := id C
  have hK := hG.1
  have hX : fX h sz h := fX.rf
  have hl : lv_has ls 1 [(0, .int a)] := hl
  refine lv_iload_n hx hb d_MO_isLot_0 rfl (lv_at hl 0 rfl) ?_
  refine lv_if_lt (tgt := 14) hx hb d_MO_isLot_1 (by decide) (fun c_1 => ?_) (fun c_1 => ?_)
  · skip
    refine lv_iconst (v := 0) hx hb d_MO_isLot_14 (by decide) ?_
    exact f_zret C hr rfl hI ⟨by rw [if_pos c_1], rfl⟩ hX (Nat.le_refl _) (Nat.le_refl _) d_MO_isLot_15
  · skip
    refine lv_iload_n hx hb d_MO_isLot_4 rfl (lv_at hl 0 rfl) ?_
    refine lv_bipush (v := 30) hx hb d_MO_isLot_5 (by decide) ?_
    refine lv_icmp_ge (tgt := 14) hx hb d_MO_isLot_7 (by decide) (fun c_2 => ?_) (fun c_2 => ?_)
    · skip
      refine lv_iconst (v := 0) hx hb d_MO_isLot_14 (by decide) ?_
      exact f_zret C hr rfl hI ⟨by rw [if_neg c_1, if_pos c_2], rfl⟩ hX (Nat.le_refl _) (Nat.le_refl _) d_MO_isLot_15
    · skip
      refine lv_iconst (v := 1) hx hb d_MO_isLot_10 (by decide) ?_
      refine lv_goto (tgt := 15) hx hb d_MO_isLot_11 (by decide) ?_
      exact f_zret C hr rfl hI ⟨by rw [if_neg c_1, if_neg c_2], rfl⟩ hX (Nat.le_refl _) (Nat.le_refl _) d_MO_isLot_15
theorem gm_MO_most : gM y_MO_most b_MO_most 1 (some .long) 1 := ⟨w_1004, w_10, ⟨by decide, by decide⟩, by decide +kernel⟩
set_option maxHeartbeats 4000000 in
set_option maxRecDepth 100000 in
/-- MO_most  -/
theorem c_MO_most (l : Launch) (G : gG) (h : fH) (sz : Nat) (a : Int32) : cM l y_MO_most b_MO_most 1 (some .long) { frames := 0, cells := 0, slots := 0, locals := 0 } G [.int a] h sz (cQl G h sz (fun (r : Int64) h' => r = (if a = 0 then 9 else (if a = 1 then 10000 else (if a = 3 then 100000000 else 1000000))) ∧ h' = h)) := by
  refine f_start (by decide) (Nat.le_of_ble_eq_true rfl) ?_
  intro p e s m below meth c ls C hr hsz hI hl
  obtain ⟨hx, hb, hml, hown, hnm, hlk, hT, hG, hZ⟩ := id C
  have hK := hG.1
  have hX : fX h sz h := fX.rf
  have hl : lv_has ls 1 [(0, .int a)] := hl
  refine lv_iload_n hx hb d_MO_most_0 rfl (lv_at hl 0 rfl) ?_
  refine lv_if_ne (tgt := 10) hx hb d_MO_most_1 (by decide) (fun c_1 => ?_) (fun c_1 => ?_)
  · skip
    refine lv_iload_n hx hb d_MO_most_10 rfl (lv_at hl 0 rfl) ?_
    refine lv_iconst (v := 1) hx hb d_MO_most_11 (by decide) ?_
    refine lv_icmp_ne (tgt := 21) hx hb d_MO_most_12 (by decide) (fun c_2 => ?_) (fun c_2 => ?_)
    · skip
      refine lv_iload_n hx hb d_MO_most_21 rfl (lv_at hl 0 rfl) ?_
      refine lv_iconst (v := 3) hx hb d_MO_most_22 (by decide) ?_
      refine lv_icmp_ne (tgt := 32) hx hb d_MO_most_23 (by decide) (fun c_3 => ?_) (fun c_3 => ?_)
      · skip
        refine lv_ldc2 (v := 1000000) hx hb hown (hT _ w_1008) d_MO_most_32 ?_
        exact f_lret C hr hI ⟨by rw [if_neg c_1, if_neg c_2, if_neg c_3], rfl⟩ hX (Nat.le_refl _) (Nat.le_refl _) d_MO_most_35
      · skip
        refine lv_ldc2 (v := 100000000) hx hb hown (hT _ w_1007) d_MO_most_26 ?_
        refine lv_goto (tgt := 35) hx hb d_MO_most_29 (by decide) ?_
        exact f_lret C hr hI ⟨by rw [if_neg c_1, if_neg c_2, if_pos c_3], rfl⟩ hX (Nat.le_refl _) (Nat.le_refl _) d_MO_most_35
    · skip
      refine lv_ldc2 (v := 10000) hx hb hown (hT _ w_1006) d_MO_most_15 ?_
      refine lv_goto (tgt := 35) hx hb d_MO_most_18 (by decide) ?_
      exact f_lret C hr hI ⟨by rw [if_neg c_1, if_pos c_2], rfl⟩ hX (Nat.le_refl _) (Nat.le_refl _) d_MO_most_35
  · skip
    refine lv_ldc2 (v := 9) hx hb hown (hT _ w_1005) d_MO_most_4 ?_
    refine lv_goto (tgt := 35) hx hb d_MO_most_7 (by decide) ?_
    exact f_lret C hr hI ⟨by rw [if_pos c_1], rfl⟩ hX (Nat.le_refl _) (Nat.le_refl _) d_MO_most_35
theorem gm_MO_least : gM y_MO_least b_MO_least 4 (some .long) 2 := ⟨w_1045, w_10, ⟨by decide, by decide⟩, by decide +kernel⟩
set_option maxHeartbeats 4000000 in
set_option maxRecDepth 100000 in
/-- MO_least  -/
theorem c_MO_least (l : Launch) (G : gG) (h : fH) (sz : Nat) (a : Int64) (b : Int64) : cM l y_MO_least b_MO_least 4 (some .long) { frames := 0, cells := 0, slots := 0, locals := 0 } G [.long a, .long b] h sz (cQl G h sz (fun (r : Int64) h' => r = (if b ≤ a then b else a) ∧ h' = h)) := by
  refine f_start (by decide) (Nat.le_of_ble_eq_true rfl) ?_
  intro p e s m below meth c ls C hr hsz hI hl
  obtain ⟨hx, hb, hml, hown, hnm, hlk, hT, hG, hZ⟩ := id C
  have hK := hG.1
  have hX : fX h sz h := fX.rf
  have hl : lv_has ls 4 [(0, .long a), (2, .long b)] := hl
  refine lv_lload_n hx hb d_MO_least_0 rfl (lv_at hl 0 rfl) ?_
  refine lv_lload_n hx hb d_MO_least_1 rfl (lv_at hl 1 rfl) ?_
  refine f_lc_ge (tgt := 10) hx hb d_MO_least_2 d_MO_least_3 (by decide) (fun c_1 => ?_) (fun c_1 => ?_)
  · skip
    refine lv_lload_n hx hb d_MO_least_10 rfl (lv_at hl 1 rfl) ?_
    exact f_lret C hr hI ⟨by rw [if_pos c_1], rfl⟩ hX (Nat.le_refl _) (Nat.le_refl _) d_MO_least_11
  · skip
    refine lv_lload_n hx hb d_MO_least_6 rfl (lv_at hl 0 rfl) ?_
    refine lv_goto (tgt := 11) hx hb d_MO_least_7 (by decide) ?_
    exact f_lret C hr hI ⟨by rw [if_neg c_1], rfl⟩ hX (Nat.le_refl _) (Nat.le_refl _) d_MO_least_11
theorem gm_MO_isMonth : gM y_MO_isMonth b_MO_isMonth 1 (some .boolean) 1 := ⟨w_1068, w_10, ⟨by decide, by decide⟩, by decide +kernel⟩
set_option maxHeartbeats 4000000 in
set_option maxRecDepth 100000 in
/-- MO_isMonth  -/
theorem c_MO_isMonth (l : Launch) (G : gG) (h : fH) (sz : Nat) (a : Int32) : cM l y_MO_isMonth b_MO_isMonth 1 (some .boolean) { frames := 0, cells := 0, slots := 0, locals := 0 } G [.int a] h sz (cQi G h sz (fun (r : Int32) h' => r = (if a < 0 then 0 else (if 3001 ≤ a then 0 else 1)) ∧ h' = h)) := by
  refine f_start (by decide) (Nat.le_of_ble_eq_true rfl) ?_
  intro p e s m below meth c ls C hr hsz hI hl
  obtain ⟨hx, hb, hml, hown, hnm, hlk, hT, hG, hZ⟩ := id C
  have hK := hG.1
  have hX : fX h sz h := fX.rf
  have hl : lv_has ls 1 [(0, .int a)] := hl
  refine lv_iload_n hx hb d_MO_isMonth_0 rfl (lv_at hl 0 rfl) ?_
  refine lv_if_lt (tgt := 15) hx hb d_MO_isMonth_1 (by decide) (fun c_1 => ?_) (fun c_1 => ?_)
  · skip
    refine lv_iconst (v := 0) hx hb d_MO_isMonth_15 (by decide) ?_
    exact f_zret C hr rfl hI ⟨by rw [if_pos c_1], rfl⟩ hX (Nat.le_refl _) (Nat.le_refl _) d_MO_isMonth_16
  · skip
    refine lv_iload_n hx hb d_MO_isMonth_4 rfl (lv_at hl 0 rfl) ?_
    refine lv_sipush (v := 3001) hx hb d_MO_isMonth_5 (by decide) ?_
    refine lv_icmp_ge (tgt := 15) hx hb d_MO_isMonth_8 (by decide) (fun c_2 => ?_) (fun c_2 => ?_)
    · skip
      refine lv_iconst (v := 0) hx hb d_MO_isMonth_15 (by decide) ?_
      exact f_zret C hr rfl hI ⟨by rw [if_neg c_1, if_pos c_2], rfl⟩ hX (Nat.le_refl _) (Nat.le_refl _) d_MO_isMonth_16
    · skip
      refine lv_iconst (v := 1) hx hb d_MO_isMonth_11 (by decide) ?_
      refine lv_goto (tgt := 16) hx hb d_MO_isMonth_12 (by decide) ?_
      exact f_zret C hr rfl hI ⟨by rw [if_neg c_1, if_neg c_2], rfl⟩ hX (Nat.le_refl _) (Nat.le_refl _) d_MO_isMonth_16
theorem gm_MO_lastOf : gM y_MO_lastOf b_MO_lastOf 1 (some .long) 1 := ⟨w_1072, w_10, ⟨by decide, by decide⟩, by decide +kernel⟩
set_option maxHeartbeats 4000000 in
set_option maxRecDepth 100000 in
/-- MO_lastOf  -/
theorem c_MO_lastOf (l : Launch) (G : gG) (h : fH) (sz : Nat) (a : Int32) : cM l y_MO_lastOf b_MO_lastOf 1 (some .long) { frames := 0, cells := 0, slots := 0, locals := 0 } G [.int a] h sz (cQl G h sz (fun (r : Int64) h' => r = (30 * a.toInt64) + 29 ∧ h' = h)) := by
  refine f_start (by decide) (Nat.le_of_ble_eq_true rfl) ?_
  intro p e s m below meth c ls C hr hsz hI hl
  obtain ⟨hx, hb, hml, hown, hnm, hlk, hT, hG, hZ⟩ := id C
  have hK := hG.1
  have hX : fX h sz h := fX.rf
  have hl : lv_has ls 1 [(0, .int a)] := hl
  refine lv_ldc2 (v := 30) hx hb hown (hT _ w_1073) d_MO_lastOf_0 ?_
  refine lv_iload_n hx hb d_MO_lastOf_3 rfl (lv_at hl 0 rfl) ?_
  refine lv_i2l hx hb d_MO_lastOf_4 rfl ?_
  refine lv_lmul hx hb d_MO_lastOf_5 ?_
  refine lv_ldc2 (v := 29) hx hb hown (hT _ w_1074) d_MO_lastOf_6 ?_
  refine lv_ladd hx hb d_MO_lastOf_9 ?_
  exact f_lret C hr hI ⟨rfl, rfl⟩ hX (Nat.le_refl _) (Nat.le_refl _) d_MO_lastOf_10
theorem gm_MO_part : gM y_MO_part b_MO_part 2 (some .int) 2 := ⟨w_963, w_10, ⟨by decide, by decide⟩, by decide +kernel⟩
set_option maxHeartbeats 4000000 in
set_option maxRecDepth 100000 in
/-- MO_part  -/
theorem c_MO_part (l : Launch) (G : gG) (h : fH) (sz : Nat) (a : Int32) (b : Int32) : cM l y_MO_part b_MO_part 2 (some .int) { frames := 0, cells := 0, slots := 0, locals := 0 } G [.int a, .int b] h sz (cQi G h sz (fun (r : Int32) h' => r = (if a.toInt = 0 then (if b = 0 then 9 else (if b = 1 then (-106) else (if b = 2 then 10000 else (if b = 3 then (-107) else (if b = 4 then 10000 else (if b = 5 then (-108) else (if b = 6 then 1000000 else (-112)))))))) else (if a.toInt = 1 then (if b = 0 then 9 else (if b = 1 then (-109) else (if b = 2 then 100000000 else (if b = 3 then (-110) else (if b = 4 then 100 else (-112)))))) else (if a.toInt = 2 then (if b = 0 then 9 else (if b = 1 then (-111) else (if b = 2 then 100 else (-112)))) else (if a.toInt = 3 then (if b = 0 then 9 else (if b = 1 then (-110) else (if b = 2 then 100 else (-112)))) else (if a.toInt = 4 then (if b = 0 then 1000 else (-112)) else (if b = 0 then 100 else (-112))))))) ∧ h' = h)) := by
  refine f_start (by decide) (Nat.le_of_ble_eq_true rfl) ?_
  intro p e s m below meth c ls C hr hsz hI hl
  obtain ⟨hx, hb, hml, hown, hnm, hlk, hT, hG, hZ⟩ := id C
  have hK := hG.1
  have hX : fX h sz h := fX.rf
  have hl : lv_has ls 2 [(0, .int a), (1, .int b)] := hl
  refine lv_iload_n hx hb d_MO_part_0 rfl (lv_at hl 0 rfl) ?_
  rcases (show a.toInt = 0 ∨ a.toInt = 1 ∨ a.toInt = 2 ∨ a.toInt = 3 ∨ a.toInt = 4 ∨ (a.toInt < 0 ∨ 4 < a.toInt) by omega) with e_1 | e_1 | e_1 | e_1 | e_1 | e_1
  · refine lv_tableIn (off := 35) (tgt := 36) hx hb d_MO_part_1 (by rw [e_1]; decide) (by rw [e_1]; decide) (by rw [e_1]; decide) (by decide) ?_
    refine lv_iload_n hx hb d_MO_part_36 rfl (lv_at hl 1 rfl) ?_
    refine lv_if_ne (tgt := 45) hx hb d_MO_part_37 (by decide) (fun c_2 => ?_) (fun c_2 => ?_)
    · skip
      refine lv_iload_n hx hb d_MO_part_45 rfl (lv_at hl 1 rfl) ?_
      refine lv_iconst (v := 1) hx hb d_MO_part_46 (by decide) ?_
      refine lv_icmp_ne (tgt := 55) hx hb d_MO_part_47 (by decide) (fun c_3 => ?_) (fun c_3 => ?_)
      · skip
        refine lv_iload_n hx hb d_MO_part_55 rfl (lv_at hl 1 rfl) ?_
        refine lv_iconst (v := 2) hx hb d_MO_part_56 (by decide) ?_
        refine lv_icmp_ne (tgt := 66) hx hb d_MO_part_57 (by decide) (fun c_4 => ?_) (fun c_4 => ?_)
        · skip
          refine lv_iload_n hx hb d_MO_part_66 rfl (lv_at hl 1 rfl) ?_
          refine lv_iconst (v := 3) hx hb d_MO_part_67 (by decide) ?_
          refine lv_icmp_ne (tgt := 76) hx hb d_MO_part_68 (by decide) (fun c_5 => ?_) (fun c_5 => ?_)
          · skip
            refine lv_iload_n hx hb d_MO_part_76 rfl (lv_at hl 1 rfl) ?_
            refine lv_iconst (v := 4) hx hb d_MO_part_77 (by decide) ?_
            refine lv_icmp_ne (tgt := 87) hx hb d_MO_part_78 (by decide) (fun c_6 => ?_) (fun c_6 => ?_)
            · skip
              refine lv_iload_n hx hb d_MO_part_87 rfl (lv_at hl 1 rfl) ?_
              refine lv_iconst (v := 5) hx hb d_MO_part_88 (by decide) ?_
              refine lv_icmp_ne (tgt := 97) hx hb d_MO_part_89 (by decide) (fun c_7 => ?_) (fun c_7 => ?_)
              · skip
                refine lv_iload_n hx hb d_MO_part_97 rfl (lv_at hl 1 rfl) ?_
                refine lv_bipush (v := 6) hx hb d_MO_part_98 (by decide) ?_
                refine lv_icmp_ne (tgt := 108) hx hb d_MO_part_100 (by decide) (fun c_8 => ?_) (fun c_8 => ?_)
                · skip
                  refine lv_bipush (v := (-112)) hx hb d_MO_part_108 (by decide) ?_
                  exact f_iret C hr hI ⟨by rw [if_pos e_1, if_neg c_2, if_neg c_3, if_neg c_4, if_neg c_5, if_neg c_6, if_neg c_7, if_neg c_8], rfl⟩ hX (Nat.le_refl _) (Nat.le_refl _) d_MO_part_110
                · skip
                  refine lv_ldc (v := 1000000) hx hb hown (hT _ w_964) d_MO_part_103 ?_
                  refine lv_goto (tgt := 110) hx hb d_MO_part_105 (by decide) ?_
                  exact f_iret C hr hI ⟨by rw [if_pos e_1, if_neg c_2, if_neg c_3, if_neg c_4, if_neg c_5, if_neg c_6, if_neg c_7, if_pos c_8], rfl⟩ hX (Nat.le_refl _) (Nat.le_refl _) d_MO_part_110
              · skip
                refine lv_bipush (v := (-108)) hx hb d_MO_part_92 (by decide) ?_
                refine lv_goto (tgt := 110) hx hb d_MO_part_94 (by decide) ?_
                exact f_iret C hr hI ⟨by rw [if_pos e_1, if_neg c_2, if_neg c_3, if_neg c_4, if_neg c_5, if_neg c_6, if_pos c_7], rfl⟩ hX (Nat.le_refl _) (Nat.le_refl _) d_MO_part_110
            · skip
              refine lv_sipush (v := 10000) hx hb d_MO_part_81 (by decide) ?_
              refine lv_goto (tgt := 110) hx hb d_MO_part_84 (by decide) ?_
              exact f_iret C hr hI ⟨by rw [if_pos e_1, if_neg c_2, if_neg c_3, if_neg c_4, if_neg c_5, if_pos c_6], rfl⟩ hX (Nat.le_refl _) (Nat.le_refl _) d_MO_part_110
          · skip
            refine lv_bipush (v := (-107)) hx hb d_MO_part_71 (by decide) ?_
            refine lv_goto (tgt := 110) hx hb d_MO_part_73 (by decide) ?_
            exact f_iret C hr hI ⟨by rw [if_pos e_1, if_neg c_2, if_neg c_3, if_neg c_4, if_pos c_5], rfl⟩ hX (Nat.le_refl _) (Nat.le_refl _) d_MO_part_110
        · skip
          refine lv_sipush (v := 10000) hx hb d_MO_part_60 (by decide) ?_
          refine lv_goto (tgt := 110) hx hb d_MO_part_63 (by decide) ?_
          exact f_iret C hr hI ⟨by rw [if_pos e_1, if_neg c_2, if_neg c_3, if_pos c_4], rfl⟩ hX (Nat.le_refl _) (Nat.le_refl _) d_MO_part_110
      · skip
        refine lv_bipush (v := (-106)) hx hb d_MO_part_50 (by decide) ?_
        refine lv_goto (tgt := 110) hx hb d_MO_part_52 (by decide) ?_
        exact f_iret C hr hI ⟨by rw [if_pos e_1, if_neg c_2, if_pos c_3], rfl⟩ hX (Nat.le_refl _) (Nat.le_refl _) d_MO_part_110
    · skip
      refine lv_bipush (v := 9) hx hb d_MO_part_40 (by decide) ?_
      refine lv_goto (tgt := 110) hx hb d_MO_part_42 (by decide) ?_
      exact f_iret C hr hI ⟨by rw [if_pos e_1, if_pos c_2], rfl⟩ hX (Nat.le_refl _) (Nat.le_refl _) d_MO_part_110
  · refine lv_tableIn (off := 110) (tgt := 111) hx hb d_MO_part_1 (by rw [e_1]; decide) (by rw [e_1]; decide) (by rw [e_1]; decide) (by decide) ?_
    refine lv_iload_n hx hb d_MO_part_111 rfl (lv_at hl 1 rfl) ?_
    refine lv_if_ne (tgt := 120) hx hb d_MO_part_112 (by decide) (fun c_9 => ?_) (fun c_9 => ?_)
    · skip
      refine lv_iload_n hx hb d_MO_part_120 rfl (lv_at hl 1 rfl) ?_
      refine lv_iconst (v := 1) hx hb d_MO_part_121 (by decide) ?_
      refine lv_icmp_ne (tgt := 130) hx hb d_MO_part_122 (by decide) (fun c_10 => ?_) (fun c_10 => ?_)
      · skip
        refine lv_iload_n hx hb d_MO_part_130 rfl (lv_at hl 1 rfl) ?_
        refine lv_iconst (v := 2) hx hb d_MO_part_131 (by decide) ?_
        refine lv_icmp_ne (tgt := 140) hx hb d_MO_part_132 (by decide) (fun c_11 => ?_) (fun c_11 => ?_)
        · skip
          refine lv_iload_n hx hb d_MO_part_140 rfl (lv_at hl 1 rfl) ?_
          refine lv_iconst (v := 3) hx hb d_MO_part_141 (by decide) ?_
          refine lv_icmp_ne (tgt := 150) hx hb d_MO_part_142 (by decide) (fun c_12 => ?_) (fun c_12 => ?_)
          · skip
            refine lv_iload_n hx hb d_MO_part_150 rfl (lv_at hl 1 rfl) ?_
            refine lv_iconst (v := 4) hx hb d_MO_part_151 (by decide) ?_
            refine lv_icmp_ne (tgt := 160) hx hb d_MO_part_152 (by decide) (fun c_13 => ?_) (fun c_13 => ?_)
            · skip
              refine lv_bipush (v := (-112)) hx hb d_MO_part_160 (by decide) ?_
              exact f_iret C hr hI ⟨by rw [if_neg (show ¬ a.toInt = 0 by omega), if_pos e_1, if_neg c_9, if_neg c_10, if_neg c_11, if_neg c_12, if_neg c_13], rfl⟩ hX (Nat.le_refl _) (Nat.le_refl _) d_MO_part_162
            · skip
              refine lv_bipush (v := 100) hx hb d_MO_part_155 (by decide) ?_
              refine lv_goto (tgt := 162) hx hb d_MO_part_157 (by decide) ?_
              exact f_iret C hr hI ⟨by rw [if_neg (show ¬ a.toInt = 0 by omega), if_pos e_1, if_neg c_9, if_neg c_10, if_neg c_11, if_neg c_12, if_pos c_13], rfl⟩ hX (Nat.le_refl _) (Nat.le_refl _) d_MO_part_162
          · skip
            refine lv_bipush (v := (-110)) hx hb d_MO_part_145 (by decide) ?_
            refine lv_goto (tgt := 162) hx hb d_MO_part_147 (by decide) ?_
            exact f_iret C hr hI ⟨by rw [if_neg (show ¬ a.toInt = 0 by omega), if_pos e_1, if_neg c_9, if_neg c_10, if_neg c_11, if_pos c_12], rfl⟩ hX (Nat.le_refl _) (Nat.le_refl _) d_MO_part_162
        · skip
          refine lv_ldc (v := 100000000) hx hb hown (hT _ w_965) d_MO_part_135 ?_
          refine lv_goto (tgt := 162) hx hb d_MO_part_137 (by decide) ?_
          exact f_iret C hr hI ⟨by rw [if_neg (show ¬ a.toInt = 0 by omega), if_pos e_1, if_neg c_9, if_neg c_10, if_pos c_11], rfl⟩ hX (Nat.le_refl _) (Nat.le_refl _) d_MO_part_162
      · skip
        refine lv_bipush (v := (-109)) hx hb d_MO_part_125 (by decide) ?_
        refine lv_goto (tgt := 162) hx hb d_MO_part_127 (by decide) ?_
        exact f_iret C hr hI ⟨by rw [if_neg (show ¬ a.toInt = 0 by omega), if_pos e_1, if_neg c_9, if_pos c_10], rfl⟩ hX (Nat.le_refl _) (Nat.le_refl _) d_MO_part_162
    · skip
      refine lv_bipush (v := 9) hx hb d_MO_part_115 (by decide) ?_
      refine lv_goto (tgt := 162) hx hb d_MO_part_117 (by decide) ?_
      exact f_iret C hr hI ⟨by rw [if_neg (show ¬ a.toInt = 0 by omega), if_pos e_1, if_pos c_9], rfl⟩ hX (Nat.le_refl _) (Nat.le_refl _) d_MO_part_162
  · refine lv_tableIn (off := 162) (tgt := 163) hx hb d_MO_part_1 (by rw [e_1]; decide) (by rw [e_1]; decide) (by rw [e_1]; decide) (by decide) ?_
    refine lv_iload_n hx hb d_MO_part_163 rfl (lv_at hl 1 rfl) ?_
    refine lv_if_ne (tgt := 172) hx hb d_MO_part_164 (by decide) (fun c_14 => ?_) (fun c_14 => ?_)
    · skip
      refine lv_iload_n hx hb d_MO_part_172 rfl (lv_at hl 1 rfl) ?_
      refine lv_iconst (v := 1) hx hb d_MO_part_173 (by decide) ?_
      refine lv_icmp_ne (tgt := 182) hx hb d_MO_part_174 (by decide) (fun c_15 => ?_) (fun c_15 => ?_)
      · skip
        refine lv_iload_n hx hb d_MO_part_182 rfl (lv_at hl 1 rfl) ?_
        refine lv_iconst (v := 2) hx hb d_MO_part_183 (by decide) ?_
        refine lv_icmp_ne (tgt := 192) hx hb d_MO_part_184 (by decide) (fun c_16 => ?_) (fun c_16 => ?_)
        · skip
          refine lv_bipush (v := (-112)) hx hb d_MO_part_192 (by decide) ?_
          exact f_iret C hr hI ⟨by rw [if_neg (show ¬ a.toInt = 0 by omega), if_neg (show ¬ a.toInt = 1 by omega), if_pos e_1, if_neg c_14, if_neg c_15, if_neg c_16], rfl⟩ hX (Nat.le_refl _) (Nat.le_refl _) d_MO_part_194
        · skip
          refine lv_bipush (v := 100) hx hb d_MO_part_187 (by decide) ?_
          refine lv_goto (tgt := 194) hx hb d_MO_part_189 (by decide) ?_
          exact f_iret C hr hI ⟨by rw [if_neg (show ¬ a.toInt = 0 by omega), if_neg (show ¬ a.toInt = 1 by omega), if_pos e_1, if_neg c_14, if_neg c_15, if_pos c_16], rfl⟩ hX (Nat.le_refl _) (Nat.le_refl _) d_MO_part_194
      · skip
        refine lv_bipush (v := (-111)) hx hb d_MO_part_177 (by decide) ?_
        refine lv_goto (tgt := 194) hx hb d_MO_part_179 (by decide) ?_
        exact f_iret C hr hI ⟨by rw [if_neg (show ¬ a.toInt = 0 by omega), if_neg (show ¬ a.toInt = 1 by omega), if_pos e_1, if_neg c_14, if_pos c_15], rfl⟩ hX (Nat.le_refl _) (Nat.le_refl _) d_MO_part_194
    · skip
      refine lv_bipush (v := 9) hx hb d_MO_part_167 (by decide) ?_
      refine lv_goto (tgt := 194) hx hb d_MO_part_169 (by decide) ?_
      exact f_iret C hr hI ⟨by rw [if_neg (show ¬ a.toInt = 0 by omega), if_neg (show ¬ a.toInt = 1 by omega), if_pos e_1, if_pos c_14], rfl⟩ hX (Nat.le_refl _) (Nat.le_refl _) d_MO_part_194
  · refine lv_tableIn (off := 194) (tgt := 195) hx hb d_MO_part_1 (by rw [e_1]; decide) (by rw [e_1]; decide) (by rw [e_1]; decide) (by decide) ?_
    refine lv_iload_n hx hb d_MO_part_195 rfl (lv_at hl 1 rfl) ?_
    refine lv_if_ne (tgt := 204) hx hb d_MO_part_196 (by decide) (fun c_17 => ?_) (fun c_17 => ?_)
    · skip
      refine lv_iload_n hx hb d_MO_part_204 rfl (lv_at hl 1 rfl) ?_
      refine lv_iconst (v := 1) hx hb d_MO_part_205 (by decide) ?_
      refine lv_icmp_ne (tgt := 214) hx hb d_MO_part_206 (by decide) (fun c_18 => ?_) (fun c_18 => ?_)
      · skip
        refine lv_iload_n hx hb d_MO_part_214 rfl (lv_at hl 1 rfl) ?_
        refine lv_iconst (v := 2) hx hb d_MO_part_215 (by decide) ?_
        refine lv_icmp_ne (tgt := 224) hx hb d_MO_part_216 (by decide) (fun c_19 => ?_) (fun c_19 => ?_)
        · skip
          refine lv_bipush (v := (-112)) hx hb d_MO_part_224 (by decide) ?_
          exact f_iret C hr hI ⟨by rw [if_neg (show ¬ a.toInt = 0 by omega), if_neg (show ¬ a.toInt = 1 by omega), if_neg (show ¬ a.toInt = 2 by omega), if_pos e_1, if_neg c_17, if_neg c_18, if_neg c_19], rfl⟩ hX (Nat.le_refl _) (Nat.le_refl _) d_MO_part_226
        · skip
          refine lv_bipush (v := 100) hx hb d_MO_part_219 (by decide) ?_
          refine lv_goto (tgt := 226) hx hb d_MO_part_221 (by decide) ?_
          exact f_iret C hr hI ⟨by rw [if_neg (show ¬ a.toInt = 0 by omega), if_neg (show ¬ a.toInt = 1 by omega), if_neg (show ¬ a.toInt = 2 by omega), if_pos e_1, if_neg c_17, if_neg c_18, if_pos c_19], rfl⟩ hX (Nat.le_refl _) (Nat.le_refl _) d_MO_part_226
      · skip
        refine lv_bipush (v := (-110)) hx hb d_MO_part_209 (by decide) ?_
        refine lv_goto (tgt := 226) hx hb d_MO_part_211 (by decide) ?_
        exact f_iret C hr hI ⟨by rw [if_neg (show ¬ a.toInt = 0 by omega), if_neg (show ¬ a.toInt = 1 by omega), if_neg (show ¬ a.toInt = 2 by omega), if_pos e_1, if_neg c_17, if_pos c_18], rfl⟩ hX (Nat.le_refl _) (Nat.le_refl _) d_MO_part_226
    · skip
      refine lv_bipush (v := 9) hx hb d_MO_part_199 (by decide) ?_
      refine lv_goto (tgt := 226) hx hb d_MO_part_201 (by decide) ?_
      exact f_iret C hr hI ⟨by rw [if_neg (show ¬ a.toInt = 0 by omega), if_neg (show ¬ a.toInt = 1 by omega), if_neg (show ¬ a.toInt = 2 by omega), if_pos e_1, if_pos c_17], rfl⟩ hX (Nat.le_refl _) (Nat.le_refl _) d_MO_part_226
  · refine lv_tableIn (off := 226) (tgt := 227) hx hb d_MO_part_1 (by rw [e_1]; decide) (by rw [e_1]; decide) (by rw [e_1]; decide) (by decide) ?_
    refine lv_iload_n hx hb d_MO_part_227 rfl (lv_at hl 1 rfl) ?_
    refine lv_if_ne (tgt := 237) hx hb d_MO_part_228 (by decide) (fun c_20 => ?_) (fun c_20 => ?_)
    · skip
      refine lv_bipush (v := (-112)) hx hb d_MO_part_237 (by decide) ?_
      exact f_iret C hr hI ⟨by rw [if_neg (show ¬ a.toInt = 0 by omega), if_neg (show ¬ a.toInt = 1 by omega), if_neg (show ¬ a.toInt = 2 by omega), if_neg (show ¬ a.toInt = 3 by omega), if_pos e_1, if_neg c_20], rfl⟩ hX (Nat.le_refl _) (Nat.le_refl _) d_MO_part_239
    · skip
      refine lv_sipush (v := 1000) hx hb d_MO_part_231 (by decide) ?_
      refine lv_goto (tgt := 239) hx hb d_MO_part_234 (by decide) ?_
      exact f_iret C hr hI ⟨by rw [if_neg (show ¬ a.toInt = 0 by omega), if_neg (show ¬ a.toInt = 1 by omega), if_neg (show ¬ a.toInt = 2 by omega), if_neg (show ¬ a.toInt = 3 by omega), if_pos e_1, if_pos c_20], rfl⟩ hX (Nat.le_refl _) (Nat.le_refl _) d_MO_part_239
  · refine lv_tableOut (tgt := 240) hx hb d_MO_part_1 e_1 (by decide) ?_
    refine lv_iload_n hx hb d_MO_part_240 rfl (lv_at hl 1 rfl) ?_
    refine lv_if_ne (tgt := 249) hx hb d_MO_part_241 (by decide) (fun c_21 => ?_) (fun c_21 => ?_)
    · skip
      refine lv_bipush (v := (-112)) hx hb d_MO_part_249 (by decide) ?_
      exact f_iret C hr hI ⟨by rw [if_neg (show ¬ a.toInt = 0 by omega), if_neg (show ¬ a.toInt = 1 by omega), if_neg (show ¬ a.toInt = 2 by omega), if_neg (show ¬ a.toInt = 3 by omega), if_neg (show ¬ a.toInt = 4 by omega), if_neg c_21], rfl⟩ hX (Nat.le_refl _) (Nat.le_refl _) d_MO_part_251
    · skip
      refine lv_bipush (v := 100) hx hb d_MO_part_244 (by decide) ?_
      refine lv_goto (tgt := 251) hx hb d_MO_part_246 (by decide) ?_
      exact f_iret C hr hI ⟨by rw [if_neg (show ¬ a.toInt = 0 by omega), if_neg (show ¬ a.toInt = 1 by omega), if_neg (show ¬ a.toInt = 2 by omega), if_neg (show ¬ a.toInt = 3 by omega), if_neg (show ¬ a.toInt = 4 by omega), if_pos c_21], rfl⟩ hX (Nat.le_refl _) (Nat.le_refl _) d_MO_part_251
end
section
/-! rows by natural numbers: places, comparisons, sums -/
section F2
variable {p : Program} {l : Launch} {e : Env} {R : Room} {s : State} {m : MethodId} {args : Array Value} {below : List Frame} {meth : Method} {c : Code} {H : Heap} {locs : List Loc} {cells slots : Nat} {Q : State → Prop}
variable {cc : ByteArray} {pc : Nat} {ls : Array Slot} {rest : List Value} {D : va_G} {cl : List vw_C} {A : Nat → Prop} {a r o : Nat} {h : fH} {H0 : Heap}
theorem f_asi {x y : Int32} (he : x = y) (k : W p l e R s m args below meth c H locs cells slots Q (F0 m pc ls (.int y :: rest))) : W p l e R s m args below meth c H locs cells slots Q (F0 m pc ls (.int x :: rest)) := by rw [he]; exact k
theorem f_asl {x y : Int64} (he : x = y) (k : W p l e R s m args below meth c H locs cells slots Q (F0 m pc ls (.long y :: rest))) : W p l e R s m args below meth c H locs cells slots Q (F0 m pc ls (.long x :: rest)) := by rw [he]; exact k
theorem f_inc1 (n : Nat) : nI n + Int32.ofInt 1 = nI (n + 1) := nI_1 n
theorem f_ialdn (hexec : p.tables.exec = Jvm.exec) (hb : c.code = cc) (hI : fI D cl A H0 h H locs) {cA : ClassId} {n : Nat} {f : Nat → Int32} (ha : h a = some (r, o, .inl (cA, n, .inl f))) (ht : fT s cA .int) {k : Nat} (hk : k < n) (hn : n < 2 ^ 31) {v : Int32} (hv : f k = v) (hdg : decode cc pc = .ok (.iaload, 1))
    (kk : W p l e R s m args below meth c H locs cells slots Q (F0 m (pc + 1) ls (.int v :: rest))) : W p l e R s m args below meth c H locs cells slots Q (F0 m pc ls (.int (nI k) :: .ref a :: rest)) := by
  refine f_iald hexec hb hI ha ht (vp_in_nI hk hn) hdg ?_
  rw [nI_clamp (by omega), hv]; exact kk
theorem f_baldn (hexec : p.tables.exec = Jvm.exec) (hb : c.code = cc) (hI : fI D cl A H0 h H locs) {cA : ClassId} {n : Nat} {f : Nat → Int32} (ha : h a = some (r, o, .inl (cA, n, .inl f))) (ht : fT s cA .byte) {k : Nat} (hk : k < n) (hn : n < 2 ^ 31) {v : Int32} (hv : f k = v) (hdg : decode cc pc = .ok (.baload, 1))
    (kk : W p l e R s m args below meth c H locs cells slots Q (F0 m (pc + 1) ls (.int v :: rest))) : W p l e R s m args below meth c H locs cells slots Q (F0 m pc ls (.int (nI k) :: .ref a :: rest)) := by
  refine f_bald hexec hb hI ha ht (vp_in_nI hk hn) hdg ?_
  rw [nI_clamp (by omega), hv]; exact kk
theorem f_zaldn (hexec : p.tables.exec = Jvm.exec) (hb : c.code = cc) (hI : fI D cl A H0 h H locs) {cA : ClassId} {n : Nat} {f : Nat → Int32} (ha : h a = some (r, o, .inl (cA, n, .inl f))) (ht : fT s cA .boolean) {k : Nat} (hk : k < n) (hn : n < 2 ^ 31) {v : Int32} (hv : f k = v) (hdg : decode cc pc = .ok (.baload, 1))
    (kk : W p l e R s m args below meth c H locs cells slots Q (F0 m (pc + 1) ls (.int v :: rest))) : W p l e R s m args below meth c H locs cells slots Q (F0 m pc ls (.int (nI k) :: .ref a :: rest)) := by
  refine f_zald hexec hb hI ha ht (vp_in_nI hk hn) hdg ?_
  rw [nI_clamp (by omega), hv]; exact kk
theorem f_laldn (hexec : p.tables.exec = Jvm.exec) (hb : c.code = cc) (hI : fI D cl A H0 h H locs) {cA : ClassId} {n : Nat} {f : Nat → Int64} (ha : h a = some (r, o, .inl (cA, n, .inr (.inl f)))) (ht : fT s cA .long) {k : Nat} (hk : k < n) (hn : n < 2 ^ 31) {v : Int64} (hv : f k = v) (hdg : decode cc pc = .ok (.laload, 1))
    (kk : W p l e R s m args below meth c H locs cells slots Q (F0 m (pc + 1) ls (.long v :: rest))) : W p l e R s m args below meth c H locs cells slots Q (F0 m pc ls (.int (nI k) :: .ref a :: rest)) := by
  refine f_lald hexec hb hI ha ht (vp_in_nI hk hn) hdg ?_
  rw [nI_clamp (by omega), hv]; exact kk
theorem f_aaldn (hexec : p.tables.exec = Jvm.exec) (hb : c.code = cc) (hI : fI D cl A H0 h H locs) {cA : ClassId} {C : String} {n : Nat} {f : Nat → Option Nat} (ha : h a = some (r, o, .inl (cA, n, .inr (.inr (.inr (.inr f)))))) (ht : fT s cA (.object C)) {k : Nat} (hk : k < n) (hn : n < 2 ^ 31) {v : Option Nat} (hv : f k = v) (hdg : decode cc pc = .ok (.aaload, 1))
    (kk : W p l e R s m args below meth c H locs cells slots Q (F0 m (pc + 1) ls (va_rf v :: rest))) : W p l e R s m args below meth c H locs cells slots Q (F0 m pc ls (.int (nI k) :: .ref a :: rest)) := by
  refine f_aald hexec hb hI ha ht (vp_in_nI hk hn) hdg ?_
  rw [nI_clamp (by omega), hv]; exact kk
theorem f_iastn (hexec : p.tables.exec = Jvm.exec) (hb : c.code = cc) (hI : fI D cl A H0 h H locs) {cA : ClassId} {n : Nat} {f : Nat → Int32} (ha : h a = some (r, o, .inl (cA, n, .inl f))) (hr0 : r ≠ 0) (ht : fT s cA .int) {k : Nat} {x : Int32} (hk : k < n) (hn : n < 2 ^ 31) {f' : Nat → Int32} (hf : upd f k x = f') (hdg : decode cc pc = .ok (.iastore, 1))
    (kk : ∀ (H : Heap) (locs : List Loc), fI D cl A H0 (fU h a (r, o, .inl (cA, n, .inl f'))) H locs → W p l e R s m args below meth c H locs cells slots Q (F0 m (pc + 1) ls rest)) : W p l e R s m args below meth c H locs cells slots Q (F0 m pc ls (.int x :: .int (nI k) :: .ref a :: rest)) := by
  refine f_iast hexec hb hI ha hr0 ht (vp_in_nI hk hn) hdg (fun H locs hI => ?_)
  rw [nI_clamp (by omega), hf] at hI
  exact kk H locs hI
theorem f_bastn (hexec : p.tables.exec = Jvm.exec) (hb : c.code = cc) (hI : fI D cl A H0 h H locs) {cA : ClassId} {n : Nat} {f : Nat → Int32} (ha : h a = some (r, o, .inl (cA, n, .inl f))) (hr0 : r ≠ 0) (ht : fT s cA .byte) {k : Nat} {x : Int32} (hk : k < n) (hn : n < 2 ^ 31) {f' : Nat → Int32} (hf : upd f k x.toInt8.toInt32 = f') (hdg : decode cc pc = .ok (.bastore, 1))
    (kk : ∀ (H : Heap) (locs : List Loc), fI D cl A H0 (fU h a (r, o, .inl (cA, n, .inl f'))) H locs → W p l e R s m args below meth c H locs cells slots Q (F0 m (pc + 1) ls rest)) : W p l e R s m args below meth c H locs cells slots Q (F0 m pc ls (.int x :: .int (nI k) :: .ref a :: rest)) := by
  refine f_bast hexec hb hI ha hr0 ht (vp_in_nI hk hn) hdg (fun H locs hI => ?_)
  rw [nI_clamp (by omega), hf] at hI
  exact kk H locs hI
theorem f_zastn (hexec : p.tables.exec = Jvm.exec) (hb : c.code = cc) (hI : fI D cl A H0 h H locs) {cA : ClassId} {n : Nat} {f : Nat → Int32} (ha : h a = some (r, o, .inl (cA, n, .inl f))) (hr0 : r ≠ 0) (ht : fT s cA .boolean) {k : Nat} {x : Int32} (hk : k < n) (hn : n < 2 ^ 31) {f' : Nat → Int32} (hf : upd f k (x &&& 1) = f') (hdg : decode cc pc = .ok (.bastore, 1))
    (kk : ∀ (H : Heap) (locs : List Loc), fI D cl A H0 (fU h a (r, o, .inl (cA, n, .inl f'))) H locs → W p l e R s m args below meth c H locs cells slots Q (F0 m (pc + 1) ls rest)) : W p l e R s m args below meth c H locs cells slots Q (F0 m pc ls (.int x :: .int (nI k) :: .ref a :: rest)) := by
  refine f_zast hexec hb hI ha hr0 ht (vp_in_nI hk hn) hdg (fun H locs hI => ?_)
  rw [nI_clamp (by omega), hf] at hI
  exact kk H locs hI
theorem f_lastn (hexec : p.tables.exec = Jvm.exec) (hb : c.code = cc) (hI : fI D cl A H0 h H locs) {cA : ClassId} {n : Nat} {f : Nat → Int64} (ha : h a = some (r, o, .inl (cA, n, .inr (.inl f)))) (hr0 : r ≠ 0) (ht : fT s cA .long) {k : Nat} {x : Int64} (hk : k < n) (hn : n < 2 ^ 31) {f' : Nat → Int64} (hf : vp_updL f k x = f') (hdg : decode cc pc = .ok (.lastore, 1))
    (kk : ∀ (H : Heap) (locs : List Loc), fI D cl A H0 (fU h a (r, o, .inl (cA, n, .inr (.inl f')))) H locs → W p l e R s m args below meth c H locs cells slots Q (F0 m (pc + 1) ls rest)) : W p l e R s m args below meth c H locs cells slots Q (F0 m pc ls (.long x :: .int (nI k) :: .ref a :: rest)) := by
  refine f_last hexec hb hI ha hr0 ht (vp_in_nI hk hn) hdg (fun H locs hI => ?_)
  rw [nI_clamp (by omega), hf] at hI
  exact kk H locs hI
end F2
theorem n_le {a b : Nat} (ha : a < 2 ^ 31) (hb : b < 2 ^ 31) : nI a ≤ nI b ↔ a ≤ b := nI_leI ha hb
theorem n_lt {a b : Nat} (ha : a < 2 ^ 31) (hb : b < 2 ^ 31) : nI a < nI b ↔ a < b := nI_ltI ha hb
theorem n_eq {a b : Nat} (ha : a < 2 ^ 31) (hb : b < 2 ^ 31) : nI a = nI b ↔ a = b := nI_eq ha hb
theorem n_i2l {a : Nat} (ha : a < 2 ^ 31) : (nI a).toInt64 = lN a := nI_l ha
theorem n_l2i (a : Nat) : (lN a).toInt32 = nI a := lN_i a
theorem n_m1 {a : Nat} (ha : a < 2 ^ 31) : ¬ nI a = -1 := fun q => by
  have h1 := congrArg Int32.toInt q
  rw [nI_toInt ha] at h1
  have h2 : ((-1 : Int32)).toInt = -1 := by decide
  omega
theorem n_ne0 {a : Nat} (h0 : 0 < a) (h : a < 2 ^ 31) : ¬ nI a = 0 := nI_ne0 h0 h
theorem l_ne0 {a : Nat} (h0 : 0 < a) (h : a < 2 ^ 63) : ¬ lN a = 0 := fun q => by
  have := (pk_lEQ (a := a) (b := 0) h (by decide)).mp q
  omega
theorem up_i (f : Nat → Nat) (k v : Nat) : upd (fun i => nI (f i)) k (nI v) = fun i => nI (va_up f k v i) := by
  funext j
  by_cases hj : j = k
  · subst hj; simp [upd, va_up]
  · simp [upd, va_up, hj]
theorem up_l (f : Nat → Nat) (k v : Nat) : vp_updL (fun i => lN (f i)) k (lN v) = fun i => lN (va_up f k v i) := by
  funext j
  by_cases hj : j = k
  · subst hj; simp [vp_updL, va_up]
  · simp [vp_updL, va_up, hj]
/-! THE FACTS: the one that holds, by the greatest key; the edition that holds; the first rule -/
def kK (fd : Nat → Nat) (i : Nat) : Nat := fd i * 1000 + i + 1
def hM (fl fk fd fw : Nat → Nat) (lot kind day on i : Nat) : Prop := fl i = lot ∧ fk i = kind ∧ fd i ≤ day ∧ fw i ≤ on
noncomputable def hk (fl fk fd fw : Nat → Nat) (lot kind day on : Nat) : Nat → Nat
  | 0 => 0
  | n + 1 => if fl n = lot ∧ fk n = kind ∧ fd n ≤ day ∧ fw n ≤ on then max (hk fl fk fd fw lot kind day on n) (kK fd n) else hk fl fk fd fw lot kind day on n
theorem hk_no {fl fk fd fw : Nat → Nat} {lot kind day on n : Nat} (h : ¬ hM fl fk fd fw lot kind day on n) : hk fl fk fd fw lot kind day on (n + 1) = hk fl fk fd fw lot kind day on n := by
  show (if _ then _ else _) = _
  exact if_neg h
theorem hk_yes {fl fk fd fw : Nat → Nat} {lot kind day on n : Nat} (h : hM fl fk fd fw lot kind day on n) : hk fl fk fd fw lot kind day on (n + 1) = max (hk fl fk fd fw lot kind day on n) (kK fd n) := by
  show (if _ then _ else _) = _
  exact if_pos h
theorem hk_ix {fl fk fd fw : Nat → Nat} {lot kind day on : Nat} : ∀ n : Nat, hk fl fk fd fw lot kind day on n = 0 ∨ ∃ i, i < n ∧ hk fl fk fd fw lot kind day on n = kK fd i ∧ hM fl fk fd fw lot kind day on i
  | 0 => Or.inl rfl
  | n + 1 => by
    by_cases h : hM fl fk fd fw lot kind day on n
    · rw [hk_yes h]
      refine Or.inr ?_
      rcases hk_ix n with q | ⟨i, h1, h2, h3⟩
      · exact ⟨n, by omega, by rw [q]; exact Nat.max_eq_right (Nat.zero_le _), h⟩
      · rcases Nat.le_total (kK fd i) (kK fd n) with q | q
        · exact ⟨n, by omega, by rw [h2]; exact Nat.max_eq_right q, h⟩
        · exact ⟨i, by omega, by rw [h2]; exact Nat.max_eq_left q, h3⟩
    · rw [hk_no h]
      rcases hk_ix n with q | ⟨i, h1, h2, h3⟩
      · exact Or.inl q
      · exact Or.inr ⟨i, by omega, h2, h3⟩
/-- a key's place, -1 for none -/
def bI (k : Nat) : Int32 := if k = 0 then -1 else nI ((k - 1) % 1000)
theorem bI_0 : bI 0 = -1 := rfl
theorem bI_k {fd : Nat → Nat} {i : Nat} (hi : i < 1000) : bI (kK fd i) = nI i := by
  unfold bI kK
  rw [if_neg (by omega)]
  congr 1
  omega
theorem kK_lt {fd : Nat → Nat} {i n : Nat} (hi : i < n) (hn : n < 1000) (h : fd i ≤ fd n) : kK fd i < kK fd n := by unfold kK; omega
theorem kK_gt {fd : Nat → Nat} {i n : Nat} (hn : n < 1000) (h : fd n < fd i) : kK fd n < kK fd i := by unfold kK; omega
end
section
/-! WHAT A STATE OF THE REFERENCE IS: groups of its fields and arrays (role 40: the object; 41 + k: the array of its field k) -/
/-- the greatest value of a kind of fact -/
def mostN (k : Nat) : Nat := if k = 0 then 9 else if k = 1 then 10000 else if k = 3 then 100000000 else 1000000
theorem mostN_le (k : Nat) : mostN k ≤ 100000000 := by unfold mostN; split <;> (try split) <;> (try split) <;> omega
/-- the ranges of a rule's numbers, by its kind -/
def okR (k v1 v2 v3 v4 : Nat) : Prop := k < 6 ∧ (k < 4 → v1 ≤ 9) ∧ (k = 0 → v2 ≤ 10000 ∧ v3 ≤ 10000 ∧ v4 ≤ 1000000) ∧ (k = 1 → v2 ≤ 100000000 ∧ v3 ≤ 100) ∧ (k = 2 → v2 ≤ 100) ∧ (k = 3 → v2 ≤ 100) ∧ (k = 4 → 1 ≤ v1 ∧ v1 ≤ 1000) ∧ (k = 5 → v1 ≤ 100)
/-- the facts -/
def mFc (G : gG) (h : fH) (mf : Nat → Value) (nf : Nat) (fl fk fd fw fv : Nat → Nat) : Prop :=
  ∃ a7 a8 a9 a10 a11 : Nat, (mf 7 = .ref a7 ∧ mf 8 = .ref a8 ∧ mf 9 = .ref a9 ∧ mf 10 = .ref a10 ∧ mf 11 = .ref a11 ∧ mf 12 = .int (nI nf)) ∧
  (h a7 = some (48, 0, .inl (G.2.1 0, 300, .inl (fun i => nI (fl i)))) ∧ h a8 = some (49, 0, .inl (G.2.1 0, 300, .inl (fun i => nI (fk i)))) ∧ h a9 = some (50, 0, .inl (G.2.1 1, 300, .inr (.inl (fun i => lN (fd i))))) ∧ h a10 = some (51, 0, .inl (G.2.1 1, 300, .inr (.inl (fun i => lN (fw i))))) ∧ h a11 = some (52, 0, .inl (G.2.1 1, 300, .inr (.inl (fun i => lN (fv i)))))) ∧
  nf ≤ 300 ∧ (∀ i, fl i < 30) ∧ (∀ i, fk i < 6) ∧ (∀ i, fd i ≤ 100000) ∧ (∀ i, fw i ≤ 100000) ∧ ∀ i, fv i ≤ mostN (fk i)
/-- the editions and the rules (the eleventh place holds what was read last) -/
def mEd (G : gG) (h : fH) (mf : Nat → Value) (ne : Nat) (ef rr rm : Nat → Nat) : Prop :=
  ∃ a3 a4 a5 : Nat, (mf 3 = .ref a3 ∧ mf 4 = .ref a4 ∧ mf 5 = .ref a5 ∧ mf 6 = .int (nI ne)) ∧
  (h a3 = some (44, 0, .inl (G.2.1 0, 2200, .inl (fun i => nI (rr i)))) ∧ h a4 = some (45, 0, .inl (G.2.1 0, 11, .inl (fun i => nI (rm i)))) ∧ h a5 = some (46, 0, .inl (G.2.1 1, 11, .inr (.inl (fun i => lN (ef i)))))) ∧
  ne ≤ 10 ∧ (∀ i, rm i ≤ 40) ∧ (∀ i, ef i ≤ 100000) ∧ (∀ i, rr i ≤ 100000000) ∧ ∀ e n, e < 11 → n < rm e → okR (rr ((e * 40 + n) * 5)) (rr ((e * 40 + n) * 5 + 1)) (rr ((e * 40 + n) * 5 + 2)) (rr ((e * 40 + n) * 5 + 3)) (rr ((e * 40 + n) * 5 + 4))
/-- the edition of a day -/
def eoC (ef : Nat → Nat) (day n : Nat) (x : Option Nat) : Bool := decide (ef n ≤ day) && (match x with | none => true | some b => decide (ef b ≤ ef n))
def eo (ef : Nat → Nat) (day : Nat) : Nat → Option Nat
  | 0 => none
  | n + 1 => if eoC ef day n (eo ef day n) = true then some n else eo ef day n
theorem eo_yes {ef : Nat → Nat} {day n : Nat} (h : eoC ef day n (eo ef day n) = true) : eo ef day (n + 1) = some n := by
  show (if _ then _ else _) = _
  exact if_pos h
theorem eo_no {ef : Nat → Nat} {day n : Nat} (h : ¬ eoC ef day n (eo ef day n) = true) : eo ef day (n + 1) = eo ef day n := by
  show (if _ then _ else _) = _
  exact if_neg h
theorem eo_lt {ef : Nat → Nat} {day : Nat} : ∀ {n b : Nat}, eo ef day n = some b → b < n ∧ ef b ≤ day
  | 0, b, h => by cases h
  | n + 1, b, h => by
    by_cases hc : eoC ef day n (eo ef day n) = true
    · rw [eo_yes hc] at h
      cases h
      simp only [eoC, Bool.and_eq_true, decide_eq_true_eq] at hc
      exact ⟨by omega, hc.1⟩
    · rw [eo_no hc] at h
      have := eo_lt h
      exact ⟨by omega, this.2⟩
def oN (x : Option Nat) : Int32 := match x with
  | none => -1
  | some n => nI n
/-- the first place with P, of k places from i on -/
def ff (P : Nat → Bool) : Nat → Nat → Option Nat
  | _, 0 => none
  | i, k + 1 => if P i = true then some i else ff P (i + 1) k
theorem ff_in {P : Nat → Bool} : ∀ {k i n : Nat}, ff P i k = some n → i ≤ n ∧ n < i + k ∧ P n = true
  | 0, i, n, h => by cases h
  | k + 1, i, n, h => by
    unfold ff at h
    split at h
    · next hp => cases h; exact ⟨Nat.le_refl _, by omega, hp⟩
    · obtain ⟨h1, h2, h3⟩ := ff_in h; exact ⟨by omega, by omega, h3⟩
theorem ff_congr {P P' : Nat → Bool} : ∀ {k i : Nat}, (∀ n, i ≤ n → n < i + k → P n = P' n) → ff P i k = ff P' i k
  | 0, i, h => rfl
  | k + 1, i, h => by
    unfold ff
    rw [h i (Nat.le_refl _) (by omega), ff_congr (fun n h1 h2 => h n (by omega) (by omega))]
/-- rule n of edition e is of a kind, of goods (where the kind has goods), and of a strength (where it is a rate) -/
def fp (rr : Nat → Nat) (e K g st n : Nat) : Bool := decide (rr ((e * 40 + n) * 5) = K ∧ (4 ≤ K ∨ rr ((e * 40 + n) * 5 + 1) = g) ∧ (K ≠ 0 ∨ (rr ((e * 40 + n) * 5 + 2) ≤ st ∧ st < rr ((e * 40 + n) * 5 + 3))))
/-! THE DUTY: steps (letter, rule, whole cents), free litres, cents -/
def CT : Nat := 100000000000
abbrev dst : Type := List (Nat × Nat × Nat) × Nat × Nat
def sA (li pay rate : Nat) : dst := ([(0, rate, li * pay * 1000000 / CT)], 0, li * pay * 1000000)
def sB1 (li pay v up r : Nat) (d : dst) : dst := (d.1 ++ [(1, r, (d.2.2 - min (v * 100) (li * up) * pay * 10000) / CT)], min (v * 100) (li * up), d.2.2 - min (v * 100) (li * up) * pay * 10000)
def sB (li pay : Nat) (lost loss : Option Nat) (V : Nat → Nat → Nat) (d : dst) : dst := match lost, loss with
  | some v, some r => sB1 li pay v (V r 2) r d
  | _, _ => d
def sC1 (li pay v t r : Nat) (d : dst) : dst := (d.1 ++ [(2, r, (d.2.2 - min (v * 100) (li * 100 - d.2.1) * pay * t * 100) / CT)], d.2.1, d.2.2 - min (v * 100) (li * 100 - d.2.1) * pay * t * 100)
def sC (li pay : Nat) (gone away : Option Nat) (V : Nat → Nat → Nat) (d : dst) : dst := match gone, away with
  | some v, some r => sC1 li pay v (V r 2) r d
  | _, _ => d
def sD1 (t r : Nat) (d : dst) : dst := (d.1 ++ [(3, r, d.2.2 / 100 * t / CT)], d.2.1, d.2.2 / 100 * t)
def sD (small year : Option Nat) (V : Nat → Nat → Nat) (d : dst) : dst := match small, year with
  | some r, some y => if y < V r 2 then sD1 (V r 3) r d else d
  | _, _ => d
def sE1 (n r : Nat) (d : dst) : dst := (d.1 ++ [(4, r, (2 * d.2.2 + n * CT) / (2 * (n * CT)) * (n * CT) / CT)], d.2.1, (2 * d.2.2 + n * CT) / (2 * (n * CT)) * (n * CT))
def sE (round : Option Nat) (V : Nat → Nat → Nat) (d : dst) : dst := match round with
  | some r => sE1 (V r 1) r d
  | none => d
def d0 : dst := ([], 0, 0)
def rkS (K : Nat → Option Nat) (F : Nat → Nat → Nat → Option Nat) (V : Nat → Nat → Nat) (g li rate : Nat) : dst :=
  sE (F 4 0 0) V (sD (F 1 g 0) (K 3) V (sC li (V rate 4) (K 5) (F 3 g 0) V (sB li (V rate 4) (K 4) (F 2 g 0) V (sA li (V rate 4) rate))))
def rkE (K : Nat → Option Nat) (F : Nat → Nat → Nat → Option Nat) (V : Nat → Nat → Nat) : Int32 × dst := match K 0 with
  | none => (0, d0)
  | some g => match K 1 with
    | none => (1, d0)
    | some st => match K 2 with
      | none => (2, d0)
      | some li => match F 0 g st with
        | none => (21, d0)
        | some rate => if (F 1 g 0).isSome = true ∧ (K 3).isNone = true then (3, d0) else (-1, rkS K F V g li rate)
def rk (K : Nat → Option Nat) (ed : Option ((Nat → Nat → Nat → Option Nat) × (Nat → Nat → Nat))) : Int32 × dst := match ed with
  | none => (20, d0)
  | some q => rkE K q.1 q.2
/-- a fact's value by its key -/
def kv (fv : Nat → Nat) (k : Nat) : Option Nat := if k = 0 then none else some (fv ((k - 1) % 1000))
/-- the reference's ways to find a rule and a rule's number -/
def mF (rr rm : Nat → Nat) (e : Nat) : Nat → Nat → Nat → Option Nat := fun k g st => ff (fp rr e k g st) 0 (rm e)
def mV (rr : Nat → Nat) (e : Nat) : Nat → Nat → Nat := fun n k => rr ((e * 40 + n) * 5 + k)
/-- the reference's last reckoning -/
def mSt (G : gG) (h : fH) (mf : Nat → Value) (rs : Int32) (ns : Nat) (sl sr sc : Nat → Nat) (fr ce : Nat) : Prop :=
  ∃ a15 a16 a17 : Nat, (mf 14 = .int rs ∧ mf 15 = .ref a15 ∧ mf 16 = .ref a16 ∧ mf 17 = .ref a17 ∧ mf 18 = .int (nI ns) ∧ mf 19 = .long (lN fr) ∧ mf 20 = .long (lN ce)) ∧
  (h a15 = some (56, 0, .inl (G.2.1 0, 5, .inl (fun i => nI (sl i)))) ∧ h a16 = some (57, 0, .inl (G.2.1 0, 5, .inl (fun i => nI (sr i)))) ∧ h a17 = some (58, 0, .inl (G.2.1 1, 5, .inr (.inl (fun i => lN (sc i))))))
def mSd (G : gG) (h : fH) (mf : Nat → Value) (rs : Int32) (d : dst) : Prop :=
  ∃ sl sr sc : Nat → Nat, mSt G h mf rs d.1.length sl sr sc d.2.1 d.2.2 ∧ ∀ (i : Nat) (q : Nat × Nat × Nat), d.1[i]? = some q → sl i = q.1 ∧ sr i = q.2.1 ∧ sc i = q.2.2
theorem mFc.keep {G : gG} {h h' : fH} {mf mf' : Nat → Value} {nf : Nat} {fl fk fd fw fv : Nat → Nat} {S : List Nat} (H : mFc G h mf nf fl fk fd fw fv) (hm : ∀ j, 7 ≤ j → j ≤ 12 → mf' j = mf j) (hF : fF (inR S) h h') (hS : S.all (fun r => decide (r < 48 ∨ 52 < r)) = true) : mFc G h' mf' nf fl fk fd fw fv := by
  have hs : ∀ r, 48 ≤ r → r ≤ 52 → ¬ r ∈ S := fun r h1 h2 hr => by have := List.all_eq_true.mp hS r hr; simp only [decide_eq_true_eq] at this; omega
  obtain ⟨a7, a8, a9, a10, a11, ⟨v7, v8, v9, v10, v11, v12⟩, ⟨g7, g8, g9, g10, g11⟩, b⟩ := H
  exact ⟨a7, a8, a9, a10, a11, ⟨by rw [hm 7 (by decide) (by decide)]; exact v7, by rw [hm 8 (by decide) (by decide)]; exact v8, by rw [hm 9 (by decide) (by decide)]; exact v9, by rw [hm 10 (by decide) (by decide)]; exact v10, by rw [hm 11 (by decide) (by decide)]; exact v11, by rw [hm 12 (by decide) (by decide)]; exact v12⟩,
    ⟨hF _ _ _ _ g7 (hs _ (by decide) (by decide)), hF _ _ _ _ g8 (hs _ (by decide) (by decide)), hF _ _ _ _ g9 (hs _ (by decide) (by decide)), hF _ _ _ _ g10 (hs _ (by decide) (by decide)), hF _ _ _ _ g11 (hs _ (by decide) (by decide))⟩, b⟩
theorem mEd.keep {G : gG} {h h' : fH} {mf mf' : Nat → Value} {ne : Nat} {ef rr rm : Nat → Nat} {S : List Nat} (H : mEd G h mf ne ef rr rm) (hm : ∀ j, 3 ≤ j → j ≤ 6 → mf' j = mf j) (hF : fF (inR S) h h') (hS : S.all (fun r => decide (r < 44 ∨ 46 < r)) = true) : mEd G h' mf' ne ef rr rm := by
  have hs : ∀ r, 44 ≤ r → r ≤ 46 → ¬ r ∈ S := fun r h1 h2 hr => by have := List.all_eq_true.mp hS r hr; simp only [decide_eq_true_eq] at this; omega
  obtain ⟨a3, a4, a5, ⟨v3, v4, v5, v6⟩, ⟨g3, g4, g5⟩, b⟩ := H
  exact ⟨a3, a4, a5, ⟨by rw [hm 3 (by decide) (by decide)]; exact v3, by rw [hm 4 (by decide) (by decide)]; exact v4, by rw [hm 5 (by decide) (by decide)]; exact v5, by rw [hm 6 (by decide) (by decide)]; exact v6⟩,
    ⟨hF _ _ _ _ g3 (hs _ (by decide) (by decide)), hF _ _ _ _ g4 (hs _ (by decide) (by decide)), hF _ _ _ _ g5 (hs _ (by decide) (by decide))⟩, b⟩
theorem kv_0 (fv : Nat → Nat) : kv fv 0 = none := rfl
theorem kv_k {fv fd : Nat → Nat} {i : Nat} (hi : i < 1000) : kv fv (kK fd i) = some (fv i) := by
  unfold kv kK
  rw [if_neg (by omega)]
  congr 2
  omega
theorem mSd.add {L : List (Nat × Nat × Nat)} {sl sr sc : Nat → Nat} (hq : ∀ (i : Nat) (q : Nat × Nat × Nat), L[i]? = some q → sl i = q.1 ∧ sr i = q.2.1 ∧ sc i = q.2.2) (a b c : Nat) : ∀ (i : Nat) (q : Nat × Nat × Nat), (L ++ [(a, b, c)])[i]? = some q → va_up sl L.length a i = q.1 ∧ va_up sr L.length b i = q.2.1 ∧ va_up sc L.length c i = q.2.2 := by
  intro i q hi
  by_cases hl : i < L.length
  · rw [List.getElem?_append_left hl] at hi
    have h3 : i ≠ L.length := by omega
    rw [va_up_ne _ _ h3, va_up_ne _ _ h3, va_up_ne _ _ h3]
    exact hq i q hi
  · rw [List.getElem?_append_right (by omega)] at hi
    have hz : i - L.length < 1 := (List.getElem?_eq_some_iff.mp hi).1
    have h3 : i = L.length := by omega
    subst h3
    rw [Nat.sub_self] at hi
    cases hi
    rw [va_up_self, va_up_self, va_up_self]
    exact ⟨rfl, rfl, rfl⟩
/-- the reference's view of an edition's rules -/
def mE (ne : Nat) (ef rr rm : Nat → Nat) (day : Nat) : Option ((Nat → Nat → Nat → Option Nat) × (Nat → Nat → Nat)) := match eo ef day ne with
  | none => none
  | some e => some (mF rr rm e, mV rr e)
/-- the reference's view of the facts -/
noncomputable def mK (nf : Nat) (fl fk fd fw fv : Nat → Nat) (lot day on : Nat) : Nat → Option Nat := fun k => kv fv (hk fl fk fd fw lot k day on nf)
theorem mulle {a b c d : Nat} (h1 : a ≤ b) (h2 : c ≤ d) : a * c ≤ b * d := Nat.mul_le_mul h1 h2
theorem fp_k {rr : Nat → Nat} {e K g st n : Nat} (h : fp rr e K g st n = true) : rr ((e * 40 + n) * 5) = K := by
  unfold fp at h
  simp only [decide_eq_true_eq] at h
  exact h.1
theorem least_min {a b : Nat} (ha : a < 2 ^ 63) (hb : b < 2 ^ 63) : (if lN b ≤ lN a then lN b else lN a) = lN (min a b) := by
  by_cases h : b ≤ a
  · rw [if_pos ((pk_lLE hb ha).mpr h), Nat.min_eq_right h]
  · rw [if_neg (fun q => h ((pk_lLE hb ha).mp q)), Nat.min_eq_left (by omega)]
theorem half_le (a n : Nat) : a / (2 * n) * n ≤ a := by
  have h1 : a / (2 * n) * (2 * n) ≤ a := Nat.div_mul_le_self _ _
  have h2 : a / (2 * n) * (2 * n) = 2 * (a / (2 * n) * n) := by rw [← Nat.mul_assoc, Nat.mul_comm (a / (2 * n)) 2, Nat.mul_assoc]
  omega
end
section
theorem gm_MO_holds : gM y_MO_holds b_MO_holds 10 (some .int) 4 := ⟨w_1029, w_10, ⟨by decide, by decide⟩, by decide +kernel⟩
set_option maxHeartbeats 4000000 in
set_option maxRecDepth 100000 in
/-- MO_holds  -/
theorem c_MO_holds (l : Launch) (G : gG) (h : fH) (sz : Nat) (x nf lot kind day on : Nat) (fl fk fd fw fv : Nat → Nat) (mf : Nat → Value) (g_x : h x = some (40, 0, .inr (8, mo mf))) (hFc : mFc G h mf nf fl fk fd fw fv) (blot : lot < 2 ^ 31) (bkind : kind < 2 ^ 31) (bday : day < 2 ^ 31) (bon : on < 2 ^ 31) : cM l y_MO_holds b_MO_holds 10 (some .int) { frames := 0, cells := 0, slots := 0, locals := 0 } G [.ref x, .int (nI lot), .int (nI kind), .long (lN day), .long (lN on)] h sz (cQi G h sz (fun r h' => r = bI (hk fl fk fd fw lot kind day on nf) ∧ h' = h)) := by
  refine f_start (by decide) (Nat.le_of_ble_eq_true rfl) ?_
  intro p e s m below meth c ls C hr hsz hI hl
  obtain ⟨hx, hb, hml, hown, hnm, hlk, hT, hG, hZ⟩ := id C
  have hK := hG.1
  have hX : fX h sz h := fX.rf
  have hl : lv_has ls 10 [(0, .ref x), (1, .int (nI lot)), (2, .int (nI kind)), (3, .long (lN day)), (5, .long (lN on))] := hl
  obtain ⟨a7, a8, a9, a10, a11, ⟨v_7, v_8, v_9, v_10, v_11, v_12⟩, ⟨g_a7, g_a8, g_a9, g_a10, g_a11⟩, bnf, bfl, bfk, bfd, bfw, bfv0⟩ := hFc
  have bfv : ∀ i, fv i ≤ 100000000 := fun i => Nat.le_trans (bfv0 i) (mostN_le _)
  have LOOP : ∀ (k n : Nat), n + k = nf → ∀ ls : Array Slot, lv_has ls 10 [(0, .ref x), (1, .int (nI lot)), (2, .int (nI kind)), (3, .long (lN day)), (5, .long (lN on)), (7, .int (bI (hk fl fk fd fw lot kind day on n))), (8, .int (nI n))] → W p l e { frames := 0, cells := 0, slots := 0, locals := 0 } s m ([.ref x, .int (nI lot), .int (nI kind), .long (lN day), .long (lN on)] : List Value).toArray below meth c s.heap [] 0 0 (MQ below (cQi G h sz (fun r h' => r = bI (hk fl fk fd fw lot kind day on nf) ∧ h' = h)) ([.ref x, .int (nI lot), .int (nI kind), .long (lN day), .long (lN on)] : List Value).toArray s 0 0 (fA h sz)) (F0 m 6 ls []) := by
    intro k
    induction k with
    | zero =>
      intro n hn ls hl
      refine lv_iload hx hb d_MO_holds_6 (lv_at hl 6 rfl) ?_
      refine lv_aload_n hx hb d_MO_holds_8 rfl (lv_at hl 0 rfl) ?_
      refine f_get (C := "DutyRulesModel") (T := T_MO) (N := 40) hx hb (fun w q => hT w (s_MO w q)) hown hK hI g_x rfl 12 (by decide) (hT _ w_821) (fun _ q => q) (mo_get (by decide) v_12) d_MO_holds_9 ?_
      refine lv_icmp_ge (tgt := 113) hx hb d_MO_holds_12 (by decide) (fun c_1 => ?_) (fun c_1 => absurd ((n_le (by omega) (by omega)).mpr (by omega)) c_1)
      refine lv_iload hx hb d_MO_holds_113 (lv_at hl 5 rfl) ?_
      exact f_iret C hr hI ⟨by rw [show n = nf by omega], rfl⟩ hX (Nat.le_refl _) (Nat.le_refl _) d_MO_holds_115
    | succ k ih =>
      intro n hn ls hl
      have hn2 : n < nf := by omega
      have ih : ∀ n : Nat, n + k = nf → ∀ ls : Array Slot, lv_has ls 10 [(0, .ref x), (1, .int (nI lot)), (2, .int (nI kind)), (3, .long (lN day)), (5, .long (lN on)), (7, .int (bI (hk fl fk fd fw lot kind day on n))), (8, .int (nI n))] → W p l e { frames := 0, cells := 0, slots := 0, locals := 0 } s m ([.ref x, .int (nI lot), .int (nI kind), .long (lN day), .long (lN on)] : List Value).toArray below meth c s.heap [] 0 0 (MQ below (cQi G h sz (fun r h' => r = bI (hk fl fk fd fw lot kind day on nf) ∧ h' = h)) ([.ref x, .int (nI lot), .int (nI kind), .long (lN day), .long (lN on)] : List Value).toArray s 0 0 (fA h sz)) (F0 m 6 ls []) := ih
      rcases hk_ix (fl := fl) (fk := fk) (fd := fd) (fw := fw) (lot := lot) (kind := kind) (day := day) (on := on) n with e0 | ⟨i, hi1, ei, hi3⟩
      · rw [e0, bI_0] at hl
        refine lv_iload hx hb d_MO_holds_6 (lv_at hl 6 rfl) ?_
        refine lv_aload_n hx hb d_MO_holds_8 rfl (lv_at hl 0 rfl) ?_
        refine f_get (C := "DutyRulesModel") (T := T_MO) (N := 40) hx hb (fun w q => hT w (s_MO w q)) hown hK hI g_x rfl 12 (by decide) (hT _ w_821) (fun _ q => q) (mo_get (by decide) v_12) d_MO_holds_9 ?_
        refine lv_icmp_ge (tgt := 113) hx hb d_MO_holds_12 (by decide) (fun c_1 => absurd c_1 (fun q => absurd ((n_le (by omega) (by omega)).mp q) (by omega))) (fun c_1 => ?_)
        refine lv_aload_n hx hb d_MO_holds_15 rfl (lv_at hl 0 rfl) ?_
        refine f_get (C := "DutyRulesModel") (T := T_MO) (N := 40) hx hb (fun w q => hT w (s_MO w q)) hown hK hI g_x rfl 7 (by decide) (hT _ w_816) (fun _ q => q) (mo_get (by decide) v_7) d_MO_holds_16 ?_
        refine lv_iload hx hb d_MO_holds_19 (lv_at hl 6 rfl) ?_
        refine f_ialdn (k := n) (v := (nI (fl n))) hx hb hI g_a7 (fT.ofK hK (t0 := 0) rfl) (by omega) (by omega) rfl d_MO_holds_21 ?_
        refine lv_iload_n hx hb d_MO_holds_22 rfl (lv_at hl 1 rfl) ?_
        refine lv_icmp_ne (tgt := 66) hx hb d_MO_holds_23 (by decide) (fun c_2 => ?_) (fun c_2 => ?_)
        · have c_2 : ¬ (fl n) = lot := fun q => c_2 ((n_eq (a := (fl n)) (b := lot) (by have := bfl n; omega) (by omega)).mpr q)
          refine lv_iconst (v := 0) hx hb d_MO_holds_66 (by decide) ?_
          refine lv_istore (lv' := [(9, .int 0), (0, .ref x), (1, .int (nI lot)), (2, .int (nI kind)), (3, .long (lN day)), (5, .long (lN on)), (7, .int (-1)), (8, .int (nI n))]) hx hb d_MO_holds_67 hl (by decide) rfl (fun ls hl => ?_)
          refine lv_iload hx hb d_MO_holds_69 (lv_at hl 0 rfl) ?_
          refine lv_if_eq (tgt := 103) hx hb d_MO_holds_71 (by decide) (fun c_3 => ?_) (fun c_3 => absurd (by decide) c_3)
          refine lv_iload hx hb d_MO_holds_103 (lv_at hl 6 rfl) ?_
          refine lv_istore (lv' := [(7, .int (-1)), (9, .int 0), (0, .ref x), (1, .int (nI lot)), (2, .int (nI kind)), (3, .long (lN day)), (5, .long (lN on)), (8, .int (nI n))]) hx hb d_MO_holds_105 hl (by decide) rfl (fun ls hl => ?_)
          refine lv_iinc (v := nI (n + 1)) (lv' := [(8, .int (nI (n + 1))), (7, .int (-1)), (9, .int 0), (0, .ref x), (1, .int (nI lot)), (2, .int (nI kind)), (3, .long (lN day)), (5, .long (lN on))]) hx hb d_MO_holds_107 hl (k := 7) rfl (f_inc1 _) (by decide) rfl (fun ls hl => ?_)
          refine lv_goto (tgt := 6) hx hb d_MO_holds_110 (by decide) ?_
          refine ih (n + 1) (by omega) ls ?_
          have e9 : hk fl fk fd fw lot kind day on (n + 1) = hk fl fk fd fw lot kind day on n := hk_no (fun q => by obtain ⟨q1, q2, q3, q4⟩ := q; omega)
          rw [e9]
          rw [e0, bI_0]
          exact lv_sub hl [3, 4, 5, 6, 7, 1, 0] rfl
        · have c_2 : (fl n) = lot := (n_eq (a := (fl n)) (b := lot) (by have := bfl n; omega) (by omega)).mp c_2
          refine lv_aload_n hx hb d_MO_holds_26 rfl (lv_at hl 0 rfl) ?_
          refine f_get (C := "DutyRulesModel") (T := T_MO) (N := 40) hx hb (fun w q => hT w (s_MO w q)) hown hK hI g_x rfl 8 (by decide) (hT _ w_817) (fun _ q => q) (mo_get (by decide) v_8) d_MO_holds_27 ?_
          refine lv_iload hx hb d_MO_holds_30 (lv_at hl 6 rfl) ?_
          refine f_ialdn (k := n) (v := (nI (fk n))) hx hb hI g_a8 (fT.ofK hK (t0 := 0) rfl) (by omega) (by omega) rfl d_MO_holds_32 ?_
          refine lv_iload_n hx hb d_MO_holds_33 rfl (lv_at hl 2 rfl) ?_
          refine lv_icmp_ne (tgt := 66) hx hb d_MO_holds_34 (by decide) (fun c_4 => ?_) (fun c_4 => ?_)
          · have c_4 : ¬ (fk n) = kind := fun q => c_4 ((n_eq (a := (fk n)) (b := kind) (by have := bfk n; omega) (by omega)).mpr q)
            refine lv_iconst (v := 0) hx hb d_MO_holds_66 (by decide) ?_
            refine lv_istore (lv' := [(9, .int 0), (0, .ref x), (1, .int (nI lot)), (2, .int (nI kind)), (3, .long (lN day)), (5, .long (lN on)), (7, .int (-1)), (8, .int (nI n))]) hx hb d_MO_holds_67 hl (by decide) rfl (fun ls hl => ?_)
            refine lv_iload hx hb d_MO_holds_69 (lv_at hl 0 rfl) ?_
            refine lv_if_eq (tgt := 103) hx hb d_MO_holds_71 (by decide) (fun c_5 => ?_) (fun c_5 => absurd (by decide) c_5)
            refine lv_iload hx hb d_MO_holds_103 (lv_at hl 6 rfl) ?_
            refine lv_istore (lv' := [(7, .int (-1)), (9, .int 0), (0, .ref x), (1, .int (nI lot)), (2, .int (nI kind)), (3, .long (lN day)), (5, .long (lN on)), (8, .int (nI n))]) hx hb d_MO_holds_105 hl (by decide) rfl (fun ls hl => ?_)
            refine lv_iinc (v := nI (n + 1)) (lv' := [(8, .int (nI (n + 1))), (7, .int (-1)), (9, .int 0), (0, .ref x), (1, .int (nI lot)), (2, .int (nI kind)), (3, .long (lN day)), (5, .long (lN on))]) hx hb d_MO_holds_107 hl (k := 7) rfl (f_inc1 _) (by decide) rfl (fun ls hl => ?_)
            refine lv_goto (tgt := 6) hx hb d_MO_holds_110 (by decide) ?_
            refine ih (n + 1) (by omega) ls ?_
            have e9 : hk fl fk fd fw lot kind day on (n + 1) = hk fl fk fd fw lot kind day on n := hk_no (fun q => by obtain ⟨q1, q2, q3, q4⟩ := q; omega)
            rw [e9]
            rw [e0, bI_0]
            exact lv_sub hl [3, 4, 5, 6, 7, 1, 0] rfl
          · have c_4 : (fk n) = kind := (n_eq (a := (fk n)) (b := kind) (by have := bfk n; omega) (by omega)).mp c_4
            refine lv_aload_n hx hb d_MO_holds_37 rfl (lv_at hl 0 rfl) ?_
            refine f_get (C := "DutyRulesModel") (T := T_MO) (N := 40) hx hb (fun w q => hT w (s_MO w q)) hown hK hI g_x rfl 9 (by decide) (hT _ w_818) (fun _ q => q) (mo_get (by decide) v_9) d_MO_holds_38 ?_
            refine lv_iload hx hb d_MO_holds_41 (lv_at hl 6 rfl) ?_
            refine f_laldn (k := n) (v := (lN (fd n))) hx hb hI g_a9 (fT.ofK hK (t0 := 1) rfl) (by omega) (by omega) rfl d_MO_holds_43 ?_
            refine lv_lload_n hx hb d_MO_holds_44 rfl (lv_at hl 3 rfl) ?_
            refine f_lc_gt (tgt := 66) hx hb d_MO_holds_45 d_MO_holds_46 (by decide) (fun c_6 => ?_) (fun c_6 => ?_)
            · have c_6 : day < (fd n) := (pk_lLT (a := day) (b := (fd n)) (by omega) (by have := bfd n; omega)).mp c_6
              refine lv_iconst (v := 0) hx hb d_MO_holds_66 (by decide) ?_
              refine lv_istore (lv' := [(9, .int 0), (0, .ref x), (1, .int (nI lot)), (2, .int (nI kind)), (3, .long (lN day)), (5, .long (lN on)), (7, .int (-1)), (8, .int (nI n))]) hx hb d_MO_holds_67 hl (by decide) rfl (fun ls hl => ?_)
              refine lv_iload hx hb d_MO_holds_69 (lv_at hl 0 rfl) ?_
              refine lv_if_eq (tgt := 103) hx hb d_MO_holds_71 (by decide) (fun c_7 => ?_) (fun c_7 => absurd (by decide) c_7)
              refine lv_iload hx hb d_MO_holds_103 (lv_at hl 6 rfl) ?_
              refine lv_istore (lv' := [(7, .int (-1)), (9, .int 0), (0, .ref x), (1, .int (nI lot)), (2, .int (nI kind)), (3, .long (lN day)), (5, .long (lN on)), (8, .int (nI n))]) hx hb d_MO_holds_105 hl (by decide) rfl (fun ls hl => ?_)
              refine lv_iinc (v := nI (n + 1)) (lv' := [(8, .int (nI (n + 1))), (7, .int (-1)), (9, .int 0), (0, .ref x), (1, .int (nI lot)), (2, .int (nI kind)), (3, .long (lN day)), (5, .long (lN on))]) hx hb d_MO_holds_107 hl (k := 7) rfl (f_inc1 _) (by decide) rfl (fun ls hl => ?_)
              refine lv_goto (tgt := 6) hx hb d_MO_holds_110 (by decide) ?_
              refine ih (n + 1) (by omega) ls ?_
              have e9 : hk fl fk fd fw lot kind day on (n + 1) = hk fl fk fd fw lot kind day on n := hk_no (fun q => by obtain ⟨q1, q2, q3, q4⟩ := q; omega)
              rw [e9]
              rw [e0, bI_0]
              exact lv_sub hl [3, 4, 5, 6, 7, 1, 0] rfl
            · have c_6 : ¬ day < (fd n) := fun q => c_6 ((pk_lLT (a := day) (b := (fd n)) (by omega) (by have := bfd n; omega)).mpr q)
              refine lv_aload_n hx hb d_MO_holds_49 rfl (lv_at hl 0 rfl) ?_
              refine f_get (C := "DutyRulesModel") (T := T_MO) (N := 40) hx hb (fun w q => hT w (s_MO w q)) hown hK hI g_x rfl 10 (by decide) (hT _ w_819) (fun _ q => q) (mo_get (by decide) v_10) d_MO_holds_50 ?_
              refine lv_iload hx hb d_MO_holds_53 (lv_at hl 6 rfl) ?_
              refine f_laldn (k := n) (v := (lN (fw n))) hx hb hI g_a10 (fT.ofK hK (t0 := 1) rfl) (by omega) (by omega) rfl d_MO_holds_55 ?_
              refine lv_lload hx hb d_MO_holds_56 (lv_at hl 4 rfl) ?_
              refine f_lc_gt (tgt := 66) hx hb d_MO_holds_58 d_MO_holds_59 (by decide) (fun c_8 => ?_) (fun c_8 => ?_)
              · have c_8 : on < (fw n) := (pk_lLT (a := on) (b := (fw n)) (by omega) (by have := bfw n; omega)).mp c_8
                refine lv_iconst (v := 0) hx hb d_MO_holds_66 (by decide) ?_
                refine lv_istore (lv' := [(9, .int 0), (0, .ref x), (1, .int (nI lot)), (2, .int (nI kind)), (3, .long (lN day)), (5, .long (lN on)), (7, .int (-1)), (8, .int (nI n))]) hx hb d_MO_holds_67 hl (by decide) rfl (fun ls hl => ?_)
                refine lv_iload hx hb d_MO_holds_69 (lv_at hl 0 rfl) ?_
                refine lv_if_eq (tgt := 103) hx hb d_MO_holds_71 (by decide) (fun c_9 => ?_) (fun c_9 => absurd (by decide) c_9)
                refine lv_iload hx hb d_MO_holds_103 (lv_at hl 6 rfl) ?_
                refine lv_istore (lv' := [(7, .int (-1)), (9, .int 0), (0, .ref x), (1, .int (nI lot)), (2, .int (nI kind)), (3, .long (lN day)), (5, .long (lN on)), (8, .int (nI n))]) hx hb d_MO_holds_105 hl (by decide) rfl (fun ls hl => ?_)
                refine lv_iinc (v := nI (n + 1)) (lv' := [(8, .int (nI (n + 1))), (7, .int (-1)), (9, .int 0), (0, .ref x), (1, .int (nI lot)), (2, .int (nI kind)), (3, .long (lN day)), (5, .long (lN on))]) hx hb d_MO_holds_107 hl (k := 7) rfl (f_inc1 _) (by decide) rfl (fun ls hl => ?_)
                refine lv_goto (tgt := 6) hx hb d_MO_holds_110 (by decide) ?_
                refine ih (n + 1) (by omega) ls ?_
                have e9 : hk fl fk fd fw lot kind day on (n + 1) = hk fl fk fd fw lot kind day on n := hk_no (fun q => by obtain ⟨q1, q2, q3, q4⟩ := q; omega)
                rw [e9]
                rw [e0, bI_0]
                exact lv_sub hl [3, 4, 5, 6, 7, 1, 0] rfl
              · have c_8 : ¬ on < (fw n) := fun q => c_8 ((pk_lLT (a := on) (b := (fw n)) (by omega) (by have := bfw n; omega)).mpr q)
                refine lv_iconst (v := 1) hx hb d_MO_holds_62 (by decide) ?_
                refine lv_goto (tgt := 67) hx hb d_MO_holds_63 (by decide) ?_
                refine lv_istore (lv' := [(9, .int 1), (0, .ref x), (1, .int (nI lot)), (2, .int (nI kind)), (3, .long (lN day)), (5, .long (lN on)), (7, .int (-1)), (8, .int (nI n))]) hx hb d_MO_holds_67 hl (by decide) rfl (fun ls hl => ?_)
                refine lv_iload hx hb d_MO_holds_69 (lv_at hl 0 rfl) ?_
                refine lv_if_eq (tgt := 103) hx hb d_MO_holds_71 (by decide) (fun c_10 => absurd c_10 (by decide)) (fun c_10 => ?_)
                refine lv_iload hx hb d_MO_holds_74 (lv_at hl 6 rfl) ?_
                refine lv_iconst (v := (-1)) hx hb d_MO_holds_76 (by decide) ?_
                refine lv_icmp_eq (tgt := 98) hx hb d_MO_holds_77 (by decide) (fun c_11 => ?_) (fun c_11 => absurd rfl c_11)
                refine lv_iload hx hb d_MO_holds_98 (lv_at hl 7 rfl) ?_
                refine lv_goto (tgt := 105) hx hb d_MO_holds_100 (by decide) ?_
                refine lv_istore (lv' := [(7, .int (nI n)), (9, .int 1), (0, .ref x), (1, .int (nI lot)), (2, .int (nI kind)), (3, .long (lN day)), (5, .long (lN on)), (8, .int (nI n))]) hx hb d_MO_holds_105 hl (by decide) rfl (fun ls hl => ?_)
                refine lv_iinc (v := nI (n + 1)) (lv' := [(8, .int (nI (n + 1))), (7, .int (nI n)), (9, .int 1), (0, .ref x), (1, .int (nI lot)), (2, .int (nI kind)), (3, .long (lN day)), (5, .long (lN on))]) hx hb d_MO_holds_107 hl (k := 7) rfl (f_inc1 _) (by decide) rfl (fun ls hl => ?_)
                refine lv_goto (tgt := 6) hx hb d_MO_holds_110 (by decide) ?_
                refine ih (n + 1) (by omega) ls ?_
                have e9 : hk fl fk fd fw lot kind day on (n + 1) = max (hk fl fk fd fw lot kind day on n) (kK fd n) := hk_yes ⟨c_2, c_4, by omega, by omega⟩
                rw [e9]
                rw [e0, Nat.max_eq_right (Nat.zero_le _), bI_k (by omega)]
                exact lv_sub hl [3, 4, 5, 6, 7, 1, 0] rfl
      · rw [ei, bI_k (by omega)] at hl
        refine lv_iload hx hb d_MO_holds_6 (lv_at hl 6 rfl) ?_
        refine lv_aload_n hx hb d_MO_holds_8 rfl (lv_at hl 0 rfl) ?_
        refine f_get (C := "DutyRulesModel") (T := T_MO) (N := 40) hx hb (fun w q => hT w (s_MO w q)) hown hK hI g_x rfl 12 (by decide) (hT _ w_821) (fun _ q => q) (mo_get (by decide) v_12) d_MO_holds_9 ?_
        refine lv_icmp_ge (tgt := 113) hx hb d_MO_holds_12 (by decide) (fun c_1 => absurd c_1 (fun q => absurd ((n_le (by omega) (by omega)).mp q) (by omega))) (fun c_1 => ?_)
        refine lv_aload_n hx hb d_MO_holds_15 rfl (lv_at hl 0 rfl) ?_
        refine f_get (C := "DutyRulesModel") (T := T_MO) (N := 40) hx hb (fun w q => hT w (s_MO w q)) hown hK hI g_x rfl 7 (by decide) (hT _ w_816) (fun _ q => q) (mo_get (by decide) v_7) d_MO_holds_16 ?_
        refine lv_iload hx hb d_MO_holds_19 (lv_at hl 6 rfl) ?_
        refine f_ialdn (k := n) (v := (nI (fl n))) hx hb hI g_a7 (fT.ofK hK (t0 := 0) rfl) (by omega) (by omega) rfl d_MO_holds_21 ?_
        refine lv_iload_n hx hb d_MO_holds_22 rfl (lv_at hl 1 rfl) ?_
        refine lv_icmp_ne (tgt := 66) hx hb d_MO_holds_23 (by decide) (fun c_2 => ?_) (fun c_2 => ?_)
        · have c_2 : ¬ (fl n) = lot := fun q => c_2 ((n_eq (a := (fl n)) (b := lot) (by have := bfl n; omega) (by omega)).mpr q)
          refine lv_iconst (v := 0) hx hb d_MO_holds_66 (by decide) ?_
          refine lv_istore (lv' := [(9, .int 0), (0, .ref x), (1, .int (nI lot)), (2, .int (nI kind)), (3, .long (lN day)), (5, .long (lN on)), (7, .int (nI i)), (8, .int (nI n))]) hx hb d_MO_holds_67 hl (by decide) rfl (fun ls hl => ?_)
          refine lv_iload hx hb d_MO_holds_69 (lv_at hl 0 rfl) ?_
          refine lv_if_eq (tgt := 103) hx hb d_MO_holds_71 (by decide) (fun c_3 => ?_) (fun c_3 => absurd (by decide) c_3)
          refine lv_iload hx hb d_MO_holds_103 (lv_at hl 6 rfl) ?_
          refine lv_istore (lv' := [(7, .int (nI i)), (9, .int 0), (0, .ref x), (1, .int (nI lot)), (2, .int (nI kind)), (3, .long (lN day)), (5, .long (lN on)), (8, .int (nI n))]) hx hb d_MO_holds_105 hl (by decide) rfl (fun ls hl => ?_)
          refine lv_iinc (v := nI (n + 1)) (lv' := [(8, .int (nI (n + 1))), (7, .int (nI i)), (9, .int 0), (0, .ref x), (1, .int (nI lot)), (2, .int (nI kind)), (3, .long (lN day)), (5, .long (lN on))]) hx hb d_MO_holds_107 hl (k := 7) rfl (f_inc1 _) (by decide) rfl (fun ls hl => ?_)
          refine lv_goto (tgt := 6) hx hb d_MO_holds_110 (by decide) ?_
          refine ih (n + 1) (by omega) ls ?_
          have e9 : hk fl fk fd fw lot kind day on (n + 1) = hk fl fk fd fw lot kind day on n := hk_no (fun q => by obtain ⟨q1, q2, q3, q4⟩ := q; omega)
          rw [e9]
          rw [ei, bI_k (by omega)]
          exact lv_sub hl [3, 4, 5, 6, 7, 1, 0] rfl
        · have c_2 : (fl n) = lot := (n_eq (a := (fl n)) (b := lot) (by have := bfl n; omega) (by omega)).mp c_2
          refine lv_aload_n hx hb d_MO_holds_26 rfl (lv_at hl 0 rfl) ?_
          refine f_get (C := "DutyRulesModel") (T := T_MO) (N := 40) hx hb (fun w q => hT w (s_MO w q)) hown hK hI g_x rfl 8 (by decide) (hT _ w_817) (fun _ q => q) (mo_get (by decide) v_8) d_MO_holds_27 ?_
          refine lv_iload hx hb d_MO_holds_30 (lv_at hl 6 rfl) ?_
          refine f_ialdn (k := n) (v := (nI (fk n))) hx hb hI g_a8 (fT.ofK hK (t0 := 0) rfl) (by omega) (by omega) rfl d_MO_holds_32 ?_
          refine lv_iload_n hx hb d_MO_holds_33 rfl (lv_at hl 2 rfl) ?_
          refine lv_icmp_ne (tgt := 66) hx hb d_MO_holds_34 (by decide) (fun c_4 => ?_) (fun c_4 => ?_)
          · have c_4 : ¬ (fk n) = kind := fun q => c_4 ((n_eq (a := (fk n)) (b := kind) (by have := bfk n; omega) (by omega)).mpr q)
            refine lv_iconst (v := 0) hx hb d_MO_holds_66 (by decide) ?_
            refine lv_istore (lv' := [(9, .int 0), (0, .ref x), (1, .int (nI lot)), (2, .int (nI kind)), (3, .long (lN day)), (5, .long (lN on)), (7, .int (nI i)), (8, .int (nI n))]) hx hb d_MO_holds_67 hl (by decide) rfl (fun ls hl => ?_)
            refine lv_iload hx hb d_MO_holds_69 (lv_at hl 0 rfl) ?_
            refine lv_if_eq (tgt := 103) hx hb d_MO_holds_71 (by decide) (fun c_5 => ?_) (fun c_5 => absurd (by decide) c_5)
            refine lv_iload hx hb d_MO_holds_103 (lv_at hl 6 rfl) ?_
            refine lv_istore (lv' := [(7, .int (nI i)), (9, .int 0), (0, .ref x), (1, .int (nI lot)), (2, .int (nI kind)), (3, .long (lN day)), (5, .long (lN on)), (8, .int (nI n))]) hx hb d_MO_holds_105 hl (by decide) rfl (fun ls hl => ?_)
            refine lv_iinc (v := nI (n + 1)) (lv' := [(8, .int (nI (n + 1))), (7, .int (nI i)), (9, .int 0), (0, .ref x), (1, .int (nI lot)), (2, .int (nI kind)), (3, .long (lN day)), (5, .long (lN on))]) hx hb d_MO_holds_107 hl (k := 7) rfl (f_inc1 _) (by decide) rfl (fun ls hl => ?_)
            refine lv_goto (tgt := 6) hx hb d_MO_holds_110 (by decide) ?_
            refine ih (n + 1) (by omega) ls ?_
            have e9 : hk fl fk fd fw lot kind day on (n + 1) = hk fl fk fd fw lot kind day on n := hk_no (fun q => by obtain ⟨q1, q2, q3, q4⟩ := q; omega)
            rw [e9]
            rw [ei, bI_k (by omega)]
            exact lv_sub hl [3, 4, 5, 6, 7, 1, 0] rfl
          · have c_4 : (fk n) = kind := (n_eq (a := (fk n)) (b := kind) (by have := bfk n; omega) (by omega)).mp c_4
            refine lv_aload_n hx hb d_MO_holds_37 rfl (lv_at hl 0 rfl) ?_
            refine f_get (C := "DutyRulesModel") (T := T_MO) (N := 40) hx hb (fun w q => hT w (s_MO w q)) hown hK hI g_x rfl 9 (by decide) (hT _ w_818) (fun _ q => q) (mo_get (by decide) v_9) d_MO_holds_38 ?_
            refine lv_iload hx hb d_MO_holds_41 (lv_at hl 6 rfl) ?_
            refine f_laldn (k := n) (v := (lN (fd n))) hx hb hI g_a9 (fT.ofK hK (t0 := 1) rfl) (by omega) (by omega) rfl d_MO_holds_43 ?_
            refine lv_lload_n hx hb d_MO_holds_44 rfl (lv_at hl 3 rfl) ?_
            refine f_lc_gt (tgt := 66) hx hb d_MO_holds_45 d_MO_holds_46 (by decide) (fun c_6 => ?_) (fun c_6 => ?_)
            · have c_6 : day < (fd n) := (pk_lLT (a := day) (b := (fd n)) (by omega) (by have := bfd n; omega)).mp c_6
              refine lv_iconst (v := 0) hx hb d_MO_holds_66 (by decide) ?_
              refine lv_istore (lv' := [(9, .int 0), (0, .ref x), (1, .int (nI lot)), (2, .int (nI kind)), (3, .long (lN day)), (5, .long (lN on)), (7, .int (nI i)), (8, .int (nI n))]) hx hb d_MO_holds_67 hl (by decide) rfl (fun ls hl => ?_)
              refine lv_iload hx hb d_MO_holds_69 (lv_at hl 0 rfl) ?_
              refine lv_if_eq (tgt := 103) hx hb d_MO_holds_71 (by decide) (fun c_7 => ?_) (fun c_7 => absurd (by decide) c_7)
              refine lv_iload hx hb d_MO_holds_103 (lv_at hl 6 rfl) ?_
              refine lv_istore (lv' := [(7, .int (nI i)), (9, .int 0), (0, .ref x), (1, .int (nI lot)), (2, .int (nI kind)), (3, .long (lN day)), (5, .long (lN on)), (8, .int (nI n))]) hx hb d_MO_holds_105 hl (by decide) rfl (fun ls hl => ?_)
              refine lv_iinc (v := nI (n + 1)) (lv' := [(8, .int (nI (n + 1))), (7, .int (nI i)), (9, .int 0), (0, .ref x), (1, .int (nI lot)), (2, .int (nI kind)), (3, .long (lN day)), (5, .long (lN on))]) hx hb d_MO_holds_107 hl (k := 7) rfl (f_inc1 _) (by decide) rfl (fun ls hl => ?_)
              refine lv_goto (tgt := 6) hx hb d_MO_holds_110 (by decide) ?_
              refine ih (n + 1) (by omega) ls ?_
              have e9 : hk fl fk fd fw lot kind day on (n + 1) = hk fl fk fd fw lot kind day on n := hk_no (fun q => by obtain ⟨q1, q2, q3, q4⟩ := q; omega)
              rw [e9]
              rw [ei, bI_k (by omega)]
              exact lv_sub hl [3, 4, 5, 6, 7, 1, 0] rfl
            · have c_6 : ¬ day < (fd n) := fun q => c_6 ((pk_lLT (a := day) (b := (fd n)) (by omega) (by have := bfd n; omega)).mpr q)
              refine lv_aload_n hx hb d_MO_holds_49 rfl (lv_at hl 0 rfl) ?_
              refine f_get (C := "DutyRulesModel") (T := T_MO) (N := 40) hx hb (fun w q => hT w (s_MO w q)) hown hK hI g_x rfl 10 (by decide) (hT _ w_819) (fun _ q => q) (mo_get (by decide) v_10) d_MO_holds_50 ?_
              refine lv_iload hx hb d_MO_holds_53 (lv_at hl 6 rfl) ?_
              refine f_laldn (k := n) (v := (lN (fw n))) hx hb hI g_a10 (fT.ofK hK (t0 := 1) rfl) (by omega) (by omega) rfl d_MO_holds_55 ?_
              refine lv_lload hx hb d_MO_holds_56 (lv_at hl 4 rfl) ?_
              refine f_lc_gt (tgt := 66) hx hb d_MO_holds_58 d_MO_holds_59 (by decide) (fun c_8 => ?_) (fun c_8 => ?_)
              · have c_8 : on < (fw n) := (pk_lLT (a := on) (b := (fw n)) (by omega) (by have := bfw n; omega)).mp c_8
                refine lv_iconst (v := 0) hx hb d_MO_holds_66 (by decide) ?_
                refine lv_istore (lv' := [(9, .int 0), (0, .ref x), (1, .int (nI lot)), (2, .int (nI kind)), (3, .long (lN day)), (5, .long (lN on)), (7, .int (nI i)), (8, .int (nI n))]) hx hb d_MO_holds_67 hl (by decide) rfl (fun ls hl => ?_)
                refine lv_iload hx hb d_MO_holds_69 (lv_at hl 0 rfl) ?_
                refine lv_if_eq (tgt := 103) hx hb d_MO_holds_71 (by decide) (fun c_9 => ?_) (fun c_9 => absurd (by decide) c_9)
                refine lv_iload hx hb d_MO_holds_103 (lv_at hl 6 rfl) ?_
                refine lv_istore (lv' := [(7, .int (nI i)), (9, .int 0), (0, .ref x), (1, .int (nI lot)), (2, .int (nI kind)), (3, .long (lN day)), (5, .long (lN on)), (8, .int (nI n))]) hx hb d_MO_holds_105 hl (by decide) rfl (fun ls hl => ?_)
                refine lv_iinc (v := nI (n + 1)) (lv' := [(8, .int (nI (n + 1))), (7, .int (nI i)), (9, .int 0), (0, .ref x), (1, .int (nI lot)), (2, .int (nI kind)), (3, .long (lN day)), (5, .long (lN on))]) hx hb d_MO_holds_107 hl (k := 7) rfl (f_inc1 _) (by decide) rfl (fun ls hl => ?_)
                refine lv_goto (tgt := 6) hx hb d_MO_holds_110 (by decide) ?_
                refine ih (n + 1) (by omega) ls ?_
                have e9 : hk fl fk fd fw lot kind day on (n + 1) = hk fl fk fd fw lot kind day on n := hk_no (fun q => by obtain ⟨q1, q2, q3, q4⟩ := q; omega)
                rw [e9]
                rw [ei, bI_k (by omega)]
                exact lv_sub hl [3, 4, 5, 6, 7, 1, 0] rfl
              · have c_8 : ¬ on < (fw n) := fun q => c_8 ((pk_lLT (a := on) (b := (fw n)) (by omega) (by have := bfw n; omega)).mpr q)
                refine lv_iconst (v := 1) hx hb d_MO_holds_62 (by decide) ?_
                refine lv_goto (tgt := 67) hx hb d_MO_holds_63 (by decide) ?_
                refine lv_istore (lv' := [(9, .int 1), (0, .ref x), (1, .int (nI lot)), (2, .int (nI kind)), (3, .long (lN day)), (5, .long (lN on)), (7, .int (nI i)), (8, .int (nI n))]) hx hb d_MO_holds_67 hl (by decide) rfl (fun ls hl => ?_)
                refine lv_iload hx hb d_MO_holds_69 (lv_at hl 0 rfl) ?_
                refine lv_if_eq (tgt := 103) hx hb d_MO_holds_71 (by decide) (fun c_10 => absurd c_10 (by decide)) (fun c_10 => ?_)
                refine lv_iload hx hb d_MO_holds_74 (lv_at hl 6 rfl) ?_
                refine lv_iconst (v := (-1)) hx hb d_MO_holds_76 (by decide) ?_
                refine lv_icmp_eq (tgt := 98) hx hb d_MO_holds_77 (by decide) (fun c_11 => absurd c_11 (n_m1 (by omega))) (fun c_11 => ?_)
                refine lv_aload_n hx hb d_MO_holds_80 rfl (lv_at hl 1 rfl) ?_
                refine f_get (C := "DutyRulesModel") (T := T_MO) (N := 40) hx hb (fun w q => hT w (s_MO w q)) hown hK hI g_x rfl 9 (by decide) (hT _ w_818) (fun _ q => q) (mo_get (by decide) v_9) d_MO_holds_81 ?_
                refine lv_iload hx hb d_MO_holds_84 (lv_at hl 7 rfl) ?_
                refine f_laldn (k := n) (v := (lN (fd n))) hx hb hI g_a9 (fT.ofK hK (t0 := 1) rfl) (by omega) (by omega) rfl d_MO_holds_86 ?_
                refine lv_aload_n hx hb d_MO_holds_87 rfl (lv_at hl 1 rfl) ?_
                refine f_get (C := "DutyRulesModel") (T := T_MO) (N := 40) hx hb (fun w q => hT w (s_MO w q)) hown hK hI g_x rfl 9 (by decide) (hT _ w_818) (fun _ q => q) (mo_get (by decide) v_9) d_MO_holds_88 ?_
                refine lv_iload hx hb d_MO_holds_91 (lv_at hl 6 rfl) ?_
                refine f_laldn (k := i) (v := (lN (fd i))) hx hb hI g_a9 (fT.ofK hK (t0 := 1) rfl) (by omega) (by omega) rfl d_MO_holds_93 ?_
                refine f_lc_lt (tgt := 103) hx hb d_MO_holds_94 d_MO_holds_95 (by decide) (fun c_12 => ?_) (fun c_12 => ?_)
                · have c_12 : (fd n) < (fd i) := (pk_lLT (a := (fd n)) (b := (fd i)) (by have := bfd n; omega) (by have := bfd i; omega)).mp c_12
                  refine lv_iload hx hb d_MO_holds_103 (lv_at hl 6 rfl) ?_
                  refine lv_istore (lv' := [(7, .int (nI i)), (9, .int 1), (0, .ref x), (1, .int (nI lot)), (2, .int (nI kind)), (3, .long (lN day)), (5, .long (lN on)), (8, .int (nI n))]) hx hb d_MO_holds_105 hl (by decide) rfl (fun ls hl => ?_)
                  refine lv_iinc (v := nI (n + 1)) (lv' := [(8, .int (nI (n + 1))), (7, .int (nI i)), (9, .int 1), (0, .ref x), (1, .int (nI lot)), (2, .int (nI kind)), (3, .long (lN day)), (5, .long (lN on))]) hx hb d_MO_holds_107 hl (k := 7) rfl (f_inc1 _) (by decide) rfl (fun ls hl => ?_)
                  refine lv_goto (tgt := 6) hx hb d_MO_holds_110 (by decide) ?_
                  refine ih (n + 1) (by omega) ls ?_
                  have e9 : hk fl fk fd fw lot kind day on (n + 1) = max (hk fl fk fd fw lot kind day on n) (kK fd n) := hk_yes ⟨c_2, c_4, by omega, by omega⟩
                  rw [e9]
                  rw [ei, Nat.max_eq_left (Nat.le_of_lt (kK_gt (by omega) (by omega))), bI_k (by omega)]
                  exact lv_sub hl [3, 4, 5, 6, 7, 1, 0] rfl
                · have c_12 : ¬ (fd n) < (fd i) := fun q => c_12 ((pk_lLT (a := (fd n)) (b := (fd i)) (by have := bfd n; omega) (by have := bfd i; omega)).mpr q)
                  refine lv_iload hx hb d_MO_holds_98 (lv_at hl 7 rfl) ?_
                  refine lv_goto (tgt := 105) hx hb d_MO_holds_100 (by decide) ?_
                  refine lv_istore (lv' := [(7, .int (nI n)), (9, .int 1), (0, .ref x), (1, .int (nI lot)), (2, .int (nI kind)), (3, .long (lN day)), (5, .long (lN on)), (8, .int (nI n))]) hx hb d_MO_holds_105 hl (by decide) rfl (fun ls hl => ?_)
                  refine lv_iinc (v := nI (n + 1)) (lv' := [(8, .int (nI (n + 1))), (7, .int (nI n)), (9, .int 1), (0, .ref x), (1, .int (nI lot)), (2, .int (nI kind)), (3, .long (lN day)), (5, .long (lN on))]) hx hb d_MO_holds_107 hl (k := 7) rfl (f_inc1 _) (by decide) rfl (fun ls hl => ?_)
                  refine lv_goto (tgt := 6) hx hb d_MO_holds_110 (by decide) ?_
                  refine ih (n + 1) (by omega) ls ?_
                  have e9 : hk fl fk fd fw lot kind day on (n + 1) = max (hk fl fk fd fw lot kind day on n) (kK fd n) := hk_yes ⟨c_2, c_4, by omega, by omega⟩
                  rw [e9]
                  rw [ei, Nat.max_eq_right (Nat.le_of_lt (kK_lt hi1 (by omega) (by omega))), bI_k (by omega)]
                  exact lv_sub hl [3, 4, 5, 6, 7, 1, 0] rfl
  refine lv_iconst (v := (-1)) hx hb d_MO_holds_0 (by decide) ?_
  refine lv_istore (lv' := [(7, .int (-1)), (0, .ref x), (1, .int (nI lot)), (2, .int (nI kind)), (3, .long (lN day)), (5, .long (lN on))]) hx hb d_MO_holds_1 hl (by decide) rfl (fun ls hl => ?_)
  refine lv_iconst (v := 0) hx hb d_MO_holds_3 (by decide) ?_
  refine lv_istore (lv' := [(8, .int 0), (7, .int (-1)), (0, .ref x), (1, .int (nI lot)), (2, .int (nI kind)), (3, .long (lN day)), (5, .long (lN on))]) hx hb d_MO_holds_4 hl (by decide) rfl (fun ls hl => ?_)
  refine LOOP nf 0 (by omega) ls ?_
  exact lv_sub hl [2, 3, 4, 5, 6, 1, 0] rfl
theorem gm_MO_editionOf : gM y_MO_editionOf b_MO_editionOf 5 (some .int) 1 := ⟨w_1025, w_10, ⟨by decide, by decide⟩, by decide +kernel⟩
set_option maxHeartbeats 4000000 in
set_option maxRecDepth 100000 in
/-- MO_editionOf  -/
theorem c_MO_editionOf (l : Launch) (G : gG) (h : fH) (sz : Nat) (x day : Nat) (mf : Nat → Value) (g_x : h x = some (40, 0, .inr (8, mo mf))) (ne : Nat) (ef rr rm : Nat → Nat) (hEd : mEd G h mf ne ef rr rm) (bday : day < 2 ^ 31) : cM l y_MO_editionOf b_MO_editionOf 5 (some .int) { frames := 0, cells := 0, slots := 0, locals := 0 } G [.ref x, .long (lN day)] h sz (cQi G h sz (fun r h' => r = oN (eo ef day ne) ∧ h' = h)) := by
  refine f_start (by decide) (Nat.le_of_ble_eq_true rfl) ?_
  intro p e s m below meth c ls C hr hsz hI hl
  obtain ⟨hx, hb, hml, hown, hnm, hlk, hT, hG, hZ⟩ := id C
  have hK := hG.1
  have hX : fX h sz h := fX.rf
  have hl : lv_has ls 5 [(0, .ref x), (1, .long (lN day))] := hl
  obtain ⟨a3, a4, a5, ⟨v_3, v_4, v_5, v_6⟩, ⟨g_a3, g_a4, g_a5⟩, bne, brm, bef, brr, brk⟩ := hEd
  have LOOP : ∀ (k n : Nat), n + k = ne → ∀ ls : Array Slot, lv_has ls 5 [(0, .ref x), (1, .long (lN day)), (3, .int (oN (eo ef day n))), (4, .int (nI n))] → W p l e { frames := 0, cells := 0, slots := 0, locals := 0 } s m ([.ref x, .long (lN day)] : List Value).toArray below meth c s.heap [] 0 0 (MQ below (cQi G h sz (fun r h' => r = oN (eo ef day ne) ∧ h' = h)) ([.ref x, .long (lN day)] : List Value).toArray s 0 0 (fA h sz)) (F0 m 5 ls []) := by
    intro k
    induction k with
    | zero =>
      intro n hn ls hl
      refine lv_iload hx hb d_MO_editionOf_5 (lv_at hl 3 rfl) ?_
      refine lv_aload_n hx hb d_MO_editionOf_7 rfl (lv_at hl 0 rfl) ?_
      refine f_get (C := "DutyRulesModel") (T := T_MO) (N := 40) hx hb (fun w q => hT w (s_MO w q)) hown hK hI g_x rfl 6 (by decide) (hT _ w_815) (fun _ q => q) (mo_get (by decide) v_6) d_MO_editionOf_8 ?_
      refine lv_icmp_ge (tgt := 61) hx hb d_MO_editionOf_11 (by decide) (fun c_1 => ?_) (fun c_1 => absurd ((n_le (by omega) (by omega)).mpr (by omega)) c_1)
      refine lv_iload_n hx hb d_MO_editionOf_61 rfl (lv_at hl 2 rfl) ?_
      exact f_iret C hr hI ⟨by rw [show n = ne by omega], rfl⟩ hX (Nat.le_refl _) (Nat.le_refl _) d_MO_editionOf_62
    | succ k ih =>
      intro n hn ls hl
      have hn2 : n < ne := by omega
      have ih : ∀ n : Nat, n + k = ne → ∀ ls : Array Slot, lv_has ls 5 [(0, .ref x), (1, .long (lN day)), (3, .int (oN (eo ef day n))), (4, .int (nI n))] → W p l e { frames := 0, cells := 0, slots := 0, locals := 0 } s m ([.ref x, .long (lN day)] : List Value).toArray below meth c s.heap [] 0 0 (MQ below (cQi G h sz (fun r h' => r = oN (eo ef day ne) ∧ h' = h)) ([.ref x, .long (lN day)] : List Value).toArray s 0 0 (fA h sz)) (F0 m 5 ls []) := ih
      rcases en : eo ef day n with _ | b
      · rw [en] at hl; have hl : lv_has ls 5 [(0, .ref x), (1, .long (lN day)), (3, .int (-1)), (4, .int (nI n))] := hl
        refine lv_iload hx hb d_MO_editionOf_5 (lv_at hl 3 rfl) ?_
        refine lv_aload_n hx hb d_MO_editionOf_7 rfl (lv_at hl 0 rfl) ?_
        refine f_get (C := "DutyRulesModel") (T := T_MO) (N := 40) hx hb (fun w q => hT w (s_MO w q)) hown hK hI g_x rfl 6 (by decide) (hT _ w_815) (fun _ q => q) (mo_get (by decide) v_6) d_MO_editionOf_8 ?_
        refine lv_icmp_ge (tgt := 61) hx hb d_MO_editionOf_11 (by decide) (fun c_2 => absurd c_2 (fun q => absurd ((n_le (by omega) (by omega)).mp q) (by omega))) (fun c_2 => ?_)
        refine lv_aload_n hx hb d_MO_editionOf_14 rfl (lv_at hl 0 rfl) ?_
        refine f_get (C := "DutyRulesModel") (T := T_MO) (N := 40) hx hb (fun w q => hT w (s_MO w q)) hown hK hI g_x rfl 5 (by decide) (hT _ w_814) (fun _ q => q) (mo_get (by decide) v_5) d_MO_editionOf_15 ?_
        refine lv_iload hx hb d_MO_editionOf_18 (lv_at hl 3 rfl) ?_
        refine f_laldn (k := n) (v := (lN (ef n))) hx hb hI g_a5 (fT.ofK hK (t0 := 1) rfl) (by omega) (by omega) rfl d_MO_editionOf_20 ?_
        refine lv_lload_n hx hb d_MO_editionOf_21 rfl (lv_at hl 1 rfl) ?_
        refine f_lc_gt (tgt := 53) hx hb d_MO_editionOf_22 d_MO_editionOf_23 (by decide) (fun c_3 => ?_) (fun c_3 => ?_)
        · have c_3 : day < (ef n) := (pk_lLT (a := day) (b := (ef n)) (by omega) (by have := bef n; omega)).mp c_3
          refine lv_iload_n hx hb d_MO_editionOf_53 rfl (lv_at hl 2 rfl) ?_
          refine lv_istore_n (lv' := [(3, .int (-1)), (0, .ref x), (1, .long (lN day)), (4, .int (nI n))]) hx hb d_MO_editionOf_54 rfl hl (by decide) rfl (fun ls hl => ?_)
          refine lv_iinc (v := nI (n + 1)) (lv' := [(4, .int (nI (n + 1))), (3, .int (-1)), (0, .ref x), (1, .long (lN day))]) hx hb d_MO_editionOf_55 hl (k := 3) rfl (f_inc1 _) (by decide) rfl (fun ls hl => ?_)
          refine lv_goto (tgt := 5) hx hb d_MO_editionOf_58 (by decide) ?_
          refine ih (n + 1) (by omega) ls ?_
          rw [eo_no (by rw [en]; simp only [eoC, Bool.and_eq_true, decide_eq_true_eq]; omega), en]
          exact lv_sub hl [2, 3, 1, 0] rfl
        · have c_3 : ¬ day < (ef n) := fun q => c_3 ((pk_lLT (a := day) (b := (ef n)) (by omega) (by have := bef n; omega)).mpr q)
          refine lv_iload_n hx hb d_MO_editionOf_26 rfl (lv_at hl 2 rfl) ?_
          refine lv_iconst (v := (-1)) hx hb d_MO_editionOf_27 (by decide) ?_
          refine lv_icmp_eq (tgt := 48) hx hb d_MO_editionOf_28 (by decide) (fun c_4 => ?_) (fun c_4 => absurd rfl c_4)
          refine lv_iload hx hb d_MO_editionOf_48 (lv_at hl 3 rfl) ?_
          refine lv_goto (tgt := 54) hx hb d_MO_editionOf_50 (by decide) ?_
          refine lv_istore_n (lv' := [(3, .int (nI n)), (0, .ref x), (1, .long (lN day)), (4, .int (nI n))]) hx hb d_MO_editionOf_54 rfl hl (by decide) rfl (fun ls hl => ?_)
          refine lv_iinc (v := nI (n + 1)) (lv' := [(4, .int (nI (n + 1))), (3, .int (nI n)), (0, .ref x), (1, .long (lN day))]) hx hb d_MO_editionOf_55 hl (k := 3) rfl (f_inc1 _) (by decide) rfl (fun ls hl => ?_)
          refine lv_goto (tgt := 5) hx hb d_MO_editionOf_58 (by decide) ?_
          refine ih (n + 1) (by omega) ls ?_
          rw [eo_yes (by rw [en]; simp only [eoC, Bool.and_eq_true, decide_eq_true_eq]; exact ⟨by omega, trivial⟩)]
          exact lv_sub hl [2, 3, 1, 0] rfl
      · rw [en] at hl; have hl : lv_has ls 5 [(0, .ref x), (1, .long (lN day)), (3, .int (nI b)), (4, .int (nI n))] := hl
        have hb1 := (eo_lt en).1
        refine lv_iload hx hb d_MO_editionOf_5 (lv_at hl 3 rfl) ?_
        refine lv_aload_n hx hb d_MO_editionOf_7 rfl (lv_at hl 0 rfl) ?_
        refine f_get (C := "DutyRulesModel") (T := T_MO) (N := 40) hx hb (fun w q => hT w (s_MO w q)) hown hK hI g_x rfl 6 (by decide) (hT _ w_815) (fun _ q => q) (mo_get (by decide) v_6) d_MO_editionOf_8 ?_
        refine lv_icmp_ge (tgt := 61) hx hb d_MO_editionOf_11 (by decide) (fun c_5 => absurd c_5 (fun q => absurd ((n_le (by omega) (by omega)).mp q) (by omega))) (fun c_5 => ?_)
        refine lv_aload_n hx hb d_MO_editionOf_14 rfl (lv_at hl 0 rfl) ?_
        refine f_get (C := "DutyRulesModel") (T := T_MO) (N := 40) hx hb (fun w q => hT w (s_MO w q)) hown hK hI g_x rfl 5 (by decide) (hT _ w_814) (fun _ q => q) (mo_get (by decide) v_5) d_MO_editionOf_15 ?_
        refine lv_iload hx hb d_MO_editionOf_18 (lv_at hl 3 rfl) ?_
        refine f_laldn (k := n) (v := (lN (ef n))) hx hb hI g_a5 (fT.ofK hK (t0 := 1) rfl) (by omega) (by omega) rfl d_MO_editionOf_20 ?_
        refine lv_lload_n hx hb d_MO_editionOf_21 rfl (lv_at hl 1 rfl) ?_
        refine f_lc_gt (tgt := 53) hx hb d_MO_editionOf_22 d_MO_editionOf_23 (by decide) (fun c_6 => ?_) (fun c_6 => ?_)
        · have c_6 : day < (ef n) := (pk_lLT (a := day) (b := (ef n)) (by omega) (by have := bef n; omega)).mp c_6
          refine lv_iload_n hx hb d_MO_editionOf_53 rfl (lv_at hl 2 rfl) ?_
          refine lv_istore_n (lv' := [(3, .int (nI b)), (0, .ref x), (1, .long (lN day)), (4, .int (nI n))]) hx hb d_MO_editionOf_54 rfl hl (by decide) rfl (fun ls hl => ?_)
          refine lv_iinc (v := nI (n + 1)) (lv' := [(4, .int (nI (n + 1))), (3, .int (nI b)), (0, .ref x), (1, .long (lN day))]) hx hb d_MO_editionOf_55 hl (k := 3) rfl (f_inc1 _) (by decide) rfl (fun ls hl => ?_)
          refine lv_goto (tgt := 5) hx hb d_MO_editionOf_58 (by decide) ?_
          refine ih (n + 1) (by omega) ls ?_
          rw [eo_no (by rw [en]; simp only [eoC, Bool.and_eq_true, decide_eq_true_eq]; omega), en]
          exact lv_sub hl [2, 3, 1, 0] rfl
        · have c_6 : ¬ day < (ef n) := fun q => c_6 ((pk_lLT (a := day) (b := (ef n)) (by omega) (by have := bef n; omega)).mpr q)
          refine lv_iload_n hx hb d_MO_editionOf_26 rfl (lv_at hl 2 rfl) ?_
          refine lv_iconst (v := (-1)) hx hb d_MO_editionOf_27 (by decide) ?_
          refine lv_icmp_eq (tgt := 48) hx hb d_MO_editionOf_28 (by decide) (fun c_7 => absurd c_7 (n_m1 (by omega))) (fun c_7 => ?_)
          refine lv_aload_n hx hb d_MO_editionOf_31 rfl (lv_at hl 0 rfl) ?_
          refine f_get (C := "DutyRulesModel") (T := T_MO) (N := 40) hx hb (fun w q => hT w (s_MO w q)) hown hK hI g_x rfl 5 (by decide) (hT _ w_814) (fun _ q => q) (mo_get (by decide) v_5) d_MO_editionOf_32 ?_
          refine lv_iload hx hb d_MO_editionOf_35 (lv_at hl 3 rfl) ?_
          refine f_laldn (k := n) (v := (lN (ef n))) hx hb hI g_a5 (fT.ofK hK (t0 := 1) rfl) (by omega) (by omega) rfl d_MO_editionOf_37 ?_
          refine lv_aload_n hx hb d_MO_editionOf_38 rfl (lv_at hl 0 rfl) ?_
          refine f_get (C := "DutyRulesModel") (T := T_MO) (N := 40) hx hb (fun w q => hT w (s_MO w q)) hown hK hI g_x rfl 5 (by decide) (hT _ w_814) (fun _ q => q) (mo_get (by decide) v_5) d_MO_editionOf_39 ?_
          refine lv_iload_n hx hb d_MO_editionOf_42 rfl (lv_at hl 2 rfl) ?_
          refine f_laldn (k := b) (v := (lN (ef b))) hx hb hI g_a5 (fT.ofK hK (t0 := 1) rfl) (by omega) (by omega) rfl d_MO_editionOf_43 ?_
          refine f_lc_lt (tgt := 53) hx hb d_MO_editionOf_44 d_MO_editionOf_45 (by decide) (fun c_8 => ?_) (fun c_8 => ?_)
          · have c_8 : (ef n) < (ef b) := (pk_lLT (a := (ef n)) (b := (ef b)) (by have := bef n; omega) (by have := bef b; omega)).mp c_8
            refine lv_iload_n hx hb d_MO_editionOf_53 rfl (lv_at hl 2 rfl) ?_
            refine lv_istore_n (lv' := [(3, .int (nI b)), (0, .ref x), (1, .long (lN day)), (4, .int (nI n))]) hx hb d_MO_editionOf_54 rfl hl (by decide) rfl (fun ls hl => ?_)
            refine lv_iinc (v := nI (n + 1)) (lv' := [(4, .int (nI (n + 1))), (3, .int (nI b)), (0, .ref x), (1, .long (lN day))]) hx hb d_MO_editionOf_55 hl (k := 3) rfl (f_inc1 _) (by decide) rfl (fun ls hl => ?_)
            refine lv_goto (tgt := 5) hx hb d_MO_editionOf_58 (by decide) ?_
            refine ih (n + 1) (by omega) ls ?_
            rw [eo_no (by rw [en]; simp only [eoC, Bool.and_eq_true, decide_eq_true_eq]; omega), en]
            exact lv_sub hl [2, 3, 1, 0] rfl
          · have c_8 : ¬ (ef n) < (ef b) := fun q => c_8 ((pk_lLT (a := (ef n)) (b := (ef b)) (by have := bef n; omega) (by have := bef b; omega)).mpr q)
            refine lv_iload hx hb d_MO_editionOf_48 (lv_at hl 3 rfl) ?_
            refine lv_goto (tgt := 54) hx hb d_MO_editionOf_50 (by decide) ?_
            refine lv_istore_n (lv' := [(3, .int (nI n)), (0, .ref x), (1, .long (lN day)), (4, .int (nI n))]) hx hb d_MO_editionOf_54 rfl hl (by decide) rfl (fun ls hl => ?_)
            refine lv_iinc (v := nI (n + 1)) (lv' := [(4, .int (nI (n + 1))), (3, .int (nI n)), (0, .ref x), (1, .long (lN day))]) hx hb d_MO_editionOf_55 hl (k := 3) rfl (f_inc1 _) (by decide) rfl (fun ls hl => ?_)
            refine lv_goto (tgt := 5) hx hb d_MO_editionOf_58 (by decide) ?_
            refine ih (n + 1) (by omega) ls ?_
            rw [eo_yes (by rw [en]; simp only [eoC, Bool.and_eq_true, decide_eq_true_eq]; exact ⟨by omega, by omega⟩)]
            exact lv_sub hl [2, 3, 1, 0] rfl
  refine lv_iconst (v := (-1)) hx hb d_MO_editionOf_0 (by decide) ?_
  refine lv_istore_n (lv' := [(3, .int (-1)), (0, .ref x), (1, .long (lN day))]) hx hb d_MO_editionOf_1 rfl hl (by decide) rfl (fun ls hl => ?_)
  refine lv_iconst (v := 0) hx hb d_MO_editionOf_2 (by decide) ?_
  refine lv_istore (lv' := [(4, .int 0), (3, .int (-1)), (0, .ref x), (1, .long (lN day))]) hx hb d_MO_editionOf_3 hl (by decide) rfl (fun ls hl => ?_)
  refine LOOP ne 0 (by omega) ls ?_
  exact lv_sub hl [2, 3, 1, 0] rfl
theorem gm_MO_find : gM y_MO_find b_MO_find 10 (some .int) 4 := ⟨w_1033, w_10, ⟨by decide, by decide⟩, by decide +kernel⟩
set_option maxHeartbeats 4000000 in
set_option maxRecDepth 100000 in
/-- MO_find  -/
theorem c_MO_find (l : Launch) (G : gG) (h : fH) (sz : Nat) (x e1 K g st : Nat) (mf : Nat → Value) (g_x : h x = some (40, 0, .inr (8, mo mf))) (ne : Nat) (ef rr rm : Nat → Nat) (hEd : mEd G h mf ne ef rr rm) (be : e1 < 11) (bK : K < 2 ^ 31) (bg : g < 2 ^ 31) (bst : st < 2 ^ 31) : cM l y_MO_find b_MO_find 10 (some .int) { frames := 0, cells := 0, slots := 0, locals := 0 } G [.ref x, .int (nI e1), .int (nI K), .long (lN g), .long (lN st)] h sz (cQi G h sz (fun r h' => r = oN (ff (fp rr e1 K g st) 0 (rm e1)) ∧ h' = h)) := by
  refine f_start (by decide) (Nat.le_of_ble_eq_true rfl) ?_
  intro p e s m below meth c ls C hr hsz hI hl
  obtain ⟨hx, hb, hml, hown, hnm, hlk, hT, hG, hZ⟩ := id C
  have hK := hG.1
  have hX : fX h sz h := fX.rf
  have hl : lv_has ls 10 [(0, .ref x), (1, .int (nI e1)), (2, .int (nI K)), (3, .long (lN g)), (5, .long (lN st))] := hl
  obtain ⟨a3, a4, a5, ⟨v_3, v_4, v_5, v_6⟩, ⟨g_a3, g_a4, g_a5⟩, bne, brm, bef, brr, brk⟩ := hEd
  have bm := brm e1
  have LOOP : ∀ (k n : Nat), n + k = rm e1 → ff (fp rr e1 K g st) 0 (rm e1) = ff (fp rr e1 K g st) n k → ∀ ls : Array Slot, lv_has ls 10 [(0, .ref x), (1, .int (nI e1)), (2, .int (nI K)), (3, .long (lN g)), (5, .long (lN st)), (7, .int (nI n))] → W p l e { frames := 0, cells := 0, slots := 0, locals := 0 } s m ([.ref x, .int (nI e1), .int (nI K), .long (lN g), .long (lN st)] : List Value).toArray below meth c s.heap [] 0 0 (MQ below (cQi G h sz (fun r h' => r = oN (ff (fp rr e1 K g st) 0 (rm e1)) ∧ h' = h)) ([.ref x, .int (nI e1), .int (nI K), .long (lN g), .long (lN st)] : List Value).toArray s 0 0 (fA h sz)) (F0 m 3 ls []) := by
    intro k
    induction k with
    | zero =>
      intro n hn hff ls hl
      refine lv_iload hx hb d_MO_find_3 (lv_at hl 5 rfl) ?_
      refine lv_aload_n hx hb d_MO_find_5 rfl (lv_at hl 0 rfl) ?_
      refine f_get (C := "DutyRulesModel") (T := T_MO) (N := 40) hx hb (fun w q => hT w (s_MO w q)) hown hK hI g_x rfl 4 (by decide) (hT _ w_813) (fun _ q => q) (mo_get (by decide) v_4) d_MO_find_6 ?_
      refine lv_iload_n hx hb d_MO_find_9 rfl (lv_at hl 1 rfl) ?_
      refine f_ialdn (k := e1) (v := (nI (rm e1))) hx hb hI g_a4 (fT.ofK hK (t0 := 0) rfl) (by omega) (by omega) rfl d_MO_find_10 ?_
      refine lv_icmp_ge (tgt := 113) hx hb d_MO_find_11 (by decide) (fun c_1 => ?_) (fun c_1 => absurd ((n_le (by omega) (by omega)).mpr (by omega)) c_1)
      refine lv_iconst (v := (-1)) hx hb d_MO_find_113 (by decide) ?_
      exact f_iret C hr hI ⟨by rw [hff]; rfl, rfl⟩ hX (Nat.le_refl _) (Nat.le_refl _) d_MO_find_114
    | succ k ih =>
      intro n hn hff ls hl
      have hn2 : n < rm e1 := by omega
      have ih : ∀ n : Nat, n + k = rm e1 → ff (fp rr e1 K g st) 0 (rm e1) = ff (fp rr e1 K g st) n k → ∀ ls : Array Slot, lv_has ls 10 [(0, .ref x), (1, .int (nI e1)), (2, .int (nI K)), (3, .long (lN g)), (5, .long (lN st)), (7, .int (nI n))] → W p l e { frames := 0, cells := 0, slots := 0, locals := 0 } s m ([.ref x, .int (nI e1), .int (nI K), .long (lN g), .long (lN st)] : List Value).toArray below meth c s.heap [] 0 0 (MQ below (cQi G h sz (fun r h' => r = oN (ff (fp rr e1 K g st) 0 (rm e1)) ∧ h' = h)) ([.ref x, .int (nI e1), .int (nI K), .long (lN g), .long (lN st)] : List Value).toArray s 0 0 (fA h sz)) (F0 m 3 ls []) := ih
      refine lv_iload hx hb d_MO_find_3 (lv_at hl 5 rfl) ?_
      refine lv_aload_n hx hb d_MO_find_5 rfl (lv_at hl 0 rfl) ?_
      refine f_get (C := "DutyRulesModel") (T := T_MO) (N := 40) hx hb (fun w q => hT w (s_MO w q)) hown hK hI g_x rfl 4 (by decide) (hT _ w_813) (fun _ q => q) (mo_get (by decide) v_4) d_MO_find_6 ?_
      refine lv_iload_n hx hb d_MO_find_9 rfl (lv_at hl 1 rfl) ?_
      refine f_ialdn (k := e1) (v := (nI (rm e1))) hx hb hI g_a4 (fT.ofK hK (t0 := 0) rfl) (by omega) (by omega) rfl d_MO_find_10 ?_
      refine lv_icmp_ge (tgt := 113) hx hb d_MO_find_11 (by decide) (fun c_2 => absurd c_2 (fun q => absurd ((n_le (by omega) (by omega)).mp q) (by omega))) (fun c_2 => ?_)
      refine lv_iload_n hx hb d_MO_find_14 rfl (lv_at hl 1 rfl) ?_
      refine lv_bipush (v := 40) hx hb d_MO_find_15 (by decide) ?_
      refine lv_imul hx hb d_MO_find_17 ?_
      refine f_asi (pk_mul e1 40) ?_
      refine lv_iload hx hb d_MO_find_18 (lv_at hl 5 rfl) ?_
      refine lv_iadd hx hb d_MO_find_20 ?_
      refine f_asi (nI_add (e1 * 40) n) ?_
      refine lv_iconst (v := 5) hx hb d_MO_find_21 (by decide) ?_
      refine lv_imul hx hb d_MO_find_22 ?_
      refine f_asi (pk_mul ((e1 * 40) + n) 5) ?_
      refine lv_istore (lv' := [(8, .int (nI (((e1 * 40) + n) * 5))), (0, .ref x), (1, .int (nI e1)), (2, .int (nI K)), (3, .long (lN g)), (5, .long (lN st)), (7, .int (nI n))]) hx hb d_MO_find_23 hl (by decide) rfl (fun ls hl => ?_)
      refine lv_aload_n hx hb d_MO_find_25 rfl (lv_at hl 1 rfl) ?_
      refine f_get (C := "DutyRulesModel") (T := T_MO) (N := 40) hx hb (fun w q => hT w (s_MO w q)) hown hK hI g_x rfl 3 (by decide) (hT _ w_812) (fun _ q => q) (mo_get (by decide) v_3) d_MO_find_26 ?_
      refine lv_iload hx hb d_MO_find_29 (lv_at hl 0 rfl) ?_
      refine f_ialdn (k := (((e1 * 40) + n) * 5)) (v := (nI (rr (((e1 * 40) + n) * 5)))) hx hb hI g_a3 (fT.ofK hK (t0 := 0) rfl) (by omega) (by omega) rfl d_MO_find_31 ?_
      refine lv_iload_n hx hb d_MO_find_32 rfl (lv_at hl 3 rfl) ?_
      refine lv_icmp_ne (tgt := 60) hx hb d_MO_find_33 (by decide) (fun c_3 => ?_) (fun c_3 => ?_)
      · have c_3 : ¬ (rr (((e1 * 40) + n) * 5)) = K := fun q => c_3 ((n_eq (a := (rr (((e1 * 40) + n) * 5))) (b := K) (by have := brr (((e1 * 40) + n) * 5); omega) (by omega)).mpr q)
        refine lv_iconst (v := 0) hx hb d_MO_find_60 (by decide) ?_
        refine lv_istore (lv' := [(9, .int 0), (8, .int (nI (((e1 * 40) + n) * 5))), (0, .ref x), (1, .int (nI e1)), (2, .int (nI K)), (3, .long (lN g)), (5, .long (lN st)), (7, .int (nI n))]) hx hb d_MO_find_61 hl (by decide) rfl (fun ls hl => ?_)
        refine lv_iload hx hb d_MO_find_63 (lv_at hl 0 rfl) ?_
        refine lv_if_eq (tgt := 107) hx hb d_MO_find_65 (by decide) (fun c_4 => ?_) (fun c_4 => absurd (by decide) c_4)
        refine lv_iinc (v := nI (n + 1)) (lv' := [(7, .int (nI (n + 1))), (9, .int 0), (8, .int (nI (((e1 * 40) + n) * 5))), (0, .ref x), (1, .int (nI e1)), (2, .int (nI K)), (3, .long (lN g)), (5, .long (lN st))]) hx hb d_MO_find_107 hl (k := 7) rfl (f_inc1 _) (by decide) rfl (fun ls hl => ?_)
        refine lv_goto (tgt := 3) hx hb d_MO_find_110 (by decide) ?_
        have hP : ¬ fp rr e1 K g st n = true := by unfold fp; simp only [decide_eq_true_eq]; omega
        refine ih (n + 1) (by omega) (hff.trans ?_) ls ?_
        · show (if _ then _ else _) = _
          exact if_neg hP
        exact lv_sub hl [3, 4, 5, 6, 7, 0] rfl
      · have c_3 : (rr (((e1 * 40) + n) * 5)) = K := (n_eq (a := (rr (((e1 * 40) + n) * 5))) (b := K) (by have := brr (((e1 * 40) + n) * 5); omega) (by omega)).mp c_3
        refine lv_iload_n hx hb d_MO_find_36 rfl (lv_at hl 3 rfl) ?_
        refine lv_iconst (v := 4) hx hb d_MO_find_37 (by decide) ?_
        refine lv_icmp_ge (tgt := 56) hx hb d_MO_find_38 (by decide) (fun c_5 => ?_) (fun c_5 => ?_)
        · have c_5 : 4 ≤ K := (n_le (a := 4) (b := K) (by omega) (by omega)).mp c_5
          refine lv_iconst (v := 1) hx hb d_MO_find_56 (by decide) ?_
          refine lv_goto (tgt := 61) hx hb d_MO_find_57 (by decide) ?_
          refine lv_istore (lv' := [(9, .int 1), (8, .int (nI (((e1 * 40) + n) * 5))), (0, .ref x), (1, .int (nI e1)), (2, .int (nI K)), (3, .long (lN g)), (5, .long (lN st)), (7, .int (nI n))]) hx hb d_MO_find_61 hl (by decide) rfl (fun ls hl => ?_)
          refine lv_iload hx hb d_MO_find_63 (lv_at hl 0 rfl) ?_
          refine lv_if_eq (tgt := 107) hx hb d_MO_find_65 (by decide) (fun c_6 => absurd c_6 (by decide)) (fun c_6 => ?_)
          refine lv_iload_n hx hb d_MO_find_68 rfl (lv_at hl 4 rfl) ?_
          refine lv_if_ne (tgt := 104) hx hb d_MO_find_69 (by decide) (fun c_7 => ?_) (fun c_7 => ?_)
          · have c_7 : ¬ K = 0 := fun q => c_7 ((n_eq (a := K) (b := 0) (by omega) (by omega)).mpr q)
            refine lv_iload hx hb d_MO_find_104 (lv_at hl 7 rfl) ?_
            exact f_iret C hr hI ⟨by rw [hff, show ff (fp rr e1 K g st) n (k + 1) = some n from if_pos (by unfold fp; simp only [decide_eq_true_eq]; omega)]; rfl, rfl⟩ hX (Nat.le_refl _) (Nat.le_refl _) d_MO_find_106
          · have c_7 : K = 0 := (n_eq (a := K) (b := 0) (by omega) (by omega)).mp c_7
            refine lv_aload_n hx hb d_MO_find_72 rfl (lv_at hl 2 rfl) ?_
            refine f_get (C := "DutyRulesModel") (T := T_MO) (N := 40) hx hb (fun w q => hT w (s_MO w q)) hown hK hI g_x rfl 3 (by decide) (hT _ w_812) (fun _ q => q) (mo_get (by decide) v_3) d_MO_find_73 ?_
            refine lv_iload hx hb d_MO_find_76 (lv_at hl 1 rfl) ?_
            refine lv_iconst (v := 2) hx hb d_MO_find_78 (by decide) ?_
            refine lv_iadd hx hb d_MO_find_79 ?_
            refine f_asi (nI_add (((e1 * 40) + n) * 5) 2) ?_
            refine f_ialdn (k := ((((e1 * 40) + n) * 5) + 2)) (v := (nI (rr ((((e1 * 40) + n) * 5) + 2)))) hx hb hI g_a3 (fT.ofK hK (t0 := 0) rfl) (by omega) (by omega) rfl d_MO_find_80 ?_
            refine lv_i2l (v := lN (rr ((((e1 * 40) + n) * 5) + 2))) hx hb d_MO_find_81 (n_i2l (by have := brr ((((e1 * 40) + n) * 5) + 2); omega)) ?_
            refine lv_lload hx hb d_MO_find_82 (lv_at hl 6 rfl) ?_
            refine f_lc_gt (tgt := 107) hx hb d_MO_find_84 d_MO_find_85 (by decide) (fun c_8 => ?_) (fun c_8 => ?_)
            · have c_8 : st < (rr ((((e1 * 40) + n) * 5) + 2)) := (pk_lLT (a := st) (b := (rr ((((e1 * 40) + n) * 5) + 2))) (by omega) (by have := brr ((((e1 * 40) + n) * 5) + 2); omega)).mp c_8
              refine lv_iinc (v := nI (n + 1)) (lv' := [(7, .int (nI (n + 1))), (9, .int 1), (8, .int (nI (((e1 * 40) + n) * 5))), (0, .ref x), (1, .int (nI e1)), (2, .int (nI K)), (3, .long (lN g)), (5, .long (lN st))]) hx hb d_MO_find_107 hl (k := 7) rfl (f_inc1 _) (by decide) rfl (fun ls hl => ?_)
              refine lv_goto (tgt := 3) hx hb d_MO_find_110 (by decide) ?_
              have hP : ¬ fp rr e1 K g st n = true := by unfold fp; simp only [decide_eq_true_eq]; omega
              refine ih (n + 1) (by omega) (hff.trans ?_) ls ?_
              · show (if _ then _ else _) = _
                exact if_neg hP
              exact lv_sub hl [3, 4, 5, 6, 7, 0] rfl
            · have c_8 : ¬ st < (rr ((((e1 * 40) + n) * 5) + 2)) := fun q => c_8 ((pk_lLT (a := st) (b := (rr ((((e1 * 40) + n) * 5) + 2))) (by omega) (by have := brr ((((e1 * 40) + n) * 5) + 2); omega)).mpr q)
              refine lv_lload hx hb d_MO_find_88 (lv_at hl 6 rfl) ?_
              refine lv_aload_n hx hb d_MO_find_90 rfl (lv_at hl 2 rfl) ?_
              refine f_get (C := "DutyRulesModel") (T := T_MO) (N := 40) hx hb (fun w q => hT w (s_MO w q)) hown hK hI g_x rfl 3 (by decide) (hT _ w_812) (fun _ q => q) (mo_get (by decide) v_3) d_MO_find_91 ?_
              refine lv_iload hx hb d_MO_find_94 (lv_at hl 1 rfl) ?_
              refine lv_iconst (v := 3) hx hb d_MO_find_96 (by decide) ?_
              refine lv_iadd hx hb d_MO_find_97 ?_
              refine f_asi (nI_add (((e1 * 40) + n) * 5) 3) ?_
              refine f_ialdn (k := ((((e1 * 40) + n) * 5) + 3)) (v := (nI (rr ((((e1 * 40) + n) * 5) + 3)))) hx hb hI g_a3 (fT.ofK hK (t0 := 0) rfl) (by omega) (by omega) rfl d_MO_find_98 ?_
              refine lv_i2l (v := lN (rr ((((e1 * 40) + n) * 5) + 3))) hx hb d_MO_find_99 (n_i2l (by have := brr ((((e1 * 40) + n) * 5) + 3); omega)) ?_
              refine f_lc_ge (tgt := 107) hx hb d_MO_find_100 d_MO_find_101 (by decide) (fun c_9 => ?_) (fun c_9 => ?_)
              · have c_9 : (rr ((((e1 * 40) + n) * 5) + 3)) ≤ st := (pk_lLE (a := (rr ((((e1 * 40) + n) * 5) + 3))) (b := st) (by have := brr ((((e1 * 40) + n) * 5) + 3); omega) (by omega)).mp c_9
                refine lv_iinc (v := nI (n + 1)) (lv' := [(7, .int (nI (n + 1))), (9, .int 1), (8, .int (nI (((e1 * 40) + n) * 5))), (0, .ref x), (1, .int (nI e1)), (2, .int (nI K)), (3, .long (lN g)), (5, .long (lN st))]) hx hb d_MO_find_107 hl (k := 7) rfl (f_inc1 _) (by decide) rfl (fun ls hl => ?_)
                refine lv_goto (tgt := 3) hx hb d_MO_find_110 (by decide) ?_
                have hP : ¬ fp rr e1 K g st n = true := by unfold fp; simp only [decide_eq_true_eq]; omega
                refine ih (n + 1) (by omega) (hff.trans ?_) ls ?_
                · show (if _ then _ else _) = _
                  exact if_neg hP
                exact lv_sub hl [3, 4, 5, 6, 7, 0] rfl
              · have c_9 : ¬ (rr ((((e1 * 40) + n) * 5) + 3)) ≤ st := fun q => c_9 ((pk_lLE (a := (rr ((((e1 * 40) + n) * 5) + 3))) (b := st) (by have := brr ((((e1 * 40) + n) * 5) + 3); omega) (by omega)).mpr q)
                refine lv_iload hx hb d_MO_find_104 (lv_at hl 7 rfl) ?_
                exact f_iret C hr hI ⟨by rw [hff, show ff (fp rr e1 K g st) n (k + 1) = some n from if_pos (by unfold fp; simp only [decide_eq_true_eq]; omega)]; rfl, rfl⟩ hX (Nat.le_refl _) (Nat.le_refl _) d_MO_find_106
        · have c_5 : ¬ 4 ≤ K := fun q => c_5 ((n_le (a := 4) (b := K) (by omega) (by omega)).mpr q)
          refine lv_aload_n hx hb d_MO_find_41 rfl (lv_at hl 1 rfl) ?_
          refine f_get (C := "DutyRulesModel") (T := T_MO) (N := 40) hx hb (fun w q => hT w (s_MO w q)) hown hK hI g_x rfl 3 (by decide) (hT _ w_812) (fun _ q => q) (mo_get (by decide) v_3) d_MO_find_42 ?_
          refine lv_iload hx hb d_MO_find_45 (lv_at hl 0 rfl) ?_
          refine lv_iconst (v := 1) hx hb d_MO_find_47 (by decide) ?_
          refine lv_iadd hx hb d_MO_find_48 ?_
          refine f_asi (nI_add (((e1 * 40) + n) * 5) 1) ?_
          refine f_ialdn (k := ((((e1 * 40) + n) * 5) + 1)) (v := (nI (rr ((((e1 * 40) + n) * 5) + 1)))) hx hb hI g_a3 (fT.ofK hK (t0 := 0) rfl) (by omega) (by omega) rfl d_MO_find_49 ?_
          refine lv_i2l (v := lN (rr ((((e1 * 40) + n) * 5) + 1))) hx hb d_MO_find_50 (n_i2l (by have := brr ((((e1 * 40) + n) * 5) + 1); omega)) ?_
          refine lv_lload_n hx hb d_MO_find_51 rfl (lv_at hl 4 rfl) ?_
          refine f_lc_ne (tgt := 60) hx hb d_MO_find_52 d_MO_find_53 (by decide) (fun c_10 => ?_) (fun c_10 => ?_)
          · have c_10 : ¬ (rr ((((e1 * 40) + n) * 5) + 1)) = g := fun q => c_10 ((pk_lEQ (a := (rr ((((e1 * 40) + n) * 5) + 1))) (b := g) (by have := brr ((((e1 * 40) + n) * 5) + 1); omega) (by omega)).mpr q)
            refine lv_iconst (v := 0) hx hb d_MO_find_60 (by decide) ?_
            refine lv_istore (lv' := [(9, .int 0), (8, .int (nI (((e1 * 40) + n) * 5))), (0, .ref x), (1, .int (nI e1)), (2, .int (nI K)), (3, .long (lN g)), (5, .long (lN st)), (7, .int (nI n))]) hx hb d_MO_find_61 hl (by decide) rfl (fun ls hl => ?_)
            refine lv_iload hx hb d_MO_find_63 (lv_at hl 0 rfl) ?_
            refine lv_if_eq (tgt := 107) hx hb d_MO_find_65 (by decide) (fun c_11 => ?_) (fun c_11 => absurd (by decide) c_11)
            refine lv_iinc (v := nI (n + 1)) (lv' := [(7, .int (nI (n + 1))), (9, .int 0), (8, .int (nI (((e1 * 40) + n) * 5))), (0, .ref x), (1, .int (nI e1)), (2, .int (nI K)), (3, .long (lN g)), (5, .long (lN st))]) hx hb d_MO_find_107 hl (k := 7) rfl (f_inc1 _) (by decide) rfl (fun ls hl => ?_)
            refine lv_goto (tgt := 3) hx hb d_MO_find_110 (by decide) ?_
            have hP : ¬ fp rr e1 K g st n = true := by unfold fp; simp only [decide_eq_true_eq]; omega
            refine ih (n + 1) (by omega) (hff.trans ?_) ls ?_
            · show (if _ then _ else _) = _
              exact if_neg hP
            exact lv_sub hl [3, 4, 5, 6, 7, 0] rfl
          · have c_10 : (rr ((((e1 * 40) + n) * 5) + 1)) = g := (pk_lEQ (a := (rr ((((e1 * 40) + n) * 5) + 1))) (b := g) (by have := brr ((((e1 * 40) + n) * 5) + 1); omega) (by omega)).mp c_10
            refine lv_iconst (v := 1) hx hb d_MO_find_56 (by decide) ?_
            refine lv_goto (tgt := 61) hx hb d_MO_find_57 (by decide) ?_
            refine lv_istore (lv' := [(9, .int 1), (8, .int (nI (((e1 * 40) + n) * 5))), (0, .ref x), (1, .int (nI e1)), (2, .int (nI K)), (3, .long (lN g)), (5, .long (lN st)), (7, .int (nI n))]) hx hb d_MO_find_61 hl (by decide) rfl (fun ls hl => ?_)
            refine lv_iload hx hb d_MO_find_63 (lv_at hl 0 rfl) ?_
            refine lv_if_eq (tgt := 107) hx hb d_MO_find_65 (by decide) (fun c_12 => absurd c_12 (by decide)) (fun c_12 => ?_)
            refine lv_iload_n hx hb d_MO_find_68 rfl (lv_at hl 4 rfl) ?_
            refine lv_if_ne (tgt := 104) hx hb d_MO_find_69 (by decide) (fun c_13 => ?_) (fun c_13 => ?_)
            · have c_13 : ¬ K = 0 := fun q => c_13 ((n_eq (a := K) (b := 0) (by omega) (by omega)).mpr q)
              refine lv_iload hx hb d_MO_find_104 (lv_at hl 7 rfl) ?_
              exact f_iret C hr hI ⟨by rw [hff, show ff (fp rr e1 K g st) n (k + 1) = some n from if_pos (by unfold fp; simp only [decide_eq_true_eq]; omega)]; rfl, rfl⟩ hX (Nat.le_refl _) (Nat.le_refl _) d_MO_find_106
            · have c_13 : K = 0 := (n_eq (a := K) (b := 0) (by omega) (by omega)).mp c_13
              refine lv_aload_n hx hb d_MO_find_72 rfl (lv_at hl 2 rfl) ?_
              refine f_get (C := "DutyRulesModel") (T := T_MO) (N := 40) hx hb (fun w q => hT w (s_MO w q)) hown hK hI g_x rfl 3 (by decide) (hT _ w_812) (fun _ q => q) (mo_get (by decide) v_3) d_MO_find_73 ?_
              refine lv_iload hx hb d_MO_find_76 (lv_at hl 1 rfl) ?_
              refine lv_iconst (v := 2) hx hb d_MO_find_78 (by decide) ?_
              refine lv_iadd hx hb d_MO_find_79 ?_
              refine f_asi (nI_add (((e1 * 40) + n) * 5) 2) ?_
              refine f_ialdn (k := ((((e1 * 40) + n) * 5) + 2)) (v := (nI (rr ((((e1 * 40) + n) * 5) + 2)))) hx hb hI g_a3 (fT.ofK hK (t0 := 0) rfl) (by omega) (by omega) rfl d_MO_find_80 ?_
              refine lv_i2l (v := lN (rr ((((e1 * 40) + n) * 5) + 2))) hx hb d_MO_find_81 (n_i2l (by have := brr ((((e1 * 40) + n) * 5) + 2); omega)) ?_
              refine lv_lload hx hb d_MO_find_82 (lv_at hl 6 rfl) ?_
              refine f_lc_gt (tgt := 107) hx hb d_MO_find_84 d_MO_find_85 (by decide) (fun c_14 => ?_) (fun c_14 => ?_)
              · have c_14 : st < (rr ((((e1 * 40) + n) * 5) + 2)) := (pk_lLT (a := st) (b := (rr ((((e1 * 40) + n) * 5) + 2))) (by omega) (by have := brr ((((e1 * 40) + n) * 5) + 2); omega)).mp c_14
                refine lv_iinc (v := nI (n + 1)) (lv' := [(7, .int (nI (n + 1))), (9, .int 1), (8, .int (nI (((e1 * 40) + n) * 5))), (0, .ref x), (1, .int (nI e1)), (2, .int (nI K)), (3, .long (lN g)), (5, .long (lN st))]) hx hb d_MO_find_107 hl (k := 7) rfl (f_inc1 _) (by decide) rfl (fun ls hl => ?_)
                refine lv_goto (tgt := 3) hx hb d_MO_find_110 (by decide) ?_
                have hP : ¬ fp rr e1 K g st n = true := by unfold fp; simp only [decide_eq_true_eq]; omega
                refine ih (n + 1) (by omega) (hff.trans ?_) ls ?_
                · show (if _ then _ else _) = _
                  exact if_neg hP
                exact lv_sub hl [3, 4, 5, 6, 7, 0] rfl
              · have c_14 : ¬ st < (rr ((((e1 * 40) + n) * 5) + 2)) := fun q => c_14 ((pk_lLT (a := st) (b := (rr ((((e1 * 40) + n) * 5) + 2))) (by omega) (by have := brr ((((e1 * 40) + n) * 5) + 2); omega)).mpr q)
                refine lv_lload hx hb d_MO_find_88 (lv_at hl 6 rfl) ?_
                refine lv_aload_n hx hb d_MO_find_90 rfl (lv_at hl 2 rfl) ?_
                refine f_get (C := "DutyRulesModel") (T := T_MO) (N := 40) hx hb (fun w q => hT w (s_MO w q)) hown hK hI g_x rfl 3 (by decide) (hT _ w_812) (fun _ q => q) (mo_get (by decide) v_3) d_MO_find_91 ?_
                refine lv_iload hx hb d_MO_find_94 (lv_at hl 1 rfl) ?_
                refine lv_iconst (v := 3) hx hb d_MO_find_96 (by decide) ?_
                refine lv_iadd hx hb d_MO_find_97 ?_
                refine f_asi (nI_add (((e1 * 40) + n) * 5) 3) ?_
                refine f_ialdn (k := ((((e1 * 40) + n) * 5) + 3)) (v := (nI (rr ((((e1 * 40) + n) * 5) + 3)))) hx hb hI g_a3 (fT.ofK hK (t0 := 0) rfl) (by omega) (by omega) rfl d_MO_find_98 ?_
                refine lv_i2l (v := lN (rr ((((e1 * 40) + n) * 5) + 3))) hx hb d_MO_find_99 (n_i2l (by have := brr ((((e1 * 40) + n) * 5) + 3); omega)) ?_
                refine f_lc_ge (tgt := 107) hx hb d_MO_find_100 d_MO_find_101 (by decide) (fun c_15 => ?_) (fun c_15 => ?_)
                · have c_15 : (rr ((((e1 * 40) + n) * 5) + 3)) ≤ st := (pk_lLE (a := (rr ((((e1 * 40) + n) * 5) + 3))) (b := st) (by have := brr ((((e1 * 40) + n) * 5) + 3); omega) (by omega)).mp c_15
                  refine lv_iinc (v := nI (n + 1)) (lv' := [(7, .int (nI (n + 1))), (9, .int 1), (8, .int (nI (((e1 * 40) + n) * 5))), (0, .ref x), (1, .int (nI e1)), (2, .int (nI K)), (3, .long (lN g)), (5, .long (lN st))]) hx hb d_MO_find_107 hl (k := 7) rfl (f_inc1 _) (by decide) rfl (fun ls hl => ?_)
                  refine lv_goto (tgt := 3) hx hb d_MO_find_110 (by decide) ?_
                  have hP : ¬ fp rr e1 K g st n = true := by unfold fp; simp only [decide_eq_true_eq]; omega
                  refine ih (n + 1) (by omega) (hff.trans ?_) ls ?_
                  · show (if _ then _ else _) = _
                    exact if_neg hP
                  exact lv_sub hl [3, 4, 5, 6, 7, 0] rfl
                · have c_15 : ¬ (rr ((((e1 * 40) + n) * 5) + 3)) ≤ st := fun q => c_15 ((pk_lLE (a := (rr ((((e1 * 40) + n) * 5) + 3))) (b := st) (by have := brr ((((e1 * 40) + n) * 5) + 3); omega) (by omega)).mpr q)
                  refine lv_iload hx hb d_MO_find_104 (lv_at hl 7 rfl) ?_
                  exact f_iret C hr hI ⟨by rw [hff, show ff (fp rr e1 K g st) n (k + 1) = some n from if_pos (by unfold fp; simp only [decide_eq_true_eq]; omega)]; rfl, rfl⟩ hX (Nat.le_refl _) (Nat.le_refl _) d_MO_find_106
  refine lv_iconst (v := 0) hx hb d_MO_find_0 (by decide) ?_
  refine lv_istore (lv' := [(7, .int 0), (0, .ref x), (1, .int (nI e1)), (2, .int (nI K)), (3, .long (lN g)), (5, .long (lN st))]) hx hb d_MO_find_1 hl (by decide) rfl (fun ls hl => ?_)
  refine LOOP (rm e1) 0 (by omega) rfl ls ?_
  exact lv_sub hl [1, 2, 3, 4, 5, 0] rfl
theorem gm_MO_value : gM y_MO_value b_MO_value 4 (some .int) 3 := ⟨w_1037, w_10, ⟨by decide, by decide⟩, by decide +kernel⟩
set_option maxHeartbeats 4000000 in
set_option maxRecDepth 100000 in
/-- MO_value  -/
theorem c_MO_value (l : Launch) (G : gG) (h : fH) (sz : Nat) (x e1 n k : Nat) (mf : Nat → Value) (g_x : h x = some (40, 0, .inr (8, mo mf))) (ne : Nat) (ef rr rm : Nat → Nat) (hEd : mEd G h mf ne ef rr rm) (be : e1 < 11) (bn : n < 40) (bk : k < 5) : cM l y_MO_value b_MO_value 4 (some .int) { frames := 0, cells := 0, slots := 0, locals := 0 } G [.ref x, .int (nI e1), .int (nI n), .int (nI k)] h sz (cQi G h sz (fun r h' => r = nI (rr ((e1 * 40 + n) * 5 + k)) ∧ h' = h)) := by
  refine f_start (by decide) (Nat.le_of_ble_eq_true rfl) ?_
  intro p e s m below meth c ls C hr hsz hI hl
  obtain ⟨hx, hb, hml, hown, hnm, hlk, hT, hG, hZ⟩ := id C
  have hK := hG.1
  have hX : fX h sz h := fX.rf
  have hl : lv_has ls 4 [(0, .ref x), (1, .int (nI e1)), (2, .int (nI n)), (3, .int (nI k))] := hl
  obtain ⟨a3, a4, a5, ⟨v_3, v_4, v_5, v_6⟩, ⟨g_a3, g_a4, g_a5⟩, bne, brm, bef, brr, brk⟩ := hEd
  refine lv_aload_n hx hb d_MO_value_0 rfl (lv_at hl 0 rfl) ?_
  refine f_get (C := "DutyRulesModel") (T := T_MO) (N := 40) hx hb (fun w q => hT w (s_MO w q)) hown hK hI g_x rfl 3 (by decide) (hT _ w_812) (fun _ q => q) (mo_get (by decide) v_3) d_MO_value_1 ?_
  refine lv_iload_n hx hb d_MO_value_4 rfl (lv_at hl 1 rfl) ?_
  refine lv_bipush (v := 40) hx hb d_MO_value_5 (by decide) ?_
  refine lv_imul hx hb d_MO_value_7 ?_
  refine f_asi (pk_mul e1 40) ?_
  refine lv_iload_n hx hb d_MO_value_8 rfl (lv_at hl 2 rfl) ?_
  refine lv_iadd hx hb d_MO_value_9 ?_
  refine f_asi (nI_add (e1 * 40) n) ?_
  refine lv_iconst (v := 5) hx hb d_MO_value_10 (by decide) ?_
  refine lv_imul hx hb d_MO_value_11 ?_
  refine f_asi (pk_mul ((e1 * 40) + n) 5) ?_
  refine lv_iload_n hx hb d_MO_value_12 rfl (lv_at hl 3 rfl) ?_
  refine lv_iadd hx hb d_MO_value_13 ?_
  refine f_asi (nI_add (((e1 * 40) + n) * 5) k) ?_
  refine f_ialdn (k := ((((e1 * 40) + n) * 5) + k)) (v := (nI (rr ((((e1 * 40) + n) * 5) + k)))) hx hb hI g_a3 (fT.ofK hK (t0 := 0) rfl) (by omega) (by omega) rfl d_MO_value_14 ?_
  exact f_iret C hr hI ⟨rfl, rfl⟩ hX (Nat.le_refl _) (Nat.le_refl _) d_MO_value_15
theorem gm_MO_divisor : gM y_MO_divisor b_MO_divisor 10 (some .long) 2 := ⟨w_1052, w_10, ⟨by decide, by decide⟩, by decide +kernel⟩
set_option maxHeartbeats 4000000 in
set_option maxRecDepth 100000 in
/-- MO_divisor  -/
theorem c_MO_divisor (l : Launch) (G : gG) (h : fH) (sz : Nat) (a b : Nat) (ba : a < 2 ^ 63) (bb : b < 2 ^ 63) : cM l y_MO_divisor b_MO_divisor 10 (some .long) { frames := 0, cells := 0, slots := 0, locals := 0 } G [.long (lN a), .long (lN b)] h sz (cQl G h sz (fun r h' => r = lN (Nat.gcd a b) ∧ h' = h)) := by
  refine f_start (by decide) (Nat.le_of_ble_eq_true rfl) ?_
  intro p e s m below meth c ls C hr hsz hI hl
  obtain ⟨hx, hb, hml, hown, hnm, hlk, hT, hG, hZ⟩ := id C
  have hK := hG.1
  have hX : fX h sz h := fX.rf
  have hl : lv_has ls 10 [(0, .long (lN a)), (2, .long (lN b))] := hl
  have LOOP : ∀ (n u v : Nat), v ≤ n → u < 2 ^ 63 → v < 2 ^ 63 → Nat.gcd u v = Nat.gcd a b → ∀ ls : Array Slot, lv_has ls 10 [(0, .long (lN a)), (2, .long (lN b)), (4, .long (lN u)), (6, .long (lN v))] → W p l e { frames := 0, cells := 0, slots := 0, locals := 0 } s m ([.long (lN a), .long (lN b)] : List Value).toArray below meth c s.heap [] 0 0 (MQ below (cQl G h sz (fun r h' => r = lN (Nat.gcd a b) ∧ h' = h)) ([.long (lN a), .long (lN b)] : List Value).toArray s 0 0 (fA h sz)) (F0 m 6 ls []) := by
    intro n
    induction n with
    | zero =>
      intro u v hv bu bv hg ls hl
      have hv0 : v = 0 := by omega
      subst hv0
      refine lv_lload hx hb d_MO_divisor_6 (lv_at hl 3 rfl) ?_
      refine lv_lconst (v := 0) hx hb d_MO_divisor_8 (by decide) ?_
      refine f_lc_eq (tgt := 31) hx hb d_MO_divisor_9 d_MO_divisor_10 (by decide) (fun c_1 => ?_) (fun c_1 => absurd rfl c_1)
      refine lv_lload hx hb d_MO_divisor_31 (lv_at hl 2 rfl) ?_
      exact f_lret C hr hI ⟨by rw [← hg, Nat.gcd_zero_right], rfl⟩ hX (Nat.le_refl _) (Nat.le_refl _) d_MO_divisor_33
    | succ n ih =>
      intro u v hv bu bv hg ls hl
      have ih : ∀ (u v : Nat), v ≤ n → u < 2 ^ 63 → v < 2 ^ 63 → Nat.gcd u v = Nat.gcd a b → ∀ ls : Array Slot, lv_has ls 10 [(0, .long (lN a)), (2, .long (lN b)), (4, .long (lN u)), (6, .long (lN v))] → W p l e { frames := 0, cells := 0, slots := 0, locals := 0 } s m ([.long (lN a), .long (lN b)] : List Value).toArray below meth c s.heap [] 0 0 (MQ below (cQl G h sz (fun r h' => r = lN (Nat.gcd a b) ∧ h' = h)) ([.long (lN a), .long (lN b)] : List Value).toArray s 0 0 (fA h sz)) (F0 m 6 ls []) := ih
      refine lv_lload hx hb d_MO_divisor_6 (lv_at hl 3 rfl) ?_
      refine lv_lconst (v := 0) hx hb d_MO_divisor_8 (by decide) ?_
      refine f_lc_eq (tgt := 31) hx hb d_MO_divisor_9 d_MO_divisor_10 (by decide) (fun c_2 => ?_) (fun c_2 => ?_)
      · have c_2 : v = 0 := (pk_lEQ (a := v) (b := 0) (by omega) (by omega)).mp c_2
        refine lv_lload hx hb d_MO_divisor_31 (lv_at hl 2 rfl) ?_
        exact f_lret C hr hI ⟨by rw [← hg, c_2, Nat.gcd_zero_right], rfl⟩ hX (Nat.le_refl _) (Nat.le_refl _) d_MO_divisor_33
      · have c_2 : ¬ v = 0 := fun q => c_2 ((pk_lEQ (a := v) (b := 0) (by omega) (by omega)).mpr q)
        refine lv_lload hx hb d_MO_divisor_13 (lv_at hl 2 rfl) ?_
        refine lv_lload hx hb d_MO_divisor_15 (lv_at hl 3 rfl) ?_
        refine lv_lrem hx hb d_MO_divisor_17 (fun q => c_2 ((pk_lEQ (by omega) (by decide)).mp q)) ?_
        refine f_asl (pk_lRem (a := u) (b := v) bu (by omega) bv) ?_
        refine lv_lstore (lv' := [(8, .long (lN (u % v))), (0, .long (lN a)), (2, .long (lN b)), (4, .long (lN u)), (6, .long (lN v))]) hx hb d_MO_divisor_18 hl (by decide) rfl (fun ls hl => ?_)
        refine lv_lload hx hb d_MO_divisor_20 (lv_at hl 4 rfl) ?_
        refine lv_lstore (lv' := [(4, .long (lN v)), (8, .long (lN (u % v))), (0, .long (lN a)), (2, .long (lN b)), (6, .long (lN v))]) hx hb d_MO_divisor_22 hl (by decide) rfl (fun ls hl => ?_)
        refine lv_lload hx hb d_MO_divisor_24 (lv_at hl 1 rfl) ?_
        refine lv_lstore (lv' := [(6, .long (lN (u % v))), (4, .long (lN v)), (8, .long (lN (u % v))), (0, .long (lN a)), (2, .long (lN b))]) hx hb d_MO_divisor_26 hl (by decide) rfl (fun ls hl => ?_)
        refine lv_goto (tgt := 6) hx hb d_MO_divisor_28 (by decide) ?_
        have hlt : u % v < v := Nat.mod_lt _ (by omega)
        refine ih v (u % v) (by omega) bv (by omega) (by rw [← hg, Nat.gcd_comm u v, Nat.gcd_rec v u, Nat.gcd_comm]) ls ?_
        exact lv_sub hl [3, 4, 1, 0] rfl
  refine lv_lload_n hx hb d_MO_divisor_0 rfl (lv_at hl 0 rfl) ?_
  refine lv_lstore (lv' := [(4, .long (lN a)), (0, .long (lN a)), (2, .long (lN b))]) hx hb d_MO_divisor_1 hl (by decide) rfl (fun ls hl => ?_)
  refine lv_lload_n hx hb d_MO_divisor_3 rfl (lv_at hl 2 rfl) ?_
  refine lv_lstore (lv' := [(6, .long (lN b)), (4, .long (lN a)), (0, .long (lN a)), (2, .long (lN b))]) hx hb d_MO_divisor_4 hl (by decide) rfl (fun ls hl => ?_)
  refine LOOP b a b (Nat.le_refl _) ba bb rfl ls ?_
  exact lv_sub hl [2, 3, 1, 0] rfl
end
section
theorem gm_MO_step : gM y_MO_step b_MO_step 3 none 2 := ⟨w_1041, w_10, ⟨by decide, by decide⟩, by decide +kernel⟩
set_option maxHeartbeats 4000000 in
set_option maxRecDepth 100000 in
/-- MO_step  -/
theorem c_MO_step (l : Launch) (G : gG) (h : fH) (sz : Nat) (x le ru : Nat) (mf : Nat → Value) (g_x : h x = some (40, 0, .inr (8, mo mf))) (rs : Int32) (ns : Nat) (sl sr sc : Nat → Nat) (fr ce : Nat) (hSt : mSt G h mf rs ns sl sr sc fr ce) (bns : ns < 5) (bce : ce < 2 ^ 63) : cM l y_MO_step b_MO_step 3 none { frames := 0, cells := 0, slots := 0, locals := 0 } G [.ref x, .int (nI le), .int (nI ru)] h sz (cQv G h sz (fun h' => ∃ mf', h' x = some (40, 0, .inr (8, mo mf')) ∧ (∀ j, j ≠ 18 → mf' j = mf j) ∧ mSt G h' mf' rs (ns + 1) (va_up sl ns le) (va_up sr ns ru) (va_up sc ns (ce / CT)) fr ce ∧ fF (inR [40, 56, 57, 58]) h h')) := by
  refine f_start (by decide) (Nat.le_of_ble_eq_true rfl) ?_
  intro p e s m below meth c ls C hr hsz hI hl
  obtain ⟨hx, hb, hml, hown, hnm, hlk, hT, hG, hZ⟩ := id C
  have hK := hG.1
  have hX : fX h sz h := fX.rf
  have hl : lv_has ls 3 [(0, .ref x), (1, .int (nI le)), (2, .int (nI ru))] := hl
  obtain ⟨a15, a16, a17, ⟨v_14, v_15, v_16, v_17, v_18, v_19, v_20⟩, ⟨g_a15, g_a16, g_a17⟩⟩ := hSt
  have hF : fF (inR [40, 56, 57, 58]) h h := fF.rf
  refine lv_aload_n hx hb d_MO_step_0 rfl (lv_at hl 0 rfl) ?_
  refine f_get (C := "DutyRulesModel") (T := T_MO) (N := 40) hx hb (fun w q => hT w (s_MO w q)) hown hK hI g_x rfl 15 (by decide) (hT _ w_824) (fun _ q => q) (mo_get (by decide) v_15) d_MO_step_1 ?_
  refine lv_aload_n hx hb d_MO_step_4 rfl (lv_at hl 0 rfl) ?_
  refine f_get (C := "DutyRulesModel") (T := T_MO) (N := 40) hx hb (fun w q => hT w (s_MO w q)) hown hK hI g_x rfl 18 (by decide) (hT _ w_827) (fun _ q => q) (mo_get (by decide) v_18) d_MO_step_5 ?_
  refine lv_iload_n hx hb d_MO_step_8 rfl (lv_at hl 1 rfl) ?_
  refine f_iastn (k := ns) (f' := (fun i => nI (va_up sl ns le i))) hx hb hI g_a15 (by decide) (fT.ofK hK (t0 := 0) rfl) (by omega) (by omega) (up_i sl ns le) d_MO_step_9 (fun H locs hI => ?_)
  generalize eh_1 : fU h a15 (56, 0, .inl ((G.2.1 0), 5, .inl (fun i => nI (va_up sl ns le i)))) = h_1 at hI
  have hX := hX.set (e := .inl ((G.2.1 0), 5, .inl (fun i => nI (va_up sl ns le i)))) g_a15 (by decide); rw [eh_1] at hX
  have hF := hF.set (e := .inl ((G.2.1 0), 5, .inl (fun i => nI (va_up sl ns le i)))) g_a15 (by decide); rw [eh_1] at hF
  have g_a16 : h_1 a16 = some (57, 0, .inl ((G.2.1 0), 5, .inl (fun i => nI (sr i)))) := by rw [← eh_1]; exact fU_keep g_a16 (f_neR g_a16 g_a15 (by decide))
  have g_a17 : h_1 a17 = some (58, 0, .inl ((G.2.1 1), 5, .inr (.inl (fun i => lN (sc i))))) := by rw [← eh_1]; exact fU_keep g_a17 (f_neR g_a17 g_a15 (by decide))
  have g_x : h_1 x = some (40, 0, .inr (8, mo mf)) := by rw [← eh_1]; exact fU_keep g_x (f_neR g_x g_a15 (by decide))
  have g_a15 : h_1 a15 = some (56, 0, .inl ((G.2.1 0), 5, .inl (fun i => nI (va_up sl ns le i)))) := by rw [← eh_1]; exact fU_self _ _ _
  refine lv_aload_n hx hb d_MO_step_10 rfl (lv_at hl 0 rfl) ?_
  refine f_get (C := "DutyRulesModel") (T := T_MO) (N := 40) hx hb (fun w q => hT w (s_MO w q)) hown hK hI g_x rfl 16 (by decide) (hT _ w_825) (fun _ q => q) (mo_get (by decide) v_16) d_MO_step_11 ?_
  refine lv_aload_n hx hb d_MO_step_14 rfl (lv_at hl 0 rfl) ?_
  refine f_get (C := "DutyRulesModel") (T := T_MO) (N := 40) hx hb (fun w q => hT w (s_MO w q)) hown hK hI g_x rfl 18 (by decide) (hT _ w_827) (fun _ q => q) (mo_get (by decide) v_18) d_MO_step_15 ?_
  refine lv_iload_n hx hb d_MO_step_18 rfl (lv_at hl 2 rfl) ?_
  refine f_iastn (k := ns) (f' := (fun i => nI (va_up sr ns ru i))) hx hb hI g_a16 (by decide) (fT.ofK hK (t0 := 0) rfl) (by omega) (by omega) (up_i sr ns ru) d_MO_step_19 (fun H locs hI => ?_)
  generalize eh_2 : fU h_1 a16 (57, 0, .inl ((G.2.1 0), 5, .inl (fun i => nI (va_up sr ns ru i)))) = h_2 at hI
  have hX := hX.set (e := .inl ((G.2.1 0), 5, .inl (fun i => nI (va_up sr ns ru i)))) g_a16 (by decide); rw [eh_2] at hX
  have hF := hF.set (e := .inl ((G.2.1 0), 5, .inl (fun i => nI (va_up sr ns ru i)))) g_a16 (by decide); rw [eh_2] at hF
  have g_a15 : h_2 a15 = some (56, 0, .inl ((G.2.1 0), 5, .inl (fun i => nI (va_up sl ns le i)))) := by rw [← eh_2]; exact fU_keep g_a15 (f_neR g_a15 g_a16 (by decide))
  have g_a17 : h_2 a17 = some (58, 0, .inl ((G.2.1 1), 5, .inr (.inl (fun i => lN (sc i))))) := by rw [← eh_2]; exact fU_keep g_a17 (f_neR g_a17 g_a16 (by decide))
  have g_x : h_2 x = some (40, 0, .inr (8, mo mf)) := by rw [← eh_2]; exact fU_keep g_x (f_neR g_x g_a16 (by decide))
  have g_a16 : h_2 a16 = some (57, 0, .inl ((G.2.1 0), 5, .inl (fun i => nI (va_up sr ns ru i)))) := by rw [← eh_2]; exact fU_self _ _ _
  refine lv_aload_n hx hb d_MO_step_20 rfl (lv_at hl 0 rfl) ?_
  refine f_get (C := "DutyRulesModel") (T := T_MO) (N := 40) hx hb (fun w q => hT w (s_MO w q)) hown hK hI g_x rfl 17 (by decide) (hT _ w_826) (fun _ q => q) (mo_get (by decide) v_17) d_MO_step_21 ?_
  refine lv_aload_n hx hb d_MO_step_24 rfl (lv_at hl 0 rfl) ?_
  refine f_get (C := "DutyRulesModel") (T := T_MO) (N := 40) hx hb (fun w q => hT w (s_MO w q)) hown hK hI g_x rfl 18 (by decide) (hT _ w_827) (fun _ q => q) (mo_get (by decide) v_18) d_MO_step_25 ?_
  refine lv_aload_n hx hb d_MO_step_28 rfl (lv_at hl 0 rfl) ?_
  refine f_get (C := "DutyRulesModel") (T := T_MO) (N := 40) hx hb (fun w q => hT w (s_MO w q)) hown hK hI g_x rfl 20 (by decide) (hT _ w_829) (fun _ q => q) (mo_get (by decide) v_20) d_MO_step_29 ?_
  refine lv_ldc2 (v := 100000000000) hx hb hown (hT _ w_1042) d_MO_step_32 ?_
  refine lv_ldiv hx hb d_MO_step_35 (l_ne0 (a := 100000000000) (by omega) (by omega)) ?_
  refine f_asl (pk_lDiv (a := ce) (b := 100000000000) (by omega) (by omega) (by omega)) ?_
  refine f_lastn (k := ns) (f' := (fun i => lN (va_up sc ns (ce / 100000000000) i))) hx hb hI g_a17 (by decide) (fT.ofK hK (t0 := 1) rfl) (by omega) (by omega) (up_l sc ns (ce / 100000000000)) d_MO_step_36 (fun H locs hI => ?_)
  generalize eh_3 : fU h_2 a17 (58, 0, .inl ((G.2.1 1), 5, .inr (.inl (fun i => lN (va_up sc ns (ce / 100000000000) i))))) = h_3 at hI
  have hX := hX.set (e := .inl ((G.2.1 1), 5, .inr (.inl (fun i => lN (va_up sc ns (ce / 100000000000) i))))) g_a17 (by decide); rw [eh_3] at hX
  have hF := hF.set (e := .inl ((G.2.1 1), 5, .inr (.inl (fun i => lN (va_up sc ns (ce / 100000000000) i))))) g_a17 (by decide); rw [eh_3] at hF
  have g_a15 : h_3 a15 = some (56, 0, .inl ((G.2.1 0), 5, .inl (fun i => nI (va_up sl ns le i)))) := by rw [← eh_3]; exact fU_keep g_a15 (f_neR g_a15 g_a17 (by decide))
  have g_a16 : h_3 a16 = some (57, 0, .inl ((G.2.1 0), 5, .inl (fun i => nI (va_up sr ns ru i)))) := by rw [← eh_3]; exact fU_keep g_a16 (f_neR g_a16 g_a17 (by decide))
  have g_x : h_3 x = some (40, 0, .inr (8, mo mf)) := by rw [← eh_3]; exact fU_keep g_x (f_neR g_x g_a17 (by decide))
  have g_a17 : h_3 a17 = some (58, 0, .inl ((G.2.1 1), 5, .inr (.inl (fun i => lN (va_up sc ns (ce / 100000000000) i))))) := by rw [← eh_3]; exact fU_self _ _ _
  refine lv_aload_n hx hb d_MO_step_37 rfl (lv_at hl 0 rfl) ?_
  refine lv_dup hx hb d_MO_step_38 rfl ?_
  refine f_get (C := "DutyRulesModel") (T := T_MO) (N := 40) hx hb (fun w q => hT w (s_MO w q)) hown hK hI g_x rfl 18 (by decide) (hT _ w_827) (fun _ q => q) (mo_get (by decide) v_18) d_MO_step_39 ?_
  refine lv_iconst (v := 1) hx hb d_MO_step_42 (by decide) ?_
  refine lv_iadd hx hb d_MO_step_43 ?_
  refine f_asi (nI_add ns 1) ?_
  refine f_put (C := "DutyRulesModel") (T := T_MO) (N := 40) (fs' := mo (va_up mf 18 (.int (nI (ns + 1))))) (v := .int (nI (ns + 1))) hx hb (fun w q => hT w (s_MO w q)) t_MO k_MO n_MO hown hK hI g_x (by decide) rfl 18 (by decide) (hT _ w_827) (fun _ q => q) rfl rfl rfl (by rw [mo_len]; decide) (mo_set _) d_MO_step_44 (fun H locs hI => ?_)
  generalize emf_4 : va_up mf 18 (.int (nI (ns + 1))) = mf_4 at hI
  have v_14 : mf_4 14 = .int rs := by rw [← emf_4, va_up_ne _ _ (by decide)]; exact v_14
  have v_15 : mf_4 15 = .ref a15 := by rw [← emf_4, va_up_ne _ _ (by decide)]; exact v_15
  have v_16 : mf_4 16 = .ref a16 := by rw [← emf_4, va_up_ne _ _ (by decide)]; exact v_16
  have v_17 : mf_4 17 = .ref a17 := by rw [← emf_4, va_up_ne _ _ (by decide)]; exact v_17
  have v_19 : mf_4 19 = .long (lN fr) := by rw [← emf_4, va_up_ne _ _ (by decide)]; exact v_19
  have v_20 : mf_4 20 = .long (lN ce) := by rw [← emf_4, va_up_ne _ _ (by decide)]; exact v_20
  have v_18 : mf_4 18 = .int (nI (ns + 1)) := by rw [← emf_4, va_up_self]
  generalize eh_5 : fU h_3 x (40, 0, .inr (8, mo mf_4)) = h_5 at hI
  have hX := hX.set (e := .inr (8, mo mf_4)) g_x (by decide); rw [eh_5] at hX
  have hF := hF.set (e := .inr (8, mo mf_4)) g_x (by decide); rw [eh_5] at hF
  have g_a15 : h_5 a15 = some (56, 0, .inl ((G.2.1 0), 5, .inl (fun i => nI (va_up sl ns le i)))) := by rw [← eh_5]; exact fU_keep g_a15 (f_neR g_a15 g_x (by decide))
  have g_a16 : h_5 a16 = some (57, 0, .inl ((G.2.1 0), 5, .inl (fun i => nI (va_up sr ns ru i)))) := by rw [← eh_5]; exact fU_keep g_a16 (f_neR g_a16 g_x (by decide))
  have g_a17 : h_5 a17 = some (58, 0, .inl ((G.2.1 1), 5, .inr (.inl (fun i => lN (va_up sc ns (ce / 100000000000) i))))) := by rw [← eh_5]; exact fU_keep g_a17 (f_neR g_a17 g_x (by decide))
  have g_x : h_5 x = some (40, 0, .inr (8, mo mf_4)) := by rw [← eh_5]; exact fU_self _ _ _
  exact f_vret C hr hI ⟨mf_4, g_x, fun j hj => by rw [← emf_4]; exact va_up_ne _ _ hj, ⟨a15, a16, a17, ⟨v_14, v_15, v_16, v_17, v_18, v_19, v_20⟩, ⟨g_a15, g_a16, g_a17⟩⟩, hF⟩ hX (Nat.le_refl _) (Nat.le_refl _) d_MO_step_47
theorem gm_MO_fraction : gM y_MO_fraction b_MO_fraction 7 (some .long) 3 := ⟨w_1049, w_10, ⟨by decide, by decide⟩, by decide +kernel⟩
set_option maxHeartbeats 4000000 in
set_option maxRecDepth 100000 in
/-- MO_fraction  -/
theorem c_MO_fraction (l : Launch) (G : gG) (h : fH) (sz : Nat) (a b : Nat) (pt : Int32) (ba : a < 2 ^ 63) (bb : b < 2 ^ 63) (b0 : 0 < b) : cM l y_MO_fraction b_MO_fraction 7 (some .long) { frames := 1, cells := 0, slots := 0, locals := 29 } G [.long (lN a), .long (lN b), .int pt] h sz (cQl G h sz (fun r h' => r = (if pt = 0 then lN (a / Nat.gcd a b) else lN (b / Nat.gcd a b)) ∧ h' = h)) := by
  refine f_start (by decide) (Nat.le_of_ble_eq_true rfl) ?_
  intro p e s m below meth c ls C hr hsz hI hl
  obtain ⟨hx, hb, hml, hown, hnm, hlk, hT, hG, hZ⟩ := id C
  have hK := hG.1
  have hX : fX h sz h := fX.rf
  have hl : lv_has ls 7 [(0, .long (lN a)), (2, .long (lN b)), (4, .int pt)] := hl
  have hg0 : 0 < Nat.gcd b a := Nat.gcd_pos_of_pos_left _ b0
  have hg1 : Nat.gcd b a ≤ b := Nat.gcd_le_left _ b0
  have hgc : Nat.gcd a b = Nat.gcd b a := Nat.gcd_comm _ _
  refine lv_lload_n hx hb d_MO_fraction_0 rfl (lv_at hl 1 rfl) ?_
  refine lv_lload_n hx hb d_MO_fraction_1 rfl (lv_at hl 0 rfl) ?_
  refine f_calll hI (f_runS C hI (c_MO_divisor l G h _ b a bb ba) gm_MO_divisor w_1051 w_1050 rfl hl.1 rfl (Nat.le_of_ble_eq_true rfl) ⟨Nat.le_of_ble_eq_true rfl, Nat.le_of_ble_eq_true rfl⟩ d_MO_fraction_2 ⟨Nat.le_of_ble_eq_true rfl, Nat.le_of_ble_eq_true rfl⟩) (fun r_1 h9 H9 locs hp9 hX9 hz9 hI => ?_)
  obtain ⟨rfl, e9⟩ := hp9
  rw [e9] at hI
  clear hX9 e9
  refine lv_lstore (lv' := [(5, .long (lN (Nat.gcd b a))), (0, .long (lN a)), (2, .long (lN b)), (4, .int pt)]) hx hb d_MO_fraction_5 hl (by decide) rfl (fun ls hl => ?_)
  refine lv_iload hx hb d_MO_fraction_7 (lv_at hl 3 rfl) ?_
  refine lv_if_ne (tgt := 19) hx hb d_MO_fraction_9 (by decide) (fun c_2 => ?_) (fun c_2 => ?_)
  · skip
    refine lv_lload_n hx hb d_MO_fraction_19 rfl (lv_at hl 2 rfl) ?_
    refine lv_lload hx hb d_MO_fraction_20 (lv_at hl 0 rfl) ?_
    refine lv_ldiv hx hb d_MO_fraction_22 (l_ne0 (a := (Nat.gcd b a)) (by omega) (by omega)) ?_
    refine f_asl (pk_lDiv (a := b) (b := (Nat.gcd b a)) (by omega) (by omega) (by omega)) ?_
    exact f_lret C hr hI ⟨by rw [if_neg c_2, hgc], rfl⟩ hX (Nat.le_refl _) (Nat.le_refl _) d_MO_fraction_23
  · skip
    refine lv_lload_n hx hb d_MO_fraction_12 rfl (lv_at hl 1 rfl) ?_
    refine lv_lload hx hb d_MO_fraction_13 (lv_at hl 0 rfl) ?_
    refine lv_ldiv hx hb d_MO_fraction_15 (l_ne0 (a := (Nat.gcd b a)) (by omega) (by omega)) ?_
    refine f_asl (pk_lDiv (a := a) (b := (Nat.gcd b a)) (by omega) (by omega) (by omega)) ?_
    refine lv_goto (tgt := 23) hx hb d_MO_fraction_16 (by decide) ?_
    exact f_lret C hr hI ⟨by rw [if_pos c_2, hgc], rfl⟩ hX (Nat.le_refl _) (Nat.le_refl _) d_MO_fraction_23
end
section
theorem gm_MO_reckon : gM y_MO_reckon b_MO_reckon 25 (some .boolean) 3 := ⟨w_1021, w_10, ⟨by decide, by decide⟩, by decide +kernel⟩
set_option maxHeartbeats 4000000 in
set_option maxRecDepth 100000 in
/-- MO_reckon  -/
theorem c_MO_reckon (l : Launch) (G : gG) (h : fH) (sz : Nat) (x lot day on : Nat) (mf : Nat → Value) (g_x : h x = some (40, 0, .inr (8, mo mf))) (nf : Nat) (fl fk fd fw fv : Nat → Nat) (hFc : mFc G h mf nf fl fk fd fw fv) (ne : Nat) (ef rr rm : Nat → Nat) (hEd : mEd G h mf ne ef rr rm) (rs : Int32) (ns : Nat) (sl sr sc : Nat → Nat) (fr ce : Nat) (hSt : mSt G h mf rs ns sl sr sc fr ce) (blot : lot < 30) (bday : day ≤ 100000) (bon : on ≤ 100000) : cM l y_MO_reckon b_MO_reckon 25 (some .boolean) { frames := 1, cells := 0, slots := 0, locals := 29 } G [.ref x, .int (nI lot), .long (lN day), .long (lN on)] h sz (cQi G h sz (fun r h' => r = (if (rk (mK nf fl fk fd fw fv lot day on) (mE ne ef rr rm day)).1 = -1 then 1 else 0) ∧ ∃ mf', h' x = some (40, 0, .inr (8, mo mf')) ∧ (∀ j, j < 14 ∨ 20 < j → mf' j = mf j) ∧ mSd G h' mf' (rk (mK nf fl fk fd fw fv lot day on) (mE ne ef rr rm day)).1 (rk (mK nf fl fk fd fw fv lot day on) (mE ne ef rr rm day)).2 ∧ fF (inR [40, 56, 57, 58]) h h')) := by
  refine f_start (by decide) (Nat.le_of_ble_eq_true rfl) ?_
  intro p e s m below meth c ls C hr hsz hI hl
  obtain ⟨hx, hb, hml, hown, hnm, hlk, hT, hG, hZ⟩ := id C
  have hK := hG.1
  have hX : fX h sz h := fX.rf
  have hl : lv_has ls 25 [(0, .ref x), (1, .int (nI lot)), (2, .long (lN day)), (4, .long (lN on))] := hl
  have hF : fF (inR [40, 56, 57, 58]) h h := fF.rf
  obtain ⟨_, _, _, _, _, bne, brm, bef, brr, brk⟩ := id hEd
  obtain ⟨_, _, _, _, _, _, _, bnf, bfl, bfk, bfd, bfw, bfv0⟩ := id hFc
  have bfv : ∀ i, fv i ≤ 100000000 := fun i => Nat.le_trans (bfv0 i) (mostN_le _)
  have JE : ∀ (e1 g li rate pay : Nat), e1 < 11 → g ≤ 9 → li ≤ 1000000 → pay ≤ 1000000 → ∀ (h1 : fH) (mf1 : Nat → Value) (d : dst) (H : Heap) (locs : List Loc), h1 x = some (40, 0, .inr (8, mo mf1)) → mFc G h1 mf1 nf fl fk fd fw fv → mEd G h1 mf1 ne ef rr rm → mSd G h1 mf1 (-1) d → (∀ j, j < 14 ∨ 20 < j → mf1 j = mf j) → fF (inR [40, 56, 57, 58]) h h1 → fX h sz h1 → fI G.1 g_cl (fA h sz) s.heap h1 H locs → rk (mK nf fl fk fd fw fv lot day on) (mE ne ef rr rm day) = (-1, sE (mF rr rm e1 4 0 0) (mV rr e1) d) → d.1.length ≤ 4 ∧ d.2.2 ≤ 1000000000000000000 → ∀ ls : Array Slot, lv_has ls 25 [(0, .ref x), (1, .int (nI lot)), (2, .long (lN day)), (4, .long (lN on)), (6, .int (nI e1)), (7, .long (lN g)), (11, .long (lN li)), (13, .int (nI rate)), (14, .int (oN (ff (fp rr e1 1 g 0) 0 (rm e1)))), (15, .int (bI (hk fl fk fd fw lot 3 day on nf))), (16, .long (lN pay))] → W p l e { frames := 1, cells := 0, slots := 0, locals := 29 } s m ([.ref x, .int (nI lot), .long (lN day), .long (lN on)] : List Value).toArray below meth c H locs 0 0 (MQ below (cQi G h sz (fun r h' => r = (if (rk (mK nf fl fk fd fw fv lot day on) (mE ne ef rr rm day)).1 = -1 then 1 else 0) ∧ ∃ mf', h' x = some (40, 0, .inr (8, mo mf')) ∧ (∀ j, j < 14 ∨ 20 < j → mf' j = mf j) ∧ mSd G h' mf' (rk (mK nf fl fk fd fw fv lot day on) (mE ne ef rr rm day)).1 (rk (mK nf fl fk fd fw fv lot day on) (mE ne ef rr rm day)).2 ∧ fF (inR [40, 56, 57, 58]) h h')) ([.ref x, .int (nI lot), .long (lN day), .long (lN on)] : List Value).toArray s 0 0 (fA h sz)) (F0 m 478 ls []) := by
    intro e1 g li rate pay be bg bli bpay
    intro h1 mf1 d H locs g_x hFc hEd hSd hm1 hF hX hI hrk hb1 ls hl
    obtain ⟨sl, sr, sc, hSt, hq⟩ := hSd
    obtain ⟨L, fr, ce⟩ := d
    dsimp only at hb1 hSt hq
    obtain ⟨a15, a16, a17, ⟨v_14, v_15, v_16, v_17, v_18, v_19, v_20⟩, ⟨g_a15, g_a16, g_a17⟩⟩ := hSt
    obtain ⟨a7, a8, a9, a10, a11, ⟨v_7, v_8, v_9, v_10, v_11, v_12⟩, ⟨g_a7, g_a8, g_a9, g_a10, g_a11⟩, bnf, bfl, bfk, bfd, bfw, bfv0⟩ := id hFc
    have bfv : ∀ i, fv i ≤ 100000000 := fun i => Nat.le_trans (bfv0 i) (mostN_le _)
    have hz0 := hI.2.2.2.1
    rcases eR : ff (fp rr e1 4 0 0) 0 (rm e1) with _ | r
    · have hs : sE (mF rr rm e1 4 0 0) (mV rr e1) (L, fr, ce) = (L, fr, ce) := by unfold sE mF; rw [eR]
      have hSd9 : mSd G h1 mf1 (-1) (sE (mF rr rm e1 4 0 0) (mV rr e1) (L, fr, ce)) := by rw [hs]; exact ⟨sl, sr, sc, ⟨a15, a16, a17, ⟨v_14, v_15, v_16, v_17, v_18, v_19, v_20⟩, ⟨g_a15, g_a16, g_a17⟩⟩, hq⟩
      refine lv_aload_n hx hb d_MO_reckon_478 rfl (lv_at hl 0 rfl) ?_
      refine lv_iload hx hb d_MO_reckon_479 (lv_at hl 4 rfl) ?_
      refine lv_iconst (v := 4) hx hb d_MO_reckon_481 (by decide) ?_
      refine lv_lconst (v := 0) hx hb d_MO_reckon_482 (by decide) ?_
      refine lv_lconst (v := 0) hx hb d_MO_reckon_483 (by decide) ?_
      refine f_calli hI (f_runV C hI (c_MO_find l G h1 _ x e1 4 0 0 mf1 g_x ne ef rr rm hEd (by omega) (by omega) (by omega) (by omega)) gm_MO_find w_1032 p_MO_find w_1030 g_x rfl rfl rfl hl.1 rfl (Nat.le_of_ble_eq_true rfl) ⟨Nat.le_of_ble_eq_true rfl, Nat.le_of_ble_eq_true rfl⟩ d_MO_reckon_484 ⟨Nat.le_of_ble_eq_true rfl, Nat.le_of_ble_eq_true rfl⟩) (fun r_1 h9 H9 locs hp9 hX9 hz9 hI => ?_)
      obtain ⟨rfl, e9⟩ := hp9
      rw [e9] at hI
      clear hX9 e9
      rw [eR]
      refine lv_istore (lv' := [(22, .int (-1)), (0, .ref x), (1, .int (nI lot)), (2, .long (lN day)), (4, .long (lN on)), (6, .int (nI e1)), (7, .long (lN g)), (11, .long (lN li)), (13, .int (nI rate)), (14, .int (oN (ff (fp rr e1 1 g 0) 0 (rm e1)))), (15, .int (bI (hk fl fk fd fw lot 3 day on nf))), (16, .long (lN pay))]) hx hb d_MO_reckon_487 hl (by decide) rfl (fun ls hl => ?_)
      refine lv_iload hx hb d_MO_reckon_489 (lv_at hl 0 rfl) ?_
      refine lv_iconst (v := (-1)) hx hb d_MO_reckon_491 (by decide) ?_
      refine lv_icmp_eq (tgt := 543) hx hb d_MO_reckon_492 (by decide) (fun c_2 => ?_) (fun c_2 => absurd rfl c_2)
      refine lv_iconst (v := 1) hx hb d_MO_reckon_543 (by decide) ?_
      exact f_zret C hr rfl hI ⟨by rw [hrk]; rfl, mf1, g_x, hm1, by rw [hrk]; exact hSd9, hF⟩ hX (Nat.le_refl _) (Nat.le_refl _) d_MO_reckon_544
    · obtain ⟨-, hr2, hr3⟩ := ff_in eR
      have hkR := fp_k hr3
      have hok := brk e1 r be (by omega)
      have hv : 1 ≤ rr ((e1 * 40 + r) * 5 + 1) ∧ rr ((e1 * 40 + r) * 5 + 1) ≤ 1000 := hok.2.2.2.2.2.2.1 hkR
      have hrm := brm e1
      have hc9 := half_le (2 * ce + (rr ((e1 * 40 + r) * 5 + 1)) * 100000000000) ((rr ((e1 * 40 + r) * 5 + 1)) * 100000000000)
      refine lv_aload_n hx hb d_MO_reckon_478 rfl (lv_at hl 0 rfl) ?_
      refine lv_iload hx hb d_MO_reckon_479 (lv_at hl 4 rfl) ?_
      refine lv_iconst (v := 4) hx hb d_MO_reckon_481 (by decide) ?_
      refine lv_lconst (v := 0) hx hb d_MO_reckon_482 (by decide) ?_
      refine lv_lconst (v := 0) hx hb d_MO_reckon_483 (by decide) ?_
      refine f_calli hI (f_runV C hI (c_MO_find l G h1 _ x e1 4 0 0 mf1 g_x ne ef rr rm hEd (by omega) (by omega) (by omega) (by omega)) gm_MO_find w_1032 p_MO_find w_1030 g_x rfl rfl rfl hl.1 rfl (Nat.le_of_ble_eq_true rfl) ⟨Nat.le_of_ble_eq_true rfl, Nat.le_of_ble_eq_true rfl⟩ d_MO_reckon_484 ⟨Nat.le_of_ble_eq_true rfl, Nat.le_of_ble_eq_true rfl⟩) (fun r_3 h9 H9 locs hp9 hX9 hz9 hI => ?_)
      obtain ⟨rfl, e9⟩ := hp9
      rw [e9] at hI
      clear hX9 e9
      rw [eR]
      refine lv_istore (lv' := [(22, .int (nI r)), (0, .ref x), (1, .int (nI lot)), (2, .long (lN day)), (4, .long (lN on)), (6, .int (nI e1)), (7, .long (lN g)), (11, .long (lN li)), (13, .int (nI rate)), (14, .int (oN (ff (fp rr e1 1 g 0) 0 (rm e1)))), (15, .int (bI (hk fl fk fd fw lot 3 day on nf))), (16, .long (lN pay))]) hx hb d_MO_reckon_487 hl (by decide) rfl (fun ls hl => ?_)
      refine lv_iload hx hb d_MO_reckon_489 (lv_at hl 0 rfl) ?_
      refine lv_iconst (v := (-1)) hx hb d_MO_reckon_491 (by decide) ?_
      refine lv_icmp_eq (tgt := 543) hx hb d_MO_reckon_492 (by decide) (fun c_4 => absurd c_4 (n_m1 (by omega))) (fun c_4 => ?_)
      refine lv_aload_n hx hb d_MO_reckon_495 rfl (lv_at hl 1 rfl) ?_
      refine lv_iload hx hb d_MO_reckon_496 (lv_at hl 5 rfl) ?_
      refine lv_iload hx hb d_MO_reckon_498 (lv_at hl 0 rfl) ?_
      refine lv_iconst (v := 1) hx hb d_MO_reckon_500 (by decide) ?_
      refine f_calli hI (f_runV C hI (c_MO_value l G h1 _ x e1 r 1 mf1 g_x ne ef rr rm hEd (by omega) (by omega) (by omega)) gm_MO_value w_1036 p_MO_value w_1034 g_x rfl rfl rfl hl.1 rfl (Nat.le_of_ble_eq_true rfl) ⟨Nat.le_of_ble_eq_true rfl, Nat.le_of_ble_eq_true rfl⟩ d_MO_reckon_501 ⟨Nat.le_of_ble_eq_true rfl, Nat.le_of_ble_eq_true rfl⟩) (fun r_5 h9 H9 locs hp9 hX9 hz9 hI => ?_)
      obtain ⟨rfl, e9⟩ := hp9
      rw [e9] at hI
      clear hX9 e9
      refine lv_i2l (v := lN (rr ((e1 * 40 + r) * 5 + 1))) hx hb d_MO_reckon_504 (n_i2l (by have := brr ((e1 * 40 + r) * 5 + 1); omega)) ?_
      refine lv_ldc2 (v := 100000000000) hx hb hown (hT _ w_1042) d_MO_reckon_505 ?_
      refine lv_lmul hx hb d_MO_reckon_508 ?_
      refine f_asl (lN_mul (rr ((e1 * 40 + r) * 5 + 1)) 100000000000) ?_
      refine lv_lstore (lv' := [(23, .long (lN ((rr ((e1 * 40 + r) * 5 + 1)) * 100000000000))), (22, .int (nI r)), (0, .ref x), (1, .int (nI lot)), (2, .long (lN day)), (4, .long (lN on)), (6, .int (nI e1)), (7, .long (lN g)), (11, .long (lN li)), (13, .int (nI rate)), (14, .int (oN (ff (fp rr e1 1 g 0) 0 (rm e1)))), (15, .int (bI (hk fl fk fd fw lot 3 day on nf))), (16, .long (lN pay))]) hx hb d_MO_reckon_509 hl (by decide) rfl (fun ls hl => ?_)
      refine lv_aload_n hx hb d_MO_reckon_511 rfl (lv_at hl 2 rfl) ?_
      refine lv_ldc2 (v := 2) hx hb hown (hT _ w_1046) d_MO_reckon_512 ?_
      refine lv_aload_n hx hb d_MO_reckon_515 rfl (lv_at hl 2 rfl) ?_
      refine f_get (C := "DutyRulesModel") (T := T_MO) (N := 40) hx hb (fun w q => hT w (s_MO w q)) hown hK hI g_x rfl 20 (by decide) (hT _ w_829) (fun _ q => q) (mo_get (by decide) v_20) d_MO_reckon_516 ?_
      refine lv_lmul hx hb d_MO_reckon_519 ?_
      refine f_asl (lN_mul 2 ce) ?_
      refine lv_lload hx hb d_MO_reckon_520 (lv_at hl 0 rfl) ?_
      refine lv_ladd hx hb d_MO_reckon_522 ?_
      refine f_asl (lN_add (2 * ce) ((rr ((e1 * 40 + r) * 5 + 1)) * 100000000000)) ?_
      refine lv_ldc2 (v := 2) hx hb hown (hT _ w_1046) d_MO_reckon_523 ?_
      refine lv_lload hx hb d_MO_reckon_526 (lv_at hl 0 rfl) ?_
      refine lv_lmul hx hb d_MO_reckon_528 ?_
      refine f_asl (lN_mul 2 ((rr ((e1 * 40 + r) * 5 + 1)) * 100000000000)) ?_
      refine lv_ldiv hx hb d_MO_reckon_529 (l_ne0 (a := (2 * ((rr ((e1 * 40 + r) * 5 + 1)) * 100000000000))) (by have := brr ((e1 * 40 + r) * 5 + 1); omega) (by have := brr ((e1 * 40 + r) * 5 + 1); omega)) ?_
      refine f_asl (pk_lDiv (a := ((2 * ce) + ((rr ((e1 * 40 + r) * 5 + 1)) * 100000000000))) (b := (2 * ((rr ((e1 * 40 + r) * 5 + 1)) * 100000000000))) (by have := brr ((e1 * 40 + r) * 5 + 1); omega) (by have := brr ((e1 * 40 + r) * 5 + 1); omega) (by have := brr ((e1 * 40 + r) * 5 + 1); omega)) ?_
      refine lv_lload hx hb d_MO_reckon_530 (lv_at hl 0 rfl) ?_
      refine lv_lmul hx hb d_MO_reckon_532 ?_
      refine f_asl (lN_mul (((2 * ce) + ((rr ((e1 * 40 + r) * 5 + 1)) * 100000000000)) / (2 * ((rr ((e1 * 40 + r) * 5 + 1)) * 100000000000))) ((rr ((e1 * 40 + r) * 5 + 1)) * 100000000000)) ?_
      refine f_put (C := "DutyRulesModel") (T := T_MO) (N := 40) (fs' := mo (va_up mf1 20 (.long (lN ((((2 * ce) + ((rr ((e1 * 40 + r) * 5 + 1)) * 100000000000)) / (2 * ((rr ((e1 * 40 + r) * 5 + 1)) * 100000000000))) * ((rr ((e1 * 40 + r) * 5 + 1)) * 100000000000)))))) (v := .long (lN ((((2 * ce) + ((rr ((e1 * 40 + r) * 5 + 1)) * 100000000000)) / (2 * ((rr ((e1 * 40 + r) * 5 + 1)) * 100000000000))) * ((rr ((e1 * 40 + r) * 5 + 1)) * 100000000000)))) hx hb (fun w q => hT w (s_MO w q)) t_MO k_MO n_MO hown hK hI g_x (by decide) rfl 20 (by decide) (hT _ w_829) (fun _ q => q) rfl rfl rfl (by rw [mo_len]; decide) (mo_set _) d_MO_reckon_533 (fun H locs hI => ?_)
      generalize emf_6 : va_up mf1 20 (.long (lN ((((2 * ce) + ((rr ((e1 * 40 + r) * 5 + 1)) * 100000000000)) / (2 * ((rr ((e1 * 40 + r) * 5 + 1)) * 100000000000))) * ((rr ((e1 * 40 + r) * 5 + 1)) * 100000000000)))) = mf_6 at hI
      have v_11 : mf_6 11 = .ref a11 := by rw [← emf_6, va_up_ne _ _ (by decide)]; exact v_11
      have v_14 : mf_6 14 = .int (-1) := by rw [← emf_6, va_up_ne _ _ (by decide)]; exact v_14
      have v_15 : mf_6 15 = .ref a15 := by rw [← emf_6, va_up_ne _ _ (by decide)]; exact v_15
      have v_16 : mf_6 16 = .ref a16 := by rw [← emf_6, va_up_ne _ _ (by decide)]; exact v_16
      have v_17 : mf_6 17 = .ref a17 := by rw [← emf_6, va_up_ne _ _ (by decide)]; exact v_17
      have v_18 : mf_6 18 = .int (nI L.length) := by rw [← emf_6, va_up_ne _ _ (by decide)]; exact v_18
      have v_19 : mf_6 19 = .long (lN fr) := by rw [← emf_6, va_up_ne _ _ (by decide)]; exact v_19
      have v_20 : mf_6 20 = .long (lN ((((2 * ce) + ((rr ((e1 * 40 + r) * 5 + 1)) * 100000000000)) / (2 * ((rr ((e1 * 40 + r) * 5 + 1)) * 100000000000))) * ((rr ((e1 * 40 + r) * 5 + 1)) * 100000000000))) := by rw [← emf_6, va_up_self]
      generalize eh_7 : fU h1 x (40, 0, .inr (8, mo mf_6)) = h_7 at hI
      have hX := hX.set (e := .inr (8, mo mf_6)) g_x (by decide); rw [eh_7] at hX
      have hF := hF.set (e := .inr (8, mo mf_6)) g_x (by decide); rw [eh_7] at hF
      have g_a15 : h_7 a15 = some (56, 0, .inl ((G.2.1 0), 5, .inl (fun i => nI (sl i)))) := by rw [← eh_7]; exact fU_keep g_a15 (f_neR g_a15 g_x (by decide))
      have g_a16 : h_7 a16 = some (57, 0, .inl ((G.2.1 0), 5, .inl (fun i => nI (sr i)))) := by rw [← eh_7]; exact fU_keep g_a16 (f_neR g_a16 g_x (by decide))
      have g_a17 : h_7 a17 = some (58, 0, .inl ((G.2.1 1), 5, .inr (.inl (fun i => lN (sc i))))) := by rw [← eh_7]; exact fU_keep g_a17 (f_neR g_a17 g_x (by decide))
      have g_a11 : h_7 a11 = some (52, 0, .inl ((G.2.1 1), 300, .inr (.inl (fun i => lN (fv i))))) := by rw [← eh_7]; exact fU_keep g_a11 (f_neR g_a11 g_x (by decide))
      have hW9 : fF (inR [40]) h1 h_7 := by rw [← eh_7]; exact fF.rf.set g_x (by decide)
      have g_x : h_7 x = some (40, 0, .inr (8, mo mf_6)) := by rw [← eh_7]; exact fU_self _ _ _
      have hFc := mFc.keep (mf' := mf_6) hFc (fun j _ _ => by rw [← emf_6]; exact va_up_ne _ _ (by omega)) hW9 (by decide)
      have hEd := mEd.keep (mf' := mf_6) hEd (fun j _ _ => by rw [← emf_6]; exact va_up_ne _ _ (by omega)) hW9 (by decide)
      have hm1 : ∀ j, j < 14 ∨ 20 < j → mf_6 j = mf j := fun j hj => by rw [← emf_6, va_up_ne _ _ (by omega)]; exact hm1 j hj
      refine lv_aload_n hx hb d_MO_reckon_536 rfl (lv_at hl 2 rfl) ?_
      refine lv_iconst (v := 4) hx hb d_MO_reckon_537 (by decide) ?_
      refine lv_iload hx hb d_MO_reckon_538 (lv_at hl 1 rfl) ?_
      have hz8 := hI.2.2.2.1
      refine f_callv hI (f_runV C hI (c_MO_step l G h_7 _ x 4 r mf_6 g_x _ _ sl sr sc _ _ ⟨a15, a16, a17, ⟨v_14, v_15, v_16, v_17, v_18, v_19, v_20⟩, ⟨g_a15, g_a16, g_a17⟩⟩ (by omega) (by omega)) gm_MO_step w_1040 p_MO_step w_1038 g_x rfl rfl rfl hl.1 rfl (Nat.le_of_ble_eq_true rfl) ⟨Nat.le_of_ble_eq_true rfl, Nat.le_of_ble_eq_true rfl⟩ d_MO_reckon_540 ⟨Nat.le_of_ble_eq_true rfl, Nat.le_of_ble_eq_true rfl⟩) (fun h9 H9 locs hp9 hX9 hz9 hI => ?_)
      obtain ⟨mf_9, g_x, hm9, hSt, hF9⟩ := hp9
      have hFc := hFc.keep (fun j _ _ => hm9 j (by omega)) hF9 (by decide)
      have hEd := hEd.keep (fun j _ _ => hm9 j (by omega)) hF9 (by decide)
      have hm1 : ∀ j, j < 14 ∨ 20 < j → mf_9 j = mf j := fun j hj => (hm9 j (by omega)).trans (hm1 j hj)
      have hF := hF.tr hF9
      have hX := fX.tr (by omega) hX hX9
      have hs : sE (mF rr rm e1 4 0 0) (mV rr e1) (L, fr, ce) = (L ++ [(4, r, ((((2 * ce) + ((rr ((e1 * 40 + r) * 5 + 1)) * 100000000000)) / (2 * ((rr ((e1 * 40 + r) * 5 + 1)) * 100000000000))) * ((rr ((e1 * 40 + r) * 5 + 1)) * 100000000000)) / CT)], fr, ((((2 * ce) + ((rr ((e1 * 40 + r) * 5 + 1)) * 100000000000)) / (2 * ((rr ((e1 * 40 + r) * 5 + 1)) * 100000000000))) * ((rr ((e1 * 40 + r) * 5 + 1)) * 100000000000))) := by unfold sE mF; rw [eR]; rfl
      have hSd9 : mSd G _ _ (-1) (L ++ [(4, r, ((((2 * ce) + ((rr ((e1 * 40 + r) * 5 + 1)) * 100000000000)) / (2 * ((rr ((e1 * 40 + r) * 5 + 1)) * 100000000000))) * ((rr ((e1 * 40 + r) * 5 + 1)) * 100000000000)) / CT)], fr, ((((2 * ce) + ((rr ((e1 * 40 + r) * 5 + 1)) * 100000000000)) / (2 * ((rr ((e1 * 40 + r) * 5 + 1)) * 100000000000))) * ((rr ((e1 * 40 + r) * 5 + 1)) * 100000000000))) := ⟨va_up sl L.length 4, va_up sr L.length r, va_up sc L.length (((((2 * ce) + ((rr ((e1 * 40 + r) * 5 + 1)) * 100000000000)) / (2 * ((rr ((e1 * 40 + r) * 5 + 1)) * 100000000000))) * ((rr ((e1 * 40 + r) * 5 + 1)) * 100000000000)) / CT), (by show mSt G _ _ _ (L ++ [_]).length _ _ _ _ _; rw [List.length_append]; exact hSt), mSd.add hq 4 r _⟩
      rw [← hs] at hSd9
      refine lv_iconst (v := 1) hx hb d_MO_reckon_543 (by decide) ?_
      exact f_zret C hr rfl hI ⟨by rw [hrk]; rfl, mf_9, g_x, hm1, by rw [hrk]; exact hSd9, hF⟩ hX (Nat.le_refl _) (Nat.le_refl _) d_MO_reckon_544
  have JD : ∀ (e1 g li rate pay : Nat), e1 < 11 → g ≤ 9 → li ≤ 1000000 → pay ≤ 1000000 → ∀ (h1 : fH) (mf1 : Nat → Value) (d : dst) (H : Heap) (locs : List Loc), h1 x = some (40, 0, .inr (8, mo mf1)) → mFc G h1 mf1 nf fl fk fd fw fv → mEd G h1 mf1 ne ef rr rm → mSd G h1 mf1 (-1) d → (∀ j, j < 14 ∨ 20 < j → mf1 j = mf j) → fF (inR [40, 56, 57, 58]) h h1 → fX h sz h1 → fI G.1 g_cl (fA h sz) s.heap h1 H locs → rk (mK nf fl fk fd fw fv lot day on) (mE ne ef rr rm day) = (-1, sE (mF rr rm e1 4 0 0) (mV rr e1) (sD (mF rr rm e1 1 g 0) ((mK nf fl fk fd fw fv lot day on) 3) (mV rr e1) d)) → d.1.length ≤ 3 ∧ d.2.2 ≤ 1000000000000000000 ∧ ¬ ((mF rr rm e1 1 g 0).isSome = true ∧ ((mK nf fl fk fd fw fv lot day on) 3).isNone = true) → ∀ ls : Array Slot, lv_has ls 25 [(0, .ref x), (1, .int (nI lot)), (2, .long (lN day)), (4, .long (lN on)), (6, .int (nI e1)), (7, .long (lN g)), (11, .long (lN li)), (13, .int (nI rate)), (14, .int (oN (ff (fp rr e1 1 g 0) 0 (rm e1)))), (15, .int (bI (hk fl fk fd fw lot 3 day on nf))), (16, .long (lN pay))] → W p l e { frames := 1, cells := 0, slots := 0, locals := 29 } s m ([.ref x, .int (nI lot), .long (lN day), .long (lN on)] : List Value).toArray below meth c H locs 0 0 (MQ below (cQi G h sz (fun r h' => r = (if (rk (mK nf fl fk fd fw fv lot day on) (mE ne ef rr rm day)).1 = -1 then 1 else 0) ∧ ∃ mf', h' x = some (40, 0, .inr (8, mo mf')) ∧ (∀ j, j < 14 ∨ 20 < j → mf' j = mf j) ∧ mSd G h' mf' (rk (mK nf fl fk fd fw fv lot day on) (mE ne ef rr rm day)).1 (rk (mK nf fl fk fd fw fv lot day on) (mE ne ef rr rm day)).2 ∧ fF (inR [40, 56, 57, 58]) h h')) ([.ref x, .int (nI lot), .long (lN day), .long (lN on)] : List Value).toArray s 0 0 (fA h sz)) (F0 m 421 ls []) := by
    intro e1 g li rate pay be bg bli bpay
    intro h1 mf1 d H locs g_x hFc hEd hSd hm1 hF hX hI hrk hb1 ls hl
    obtain ⟨sl, sr, sc, hSt, hq⟩ := hSd
    obtain ⟨L, fr, ce⟩ := d
    dsimp only at hb1 hSt hq
    obtain ⟨a15, a16, a17, ⟨v_14, v_15, v_16, v_17, v_18, v_19, v_20⟩, ⟨g_a15, g_a16, g_a17⟩⟩ := hSt
    obtain ⟨a7, a8, a9, a10, a11, ⟨v_7, v_8, v_9, v_10, v_11, v_12⟩, ⟨g_a7, g_a8, g_a9, g_a10, g_a11⟩, bnf, bfl, bfk, bfd, bfw, bfv0⟩ := id hFc
    have bfv : ∀ i, fv i ≤ 100000000 := fun i => Nat.le_trans (bfv0 i) (mostN_le _)
    have hz0 := hI.2.2.2.1
    have hSd9 : mSd G h1 mf1 (-1) (L, fr, ce) := ⟨sl, sr, sc, ⟨a15, a16, a17, ⟨v_14, v_15, v_16, v_17, v_18, v_19, v_20⟩, ⟨g_a15, g_a16, g_a17⟩⟩, hq⟩
    rcases eS : ff (fp rr e1 1 g 0) 0 (rm e1) with _ | r
    · have hs : sD (mF rr rm e1 1 g 0) ((mK nf fl fk fd fw fv lot day on) 3) (mV rr e1) (L, fr, ce) = (L, fr, ce) := by unfold sD mF; rw [eS]
      rw [eS] at hl
      have hl : lv_has ls 25 [(0, .ref x), (1, .int (nI lot)), (2, .long (lN day)), (4, .long (lN on)), (6, .int (nI e1)), (7, .long (lN g)), (11, .long (lN li)), (13, .int (nI rate)), (14, .int (-1)), (15, .int (bI (hk fl fk fd fw lot 3 day on nf))), (16, .long (lN pay))] := hl
      refine lv_iload hx hb d_MO_reckon_421 (lv_at hl 8 rfl) ?_
      refine lv_iconst (v := (-1)) hx hb d_MO_reckon_423 (by decide) ?_
      refine lv_icmp_eq (tgt := 478) hx hb d_MO_reckon_424 (by decide) (fun c_10 => ?_) (fun c_10 => absurd rfl c_10)
      have hl : lv_has ls 25 [(0, .ref x), (1, .int (nI lot)), (2, .long (lN day)), (4, .long (lN on)), (6, .int (nI e1)), (7, .long (lN g)), (11, .long (lN li)), (13, .int (nI rate)), (14, .int (oN (ff (fp rr e1 1 g 0) 0 (rm e1)))), (15, .int (bI (hk fl fk fd fw lot 3 day on nf))), (16, .long (lN pay))] := by rw [eS]; exact lv_sub hl [0, 1, 2, 3, 4, 5, 6, 7, 8, 9, 10] rfl
      exact JE e1 g li rate pay be bg bli bpay _ mf1 (L, fr, ce) _ _ g_x hFc hEd hSd9 hm1 hF hX hI (hrk.trans (by rw [hs])) ⟨by dsimp only; omega, by dsimp only; omega⟩ ls hl
    · rw [eS] at hl
      obtain ⟨-, r2, r3⟩ := ff_in eS
      have hkr := fp_k r3
      have hokr := brk e1 r be (by omega)
      have hrm := brm e1
      rcases hk_ix (fl := fl) (fk := fk) (fd := fd) (fw := fw) (lot := lot) (kind := 3) (day := day) (on := on) nf with e3 | ⟨i3, hi3, e3, hh3⟩
      · exact absurd ⟨by unfold mF; rw [eS]; rfl, by show (kv fv (hk fl fk fd fw lot 3 day on nf)).isNone = true; rw [e3]; rfl⟩ hb1.2.2
      · rw [e3, bI_k (by omega)] at hl
        have hl : lv_has ls 25 [(0, .ref x), (1, .int (nI lot)), (2, .long (lN day)), (4, .long (lN on)), (6, .int (nI e1)), (7, .long (lN g)), (11, .long (lN li)), (13, .int (nI rate)), (14, .int (nI r)), (15, .int (nI i3)), (16, .long (lN pay))] := hl
        have hv := (hokr.2.2.2.1 hkr)
        have hK3 : (mK nf fl fk fd fw fv lot day on) 3 = some (fv i3) := by show kv fv (hk fl fk fd fw lot 3 day on nf) = _; rw [e3]; exact kv_k (by omega)
        have hc9 : ce / 100 * rr ((e1 * 40 + r) * 5 + 3) ≤ ce / 100 * 100 := Nat.mul_le_mul_left _ hv.2
        have hc8 : ce / 100 * 100 ≤ ce := Nat.div_mul_le_self _ _
        refine lv_iload hx hb d_MO_reckon_421 (lv_at hl 8 rfl) ?_
        refine lv_iconst (v := (-1)) hx hb d_MO_reckon_423 (by decide) ?_
        refine lv_icmp_eq (tgt := 478) hx hb d_MO_reckon_424 (by decide) (fun c_11 => absurd c_11 (n_m1 (by omega))) (fun c_11 => ?_)
        refine lv_aload_n hx hb d_MO_reckon_427 rfl (lv_at hl 0 rfl) ?_
        refine f_get (C := "DutyRulesModel") (T := T_MO) (N := 40) hx hb (fun w q => hT w (s_MO w q)) hown hK hI g_x rfl 11 (by decide) (hT _ w_820) (fun _ q => q) (mo_get (by decide) v_11) d_MO_reckon_428 ?_
        refine lv_iload hx hb d_MO_reckon_431 (lv_at hl 9 rfl) ?_
        refine f_laldn (k := i3) (v := (lN (fv i3))) hx hb hI g_a11 (fT.ofK hK (t0 := 1) rfl) (by omega) (by omega) rfl d_MO_reckon_433 ?_
        refine lv_aload_n hx hb d_MO_reckon_434 rfl (lv_at hl 0 rfl) ?_
        refine lv_iload hx hb d_MO_reckon_435 (lv_at hl 4 rfl) ?_
        refine lv_iload hx hb d_MO_reckon_437 (lv_at hl 8 rfl) ?_
        refine lv_iconst (v := 2) hx hb d_MO_reckon_439 (by decide) ?_
        refine f_calli hI (f_runV C hI (c_MO_value l G h1 _ x e1 r 2 mf1 g_x ne ef rr rm hEd (by omega) (by omega) (by omega)) gm_MO_value w_1036 p_MO_value w_1034 g_x rfl rfl rfl hl.1 rfl (Nat.le_of_ble_eq_true rfl) ⟨Nat.le_of_ble_eq_true rfl, Nat.le_of_ble_eq_true rfl⟩ d_MO_reckon_440 ⟨Nat.le_of_ble_eq_true rfl, Nat.le_of_ble_eq_true rfl⟩) (fun r_12 h9 H9 locs hp9 hX9 hz9 hI => ?_)
        obtain ⟨rfl, e9⟩ := hp9
        rw [e9] at hI
        clear hX9 e9
        refine lv_i2l (v := lN (rr ((e1 * 40 + r) * 5 + 2))) hx hb d_MO_reckon_443 (n_i2l (by have := brr ((e1 * 40 + r) * 5 + 2); omega)) ?_
        refine f_lc_ge (tgt := 478) hx hb d_MO_reckon_444 d_MO_reckon_445 (by decide) (fun c_13 => ?_) (fun c_13 => ?_)
        · have c_13 : (rr ((e1 * 40 + r) * 5 + 2)) ≤ (fv i3) := (pk_lLE (a := (rr ((e1 * 40 + r) * 5 + 2))) (b := (fv i3)) (by have := brr ((e1 * 40 + r) * 5 + 2); omega) (by have := bfv i3; omega)).mp c_13
          have hl : lv_has ls 25 [(0, .ref x), (1, .int (nI lot)), (2, .long (lN day)), (4, .long (lN on)), (6, .int (nI e1)), (7, .long (lN g)), (11, .long (lN li)), (13, .int (nI rate)), (14, .int (oN (ff (fp rr e1 1 g 0) 0 (rm e1)))), (15, .int (bI (hk fl fk fd fw lot 3 day on nf))), (16, .long (lN pay))] := by rw [eS, e3, bI_k (by omega)]; exact lv_sub hl [0, 1, 2, 3, 4, 5, 6, 7, 8, 9, 10] rfl
          have hs : sD (mF rr rm e1 1 g 0) ((mK nf fl fk fd fw fv lot day on) 3) (mV rr e1) (L, fr, ce) = (L, fr, ce) := by rw [hK3]; unfold sD mF; rw [eS]; exact if_neg (show ¬ fv i3 < rr ((e1 * 40 + r) * 5 + 2) by omega)
          exact JE e1 g li rate pay be bg bli bpay _ mf1 (L, fr, ce) _ _ g_x hFc hEd hSd9 hm1 hF hX hI (hrk.trans (by rw [hs])) ⟨by dsimp only; omega, by dsimp only; omega⟩ ls hl
        · have c_13 : ¬ (rr ((e1 * 40 + r) * 5 + 2)) ≤ (fv i3) := fun q => c_13 ((pk_lLE (a := (rr ((e1 * 40 + r) * 5 + 2))) (b := (fv i3)) (by have := brr ((e1 * 40 + r) * 5 + 2); omega) (by have := bfv i3; omega)).mpr q)
          refine lv_aload_n hx hb d_MO_reckon_448 rfl (lv_at hl 0 rfl) ?_
          refine lv_aload_n hx hb d_MO_reckon_449 rfl (lv_at hl 0 rfl) ?_
          refine f_get (C := "DutyRulesModel") (T := T_MO) (N := 40) hx hb (fun w q => hT w (s_MO w q)) hown hK hI g_x rfl 20 (by decide) (hT _ w_829) (fun _ q => q) (mo_get (by decide) v_20) d_MO_reckon_450 ?_
          refine lv_ldc2 (v := 100) hx hb hown (hT _ w_1001) d_MO_reckon_453 ?_
          refine lv_ldiv hx hb d_MO_reckon_456 (l_ne0 (a := 100) (by omega) (by omega)) ?_
          refine f_asl (pk_lDiv (a := ce) (b := 100) (by omega) (by omega) (by omega)) ?_
          refine lv_aload_n hx hb d_MO_reckon_457 rfl (lv_at hl 0 rfl) ?_
          refine lv_iload hx hb d_MO_reckon_458 (lv_at hl 4 rfl) ?_
          refine lv_iload hx hb d_MO_reckon_460 (lv_at hl 8 rfl) ?_
          refine lv_iconst (v := 3) hx hb d_MO_reckon_462 (by decide) ?_
          refine f_calli hI (f_runV C hI (c_MO_value l G h1 _ x e1 r 3 mf1 g_x ne ef rr rm hEd (by omega) (by omega) (by omega)) gm_MO_value w_1036 p_MO_value w_1034 g_x rfl rfl rfl hl.1 rfl (Nat.le_of_ble_eq_true rfl) ⟨Nat.le_of_ble_eq_true rfl, Nat.le_of_ble_eq_true rfl⟩ d_MO_reckon_463 ⟨Nat.le_of_ble_eq_true rfl, Nat.le_of_ble_eq_true rfl⟩) (fun r_14 h9 H9 locs hp9 hX9 hz9 hI => ?_)
          obtain ⟨rfl, e9⟩ := hp9
          rw [e9] at hI
          clear hX9 e9
          refine lv_i2l (v := lN (rr ((e1 * 40 + r) * 5 + 3))) hx hb d_MO_reckon_466 (n_i2l (by have := brr ((e1 * 40 + r) * 5 + 3); omega)) ?_
          refine lv_lmul hx hb d_MO_reckon_467 ?_
          refine f_asl (lN_mul (ce / 100) (rr ((e1 * 40 + r) * 5 + 3))) ?_
          refine f_put (C := "DutyRulesModel") (T := T_MO) (N := 40) (fs' := mo (va_up mf1 20 (.long (lN ((ce / 100) * (rr ((e1 * 40 + r) * 5 + 3))))))) (v := .long (lN ((ce / 100) * (rr ((e1 * 40 + r) * 5 + 3))))) hx hb (fun w q => hT w (s_MO w q)) t_MO k_MO n_MO hown hK hI g_x (by decide) rfl 20 (by decide) (hT _ w_829) (fun _ q => q) rfl rfl rfl (by rw [mo_len]; decide) (mo_set _) d_MO_reckon_468 (fun H locs hI => ?_)
          generalize emf_15 : va_up mf1 20 (.long (lN ((ce / 100) * (rr ((e1 * 40 + r) * 5 + 3))))) = mf_15 at hI
          have v_11 : mf_15 11 = .ref a11 := by rw [← emf_15, va_up_ne _ _ (by decide)]; exact v_11
          have v_14 : mf_15 14 = .int (-1) := by rw [← emf_15, va_up_ne _ _ (by decide)]; exact v_14
          have v_15 : mf_15 15 = .ref a15 := by rw [← emf_15, va_up_ne _ _ (by decide)]; exact v_15
          have v_16 : mf_15 16 = .ref a16 := by rw [← emf_15, va_up_ne _ _ (by decide)]; exact v_16
          have v_17 : mf_15 17 = .ref a17 := by rw [← emf_15, va_up_ne _ _ (by decide)]; exact v_17
          have v_18 : mf_15 18 = .int (nI L.length) := by rw [← emf_15, va_up_ne _ _ (by decide)]; exact v_18
          have v_19 : mf_15 19 = .long (lN fr) := by rw [← emf_15, va_up_ne _ _ (by decide)]; exact v_19
          have v_20 : mf_15 20 = .long (lN ((ce / 100) * (rr ((e1 * 40 + r) * 5 + 3)))) := by rw [← emf_15, va_up_self]
          generalize eh_16 : fU h1 x (40, 0, .inr (8, mo mf_15)) = h_16 at hI
          have hX := hX.set (e := .inr (8, mo mf_15)) g_x (by decide); rw [eh_16] at hX
          have hF := hF.set (e := .inr (8, mo mf_15)) g_x (by decide); rw [eh_16] at hF
          have g_a15 : h_16 a15 = some (56, 0, .inl ((G.2.1 0), 5, .inl (fun i => nI (sl i)))) := by rw [← eh_16]; exact fU_keep g_a15 (f_neR g_a15 g_x (by decide))
          have g_a16 : h_16 a16 = some (57, 0, .inl ((G.2.1 0), 5, .inl (fun i => nI (sr i)))) := by rw [← eh_16]; exact fU_keep g_a16 (f_neR g_a16 g_x (by decide))
          have g_a17 : h_16 a17 = some (58, 0, .inl ((G.2.1 1), 5, .inr (.inl (fun i => lN (sc i))))) := by rw [← eh_16]; exact fU_keep g_a17 (f_neR g_a17 g_x (by decide))
          have g_a11 : h_16 a11 = some (52, 0, .inl ((G.2.1 1), 300, .inr (.inl (fun i => lN (fv i))))) := by rw [← eh_16]; exact fU_keep g_a11 (f_neR g_a11 g_x (by decide))
          have hW9 : fF (inR [40]) h1 h_16 := by rw [← eh_16]; exact fF.rf.set g_x (by decide)
          have g_x : h_16 x = some (40, 0, .inr (8, mo mf_15)) := by rw [← eh_16]; exact fU_self _ _ _
          have hFc := mFc.keep (mf' := mf_15) hFc (fun j _ _ => by rw [← emf_15]; exact va_up_ne _ _ (by omega)) hW9 (by decide)
          have hEd := mEd.keep (mf' := mf_15) hEd (fun j _ _ => by rw [← emf_15]; exact va_up_ne _ _ (by omega)) hW9 (by decide)
          have hm1 : ∀ j, j < 14 ∨ 20 < j → mf_15 j = mf j := fun j hj => by rw [← emf_15, va_up_ne _ _ (by omega)]; exact hm1 j hj
          refine lv_aload_n hx hb d_MO_reckon_471 rfl (lv_at hl 0 rfl) ?_
          refine lv_iconst (v := 3) hx hb d_MO_reckon_472 (by decide) ?_
          refine lv_iload hx hb d_MO_reckon_473 (lv_at hl 8 rfl) ?_
          have hz8 := hI.2.2.2.1
          refine f_callv hI (f_runV C hI (c_MO_step l G h_16 _ x 3 r mf_15 g_x _ _ sl sr sc _ _ ⟨a15, a16, a17, ⟨v_14, v_15, v_16, v_17, v_18, v_19, v_20⟩, ⟨g_a15, g_a16, g_a17⟩⟩ (by omega) (by omega)) gm_MO_step w_1040 p_MO_step w_1038 g_x rfl rfl rfl hl.1 rfl (Nat.le_of_ble_eq_true rfl) ⟨Nat.le_of_ble_eq_true rfl, Nat.le_of_ble_eq_true rfl⟩ d_MO_reckon_475 ⟨Nat.le_of_ble_eq_true rfl, Nat.le_of_ble_eq_true rfl⟩) (fun h9 H9 locs hp9 hX9 hz9 hI => ?_)
          obtain ⟨mf_18, g_x, hm9, hSt, hF9⟩ := hp9
          have hFc := hFc.keep (fun j _ _ => hm9 j (by omega)) hF9 (by decide)
          have hEd := hEd.keep (fun j _ _ => hm9 j (by omega)) hF9 (by decide)
          have hm1 : ∀ j, j < 14 ∨ 20 < j → mf_18 j = mf j := fun j hj => (hm9 j (by omega)).trans (hm1 j hj)
          have hF := hF.tr hF9
          have hX := fX.tr (by omega) hX hX9
          have hlt : fv i3 < rr ((e1 * 40 + r) * 5 + 2) := by omega
          have hl : lv_has ls 25 [(0, .ref x), (1, .int (nI lot)), (2, .long (lN day)), (4, .long (lN on)), (6, .int (nI e1)), (7, .long (lN g)), (11, .long (lN li)), (13, .int (nI rate)), (14, .int (oN (ff (fp rr e1 1 g 0) 0 (rm e1)))), (15, .int (bI (hk fl fk fd fw lot 3 day on nf))), (16, .long (lN pay))] := by rw [eS, e3, bI_k (by omega)]; exact lv_sub hl [0, 1, 2, 3, 4, 5, 6, 7, 8, 9, 10] rfl
          have hs : sD (mF rr rm e1 1 g 0) ((mK nf fl fk fd fw fv lot day on) 3) (mV rr e1) (L, fr, ce) = (L ++ [(3, r, ((ce / 100) * (rr ((e1 * 40 + r) * 5 + 3))) / CT)], fr, ((ce / 100) * (rr ((e1 * 40 + r) * 5 + 3)))) := by rw [hK3]; unfold sD mF; rw [eS]; exact if_pos (by assumption)
          have hSd9 : mSd G _ _ (-1) (L ++ [(3, r, ((ce / 100) * (rr ((e1 * 40 + r) * 5 + 3))) / CT)], fr, ((ce / 100) * (rr ((e1 * 40 + r) * 5 + 3)))) := ⟨va_up sl L.length 3, va_up sr L.length r, va_up sc L.length (((ce / 100) * (rr ((e1 * 40 + r) * 5 + 3))) / CT), (by show mSt G _ _ _ (L ++ [_]).length _ _ _ _ _; rw [List.length_append]; exact hSt), mSd.add hq 3 r _⟩
          exact JE e1 g li rate pay be bg bli bpay _ mf_18 _ _ _ g_x hFc hEd hSd9 hm1 hF hX hI (hrk.trans (by rw [hs])) ⟨by simp only [List.length_append, List.length_cons, List.length_nil]; omega, by dsimp only; omega⟩ ls hl
  have JC : ∀ (e1 g li rate pay : Nat), e1 < 11 → g ≤ 9 → li ≤ 1000000 → pay ≤ 1000000 → ∀ (h1 : fH) (mf1 : Nat → Value) (d : dst) (H : Heap) (locs : List Loc), h1 x = some (40, 0, .inr (8, mo mf1)) → mFc G h1 mf1 nf fl fk fd fw fv → mEd G h1 mf1 ne ef rr rm → mSd G h1 mf1 (-1) d → (∀ j, j < 14 ∨ 20 < j → mf1 j = mf j) → fF (inR [40, 56, 57, 58]) h h1 → fX h sz h1 → fI G.1 g_cl (fA h sz) s.heap h1 H locs → rk (mK nf fl fk fd fw fv lot day on) (mE ne ef rr rm day) = (-1, sE (mF rr rm e1 4 0 0) (mV rr e1) (sD (mF rr rm e1 1 g 0) ((mK nf fl fk fd fw fv lot day on) 3) (mV rr e1) (sC li pay ((mK nf fl fk fd fw fv lot day on) 5) (mF rr rm e1 3 g 0) (mV rr e1) d))) → d.1.length ≤ 2 ∧ d.2.2 = (li * 100 - d.2.1) * pay * 10000 ∧ d.2.1 ≤ li * 100 ∧ ¬ ((mF rr rm e1 1 g 0).isSome = true ∧ ((mK nf fl fk fd fw fv lot day on) 3).isNone = true) → ∀ ls : Array Slot, lv_has ls 25 [(0, .ref x), (1, .int (nI lot)), (2, .long (lN day)), (4, .long (lN on)), (6, .int (nI e1)), (7, .long (lN g)), (11, .long (lN li)), (13, .int (nI rate)), (14, .int (oN (ff (fp rr e1 1 g 0) 0 (rm e1)))), (15, .int (bI (hk fl fk fd fw lot 3 day on nf))), (16, .long (lN pay))] → W p l e { frames := 1, cells := 0, slots := 0, locals := 29 } s m ([.ref x, .int (nI lot), .long (lN day), .long (lN on)] : List Value).toArray below meth c H locs 0 0 (MQ below (cQi G h sz (fun r h' => r = (if (rk (mK nf fl fk fd fw fv lot day on) (mE ne ef rr rm day)).1 = -1 then 1 else 0) ∧ ∃ mf', h' x = some (40, 0, .inr (8, mo mf')) ∧ (∀ j, j < 14 ∨ 20 < j → mf' j = mf j) ∧ mSd G h' mf' (rk (mK nf fl fk fd fw fv lot day on) (mE ne ef rr rm day)).1 (rk (mK nf fl fk fd fw fv lot day on) (mE ne ef rr rm day)).2 ∧ fF (inR [40, 56, 57, 58]) h h')) ([.ref x, .int (nI lot), .long (lN day), .long (lN on)] : List Value).toArray s 0 0 (fA h sz)) (F0 m 323 ls []) := by
    intro e1 g li rate pay be bg bli bpay
    intro h1 mf1 d H locs g_x hFc hEd hSd hm1 hF hX hI hrk hb1 ls hl
    obtain ⟨sl, sr, sc, hSt, hq⟩ := hSd
    obtain ⟨L, fr, ce⟩ := d
    dsimp only at hb1 hSt hq
    obtain ⟨a15, a16, a17, ⟨v_14, v_15, v_16, v_17, v_18, v_19, v_20⟩, ⟨g_a15, g_a16, g_a17⟩⟩ := hSt
    obtain ⟨a7, a8, a9, a10, a11, ⟨v_7, v_8, v_9, v_10, v_11, v_12⟩, ⟨g_a7, g_a8, g_a9, g_a10, g_a11⟩, bnf, bfl, bfk, bfd, bfw, bfv0⟩ := id hFc
    have bfv : ∀ i, fv i ≤ 100000000 := fun i => Nat.le_trans (bfv0 i) (mostN_le _)
    have hz0 := hI.2.2.2.1
    have hlp : (li * 100 - fr) * pay ≤ 100000000 * 1000000 := mulle (by omega) bpay
    have hSd9 : mSd G h1 mf1 (-1) (L, fr, ce) := ⟨sl, sr, sc, ⟨a15, a16, a17, ⟨v_14, v_15, v_16, v_17, v_18, v_19, v_20⟩, ⟨g_a15, g_a16, g_a17⟩⟩, hq⟩
    rcases eS : ff (fp rr e1 3 g 0) 0 (rm e1) with _ | r
    · have hs : sC li pay ((mK nf fl fk fd fw fv lot day on) 5) (mF rr rm e1 3 g 0) (mV rr e1) (L, fr, ce) = (L, fr, ce) := by unfold sC mF; rw [eS]; cases (mK nf fl fk fd fw fv lot day on) 5 <;> rfl
      refine lv_aload_n hx hb d_MO_reckon_323 rfl (lv_at hl 0 rfl) ?_
      refine lv_iload_n hx hb d_MO_reckon_324 rfl (lv_at hl 1 rfl) ?_
      refine lv_iconst (v := 5) hx hb d_MO_reckon_325 (by decide) ?_
      refine lv_lload_n hx hb d_MO_reckon_326 rfl (lv_at hl 2 rfl) ?_
      refine lv_lload hx hb d_MO_reckon_327 (lv_at hl 3 rfl) ?_
      refine f_calli hI (f_runV C hI (c_MO_holds l G h1 _ x nf lot 5 day on fl fk fd fw fv mf1 g_x hFc (by omega) (by omega) (by omega) (by omega)) gm_MO_holds w_1028 p_MO_holds w_1026 g_x rfl rfl rfl hl.1 rfl (Nat.le_of_ble_eq_true rfl) ⟨Nat.le_of_ble_eq_true rfl, Nat.le_of_ble_eq_true rfl⟩ d_MO_reckon_329 ⟨Nat.le_of_ble_eq_true rfl, Nat.le_of_ble_eq_true rfl⟩) (fun r_19 h9 H9 locs hp9 hX9 hz9 hI => ?_)
      obtain ⟨rfl, e9⟩ := hp9
      rw [e9] at hI
      clear hX9 e9
      refine lv_istore (lv' := [(20, .int (bI (hk fl fk fd fw lot 5 day on nf))), (0, .ref x), (1, .int (nI lot)), (2, .long (lN day)), (4, .long (lN on)), (6, .int (nI e1)), (7, .long (lN g)), (11, .long (lN li)), (13, .int (nI rate)), (14, .int (oN (ff (fp rr e1 1 g 0) 0 (rm e1)))), (15, .int (bI (hk fl fk fd fw lot 3 day on nf))), (16, .long (lN pay))]) hx hb d_MO_reckon_332 hl (by decide) rfl (fun ls hl => ?_)
      refine lv_aload_n hx hb d_MO_reckon_334 rfl (lv_at hl 1 rfl) ?_
      refine lv_iload hx hb d_MO_reckon_335 (lv_at hl 5 rfl) ?_
      refine lv_iconst (v := 3) hx hb d_MO_reckon_337 (by decide) ?_
      refine lv_lload hx hb d_MO_reckon_338 (lv_at hl 6 rfl) ?_
      refine lv_lconst (v := 0) hx hb d_MO_reckon_340 (by decide) ?_
      refine f_calli hI (f_runV C hI (c_MO_find l G h1 _ x e1 3 g 0 mf1 g_x ne ef rr rm hEd (by omega) (by omega) (by omega) (by omega)) gm_MO_find w_1032 p_MO_find w_1030 g_x rfl rfl rfl hl.1 rfl (Nat.le_of_ble_eq_true rfl) ⟨Nat.le_of_ble_eq_true rfl, Nat.le_of_ble_eq_true rfl⟩ d_MO_reckon_341 ⟨Nat.le_of_ble_eq_true rfl, Nat.le_of_ble_eq_true rfl⟩) (fun r_20 h9 H9 locs hp9 hX9 hz9 hI => ?_)
      obtain ⟨rfl, e9⟩ := hp9
      rw [e9] at hI
      clear hX9 e9
      rw [eS]
      refine lv_istore (lv' := [(21, .int (-1)), (20, .int (bI (hk fl fk fd fw lot 5 day on nf))), (0, .ref x), (1, .int (nI lot)), (2, .long (lN day)), (4, .long (lN on)), (6, .int (nI e1)), (7, .long (lN g)), (11, .long (lN li)), (13, .int (nI rate)), (14, .int (oN (ff (fp rr e1 1 g 0) 0 (rm e1)))), (15, .int (bI (hk fl fk fd fw lot 3 day on nf))), (16, .long (lN pay))]) hx hb d_MO_reckon_344 hl (by decide) rfl (fun ls hl => ?_)
      refine lv_iload hx hb d_MO_reckon_346 (lv_at hl 1 rfl) ?_
      refine lv_iconst (v := (-1)) hx hb d_MO_reckon_348 (by decide) ?_
      refine lv_icmp_eq (tgt := 421) hx hb d_MO_reckon_349 (by decide) (fun c_21 => ?_) (fun c_21 => ?_)
      · skip
        exact JD e1 g li rate pay be bg bli bpay _ mf1 (L, fr, ce) _ _ g_x hFc hEd hSd9 hm1 hF hX hI (hrk.trans (by rw [hs])) ⟨by dsimp only; omega, by dsimp only; omega, hb1.2.2.2⟩ ls (lv_sub hl [2, 3, 4, 5, 6, 7, 8, 9, 10, 11, 12] rfl)
      · skip
        refine lv_iload hx hb d_MO_reckon_352 (lv_at hl 0 rfl) ?_
        refine lv_iconst (v := (-1)) hx hb d_MO_reckon_354 (by decide) ?_
        refine lv_icmp_eq (tgt := 421) hx hb d_MO_reckon_355 (by decide) (fun c_22 => ?_) (fun c_22 => absurd rfl c_22)
        exact JD e1 g li rate pay be bg bli bpay _ mf1 (L, fr, ce) _ _ g_x hFc hEd hSd9 hm1 hF hX hI (hrk.trans (by rw [hs])) ⟨by dsimp only; omega, by dsimp only; omega, hb1.2.2.2⟩ ls (lv_sub hl [2, 3, 4, 5, 6, 7, 8, 9, 10, 11, 12] rfl)
    · skip
      obtain ⟨-, r2, r3⟩ := ff_in eS
      have hkr := fp_k r3
      have hokr := brk e1 r be (by omega)
      have hrm := brm e1
      rcases hk_ix (fl := fl) (fk := fk) (fd := fd) (fw := fw) (lot := lot) (kind := 5) (day := day) (on := on) nf with e5 | ⟨i5, hi5, e5, hh5⟩
      · have hs : sC li pay ((mK nf fl fk fd fw fv lot day on) 5) (mF rr rm e1 3 g 0) (mV rr e1) (L, fr, ce) = (L, fr, ce) := by unfold sC; rw [show (mK nf fl fk fd fw fv lot day on) 5 = none by show kv fv (hk fl fk fd fw lot 5 day on nf) = _; rw [e5]; rfl]
        refine lv_aload_n hx hb d_MO_reckon_323 rfl (lv_at hl 0 rfl) ?_
        refine lv_iload_n hx hb d_MO_reckon_324 rfl (lv_at hl 1 rfl) ?_
        refine lv_iconst (v := 5) hx hb d_MO_reckon_325 (by decide) ?_
        refine lv_lload_n hx hb d_MO_reckon_326 rfl (lv_at hl 2 rfl) ?_
        refine lv_lload hx hb d_MO_reckon_327 (lv_at hl 3 rfl) ?_
        refine f_calli hI (f_runV C hI (c_MO_holds l G h1 _ x nf lot 5 day on fl fk fd fw fv mf1 g_x hFc (by omega) (by omega) (by omega) (by omega)) gm_MO_holds w_1028 p_MO_holds w_1026 g_x rfl rfl rfl hl.1 rfl (Nat.le_of_ble_eq_true rfl) ⟨Nat.le_of_ble_eq_true rfl, Nat.le_of_ble_eq_true rfl⟩ d_MO_reckon_329 ⟨Nat.le_of_ble_eq_true rfl, Nat.le_of_ble_eq_true rfl⟩) (fun r_23 h9 H9 locs hp9 hX9 hz9 hI => ?_)
        obtain ⟨rfl, e9⟩ := hp9
        rw [e9] at hI
        clear hX9 e9
        rw [e5, bI_0]
        refine lv_istore (lv' := [(20, .int (-1)), (0, .ref x), (1, .int (nI lot)), (2, .long (lN day)), (4, .long (lN on)), (6, .int (nI e1)), (7, .long (lN g)), (11, .long (lN li)), (13, .int (nI rate)), (14, .int (oN (ff (fp rr e1 1 g 0) 0 (rm e1)))), (15, .int (bI (hk fl fk fd fw lot 3 day on nf))), (16, .long (lN pay))]) hx hb d_MO_reckon_332 hl (by decide) rfl (fun ls hl => ?_)
        refine lv_aload_n hx hb d_MO_reckon_334 rfl (lv_at hl 1 rfl) ?_
        refine lv_iload hx hb d_MO_reckon_335 (lv_at hl 5 rfl) ?_
        refine lv_iconst (v := 3) hx hb d_MO_reckon_337 (by decide) ?_
        refine lv_lload hx hb d_MO_reckon_338 (lv_at hl 6 rfl) ?_
        refine lv_lconst (v := 0) hx hb d_MO_reckon_340 (by decide) ?_
        refine f_calli hI (f_runV C hI (c_MO_find l G h1 _ x e1 3 g 0 mf1 g_x ne ef rr rm hEd (by omega) (by omega) (by omega) (by omega)) gm_MO_find w_1032 p_MO_find w_1030 g_x rfl rfl rfl hl.1 rfl (Nat.le_of_ble_eq_true rfl) ⟨Nat.le_of_ble_eq_true rfl, Nat.le_of_ble_eq_true rfl⟩ d_MO_reckon_341 ⟨Nat.le_of_ble_eq_true rfl, Nat.le_of_ble_eq_true rfl⟩) (fun r_24 h9 H9 locs hp9 hX9 hz9 hI => ?_)
        obtain ⟨rfl, e9⟩ := hp9
        rw [e9] at hI
        clear hX9 e9
        rw [eS]
        refine lv_istore (lv' := [(21, .int (nI r)), (20, .int (-1)), (0, .ref x), (1, .int (nI lot)), (2, .long (lN day)), (4, .long (lN on)), (6, .int (nI e1)), (7, .long (lN g)), (11, .long (lN li)), (13, .int (nI rate)), (14, .int (oN (ff (fp rr e1 1 g 0) 0 (rm e1)))), (15, .int (bI (hk fl fk fd fw lot 3 day on nf))), (16, .long (lN pay))]) hx hb d_MO_reckon_344 hl (by decide) rfl (fun ls hl => ?_)
        refine lv_iload hx hb d_MO_reckon_346 (lv_at hl 1 rfl) ?_
        refine lv_iconst (v := (-1)) hx hb d_MO_reckon_348 (by decide) ?_
        refine lv_icmp_eq (tgt := 421) hx hb d_MO_reckon_349 (by decide) (fun c_25 => ?_) (fun c_25 => absurd rfl c_25)
        exact JD e1 g li rate pay be bg bli bpay _ mf1 (L, fr, ce) _ _ g_x hFc hEd hSd9 hm1 hF hX hI (hrk.trans (by rw [hs])) ⟨by dsimp only; omega, by dsimp only; omega, hb1.2.2.2⟩ ls (lv_sub hl [2, 3, 4, 5, 6, 7, 8, 9, 10, 11, 12] rfl)
      · have hK5 : (mK nf fl fk fd fw fv lot day on) 5 = some (fv i5) := by show kv fv (hk fl fk fd fw lot 5 day on nf) = _; rw [e5]; exact kv_k (by omega)
        have hv := hokr.2.2.2.2.2.1 hkr
        have hfv := bfv i5
        have ha1 : min (fv i5 * 100) (li * 100 - fr) ≤ li * 100 - fr := Nat.min_le_right _ _
        have ha2 : min (fv i5 * 100) (li * 100 - fr) * pay ≤ (li * 100 - fr) * pay := Nat.mul_le_mul_right _ ha1
        have ha3 : min (fv i5 * 100) (li * 100 - fr) * pay * rr ((e1 * 40 + r) * 5 + 2) ≤ (li * 100 - fr) * pay * 100 := mulle ha2 hv
        refine lv_aload_n hx hb d_MO_reckon_323 rfl (lv_at hl 0 rfl) ?_
        refine lv_iload_n hx hb d_MO_reckon_324 rfl (lv_at hl 1 rfl) ?_
        refine lv_iconst (v := 5) hx hb d_MO_reckon_325 (by decide) ?_
        refine lv_lload_n hx hb d_MO_reckon_326 rfl (lv_at hl 2 rfl) ?_
        refine lv_lload hx hb d_MO_reckon_327 (lv_at hl 3 rfl) ?_
        refine f_calli hI (f_runV C hI (c_MO_holds l G h1 _ x nf lot 5 day on fl fk fd fw fv mf1 g_x hFc (by omega) (by omega) (by omega) (by omega)) gm_MO_holds w_1028 p_MO_holds w_1026 g_x rfl rfl rfl hl.1 rfl (Nat.le_of_ble_eq_true rfl) ⟨Nat.le_of_ble_eq_true rfl, Nat.le_of_ble_eq_true rfl⟩ d_MO_reckon_329 ⟨Nat.le_of_ble_eq_true rfl, Nat.le_of_ble_eq_true rfl⟩) (fun r_26 h9 H9 locs hp9 hX9 hz9 hI => ?_)
        obtain ⟨rfl, e9⟩ := hp9
        rw [e9] at hI
        clear hX9 e9
        rw [e5, bI_k (by omega)]
        refine lv_istore (lv' := [(20, .int (nI i5)), (0, .ref x), (1, .int (nI lot)), (2, .long (lN day)), (4, .long (lN on)), (6, .int (nI e1)), (7, .long (lN g)), (11, .long (lN li)), (13, .int (nI rate)), (14, .int (oN (ff (fp rr e1 1 g 0) 0 (rm e1)))), (15, .int (bI (hk fl fk fd fw lot 3 day on nf))), (16, .long (lN pay))]) hx hb d_MO_reckon_332 hl (by decide) rfl (fun ls hl => ?_)
        refine lv_aload_n hx hb d_MO_reckon_334 rfl (lv_at hl 1 rfl) ?_
        refine lv_iload hx hb d_MO_reckon_335 (lv_at hl 5 rfl) ?_
        refine lv_iconst (v := 3) hx hb d_MO_reckon_337 (by decide) ?_
        refine lv_lload hx hb d_MO_reckon_338 (lv_at hl 6 rfl) ?_
        refine lv_lconst (v := 0) hx hb d_MO_reckon_340 (by decide) ?_
        refine f_calli hI (f_runV C hI (c_MO_find l G h1 _ x e1 3 g 0 mf1 g_x ne ef rr rm hEd (by omega) (by omega) (by omega) (by omega)) gm_MO_find w_1032 p_MO_find w_1030 g_x rfl rfl rfl hl.1 rfl (Nat.le_of_ble_eq_true rfl) ⟨Nat.le_of_ble_eq_true rfl, Nat.le_of_ble_eq_true rfl⟩ d_MO_reckon_341 ⟨Nat.le_of_ble_eq_true rfl, Nat.le_of_ble_eq_true rfl⟩) (fun r_27 h9 H9 locs hp9 hX9 hz9 hI => ?_)
        obtain ⟨rfl, e9⟩ := hp9
        rw [e9] at hI
        clear hX9 e9
        rw [eS]
        refine lv_istore (lv' := [(21, .int (nI r)), (20, .int (nI i5)), (0, .ref x), (1, .int (nI lot)), (2, .long (lN day)), (4, .long (lN on)), (6, .int (nI e1)), (7, .long (lN g)), (11, .long (lN li)), (13, .int (nI rate)), (14, .int (oN (ff (fp rr e1 1 g 0) 0 (rm e1)))), (15, .int (bI (hk fl fk fd fw lot 3 day on nf))), (16, .long (lN pay))]) hx hb d_MO_reckon_344 hl (by decide) rfl (fun ls hl => ?_)
        refine lv_iload hx hb d_MO_reckon_346 (lv_at hl 1 rfl) ?_
        refine lv_iconst (v := (-1)) hx hb d_MO_reckon_348 (by decide) ?_
        refine lv_icmp_eq (tgt := 421) hx hb d_MO_reckon_349 (by decide) (fun c_28 => absurd c_28 (n_m1 (by omega))) (fun c_28 => ?_)
        refine lv_iload hx hb d_MO_reckon_352 (lv_at hl 0 rfl) ?_
        refine lv_iconst (v := (-1)) hx hb d_MO_reckon_354 (by decide) ?_
        refine lv_icmp_eq (tgt := 421) hx hb d_MO_reckon_355 (by decide) (fun c_29 => absurd c_29 (n_m1 (by omega))) (fun c_29 => ?_)
        refine lv_aload_n hx hb d_MO_reckon_358 rfl (lv_at hl 2 rfl) ?_
        refine f_get (C := "DutyRulesModel") (T := T_MO) (N := 40) hx hb (fun w q => hT w (s_MO w q)) hown hK hI g_x rfl 11 (by decide) (hT _ w_820) (fun _ q => q) (mo_get (by decide) v_11) d_MO_reckon_359 ?_
        refine lv_iload hx hb d_MO_reckon_362 (lv_at hl 1 rfl) ?_
        refine f_laldn (k := i5) (v := (lN (fv i5))) hx hb hI g_a11 (fT.ofK hK (t0 := 1) rfl) (by omega) (by omega) rfl d_MO_reckon_364 ?_
        refine lv_ldc2 (v := 100) hx hb hown (hT _ w_1001) d_MO_reckon_365 ?_
        refine lv_lmul hx hb d_MO_reckon_368 ?_
        refine f_asl (lN_mul (fv i5) 100) ?_
        refine lv_lload hx hb d_MO_reckon_369 (lv_at hl 8 rfl) ?_
        refine lv_ldc2 (v := 100) hx hb hown (hT _ w_1001) d_MO_reckon_371 ?_
        refine lv_lmul hx hb d_MO_reckon_374 ?_
        refine f_asl (lN_mul li 100) ?_
        refine lv_aload_n hx hb d_MO_reckon_375 rfl (lv_at hl 2 rfl) ?_
        refine f_get (C := "DutyRulesModel") (T := T_MO) (N := 40) hx hb (fun w q => hT w (s_MO w q)) hown hK hI g_x rfl 19 (by decide) (hT _ w_828) (fun _ q => q) (mo_get (by decide) v_19) d_MO_reckon_376 ?_
        refine lv_lsub hx hb d_MO_reckon_379 ?_
        refine f_asl (lN_sub (a := (li * 100)) (b := fr) (by omega)) ?_
        refine f_calll hI (f_runS C hI (c_MO_least l G h1 _ (lN ((fv i5) * 100)) (lN ((li * 100) - fr))) gm_MO_least w_1044 w_1043 rfl hl.1 rfl (Nat.le_of_ble_eq_true rfl) ⟨Nat.le_of_ble_eq_true rfl, Nat.le_of_ble_eq_true rfl⟩ d_MO_reckon_380 ⟨Nat.le_of_ble_eq_true rfl, Nat.le_of_ble_eq_true rfl⟩) (fun r_30 h9 H9 locs hp9 hX9 hz9 hI => ?_)
        obtain ⟨rfl, e9⟩ := hp9
        rw [e9] at hI
        clear hX9 e9
        refine f_asl (least_min (a := fv i5 * 100) (b := li * 100 - fr) (by omega) (by omega)) ?_
        refine lv_lstore (lv' := [(22, .long (lN (min (fv i5 * 100) (li * 100 - fr)))), (21, .int (nI r)), (20, .int (nI i5)), (0, .ref x), (1, .int (nI lot)), (2, .long (lN day)), (4, .long (lN on)), (6, .int (nI e1)), (7, .long (lN g)), (11, .long (lN li)), (13, .int (nI rate)), (14, .int (oN (ff (fp rr e1 1 g 0) 0 (rm e1)))), (15, .int (bI (hk fl fk fd fw lot 3 day on nf))), (16, .long (lN pay))]) hx hb d_MO_reckon_383 hl (by decide) rfl (fun ls hl => ?_)
        refine lv_aload_n hx hb d_MO_reckon_385 rfl (lv_at hl 3 rfl) ?_
        refine lv_dup hx hb d_MO_reckon_386 rfl ?_
        refine f_get (C := "DutyRulesModel") (T := T_MO) (N := 40) hx hb (fun w q => hT w (s_MO w q)) hown hK hI g_x rfl 20 (by decide) (hT _ w_829) (fun _ q => q) (mo_get (by decide) v_20) d_MO_reckon_387 ?_
        refine lv_lload hx hb d_MO_reckon_390 (lv_at hl 0 rfl) ?_
        refine lv_lload hx hb d_MO_reckon_392 (lv_at hl 13 rfl) ?_
        refine lv_lmul hx hb d_MO_reckon_394 ?_
        refine f_asl (lN_mul (min (fv i5 * 100) (li * 100 - fr)) pay) ?_
        refine lv_aload_n hx hb d_MO_reckon_395 rfl (lv_at hl 3 rfl) ?_
        refine lv_iload hx hb d_MO_reckon_396 (lv_at hl 7 rfl) ?_
        refine lv_iload hx hb d_MO_reckon_398 (lv_at hl 1 rfl) ?_
        refine lv_iconst (v := 2) hx hb d_MO_reckon_400 (by decide) ?_
        refine f_calli hI (f_runV C hI (c_MO_value l G h1 _ x e1 r 2 mf1 g_x ne ef rr rm hEd (by omega) (by omega) (by omega)) gm_MO_value w_1036 p_MO_value w_1034 g_x rfl rfl rfl hl.1 rfl (Nat.le_of_ble_eq_true rfl) ⟨Nat.le_of_ble_eq_true rfl, Nat.le_of_ble_eq_true rfl⟩ d_MO_reckon_401 ⟨Nat.le_of_ble_eq_true rfl, Nat.le_of_ble_eq_true rfl⟩) (fun r_31 h9 H9 locs hp9 hX9 hz9 hI => ?_)
        obtain ⟨rfl, e9⟩ := hp9
        rw [e9] at hI
        clear hX9 e9
        refine lv_i2l (v := lN (rr ((e1 * 40 + r) * 5 + 2))) hx hb d_MO_reckon_404 (n_i2l (by have := brr ((e1 * 40 + r) * 5 + 2); omega)) ?_
        refine lv_lmul hx hb d_MO_reckon_405 ?_
        refine f_asl (lN_mul ((min (fv i5 * 100) (li * 100 - fr)) * pay) (rr ((e1 * 40 + r) * 5 + 2))) ?_
        refine lv_ldc2 (v := 100) hx hb hown (hT _ w_1001) d_MO_reckon_406 ?_
        refine lv_lmul hx hb d_MO_reckon_409 ?_
        refine f_asl (lN_mul (((min (fv i5 * 100) (li * 100 - fr)) * pay) * (rr ((e1 * 40 + r) * 5 + 2))) 100) ?_
        refine lv_lsub hx hb d_MO_reckon_410 ?_
        refine f_asl (lN_sub (a := ce) (b := ((((min (fv i5 * 100) (li * 100 - fr)) * pay) * (rr ((e1 * 40 + r) * 5 + 2))) * 100)) (by have := bfv i5; have := brr ((e1 * 40 + r) * 5 + 2); omega)) ?_
        refine f_put (C := "DutyRulesModel") (T := T_MO) (N := 40) (fs' := mo (va_up mf1 20 (.long (lN (ce - ((((min (fv i5 * 100) (li * 100 - fr)) * pay) * (rr ((e1 * 40 + r) * 5 + 2))) * 100)))))) (v := .long (lN (ce - ((((min (fv i5 * 100) (li * 100 - fr)) * pay) * (rr ((e1 * 40 + r) * 5 + 2))) * 100)))) hx hb (fun w q => hT w (s_MO w q)) t_MO k_MO n_MO hown hK hI g_x (by decide) rfl 20 (by decide) (hT _ w_829) (fun _ q => q) rfl rfl rfl (by rw [mo_len]; decide) (mo_set _) d_MO_reckon_411 (fun H locs hI => ?_)
        generalize emf_32 : va_up mf1 20 (.long (lN (ce - ((((min (fv i5 * 100) (li * 100 - fr)) * pay) * (rr ((e1 * 40 + r) * 5 + 2))) * 100)))) = mf_32 at hI
        have v_11 : mf_32 11 = .ref a11 := by rw [← emf_32, va_up_ne _ _ (by decide)]; exact v_11
        have v_14 : mf_32 14 = .int (-1) := by rw [← emf_32, va_up_ne _ _ (by decide)]; exact v_14
        have v_15 : mf_32 15 = .ref a15 := by rw [← emf_32, va_up_ne _ _ (by decide)]; exact v_15
        have v_16 : mf_32 16 = .ref a16 := by rw [← emf_32, va_up_ne _ _ (by decide)]; exact v_16
        have v_17 : mf_32 17 = .ref a17 := by rw [← emf_32, va_up_ne _ _ (by decide)]; exact v_17
        have v_18 : mf_32 18 = .int (nI L.length) := by rw [← emf_32, va_up_ne _ _ (by decide)]; exact v_18
        have v_19 : mf_32 19 = .long (lN fr) := by rw [← emf_32, va_up_ne _ _ (by decide)]; exact v_19
        have v_20 : mf_32 20 = .long (lN (ce - ((((min (fv i5 * 100) (li * 100 - fr)) * pay) * (rr ((e1 * 40 + r) * 5 + 2))) * 100))) := by rw [← emf_32, va_up_self]
        generalize eh_33 : fU h1 x (40, 0, .inr (8, mo mf_32)) = h_33 at hI
        have hX := hX.set (e := .inr (8, mo mf_32)) g_x (by decide); rw [eh_33] at hX
        have hF := hF.set (e := .inr (8, mo mf_32)) g_x (by decide); rw [eh_33] at hF
        have g_a15 : h_33 a15 = some (56, 0, .inl ((G.2.1 0), 5, .inl (fun i => nI (sl i)))) := by rw [← eh_33]; exact fU_keep g_a15 (f_neR g_a15 g_x (by decide))
        have g_a16 : h_33 a16 = some (57, 0, .inl ((G.2.1 0), 5, .inl (fun i => nI (sr i)))) := by rw [← eh_33]; exact fU_keep g_a16 (f_neR g_a16 g_x (by decide))
        have g_a17 : h_33 a17 = some (58, 0, .inl ((G.2.1 1), 5, .inr (.inl (fun i => lN (sc i))))) := by rw [← eh_33]; exact fU_keep g_a17 (f_neR g_a17 g_x (by decide))
        have g_a11 : h_33 a11 = some (52, 0, .inl ((G.2.1 1), 300, .inr (.inl (fun i => lN (fv i))))) := by rw [← eh_33]; exact fU_keep g_a11 (f_neR g_a11 g_x (by decide))
        have hW9 : fF (inR [40]) h1 h_33 := by rw [← eh_33]; exact fF.rf.set g_x (by decide)
        have g_x : h_33 x = some (40, 0, .inr (8, mo mf_32)) := by rw [← eh_33]; exact fU_self _ _ _
        have hFc := mFc.keep (mf' := mf_32) hFc (fun j _ _ => by rw [← emf_32]; exact va_up_ne _ _ (by omega)) hW9 (by decide)
        have hEd := mEd.keep (mf' := mf_32) hEd (fun j _ _ => by rw [← emf_32]; exact va_up_ne _ _ (by omega)) hW9 (by decide)
        have hm1 : ∀ j, j < 14 ∨ 20 < j → mf_32 j = mf j := fun j hj => by rw [← emf_32, va_up_ne _ _ (by omega)]; exact hm1 j hj
        refine lv_aload_n hx hb d_MO_reckon_414 rfl (lv_at hl 3 rfl) ?_
        refine lv_iconst (v := 2) hx hb d_MO_reckon_415 (by decide) ?_
        refine lv_iload hx hb d_MO_reckon_416 (lv_at hl 1 rfl) ?_
        have hz8 := hI.2.2.2.1
        refine f_callv hI (f_runV C hI (c_MO_step l G h_33 _ x 2 r mf_32 g_x _ _ sl sr sc _ _ ⟨a15, a16, a17, ⟨v_14, v_15, v_16, v_17, v_18, v_19, v_20⟩, ⟨g_a15, g_a16, g_a17⟩⟩ (by omega) (by omega)) gm_MO_step w_1040 p_MO_step w_1038 g_x rfl rfl rfl hl.1 rfl (Nat.le_of_ble_eq_true rfl) ⟨Nat.le_of_ble_eq_true rfl, Nat.le_of_ble_eq_true rfl⟩ d_MO_reckon_418 ⟨Nat.le_of_ble_eq_true rfl, Nat.le_of_ble_eq_true rfl⟩) (fun h9 H9 locs hp9 hX9 hz9 hI => ?_)
        obtain ⟨mf_35, g_x, hm9, hSt, hF9⟩ := hp9
        have hFc := hFc.keep (fun j _ _ => hm9 j (by omega)) hF9 (by decide)
        have hEd := hEd.keep (fun j _ _ => hm9 j (by omega)) hF9 (by decide)
        have hm1 : ∀ j, j < 14 ∨ 20 < j → mf_35 j = mf j := fun j hj => (hm9 j (by omega)).trans (hm1 j hj)
        have hF := hF.tr hF9
        have hX := fX.tr (by omega) hX hX9
        have hs : sC li pay ((mK nf fl fk fd fw fv lot day on) 5) (mF rr rm e1 3 g 0) (mV rr e1) (L, fr, ce) = (L ++ [(2, r, (ce - ((((min (fv i5 * 100) (li * 100 - fr)) * pay) * (rr ((e1 * 40 + r) * 5 + 2))) * 100)) / CT)], fr, (ce - ((((min (fv i5 * 100) (li * 100 - fr)) * pay) * (rr ((e1 * 40 + r) * 5 + 2))) * 100))) := by unfold sC mF; rw [hK5, eS]; rfl
        have hSd9 : mSd G _ _ (-1) (L ++ [(2, r, (ce - ((((min (fv i5 * 100) (li * 100 - fr)) * pay) * (rr ((e1 * 40 + r) * 5 + 2))) * 100)) / CT)], fr, (ce - ((((min (fv i5 * 100) (li * 100 - fr)) * pay) * (rr ((e1 * 40 + r) * 5 + 2))) * 100))) := ⟨va_up sl L.length 2, va_up sr L.length r, va_up sc L.length ((ce - ((((min (fv i5 * 100) (li * 100 - fr)) * pay) * (rr ((e1 * 40 + r) * 5 + 2))) * 100)) / CT), (by show mSt G _ _ _ (L ++ [_]).length _ _ _ _ _; rw [List.length_append]; exact hSt), mSd.add hq 2 r _⟩
        exact JD e1 g li rate pay be bg bli bpay _ mf_35 _ _ _ g_x hFc hEd hSd9 hm1 hF hX hI (hrk.trans (by rw [hs])) ⟨by simp only [List.length_append, List.length_cons, List.length_nil]; omega, by dsimp only; omega, hb1.2.2.2⟩ ls (lv_sub hl [3, 4, 5, 6, 7, 8, 9, 10, 11, 12, 13] rfl)
  have JB : ∀ (e1 g li rate pay : Nat), e1 < 11 → g ≤ 9 → li ≤ 1000000 → pay ≤ 1000000 → ∀ (h1 : fH) (mf1 : Nat → Value) (d : dst) (H : Heap) (locs : List Loc), h1 x = some (40, 0, .inr (8, mo mf1)) → mFc G h1 mf1 nf fl fk fd fw fv → mEd G h1 mf1 ne ef rr rm → mSd G h1 mf1 (-1) d → (∀ j, j < 14 ∨ 20 < j → mf1 j = mf j) → fF (inR [40, 56, 57, 58]) h h1 → fX h sz h1 → fI G.1 g_cl (fA h sz) s.heap h1 H locs → rk (mK nf fl fk fd fw fv lot day on) (mE ne ef rr rm day) = (-1, sE (mF rr rm e1 4 0 0) (mV rr e1) (sD (mF rr rm e1 1 g 0) ((mK nf fl fk fd fw fv lot day on) 3) (mV rr e1) (sC li pay ((mK nf fl fk fd fw fv lot day on) 5) (mF rr rm e1 3 g 0) (mV rr e1) (sB li pay ((mK nf fl fk fd fw fv lot day on) 4) (mF rr rm e1 2 g 0) (mV rr e1) d)))) → d.1.length ≤ 1 ∧ d.2.2 = li * pay * 1000000 ∧ d.2.1 = 0 ∧ ¬ ((mF rr rm e1 1 g 0).isSome = true ∧ ((mK nf fl fk fd fw fv lot day on) 3).isNone = true) → ∀ ls : Array Slot, lv_has ls 25 [(0, .ref x), (1, .int (nI lot)), (2, .long (lN day)), (4, .long (lN on)), (6, .int (nI e1)), (7, .long (lN g)), (11, .long (lN li)), (13, .int (nI rate)), (14, .int (oN (ff (fp rr e1 1 g 0) 0 (rm e1)))), (15, .int (bI (hk fl fk fd fw lot 3 day on nf))), (16, .long (lN pay))] → W p l e { frames := 1, cells := 0, slots := 0, locals := 29 } s m ([.ref x, .int (nI lot), .long (lN day), .long (lN on)] : List Value).toArray below meth c H locs 0 0 (MQ below (cQi G h sz (fun r h' => r = (if (rk (mK nf fl fk fd fw fv lot day on) (mE ne ef rr rm day)).1 = -1 then 1 else 0) ∧ ∃ mf', h' x = some (40, 0, .inr (8, mo mf')) ∧ (∀ j, j < 14 ∨ 20 < j → mf' j = mf j) ∧ mSd G h' mf' (rk (mK nf fl fk fd fw fv lot day on) (mE ne ef rr rm day)).1 (rk (mK nf fl fk fd fw fv lot day on) (mE ne ef rr rm day)).2 ∧ fF (inR [40, 56, 57, 58]) h h')) ([.ref x, .int (nI lot), .long (lN day), .long (lN on)] : List Value).toArray s 0 0 (fA h sz)) (F0 m 230 ls []) := by
    intro e1 g li rate pay be bg bli bpay
    intro h1 mf1 d H locs g_x hFc hEd hSd hm1 hF hX hI hrk hb1 ls hl
    obtain ⟨sl, sr, sc, hSt, hq⟩ := hSd
    obtain ⟨L, fr, ce⟩ := d
    dsimp only at hb1 hSt hq
    obtain ⟨a15, a16, a17, ⟨v_14, v_15, v_16, v_17, v_18, v_19, v_20⟩, ⟨g_a15, g_a16, g_a17⟩⟩ := hSt
    obtain ⟨a7, a8, a9, a10, a11, ⟨v_7, v_8, v_9, v_10, v_11, v_12⟩, ⟨g_a7, g_a8, g_a9, g_a10, g_a11⟩, bnf, bfl, bfk, bfd, bfw, bfv0⟩ := id hFc
    have bfv : ∀ i, fv i ≤ 100000000 := fun i => Nat.le_trans (bfv0 i) (mostN_le _)
    have hz0 := hI.2.2.2.1
    have hlp : li * pay ≤ 1000000 * 1000000 := mulle bli bpay
    have hlq : (li * 100 - 0) * pay * 10000 = li * pay * 1000000 := by rw [Nat.sub_zero, Nat.mul_right_comm li 100 pay]; omega
    obtain ⟨hb2, hb3, hb4, hb5⟩ := hb1
    subst hb4
    have hSd9 : mSd G h1 mf1 (-1) (L, 0, ce) := ⟨sl, sr, sc, ⟨a15, a16, a17, ⟨v_14, v_15, v_16, v_17, v_18, v_19, v_20⟩, ⟨g_a15, g_a16, g_a17⟩⟩, hq⟩
    rcases eS : ff (fp rr e1 2 g 0) 0 (rm e1) with _ | r
    · have hs : sB li pay ((mK nf fl fk fd fw fv lot day on) 4) (mF rr rm e1 2 g 0) (mV rr e1) (L, 0, ce) = (L, 0, ce) := by unfold sB mF; rw [eS]; cases (mK nf fl fk fd fw fv lot day on) 4 <;> rfl
      refine lv_aload_n hx hb d_MO_reckon_230 rfl (lv_at hl 0 rfl) ?_
      refine lv_iload_n hx hb d_MO_reckon_231 rfl (lv_at hl 1 rfl) ?_
      refine lv_iconst (v := 4) hx hb d_MO_reckon_232 (by decide) ?_
      refine lv_lload_n hx hb d_MO_reckon_233 rfl (lv_at hl 2 rfl) ?_
      refine lv_lload hx hb d_MO_reckon_234 (lv_at hl 3 rfl) ?_
      refine f_calli hI (f_runV C hI (c_MO_holds l G h1 _ x nf lot 4 day on fl fk fd fw fv mf1 g_x hFc (by omega) (by omega) (by omega) (by omega)) gm_MO_holds w_1028 p_MO_holds w_1026 g_x rfl rfl rfl hl.1 rfl (Nat.le_of_ble_eq_true rfl) ⟨Nat.le_of_ble_eq_true rfl, Nat.le_of_ble_eq_true rfl⟩ d_MO_reckon_236 ⟨Nat.le_of_ble_eq_true rfl, Nat.le_of_ble_eq_true rfl⟩) (fun r_36 h9 H9 locs hp9 hX9 hz9 hI => ?_)
      obtain ⟨rfl, e9⟩ := hp9
      rw [e9] at hI
      clear hX9 e9
      refine lv_istore (lv' := [(18, .int (bI (hk fl fk fd fw lot 4 day on nf))), (0, .ref x), (1, .int (nI lot)), (2, .long (lN day)), (4, .long (lN on)), (6, .int (nI e1)), (7, .long (lN g)), (11, .long (lN li)), (13, .int (nI rate)), (14, .int (oN (ff (fp rr e1 1 g 0) 0 (rm e1)))), (15, .int (bI (hk fl fk fd fw lot 3 day on nf))), (16, .long (lN pay))]) hx hb d_MO_reckon_239 hl (by decide) rfl (fun ls hl => ?_)
      refine lv_aload_n hx hb d_MO_reckon_241 rfl (lv_at hl 1 rfl) ?_
      refine lv_iload hx hb d_MO_reckon_242 (lv_at hl 5 rfl) ?_
      refine lv_iconst (v := 2) hx hb d_MO_reckon_244 (by decide) ?_
      refine lv_lload hx hb d_MO_reckon_245 (lv_at hl 6 rfl) ?_
      refine lv_lconst (v := 0) hx hb d_MO_reckon_247 (by decide) ?_
      refine f_calli hI (f_runV C hI (c_MO_find l G h1 _ x e1 2 g 0 mf1 g_x ne ef rr rm hEd (by omega) (by omega) (by omega) (by omega)) gm_MO_find w_1032 p_MO_find w_1030 g_x rfl rfl rfl hl.1 rfl (Nat.le_of_ble_eq_true rfl) ⟨Nat.le_of_ble_eq_true rfl, Nat.le_of_ble_eq_true rfl⟩ d_MO_reckon_248 ⟨Nat.le_of_ble_eq_true rfl, Nat.le_of_ble_eq_true rfl⟩) (fun r_37 h9 H9 locs hp9 hX9 hz9 hI => ?_)
      obtain ⟨rfl, e9⟩ := hp9
      rw [e9] at hI
      clear hX9 e9
      rw [eS]
      refine lv_istore (lv' := [(19, .int (-1)), (18, .int (bI (hk fl fk fd fw lot 4 day on nf))), (0, .ref x), (1, .int (nI lot)), (2, .long (lN day)), (4, .long (lN on)), (6, .int (nI e1)), (7, .long (lN g)), (11, .long (lN li)), (13, .int (nI rate)), (14, .int (oN (ff (fp rr e1 1 g 0) 0 (rm e1)))), (15, .int (bI (hk fl fk fd fw lot 3 day on nf))), (16, .long (lN pay))]) hx hb d_MO_reckon_251 hl (by decide) rfl (fun ls hl => ?_)
      refine lv_iload hx hb d_MO_reckon_253 (lv_at hl 1 rfl) ?_
      refine lv_iconst (v := (-1)) hx hb d_MO_reckon_255 (by decide) ?_
      refine lv_icmp_eq (tgt := 323) hx hb d_MO_reckon_256 (by decide) (fun c_38 => ?_) (fun c_38 => ?_)
      · skip
        exact JC e1 g li rate pay be bg bli bpay _ mf1 (L, 0, ce) _ _ g_x hFc hEd hSd9 hm1 hF hX hI (hrk.trans (by rw [hs])) ⟨by dsimp only; omega, by dsimp only; omega, by dsimp only; omega, hb5⟩ ls (lv_sub hl [2, 3, 4, 5, 6, 7, 8, 9, 10, 11, 12] rfl)
      · skip
        refine lv_iload hx hb d_MO_reckon_259 (lv_at hl 0 rfl) ?_
        refine lv_iconst (v := (-1)) hx hb d_MO_reckon_261 (by decide) ?_
        refine lv_icmp_eq (tgt := 323) hx hb d_MO_reckon_262 (by decide) (fun c_39 => ?_) (fun c_39 => absurd rfl c_39)
        exact JC e1 g li rate pay be bg bli bpay _ mf1 (L, 0, ce) _ _ g_x hFc hEd hSd9 hm1 hF hX hI (hrk.trans (by rw [hs])) ⟨by dsimp only; omega, by dsimp only; omega, by dsimp only; omega, hb5⟩ ls (lv_sub hl [2, 3, 4, 5, 6, 7, 8, 9, 10, 11, 12] rfl)
    · skip
      obtain ⟨-, r2, r3⟩ := ff_in eS
      have hkr := fp_k r3
      have hokr := brk e1 r be (by omega)
      have hrm := brm e1
      rcases hk_ix (fl := fl) (fk := fk) (fd := fd) (fw := fw) (lot := lot) (kind := 4) (day := day) (on := on) nf with e4 | ⟨i4, hi4, e4, hh4⟩
      · have hs : sB li pay ((mK nf fl fk fd fw fv lot day on) 4) (mF rr rm e1 2 g 0) (mV rr e1) (L, 0, ce) = (L, 0, ce) := by unfold sB; rw [show (mK nf fl fk fd fw fv lot day on) 4 = none by show kv fv (hk fl fk fd fw lot 4 day on nf) = _; rw [e4]; rfl]
        refine lv_aload_n hx hb d_MO_reckon_230 rfl (lv_at hl 0 rfl) ?_
        refine lv_iload_n hx hb d_MO_reckon_231 rfl (lv_at hl 1 rfl) ?_
        refine lv_iconst (v := 4) hx hb d_MO_reckon_232 (by decide) ?_
        refine lv_lload_n hx hb d_MO_reckon_233 rfl (lv_at hl 2 rfl) ?_
        refine lv_lload hx hb d_MO_reckon_234 (lv_at hl 3 rfl) ?_
        refine f_calli hI (f_runV C hI (c_MO_holds l G h1 _ x nf lot 4 day on fl fk fd fw fv mf1 g_x hFc (by omega) (by omega) (by omega) (by omega)) gm_MO_holds w_1028 p_MO_holds w_1026 g_x rfl rfl rfl hl.1 rfl (Nat.le_of_ble_eq_true rfl) ⟨Nat.le_of_ble_eq_true rfl, Nat.le_of_ble_eq_true rfl⟩ d_MO_reckon_236 ⟨Nat.le_of_ble_eq_true rfl, Nat.le_of_ble_eq_true rfl⟩) (fun r_40 h9 H9 locs hp9 hX9 hz9 hI => ?_)
        obtain ⟨rfl, e9⟩ := hp9
        rw [e9] at hI
        clear hX9 e9
        rw [e4, bI_0]
        refine lv_istore (lv' := [(18, .int (-1)), (0, .ref x), (1, .int (nI lot)), (2, .long (lN day)), (4, .long (lN on)), (6, .int (nI e1)), (7, .long (lN g)), (11, .long (lN li)), (13, .int (nI rate)), (14, .int (oN (ff (fp rr e1 1 g 0) 0 (rm e1)))), (15, .int (bI (hk fl fk fd fw lot 3 day on nf))), (16, .long (lN pay))]) hx hb d_MO_reckon_239 hl (by decide) rfl (fun ls hl => ?_)
        refine lv_aload_n hx hb d_MO_reckon_241 rfl (lv_at hl 1 rfl) ?_
        refine lv_iload hx hb d_MO_reckon_242 (lv_at hl 5 rfl) ?_
        refine lv_iconst (v := 2) hx hb d_MO_reckon_244 (by decide) ?_
        refine lv_lload hx hb d_MO_reckon_245 (lv_at hl 6 rfl) ?_
        refine lv_lconst (v := 0) hx hb d_MO_reckon_247 (by decide) ?_
        refine f_calli hI (f_runV C hI (c_MO_find l G h1 _ x e1 2 g 0 mf1 g_x ne ef rr rm hEd (by omega) (by omega) (by omega) (by omega)) gm_MO_find w_1032 p_MO_find w_1030 g_x rfl rfl rfl hl.1 rfl (Nat.le_of_ble_eq_true rfl) ⟨Nat.le_of_ble_eq_true rfl, Nat.le_of_ble_eq_true rfl⟩ d_MO_reckon_248 ⟨Nat.le_of_ble_eq_true rfl, Nat.le_of_ble_eq_true rfl⟩) (fun r_41 h9 H9 locs hp9 hX9 hz9 hI => ?_)
        obtain ⟨rfl, e9⟩ := hp9
        rw [e9] at hI
        clear hX9 e9
        rw [eS]
        refine lv_istore (lv' := [(19, .int (nI r)), (18, .int (-1)), (0, .ref x), (1, .int (nI lot)), (2, .long (lN day)), (4, .long (lN on)), (6, .int (nI e1)), (7, .long (lN g)), (11, .long (lN li)), (13, .int (nI rate)), (14, .int (oN (ff (fp rr e1 1 g 0) 0 (rm e1)))), (15, .int (bI (hk fl fk fd fw lot 3 day on nf))), (16, .long (lN pay))]) hx hb d_MO_reckon_251 hl (by decide) rfl (fun ls hl => ?_)
        refine lv_iload hx hb d_MO_reckon_253 (lv_at hl 1 rfl) ?_
        refine lv_iconst (v := (-1)) hx hb d_MO_reckon_255 (by decide) ?_
        refine lv_icmp_eq (tgt := 323) hx hb d_MO_reckon_256 (by decide) (fun c_42 => ?_) (fun c_42 => absurd rfl c_42)
        exact JC e1 g li rate pay be bg bli bpay _ mf1 (L, 0, ce) _ _ g_x hFc hEd hSd9 hm1 hF hX hI (hrk.trans (by rw [hs])) ⟨by dsimp only; omega, by dsimp only; omega, by dsimp only; omega, hb5⟩ ls (lv_sub hl [2, 3, 4, 5, 6, 7, 8, 9, 10, 11, 12] rfl)
      · have hK4 : (mK nf fl fk fd fw fv lot day on) 4 = some (fv i4) := by show kv fv (hk fl fk fd fw lot 4 day on nf) = _; rw [e4]; exact kv_k (by omega)
        have hv := hokr.2.2.2.2.1 hkr
        have hfv := bfv i4
        have hlv : li * rr ((e1 * 40 + r) * 5 + 2) ≤ 1000000 * 100 := mulle bli hv
        have ha0 : li * rr ((e1 * 40 + r) * 5 + 2) ≤ li * 100 := Nat.mul_le_mul_left _ hv
        have ha1 : min (fv i4 * 100) (li * (rr ((e1 * 40 + r) * 5 + 2))) ≤ li * rr ((e1 * 40 + r) * 5 + 2) := Nat.min_le_right _ _
        have ha2 : min (fv i4 * 100) (li * (rr ((e1 * 40 + r) * 5 + 2))) * pay ≤ (li * 100) * pay := Nat.mul_le_mul_right _ (by omega)
        have ha3 : li * 100 * pay = li * pay * 100 := Nat.mul_right_comm li 100 pay
        have ha4 : (li * 100 - min (fv i4 * 100) (li * (rr ((e1 * 40 + r) * 5 + 2)))) * pay * 10000 = li * pay * 1000000 - min (fv i4 * 100) (li * (rr ((e1 * 40 + r) * 5 + 2))) * pay * 10000 := by rw [Nat.sub_mul]; omega
        refine lv_aload_n hx hb d_MO_reckon_230 rfl (lv_at hl 0 rfl) ?_
        refine lv_iload_n hx hb d_MO_reckon_231 rfl (lv_at hl 1 rfl) ?_
        refine lv_iconst (v := 4) hx hb d_MO_reckon_232 (by decide) ?_
        refine lv_lload_n hx hb d_MO_reckon_233 rfl (lv_at hl 2 rfl) ?_
        refine lv_lload hx hb d_MO_reckon_234 (lv_at hl 3 rfl) ?_
        refine f_calli hI (f_runV C hI (c_MO_holds l G h1 _ x nf lot 4 day on fl fk fd fw fv mf1 g_x hFc (by omega) (by omega) (by omega) (by omega)) gm_MO_holds w_1028 p_MO_holds w_1026 g_x rfl rfl rfl hl.1 rfl (Nat.le_of_ble_eq_true rfl) ⟨Nat.le_of_ble_eq_true rfl, Nat.le_of_ble_eq_true rfl⟩ d_MO_reckon_236 ⟨Nat.le_of_ble_eq_true rfl, Nat.le_of_ble_eq_true rfl⟩) (fun r_43 h9 H9 locs hp9 hX9 hz9 hI => ?_)
        obtain ⟨rfl, e9⟩ := hp9
        rw [e9] at hI
        clear hX9 e9
        rw [e4, bI_k (by omega)]
        refine lv_istore (lv' := [(18, .int (nI i4)), (0, .ref x), (1, .int (nI lot)), (2, .long (lN day)), (4, .long (lN on)), (6, .int (nI e1)), (7, .long (lN g)), (11, .long (lN li)), (13, .int (nI rate)), (14, .int (oN (ff (fp rr e1 1 g 0) 0 (rm e1)))), (15, .int (bI (hk fl fk fd fw lot 3 day on nf))), (16, .long (lN pay))]) hx hb d_MO_reckon_239 hl (by decide) rfl (fun ls hl => ?_)
        refine lv_aload_n hx hb d_MO_reckon_241 rfl (lv_at hl 1 rfl) ?_
        refine lv_iload hx hb d_MO_reckon_242 (lv_at hl 5 rfl) ?_
        refine lv_iconst (v := 2) hx hb d_MO_reckon_244 (by decide) ?_
        refine lv_lload hx hb d_MO_reckon_245 (lv_at hl 6 rfl) ?_
        refine lv_lconst (v := 0) hx hb d_MO_reckon_247 (by decide) ?_
        refine f_calli hI (f_runV C hI (c_MO_find l G h1 _ x e1 2 g 0 mf1 g_x ne ef rr rm hEd (by omega) (by omega) (by omega) (by omega)) gm_MO_find w_1032 p_MO_find w_1030 g_x rfl rfl rfl hl.1 rfl (Nat.le_of_ble_eq_true rfl) ⟨Nat.le_of_ble_eq_true rfl, Nat.le_of_ble_eq_true rfl⟩ d_MO_reckon_248 ⟨Nat.le_of_ble_eq_true rfl, Nat.le_of_ble_eq_true rfl⟩) (fun r_44 h9 H9 locs hp9 hX9 hz9 hI => ?_)
        obtain ⟨rfl, e9⟩ := hp9
        rw [e9] at hI
        clear hX9 e9
        rw [eS]
        refine lv_istore (lv' := [(19, .int (nI r)), (18, .int (nI i4)), (0, .ref x), (1, .int (nI lot)), (2, .long (lN day)), (4, .long (lN on)), (6, .int (nI e1)), (7, .long (lN g)), (11, .long (lN li)), (13, .int (nI rate)), (14, .int (oN (ff (fp rr e1 1 g 0) 0 (rm e1)))), (15, .int (bI (hk fl fk fd fw lot 3 day on nf))), (16, .long (lN pay))]) hx hb d_MO_reckon_251 hl (by decide) rfl (fun ls hl => ?_)
        refine lv_iload hx hb d_MO_reckon_253 (lv_at hl 1 rfl) ?_
        refine lv_iconst (v := (-1)) hx hb d_MO_reckon_255 (by decide) ?_
        refine lv_icmp_eq (tgt := 323) hx hb d_MO_reckon_256 (by decide) (fun c_45 => absurd c_45 (n_m1 (by omega))) (fun c_45 => ?_)
        refine lv_iload hx hb d_MO_reckon_259 (lv_at hl 0 rfl) ?_
        refine lv_iconst (v := (-1)) hx hb d_MO_reckon_261 (by decide) ?_
        refine lv_icmp_eq (tgt := 323) hx hb d_MO_reckon_262 (by decide) (fun c_46 => absurd c_46 (n_m1 (by omega))) (fun c_46 => ?_)
        refine lv_aload_n hx hb d_MO_reckon_265 rfl (lv_at hl 2 rfl) ?_
        refine lv_aload_n hx hb d_MO_reckon_266 rfl (lv_at hl 2 rfl) ?_
        refine f_get (C := "DutyRulesModel") (T := T_MO) (N := 40) hx hb (fun w q => hT w (s_MO w q)) hown hK hI g_x rfl 11 (by decide) (hT _ w_820) (fun _ q => q) (mo_get (by decide) v_11) d_MO_reckon_267 ?_
        refine lv_iload hx hb d_MO_reckon_270 (lv_at hl 1 rfl) ?_
        refine f_laldn (k := i4) (v := (lN (fv i4))) hx hb hI g_a11 (fT.ofK hK (t0 := 1) rfl) (by omega) (by omega) rfl d_MO_reckon_272 ?_
        refine lv_ldc2 (v := 100) hx hb hown (hT _ w_1001) d_MO_reckon_273 ?_
        refine lv_lmul hx hb d_MO_reckon_276 ?_
        refine f_asl (lN_mul (fv i4) 100) ?_
        refine lv_lload hx hb d_MO_reckon_277 (lv_at hl 8 rfl) ?_
        refine lv_aload_n hx hb d_MO_reckon_279 rfl (lv_at hl 2 rfl) ?_
        refine lv_iload hx hb d_MO_reckon_280 (lv_at hl 6 rfl) ?_
        refine lv_iload hx hb d_MO_reckon_282 (lv_at hl 0 rfl) ?_
        refine lv_iconst (v := 2) hx hb d_MO_reckon_284 (by decide) ?_
        refine f_calli hI (f_runV C hI (c_MO_value l G h1 _ x e1 r 2 mf1 g_x ne ef rr rm hEd (by omega) (by omega) (by omega)) gm_MO_value w_1036 p_MO_value w_1034 g_x rfl rfl rfl hl.1 rfl (Nat.le_of_ble_eq_true rfl) ⟨Nat.le_of_ble_eq_true rfl, Nat.le_of_ble_eq_true rfl⟩ d_MO_reckon_285 ⟨Nat.le_of_ble_eq_true rfl, Nat.le_of_ble_eq_true rfl⟩) (fun r_47 h9 H9 locs hp9 hX9 hz9 hI => ?_)
        obtain ⟨rfl, e9⟩ := hp9
        rw [e9] at hI
        clear hX9 e9
        refine lv_i2l (v := lN (rr ((e1 * 40 + r) * 5 + 2))) hx hb d_MO_reckon_288 (n_i2l (by have := brr ((e1 * 40 + r) * 5 + 2); omega)) ?_
        refine lv_lmul hx hb d_MO_reckon_289 ?_
        refine f_asl (lN_mul li (rr ((e1 * 40 + r) * 5 + 2))) ?_
        refine f_calll hI (f_runS C hI (c_MO_least l G h1 _ (lN ((fv i4) * 100)) (lN (li * (rr ((e1 * 40 + r) * 5 + 2))))) gm_MO_least w_1044 w_1043 rfl hl.1 rfl (Nat.le_of_ble_eq_true rfl) ⟨Nat.le_of_ble_eq_true rfl, Nat.le_of_ble_eq_true rfl⟩ d_MO_reckon_290 ⟨Nat.le_of_ble_eq_true rfl, Nat.le_of_ble_eq_true rfl⟩) (fun r_48 h9 H9 locs hp9 hX9 hz9 hI => ?_)
        obtain ⟨rfl, e9⟩ := hp9
        rw [e9] at hI
        clear hX9 e9
        refine f_asl (least_min (a := fv i4 * 100) (b := li * (rr ((e1 * 40 + r) * 5 + 2))) (by omega) (by omega)) ?_
        refine f_put (C := "DutyRulesModel") (T := T_MO) (N := 40) (fs' := mo (va_up mf1 19 (.long (lN (min (fv i4 * 100) (li * (rr ((e1 * 40 + r) * 5 + 2)))))))) (v := .long (lN (min (fv i4 * 100) (li * (rr ((e1 * 40 + r) * 5 + 2)))))) hx hb (fun w q => hT w (s_MO w q)) t_MO k_MO n_MO hown hK hI g_x (by decide) rfl 19 (by decide) (hT _ w_828) (fun _ q => q) rfl rfl rfl (by rw [mo_len]; decide) (mo_set _) d_MO_reckon_293 (fun H locs hI => ?_)
        generalize emf_49 : va_up mf1 19 (.long (lN (min (fv i4 * 100) (li * (rr ((e1 * 40 + r) * 5 + 2)))))) = mf_49 at hI
        have v_11 : mf_49 11 = .ref a11 := by rw [← emf_49, va_up_ne _ _ (by decide)]; exact v_11
        have v_14 : mf_49 14 = .int (-1) := by rw [← emf_49, va_up_ne _ _ (by decide)]; exact v_14
        have v_15 : mf_49 15 = .ref a15 := by rw [← emf_49, va_up_ne _ _ (by decide)]; exact v_15
        have v_16 : mf_49 16 = .ref a16 := by rw [← emf_49, va_up_ne _ _ (by decide)]; exact v_16
        have v_17 : mf_49 17 = .ref a17 := by rw [← emf_49, va_up_ne _ _ (by decide)]; exact v_17
        have v_18 : mf_49 18 = .int (nI L.length) := by rw [← emf_49, va_up_ne _ _ (by decide)]; exact v_18
        have v_20 : mf_49 20 = .long (lN ce) := by rw [← emf_49, va_up_ne _ _ (by decide)]; exact v_20
        have v_19 : mf_49 19 = .long (lN (min (fv i4 * 100) (li * (rr ((e1 * 40 + r) * 5 + 2))))) := by rw [← emf_49, va_up_self]
        generalize eh_50 : fU h1 x (40, 0, .inr (8, mo mf_49)) = h_50 at hI
        have hX := hX.set (e := .inr (8, mo mf_49)) g_x (by decide); rw [eh_50] at hX
        have hF := hF.set (e := .inr (8, mo mf_49)) g_x (by decide); rw [eh_50] at hF
        have g_a15 : h_50 a15 = some (56, 0, .inl ((G.2.1 0), 5, .inl (fun i => nI (sl i)))) := by rw [← eh_50]; exact fU_keep g_a15 (f_neR g_a15 g_x (by decide))
        have g_a16 : h_50 a16 = some (57, 0, .inl ((G.2.1 0), 5, .inl (fun i => nI (sr i)))) := by rw [← eh_50]; exact fU_keep g_a16 (f_neR g_a16 g_x (by decide))
        have g_a17 : h_50 a17 = some (58, 0, .inl ((G.2.1 1), 5, .inr (.inl (fun i => lN (sc i))))) := by rw [← eh_50]; exact fU_keep g_a17 (f_neR g_a17 g_x (by decide))
        have g_a11 : h_50 a11 = some (52, 0, .inl ((G.2.1 1), 300, .inr (.inl (fun i => lN (fv i))))) := by rw [← eh_50]; exact fU_keep g_a11 (f_neR g_a11 g_x (by decide))
        have hW9 : fF (inR [40]) h1 h_50 := by rw [← eh_50]; exact fF.rf.set g_x (by decide)
        have g_x : h_50 x = some (40, 0, .inr (8, mo mf_49)) := by rw [← eh_50]; exact fU_self _ _ _
        have hFc := mFc.keep (mf' := mf_49) hFc (fun j _ _ => by rw [← emf_49]; exact va_up_ne _ _ (by omega)) hW9 (by decide)
        have hEd := mEd.keep (mf' := mf_49) hEd (fun j _ _ => by rw [← emf_49]; exact va_up_ne _ _ (by omega)) hW9 (by decide)
        have hm1 : ∀ j, j < 14 ∨ 20 < j → mf_49 j = mf j := fun j hj => by rw [← emf_49, va_up_ne _ _ (by omega)]; exact hm1 j hj
        refine lv_aload_n hx hb d_MO_reckon_296 rfl (lv_at hl 2 rfl) ?_
        refine lv_dup hx hb d_MO_reckon_297 rfl ?_
        refine f_get (C := "DutyRulesModel") (T := T_MO) (N := 40) hx hb (fun w q => hT w (s_MO w q)) hown hK hI g_x rfl 20 (by decide) (hT _ w_829) (fun _ q => q) (mo_get (by decide) v_20) d_MO_reckon_298 ?_
        refine lv_aload_n hx hb d_MO_reckon_301 rfl (lv_at hl 2 rfl) ?_
        refine f_get (C := "DutyRulesModel") (T := T_MO) (N := 40) hx hb (fun w q => hT w (s_MO w q)) hown hK hI g_x rfl 19 (by decide) (hT _ w_828) (fun _ q => q) (mo_get (by decide) v_19) d_MO_reckon_302 ?_
        refine lv_lload hx hb d_MO_reckon_305 (lv_at hl 12 rfl) ?_
        refine lv_lmul hx hb d_MO_reckon_307 ?_
        refine f_asl (lN_mul (min (fv i4 * 100) (li * (rr ((e1 * 40 + r) * 5 + 2)))) pay) ?_
        refine lv_ldc2 (v := 10000) hx hb hown (hT _ w_1006) d_MO_reckon_308 ?_
        refine lv_lmul hx hb d_MO_reckon_311 ?_
        refine f_asl (lN_mul ((min (fv i4 * 100) (li * (rr ((e1 * 40 + r) * 5 + 2)))) * pay) 10000) ?_
        refine lv_lsub hx hb d_MO_reckon_312 ?_
        refine f_asl (lN_sub (a := ce) (b := (((min (fv i4 * 100) (li * (rr ((e1 * 40 + r) * 5 + 2)))) * pay) * 10000)) (by have := bfv i4; have := brr ((e1 * 40 + r) * 5 + 2); omega)) ?_
        refine f_put (C := "DutyRulesModel") (T := T_MO) (N := 40) (fs' := mo (va_up mf_49 20 (.long (lN (ce - (((min (fv i4 * 100) (li * (rr ((e1 * 40 + r) * 5 + 2)))) * pay) * 10000)))))) (v := .long (lN (ce - (((min (fv i4 * 100) (li * (rr ((e1 * 40 + r) * 5 + 2)))) * pay) * 10000)))) hx hb (fun w q => hT w (s_MO w q)) t_MO k_MO n_MO hown hK hI g_x (by decide) rfl 20 (by decide) (hT _ w_829) (fun _ q => q) rfl rfl rfl (by rw [mo_len]; decide) (mo_set _) d_MO_reckon_313 (fun H locs hI => ?_)
        generalize emf_51 : va_up mf_49 20 (.long (lN (ce - (((min (fv i4 * 100) (li * (rr ((e1 * 40 + r) * 5 + 2)))) * pay) * 10000)))) = mf_51 at hI
        have v_11 : mf_51 11 = .ref a11 := by rw [← emf_51, va_up_ne _ _ (by decide)]; exact v_11
        have v_14 : mf_51 14 = .int (-1) := by rw [← emf_51, va_up_ne _ _ (by decide)]; exact v_14
        have v_15 : mf_51 15 = .ref a15 := by rw [← emf_51, va_up_ne _ _ (by decide)]; exact v_15
        have v_16 : mf_51 16 = .ref a16 := by rw [← emf_51, va_up_ne _ _ (by decide)]; exact v_16
        have v_17 : mf_51 17 = .ref a17 := by rw [← emf_51, va_up_ne _ _ (by decide)]; exact v_17
        have v_18 : mf_51 18 = .int (nI L.length) := by rw [← emf_51, va_up_ne _ _ (by decide)]; exact v_18
        have v_19 : mf_51 19 = .long (lN (min (fv i4 * 100) (li * (rr ((e1 * 40 + r) * 5 + 2))))) := by rw [← emf_51, va_up_ne _ _ (by decide)]; exact v_19
        have v_20 : mf_51 20 = .long (lN (ce - (((min (fv i4 * 100) (li * (rr ((e1 * 40 + r) * 5 + 2)))) * pay) * 10000))) := by rw [← emf_51, va_up_self]
        generalize eh_52 : fU h_50 x (40, 0, .inr (8, mo mf_51)) = h_52 at hI
        have hX := hX.set (e := .inr (8, mo mf_51)) g_x (by decide); rw [eh_52] at hX
        have hF := hF.set (e := .inr (8, mo mf_51)) g_x (by decide); rw [eh_52] at hF
        have g_a15 : h_52 a15 = some (56, 0, .inl ((G.2.1 0), 5, .inl (fun i => nI (sl i)))) := by rw [← eh_52]; exact fU_keep g_a15 (f_neR g_a15 g_x (by decide))
        have g_a16 : h_52 a16 = some (57, 0, .inl ((G.2.1 0), 5, .inl (fun i => nI (sr i)))) := by rw [← eh_52]; exact fU_keep g_a16 (f_neR g_a16 g_x (by decide))
        have g_a17 : h_52 a17 = some (58, 0, .inl ((G.2.1 1), 5, .inr (.inl (fun i => lN (sc i))))) := by rw [← eh_52]; exact fU_keep g_a17 (f_neR g_a17 g_x (by decide))
        have g_a11 : h_52 a11 = some (52, 0, .inl ((G.2.1 1), 300, .inr (.inl (fun i => lN (fv i))))) := by rw [← eh_52]; exact fU_keep g_a11 (f_neR g_a11 g_x (by decide))
        have hW9 : fF (inR [40]) h_50 h_52 := by rw [← eh_52]; exact fF.rf.set g_x (by decide)
        have g_x : h_52 x = some (40, 0, .inr (8, mo mf_51)) := by rw [← eh_52]; exact fU_self _ _ _
        have hFc := mFc.keep (mf' := mf_51) hFc (fun j _ _ => by rw [← emf_51]; exact va_up_ne _ _ (by omega)) hW9 (by decide)
        have hEd := mEd.keep (mf' := mf_51) hEd (fun j _ _ => by rw [← emf_51]; exact va_up_ne _ _ (by omega)) hW9 (by decide)
        have hm1 : ∀ j, j < 14 ∨ 20 < j → mf_51 j = mf j := fun j hj => by rw [← emf_51, va_up_ne _ _ (by omega)]; exact hm1 j hj
        refine lv_aload_n hx hb d_MO_reckon_316 rfl (lv_at hl 2 rfl) ?_
        refine lv_iconst (v := 1) hx hb d_MO_reckon_317 (by decide) ?_
        refine lv_iload hx hb d_MO_reckon_318 (lv_at hl 0 rfl) ?_
        have hz8 := hI.2.2.2.1
        refine f_callv hI (f_runV C hI (c_MO_step l G h_52 _ x 1 r mf_51 g_x _ _ sl sr sc _ _ ⟨a15, a16, a17, ⟨v_14, v_15, v_16, v_17, v_18, v_19, v_20⟩, ⟨g_a15, g_a16, g_a17⟩⟩ (by omega) (by omega)) gm_MO_step w_1040 p_MO_step w_1038 g_x rfl rfl rfl hl.1 rfl (Nat.le_of_ble_eq_true rfl) ⟨Nat.le_of_ble_eq_true rfl, Nat.le_of_ble_eq_true rfl⟩ d_MO_reckon_320 ⟨Nat.le_of_ble_eq_true rfl, Nat.le_of_ble_eq_true rfl⟩) (fun h9 H9 locs hp9 hX9 hz9 hI => ?_)
        obtain ⟨mf_54, g_x, hm9, hSt, hF9⟩ := hp9
        have hFc := hFc.keep (fun j _ _ => hm9 j (by omega)) hF9 (by decide)
        have hEd := hEd.keep (fun j _ _ => hm9 j (by omega)) hF9 (by decide)
        have hm1 : ∀ j, j < 14 ∨ 20 < j → mf_54 j = mf j := fun j hj => (hm9 j (by omega)).trans (hm1 j hj)
        have hF := hF.tr hF9
        have hX := fX.tr (by omega) hX hX9
        have hs : sB li pay ((mK nf fl fk fd fw fv lot day on) 4) (mF rr rm e1 2 g 0) (mV rr e1) (L, 0, ce) = (L ++ [(1, r, (ce - (((min (fv i4 * 100) (li * (rr ((e1 * 40 + r) * 5 + 2)))) * pay) * 10000)) / CT)], min (fv i4 * 100) (li * (rr ((e1 * 40 + r) * 5 + 2))), (ce - (((min (fv i4 * 100) (li * (rr ((e1 * 40 + r) * 5 + 2)))) * pay) * 10000))) := by unfold sB mF; rw [hK4, eS]; rfl
        have hSd9 : mSd G _ _ (-1) (L ++ [(1, r, (ce - (((min (fv i4 * 100) (li * (rr ((e1 * 40 + r) * 5 + 2)))) * pay) * 10000)) / CT)], (min (fv i4 * 100) (li * (rr ((e1 * 40 + r) * 5 + 2)))), (ce - (((min (fv i4 * 100) (li * (rr ((e1 * 40 + r) * 5 + 2)))) * pay) * 10000))) := ⟨va_up sl L.length 1, va_up sr L.length r, va_up sc L.length ((ce - (((min (fv i4 * 100) (li * (rr ((e1 * 40 + r) * 5 + 2)))) * pay) * 10000)) / CT), (by show mSt G _ _ _ (L ++ [_]).length _ _ _ _ _; rw [List.length_append]; exact hSt), mSd.add hq 1 r _⟩
        exact JC e1 g li rate pay be bg bli bpay _ mf_54 _ _ _ g_x hFc hEd hSd9 hm1 hF hX hI (hrk.trans (by rw [hs])) ⟨by simp only [List.length_append, List.length_cons, List.length_nil]; omega, by dsimp only; omega, by dsimp only; omega, hb5⟩ ls (lv_sub hl [2, 3, 4, 5, 6, 7, 8, 9, 10, 11, 12] rfl)
  sorry
end
