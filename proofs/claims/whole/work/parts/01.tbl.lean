-- ===== PART A: goes FIRST, ahead of the names: the tables' words, and 'selects' of the private methods out of them =====
/-- a private method of a class that the tables say can be made, by its rows of tables_1 -/
def lw_okq (q : MethodName × Nat) : Prop := (q.1.cls ≠ "java/lang/invoke/MethodHandle" ∧ q.1.cls ≠ "java/lang/invoke/VarHandle") ∧ Cond.instantiable q.1.cls q.2 ∈ tables_1 ∧ Cond.privateMethod q.1 ∈ tables_1 ∧ Cond.instanceMethod q.1 ∈ tables_1
theorem lw_p0 : lw_okq (⟨"DutyRules$Facts", "newestOf", "(II)LDutyRules$Fact;"⟩, 3) := ⟨⟨by decide +kernel, by decide +kernel⟩, List.mem_of_getElem? (i := 83) (by decide +kernel), List.mem_of_getElem? (i := 611) (by decide +kernel), List.mem_of_getElem? (i := 612) (by decide +kernel)⟩
theorem lw_p1 : lw_okq (⟨"DutyRules$Duty", "reasonToBeOpen", "(LDutyRules$Rules;)I"⟩, 9) := ⟨⟨by decide +kernel, by decide +kernel⟩, List.mem_of_getElem? (i := 102) (by decide +kernel), List.mem_of_getElem? (i := 635) (by decide +kernel), List.mem_of_getElem? (i := 636) (by decide +kernel)⟩
theorem lw_p2 : lw_okq (⟨"DutyRules$Duty", "doSteps", "(LDutyRules$Rules;)V"⟩, 9) := ⟨⟨by decide +kernel, by decide +kernel⟩, List.mem_of_getElem? (i := 102) (by decide +kernel), List.mem_of_getElem? (i := 647) (by decide +kernel), List.mem_of_getElem? (i := 648) (by decide +kernel)⟩
theorem lw_p3 : lw_okq (⟨"DutyRules$Duty", "addStep", "(II)V"⟩, 9) := ⟨⟨by decide +kernel, by decide +kernel⟩, List.mem_of_getElem? (i := 102) (by decide +kernel), List.mem_of_getElem? (i := 654) (by decide +kernel), List.mem_of_getElem? (i := 655) (by decide +kernel)⟩
theorem lw_p4 : lw_okq (⟨"DutyRules$Duty", "freeLost", "(LDutyRules$Rules;J)V"⟩, 9) := ⟨⟨by decide +kernel, by decide +kernel⟩, List.mem_of_getElem? (i := 102) (by decide +kernel), List.mem_of_getElem? (i := 659) (by decide +kernel), List.mem_of_getElem? (i := 660) (by decide +kernel)⟩
theorem lw_p5 : lw_okq (⟨"DutyRules$Duty", "lessenByAway", "(LDutyRules$Rules;J)V"⟩, 9) := ⟨⟨by decide +kernel, by decide +kernel⟩, List.mem_of_getElem? (i := 102) (by decide +kernel), List.mem_of_getElem? (i := 666) (by decide +kernel), List.mem_of_getElem? (i := 667) (by decide +kernel)⟩
theorem lw_p6 : lw_okq (⟨"DutyRules$Duty", "lessenForSmall", "(LDutyRules$Rules;)V"⟩, 9) := ⟨⟨by decide +kernel, by decide +kernel⟩, List.mem_of_getElem? (i := 102) (by decide +kernel), List.mem_of_getElem? (i := 670) (by decide +kernel), List.mem_of_getElem? (i := 671) (by decide +kernel)⟩
theorem lw_p7 : lw_okq (⟨"DutyRules$Duty", "roundToMultiple", "(LDutyRules$Rules;)V"⟩, 9) := ⟨⟨by decide +kernel, by decide +kernel⟩, List.mem_of_getElem? (i := 102) (by decide +kernel), List.mem_of_getElem? (i := 674) (by decide +kernel), List.mem_of_getElem? (i := 675) (by decide +kernel)⟩
theorem lw_p8 : lw_okq (⟨"DutyRules", "returnOf", "(I)LDutyRules$Return;"⟩, 10) := ⟨⟨by decide +kernel, by decide +kernel⟩, List.mem_of_getElem? (i := 23) (by decide +kernel), List.mem_of_getElem? (i := 713) (by decide +kernel), List.mem_of_getElem? (i := 714) (by decide +kernel)⟩
theorem lw_p9 : lw_okq (⟨"DutyRules", "centsOf", "(III)J"⟩, 10) := ⟨⟨by decide +kernel, by decide +kernel⟩, List.mem_of_getElem? (i := 23) (by decide +kernel), List.mem_of_getElem? (i := 748) (by decide +kernel), List.mem_of_getElem? (i := 749) (by decide +kernel)⟩
theorem lw_p10 : lw_okq (⟨"DutyRules", "lateShare", "(I)J"⟩, 10) := ⟨⟨by decide +kernel, by decide +kernel⟩, List.mem_of_getElem? (i := 23) (by decide +kernel), List.mem_of_getElem? (i := 796) (by decide +kernel), List.mem_of_getElem? (i := 797) (by decide +kernel)⟩
theorem lw_p11 : lw_okq (⟨"DutyRulesModel", "next", "()V"⟩, 40) := ⟨⟨by decide +kernel, by decide +kernel⟩, List.mem_of_getElem? (i := 803) (by decide +kernel), List.mem_of_getElem? (i := 939) (by decide +kernel), List.mem_of_getElem? (i := 940) (by decide +kernel)⟩
theorem lw_p12 : lw_okq (⟨"DutyRulesModel", "rule", "(I)Z"⟩, 40) := ⟨⟨by decide +kernel, by decide +kernel⟩, List.mem_of_getElem? (i := 803) (by decide +kernel), List.mem_of_getElem? (i := 946) (by decide +kernel), List.mem_of_getElem? (i := 947) (by decide +kernel)⟩
theorem lw_p13 : lw_okq (⟨"DutyRulesModel", "is", "(I)Z"⟩, 40) := ⟨⟨by decide +kernel, by decide +kernel⟩, List.mem_of_getElem? (i := 803) (by decide +kernel), List.mem_of_getElem? (i := 950) (by decide +kernel), List.mem_of_getElem? (i := 951) (by decide +kernel)⟩
theorem lw_p14 : lw_okq (⟨"DutyRulesModel", "number", "(I)I"⟩, 40) := ⟨⟨by decide +kernel, by decide +kernel⟩, List.mem_of_getElem? (i := 803) (by decide +kernel), List.mem_of_getElem? (i := 967) (by decide +kernel), List.mem_of_getElem? (i := 968) (by decide +kernel)⟩
theorem lw_p15 : lw_okq (⟨"DutyRulesModel", "say", "(I)V"⟩, 40) := ⟨⟨by decide +kernel, by decide +kernel⟩, List.mem_of_getElem? (i := 803) (by decide +kernel), List.mem_of_getElem? (i := 980) (by decide +kernel), List.mem_of_getElem? (i := 981) (by decide +kernel)⟩
def lw_privs_1 : List (MethodName × Nat) := [(⟨"DutyRules$Facts", "newestOf", "(II)LDutyRules$Fact;"⟩, 3), (⟨"DutyRules$Duty", "reasonToBeOpen", "(LDutyRules$Rules;)I"⟩, 9), (⟨"DutyRules$Duty", "doSteps", "(LDutyRules$Rules;)V"⟩, 9), (⟨"DutyRules$Duty", "addStep", "(II)V"⟩, 9), (⟨"DutyRules$Duty", "freeLost", "(LDutyRules$Rules;J)V"⟩, 9), (⟨"DutyRules$Duty", "lessenByAway", "(LDutyRules$Rules;J)V"⟩, 9), (⟨"DutyRules$Duty", "lessenForSmall", "(LDutyRules$Rules;)V"⟩, 9), (⟨"DutyRules$Duty", "roundToMultiple", "(LDutyRules$Rules;)V"⟩, 9), (⟨"DutyRules", "returnOf", "(I)LDutyRules$Return;"⟩, 10), (⟨"DutyRules", "centsOf", "(III)J"⟩, 10), (⟨"DutyRules", "lateShare", "(I)J"⟩, 10), (⟨"DutyRulesModel", "next", "()V"⟩, 40), (⟨"DutyRulesModel", "rule", "(I)Z"⟩, 40), (⟨"DutyRulesModel", "is", "(I)Z"⟩, 40), (⟨"DutyRulesModel", "number", "(I)I"⟩, 40), (⟨"DutyRulesModel", "say", "(I)V"⟩, 40)]
theorem lw_r1 : ∀ q ∈ lw_privs_1, lw_okq q := List.forall_mem_cons.mpr ⟨lw_p0, List.forall_mem_cons.mpr ⟨lw_p1, List.forall_mem_cons.mpr ⟨lw_p2, List.forall_mem_cons.mpr ⟨lw_p3, List.forall_mem_cons.mpr ⟨lw_p4, List.forall_mem_cons.mpr ⟨lw_p5, List.forall_mem_cons.mpr ⟨lw_p6, List.forall_mem_cons.mpr ⟨lw_p7, List.forall_mem_cons.mpr ⟨lw_p8, List.forall_mem_cons.mpr ⟨lw_p9, List.forall_mem_cons.mpr ⟨lw_p10, List.forall_mem_cons.mpr ⟨lw_p11, List.forall_mem_cons.mpr ⟨lw_p12, List.forall_mem_cons.mpr ⟨lw_p13, List.forall_mem_cons.mpr ⟨lw_p14, List.forall_mem_cons.mpr ⟨lw_p15, fun _ h => absurd h List.not_mem_nil⟩⟩⟩⟩⟩⟩⟩⟩⟩⟩⟩⟩⟩⟩⟩⟩
theorem lw_p16 : lw_okq (⟨"DutyRulesModel", "put", "(I)V"⟩, 40) := ⟨⟨by decide +kernel, by decide +kernel⟩, List.mem_of_getElem? (i := 803) (by decide +kernel), List.mem_of_getElem? (i := 984) (by decide +kernel), List.mem_of_getElem? (i := 985) (by decide +kernel)⟩
theorem lw_p17 : lw_okq (⟨"DutyRulesModel", "digits", "(I)V"⟩, 40) := ⟨⟨by decide +kernel, by decide +kernel⟩, List.mem_of_getElem? (i := 803) (by decide +kernel), List.mem_of_getElem? (i := 988) (by decide +kernel), List.mem_of_getElem? (i := 989) (by decide +kernel)⟩
theorem lw_p18 : lw_okq (⟨"DutyRulesModel", "reckon", "(IJJ)Z"⟩, 40) := ⟨⟨by decide +kernel, by decide +kernel⟩, List.mem_of_getElem? (i := 803) (by decide +kernel), List.mem_of_getElem? (i := 1019) (by decide +kernel), List.mem_of_getElem? (i := 1020) (by decide +kernel)⟩
theorem lw_p19 : lw_okq (⟨"DutyRulesModel", "editionOf", "(J)I"⟩, 40) := ⟨⟨by decide +kernel, by decide +kernel⟩, List.mem_of_getElem? (i := 803) (by decide +kernel), List.mem_of_getElem? (i := 1023) (by decide +kernel), List.mem_of_getElem? (i := 1024) (by decide +kernel)⟩
theorem lw_p20 : lw_okq (⟨"DutyRulesModel", "holds", "(IIJJ)I"⟩, 40) := ⟨⟨by decide +kernel, by decide +kernel⟩, List.mem_of_getElem? (i := 803) (by decide +kernel), List.mem_of_getElem? (i := 1027) (by decide +kernel), List.mem_of_getElem? (i := 1028) (by decide +kernel)⟩
theorem lw_p21 : lw_okq (⟨"DutyRulesModel", "find", "(IIJJ)I"⟩, 40) := ⟨⟨by decide +kernel, by decide +kernel⟩, List.mem_of_getElem? (i := 803) (by decide +kernel), List.mem_of_getElem? (i := 1031) (by decide +kernel), List.mem_of_getElem? (i := 1032) (by decide +kernel)⟩
theorem lw_p22 : lw_okq (⟨"DutyRulesModel", "value", "(III)I"⟩, 40) := ⟨⟨by decide +kernel, by decide +kernel⟩, List.mem_of_getElem? (i := 803) (by decide +kernel), List.mem_of_getElem? (i := 1035) (by decide +kernel), List.mem_of_getElem? (i := 1036) (by decide +kernel)⟩
theorem lw_p23 : lw_okq (⟨"DutyRulesModel", "step", "(II)V"⟩, 40) := ⟨⟨by decide +kernel, by decide +kernel⟩, List.mem_of_getElem? (i := 803) (by decide +kernel), List.mem_of_getElem? (i := 1039) (by decide +kernel), List.mem_of_getElem? (i := 1040) (by decide +kernel)⟩
theorem lw_p24 : lw_okq (⟨"DutyRulesModel", "hasLitres", "(II)Z"⟩, 40) := ⟨⟨by decide +kernel, by decide +kernel⟩, List.mem_of_getElem? (i := 803) (by decide +kernel), List.mem_of_getElem? (i := 1080) (by decide +kernel), List.mem_of_getElem? (i := 1081) (by decide +kernel)⟩
def lw_privs_2 : List (MethodName × Nat) := [(⟨"DutyRulesModel", "put", "(I)V"⟩, 40), (⟨"DutyRulesModel", "digits", "(I)V"⟩, 40), (⟨"DutyRulesModel", "reckon", "(IJJ)Z"⟩, 40), (⟨"DutyRulesModel", "editionOf", "(J)I"⟩, 40), (⟨"DutyRulesModel", "holds", "(IIJJ)I"⟩, 40), (⟨"DutyRulesModel", "find", "(IIJJ)I"⟩, 40), (⟨"DutyRulesModel", "value", "(III)I"⟩, 40), (⟨"DutyRulesModel", "step", "(II)V"⟩, 40), (⟨"DutyRulesModel", "hasLitres", "(II)Z"⟩, 40)]
theorem lw_r2 : ∀ q ∈ lw_privs_2, lw_okq q := List.forall_mem_cons.mpr ⟨lw_p16, List.forall_mem_cons.mpr ⟨lw_p17, List.forall_mem_cons.mpr ⟨lw_p18, List.forall_mem_cons.mpr ⟨lw_p19, List.forall_mem_cons.mpr ⟨lw_p20, List.forall_mem_cons.mpr ⟨lw_p21, List.forall_mem_cons.mpr ⟨lw_p22, List.forall_mem_cons.mpr ⟨lw_p23, List.forall_mem_cons.mpr ⟨lw_p24, fun _ h => absurd h List.not_mem_nil⟩⟩⟩⟩⟩⟩⟩⟩⟩
def lw_privs : List (MethodName × Nat) := lw_privs_1 ++ (lw_privs_2)
def lw_tbl : List Cond := k2_sels lw_privs ++ tables_1
theorem lw_privs_ok : ∀ q ∈ lw_privs, lw_okq q := by
  show ∀ q ∈ lw_privs_1 ++ (lw_privs_2), lw_okq q
  exact List.forall_mem_append.mpr ⟨lw_r1, lw_r2⟩
-- ===== the tables' words that stay =====
def g_X : List Cond := [.selects "java/lang/StringBuilder" ⟨"java/lang/AbstractStringBuilder", "ensureCapacityInternal", "(I)V"⟩ ⟨"java/lang/AbstractStringBuilder", "ensureCapacityInternal", "(I)V"⟩, .selects "java/lang/StringBuilder" ⟨"java/lang/AbstractStringBuilder", "newCapacity", "(I)I"⟩ ⟨"java/lang/AbstractStringBuilder", "newCapacity", "(I)I"⟩]
def g_T : List Cond := (g_X ++ lw_tbl).filter goodWord
theorem g_T_good : ∀ w ∈ g_T, (w.onTables && w.keeps) = true ∨ ∃ ty, w = .arrayClass ty := fun w h => good_of_word (List.mem_filter.mp h).2
theorem gT_in (i : Nat) {w : Cond} (h : lw_tbl[i]? = some w) (hg : goodWord w = true) : w ∈ g_T := List.mem_filter.mpr ⟨List.mem_append_right _ (List.mem_of_getElem? h), hg⟩
theorem gT_1 (i : Nat) {w : Cond} (h : tables_1_1[i]? = some w) (hg : goodWord w = true) : w ∈ g_T := List.mem_filter.mpr ⟨List.mem_append_right _ (List.mem_append_right _ (List.mem_append_left _ (List.mem_of_getElem? h))), hg⟩
theorem gT_2 (i : Nat) {w : Cond} (h : tables_1_2[i]? = some w) (hg : goodWord w = true) : w ∈ g_T := List.mem_filter.mpr ⟨List.mem_append_right _ (List.mem_append_right _ (List.mem_append_right _ (List.mem_append_left _ (List.mem_of_getElem? h)))), hg⟩
theorem gT_3 (i : Nat) {w : Cond} (h : tables_1_3[i]? = some w) (hg : goodWord w = true) : w ∈ g_T := List.mem_filter.mpr ⟨List.mem_append_right _ (List.mem_append_right _ (List.mem_append_right _ (List.mem_append_right _ (List.mem_append_left _ (List.mem_of_getElem? h))))), hg⟩
theorem gT_4 (i : Nat) {w : Cond} (h : tables_1_4[i]? = some w) (hg : goodWord w = true) : w ∈ g_T := List.mem_filter.mpr ⟨List.mem_append_right _ (List.mem_append_right _ (List.mem_append_right _ (List.mem_append_right _ (List.mem_append_right _ (List.mem_append_left _ (List.mem_of_getElem? h)))))), hg⟩
theorem gT_5 (i : Nat) {w : Cond} (h : tables_1_5[i]? = some w) (hg : goodWord w = true) : w ∈ g_T := List.mem_filter.mpr ⟨List.mem_append_right _ (List.mem_append_right _ (List.mem_append_right _ (List.mem_append_right _ (List.mem_append_right _ (List.mem_append_right _ (List.mem_of_getElem? h)))))), hg⟩
-- ===== names =====
abbrev b_DR_init : ByteArray := prog_1_method_1_code
abbrev y_DR_init : MethodName := ⟨"DutyRules", "<init>", "()V"⟩
abbrev b_OB_init : ByteArray := object_method_1_code
abbrev y_OB_init : MethodName := ⟨"java/lang/Object", "<init>", "()V"⟩
abbrev b_SB_init : ByteArray := prog_17_method_1_code
abbrev y_SB_init : MethodName := ⟨"java/lang/StringBuilder", "<init>", "()V"⟩
abbrev b_AB_init : ByteArray := prog_12_method_2_code
abbrev y_AB_init : MethodName := ⟨"java/lang/AbstractStringBuilder", "<init>", "(I)V"⟩
abbrev b_U6_newBytesFor : ByteArray := prog_19_method_2_code
abbrev y_U6_newBytesFor : MethodName := ⟨"java/lang/StringUTF16", "newBytesFor", "(I)[B"⟩
abbrev b_U6_newBytesLength : ByteArray := prog_19_method_3_code
abbrev y_U6_newBytesLength : MethodName := ⟨"java/lang/StringUTF16", "newBytesLength", "(I)I"⟩
abbrev b_ED_init : ByteArray := prog_3_method_1_code
abbrev y_ED_init : MethodName := ⟨"DutyRules$Editions", "<init>", "()V"⟩
abbrev b_FS_init : ByteArray := prog_5_method_1_code
abbrev y_FS_init : MethodName := ⟨"DutyRules$Facts", "<init>", "()V"⟩
abbrev b_DU_init : ByteArray := prog_2_method_1_code
abbrev y_DU_init : MethodName := ⟨"DutyRules$Duty", "<init>", "()V"⟩
abbrev b_RU_init : ByteArray := prog_8_method_1_code
abbrev y_RU_init : MethodName := ⟨"DutyRules$Rules", "<init>", "()V"⟩
abbrev b_DR_unit : ByteArray := prog_1_method_2_code
abbrev y_DR_unit : MethodName := ⟨"DutyRules", "unit", "(I)Z"⟩
abbrev b_SB_length : ByteArray := prog_17_method_93_code
abbrev y_SB_length : MethodName := ⟨"java/lang/StringBuilder", "length", "()I"⟩
abbrev b_AB_length : ByteArray := prog_12_method_6_code
abbrev y_AB_length : MethodName := ⟨"java/lang/AbstractStringBuilder", "length", "()I"⟩
abbrev b_SB_append : ByteArray := prog_17_method_14_code
abbrev y_SB_append : MethodName := ⟨"java/lang/StringBuilder", "append", "(C)Ljava/lang/StringBuilder;"⟩
abbrev b_AB_append : ByteArray := prog_12_method_31_code
abbrev y_AB_append : MethodName := ⟨"java/lang/AbstractStringBuilder", "append", "(C)Ljava/lang/AbstractStringBuilder;"⟩
abbrev b_AB_ensureCapacityInternal : ByteArray := prog_12_method_9_code
abbrev y_AB_ensureCapacityInternal : MethodName := ⟨"java/lang/AbstractStringBuilder", "ensureCapacityInternal", "(I)V"⟩
abbrev b_AB_newCapacity : ByteArray := prog_12_method_10_code
abbrev y_AB_newCapacity : MethodName := ⟨"java/lang/AbstractStringBuilder", "newCapacity", "(I)I"⟩
abbrev b_AS_newLength : ByteArray := prog_22_method_27_code
abbrev y_AS_newLength : MethodName := ⟨"jdk/internal/util/ArraysSupport", "newLength", "(III)I"⟩
abbrev b_MA_max : ByteArray := prog_15_method_65_code
abbrev y_MA_max : MethodName := ⟨"java/lang/Math", "max", "(II)I"⟩
abbrev b_AS_hugeLength : ByteArray := prog_22_method_28_code
abbrev y_AS_hugeLength : MethodName := ⟨"jdk/internal/util/ArraysSupport", "hugeLength", "(II)I"⟩
abbrev b_AR_copyOf : ByteArray := prog_21_method_121_code
abbrev y_AR_copyOf : MethodName := ⟨"java/util/Arrays", "copyOf", "([BI)[B"⟩
abbrev b_MA_min : ByteArray := prog_15_method_69_code
abbrev y_MA_min : MethodName := ⟨"java/lang/Math", "min", "(II)I"⟩
abbrev b_AB_isLatin1 : ByteArray := prog_12_method_68_code
abbrev y_AB_isLatin1 : MethodName := ⟨"java/lang/AbstractStringBuilder", "isLatin1", "()Z"⟩
abbrev b_L1_canEncode : ByteArray := prog_18_method_3_code
abbrev y_L1_canEncode : MethodName := ⟨"java/lang/StringLatin1", "canEncode", "(C)Z"⟩
abbrev b_AB_inflate : ByteArray := prog_12_method_11_code
abbrev y_AB_inflate : MethodName := ⟨"java/lang/AbstractStringBuilder", "inflate", "()V"⟩
abbrev b_L1_inflate : ByteArray := prog_18_method_50_code
abbrev y_L1_inflate : MethodName := ⟨"java/lang/StringLatin1", "inflate", "([BI[BII)V"⟩
abbrev b_U6_inflate : ByteArray := prog_19_method_86_code
abbrev y_U6_inflate : MethodName := ⟨"java/lang/StringUTF16", "inflate", "([BI[BII)V"⟩
abbrev b_U6_checkBoundsOffCount : ByteArray := prog_19_method_94_code
abbrev y_U6_checkBoundsOffCount : MethodName := ⟨"java/lang/StringUTF16", "checkBoundsOffCount", "(II[B)V"⟩
abbrev b_U6_length : ByteArray := prog_19_method_6_code
abbrev y_U6_length : MethodName := ⟨"java/lang/StringUTF16", "length", "([B)I"⟩
abbrev b_ST_checkBoundsOffCount : ByteArray := prog_16_method_157_code
abbrev y_ST_checkBoundsOffCount : MethodName := ⟨"java/lang/String", "checkBoundsOffCount", "(III)I"⟩
abbrev b_PR_checkFromIndexSize : ByteArray := prog_23_method_13_code
abbrev y_PR_checkFromIndexSize : MethodName := ⟨"jdk/internal/util/Preconditions", "checkFromIndexSize", "(IIILjava/util/function/BiFunction;)I"⟩
abbrev b_U6_putChar : ByteArray := prog_19_method_4_code
abbrev y_U6_putChar : MethodName := ⟨"java/lang/StringUTF16", "putChar", "([BII)V"⟩
abbrev b_U6_putCharSB : ByteArray := prog_19_method_71_code
abbrev y_U6_putCharSB : MethodName := ⟨"java/lang/StringUTF16", "putCharSB", "([BII)V"⟩
abbrev b_U6_checkIndex : ByteArray := prog_19_method_91_code
abbrev y_U6_checkIndex : MethodName := ⟨"java/lang/StringUTF16", "checkIndex", "(I[B)V"⟩
abbrev b_ST_checkIndex : ByteArray := prog_16_method_155_code
abbrev y_ST_checkIndex : MethodName := ⟨"java/lang/String", "checkIndex", "(II)V"⟩
abbrev b_PR_checkIndex : ByteArray := prog_23_method_11_code
abbrev y_PR_checkIndex : MethodName := ⟨"jdk/internal/util/Preconditions", "checkIndex", "(IILjava/util/function/BiFunction;)I"⟩
abbrev b_DR_read : ByteArray := prog_1_method_3_code
abbrev y_DR_read : MethodName := ⟨"DutyRules", "read", "()I"⟩
abbrev b_SB_toString : ByteArray := prog_17_method_42_code
abbrev y_SB_toString : MethodName := ⟨"java/lang/StringBuilder", "toString", "()Ljava/lang/String;"⟩
abbrev b_ST_init : ByteArray := prog_16_method_53_code
abbrev y_ST_init : MethodName := ⟨"java/lang/String", "<init>", "(Ljava/lang/StringBuilder;)V"⟩
abbrev b_ST_init2 : ByteArray := prog_16_method_150_code
abbrev y_ST_init2 : MethodName := ⟨"java/lang/String", "<init>", "(Ljava/lang/AbstractStringBuilder;Ljava/lang/Void;)V"⟩
abbrev b_AB_getValue : ByteArray := prog_12_method_64_code
abbrev y_AB_getValue : MethodName := ⟨"java/lang/AbstractStringBuilder", "getValue", "()[B"⟩
abbrev b_AR_copyOfRange : ByteArray := prog_21_method_132_code
abbrev y_AR_copyOfRange : MethodName := ⟨"java/util/Arrays", "copyOfRange", "([BII)[B"⟩
abbrev b_AR_copyOfRangeByte : ByteArray := prog_21_method_133_code
abbrev y_AR_copyOfRangeByte : MethodName := ⟨"java/util/Arrays", "copyOfRangeByte", "([BII)[B"⟩
abbrev b_AR_checkLength : ByteArray := prog_21_method_131_code
abbrev y_AR_checkLength : MethodName := ⟨"java/util/Arrays", "checkLength", "(II)V"⟩
abbrev b_U6_compress : ByteArray := prog_19_method_17_code
abbrev y_U6_compress : MethodName := ⟨"java/lang/StringUTF16", "compress", "([BII)[B"⟩
abbrev b_U6_compress2 : ByteArray := prog_19_method_22_code
abbrev y_U6_compress2 : MethodName := ⟨"java/lang/StringUTF16", "compress", "([BI[BII)I"⟩
abbrev b_U6_getChar : ByteArray := prog_19_method_5_code
abbrev y_U6_getChar : MethodName := ⟨"java/lang/StringUTF16", "getChar", "([BI)C"⟩
abbrev b_U6_coderFromArrayLen : ByteArray := prog_19_method_15_code
abbrev y_U6_coderFromArrayLen : MethodName := ⟨"java/lang/StringUTF16", "coderFromArrayLen", "([BI)B"⟩
abbrev b_WO_init : ByteArray := prog_9_method_1_code
abbrev y_WO_init : MethodName := ⟨"DutyRules$Words", "<init>", "(Ljava/lang/String;)V"⟩
abbrev b_WO_advance : ByteArray := prog_9_method_2_code
abbrev y_WO_advance : MethodName := ⟨"DutyRules$Words", "advance", "()V"⟩
abbrev b_ST_length : ByteArray := prog_16_method_54_code
abbrev y_ST_length : MethodName := ⟨"java/lang/String", "length", "()I"⟩
abbrev b_ST_coder : ByteArray := prog_16_method_152_code
abbrev y_ST_coder : MethodName := ⟨"java/lang/String", "coder", "()B"⟩
abbrev b_ST_charAt : ByteArray := prog_16_method_56_code
abbrev y_ST_charAt : MethodName := ⟨"java/lang/String", "charAt", "(I)C"⟩
abbrev b_ST_isLatin1 : ByteArray := prog_16_method_154_code
abbrev y_ST_isLatin1 : MethodName := ⟨"java/lang/String", "isLatin1", "()Z"⟩
abbrev b_L1_charAt : ByteArray := prog_18_method_2_code
abbrev y_L1_charAt : MethodName := ⟨"java/lang/StringLatin1", "charAt", "([BI)C"⟩
abbrev b_U6_charAt : ByteArray := prog_19_method_83_code
abbrev y_U6_charAt : MethodName := ⟨"java/lang/StringUTF16", "charAt", "([BI)C"⟩
abbrev b_WO_isBlank : ByteArray := prog_9_method_7_code
abbrev y_WO_isBlank : MethodName := ⟨"DutyRules$Words", "isBlank", "(C)Z"⟩
abbrev b_SB_setLength : ByteArray := prog_17_method_89_code
abbrev y_SB_setLength : MethodName := ⟨"java/lang/StringBuilder", "setLength", "(I)V"⟩
abbrev b_AB_setLength : ByteArray := prog_12_method_13_code
abbrev y_AB_setLength : MethodName := ⟨"java/lang/AbstractStringBuilder", "setLength", "(I)V"⟩
abbrev b_L1_fillNull : ByteArray := prog_18_method_48_code
abbrev y_L1_fillNull : MethodName := ⟨"java/lang/StringLatin1", "fillNull", "([BII)V"⟩
abbrev b_AR_fill : ByteArray := prog_21_method_110_code
abbrev y_AR_fill : MethodName := ⟨"java/util/Arrays", "fill", "([BIIB)V"⟩
abbrev b_AR_rangeCheck : ByteArray := prog_21_method_30_code
abbrev y_AR_rangeCheck : MethodName := ⟨"java/util/Arrays", "rangeCheck", "(III)V"⟩
abbrev b_U6_fillNull : ByteArray := prog_19_method_70_code
abbrev y_U6_fillNull : MethodName := ⟨"java/lang/StringUTF16", "fillNull", "([BII)V"⟩
abbrev b_GR_fill : ByteArray := prog_6_method_2_code
abbrev y_GR_fill : MethodName := ⟨"DutyRules$Grammar", "fill", "(LDutyRules$Rules;LDutyRules$Words;)Z"⟩
abbrev b_WO_isEnd : ByteArray := prog_9_method_3_code
abbrev y_WO_isEnd : MethodName := ⟨"DutyRules$Words", "isEnd", "()Z"⟩
abbrev b_GR_addRule : ByteArray := prog_6_method_3_code
abbrev y_GR_addRule : MethodName := ⟨"DutyRules$Grammar", "addRule", "(LDutyRules$Rules;LDutyRules$Words;)Z"⟩
abbrev b_GR_kindBegunBy : ByteArray := prog_6_method_4_code
abbrev y_GR_kindBegunBy : MethodName := ⟨"DutyRules$Grammar", "kindBegunBy", "(LDutyRules$Words;)I"⟩
abbrev b_GR_formOf : ByteArray := prog_6_method_6_code
abbrev y_GR_formOf : MethodName := ⟨"DutyRules$Grammar", "formOf", "(I)Ljava/lang/String;"⟩
abbrev b_WO_isSameWordAs : ByteArray := prog_9_method_4_code
abbrev y_WO_isSameWordAs : MethodName := ⟨"DutyRules$Words", "isSameWordAs", "(LDutyRules$Words;)Z"⟩
abbrev b_RU_mayBegin : ByteArray := prog_8_method_2_code
abbrev y_RU_mayBegin : MethodName := ⟨"DutyRules$Rules", "mayBegin", "(I)Z"⟩
abbrev b_RU_firstOfKind : ByteArray := prog_8_method_7_code
abbrev y_RU_firstOfKind : MethodName := ⟨"DutyRules$Rules", "firstOfKind", "(I)I"⟩
abbrev b_RU_begin : ByteArray := prog_8_method_3_code
abbrev y_RU_begin : MethodName := ⟨"DutyRules$Rules", "begin", "(I)V"⟩
abbrev b_WO_firstByte : ByteArray := prog_9_method_5_code
abbrev y_WO_firstByte : MethodName := ⟨"DutyRules$Words", "firstByte", "()C"⟩
abbrev b_GR_isSlot : ByteArray := prog_6_method_7_code
abbrev y_GR_isSlot : MethodName := ⟨"DutyRules$Grammar", "isSlot", "(C)Z"⟩
abbrev b_WO_asNumber : ByteArray := prog_9_method_6_code
abbrev y_WO_asNumber : MethodName := ⟨"DutyRules$Words", "asNumber", "()I"⟩
abbrev b_GR_isInRange : ByteArray := prog_6_method_8_code
abbrev y_GR_isInRange : MethodName := ⟨"DutyRules$Grammar", "isInRange", "(IC)Z"⟩
abbrev b_RU_put : ByteArray := prog_8_method_4_code
abbrev y_RU_put : MethodName := ⟨"DutyRules$Rules", "put", "(II)Z"⟩
abbrev b_RU_number : ByteArray := prog_8_method_6_code
abbrev y_RU_number : MethodName := ⟨"DutyRules$Rules", "number", "(II)I"⟩
abbrev b_GR_asText : ByteArray := prog_6_method_5_code
abbrev y_GR_asText : MethodName := ⟨"DutyRules$Grammar", "asText", "(LDutyRules$Rules;)Ljava/lang/String;"⟩
abbrev b_RU_kind : ByteArray := prog_8_method_5_code
abbrev y_RU_kind : MethodName := ⟨"DutyRules$Rules", "kind", "(I)I"⟩
abbrev b_SB_append2 : ByteArray := prog_17_method_15_code
abbrev y_SB_append2 : MethodName := ⟨"java/lang/StringBuilder", "append", "(I)Ljava/lang/StringBuilder;"⟩
abbrev b_AB_append2 : ByteArray := prog_12_method_32_code
abbrev y_AB_append2 : MethodName := ⟨"java/lang/AbstractStringBuilder", "append", "(I)Ljava/lang/AbstractStringBuilder;"⟩
abbrev b_IN_stringSize : ByteArray := prog_14_method_13_code
abbrev y_IN_stringSize : MethodName := ⟨"java/lang/Integer", "stringSize", "(I)I"⟩
abbrev b_IN_getChars : ByteArray := prog_14_method_12_code
abbrev y_IN_getChars : MethodName := ⟨"java/lang/Integer", "getChars", "(II[B)I"⟩
abbrev b_U6_getChars : ByteArray := prog_19_method_77_code
abbrev y_U6_getChars : MethodName := ⟨"java/lang/StringUTF16", "getChars", "(III[B)I"⟩
abbrev b_U6_checkBoundsBeginEnd : ByteArray := prog_19_method_93_code
abbrev y_U6_checkBoundsBeginEnd : MethodName := ⟨"java/lang/StringUTF16", "checkBoundsBeginEnd", "(II[B)V"⟩
abbrev b_ST_checkBoundsBeginEnd : ByteArray := prog_16_method_158_code
abbrev y_ST_checkBoundsBeginEnd : MethodName := ⟨"java/lang/String", "checkBoundsBeginEnd", "(III)V"⟩
abbrev b_PR_checkFromToIndex : ByteArray := prog_23_method_12_code
abbrev y_PR_checkFromToIndex : MethodName := ⟨"jdk/internal/util/Preconditions", "checkFromToIndex", "(IIILjava/util/function/BiFunction;)I"⟩
abbrev b_U6_getChars2 : ByteArray := prog_19_method_89_code
abbrev y_U6_getChars2 : MethodName := ⟨"java/lang/StringUTF16", "getChars", "(II[B)I"⟩
abbrev b_DR_edition : ByteArray := prog_1_method_4_code
abbrev y_DR_edition : MethodName := ⟨"DutyRules", "edition", "(J)I"⟩
abbrev b_DR_isDay : ByteArray := prog_1_method_18_code
abbrev y_DR_isDay : MethodName := ⟨"DutyRules", "isDay", "(J)Z"⟩
abbrev b_ED_add : ByteArray := prog_3_method_2_code
abbrev y_ED_add : MethodName := ⟨"DutyRules$Editions", "add", "(LDutyRules$Rules;I)I"⟩
abbrev b_DR_fact : ByteArray := prog_1_method_5_code
abbrev y_DR_fact : MethodName := ⟨"DutyRules", "fact", "(IIJJJ)Z"⟩
abbrev b_DR_isLot : ByteArray := prog_1_method_16_code
abbrev y_DR_isLot : MethodName := ⟨"DutyRules", "isLot", "(I)Z"⟩
abbrev b_DR_isFactKind : ByteArray := prog_1_method_17_code
abbrev y_DR_isFactKind : MethodName := ⟨"DutyRules", "isFactKind", "(I)Z"⟩
abbrev b_DR_greatestValue : ByteArray := prog_1_method_22_code
abbrev y_DR_greatestValue : MethodName := ⟨"DutyRules", "greatestValue", "(I)I"⟩
abbrev b_FS_add : ByteArray := prog_5_method_2_code
abbrev y_FS_add : MethodName := ⟨"DutyRules$Facts", "add", "(IIII)Z"⟩
abbrev b_FS_placeOf : ByteArray := prog_5_method_7_code
abbrev y_FS_placeOf : MethodName := ⟨"DutyRules$Facts", "placeOf", "(II)I"⟩
abbrev b_FA_init : ByteArray := prog_4_method_1_code
abbrev y_FA_init : MethodName := ⟨"DutyRules$Fact", "<init>", "(IILDutyRules$Fact;)V"⟩
abbrev b_DR_told : ByteArray := prog_1_method_6_code
abbrev y_DR_told : MethodName := ⟨"DutyRules", "told", "(IIJ)Z"⟩
abbrev b_FS_learnNewest : ByteArray := prog_5_method_3_code
abbrev y_FS_learnNewest : MethodName := ⟨"DutyRules$Facts", "learnNewest", "(III)Z"⟩
abbrev b_FS_newestOf : ByteArray := prog_5_method_6_code
abbrev y_FS_newestOf : MethodName := ⟨"DutyRules$Facts", "newestOf", "(II)LDutyRules$Fact;"⟩
abbrev b_DR_duty : ByteArray := prog_1_method_7_code
abbrev y_DR_duty : MethodName := ⟨"DutyRules", "duty", "(IJJI)J"⟩
abbrev b_DR_isPart : ByteArray := prog_1_method_20_code
abbrev y_DR_isPart : MethodName := ⟨"DutyRules", "isPart", "(I)Z"⟩
abbrev b_DU_reckon : ByteArray := prog_2_method_2_code
abbrev y_DU_reckon : MethodName := ⟨"DutyRules$Duty", "reckon", "(LDutyRules$Editions;LDutyRules$Facts;III)V"⟩
abbrev b_ED_heldOn : ByteArray := prog_3_method_3_code
abbrev y_ED_heldOn : MethodName := ⟨"DutyRules$Editions", "heldOn", "(I)LDutyRules$Rules;"⟩
abbrev b_FS_heldValue : ByteArray := prog_5_method_4_code
abbrev y_FS_heldValue : MethodName := ⟨"DutyRules$Facts", "heldValue", "(IIII)I"⟩
abbrev b_DU_reasonToBeOpen : ByteArray := prog_2_method_3_code
abbrev y_DU_reasonToBeOpen : MethodName := ⟨"DutyRules$Duty", "reasonToBeOpen", "(LDutyRules$Rules;)I"⟩
abbrev b_RU_firstRate : ByteArray := prog_8_method_9_code
abbrev y_RU_firstRate : MethodName := ⟨"DutyRules$Rules", "firstRate", "(II)I"⟩
abbrev b_RU_firstOfGoods : ByteArray := prog_8_method_8_code
abbrev y_RU_firstOfGoods : MethodName := ⟨"DutyRules$Rules", "firstOfGoods", "(II)I"⟩
abbrev b_DU_doSteps : ByteArray := prog_2_method_4_code
abbrev y_DU_doSteps : MethodName := ⟨"DutyRules$Duty", "doSteps", "(LDutyRules$Rules;)V"⟩
abbrev b_DU_addStep : ByteArray := prog_2_method_9_code
abbrev y_DU_addStep : MethodName := ⟨"DutyRules$Duty", "addStep", "(II)V"⟩
abbrev b_DU_freeLost : ByteArray := prog_2_method_5_code
abbrev y_DU_freeLost : MethodName := ⟨"DutyRules$Duty", "freeLost", "(LDutyRules$Rules;J)V"⟩
abbrev b_MA_min2 : ByteArray := prog_15_method_70_code
abbrev y_MA_min2 : MethodName := ⟨"java/lang/Math", "min", "(JJ)J"⟩
abbrev b_DU_lessenByAway : ByteArray := prog_2_method_6_code
abbrev y_DU_lessenByAway : MethodName := ⟨"DutyRules$Duty", "lessenByAway", "(LDutyRules$Rules;J)V"⟩
abbrev b_DU_lessenForSmall : ByteArray := prog_2_method_7_code
abbrev y_DU_lessenForSmall : MethodName := ⟨"DutyRules$Duty", "lessenForSmall", "(LDutyRules$Rules;)V"⟩
abbrev b_DU_roundToMultiple : ByteArray := prog_2_method_8_code
abbrev y_DU_roundToMultiple : MethodName := ⟨"DutyRules$Duty", "roundToMultiple", "(LDutyRules$Rules;)V"⟩
abbrev b_DR_reduced : ByteArray := prog_1_method_23_code
abbrev y_DR_reduced : MethodName := ⟨"DutyRules", "reduced", "(JJI)J"⟩
abbrev b_DR_commonDivisor : ByteArray := prog_1_method_24_code
abbrev y_DR_commonDivisor : MethodName := ⟨"DutyRules", "commonDivisor", "(JJ)J"⟩
abbrev b_DR_open : ByteArray := prog_1_method_8_code
abbrev y_DR_open : MethodName := ⟨"DutyRules", "open", "(I)I"⟩
abbrev b_DR_step : ByteArray := prog_1_method_9_code
abbrev y_DR_step : MethodName := ⟨"DutyRules", "step", "(III)I"⟩
abbrev b_DR_allowed : ByteArray := prog_1_method_10_code
abbrev y_DR_allowed : MethodName := ⟨"DutyRules", "allowed", "(II)J"⟩
abbrev b_DR_isMonth : ByteArray := prog_1_method_19_code
abbrev y_DR_isMonth : MethodName := ⟨"DutyRules", "isMonth", "(I)Z"⟩
abbrev b_DR_lastDayOf : ByteArray := prog_1_method_21_code
abbrev y_DR_lastDayOf : MethodName := ⟨"DutyRules", "lastDayOf", "(I)I"⟩
abbrev b_DR_returned : ByteArray := prog_1_method_11_code
abbrev y_DR_returned : MethodName := ⟨"DutyRules", "returned", "(I)I"⟩
abbrev b_DR_returnOf : ByteArray := prog_1_method_26_code
abbrev y_DR_returnOf : MethodName := ⟨"DutyRules", "returnOf", "(I)LDutyRules$Return;"⟩
abbrev b_RE_init : ByteArray := prog_7_method_1_code
abbrev y_RE_init : MethodName := ⟨"DutyRules$Return", "<init>", "(ILDutyRules$Return;)V"⟩
abbrev b_FS_hasLitres : ByteArray := prog_5_method_5_code
abbrev y_FS_hasLitres : MethodName := ⟨"DutyRules$Facts", "hasLitres", "(III)Z"⟩
abbrev b_DR_centsOf : ByteArray := prog_1_method_25_code
abbrev y_DR_centsOf : MethodName := ⟨"DutyRules", "centsOf", "(III)J"⟩
abbrev b_RE_put : ByteArray := prog_7_method_2_code
abbrev y_RE_put : MethodName := ⟨"DutyRules$Return", "put", "(IJ)V"⟩
abbrev b_RE_isSettled : ByteArray := prog_7_method_3_code
abbrev y_RE_isSettled : MethodName := ⟨"DutyRules$Return", "isSettled", "(I)Z"⟩
abbrev b_RE_count : ByteArray := prog_7_method_4_code
abbrev y_RE_count : MethodName := ⟨"DutyRules$Return", "count", "()I"⟩
abbrev b_DR_row : ByteArray := prog_1_method_12_code
abbrev y_DR_row : MethodName := ⟨"DutyRules", "row", "(II)J"⟩
abbrev b_RE_lotOfRow : ByteArray := prog_7_method_5_code
abbrev y_RE_lotOfRow : MethodName := ⟨"DutyRules$Return", "lotOfRow", "(I)I"⟩
abbrev b_DR_difference : ByteArray := prog_1_method_13_code
abbrev y_DR_difference : MethodName := ⟨"DutyRules", "difference", "(IJ)J"⟩
abbrev b_DR_write : ByteArray := prog_1_method_14_code
abbrev y_DR_write : MethodName := ⟨"DutyRules", "write", "(I)I"⟩
abbrev b_DR_interest : ByteArray := prog_1_method_15_code
abbrev y_DR_interest : MethodName := ⟨"DutyRules", "interest", "(IJI)J"⟩
abbrev b_MA_max2 : ByteArray := prog_15_method_66_code
abbrev y_MA_max2 : MethodName := ⟨"java/lang/Math", "max", "(JJ)J"⟩
abbrev b_RE_settledSum : ByteArray := prog_7_method_6_code
abbrev y_RE_settledSum : MethodName := ⟨"DutyRules$Return", "settledSum", "()J"⟩
abbrev b_DR_lateShare : ByteArray := prog_1_method_27_code
abbrev y_DR_lateShare : MethodName := ⟨"DutyRules", "lateShare", "(I)J"⟩
abbrev b_MO_init : ByteArray := prog_11_method_1_code
abbrev y_MO_init : MethodName := ⟨"DutyRulesModel", "<init>", "()V"⟩
abbrev b_MO_unit : ByteArray := prog_11_method_2_code
abbrev y_MO_unit : MethodName := ⟨"DutyRulesModel", "unit", "(I)Z"⟩
abbrev b_MO_read : ByteArray := prog_11_method_11_code
abbrev y_MO_read : MethodName := ⟨"DutyRulesModel", "read", "()I"⟩
abbrev b_MO_next : ByteArray := prog_11_method_4_code
abbrev y_MO_next : MethodName := ⟨"DutyRulesModel", "next", "()V"⟩
abbrev b_MO_isBlank : ByteArray := prog_11_method_3_code
abbrev y_MO_isBlank : MethodName := ⟨"DutyRulesModel", "isBlank", "(I)Z"⟩
abbrev b_MO_rule : ByteArray := prog_11_method_10_code
abbrev y_MO_rule : MethodName := ⟨"DutyRulesModel", "rule", "(I)Z"⟩
abbrev b_MO_is : ByteArray := prog_11_method_5_code
abbrev y_MO_is : MethodName := ⟨"DutyRulesModel", "is", "(I)Z"⟩
abbrev b_MO_wordSize : ByteArray := prog_11_method_6_code
abbrev y_MO_wordSize : MethodName := ⟨"DutyRulesModel", "wordSize", "(I)I"⟩
abbrev b_MO_wordByte : ByteArray := prog_11_method_7_code
abbrev y_MO_wordByte : MethodName := ⟨"DutyRulesModel", "wordByte", "(II)I"⟩
abbrev b_MO_part : ByteArray := prog_11_method_9_code
abbrev y_MO_part : MethodName := ⟨"DutyRulesModel", "part", "(II)I"⟩
abbrev b_MO_number : ByteArray := prog_11_method_8_code
abbrev y_MO_number : MethodName := ⟨"DutyRulesModel", "number", "(I)I"⟩
abbrev b_MO_edition : ByteArray := prog_11_method_12_code
abbrev y_MO_edition : MethodName := ⟨"DutyRulesModel", "edition", "(J)I"⟩
abbrev b_MO_write : ByteArray := prog_11_method_16_code
abbrev y_MO_write : MethodName := ⟨"DutyRulesModel", "write", "(I)I"⟩
abbrev b_MO_say : ByteArray := prog_11_method_14_code
abbrev y_MO_say : MethodName := ⟨"DutyRulesModel", "say", "(I)V"⟩
abbrev b_MO_put : ByteArray := prog_11_method_13_code
abbrev y_MO_put : MethodName := ⟨"DutyRulesModel", "put", "(I)V"⟩
abbrev b_MO_digits : ByteArray := prog_11_method_15_code
abbrev y_MO_digits : MethodName := ⟨"DutyRulesModel", "digits", "(I)V"⟩
abbrev b_MO_fact : ByteArray := prog_11_method_20_code
abbrev y_MO_fact : MethodName := ⟨"DutyRulesModel", "fact", "(IIJJJ)Z"⟩
abbrev b_MO_isLot : ByteArray := prog_11_method_18_code
abbrev y_MO_isLot : MethodName := ⟨"DutyRulesModel", "isLot", "(I)Z"⟩
abbrev b_MO_isDay : ByteArray := prog_11_method_17_code
abbrev y_MO_isDay : MethodName := ⟨"DutyRulesModel", "isDay", "(J)Z"⟩
abbrev b_MO_most : ByteArray := prog_11_method_19_code
abbrev y_MO_most : MethodName := ⟨"DutyRulesModel", "most", "(I)J"⟩
abbrev b_MO_told : ByteArray := prog_11_method_21_code
abbrev y_MO_told : MethodName := ⟨"DutyRulesModel", "told", "(IIJ)Z"⟩
abbrev b_MO_duty : ByteArray := prog_11_method_31_code
abbrev y_MO_duty : MethodName := ⟨"DutyRulesModel", "duty", "(IJJI)J"⟩
abbrev b_MO_reckon : ByteArray := prog_11_method_28_code
abbrev y_MO_reckon : MethodName := ⟨"DutyRulesModel", "reckon", "(IJJ)Z"⟩
abbrev b_MO_editionOf : ByteArray := prog_11_method_23_code
abbrev y_MO_editionOf : MethodName := ⟨"DutyRulesModel", "editionOf", "(J)I"⟩
abbrev b_MO_holds : ByteArray := prog_11_method_22_code
abbrev y_MO_holds : MethodName := ⟨"DutyRulesModel", "holds", "(IIJJ)I"⟩
abbrev b_MO_find : ByteArray := prog_11_method_24_code
abbrev y_MO_find : MethodName := ⟨"DutyRulesModel", "find", "(IIJJ)I"⟩
abbrev b_MO_value : ByteArray := prog_11_method_25_code
abbrev y_MO_value : MethodName := ⟨"DutyRulesModel", "value", "(III)I"⟩
abbrev b_MO_step : ByteArray := prog_11_method_26_code
abbrev y_MO_step : MethodName := ⟨"DutyRulesModel", "step", "(II)V"⟩
abbrev b_MO_least : ByteArray := prog_11_method_27_code
abbrev y_MO_least : MethodName := ⟨"DutyRulesModel", "least", "(JJ)J"⟩
abbrev b_MO_fraction : ByteArray := prog_11_method_30_code
abbrev y_MO_fraction : MethodName := ⟨"DutyRulesModel", "fraction", "(JJI)J"⟩
abbrev b_MO_divisor : ByteArray := prog_11_method_29_code
abbrev y_MO_divisor : MethodName := ⟨"DutyRulesModel", "divisor", "(JJ)J"⟩
abbrev b_MO_open : ByteArray := prog_11_method_32_code
abbrev y_MO_open : MethodName := ⟨"DutyRulesModel", "open", "(I)I"⟩
abbrev b_MO_step2 : ByteArray := prog_11_method_33_code
abbrev y_MO_step2 : MethodName := ⟨"DutyRulesModel", "step", "(III)I"⟩
abbrev b_MO_allowed : ByteArray := prog_11_method_36_code
abbrev y_MO_allowed : MethodName := ⟨"DutyRulesModel", "allowed", "(II)J"⟩
abbrev b_MO_isMonth : ByteArray := prog_11_method_34_code
abbrev y_MO_isMonth : MethodName := ⟨"DutyRulesModel", "isMonth", "(I)Z"⟩
abbrev b_MO_lastOf : ByteArray := prog_11_method_35_code
abbrev y_MO_lastOf : MethodName := ⟨"DutyRulesModel", "lastOf", "(I)J"⟩
abbrev b_MO_returned : ByteArray := prog_11_method_38_code
abbrev y_MO_returned : MethodName := ⟨"DutyRulesModel", "returned", "(I)I"⟩
abbrev b_MO_hasLitres : ByteArray := prog_11_method_37_code
abbrev y_MO_hasLitres : MethodName := ⟨"DutyRulesModel", "hasLitres", "(II)Z"⟩
abbrev b_MO_row : ByteArray := prog_11_method_39_code
abbrev y_MO_row : MethodName := ⟨"DutyRulesModel", "row", "(II)J"⟩
abbrev b_MO_difference : ByteArray := prog_11_method_40_code
abbrev y_MO_difference : MethodName := ⟨"DutyRulesModel", "difference", "(IJ)J"⟩
abbrev b_MO_interest : ByteArray := prog_11_method_41_code
abbrev y_MO_interest : MethodName := ⟨"DutyRulesModel", "interest", "(IJI)J"⟩
def T_DR : u_T := fun k => match k with
  | 0 => ("DutyRules", "text", "Ljava/lang/StringBuilder;", true)
  | 1 => ("DutyRules", "editions", "LDutyRules$Editions;", true)
  | 2 => ("DutyRules", "facts", "LDutyRules$Facts;", true)
  | 3 => ("DutyRules", "asked", "LDutyRules$Duty;", true)
  | 4 => ("DutyRules", "inner", "LDutyRules$Duty;", true)
  | 5 => ("DutyRules", "lastRead", "LDutyRules$Rules;", false)
  | 6 => ("DutyRules", "written", "Ljava/lang/String;", false)
  | 7 => ("DutyRules", "wasAsked", "Z", false)
  | 8 => ("DutyRules", "newestReturn", "LDutyRules$Return;", false)
  | _ => ("DutyRules", "lastReturn", "LDutyRules$Return;", false)
def t_DR : Nat → FieldType := fun k => match k with
  | 0 => .object "java/lang/StringBuilder"
  | 1 => .object "DutyRules$Editions"
  | 2 => .object "DutyRules$Facts"
  | 3 => .object "DutyRules$Duty"
  | 4 => .object "DutyRules$Duty"
  | 5 => .object "DutyRules$Rules"
  | 6 => .object "java/lang/String"
  | 7 => .boolean
  | 8 => .object "DutyRules$Return"
  | _ => .object "DutyRules$Return"
theorem n_DR : ∀ a, a < 10 → ∀ b, b < 10 → a ≠ b → (T_DR a).2.1 ≠ (T_DR b).2.1 := by decide +kernel
theorem k_DR : ∀ k, k < 10 → parseFieldDescriptor (T_DR k).2.2.1 = some (t_DR k) := by decide +kernel
def T_DU : u_T := fun k => match k with
  | 0 => ("DutyRules$Duty", "lot", "I", false)
  | 1 => ("DutyRules$Duty", "reason", "I", false)
  | 2 => ("DutyRules$Duty", "steps", "I", false)
  | 3 => ("DutyRules$Duty", "amount", "J", false)
  | 4 => ("DutyRules$Duty", "free", "J", false)
  | 5 => ("DutyRules$Duty", "held", "[I", true)
  | 6 => ("DutyRules$Duty", "letters", "[I", true)
  | 7 => ("DutyRules$Duty", "numbers", "[I", true)
  | _ => ("DutyRules$Duty", "centsBehind", "[J", true)
def t_DU : Nat → FieldType := fun k => match k with
  | 0 => .int
  | 1 => .int
  | 2 => .int
  | 3 => .long
  | 4 => .long
  | 5 => .array .int
  | 6 => .array .int
  | 7 => .array .int
  | _ => .array .long
theorem n_DU : ∀ a, a < 9 → ∀ b, b < 9 → a ≠ b → (T_DU a).2.1 ≠ (T_DU b).2.1 := by decide +kernel
theorem k_DU : ∀ k, k < 9 → parseFieldDescriptor (T_DU k).2.2.1 = some (t_DU k) := by decide +kernel
def T_ED : u_T := fun k => match k with
  | 0 => ("DutyRules$Editions", "count", "I", false)
  | 1 => ("DutyRules$Editions", "rules", "[LDutyRules$Rules;", true)
  | _ => ("DutyRules$Editions", "froms", "[I", true)
def t_ED : Nat → FieldType := fun k => match k with
  | 0 => .int
  | 1 => .array (.object "DutyRules$Rules")
  | _ => .array .int
theorem n_ED : ∀ a, a < 3 → ∀ b, b < 3 → a ≠ b → (T_ED a).2.1 ≠ (T_ED b).2.1 := by decide +kernel
theorem k_ED : ∀ k, k < 3 → parseFieldDescriptor (T_ED k).2.2.1 = some (t_ED k) := by decide +kernel
def T_FA : u_T := fun k => match k with
  | 0 => ("DutyRules$Fact", "day", "I", true)
  | 1 => ("DutyRules$Fact", "value", "I", true)
  | 2 => ("DutyRules$Fact", "before", "LDutyRules$Fact;", true)
  | _ => ("DutyRules$Fact", "knownFrom", "I", false)
def t_FA : Nat → FieldType := fun k => match k with
  | 0 => .int
  | 1 => .int
  | 2 => .object "DutyRules$Fact"
  | _ => .int
theorem n_FA : ∀ a, a < 4 → ∀ b, b < 4 → a ≠ b → (T_FA a).2.1 ≠ (T_FA b).2.1 := by decide +kernel
theorem k_FA : ∀ k, k < 4 → parseFieldDescriptor (T_FA k).2.2.1 = some (t_FA k) := by decide +kernel
def T_FS : u_T := fun k => match k with
  | 0 => ("DutyRules$Facts", "count", "I", false)
  | 1 => ("DutyRules$Facts", "lastKnowing", "I", false)
  | _ => ("DutyRules$Facts", "newest", "[LDutyRules$Fact;", true)
def t_FS : Nat → FieldType := fun k => match k with
  | 0 => .int
  | 1 => .int
  | _ => .array (.object "DutyRules$Fact")
theorem n_FS : ∀ a, a < 3 → ∀ b, b < 3 → a ≠ b → (T_FS a).2.1 ≠ (T_FS b).2.1 := by decide +kernel
theorem k_FS : ∀ k, k < 3 → parseFieldDescriptor (T_FS k).2.2.1 = some (t_FS k) := by decide +kernel
def T_RE : u_T := fun k => match k with
  | 0 => ("DutyRules$Return", "month", "I", true)
  | 1 => ("DutyRules$Return", "before", "LDutyRules$Return;", true)
  | 2 => ("DutyRules$Return", "hasRow", "[Z", true)
  | 3 => ("DutyRules$Return", "cents", "[J", true)
  | _ => ("DutyRules$Return", "changes", "[J", true)
def t_RE : Nat → FieldType := fun k => match k with
  | 0 => .int
  | 1 => .object "DutyRules$Return"
  | 2 => .array .boolean
  | 3 => .array .long
  | _ => .array .long
theorem n_RE : ∀ a, a < 5 → ∀ b, b < 5 → a ≠ b → (T_RE a).2.1 ≠ (T_RE b).2.1 := by decide +kernel
theorem k_RE : ∀ k, k < 5 → parseFieldDescriptor (T_RE k).2.2.1 = some (t_RE k) := by decide +kernel
def T_RU : u_T := fun k => match k with
  | 0 => ("DutyRules$Rules", "count", "I", false)
  | 1 => ("DutyRules$Rules", "kinds", "[I", true)
  | _ => ("DutyRules$Rules", "numbers", "[I", true)
def t_RU : Nat → FieldType := fun k => match k with
  | 0 => .int
  | 1 => .array .int
  | _ => .array .int
theorem n_RU : ∀ a, a < 3 → ∀ b, b < 3 → a ≠ b → (T_RU a).2.1 ≠ (T_RU b).2.1 := by decide +kernel
theorem k_RU : ∀ k, k < 3 → parseFieldDescriptor (T_RU k).2.2.1 = some (t_RU k) := by decide +kernel
def T_WO : u_T := fun k => match k with
  | 0 => ("DutyRules$Words", "text", "Ljava/lang/String;", true)
  | 1 => ("DutyRules$Words", "start", "I", false)
  | 2 => ("DutyRules$Words", "end", "I", false)
  | _ => ("DutyRules$Words", "number", "I", false)
def t_WO : Nat → FieldType := fun k => match k with
  | 0 => .object "java/lang/String"
  | 1 => .int
  | 2 => .int
  | _ => .int
theorem n_WO : ∀ a, a < 4 → ∀ b, b < 4 → a ≠ b → (T_WO a).2.1 ≠ (T_WO b).2.1 := by decide +kernel
theorem k_WO : ∀ k, k < 4 → parseFieldDescriptor (T_WO k).2.2.1 = some (t_WO k) := by decide +kernel
def T_MO : u_T := fun k => match k with
  | 0 => ("DutyRulesModel", "text", "[I", true)
  | 1 => ("DutyRulesModel", "length", "I", false)
  | 2 => ("DutyRulesModel", "reading", "[I", true)
  | 3 => ("DutyRulesModel", "rules", "[I", true)
  | 4 => ("DutyRulesModel", "many", "[I", true)
  | 5 => ("DutyRulesModel", "editionFrom", "[J", true)
  | 6 => ("DutyRulesModel", "editions", "I", false)
  | 7 => ("DutyRulesModel", "factLot", "[I", true)
  | 8 => ("DutyRulesModel", "factKind", "[I", true)
  | 9 => ("DutyRulesModel", "factDay", "[J", true)
  | 10 => ("DutyRulesModel", "factKnown", "[J", true)
  | 11 => ("DutyRulesModel", "factValue", "[J", true)
  | 12 => ("DutyRulesModel", "facts", "I", false)
  | 13 => ("DutyRulesModel", "latest", "J", false)
  | 14 => ("DutyRulesModel", "reason", "I", false)
  | 15 => ("DutyRulesModel", "stepLetter", "[I", true)
  | 16 => ("DutyRulesModel", "stepRule", "[I", true)
  | 17 => ("DutyRulesModel", "stepCents", "[J", true)
  | 18 => ("DutyRulesModel", "steps", "I", false)
  | 19 => ("DutyRulesModel", "free", "J", false)
  | 20 => ("DutyRulesModel", "cents", "J", false)
  | 21 => ("DutyRulesModel", "shownLot", "I", false)
  | 22 => ("DutyRulesModel", "shownReason", "I", false)
  | 23 => ("DutyRulesModel", "shownSteps", "I", false)
  | 24 => ("DutyRulesModel", "shownLetter", "[I", true)
  | 25 => ("DutyRulesModel", "shownRule", "[I", true)
  | 26 => ("DutyRulesModel", "shownCents", "[J", true)
  | 27 => ("DutyRulesModel", "there", "[I", true)
  | 28 => ("DutyRulesModel", "due", "[J", true)
  | 29 => ("DutyRulesModel", "wasReturned", "[Z", true)
  | 30 => ("DutyRulesModel", "rows", "I", false)
  | 31 => ("DutyRulesModel", "rowLot", "[I", true)
  | 32 => ("DutyRulesModel", "rowDuty", "[J", true)
  | 33 => ("DutyRulesModel", "rowMore", "[J", true)
  | 34 => ("DutyRulesModel", "begin", "I", false)
  | 35 => ("DutyRulesModel", "end", "I", false)
  | 36 => ("DutyRulesModel", "word", "I", false)
  | 37 => ("DutyRulesModel", "wanted", "I", false)
  | 38 => ("DutyRulesModel", "found", "I", false)
  | _ => ("DutyRulesModel", "written", "I", false)
def t_MO : Nat → FieldType := fun k => match k with
  | 0 => .array .int
  | 1 => .int
  | 2 => .array .int
  | 3 => .array .int
  | 4 => .array .int
  | 5 => .array .long
  | 6 => .int
  | 7 => .array .int
  | 8 => .array .int
  | 9 => .array .long
  | 10 => .array .long
  | 11 => .array .long
  | 12 => .int
  | 13 => .long
  | 14 => .int
  | 15 => .array .int
  | 16 => .array .int
  | 17 => .array .long
  | 18 => .int
  | 19 => .long
  | 20 => .long
  | 21 => .int
  | 22 => .int
  | 23 => .int
  | 24 => .array .int
  | 25 => .array .int
  | 26 => .array .long
  | 27 => .array .int
  | 28 => .array .long
  | 29 => .array .boolean
  | 30 => .int
  | 31 => .array .int
  | 32 => .array .long
  | 33 => .array .long
  | 34 => .int
  | 35 => .int
  | 36 => .int
  | 37 => .int
  | 38 => .int
  | _ => .int
theorem n_MO : ∀ a, a < 40 → ∀ b, b < 40 → a ≠ b → (T_MO a).2.1 ≠ (T_MO b).2.1 := by decide +kernel
theorem k_MO : ∀ k, k < 40 → parseFieldDescriptor (T_MO k).2.2.1 = some (t_MO k) := by decide +kernel
def T_SB : u_T := fun k => match k with
  | 0 => ("java/lang/AbstractStringBuilder", "value", "[B", false)
  | 1 => ("java/lang/AbstractStringBuilder", "coder", "B", false)
  | 2 => ("java/lang/AbstractStringBuilder", "maybeLatin1", "Z", false)
  | _ => ("java/lang/AbstractStringBuilder", "count", "I", false)
def t_SB : Nat → FieldType := fun k => match k with
  | 0 => .array .byte
  | 1 => .byte
  | 2 => .boolean
  | _ => .int
theorem n_SB : ∀ a, a < 4 → ∀ b, b < 4 → a ≠ b → (T_SB a).2.1 ≠ (T_SB b).2.1 := by decide +kernel
theorem k_SB : ∀ k, k < 4 → parseFieldDescriptor (T_SB k).2.2.1 = some (t_SB k) := by decide +kernel
def T_ST : u_T := fun k => match k with
  | 0 => ("java/lang/String", "value", "[B", true)
  | 1 => ("java/lang/String", "coder", "B", true)
  | 2 => ("java/lang/String", "hash", "I", false)
  | _ => ("java/lang/String", "hashIsZero", "Z", false)
def t_ST : Nat → FieldType := fun k => match k with
  | 0 => .array .byte
  | 1 => .byte
  | 2 => .int
  | _ => .boolean
theorem n_ST : ∀ a, a < 4 → ∀ b, b < 4 → a ≠ b → (T_ST a).2.1 ≠ (T_ST b).2.1 := by decide +kernel
theorem k_ST : ∀ k, k < 4 → parseFieldDescriptor (T_ST k).2.2.1 = some (t_ST k) := by decide +kernel
abbrev g_cl : List vw_C := [("DutyRules", T_DR, 10), ("DutyRules$Duty", T_DU, 9), ("DutyRules$Editions", T_ED, 3), ("DutyRules$Fact", T_FA, 4), ("DutyRules$Facts", T_FS, 3), ("DutyRules$Return", T_RE, 5), ("DutyRules$Rules", T_RU, 3), ("DutyRules$Words", T_WO, 4), ("DutyRulesModel", T_MO, 40), ("java/lang/StringBuilder", T_SB, 4), ("java/lang/String", T_ST, 4)]
