theorem d_MO_init_0 : decode b_MO_init 0 = .ok (.aload_n 0, 1) := by decide +kernel
theorem d_MO_init_1 : decode b_MO_init 1 = .ok (.invokespecial 1, 3) := by decide +kernel
theorem d_MO_init_4 : decode b_MO_init 4 = .ok (.aload_n 0, 1) := by decide +kernel
theorem d_MO_init_5 : decode b_MO_init 5 = .ok (.sipush 2000, 3) := by decide +kernel
theorem d_MO_init_8 : decode b_MO_init 8 = .ok (.newarray .int, 2) := by decide +kernel
theorem d_MO_init_10 : decode b_MO_init 10 = .ok (.putfield 9, 3) := by decide +kernel
theorem d_MO_init_13 : decode b_MO_init 13 = .ok (.aload_n 0, 1) := by decide +kernel
theorem d_MO_init_14 : decode b_MO_init 14 = .ok (.sipush 200, 3) := by decide +kernel
theorem d_MO_init_17 : decode b_MO_init 17 = .ok (.newarray .int, 2) := by decide +kernel
theorem d_MO_init_19 : decode b_MO_init 19 = .ok (.putfield 13, 3) := by decide +kernel
theorem d_MO_init_22 : decode b_MO_init 22 = .ok (.aload_n 0, 1) := by decide +kernel
theorem d_MO_init_23 : decode b_MO_init 23 = .ok (.sipush 2200, 3) := by decide +kernel
theorem d_MO_init_26 : decode b_MO_init 26 = .ok (.newarray .int, 2) := by decide +kernel
theorem d_MO_init_28 : decode b_MO_init 28 = .ok (.putfield 16, 3) := by decide +kernel
theorem d_MO_init_31 : decode b_MO_init 31 = .ok (.aload_n 0, 1) := by decide +kernel
theorem d_MO_init_32 : decode b_MO_init 32 = .ok (.bipush 11, 2) := by decide +kernel
theorem d_MO_init_34 : decode b_MO_init 34 = .ok (.newarray .int, 2) := by decide +kernel
theorem d_MO_init_36 : decode b_MO_init 36 = .ok (.putfield 19, 3) := by decide +kernel
theorem d_MO_init_39 : decode b_MO_init 39 = .ok (.aload_n 0, 1) := by decide +kernel
theorem d_MO_init_40 : decode b_MO_init 40 = .ok (.bipush 11, 2) := by decide +kernel
theorem d_MO_init_42 : decode b_MO_init 42 = .ok (.newarray .long, 2) := by decide +kernel
theorem d_MO_init_44 : decode b_MO_init 44 = .ok (.putfield 22, 3) := by decide +kernel
theorem d_MO_init_47 : decode b_MO_init 47 = .ok (.aload_n 0, 1) := by decide +kernel
theorem d_MO_init_48 : decode b_MO_init 48 = .ok (.sipush 300, 3) := by decide +kernel
theorem d_MO_init_51 : decode b_MO_init 51 = .ok (.newarray .int, 2) := by decide +kernel
theorem d_MO_init_53 : decode b_MO_init 53 = .ok (.putfield 26, 3) := by decide +kernel
theorem d_MO_init_56 : decode b_MO_init 56 = .ok (.aload_n 0, 1) := by decide +kernel
theorem d_MO_init_57 : decode b_MO_init 57 = .ok (.sipush 300, 3) := by decide +kernel
theorem d_MO_init_60 : decode b_MO_init 60 = .ok (.newarray .int, 2) := by decide +kernel
theorem d_MO_init_62 : decode b_MO_init 62 = .ok (.putfield 29, 3) := by decide +kernel
theorem d_MO_init_65 : decode b_MO_init 65 = .ok (.aload_n 0, 1) := by decide +kernel
theorem d_MO_init_66 : decode b_MO_init 66 = .ok (.sipush 300, 3) := by decide +kernel
theorem d_MO_init_69 : decode b_MO_init 69 = .ok (.newarray .long, 2) := by decide +kernel
theorem d_MO_init_71 : decode b_MO_init 71 = .ok (.putfield 32, 3) := by decide +kernel
theorem d_MO_init_74 : decode b_MO_init 74 = .ok (.aload_n 0, 1) := by decide +kernel
theorem d_MO_init_75 : decode b_MO_init 75 = .ok (.sipush 300, 3) := by decide +kernel
theorem d_MO_init_78 : decode b_MO_init 78 = .ok (.newarray .long, 2) := by decide +kernel
theorem d_MO_init_80 : decode b_MO_init 80 = .ok (.putfield 35, 3) := by decide +kernel
theorem d_MO_init_83 : decode b_MO_init 83 = .ok (.aload_n 0, 1) := by decide +kernel
theorem d_MO_init_84 : decode b_MO_init 84 = .ok (.sipush 300, 3) := by decide +kernel
theorem d_MO_init_87 : decode b_MO_init 87 = .ok (.newarray .long, 2) := by decide +kernel
theorem d_MO_init_89 : decode b_MO_init 89 = .ok (.putfield 38, 3) := by decide +kernel
theorem d_MO_init_92 : decode b_MO_init 92 = .ok (.aload_n 0, 1) := by decide +kernel
theorem d_MO_init_93 : decode b_MO_init 93 = .ok (.iconst 5, 1) := by decide +kernel
theorem d_MO_init_94 : decode b_MO_init 94 = .ok (.newarray .int, 2) := by decide +kernel
theorem d_MO_init_96 : decode b_MO_init 96 = .ok (.putfield 41, 3) := by decide +kernel
theorem d_MO_init_99 : decode b_MO_init 99 = .ok (.aload_n 0, 1) := by decide +kernel
theorem d_MO_init_100 : decode b_MO_init 100 = .ok (.iconst 5, 1) := by decide +kernel
theorem d_MO_init_101 : decode b_MO_init 101 = .ok (.newarray .int, 2) := by decide +kernel
theorem d_MO_init_103 : decode b_MO_init 103 = .ok (.putfield 44, 3) := by decide +kernel
theorem d_MO_init_106 : decode b_MO_init 106 = .ok (.aload_n 0, 1) := by decide +kernel
theorem d_MO_init_107 : decode b_MO_init 107 = .ok (.iconst 5, 1) := by decide +kernel
theorem d_MO_init_108 : decode b_MO_init 108 = .ok (.newarray .long, 2) := by decide +kernel
theorem d_MO_init_110 : decode b_MO_init 110 = .ok (.putfield 47, 3) := by decide +kernel
theorem d_MO_init_113 : decode b_MO_init 113 = .ok (.aload_n 0, 1) := by decide +kernel
theorem d_MO_init_114 : decode b_MO_init 114 = .ok (.iconst (-1), 1) := by decide +kernel
theorem d_MO_init_115 : decode b_MO_init 115 = .ok (.putfield 50, 3) := by decide +kernel
theorem d_MO_init_118 : decode b_MO_init 118 = .ok (.aload_n 0, 1) := by decide +kernel
theorem d_MO_init_119 : decode b_MO_init 119 = .ok (.iconst 5, 1) := by decide +kernel
theorem d_MO_init_120 : decode b_MO_init 120 = .ok (.newarray .int, 2) := by decide +kernel
theorem d_MO_init_122 : decode b_MO_init 122 = .ok (.putfield 54, 3) := by decide +kernel
theorem d_MO_init_125 : decode b_MO_init 125 = .ok (.aload_n 0, 1) := by decide +kernel
theorem d_MO_init_126 : decode b_MO_init 126 = .ok (.iconst 5, 1) := by decide +kernel
theorem d_MO_init_127 : decode b_MO_init 127 = .ok (.newarray .int, 2) := by decide +kernel
theorem d_MO_init_129 : decode b_MO_init 129 = .ok (.putfield 57, 3) := by decide +kernel
theorem d_MO_init_132 : decode b_MO_init 132 = .ok (.aload_n 0, 1) := by decide +kernel
theorem d_MO_init_133 : decode b_MO_init 133 = .ok (.iconst 5, 1) := by decide +kernel
theorem d_MO_init_134 : decode b_MO_init 134 = .ok (.newarray .long, 2) := by decide +kernel
theorem d_MO_init_136 : decode b_MO_init 136 = .ok (.putfield 60, 3) := by decide +kernel
theorem d_MO_init_139 : decode b_MO_init 139 = .ok (.aload_n 0, 1) := by decide +kernel
theorem d_MO_init_140 : decode b_MO_init 140 = .ok (.ldc 63, 2) := by decide +kernel
theorem d_MO_init_142 : decode b_MO_init 142 = .ok (.newarray .int, 2) := by decide +kernel
theorem d_MO_init_144 : decode b_MO_init 144 = .ok (.putfield 64, 3) := by decide +kernel
theorem d_MO_init_147 : decode b_MO_init 147 = .ok (.aload_n 0, 1) := by decide +kernel
theorem d_MO_init_148 : decode b_MO_init 148 = .ok (.ldc 63, 2) := by decide +kernel
theorem d_MO_init_150 : decode b_MO_init 150 = .ok (.newarray .long, 2) := by decide +kernel
theorem d_MO_init_152 : decode b_MO_init 152 = .ok (.putfield 67, 3) := by decide +kernel
theorem d_MO_init_155 : decode b_MO_init 155 = .ok (.aload_n 0, 1) := by decide +kernel
theorem d_MO_init_156 : decode b_MO_init 156 = .ok (.sipush 3001, 3) := by decide +kernel
theorem d_MO_init_159 : decode b_MO_init 159 = .ok (.newarray .boolean, 2) := by decide +kernel
theorem d_MO_init_161 : decode b_MO_init 161 = .ok (.putfield 70, 3) := by decide +kernel
theorem d_MO_init_164 : decode b_MO_init 164 = .ok (.aload_n 0, 1) := by decide +kernel
theorem d_MO_init_165 : decode b_MO_init 165 = .ok (.bipush 30, 2) := by decide +kernel
theorem d_MO_init_167 : decode b_MO_init 167 = .ok (.newarray .int, 2) := by decide +kernel
theorem d_MO_init_169 : decode b_MO_init 169 = .ok (.putfield 74, 3) := by decide +kernel
theorem d_MO_init_172 : decode b_MO_init 172 = .ok (.aload_n 0, 1) := by decide +kernel
theorem d_MO_init_173 : decode b_MO_init 173 = .ok (.bipush 30, 2) := by decide +kernel
theorem d_MO_init_175 : decode b_MO_init 175 = .ok (.newarray .long, 2) := by decide +kernel
theorem d_MO_init_177 : decode b_MO_init 177 = .ok (.putfield 77, 3) := by decide +kernel
theorem d_MO_init_180 : decode b_MO_init 180 = .ok (.aload_n 0, 1) := by decide +kernel
theorem d_MO_init_181 : decode b_MO_init 181 = .ok (.bipush 30, 2) := by decide +kernel
theorem d_MO_init_183 : decode b_MO_init 183 = .ok (.newarray .long, 2) := by decide +kernel
theorem d_MO_init_185 : decode b_MO_init 185 = .ok (.putfield 80, 3) := by decide +kernel
theorem d_MO_init_188 : decode b_MO_init 188 = .ok (.return_, 1) := by decide +kernel
theorem d_MO_unit_0 : decode b_MO_unit 0 = .ok (.iload_n 1, 1) := by decide +kernel
theorem d_MO_unit_1 : decode b_MO_unit 1 = .ok (.iconst 1, 1) := by decide +kernel
theorem d_MO_unit_2 : decode b_MO_unit 2 = .ok (.if_icmp .lt 19, 3) := by decide +kernel
theorem d_MO_unit_5 : decode b_MO_unit 5 = .ok (.iload_n 1, 1) := by decide +kernel
theorem d_MO_unit_6 : decode b_MO_unit 6 = .ok (.bipush 127, 2) := by decide +kernel
theorem d_MO_unit_8 : decode b_MO_unit 8 = .ok (.if_icmp .gt 13, 3) := by decide +kernel
theorem d_MO_unit_11 : decode b_MO_unit 11 = .ok (.aload_n 0, 1) := by decide +kernel
theorem d_MO_unit_12 : decode b_MO_unit 12 = .ok (.getfield 83, 3) := by decide +kernel
theorem d_MO_unit_15 : decode b_MO_unit 15 = .ok (.sipush 2000, 3) := by decide +kernel
theorem d_MO_unit_18 : decode b_MO_unit 18 = .ok (.if_icmp .ne 5, 3) := by decide +kernel
theorem d_MO_unit_21 : decode b_MO_unit 21 = .ok (.iconst 0, 1) := by decide +kernel
theorem d_MO_unit_22 : decode b_MO_unit 22 = .ok (.ireturn, 1) := by decide +kernel
theorem d_MO_unit_23 : decode b_MO_unit 23 = .ok (.aload_n 0, 1) := by decide +kernel
theorem d_MO_unit_24 : decode b_MO_unit 24 = .ok (.getfield 9, 3) := by decide +kernel
theorem d_MO_unit_27 : decode b_MO_unit 27 = .ok (.aload_n 0, 1) := by decide +kernel
theorem d_MO_unit_28 : decode b_MO_unit 28 = .ok (.getfield 83, 3) := by decide +kernel
theorem d_MO_unit_31 : decode b_MO_unit 31 = .ok (.iload_n 1, 1) := by decide +kernel
theorem d_MO_unit_32 : decode b_MO_unit 32 = .ok (.iastore, 1) := by decide +kernel
theorem d_MO_unit_33 : decode b_MO_unit 33 = .ok (.aload_n 0, 1) := by decide +kernel
theorem d_MO_unit_34 : decode b_MO_unit 34 = .ok (.dup, 1) := by decide +kernel
theorem d_MO_unit_35 : decode b_MO_unit 35 = .ok (.getfield 83, 3) := by decide +kernel
theorem d_MO_unit_38 : decode b_MO_unit 38 = .ok (.iconst 1, 1) := by decide +kernel
theorem d_MO_unit_39 : decode b_MO_unit 39 = .ok (.iadd, 1) := by decide +kernel
theorem d_MO_unit_40 : decode b_MO_unit 40 = .ok (.putfield 83, 3) := by decide +kernel
theorem d_MO_unit_43 : decode b_MO_unit 43 = .ok (.iconst 1, 1) := by decide +kernel
theorem d_MO_unit_44 : decode b_MO_unit 44 = .ok (.ireturn, 1) := by decide +kernel
theorem d_MO_read_0 : decode b_MO_read 0 = .ok (.aload_n 0, 1) := by decide +kernel
theorem d_MO_read_1 : decode b_MO_read 1 = .ok (.iconst 0, 1) := by decide +kernel
theorem d_MO_read_2 : decode b_MO_read 2 = .ok (.putfield 86, 3) := by decide +kernel
theorem d_MO_read_5 : decode b_MO_read 5 = .ok (.aload_n 0, 1) := by decide +kernel
theorem d_MO_read_6 : decode b_MO_read 6 = .ok (.iconst (-1), 1) := by decide +kernel
theorem d_MO_read_7 : decode b_MO_read 7 = .ok (.putfield 96, 3) := by decide +kernel
theorem d_MO_read_10 : decode b_MO_read 10 = .ok (.aload_n 0, 1) := by decide +kernel
theorem d_MO_read_11 : decode b_MO_read 11 = .ok (.invokevirtual 120, 3) := by decide +kernel
theorem d_MO_read_14 : decode b_MO_read 14 = .ok (.iconst 0, 1) := by decide +kernel
theorem d_MO_read_15 : decode b_MO_read 15 = .ok (.istore_n 1, 1) := by decide +kernel
theorem d_MO_read_16 : decode b_MO_read 16 = .ok (.iconst 1, 1) := by decide +kernel
theorem d_MO_read_17 : decode b_MO_read 17 = .ok (.istore_n 2, 1) := by decide +kernel
theorem d_MO_read_18 : decode b_MO_read 18 = .ok (.iload_n 2, 1) := by decide +kernel
theorem d_MO_read_19 : decode b_MO_read 19 = .ok (.ifCond .eq 26, 3) := by decide +kernel
theorem d_MO_read_22 : decode b_MO_read 22 = .ok (.aload_n 0, 1) := by decide +kernel
theorem d_MO_read_23 : decode b_MO_read 23 = .ok (.getfield 89, 3) := by decide +kernel
theorem d_MO_read_26 : decode b_MO_read 26 = .ok (.aload_n 0, 1) := by decide +kernel
theorem d_MO_read_27 : decode b_MO_read 27 = .ok (.getfield 83, 3) := by decide +kernel
theorem d_MO_read_30 : decode b_MO_read 30 = .ok (.if_icmp .ge 15, 3) := by decide +kernel
theorem d_MO_read_33 : decode b_MO_read 33 = .ok (.aload_n 0, 1) := by decide +kernel
theorem d_MO_read_34 : decode b_MO_read 34 = .ok (.iload_n 1, 1) := by decide +kernel
theorem d_MO_read_35 : decode b_MO_read 35 = .ok (.invokevirtual 129, 3) := by decide +kernel
theorem d_MO_read_38 : decode b_MO_read 38 = .ok (.istore_n 2, 1) := by decide +kernel
theorem d_MO_read_39 : decode b_MO_read 39 = .ok (.iinc 1 1, 3) := by decide +kernel
theorem d_MO_read_42 : decode b_MO_read 42 = .ok (.goto (-24), 3) := by decide +kernel
theorem d_MO_read_45 : decode b_MO_read 45 = .ok (.aload_n 0, 1) := by decide +kernel
theorem d_MO_read_46 : decode b_MO_read 46 = .ok (.iconst 0, 1) := by decide +kernel
theorem d_MO_read_47 : decode b_MO_read 47 = .ok (.putfield 83, 3) := by decide +kernel
theorem d_MO_read_50 : decode b_MO_read 50 = .ok (.iload_n 2, 1) := by decide +kernel
theorem d_MO_read_51 : decode b_MO_read 51 = .ok (.ifCond .ne 10, 3) := by decide +kernel
theorem d_MO_read_54 : decode b_MO_read 54 = .ok (.iconst (-1), 1) := by decide +kernel
theorem d_MO_read_55 : decode b_MO_read 55 = .ok (.aload_n 0, 1) := by decide +kernel
theorem d_MO_read_56 : decode b_MO_read 56 = .ok (.getfield 96, 3) := by decide +kernel
theorem d_MO_read_59 : decode b_MO_read 59 = .ok (.isub, 1) := by decide +kernel
theorem d_MO_read_60 : decode b_MO_read 60 = .ok (.ireturn, 1) := by decide +kernel
theorem d_MO_read_61 : decode b_MO_read 61 = .ok (.iconst 0, 1) := by decide +kernel
theorem d_MO_read_62 : decode b_MO_read 62 = .ok (.istore_n 3, 1) := by decide +kernel
theorem d_MO_read_63 : decode b_MO_read 63 = .ok (.iload_n 3, 1) := by decide +kernel
theorem d_MO_read_64 : decode b_MO_read 64 = .ok (.iconst 5, 1) := by decide +kernel
theorem d_MO_read_65 : decode b_MO_read 65 = .ok (.iload_n 1, 1) := by decide +kernel
theorem d_MO_read_66 : decode b_MO_read 66 = .ok (.imul, 1) := by decide +kernel
theorem d_MO_read_67 : decode b_MO_read 67 = .ok (.if_icmp .ge 25, 3) := by decide +kernel
theorem d_MO_read_70 : decode b_MO_read 70 = .ok (.aload_n 0, 1) := by decide +kernel
theorem d_MO_read_71 : decode b_MO_read 71 = .ok (.getfield 16, 3) := by decide +kernel
theorem d_MO_read_74 : decode b_MO_read 74 = .ok (.sipush 2000, 3) := by decide +kernel
theorem d_MO_read_77 : decode b_MO_read 77 = .ok (.iload_n 3, 1) := by decide +kernel
theorem d_MO_read_78 : decode b_MO_read 78 = .ok (.iadd, 1) := by decide +kernel
theorem d_MO_read_79 : decode b_MO_read 79 = .ok (.aload_n 0, 1) := by decide +kernel
theorem d_MO_read_80 : decode b_MO_read 80 = .ok (.getfield 13, 3) := by decide +kernel
theorem d_MO_read_83 : decode b_MO_read 83 = .ok (.iload_n 3, 1) := by decide +kernel
theorem d_MO_read_84 : decode b_MO_read 84 = .ok (.iaload, 1) := by decide +kernel
theorem d_MO_read_85 : decode b_MO_read 85 = .ok (.iastore, 1) := by decide +kernel
theorem d_MO_read_86 : decode b_MO_read 86 = .ok (.iinc 3 1, 3) := by decide +kernel
theorem d_MO_read_89 : decode b_MO_read 89 = .ok (.goto (-26), 3) := by decide +kernel
theorem d_MO_read_92 : decode b_MO_read 92 = .ok (.aload_n 0, 1) := by decide +kernel
theorem d_MO_read_93 : decode b_MO_read 93 = .ok (.getfield 19, 3) := by decide +kernel
theorem d_MO_read_96 : decode b_MO_read 96 = .ok (.bipush 10, 2) := by decide +kernel
theorem d_MO_read_98 : decode b_MO_read 98 = .ok (.iload_n 1, 1) := by decide +kernel
theorem d_MO_read_99 : decode b_MO_read 99 = .ok (.iastore, 1) := by decide +kernel
theorem d_MO_read_100 : decode b_MO_read 100 = .ok (.iload_n 1, 1) := by decide +kernel
theorem d_MO_read_101 : decode b_MO_read 101 = .ok (.ireturn, 1) := by decide +kernel
theorem d_MO_next_0 : decode b_MO_next 0 = .ok (.aload_n 0, 1) := by decide +kernel
theorem d_MO_next_1 : decode b_MO_next 1 = .ok (.aload_n 0, 1) := by decide +kernel
theorem d_MO_next_2 : decode b_MO_next 2 = .ok (.getfield 86, 3) := by decide +kernel
theorem d_MO_next_5 : decode b_MO_next 5 = .ok (.putfield 89, 3) := by decide +kernel
theorem d_MO_next_8 : decode b_MO_next 8 = .ok (.aload_n 0, 1) := by decide +kernel
theorem d_MO_next_9 : decode b_MO_next 9 = .ok (.getfield 89, 3) := by decide +kernel
theorem d_MO_next_12 : decode b_MO_next 12 = .ok (.aload_n 0, 1) := by decide +kernel
theorem d_MO_next_13 : decode b_MO_next 13 = .ok (.getfield 83, 3) := by decide +kernel
theorem d_MO_next_16 : decode b_MO_next 16 = .ok (.if_icmp .ge 31, 3) := by decide +kernel
theorem d_MO_next_19 : decode b_MO_next 19 = .ok (.aload_n 0, 1) := by decide +kernel
theorem d_MO_next_20 : decode b_MO_next 20 = .ok (.getfield 9, 3) := by decide +kernel
theorem d_MO_next_23 : decode b_MO_next 23 = .ok (.aload_n 0, 1) := by decide +kernel
theorem d_MO_next_24 : decode b_MO_next 24 = .ok (.getfield 89, 3) := by decide +kernel
theorem d_MO_next_27 : decode b_MO_next 27 = .ok (.iaload, 1) := by decide +kernel
theorem d_MO_next_28 : decode b_MO_next 28 = .ok (.invokestatic 92, 3) := by decide +kernel
theorem d_MO_next_31 : decode b_MO_next 31 = .ok (.ifCond .eq 16, 3) := by decide +kernel
theorem d_MO_next_34 : decode b_MO_next 34 = .ok (.aload_n 0, 1) := by decide +kernel
theorem d_MO_next_35 : decode b_MO_next 35 = .ok (.dup, 1) := by decide +kernel
theorem d_MO_next_36 : decode b_MO_next 36 = .ok (.getfield 89, 3) := by decide +kernel
theorem d_MO_next_39 : decode b_MO_next 39 = .ok (.iconst 1, 1) := by decide +kernel
theorem d_MO_next_40 : decode b_MO_next 40 = .ok (.iadd, 1) := by decide +kernel
theorem d_MO_next_41 : decode b_MO_next 41 = .ok (.putfield 89, 3) := by decide +kernel
theorem d_MO_next_44 : decode b_MO_next 44 = .ok (.goto (-36), 3) := by decide +kernel
theorem d_MO_next_47 : decode b_MO_next 47 = .ok (.aload_n 0, 1) := by decide +kernel
theorem d_MO_next_48 : decode b_MO_next 48 = .ok (.aload_n 0, 1) := by decide +kernel
theorem d_MO_next_49 : decode b_MO_next 49 = .ok (.getfield 89, 3) := by decide +kernel
theorem d_MO_next_52 : decode b_MO_next 52 = .ok (.putfield 86, 3) := by decide +kernel
theorem d_MO_next_55 : decode b_MO_next 55 = .ok (.aload_n 0, 1) := by decide +kernel
theorem d_MO_next_56 : decode b_MO_next 56 = .ok (.getfield 86, 3) := by decide +kernel
theorem d_MO_next_59 : decode b_MO_next 59 = .ok (.aload_n 0, 1) := by decide +kernel
theorem d_MO_next_60 : decode b_MO_next 60 = .ok (.getfield 83, 3) := by decide +kernel
theorem d_MO_next_63 : decode b_MO_next 63 = .ok (.if_icmp .ge 30, 3) := by decide +kernel
theorem d_MO_next_66 : decode b_MO_next 66 = .ok (.aload_n 0, 1) := by decide +kernel
theorem d_MO_next_67 : decode b_MO_next 67 = .ok (.getfield 9, 3) := by decide +kernel
theorem d_MO_next_70 : decode b_MO_next 70 = .ok (.aload_n 0, 1) := by decide +kernel
theorem d_MO_next_71 : decode b_MO_next 71 = .ok (.getfield 86, 3) := by decide +kernel
theorem d_MO_next_74 : decode b_MO_next 74 = .ok (.iaload, 1) := by decide +kernel
theorem d_MO_next_75 : decode b_MO_next 75 = .ok (.bipush 59, 2) := by decide +kernel
theorem d_MO_next_77 : decode b_MO_next 77 = .ok (.if_icmp .ne 16, 3) := by decide +kernel
theorem d_MO_next_80 : decode b_MO_next 80 = .ok (.aload_n 0, 1) := by decide +kernel
theorem d_MO_next_81 : decode b_MO_next 81 = .ok (.dup, 1) := by decide +kernel
theorem d_MO_next_82 : decode b_MO_next 82 = .ok (.getfield 86, 3) := by decide +kernel
theorem d_MO_next_85 : decode b_MO_next 85 = .ok (.iconst 1, 1) := by decide +kernel
theorem d_MO_next_86 : decode b_MO_next 86 = .ok (.iadd, 1) := by decide +kernel
theorem d_MO_next_87 : decode b_MO_next 87 = .ok (.putfield 86, 3) := by decide +kernel
theorem d_MO_next_90 : decode b_MO_next 90 = .ok (.goto 56, 3) := by decide +kernel
theorem d_MO_next_93 : decode b_MO_next 93 = .ok (.aload_n 0, 1) := by decide +kernel
theorem d_MO_next_94 : decode b_MO_next 94 = .ok (.getfield 86, 3) := by decide +kernel
theorem d_MO_next_97 : decode b_MO_next 97 = .ok (.aload_n 0, 1) := by decide +kernel
theorem d_MO_next_98 : decode b_MO_next 98 = .ok (.getfield 83, 3) := by decide +kernel
theorem d_MO_next_101 : decode b_MO_next 101 = .ok (.if_icmp .ge 45, 3) := by decide +kernel
theorem d_MO_next_104 : decode b_MO_next 104 = .ok (.aload_n 0, 1) := by decide +kernel
theorem d_MO_next_105 : decode b_MO_next 105 = .ok (.getfield 9, 3) := by decide +kernel
theorem d_MO_next_108 : decode b_MO_next 108 = .ok (.aload_n 0, 1) := by decide +kernel
theorem d_MO_next_109 : decode b_MO_next 109 = .ok (.getfield 86, 3) := by decide +kernel
theorem d_MO_next_112 : decode b_MO_next 112 = .ok (.iaload, 1) := by decide +kernel
theorem d_MO_next_113 : decode b_MO_next 113 = .ok (.invokestatic 92, 3) := by decide +kernel
theorem d_MO_next_116 : decode b_MO_next 116 = .ok (.ifCond .ne 30, 3) := by decide +kernel
theorem d_MO_next_119 : decode b_MO_next 119 = .ok (.aload_n 0, 1) := by decide +kernel
theorem d_MO_next_120 : decode b_MO_next 120 = .ok (.getfield 9, 3) := by decide +kernel
theorem d_MO_next_123 : decode b_MO_next 123 = .ok (.aload_n 0, 1) := by decide +kernel
theorem d_MO_next_124 : decode b_MO_next 124 = .ok (.getfield 86, 3) := by decide +kernel
theorem d_MO_next_127 : decode b_MO_next 127 = .ok (.iaload, 1) := by decide +kernel
theorem d_MO_next_128 : decode b_MO_next 128 = .ok (.bipush 59, 2) := by decide +kernel
theorem d_MO_next_130 : decode b_MO_next 130 = .ok (.if_icmp .eq 16, 3) := by decide +kernel
theorem d_MO_next_133 : decode b_MO_next 133 = .ok (.aload_n 0, 1) := by decide +kernel
theorem d_MO_next_134 : decode b_MO_next 134 = .ok (.dup, 1) := by decide +kernel
theorem d_MO_next_135 : decode b_MO_next 135 = .ok (.getfield 86, 3) := by decide +kernel
theorem d_MO_next_138 : decode b_MO_next 138 = .ok (.iconst 1, 1) := by decide +kernel
theorem d_MO_next_139 : decode b_MO_next 139 = .ok (.iadd, 1) := by decide +kernel
theorem d_MO_next_140 : decode b_MO_next 140 = .ok (.putfield 86, 3) := by decide +kernel
theorem d_MO_next_143 : decode b_MO_next 143 = .ok (.goto (-50), 3) := by decide +kernel
theorem d_MO_next_146 : decode b_MO_next 146 = .ok (.aload_n 0, 1) := by decide +kernel
theorem d_MO_next_147 : decode b_MO_next 147 = .ok (.dup, 1) := by decide +kernel
theorem d_MO_next_148 : decode b_MO_next 148 = .ok (.getfield 96, 3) := by decide +kernel
theorem d_MO_next_151 : decode b_MO_next 151 = .ok (.iconst 1, 1) := by decide +kernel
theorem d_MO_next_152 : decode b_MO_next 152 = .ok (.iadd, 1) := by decide +kernel
theorem d_MO_next_153 : decode b_MO_next 153 = .ok (.putfield 96, 3) := by decide +kernel
theorem d_MO_next_156 : decode b_MO_next 156 = .ok (.return_, 1) := by decide +kernel
theorem d_MO_isBlank_0 : decode b_MO_isBlank 0 = .ok (.iload_n 0, 1) := by decide +kernel
theorem d_MO_isBlank_1 : decode b_MO_isBlank 1 = .ok (.bipush 32, 2) := by decide +kernel
theorem d_MO_isBlank_3 : decode b_MO_isBlank 3 = .ok (.if_icmp .eq 9, 3) := by decide +kernel
theorem d_MO_isBlank_6 : decode b_MO_isBlank 6 = .ok (.iload_n 0, 1) := by decide +kernel
theorem d_MO_isBlank_7 : decode b_MO_isBlank 7 = .ok (.bipush 10, 2) := by decide +kernel
theorem d_MO_isBlank_9 : decode b_MO_isBlank 9 = .ok (.if_icmp .ne 7, 3) := by decide +kernel
theorem d_MO_isBlank_12 : decode b_MO_isBlank 12 = .ok (.iconst 1, 1) := by decide +kernel
theorem d_MO_isBlank_13 : decode b_MO_isBlank 13 = .ok (.goto 4, 3) := by decide +kernel
theorem d_MO_isBlank_16 : decode b_MO_isBlank 16 = .ok (.iconst 0, 1) := by decide +kernel
theorem d_MO_isBlank_17 : decode b_MO_isBlank 17 = .ok (.ireturn, 1) := by decide +kernel
theorem d_MO_rule_0 : decode b_MO_rule 0 = .ok (.iconst 0, 1) := by decide +kernel
theorem d_MO_rule_1 : decode b_MO_rule 1 = .ok (.istore_n 2, 1) := by decide +kernel
theorem d_MO_rule_2 : decode b_MO_rule 2 = .ok (.iload_n 2, 1) := by decide +kernel
theorem d_MO_rule_3 : decode b_MO_rule 3 = .ok (.bipush 6, 2) := by decide +kernel
theorem d_MO_rule_5 : decode b_MO_rule 5 = .ok (.if_icmp .ge 17, 3) := by decide +kernel
theorem d_MO_rule_8 : decode b_MO_rule 8 = .ok (.aload_n 0, 1) := by decide +kernel
theorem d_MO_rule_9 : decode b_MO_rule 9 = .ok (.iload_n 2, 1) := by decide +kernel
theorem d_MO_rule_10 : decode b_MO_rule 10 = .ok (.invokevirtual 117, 3) := by decide +kernel
theorem d_MO_rule_13 : decode b_MO_rule 13 = .ok (.ifCond .ne 9, 3) := by decide +kernel
theorem d_MO_rule_16 : decode b_MO_rule 16 = .ok (.iinc 2 1, 3) := by decide +kernel
theorem d_MO_rule_19 : decode b_MO_rule 19 = .ok (.goto (-17), 3) := by decide +kernel
theorem d_MO_rule_22 : decode b_MO_rule 22 = .ok (.iconst 0, 1) := by decide +kernel
theorem d_MO_rule_23 : decode b_MO_rule 23 = .ok (.istore_n 3, 1) := by decide +kernel
theorem d_MO_rule_24 : decode b_MO_rule 24 = .ok (.iconst 0, 1) := by decide +kernel
theorem d_MO_rule_25 : decode b_MO_rule 25 = .ok (.istore 4, 2) := by decide +kernel
theorem d_MO_rule_27 : decode b_MO_rule 27 = .ok (.iload 4, 2) := by decide +kernel
theorem d_MO_rule_29 : decode b_MO_rule 29 = .ok (.iload_n 1, 1) := by decide +kernel
theorem d_MO_rule_30 : decode b_MO_rule 30 = .ok (.if_icmp .ge 35, 3) := by decide +kernel
theorem d_MO_rule_33 : decode b_MO_rule 33 = .ok (.iload_n 3, 1) := by decide +kernel
theorem d_MO_rule_34 : decode b_MO_rule 34 = .ok (.aload_n 0, 1) := by decide +kernel
theorem d_MO_rule_35 : decode b_MO_rule 35 = .ok (.getfield 13, 3) := by decide +kernel
theorem d_MO_rule_38 : decode b_MO_rule 38 = .ok (.iconst 5, 1) := by decide +kernel
theorem d_MO_rule_39 : decode b_MO_rule 39 = .ok (.iload 4, 2) := by decide +kernel
theorem d_MO_rule_41 : decode b_MO_rule 41 = .ok (.imul, 1) := by decide +kernel
theorem d_MO_rule_42 : decode b_MO_rule 42 = .ok (.iaload, 1) := by decide +kernel
theorem d_MO_rule_43 : decode b_MO_rule 43 = .ok (.iload_n 2, 1) := by decide +kernel
theorem d_MO_rule_44 : decode b_MO_rule 44 = .ok (.if_icmp .ne 12, 3) := by decide +kernel
theorem d_MO_rule_47 : decode b_MO_rule 47 = .ok (.iload_n 2, 1) := by decide +kernel
theorem d_MO_rule_48 : decode b_MO_rule 48 = .ok (.iconst 4, 1) := by decide +kernel
theorem d_MO_rule_49 : decode b_MO_rule 49 = .ok (.if_icmp .lt 7, 3) := by decide +kernel
theorem d_MO_rule_52 : decode b_MO_rule 52 = .ok (.iconst 1, 1) := by decide +kernel
theorem d_MO_rule_53 : decode b_MO_rule 53 = .ok (.goto 4, 3) := by decide +kernel
theorem d_MO_rule_56 : decode b_MO_rule 56 = .ok (.iconst 0, 1) := by decide +kernel
theorem d_MO_rule_57 : decode b_MO_rule 57 = .ok (.ior, 1) := by decide +kernel
theorem d_MO_rule_58 : decode b_MO_rule 58 = .ok (.istore_n 3, 1) := by decide +kernel
theorem d_MO_rule_59 : decode b_MO_rule 59 = .ok (.iinc 4 1, 3) := by decide +kernel
theorem d_MO_rule_62 : decode b_MO_rule 62 = .ok (.goto (-35), 3) := by decide +kernel
theorem d_MO_rule_65 : decode b_MO_rule 65 = .ok (.iload_n 2, 1) := by decide +kernel
theorem d_MO_rule_66 : decode b_MO_rule 66 = .ok (.bipush 6, 2) := by decide +kernel
theorem d_MO_rule_68 : decode b_MO_rule 68 = .ok (.if_icmp .eq 13, 3) := by decide +kernel
theorem d_MO_rule_71 : decode b_MO_rule 71 = .ok (.iload_n 1, 1) := by decide +kernel
theorem d_MO_rule_72 : decode b_MO_rule 72 = .ok (.bipush 40, 2) := by decide +kernel
theorem d_MO_rule_74 : decode b_MO_rule 74 = .ok (.if_icmp .eq 7, 3) := by decide +kernel
theorem d_MO_rule_77 : decode b_MO_rule 77 = .ok (.iload_n 3, 1) := by decide +kernel
theorem d_MO_rule_78 : decode b_MO_rule 78 = .ok (.ifCond .eq 5, 3) := by decide +kernel
theorem d_MO_rule_81 : decode b_MO_rule 81 = .ok (.iconst 0, 1) := by decide +kernel
theorem d_MO_rule_82 : decode b_MO_rule 82 = .ok (.ireturn, 1) := by decide +kernel
theorem d_MO_rule_83 : decode b_MO_rule 83 = .ok (.aload_n 0, 1) := by decide +kernel
theorem d_MO_rule_84 : decode b_MO_rule 84 = .ok (.getfield 13, 3) := by decide +kernel
theorem d_MO_rule_87 : decode b_MO_rule 87 = .ok (.iconst 5, 1) := by decide +kernel
theorem d_MO_rule_88 : decode b_MO_rule 88 = .ok (.iload_n 1, 1) := by decide +kernel
theorem d_MO_rule_89 : decode b_MO_rule 89 = .ok (.imul, 1) := by decide +kernel
theorem d_MO_rule_90 : decode b_MO_rule 90 = .ok (.iload_n 2, 1) := by decide +kernel
theorem d_MO_rule_91 : decode b_MO_rule 91 = .ok (.iastore, 1) := by decide +kernel
theorem d_MO_rule_92 : decode b_MO_rule 92 = .ok (.iconst 0, 1) := by decide +kernel
theorem d_MO_rule_93 : decode b_MO_rule 93 = .ok (.istore 4, 2) := by decide +kernel
theorem d_MO_rule_95 : decode b_MO_rule 95 = .ok (.iconst 0, 1) := by decide +kernel
theorem d_MO_rule_96 : decode b_MO_rule 96 = .ok (.istore 5, 2) := by decide +kernel
theorem d_MO_rule_98 : decode b_MO_rule 98 = .ok (.iconst 0, 1) := by decide +kernel
theorem d_MO_rule_99 : decode b_MO_rule 99 = .ok (.istore 6, 2) := by decide +kernel
theorem d_MO_rule_101 : decode b_MO_rule 101 = .ok (.aload_n 0, 1) := by decide +kernel
theorem d_MO_rule_102 : decode b_MO_rule 102 = .ok (.invokevirtual 120, 3) := by decide +kernel
theorem d_MO_rule_105 : decode b_MO_rule 105 = .ok (.iload 6, 2) := by decide +kernel
theorem d_MO_rule_107 : decode b_MO_rule 107 = .ok (.ifCond .ne 136, 3) := by decide +kernel
theorem d_MO_rule_110 : decode b_MO_rule 110 = .ok (.iload_n 2, 1) := by decide +kernel
theorem d_MO_rule_111 : decode b_MO_rule 111 = .ok (.iload 5, 2) := by decide +kernel
theorem d_MO_rule_113 : decode b_MO_rule 113 = .ok (.invokestatic 123, 3) := by decide +kernel
theorem d_MO_rule_116 : decode b_MO_rule 116 = .ok (.istore 7, 2) := by decide +kernel
theorem d_MO_rule_118 : decode b_MO_rule 118 = .ok (.iload 7, 2) := by decide +kernel
theorem d_MO_rule_120 : decode b_MO_rule 120 = .ok (.ifCond .ge 34, 3) := by decide +kernel
theorem d_MO_rule_123 : decode b_MO_rule 123 = .ok (.aload_n 0, 1) := by decide +kernel
theorem d_MO_rule_124 : decode b_MO_rule 124 = .ok (.bipush (-100), 2) := by decide +kernel
theorem d_MO_rule_126 : decode b_MO_rule 126 = .ok (.iload 7, 2) := by decide +kernel
theorem d_MO_rule_128 : decode b_MO_rule 128 = .ok (.isub, 1) := by decide +kernel
theorem d_MO_rule_129 : decode b_MO_rule 129 = .ok (.invokevirtual 117, 3) := by decide +kernel
theorem d_MO_rule_132 : decode b_MO_rule 132 = .ok (.ifCond .ne 5, 3) := by decide +kernel
theorem d_MO_rule_135 : decode b_MO_rule 135 = .ok (.iconst 0, 1) := by decide +kernel
theorem d_MO_rule_136 : decode b_MO_rule 136 = .ok (.ireturn, 1) := by decide +kernel
theorem d_MO_rule_137 : decode b_MO_rule 137 = .ok (.iload 7, 2) := by decide +kernel
theorem d_MO_rule_139 : decode b_MO_rule 139 = .ok (.bipush (-112), 2) := by decide +kernel
theorem d_MO_rule_141 : decode b_MO_rule 141 = .ok (.if_icmp .ne 7, 3) := by decide +kernel
theorem d_MO_rule_144 : decode b_MO_rule 144 = .ok (.iconst 1, 1) := by decide +kernel
theorem d_MO_rule_145 : decode b_MO_rule 145 = .ok (.goto 4, 3) := by decide +kernel
theorem d_MO_rule_148 : decode b_MO_rule 148 = .ok (.iconst 0, 1) := by decide +kernel
theorem d_MO_rule_149 : decode b_MO_rule 149 = .ok (.istore 6, 2) := by decide +kernel
theorem d_MO_rule_151 : decode b_MO_rule 151 = .ok (.goto 82, 3) := by decide +kernel
theorem d_MO_rule_154 : decode b_MO_rule 154 = .ok (.aload_n 0, 1) := by decide +kernel
theorem d_MO_rule_155 : decode b_MO_rule 155 = .ok (.iload 7, 2) := by decide +kernel
theorem d_MO_rule_157 : decode b_MO_rule 157 = .ok (.invokevirtual 126, 3) := by decide +kernel
theorem d_MO_rule_160 : decode b_MO_rule 160 = .ok (.istore 8, 2) := by decide +kernel
theorem d_MO_rule_162 : decode b_MO_rule 162 = .ok (.iload 8, 2) := by decide +kernel
theorem d_MO_rule_164 : decode b_MO_rule 164 = .ok (.iconst (-1), 1) := by decide +kernel
theorem d_MO_rule_165 : decode b_MO_rule 165 = .ok (.if_icmp .eq 38, 3) := by decide +kernel
theorem d_MO_rule_168 : decode b_MO_rule 168 = .ok (.iload_n 2, 1) := by decide +kernel
theorem d_MO_rule_169 : decode b_MO_rule 169 = .ok (.iconst 4, 1) := by decide +kernel
theorem d_MO_rule_170 : decode b_MO_rule 170 = .ok (.if_icmp .ne 8, 3) := by decide +kernel
theorem d_MO_rule_173 : decode b_MO_rule 173 = .ok (.iload 8, 2) := by decide +kernel
theorem d_MO_rule_175 : decode b_MO_rule 175 = .ok (.ifCond .eq 28, 3) := by decide +kernel
theorem d_MO_rule_178 : decode b_MO_rule 178 = .ok (.iload_n 2, 1) := by decide +kernel
theorem d_MO_rule_179 : decode b_MO_rule 179 = .ok (.ifCond .ne 28, 3) := by decide +kernel
theorem d_MO_rule_182 : decode b_MO_rule 182 = .ok (.iload 4, 2) := by decide +kernel
theorem d_MO_rule_184 : decode b_MO_rule 184 = .ok (.iconst 2, 1) := by decide +kernel
theorem d_MO_rule_185 : decode b_MO_rule 185 = .ok (.if_icmp .ne 22, 3) := by decide +kernel
theorem d_MO_rule_188 : decode b_MO_rule 188 = .ok (.iload 8, 2) := by decide +kernel
theorem d_MO_rule_190 : decode b_MO_rule 190 = .ok (.aload_n 0, 1) := by decide +kernel
theorem d_MO_rule_191 : decode b_MO_rule 191 = .ok (.getfield 13, 3) := by decide +kernel
theorem d_MO_rule_194 : decode b_MO_rule 194 = .ok (.iconst 5, 1) := by decide +kernel
theorem d_MO_rule_195 : decode b_MO_rule 195 = .ok (.iload_n 1, 1) := by decide +kernel
theorem d_MO_rule_196 : decode b_MO_rule 196 = .ok (.imul, 1) := by decide +kernel
theorem d_MO_rule_197 : decode b_MO_rule 197 = .ok (.iconst 2, 1) := by decide +kernel
theorem d_MO_rule_198 : decode b_MO_rule 198 = .ok (.iadd, 1) := by decide +kernel
theorem d_MO_rule_199 : decode b_MO_rule 199 = .ok (.iaload, 1) := by decide +kernel
theorem d_MO_rule_200 : decode b_MO_rule 200 = .ok (.if_icmp .gt 7, 3) := by decide +kernel
theorem d_MO_rule_203 : decode b_MO_rule 203 = .ok (.iconst 1, 1) := by decide +kernel
theorem d_MO_rule_204 : decode b_MO_rule 204 = .ok (.goto 4, 3) := by decide +kernel
theorem d_MO_rule_207 : decode b_MO_rule 207 = .ok (.iconst 0, 1) := by decide +kernel
theorem d_MO_rule_208 : decode b_MO_rule 208 = .ok (.istore 9, 2) := by decide +kernel
theorem d_MO_rule_210 : decode b_MO_rule 210 = .ok (.iload 9, 2) := by decide +kernel
theorem d_MO_rule_212 : decode b_MO_rule 212 = .ok (.ifCond .eq 5, 3) := by decide +kernel
theorem d_MO_rule_215 : decode b_MO_rule 215 = .ok (.iconst 0, 1) := by decide +kernel
theorem d_MO_rule_216 : decode b_MO_rule 216 = .ok (.ireturn, 1) := by decide +kernel
theorem d_MO_rule_217 : decode b_MO_rule 217 = .ok (.iinc 4 1, 3) := by decide +kernel
theorem d_MO_rule_220 : decode b_MO_rule 220 = .ok (.aload_n 0, 1) := by decide +kernel
theorem d_MO_rule_221 : decode b_MO_rule 221 = .ok (.getfield 13, 3) := by decide +kernel
theorem d_MO_rule_224 : decode b_MO_rule 224 = .ok (.iconst 5, 1) := by decide +kernel
theorem d_MO_rule_225 : decode b_MO_rule 225 = .ok (.iload_n 1, 1) := by decide +kernel
theorem d_MO_rule_226 : decode b_MO_rule 226 = .ok (.imul, 1) := by decide +kernel
theorem d_MO_rule_227 : decode b_MO_rule 227 = .ok (.iload 4, 2) := by decide +kernel
theorem d_MO_rule_229 : decode b_MO_rule 229 = .ok (.iadd, 1) := by decide +kernel
theorem d_MO_rule_230 : decode b_MO_rule 230 = .ok (.iload 8, 2) := by decide +kernel
theorem d_MO_rule_232 : decode b_MO_rule 232 = .ok (.iastore, 1) := by decide +kernel
theorem d_MO_rule_233 : decode b_MO_rule 233 = .ok (.iinc 5 1, 3) := by decide +kernel
theorem d_MO_rule_236 : decode b_MO_rule 236 = .ok (.aload_n 0, 1) := by decide +kernel
theorem d_MO_rule_237 : decode b_MO_rule 237 = .ok (.invokevirtual 120, 3) := by decide +kernel
theorem d_MO_rule_240 : decode b_MO_rule 240 = .ok (.goto (-135), 3) := by decide +kernel
theorem d_MO_rule_243 : decode b_MO_rule 243 = .ok (.iconst 1, 1) := by decide +kernel
theorem d_MO_rule_244 : decode b_MO_rule 244 = .ok (.ireturn, 1) := by decide +kernel
theorem d_MO_is_0 : decode b_MO_is 0 = .ok (.aload_n 0, 1) := by decide +kernel
theorem d_MO_is_1 : decode b_MO_is 1 = .ok (.getfield 86, 3) := by decide +kernel
theorem d_MO_is_4 : decode b_MO_is 4 = .ok (.aload_n 0, 1) := by decide +kernel
theorem d_MO_is_5 : decode b_MO_is 5 = .ok (.getfield 89, 3) := by decide +kernel
theorem d_MO_is_8 : decode b_MO_is 8 = .ok (.isub, 1) := by decide +kernel
theorem d_MO_is_9 : decode b_MO_is 9 = .ok (.iload_n 1, 1) := by decide +kernel
theorem d_MO_is_10 : decode b_MO_is 10 = .ok (.invokestatic 99, 3) := by decide +kernel
theorem d_MO_is_13 : decode b_MO_is 13 = .ok (.if_icmp .eq 5, 3) := by decide +kernel
theorem d_MO_is_16 : decode b_MO_is 16 = .ok (.iconst 0, 1) := by decide +kernel
theorem d_MO_is_17 : decode b_MO_is 17 = .ok (.ireturn, 1) := by decide +kernel
theorem d_MO_is_18 : decode b_MO_is 18 = .ok (.iconst 0, 1) := by decide +kernel
theorem d_MO_is_19 : decode b_MO_is 19 = .ok (.istore_n 2, 1) := by decide +kernel
theorem d_MO_is_20 : decode b_MO_is 20 = .ok (.iload_n 2, 1) := by decide +kernel
theorem d_MO_is_21 : decode b_MO_is 21 = .ok (.iload_n 1, 1) := by decide +kernel
theorem d_MO_is_22 : decode b_MO_is 22 = .ok (.invokestatic 99, 3) := by decide +kernel
theorem d_MO_is_25 : decode b_MO_is 25 = .ok (.if_icmp .ge 30, 3) := by decide +kernel
theorem d_MO_is_28 : decode b_MO_is 28 = .ok (.aload_n 0, 1) := by decide +kernel
theorem d_MO_is_29 : decode b_MO_is 29 = .ok (.getfield 9, 3) := by decide +kernel
theorem d_MO_is_32 : decode b_MO_is 32 = .ok (.aload_n 0, 1) := by decide +kernel
theorem d_MO_is_33 : decode b_MO_is 33 = .ok (.getfield 89, 3) := by decide +kernel
theorem d_MO_is_36 : decode b_MO_is 36 = .ok (.iload_n 2, 1) := by decide +kernel
theorem d_MO_is_37 : decode b_MO_is 37 = .ok (.iadd, 1) := by decide +kernel
theorem d_MO_is_38 : decode b_MO_is 38 = .ok (.iaload, 1) := by decide +kernel
theorem d_MO_is_39 : decode b_MO_is 39 = .ok (.iload_n 1, 1) := by decide +kernel
theorem d_MO_is_40 : decode b_MO_is 40 = .ok (.iload_n 2, 1) := by decide +kernel
theorem d_MO_is_41 : decode b_MO_is 41 = .ok (.invokestatic 103, 3) := by decide +kernel
theorem d_MO_is_44 : decode b_MO_is 44 = .ok (.if_icmp .eq 5, 3) := by decide +kernel
theorem d_MO_is_47 : decode b_MO_is 47 = .ok (.iconst 0, 1) := by decide +kernel
theorem d_MO_is_48 : decode b_MO_is 48 = .ok (.ireturn, 1) := by decide +kernel
theorem d_MO_is_49 : decode b_MO_is 49 = .ok (.iinc 2 1, 3) := by decide +kernel
theorem d_MO_is_52 : decode b_MO_is 52 = .ok (.goto (-32), 3) := by decide +kernel
theorem d_MO_is_55 : decode b_MO_is 55 = .ok (.iconst 1, 1) := by decide +kernel
theorem d_MO_is_56 : decode b_MO_is 56 = .ok (.ireturn, 1) := by decide +kernel
theorem d_MO_wordSize_0 : decode b_MO_wordSize 0 = .ok (.iconst 0, 1) := by decide +kernel
theorem d_MO_wordSize_1 : decode b_MO_wordSize 1 = .ok (.istore_n 1, 1) := by decide +kernel
theorem d_MO_wordSize_2 : decode b_MO_wordSize 2 = .ok (.iload_n 0, 1) := by decide +kernel
theorem d_MO_wordSize_3 : decode b_MO_wordSize 3 = .ok (.iload_n 1, 1) := by decide +kernel
theorem d_MO_wordSize_4 : decode b_MO_wordSize 4 = .ok (.invokestatic 103, 3) := by decide +kernel
theorem d_MO_wordSize_7 : decode b_MO_wordSize 7 = .ok (.iconst (-1), 1) := by decide +kernel
theorem d_MO_wordSize_8 : decode b_MO_wordSize 8 = .ok (.if_icmp .eq 9, 3) := by decide +kernel
theorem d_MO_wordSize_11 : decode b_MO_wordSize 11 = .ok (.iinc 1 1, 3) := by decide +kernel
theorem d_MO_wordSize_14 : decode b_MO_wordSize 14 = .ok (.goto (-12), 3) := by decide +kernel
theorem d_MO_wordSize_17 : decode b_MO_wordSize 17 = .ok (.iload_n 1, 1) := by decide +kernel
theorem d_MO_wordSize_18 : decode b_MO_wordSize 18 = .ok (.ireturn, 1) := by decide +kernel
theorem d_MO_wordByte_0 : decode b_MO_wordByte 0 = .ok (.ldc 107, 2) := by decide +kernel
theorem d_MO_wordByte_2 : decode b_MO_wordByte 2 = .ok (.astore_n 2, 1) := by decide +kernel
theorem d_MO_wordByte_3 : decode b_MO_wordByte 3 = .ok (.iconst 0, 1) := by decide +kernel
theorem d_MO_wordByte_4 : decode b_MO_wordByte 4 = .ok (.istore_n 3, 1) := by decide +kernel
theorem d_MO_wordByte_5 : decode b_MO_wordByte 5 = .ok (.iconst 0, 1) := by decide +kernel
theorem d_MO_wordByte_6 : decode b_MO_wordByte 6 = .ok (.istore 4, 2) := by decide +kernel
theorem d_MO_wordByte_8 : decode b_MO_wordByte 8 = .ok (.iload 4, 2) := by decide +kernel
theorem d_MO_wordByte_10 : decode b_MO_wordByte 10 = .ok (.iload_n 0, 1) := by decide +kernel
theorem d_MO_wordByte_11 : decode b_MO_wordByte 11 = .ok (.if_icmp .ge 28, 3) := by decide +kernel
theorem d_MO_wordByte_14 : decode b_MO_wordByte 14 = .ok (.aload_n 2, 1) := by decide +kernel
theorem d_MO_wordByte_15 : decode b_MO_wordByte 15 = .ok (.iload_n 3, 1) := by decide +kernel
theorem d_MO_wordByte_16 : decode b_MO_wordByte 16 = .ok (.invokevirtual 109, 3) := by decide +kernel
theorem d_MO_wordByte_19 : decode b_MO_wordByte 19 = .ok (.bipush 32, 2) := by decide +kernel
theorem d_MO_wordByte_21 : decode b_MO_wordByte 21 = .ok (.if_icmp .eq 9, 3) := by decide +kernel
theorem d_MO_wordByte_24 : decode b_MO_wordByte 24 = .ok (.iinc 3 1, 3) := by decide +kernel
theorem d_MO_wordByte_27 : decode b_MO_wordByte 27 = .ok (.goto (-13), 3) := by decide +kernel
theorem d_MO_wordByte_30 : decode b_MO_wordByte 30 = .ok (.iinc 3 1, 3) := by decide +kernel
theorem d_MO_wordByte_33 : decode b_MO_wordByte 33 = .ok (.iinc 4 1, 3) := by decide +kernel
theorem d_MO_wordByte_36 : decode b_MO_wordByte 36 = .ok (.goto (-28), 3) := by decide +kernel
theorem d_MO_wordByte_39 : decode b_MO_wordByte 39 = .ok (.iconst 0, 1) := by decide +kernel
theorem d_MO_wordByte_40 : decode b_MO_wordByte 40 = .ok (.istore 4, 2) := by decide +kernel
theorem d_MO_wordByte_42 : decode b_MO_wordByte 42 = .ok (.iload 4, 2) := by decide +kernel
theorem d_MO_wordByte_44 : decode b_MO_wordByte 44 = .ok (.iload_n 1, 1) := by decide +kernel
theorem d_MO_wordByte_45 : decode b_MO_wordByte 45 = .ok (.if_icmp .ge 24, 3) := by decide +kernel
theorem d_MO_wordByte_48 : decode b_MO_wordByte 48 = .ok (.aload_n 2, 1) := by decide +kernel
theorem d_MO_wordByte_49 : decode b_MO_wordByte 49 = .ok (.iload_n 3, 1) := by decide +kernel
theorem d_MO_wordByte_50 : decode b_MO_wordByte 50 = .ok (.iload 4, 2) := by decide +kernel
theorem d_MO_wordByte_52 : decode b_MO_wordByte 52 = .ok (.iadd, 1) := by decide +kernel
theorem d_MO_wordByte_53 : decode b_MO_wordByte 53 = .ok (.invokevirtual 109, 3) := by decide +kernel
theorem d_MO_wordByte_56 : decode b_MO_wordByte 56 = .ok (.bipush 32, 2) := by decide +kernel
theorem d_MO_wordByte_58 : decode b_MO_wordByte 58 = .ok (.if_icmp .ne 5, 3) := by decide +kernel
theorem d_MO_wordByte_61 : decode b_MO_wordByte 61 = .ok (.iconst (-1), 1) := by decide +kernel
theorem d_MO_wordByte_62 : decode b_MO_wordByte 62 = .ok (.ireturn, 1) := by decide +kernel
theorem d_MO_wordByte_63 : decode b_MO_wordByte 63 = .ok (.iinc 4 1, 3) := by decide +kernel
theorem d_MO_wordByte_66 : decode b_MO_wordByte 66 = .ok (.goto (-24), 3) := by decide +kernel
theorem d_MO_wordByte_69 : decode b_MO_wordByte 69 = .ok (.aload_n 2, 1) := by decide +kernel
theorem d_MO_wordByte_70 : decode b_MO_wordByte 70 = .ok (.iload_n 3, 1) := by decide +kernel
theorem d_MO_wordByte_71 : decode b_MO_wordByte 71 = .ok (.iload_n 1, 1) := by decide +kernel
theorem d_MO_wordByte_72 : decode b_MO_wordByte 72 = .ok (.iadd, 1) := by decide +kernel
theorem d_MO_wordByte_73 : decode b_MO_wordByte 73 = .ok (.invokevirtual 109, 3) := by decide +kernel
theorem d_MO_wordByte_76 : decode b_MO_wordByte 76 = .ok (.bipush 32, 2) := by decide +kernel
theorem d_MO_wordByte_78 : decode b_MO_wordByte 78 = .ok (.if_icmp .ne 7, 3) := by decide +kernel
theorem d_MO_wordByte_81 : decode b_MO_wordByte 81 = .ok (.iconst (-1), 1) := by decide +kernel
theorem d_MO_wordByte_82 : decode b_MO_wordByte 82 = .ok (.goto 10, 3) := by decide +kernel
theorem d_MO_wordByte_85 : decode b_MO_wordByte 85 = .ok (.aload_n 2, 1) := by decide +kernel
theorem d_MO_wordByte_86 : decode b_MO_wordByte 86 = .ok (.iload_n 3, 1) := by decide +kernel
theorem d_MO_wordByte_87 : decode b_MO_wordByte 87 = .ok (.iload_n 1, 1) := by decide +kernel
theorem d_MO_wordByte_88 : decode b_MO_wordByte 88 = .ok (.iadd, 1) := by decide +kernel
theorem d_MO_wordByte_89 : decode b_MO_wordByte 89 = .ok (.invokevirtual 109, 3) := by decide +kernel
theorem d_MO_wordByte_92 : decode b_MO_wordByte 92 = .ok (.ireturn, 1) := by decide +kernel
theorem d_MO_part_0 : decode b_MO_part 0 = .ok (.iload_n 0, 1) := by decide +kernel
theorem d_MO_part_1 : decode b_MO_part 1 = .ok (.tableswitch 239 0 4 #[35, 110, 162, 194, 226], 35) := by decide +kernel
theorem d_MO_part_36 : decode b_MO_part 36 = .ok (.iload_n 1, 1) := by decide +kernel
theorem d_MO_part_37 : decode b_MO_part 37 = .ok (.ifCond .ne 8, 3) := by decide +kernel
theorem d_MO_part_40 : decode b_MO_part 40 = .ok (.bipush 9, 2) := by decide +kernel
theorem d_MO_part_42 : decode b_MO_part 42 = .ok (.goto 68, 3) := by decide +kernel
theorem d_MO_part_45 : decode b_MO_part 45 = .ok (.iload_n 1, 1) := by decide +kernel
theorem d_MO_part_46 : decode b_MO_part 46 = .ok (.iconst 1, 1) := by decide +kernel
theorem d_MO_part_47 : decode b_MO_part 47 = .ok (.if_icmp .ne 8, 3) := by decide +kernel
theorem d_MO_part_50 : decode b_MO_part 50 = .ok (.bipush (-106), 2) := by decide +kernel
theorem d_MO_part_52 : decode b_MO_part 52 = .ok (.goto 58, 3) := by decide +kernel
theorem d_MO_part_55 : decode b_MO_part 55 = .ok (.iload_n 1, 1) := by decide +kernel
theorem d_MO_part_56 : decode b_MO_part 56 = .ok (.iconst 2, 1) := by decide +kernel
theorem d_MO_part_57 : decode b_MO_part 57 = .ok (.if_icmp .ne 9, 3) := by decide +kernel
theorem d_MO_part_60 : decode b_MO_part 60 = .ok (.sipush 10000, 3) := by decide +kernel
theorem d_MO_part_63 : decode b_MO_part 63 = .ok (.goto 47, 3) := by decide +kernel
theorem d_MO_part_66 : decode b_MO_part 66 = .ok (.iload_n 1, 1) := by decide +kernel
theorem d_MO_part_67 : decode b_MO_part 67 = .ok (.iconst 3, 1) := by decide +kernel
theorem d_MO_part_68 : decode b_MO_part 68 = .ok (.if_icmp .ne 8, 3) := by decide +kernel
theorem d_MO_part_71 : decode b_MO_part 71 = .ok (.bipush (-107), 2) := by decide +kernel
theorem d_MO_part_73 : decode b_MO_part 73 = .ok (.goto 37, 3) := by decide +kernel
theorem d_MO_part_76 : decode b_MO_part 76 = .ok (.iload_n 1, 1) := by decide +kernel
theorem d_MO_part_77 : decode b_MO_part 77 = .ok (.iconst 4, 1) := by decide +kernel
theorem d_MO_part_78 : decode b_MO_part 78 = .ok (.if_icmp .ne 9, 3) := by decide +kernel
theorem d_MO_part_81 : decode b_MO_part 81 = .ok (.sipush 10000, 3) := by decide +kernel
theorem d_MO_part_84 : decode b_MO_part 84 = .ok (.goto 26, 3) := by decide +kernel
theorem d_MO_part_87 : decode b_MO_part 87 = .ok (.iload_n 1, 1) := by decide +kernel
theorem d_MO_part_88 : decode b_MO_part 88 = .ok (.iconst 5, 1) := by decide +kernel
theorem d_MO_part_89 : decode b_MO_part 89 = .ok (.if_icmp .ne 8, 3) := by decide +kernel
theorem d_MO_part_92 : decode b_MO_part 92 = .ok (.bipush (-108), 2) := by decide +kernel
theorem d_MO_part_94 : decode b_MO_part 94 = .ok (.goto 16, 3) := by decide +kernel
theorem d_MO_part_97 : decode b_MO_part 97 = .ok (.iload_n 1, 1) := by decide +kernel
theorem d_MO_part_98 : decode b_MO_part 98 = .ok (.bipush 6, 2) := by decide +kernel
theorem d_MO_part_100 : decode b_MO_part 100 = .ok (.if_icmp .ne 8, 3) := by decide +kernel
theorem d_MO_part_103 : decode b_MO_part 103 = .ok (.ldc 115, 2) := by decide +kernel
theorem d_MO_part_105 : decode b_MO_part 105 = .ok (.goto 5, 3) := by decide +kernel
theorem d_MO_part_108 : decode b_MO_part 108 = .ok (.bipush (-112), 2) := by decide +kernel
theorem d_MO_part_110 : decode b_MO_part 110 = .ok (.ireturn, 1) := by decide +kernel
theorem d_MO_part_111 : decode b_MO_part 111 = .ok (.iload_n 1, 1) := by decide +kernel
theorem d_MO_part_112 : decode b_MO_part 112 = .ok (.ifCond .ne 8, 3) := by decide +kernel
theorem d_MO_part_115 : decode b_MO_part 115 = .ok (.bipush 9, 2) := by decide +kernel
theorem d_MO_part_117 : decode b_MO_part 117 = .ok (.goto 45, 3) := by decide +kernel
theorem d_MO_part_120 : decode b_MO_part 120 = .ok (.iload_n 1, 1) := by decide +kernel
theorem d_MO_part_121 : decode b_MO_part 121 = .ok (.iconst 1, 1) := by decide +kernel
theorem d_MO_part_122 : decode b_MO_part 122 = .ok (.if_icmp .ne 8, 3) := by decide +kernel
theorem d_MO_part_125 : decode b_MO_part 125 = .ok (.bipush (-109), 2) := by decide +kernel
theorem d_MO_part_127 : decode b_MO_part 127 = .ok (.goto 35, 3) := by decide +kernel
theorem d_MO_part_130 : decode b_MO_part 130 = .ok (.iload_n 1, 1) := by decide +kernel
theorem d_MO_part_131 : decode b_MO_part 131 = .ok (.iconst 2, 1) := by decide +kernel
theorem d_MO_part_132 : decode b_MO_part 132 = .ok (.if_icmp .ne 8, 3) := by decide +kernel
theorem d_MO_part_135 : decode b_MO_part 135 = .ok (.ldc 116, 2) := by decide +kernel
theorem d_MO_part_137 : decode b_MO_part 137 = .ok (.goto 25, 3) := by decide +kernel
theorem d_MO_part_140 : decode b_MO_part 140 = .ok (.iload_n 1, 1) := by decide +kernel
theorem d_MO_part_141 : decode b_MO_part 141 = .ok (.iconst 3, 1) := by decide +kernel
theorem d_MO_part_142 : decode b_MO_part 142 = .ok (.if_icmp .ne 8, 3) := by decide +kernel
theorem d_MO_part_145 : decode b_MO_part 145 = .ok (.bipush (-110), 2) := by decide +kernel
theorem d_MO_part_147 : decode b_MO_part 147 = .ok (.goto 15, 3) := by decide +kernel
theorem d_MO_part_150 : decode b_MO_part 150 = .ok (.iload_n 1, 1) := by decide +kernel
theorem d_MO_part_151 : decode b_MO_part 151 = .ok (.iconst 4, 1) := by decide +kernel
theorem d_MO_part_152 : decode b_MO_part 152 = .ok (.if_icmp .ne 8, 3) := by decide +kernel
theorem d_MO_part_155 : decode b_MO_part 155 = .ok (.bipush 100, 2) := by decide +kernel
theorem d_MO_part_157 : decode b_MO_part 157 = .ok (.goto 5, 3) := by decide +kernel
theorem d_MO_part_160 : decode b_MO_part 160 = .ok (.bipush (-112), 2) := by decide +kernel
theorem d_MO_part_162 : decode b_MO_part 162 = .ok (.ireturn, 1) := by decide +kernel
theorem d_MO_part_163 : decode b_MO_part 163 = .ok (.iload_n 1, 1) := by decide +kernel
theorem d_MO_part_164 : decode b_MO_part 164 = .ok (.ifCond .ne 8, 3) := by decide +kernel
theorem d_MO_part_167 : decode b_MO_part 167 = .ok (.bipush 9, 2) := by decide +kernel
theorem d_MO_part_169 : decode b_MO_part 169 = .ok (.goto 25, 3) := by decide +kernel
theorem d_MO_part_172 : decode b_MO_part 172 = .ok (.iload_n 1, 1) := by decide +kernel
theorem d_MO_part_173 : decode b_MO_part 173 = .ok (.iconst 1, 1) := by decide +kernel
theorem d_MO_part_174 : decode b_MO_part 174 = .ok (.if_icmp .ne 8, 3) := by decide +kernel
theorem d_MO_part_177 : decode b_MO_part 177 = .ok (.bipush (-111), 2) := by decide +kernel
theorem d_MO_part_179 : decode b_MO_part 179 = .ok (.goto 15, 3) := by decide +kernel
theorem d_MO_part_182 : decode b_MO_part 182 = .ok (.iload_n 1, 1) := by decide +kernel
theorem d_MO_part_183 : decode b_MO_part 183 = .ok (.iconst 2, 1) := by decide +kernel
theorem d_MO_part_184 : decode b_MO_part 184 = .ok (.if_icmp .ne 8, 3) := by decide +kernel
theorem d_MO_part_187 : decode b_MO_part 187 = .ok (.bipush 100, 2) := by decide +kernel
theorem d_MO_part_189 : decode b_MO_part 189 = .ok (.goto 5, 3) := by decide +kernel
theorem d_MO_part_192 : decode b_MO_part 192 = .ok (.bipush (-112), 2) := by decide +kernel
theorem d_MO_part_194 : decode b_MO_part 194 = .ok (.ireturn, 1) := by decide +kernel
theorem d_MO_part_195 : decode b_MO_part 195 = .ok (.iload_n 1, 1) := by decide +kernel
theorem d_MO_part_196 : decode b_MO_part 196 = .ok (.ifCond .ne 8, 3) := by decide +kernel
theorem d_MO_part_199 : decode b_MO_part 199 = .ok (.bipush 9, 2) := by decide +kernel
theorem d_MO_part_201 : decode b_MO_part 201 = .ok (.goto 25, 3) := by decide +kernel
theorem d_MO_part_204 : decode b_MO_part 204 = .ok (.iload_n 1, 1) := by decide +kernel
theorem d_MO_part_205 : decode b_MO_part 205 = .ok (.iconst 1, 1) := by decide +kernel
theorem d_MO_part_206 : decode b_MO_part 206 = .ok (.if_icmp .ne 8, 3) := by decide +kernel
theorem d_MO_part_209 : decode b_MO_part 209 = .ok (.bipush (-110), 2) := by decide +kernel
theorem d_MO_part_211 : decode b_MO_part 211 = .ok (.goto 15, 3) := by decide +kernel
theorem d_MO_part_214 : decode b_MO_part 214 = .ok (.iload_n 1, 1) := by decide +kernel
theorem d_MO_part_215 : decode b_MO_part 215 = .ok (.iconst 2, 1) := by decide +kernel
theorem d_MO_part_216 : decode b_MO_part 216 = .ok (.if_icmp .ne 8, 3) := by decide +kernel
theorem d_MO_part_219 : decode b_MO_part 219 = .ok (.bipush 100, 2) := by decide +kernel
theorem d_MO_part_221 : decode b_MO_part 221 = .ok (.goto 5, 3) := by decide +kernel
theorem d_MO_part_224 : decode b_MO_part 224 = .ok (.bipush (-112), 2) := by decide +kernel
theorem d_MO_part_226 : decode b_MO_part 226 = .ok (.ireturn, 1) := by decide +kernel
theorem d_MO_part_227 : decode b_MO_part 227 = .ok (.iload_n 1, 1) := by decide +kernel
theorem d_MO_part_228 : decode b_MO_part 228 = .ok (.ifCond .ne 9, 3) := by decide +kernel
theorem d_MO_part_231 : decode b_MO_part 231 = .ok (.sipush 1000, 3) := by decide +kernel
theorem d_MO_part_234 : decode b_MO_part 234 = .ok (.goto 5, 3) := by decide +kernel
theorem d_MO_part_237 : decode b_MO_part 237 = .ok (.bipush (-112), 2) := by decide +kernel
theorem d_MO_part_239 : decode b_MO_part 239 = .ok (.ireturn, 1) := by decide +kernel
theorem d_MO_part_240 : decode b_MO_part 240 = .ok (.iload_n 1, 1) := by decide +kernel
theorem d_MO_part_241 : decode b_MO_part 241 = .ok (.ifCond .ne 8, 3) := by decide +kernel
theorem d_MO_part_244 : decode b_MO_part 244 = .ok (.bipush 100, 2) := by decide +kernel
theorem d_MO_part_246 : decode b_MO_part 246 = .ok (.goto 5, 3) := by decide +kernel
theorem d_MO_part_249 : decode b_MO_part 249 = .ok (.bipush (-112), 2) := by decide +kernel
theorem d_MO_part_251 : decode b_MO_part 251 = .ok (.ireturn, 1) := by decide +kernel
theorem d_MO_number_0 : decode b_MO_number 0 = .ok (.aload_n 0, 1) := by decide +kernel
theorem d_MO_number_1 : decode b_MO_number 1 = .ok (.getfield 89, 3) := by decide +kernel
theorem d_MO_number_4 : decode b_MO_number 4 = .ok (.aload_n 0, 1) := by decide +kernel
theorem d_MO_number_5 : decode b_MO_number 5 = .ok (.getfield 86, 3) := by decide +kernel
theorem d_MO_number_8 : decode b_MO_number 8 = .ok (.if_icmp .eq 44, 3) := by decide +kernel
theorem d_MO_number_11 : decode b_MO_number 11 = .ok (.aload_n 0, 1) := by decide +kernel
theorem d_MO_number_12 : decode b_MO_number 12 = .ok (.getfield 9, 3) := by decide +kernel
theorem d_MO_number_15 : decode b_MO_number 15 = .ok (.aload_n 0, 1) := by decide +kernel
theorem d_MO_number_16 : decode b_MO_number 16 = .ok (.getfield 89, 3) := by decide +kernel
theorem d_MO_number_19 : decode b_MO_number 19 = .ok (.iaload, 1) := by decide +kernel
theorem d_MO_number_20 : decode b_MO_number 20 = .ok (.bipush 48, 2) := by decide +kernel
theorem d_MO_number_22 : decode b_MO_number 22 = .ok (.if_icmp .ne 16, 3) := by decide +kernel
theorem d_MO_number_25 : decode b_MO_number 25 = .ok (.aload_n 0, 1) := by decide +kernel
theorem d_MO_number_26 : decode b_MO_number 26 = .ok (.getfield 86, 3) := by decide +kernel
theorem d_MO_number_29 : decode b_MO_number 29 = .ok (.aload_n 0, 1) := by decide +kernel
theorem d_MO_number_30 : decode b_MO_number 30 = .ok (.getfield 89, 3) := by decide +kernel
theorem d_MO_number_33 : decode b_MO_number 33 = .ok (.isub, 1) := by decide +kernel
theorem d_MO_number_34 : decode b_MO_number 34 = .ok (.iconst 1, 1) := by decide +kernel
theorem d_MO_number_35 : decode b_MO_number 35 = .ok (.if_icmp .gt 17, 3) := by decide +kernel
theorem d_MO_number_38 : decode b_MO_number 38 = .ok (.aload_n 0, 1) := by decide +kernel
theorem d_MO_number_39 : decode b_MO_number 39 = .ok (.getfield 86, 3) := by decide +kernel
theorem d_MO_number_42 : decode b_MO_number 42 = .ok (.aload_n 0, 1) := by decide +kernel
theorem d_MO_number_43 : decode b_MO_number 43 = .ok (.getfield 89, 3) := by decide +kernel
theorem d_MO_number_46 : decode b_MO_number 46 = .ok (.isub, 1) := by decide +kernel
theorem d_MO_number_47 : decode b_MO_number 47 = .ok (.bipush 9, 2) := by decide +kernel
theorem d_MO_number_49 : decode b_MO_number 49 = .ok (.if_icmp .le 5, 3) := by decide +kernel
theorem d_MO_number_52 : decode b_MO_number 52 = .ok (.iconst (-1), 1) := by decide +kernel
theorem d_MO_number_53 : decode b_MO_number 53 = .ok (.ireturn, 1) := by decide +kernel
theorem d_MO_number_54 : decode b_MO_number 54 = .ok (.iconst 0, 1) := by decide +kernel
theorem d_MO_number_55 : decode b_MO_number 55 = .ok (.istore_n 2, 1) := by decide +kernel
theorem d_MO_number_56 : decode b_MO_number 56 = .ok (.aload_n 0, 1) := by decide +kernel
theorem d_MO_number_57 : decode b_MO_number 57 = .ok (.getfield 89, 3) := by decide +kernel
theorem d_MO_number_60 : decode b_MO_number 60 = .ok (.istore_n 3, 1) := by decide +kernel
theorem d_MO_number_61 : decode b_MO_number 61 = .ok (.iload_n 3, 1) := by decide +kernel
theorem d_MO_number_62 : decode b_MO_number 62 = .ok (.aload_n 0, 1) := by decide +kernel
theorem d_MO_number_63 : decode b_MO_number 63 = .ok (.getfield 86, 3) := by decide +kernel
theorem d_MO_number_66 : decode b_MO_number 66 = .ok (.if_icmp .ge 48, 3) := by decide +kernel
theorem d_MO_number_69 : decode b_MO_number 69 = .ok (.aload_n 0, 1) := by decide +kernel
theorem d_MO_number_70 : decode b_MO_number 70 = .ok (.getfield 9, 3) := by decide +kernel
theorem d_MO_number_73 : decode b_MO_number 73 = .ok (.iload_n 3, 1) := by decide +kernel
theorem d_MO_number_74 : decode b_MO_number 74 = .ok (.iaload, 1) := by decide +kernel
theorem d_MO_number_75 : decode b_MO_number 75 = .ok (.bipush 48, 2) := by decide +kernel
theorem d_MO_number_77 : decode b_MO_number 77 = .ok (.if_icmp .lt 14, 3) := by decide +kernel
theorem d_MO_number_80 : decode b_MO_number 80 = .ok (.aload_n 0, 1) := by decide +kernel
theorem d_MO_number_81 : decode b_MO_number 81 = .ok (.getfield 9, 3) := by decide +kernel
theorem d_MO_number_84 : decode b_MO_number 84 = .ok (.iload_n 3, 1) := by decide +kernel
theorem d_MO_number_85 : decode b_MO_number 85 = .ok (.iaload, 1) := by decide +kernel
theorem d_MO_number_86 : decode b_MO_number 86 = .ok (.bipush 57, 2) := by decide +kernel
theorem d_MO_number_88 : decode b_MO_number 88 = .ok (.if_icmp .le 5, 3) := by decide +kernel
theorem d_MO_number_91 : decode b_MO_number 91 = .ok (.iconst (-1), 1) := by decide +kernel
theorem d_MO_number_92 : decode b_MO_number 92 = .ok (.ireturn, 1) := by decide +kernel
theorem d_MO_number_93 : decode b_MO_number 93 = .ok (.bipush 10, 2) := by decide +kernel
theorem d_MO_number_95 : decode b_MO_number 95 = .ok (.iload_n 2, 1) := by decide +kernel
theorem d_MO_number_96 : decode b_MO_number 96 = .ok (.imul, 1) := by decide +kernel
theorem d_MO_number_97 : decode b_MO_number 97 = .ok (.aload_n 0, 1) := by decide +kernel
theorem d_MO_number_98 : decode b_MO_number 98 = .ok (.getfield 9, 3) := by decide +kernel
theorem d_MO_number_101 : decode b_MO_number 101 = .ok (.iload_n 3, 1) := by decide +kernel
theorem d_MO_number_102 : decode b_MO_number 102 = .ok (.iaload, 1) := by decide +kernel
theorem d_MO_number_103 : decode b_MO_number 103 = .ok (.iadd, 1) := by decide +kernel
theorem d_MO_number_104 : decode b_MO_number 104 = .ok (.bipush 48, 2) := by decide +kernel
theorem d_MO_number_106 : decode b_MO_number 106 = .ok (.isub, 1) := by decide +kernel
theorem d_MO_number_107 : decode b_MO_number 107 = .ok (.istore_n 2, 1) := by decide +kernel
theorem d_MO_number_108 : decode b_MO_number 108 = .ok (.iinc 3 1, 3) := by decide +kernel
theorem d_MO_number_111 : decode b_MO_number 111 = .ok (.goto (-50), 3) := by decide +kernel
theorem d_MO_number_114 : decode b_MO_number 114 = .ok (.iload_n 2, 1) := by decide +kernel
theorem d_MO_number_115 : decode b_MO_number 115 = .ok (.iload_n 1, 1) := by decide +kernel
theorem d_MO_number_116 : decode b_MO_number 116 = .ok (.if_icmp .le 7, 3) := by decide +kernel
theorem d_MO_number_119 : decode b_MO_number 119 = .ok (.iconst (-1), 1) := by decide +kernel
theorem d_MO_number_120 : decode b_MO_number 120 = .ok (.goto 4, 3) := by decide +kernel
theorem d_MO_number_123 : decode b_MO_number 123 = .ok (.iload_n 2, 1) := by decide +kernel
theorem d_MO_number_124 : decode b_MO_number 124 = .ok (.ireturn, 1) := by decide +kernel
theorem d_MO_edition_0 : decode b_MO_edition 0 = .ok (.lload_n 1, 1) := by decide +kernel
theorem d_MO_edition_1 : decode b_MO_edition 1 = .ok (.lconst 0, 1) := by decide +kernel
theorem d_MO_edition_2 : decode b_MO_edition 2 = .ok (.lcmp, 1) := by decide +kernel
theorem d_MO_edition_3 : decode b_MO_edition 3 = .ok (.ifCond .lt 11, 3) := by decide +kernel
theorem d_MO_edition_6 : decode b_MO_edition 6 = .ok (.lload_n 1, 1) := by decide +kernel
theorem d_MO_edition_7 : decode b_MO_edition 7 = .ok (.ldc2_w 132, 3) := by decide +kernel
theorem d_MO_edition_10 : decode b_MO_edition 10 = .ok (.lcmp, 1) := by decide +kernel
theorem d_MO_edition_11 : decode b_MO_edition 11 = .ok (.ifCond .le 5, 3) := by decide +kernel
theorem d_MO_edition_14 : decode b_MO_edition 14 = .ok (.iconst (-1), 1) := by decide +kernel
theorem d_MO_edition_15 : decode b_MO_edition 15 = .ok (.ireturn, 1) := by decide +kernel
theorem d_MO_edition_16 : decode b_MO_edition 16 = .ok (.aload_n 0, 1) := by decide +kernel
theorem d_MO_edition_17 : decode b_MO_edition 17 = .ok (.getfield 134, 3) := by decide +kernel
theorem d_MO_edition_20 : decode b_MO_edition 20 = .ok (.bipush 10, 2) := by decide +kernel
theorem d_MO_edition_22 : decode b_MO_edition 22 = .ok (.if_icmp .ne 6, 3) := by decide +kernel
theorem d_MO_edition_25 : decode b_MO_edition 25 = .ok (.bipush (-2), 2) := by decide +kernel
theorem d_MO_edition_27 : decode b_MO_edition 27 = .ok (.ireturn, 1) := by decide +kernel
theorem d_MO_edition_28 : decode b_MO_edition 28 = .ok (.iconst 0, 1) := by decide +kernel
theorem d_MO_edition_29 : decode b_MO_edition 29 = .ok (.istore_n 3, 1) := by decide +kernel
theorem d_MO_edition_30 : decode b_MO_edition 30 = .ok (.iload_n 3, 1) := by decide +kernel
theorem d_MO_edition_31 : decode b_MO_edition 31 = .ok (.sipush 200, 3) := by decide +kernel
theorem d_MO_edition_34 : decode b_MO_edition 34 = .ok (.if_icmp .ge 35, 3) := by decide +kernel
theorem d_MO_edition_37 : decode b_MO_edition 37 = .ok (.aload_n 0, 1) := by decide +kernel
theorem d_MO_edition_38 : decode b_MO_edition 38 = .ok (.getfield 16, 3) := by decide +kernel
theorem d_MO_edition_41 : decode b_MO_edition 41 = .ok (.aload_n 0, 1) := by decide +kernel
theorem d_MO_edition_42 : decode b_MO_edition 42 = .ok (.getfield 134, 3) := by decide +kernel
theorem d_MO_edition_45 : decode b_MO_edition 45 = .ok (.bipush 40, 2) := by decide +kernel
theorem d_MO_edition_47 : decode b_MO_edition 47 = .ok (.imul, 1) := by decide +kernel
theorem d_MO_edition_48 : decode b_MO_edition 48 = .ok (.iconst 5, 1) := by decide +kernel
theorem d_MO_edition_49 : decode b_MO_edition 49 = .ok (.imul, 1) := by decide +kernel
theorem d_MO_edition_50 : decode b_MO_edition 50 = .ok (.iload_n 3, 1) := by decide +kernel
theorem d_MO_edition_51 : decode b_MO_edition 51 = .ok (.iadd, 1) := by decide +kernel
theorem d_MO_edition_52 : decode b_MO_edition 52 = .ok (.aload_n 0, 1) := by decide +kernel
theorem d_MO_edition_53 : decode b_MO_edition 53 = .ok (.getfield 16, 3) := by decide +kernel
theorem d_MO_edition_56 : decode b_MO_edition 56 = .ok (.sipush 2000, 3) := by decide +kernel
theorem d_MO_edition_59 : decode b_MO_edition 59 = .ok (.iload_n 3, 1) := by decide +kernel
theorem d_MO_edition_60 : decode b_MO_edition 60 = .ok (.iadd, 1) := by decide +kernel
theorem d_MO_edition_61 : decode b_MO_edition 61 = .ok (.iaload, 1) := by decide +kernel
theorem d_MO_edition_62 : decode b_MO_edition 62 = .ok (.iastore, 1) := by decide +kernel
theorem d_MO_edition_63 : decode b_MO_edition 63 = .ok (.iinc 3 1, 3) := by decide +kernel
theorem d_MO_edition_66 : decode b_MO_edition 66 = .ok (.goto (-36), 3) := by decide +kernel
theorem d_MO_edition_69 : decode b_MO_edition 69 = .ok (.aload_n 0, 1) := by decide +kernel
theorem d_MO_edition_70 : decode b_MO_edition 70 = .ok (.getfield 19, 3) := by decide +kernel
theorem d_MO_edition_73 : decode b_MO_edition 73 = .ok (.aload_n 0, 1) := by decide +kernel
theorem d_MO_edition_74 : decode b_MO_edition 74 = .ok (.getfield 134, 3) := by decide +kernel
theorem d_MO_edition_77 : decode b_MO_edition 77 = .ok (.aload_n 0, 1) := by decide +kernel
theorem d_MO_edition_78 : decode b_MO_edition 78 = .ok (.getfield 19, 3) := by decide +kernel
theorem d_MO_edition_81 : decode b_MO_edition 81 = .ok (.bipush 10, 2) := by decide +kernel
theorem d_MO_edition_83 : decode b_MO_edition 83 = .ok (.iaload, 1) := by decide +kernel
theorem d_MO_edition_84 : decode b_MO_edition 84 = .ok (.iastore, 1) := by decide +kernel
theorem d_MO_edition_85 : decode b_MO_edition 85 = .ok (.aload_n 0, 1) := by decide +kernel
theorem d_MO_edition_86 : decode b_MO_edition 86 = .ok (.getfield 22, 3) := by decide +kernel
theorem d_MO_edition_89 : decode b_MO_edition 89 = .ok (.aload_n 0, 1) := by decide +kernel
theorem d_MO_edition_90 : decode b_MO_edition 90 = .ok (.getfield 134, 3) := by decide +kernel
theorem d_MO_edition_93 : decode b_MO_edition 93 = .ok (.lload_n 1, 1) := by decide +kernel
theorem d_MO_edition_94 : decode b_MO_edition 94 = .ok (.lastore, 1) := by decide +kernel
theorem d_MO_edition_95 : decode b_MO_edition 95 = .ok (.aload_n 0, 1) := by decide +kernel
theorem d_MO_edition_96 : decode b_MO_edition 96 = .ok (.dup, 1) := by decide +kernel
theorem d_MO_edition_97 : decode b_MO_edition 97 = .ok (.getfield 134, 3) := by decide +kernel
theorem d_MO_edition_100 : decode b_MO_edition 100 = .ok (.iconst 1, 1) := by decide +kernel
theorem d_MO_edition_101 : decode b_MO_edition 101 = .ok (.iadd, 1) := by decide +kernel
theorem d_MO_edition_102 : decode b_MO_edition 102 = .ok (.putfield 134, 3) := by decide +kernel
theorem d_MO_edition_105 : decode b_MO_edition 105 = .ok (.aload_n 0, 1) := by decide +kernel
theorem d_MO_edition_106 : decode b_MO_edition 106 = .ok (.getfield 134, 3) := by decide +kernel
theorem d_MO_edition_109 : decode b_MO_edition 109 = .ok (.iconst 1, 1) := by decide +kernel
theorem d_MO_edition_110 : decode b_MO_edition 110 = .ok (.isub, 1) := by decide +kernel
theorem d_MO_edition_111 : decode b_MO_edition 111 = .ok (.ireturn, 1) := by decide +kernel
theorem d_MO_write_0 : decode b_MO_write 0 = .ok (.aload_n 0, 1) := by decide +kernel
theorem d_MO_write_1 : decode b_MO_write 1 = .ok (.iload_n 1, 1) := by decide +kernel
theorem d_MO_write_2 : decode b_MO_write 2 = .ok (.putfield 140, 3) := by decide +kernel
theorem d_MO_write_5 : decode b_MO_write 5 = .ok (.aload_n 0, 1) := by decide +kernel
theorem d_MO_write_6 : decode b_MO_write 6 = .ok (.iconst (-1), 1) := by decide +kernel
theorem d_MO_write_7 : decode b_MO_write 7 = .ok (.putfield 143, 3) := by decide +kernel
theorem d_MO_write_10 : decode b_MO_write 10 = .ok (.aload_n 0, 1) := by decide +kernel
theorem d_MO_write_11 : decode b_MO_write 11 = .ok (.iconst 0, 1) := by decide +kernel
theorem d_MO_write_12 : decode b_MO_write 12 = .ok (.putfield 137, 3) := by decide +kernel
theorem d_MO_write_15 : decode b_MO_write 15 = .ok (.iconst 0, 1) := by decide +kernel
theorem d_MO_write_16 : decode b_MO_write 16 = .ok (.istore_n 2, 1) := by decide +kernel
theorem d_MO_write_17 : decode b_MO_write 17 = .ok (.iload_n 2, 1) := by decide +kernel
theorem d_MO_write_18 : decode b_MO_write 18 = .ok (.aload_n 0, 1) := by decide +kernel
theorem d_MO_write_19 : decode b_MO_write 19 = .ok (.getfield 19, 3) := by decide +kernel
theorem d_MO_write_22 : decode b_MO_write 22 = .ok (.bipush 10, 2) := by decide +kernel
theorem d_MO_write_24 : decode b_MO_write 24 = .ok (.iaload, 1) := by decide +kernel
theorem d_MO_write_25 : decode b_MO_write 25 = .ok (.if_icmp .ge 119, 3) := by decide +kernel
theorem d_MO_write_28 : decode b_MO_write 28 = .ok (.sipush 2000, 3) := by decide +kernel
theorem d_MO_write_31 : decode b_MO_write 31 = .ok (.iconst 5, 1) := by decide +kernel
theorem d_MO_write_32 : decode b_MO_write 32 = .ok (.iload_n 2, 1) := by decide +kernel
theorem d_MO_write_33 : decode b_MO_write 33 = .ok (.imul, 1) := by decide +kernel
theorem d_MO_write_34 : decode b_MO_write 34 = .ok (.iadd, 1) := by decide +kernel
theorem d_MO_write_35 : decode b_MO_write 35 = .ok (.istore_n 3, 1) := by decide +kernel
theorem d_MO_write_36 : decode b_MO_write 36 = .ok (.aload_n 0, 1) := by decide +kernel
theorem d_MO_write_37 : decode b_MO_write 37 = .ok (.aload_n 0, 1) := by decide +kernel
theorem d_MO_write_38 : decode b_MO_write 38 = .ok (.getfield 16, 3) := by decide +kernel
theorem d_MO_write_41 : decode b_MO_write 41 = .ok (.iload_n 3, 1) := by decide +kernel
theorem d_MO_write_42 : decode b_MO_write 42 = .ok (.iaload, 1) := by decide +kernel
theorem d_MO_write_43 : decode b_MO_write 43 = .ok (.invokevirtual 150, 3) := by decide +kernel
theorem d_MO_write_46 : decode b_MO_write 46 = .ok (.iconst 0, 1) := by decide +kernel
theorem d_MO_write_47 : decode b_MO_write 47 = .ok (.istore 4, 2) := by decide +kernel
theorem d_MO_write_49 : decode b_MO_write 49 = .ok (.iconst 0, 1) := by decide +kernel
theorem d_MO_write_50 : decode b_MO_write 50 = .ok (.istore 5, 2) := by decide +kernel
theorem d_MO_write_52 : decode b_MO_write 52 = .ok (.aload_n 0, 1) := by decide +kernel
theorem d_MO_write_53 : decode b_MO_write 53 = .ok (.getfield 16, 3) := by decide +kernel
theorem d_MO_write_56 : decode b_MO_write 56 = .ok (.iload_n 3, 1) := by decide +kernel
theorem d_MO_write_57 : decode b_MO_write 57 = .ok (.iaload, 1) := by decide +kernel
theorem d_MO_write_58 : decode b_MO_write 58 = .ok (.iload 5, 2) := by decide +kernel
theorem d_MO_write_60 : decode b_MO_write 60 = .ok (.invokestatic 123, 3) := by decide +kernel
theorem d_MO_write_63 : decode b_MO_write 63 = .ok (.bipush (-112), 2) := by decide +kernel
theorem d_MO_write_65 : decode b_MO_write 65 = .ok (.if_icmp .eq 61, 3) := by decide +kernel
theorem d_MO_write_68 : decode b_MO_write 68 = .ok (.aload_n 0, 1) := by decide +kernel
theorem d_MO_write_69 : decode b_MO_write 69 = .ok (.bipush 32, 2) := by decide +kernel
theorem d_MO_write_71 : decode b_MO_write 71 = .ok (.invokevirtual 146, 3) := by decide +kernel
theorem d_MO_write_74 : decode b_MO_write 74 = .ok (.aload_n 0, 1) := by decide +kernel
theorem d_MO_write_75 : decode b_MO_write 75 = .ok (.getfield 16, 3) := by decide +kernel
theorem d_MO_write_78 : decode b_MO_write 78 = .ok (.iload_n 3, 1) := by decide +kernel
theorem d_MO_write_79 : decode b_MO_write 79 = .ok (.iaload, 1) := by decide +kernel
theorem d_MO_write_80 : decode b_MO_write 80 = .ok (.iload 5, 2) := by decide +kernel
theorem d_MO_write_82 : decode b_MO_write 82 = .ok (.invokestatic 123, 3) := by decide +kernel
theorem d_MO_write_85 : decode b_MO_write 85 = .ok (.istore 6, 2) := by decide +kernel
theorem d_MO_write_87 : decode b_MO_write 87 = .ok (.iload 6, 2) := by decide +kernel
theorem d_MO_write_89 : decode b_MO_write 89 = .ok (.ifCond .ge 15, 3) := by decide +kernel
theorem d_MO_write_92 : decode b_MO_write 92 = .ok (.aload_n 0, 1) := by decide +kernel
theorem d_MO_write_93 : decode b_MO_write 93 = .ok (.bipush (-100), 2) := by decide +kernel
theorem d_MO_write_95 : decode b_MO_write 95 = .ok (.iload 6, 2) := by decide +kernel
theorem d_MO_write_97 : decode b_MO_write 97 = .ok (.isub, 1) := by decide +kernel
theorem d_MO_write_98 : decode b_MO_write 98 = .ok (.invokevirtual 150, 3) := by decide +kernel
theorem d_MO_write_101 : decode b_MO_write 101 = .ok (.goto 19, 3) := by decide +kernel
theorem d_MO_write_104 : decode b_MO_write 104 = .ok (.iinc 4 1, 3) := by decide +kernel
theorem d_MO_write_107 : decode b_MO_write 107 = .ok (.aload_n 0, 1) := by decide +kernel
theorem d_MO_write_108 : decode b_MO_write 108 = .ok (.aload_n 0, 1) := by decide +kernel
theorem d_MO_write_109 : decode b_MO_write 109 = .ok (.getfield 16, 3) := by decide +kernel
theorem d_MO_write_112 : decode b_MO_write 112 = .ok (.iload_n 3, 1) := by decide +kernel
theorem d_MO_write_113 : decode b_MO_write 113 = .ok (.iload 4, 2) := by decide +kernel
theorem d_MO_write_115 : decode b_MO_write 115 = .ok (.iadd, 1) := by decide +kernel
theorem d_MO_write_116 : decode b_MO_write 116 = .ok (.iaload, 1) := by decide +kernel
theorem d_MO_write_117 : decode b_MO_write 117 = .ok (.invokevirtual 153, 3) := by decide +kernel
theorem d_MO_write_120 : decode b_MO_write 120 = .ok (.iinc 5 1, 3) := by decide +kernel
theorem d_MO_write_123 : decode b_MO_write 123 = .ok (.goto (-71), 3) := by decide +kernel
theorem d_MO_write_126 : decode b_MO_write 126 = .ok (.aload_n 0, 1) := by decide +kernel
theorem d_MO_write_127 : decode b_MO_write 127 = .ok (.bipush 59, 2) := by decide +kernel
theorem d_MO_write_129 : decode b_MO_write 129 = .ok (.invokevirtual 146, 3) := by decide +kernel
theorem d_MO_write_132 : decode b_MO_write 132 = .ok (.aload_n 0, 1) := by decide +kernel
theorem d_MO_write_133 : decode b_MO_write 133 = .ok (.bipush 10, 2) := by decide +kernel
theorem d_MO_write_135 : decode b_MO_write 135 = .ok (.invokevirtual 146, 3) := by decide +kernel
theorem d_MO_write_138 : decode b_MO_write 138 = .ok (.iinc 2 1, 3) := by decide +kernel
theorem d_MO_write_141 : decode b_MO_write 141 = .ok (.goto (-124), 3) := by decide +kernel
theorem d_MO_write_144 : decode b_MO_write 144 = .ok (.aload_n 0, 1) := by decide +kernel
theorem d_MO_write_145 : decode b_MO_write 145 = .ok (.getfield 143, 3) := by decide +kernel
theorem d_MO_write_148 : decode b_MO_write 148 = .ok (.ireturn, 1) := by decide +kernel
theorem d_MO_say_0 : decode b_MO_say 0 = .ok (.iconst 0, 1) := by decide +kernel
theorem d_MO_say_1 : decode b_MO_say 1 = .ok (.istore_n 2, 1) := by decide +kernel
theorem d_MO_say_2 : decode b_MO_say 2 = .ok (.iload_n 2, 1) := by decide +kernel
theorem d_MO_say_3 : decode b_MO_say 3 = .ok (.iload_n 1, 1) := by decide +kernel
theorem d_MO_say_4 : decode b_MO_say 4 = .ok (.invokestatic 99, 3) := by decide +kernel
theorem d_MO_say_7 : decode b_MO_say 7 = .ok (.if_icmp .ge 18, 3) := by decide +kernel
theorem d_MO_say_10 : decode b_MO_say 10 = .ok (.aload_n 0, 1) := by decide +kernel
theorem d_MO_say_11 : decode b_MO_say 11 = .ok (.iload_n 1, 1) := by decide +kernel
theorem d_MO_say_12 : decode b_MO_say 12 = .ok (.iload_n 2, 1) := by decide +kernel
theorem d_MO_say_13 : decode b_MO_say 13 = .ok (.invokestatic 103, 3) := by decide +kernel
theorem d_MO_say_16 : decode b_MO_say 16 = .ok (.invokevirtual 146, 3) := by decide +kernel
theorem d_MO_say_19 : decode b_MO_say 19 = .ok (.iinc 2 1, 3) := by decide +kernel
theorem d_MO_say_22 : decode b_MO_say 22 = .ok (.goto (-20), 3) := by decide +kernel
theorem d_MO_say_25 : decode b_MO_say 25 = .ok (.return_, 1) := by decide +kernel
theorem d_MO_put_0 : decode b_MO_put 0 = .ok (.aload_n 0, 1) := by decide +kernel
theorem d_MO_put_1 : decode b_MO_put 1 = .ok (.aload_n 0, 1) := by decide +kernel
theorem d_MO_put_2 : decode b_MO_put 2 = .ok (.getfield 137, 3) := by decide +kernel
theorem d_MO_put_5 : decode b_MO_put 5 = .ok (.aload_n 0, 1) := by decide +kernel
theorem d_MO_put_6 : decode b_MO_put 6 = .ok (.getfield 140, 3) := by decide +kernel
theorem d_MO_put_9 : decode b_MO_put 9 = .ok (.if_icmp .ne 7, 3) := by decide +kernel
theorem d_MO_put_12 : decode b_MO_put 12 = .ok (.iload_n 1, 1) := by decide +kernel
theorem d_MO_put_13 : decode b_MO_put 13 = .ok (.goto 7, 3) := by decide +kernel
theorem d_MO_put_16 : decode b_MO_put 16 = .ok (.aload_n 0, 1) := by decide +kernel
theorem d_MO_put_17 : decode b_MO_put 17 = .ok (.getfield 143, 3) := by decide +kernel
theorem d_MO_put_20 : decode b_MO_put 20 = .ok (.putfield 143, 3) := by decide +kernel
theorem d_MO_put_23 : decode b_MO_put 23 = .ok (.aload_n 0, 1) := by decide +kernel
theorem d_MO_put_24 : decode b_MO_put 24 = .ok (.dup, 1) := by decide +kernel
theorem d_MO_put_25 : decode b_MO_put 25 = .ok (.getfield 137, 3) := by decide +kernel
theorem d_MO_put_28 : decode b_MO_put 28 = .ok (.iconst 1, 1) := by decide +kernel
theorem d_MO_put_29 : decode b_MO_put 29 = .ok (.iadd, 1) := by decide +kernel
theorem d_MO_put_30 : decode b_MO_put 30 = .ok (.putfield 137, 3) := by decide +kernel
theorem d_MO_put_33 : decode b_MO_put 33 = .ok (.return_, 1) := by decide +kernel
theorem d_MO_digits_0 : decode b_MO_digits 0 = .ok (.iconst 1, 1) := by decide +kernel
theorem d_MO_digits_1 : decode b_MO_digits 1 = .ok (.istore_n 2, 1) := by decide +kernel
theorem d_MO_digits_2 : decode b_MO_digits 2 = .ok (.iload_n 1, 1) := by decide +kernel
theorem d_MO_digits_3 : decode b_MO_digits 3 = .ok (.iload_n 2, 1) := by decide +kernel
theorem d_MO_digits_4 : decode b_MO_digits 4 = .ok (.idiv, 1) := by decide +kernel
theorem d_MO_digits_5 : decode b_MO_digits 5 = .ok (.bipush 9, 2) := by decide +kernel
theorem d_MO_digits_7 : decode b_MO_digits 7 = .ok (.if_icmp .le 11, 3) := by decide +kernel
theorem d_MO_digits_10 : decode b_MO_digits 10 = .ok (.iload_n 2, 1) := by decide +kernel
theorem d_MO_digits_11 : decode b_MO_digits 11 = .ok (.bipush 10, 2) := by decide +kernel
theorem d_MO_digits_13 : decode b_MO_digits 13 = .ok (.imul, 1) := by decide +kernel
theorem d_MO_digits_14 : decode b_MO_digits 14 = .ok (.istore_n 2, 1) := by decide +kernel
theorem d_MO_digits_15 : decode b_MO_digits 15 = .ok (.goto (-13), 3) := by decide +kernel
theorem d_MO_digits_18 : decode b_MO_digits 18 = .ok (.iload_n 2, 1) := by decide +kernel
theorem d_MO_digits_19 : decode b_MO_digits 19 = .ok (.ifCond .le 24, 3) := by decide +kernel
theorem d_MO_digits_22 : decode b_MO_digits 22 = .ok (.aload_n 0, 1) := by decide +kernel
theorem d_MO_digits_23 : decode b_MO_digits 23 = .ok (.bipush 48, 2) := by decide +kernel
theorem d_MO_digits_25 : decode b_MO_digits 25 = .ok (.iload_n 1, 1) := by decide +kernel
theorem d_MO_digits_26 : decode b_MO_digits 26 = .ok (.iload_n 2, 1) := by decide +kernel
theorem d_MO_digits_27 : decode b_MO_digits 27 = .ok (.idiv, 1) := by decide +kernel
theorem d_MO_digits_28 : decode b_MO_digits 28 = .ok (.bipush 10, 2) := by decide +kernel
theorem d_MO_digits_30 : decode b_MO_digits 30 = .ok (.irem, 1) := by decide +kernel
theorem d_MO_digits_31 : decode b_MO_digits 31 = .ok (.iadd, 1) := by decide +kernel
theorem d_MO_digits_32 : decode b_MO_digits 32 = .ok (.invokevirtual 146, 3) := by decide +kernel
theorem d_MO_digits_35 : decode b_MO_digits 35 = .ok (.iload_n 2, 1) := by decide +kernel
theorem d_MO_digits_36 : decode b_MO_digits 36 = .ok (.bipush 10, 2) := by decide +kernel
theorem d_MO_digits_38 : decode b_MO_digits 38 = .ok (.idiv, 1) := by decide +kernel
theorem d_MO_digits_39 : decode b_MO_digits 39 = .ok (.istore_n 2, 1) := by decide +kernel
theorem d_MO_digits_40 : decode b_MO_digits 40 = .ok (.goto (-22), 3) := by decide +kernel
theorem d_MO_digits_43 : decode b_MO_digits 43 = .ok (.return_, 1) := by decide +kernel
theorem d_MO_fact_0 : decode b_MO_fact 0 = .ok (.iload_n 1, 1) := by decide +kernel
theorem d_MO_fact_1 : decode b_MO_fact 1 = .ok (.invokestatic 164, 3) := by decide +kernel
theorem d_MO_fact_4 : decode b_MO_fact 4 = .ok (.ifCond .eq 46, 3) := by decide +kernel
theorem d_MO_fact_7 : decode b_MO_fact 7 = .ok (.iload_n 2, 1) := by decide +kernel
theorem d_MO_fact_8 : decode b_MO_fact 8 = .ok (.ifCond .lt 42, 3) := by decide +kernel
theorem d_MO_fact_11 : decode b_MO_fact 11 = .ok (.iload_n 2, 1) := by decide +kernel
theorem d_MO_fact_12 : decode b_MO_fact 12 = .ok (.bipush 6, 2) := by decide +kernel
theorem d_MO_fact_14 : decode b_MO_fact 14 = .ok (.if_icmp .ge 36, 3) := by decide +kernel
theorem d_MO_fact_17 : decode b_MO_fact 17 = .ok (.lload_n 3, 1) := by decide +kernel
theorem d_MO_fact_18 : decode b_MO_fact 18 = .ok (.invokestatic 167, 3) := by decide +kernel
theorem d_MO_fact_21 : decode b_MO_fact 21 = .ok (.ifCond .eq 29, 3) := by decide +kernel
theorem d_MO_fact_24 : decode b_MO_fact 24 = .ok (.lload 7, 2) := by decide +kernel
theorem d_MO_fact_26 : decode b_MO_fact 26 = .ok (.lconst 1, 1) := by decide +kernel
theorem d_MO_fact_27 : decode b_MO_fact 27 = .ok (.lcmp, 1) := by decide +kernel
theorem d_MO_fact_28 : decode b_MO_fact 28 = .ok (.ifCond .lt 22, 3) := by decide +kernel
theorem d_MO_fact_31 : decode b_MO_fact 31 = .ok (.lload 7, 2) := by decide +kernel
theorem d_MO_fact_33 : decode b_MO_fact 33 = .ok (.ldc2_w 171, 3) := by decide +kernel
theorem d_MO_fact_36 : decode b_MO_fact 36 = .ok (.lcmp, 1) := by decide +kernel
theorem d_MO_fact_37 : decode b_MO_fact 37 = .ok (.ifCond .gt 13, 3) := by decide +kernel
theorem d_MO_fact_40 : decode b_MO_fact 40 = .ok (.lload 5, 2) := by decide +kernel
theorem d_MO_fact_42 : decode b_MO_fact 42 = .ok (.lload 7, 2) := by decide +kernel
theorem d_MO_fact_44 : decode b_MO_fact 44 = .ok (.lrem, 1) := by decide +kernel
theorem d_MO_fact_45 : decode b_MO_fact 45 = .ok (.lconst 0, 1) := by decide +kernel
theorem d_MO_fact_46 : decode b_MO_fact 46 = .ok (.lcmp, 1) := by decide +kernel
theorem d_MO_fact_47 : decode b_MO_fact 47 = .ok (.ifCond .eq 5, 3) := by decide +kernel
theorem d_MO_fact_50 : decode b_MO_fact 50 = .ok (.iconst 0, 1) := by decide +kernel
theorem d_MO_fact_51 : decode b_MO_fact 51 = .ok (.ireturn, 1) := by decide +kernel
theorem d_MO_fact_52 : decode b_MO_fact 52 = .ok (.lload 5, 2) := by decide +kernel
theorem d_MO_fact_54 : decode b_MO_fact 54 = .ok (.lload 7, 2) := by decide +kernel
theorem d_MO_fact_56 : decode b_MO_fact 56 = .ok (.ldiv, 1) := by decide +kernel
theorem d_MO_fact_57 : decode b_MO_fact 57 = .ok (.lstore 9, 2) := by decide +kernel
theorem d_MO_fact_59 : decode b_MO_fact 59 = .ok (.lload 9, 2) := by decide +kernel
theorem d_MO_fact_61 : decode b_MO_fact 61 = .ok (.lconst 0, 1) := by decide +kernel
theorem d_MO_fact_62 : decode b_MO_fact 62 = .ok (.lcmp, 1) := by decide +kernel
theorem d_MO_fact_63 : decode b_MO_fact 63 = .ok (.ifCond .lt 23, 3) := by decide +kernel
theorem d_MO_fact_66 : decode b_MO_fact 66 = .ok (.lload 9, 2) := by decide +kernel
theorem d_MO_fact_68 : decode b_MO_fact 68 = .ok (.iload_n 2, 1) := by decide +kernel
theorem d_MO_fact_69 : decode b_MO_fact 69 = .ok (.invokestatic 173, 3) := by decide +kernel
theorem d_MO_fact_72 : decode b_MO_fact 72 = .ok (.lcmp, 1) := by decide +kernel
theorem d_MO_fact_73 : decode b_MO_fact 73 = .ok (.ifCond .gt 13, 3) := by decide +kernel
theorem d_MO_fact_76 : decode b_MO_fact 76 = .ok (.aload_n 0, 1) := by decide +kernel
theorem d_MO_fact_77 : decode b_MO_fact 77 = .ok (.getfield 177, 3) := by decide +kernel
theorem d_MO_fact_80 : decode b_MO_fact 80 = .ok (.sipush 300, 3) := by decide +kernel
theorem d_MO_fact_83 : decode b_MO_fact 83 = .ok (.if_icmp .ne 5, 3) := by decide +kernel
theorem d_MO_fact_86 : decode b_MO_fact 86 = .ok (.iconst 0, 1) := by decide +kernel
theorem d_MO_fact_87 : decode b_MO_fact 87 = .ok (.ireturn, 1) := by decide +kernel
theorem d_MO_fact_88 : decode b_MO_fact 88 = .ok (.aload_n 0, 1) := by decide +kernel
theorem d_MO_fact_89 : decode b_MO_fact 89 = .ok (.getfield 26, 3) := by decide +kernel
theorem d_MO_fact_92 : decode b_MO_fact 92 = .ok (.aload_n 0, 1) := by decide +kernel
theorem d_MO_fact_93 : decode b_MO_fact 93 = .ok (.getfield 177, 3) := by decide +kernel
theorem d_MO_fact_96 : decode b_MO_fact 96 = .ok (.iload_n 1, 1) := by decide +kernel
theorem d_MO_fact_97 : decode b_MO_fact 97 = .ok (.iastore, 1) := by decide +kernel
theorem d_MO_fact_98 : decode b_MO_fact 98 = .ok (.aload_n 0, 1) := by decide +kernel
theorem d_MO_fact_99 : decode b_MO_fact 99 = .ok (.getfield 29, 3) := by decide +kernel
theorem d_MO_fact_102 : decode b_MO_fact 102 = .ok (.aload_n 0, 1) := by decide +kernel
theorem d_MO_fact_103 : decode b_MO_fact 103 = .ok (.getfield 177, 3) := by decide +kernel
theorem d_MO_fact_106 : decode b_MO_fact 106 = .ok (.iload_n 2, 1) := by decide +kernel
theorem d_MO_fact_107 : decode b_MO_fact 107 = .ok (.iastore, 1) := by decide +kernel
theorem d_MO_fact_108 : decode b_MO_fact 108 = .ok (.aload_n 0, 1) := by decide +kernel
theorem d_MO_fact_109 : decode b_MO_fact 109 = .ok (.getfield 32, 3) := by decide +kernel
theorem d_MO_fact_112 : decode b_MO_fact 112 = .ok (.aload_n 0, 1) := by decide +kernel
theorem d_MO_fact_113 : decode b_MO_fact 113 = .ok (.getfield 177, 3) := by decide +kernel
theorem d_MO_fact_116 : decode b_MO_fact 116 = .ok (.lload_n 3, 1) := by decide +kernel
theorem d_MO_fact_117 : decode b_MO_fact 117 = .ok (.lastore, 1) := by decide +kernel
theorem d_MO_fact_118 : decode b_MO_fact 118 = .ok (.aload_n 0, 1) := by decide +kernel
theorem d_MO_fact_119 : decode b_MO_fact 119 = .ok (.getfield 35, 3) := by decide +kernel
theorem d_MO_fact_122 : decode b_MO_fact 122 = .ok (.aload_n 0, 1) := by decide +kernel
theorem d_MO_fact_123 : decode b_MO_fact 123 = .ok (.getfield 177, 3) := by decide +kernel
theorem d_MO_fact_126 : decode b_MO_fact 126 = .ok (.lload_n 3, 1) := by decide +kernel
theorem d_MO_fact_127 : decode b_MO_fact 127 = .ok (.lastore, 1) := by decide +kernel
theorem d_MO_fact_128 : decode b_MO_fact 128 = .ok (.aload_n 0, 1) := by decide +kernel
theorem d_MO_fact_129 : decode b_MO_fact 129 = .ok (.getfield 38, 3) := by decide +kernel
theorem d_MO_fact_132 : decode b_MO_fact 132 = .ok (.aload_n 0, 1) := by decide +kernel
theorem d_MO_fact_133 : decode b_MO_fact 133 = .ok (.getfield 177, 3) := by decide +kernel
theorem d_MO_fact_136 : decode b_MO_fact 136 = .ok (.lload 9, 2) := by decide +kernel
theorem d_MO_fact_138 : decode b_MO_fact 138 = .ok (.lastore, 1) := by decide +kernel
theorem d_MO_fact_139 : decode b_MO_fact 139 = .ok (.aload_n 0, 1) := by decide +kernel
theorem d_MO_fact_140 : decode b_MO_fact 140 = .ok (.dup, 1) := by decide +kernel
theorem d_MO_fact_141 : decode b_MO_fact 141 = .ok (.getfield 177, 3) := by decide +kernel
theorem d_MO_fact_144 : decode b_MO_fact 144 = .ok (.iconst 1, 1) := by decide +kernel
theorem d_MO_fact_145 : decode b_MO_fact 145 = .ok (.iadd, 1) := by decide +kernel
theorem d_MO_fact_146 : decode b_MO_fact 146 = .ok (.putfield 177, 3) := by decide +kernel
theorem d_MO_fact_149 : decode b_MO_fact 149 = .ok (.aload_n 0, 1) := by decide +kernel
theorem d_MO_fact_150 : decode b_MO_fact 150 = .ok (.lload_n 3, 1) := by decide +kernel
theorem d_MO_fact_151 : decode b_MO_fact 151 = .ok (.aload_n 0, 1) := by decide +kernel
theorem d_MO_fact_152 : decode b_MO_fact 152 = .ok (.getfield 180, 3) := by decide +kernel
theorem d_MO_fact_155 : decode b_MO_fact 155 = .ok (.lcmp, 1) := by decide +kernel
theorem d_MO_fact_156 : decode b_MO_fact 156 = .ok (.ifCond .le 7, 3) := by decide +kernel
theorem d_MO_fact_159 : decode b_MO_fact 159 = .ok (.lload_n 3, 1) := by decide +kernel
theorem d_MO_fact_160 : decode b_MO_fact 160 = .ok (.goto 7, 3) := by decide +kernel
theorem d_MO_fact_163 : decode b_MO_fact 163 = .ok (.aload_n 0, 1) := by decide +kernel
theorem d_MO_fact_164 : decode b_MO_fact 164 = .ok (.getfield 180, 3) := by decide +kernel
theorem d_MO_fact_167 : decode b_MO_fact 167 = .ok (.putfield 180, 3) := by decide +kernel
theorem d_MO_fact_170 : decode b_MO_fact 170 = .ok (.iconst 1, 1) := by decide +kernel
theorem d_MO_fact_171 : decode b_MO_fact 171 = .ok (.ireturn, 1) := by decide +kernel
theorem d_MO_isLot_0 : decode b_MO_isLot 0 = .ok (.iload_n 0, 1) := by decide +kernel
theorem d_MO_isLot_1 : decode b_MO_isLot 1 = .ok (.ifCond .lt 13, 3) := by decide +kernel
theorem d_MO_isLot_4 : decode b_MO_isLot 4 = .ok (.iload_n 0, 1) := by decide +kernel
theorem d_MO_isLot_5 : decode b_MO_isLot 5 = .ok (.bipush 30, 2) := by decide +kernel
theorem d_MO_isLot_7 : decode b_MO_isLot 7 = .ok (.if_icmp .ge 7, 3) := by decide +kernel
theorem d_MO_isLot_10 : decode b_MO_isLot 10 = .ok (.iconst 1, 1) := by decide +kernel
theorem d_MO_isLot_11 : decode b_MO_isLot 11 = .ok (.goto 4, 3) := by decide +kernel
theorem d_MO_isLot_14 : decode b_MO_isLot 14 = .ok (.iconst 0, 1) := by decide +kernel
theorem d_MO_isLot_15 : decode b_MO_isLot 15 = .ok (.ireturn, 1) := by decide +kernel
theorem d_MO_isDay_0 : decode b_MO_isDay 0 = .ok (.lload_n 0, 1) := by decide +kernel
theorem d_MO_isDay_1 : decode b_MO_isDay 1 = .ok (.lconst 0, 1) := by decide +kernel
theorem d_MO_isDay_2 : decode b_MO_isDay 2 = .ok (.lcmp, 1) := by decide +kernel
theorem d_MO_isDay_3 : decode b_MO_isDay 3 = .ok (.ifCond .lt 15, 3) := by decide +kernel
theorem d_MO_isDay_6 : decode b_MO_isDay 6 = .ok (.lload_n 0, 1) := by decide +kernel
theorem d_MO_isDay_7 : decode b_MO_isDay 7 = .ok (.ldc2_w 132, 3) := by decide +kernel
theorem d_MO_isDay_10 : decode b_MO_isDay 10 = .ok (.lcmp, 1) := by decide +kernel
theorem d_MO_isDay_11 : decode b_MO_isDay 11 = .ok (.ifCond .gt 7, 3) := by decide +kernel
theorem d_MO_isDay_14 : decode b_MO_isDay 14 = .ok (.iconst 1, 1) := by decide +kernel
theorem d_MO_isDay_15 : decode b_MO_isDay 15 = .ok (.goto 4, 3) := by decide +kernel
theorem d_MO_isDay_18 : decode b_MO_isDay 18 = .ok (.iconst 0, 1) := by decide +kernel
theorem d_MO_isDay_19 : decode b_MO_isDay 19 = .ok (.ireturn, 1) := by decide +kernel
theorem d_MO_most_0 : decode b_MO_most 0 = .ok (.iload_n 0, 1) := by decide +kernel
theorem d_MO_most_1 : decode b_MO_most 1 = .ok (.ifCond .ne 9, 3) := by decide +kernel
theorem d_MO_most_4 : decode b_MO_most 4 = .ok (.ldc2_w 156, 3) := by decide +kernel
theorem d_MO_most_7 : decode b_MO_most 7 = .ok (.goto 28, 3) := by decide +kernel
theorem d_MO_most_10 : decode b_MO_most 10 = .ok (.iload_n 0, 1) := by decide +kernel
theorem d_MO_most_11 : decode b_MO_most 11 = .ok (.iconst 1, 1) := by decide +kernel
theorem d_MO_most_12 : decode b_MO_most 12 = .ok (.if_icmp .ne 9, 3) := by decide +kernel
theorem d_MO_most_15 : decode b_MO_most 15 = .ok (.ldc2_w 158, 3) := by decide +kernel
theorem d_MO_most_18 : decode b_MO_most 18 = .ok (.goto 17, 3) := by decide +kernel
theorem d_MO_most_21 : decode b_MO_most 21 = .ok (.iload_n 0, 1) := by decide +kernel
theorem d_MO_most_22 : decode b_MO_most 22 = .ok (.iconst 3, 1) := by decide +kernel
theorem d_MO_most_23 : decode b_MO_most 23 = .ok (.if_icmp .ne 9, 3) := by decide +kernel
theorem d_MO_most_26 : decode b_MO_most 26 = .ok (.ldc2_w 160, 3) := by decide +kernel
theorem d_MO_most_29 : decode b_MO_most 29 = .ok (.goto 6, 3) := by decide +kernel
theorem d_MO_most_32 : decode b_MO_most 32 = .ok (.ldc2_w 162, 3) := by decide +kernel
theorem d_MO_most_35 : decode b_MO_most 35 = .ok (.lreturn, 1) := by decide +kernel
theorem d_MO_told_0 : decode b_MO_told 0 = .ok (.iconst (-1), 1) := by decide +kernel
theorem d_MO_told_1 : decode b_MO_told 1 = .ok (.istore 5, 2) := by decide +kernel
theorem d_MO_told_3 : decode b_MO_told 3 = .ok (.iconst 0, 1) := by decide +kernel
theorem d_MO_told_4 : decode b_MO_told 4 = .ok (.istore 6, 2) := by decide +kernel
theorem d_MO_told_6 : decode b_MO_told 6 = .ok (.iload 6, 2) := by decide +kernel
theorem d_MO_told_8 : decode b_MO_told 8 = .ok (.aload_n 0, 1) := by decide +kernel
theorem d_MO_told_9 : decode b_MO_told 9 = .ok (.getfield 177, 3) := by decide +kernel
theorem d_MO_told_12 : decode b_MO_told 12 = .ok (.if_icmp .ge 40, 3) := by decide +kernel
theorem d_MO_told_15 : decode b_MO_told 15 = .ok (.aload_n 0, 1) := by decide +kernel
theorem d_MO_told_16 : decode b_MO_told 16 = .ok (.getfield 26, 3) := by decide +kernel
theorem d_MO_told_19 : decode b_MO_told 19 = .ok (.iload 6, 2) := by decide +kernel
theorem d_MO_told_21 : decode b_MO_told 21 = .ok (.iaload, 1) := by decide +kernel
theorem d_MO_told_22 : decode b_MO_told 22 = .ok (.iload_n 1, 1) := by decide +kernel
theorem d_MO_told_23 : decode b_MO_told 23 = .ok (.if_icmp .ne 19, 3) := by decide +kernel
theorem d_MO_told_26 : decode b_MO_told 26 = .ok (.aload_n 0, 1) := by decide +kernel
theorem d_MO_told_27 : decode b_MO_told 27 = .ok (.getfield 29, 3) := by decide +kernel
theorem d_MO_told_30 : decode b_MO_told 30 = .ok (.iload 6, 2) := by decide +kernel
theorem d_MO_told_32 : decode b_MO_told 32 = .ok (.iaload, 1) := by decide +kernel
theorem d_MO_told_33 : decode b_MO_told 33 = .ok (.iload_n 2, 1) := by decide +kernel
theorem d_MO_told_34 : decode b_MO_told 34 = .ok (.if_icmp .ne 8, 3) := by decide +kernel
theorem d_MO_told_37 : decode b_MO_told 37 = .ok (.iload 6, 2) := by decide +kernel
theorem d_MO_told_39 : decode b_MO_told 39 = .ok (.goto 5, 3) := by decide +kernel
theorem d_MO_told_42 : decode b_MO_told 42 = .ok (.iload 5, 2) := by decide +kernel
theorem d_MO_told_44 : decode b_MO_told 44 = .ok (.istore 5, 2) := by decide +kernel
theorem d_MO_told_46 : decode b_MO_told 46 = .ok (.iinc 6 1, 3) := by decide +kernel
theorem d_MO_told_49 : decode b_MO_told 49 = .ok (.goto (-43), 3) := by decide +kernel
theorem d_MO_told_52 : decode b_MO_told 52 = .ok (.iload 5, 2) := by decide +kernel
theorem d_MO_told_54 : decode b_MO_told 54 = .ok (.iconst (-1), 1) := by decide +kernel
theorem d_MO_told_55 : decode b_MO_told 55 = .ok (.if_icmp .eq 10, 3) := by decide +kernel
theorem d_MO_told_58 : decode b_MO_told 58 = .ok (.lload_n 3, 1) := by decide +kernel
theorem d_MO_told_59 : decode b_MO_told 59 = .ok (.invokestatic 167, 3) := by decide +kernel
theorem d_MO_told_62 : decode b_MO_told 62 = .ok (.ifCond .ne 5, 3) := by decide +kernel
theorem d_MO_told_65 : decode b_MO_told 65 = .ok (.iconst 0, 1) := by decide +kernel
theorem d_MO_told_66 : decode b_MO_told 66 = .ok (.ireturn, 1) := by decide +kernel
theorem d_MO_told_67 : decode b_MO_told 67 = .ok (.aload_n 0, 1) := by decide +kernel
theorem d_MO_told_68 : decode b_MO_told 68 = .ok (.getfield 35, 3) := by decide +kernel
theorem d_MO_told_71 : decode b_MO_told 71 = .ok (.iload 5, 2) := by decide +kernel
theorem d_MO_told_73 : decode b_MO_told 73 = .ok (.lload_n 3, 1) := by decide +kernel
theorem d_MO_told_74 : decode b_MO_told 74 = .ok (.lastore, 1) := by decide +kernel
theorem d_MO_told_75 : decode b_MO_told 75 = .ok (.aload_n 0, 1) := by decide +kernel
theorem d_MO_told_76 : decode b_MO_told 76 = .ok (.lload_n 3, 1) := by decide +kernel
theorem d_MO_told_77 : decode b_MO_told 77 = .ok (.aload_n 0, 1) := by decide +kernel
theorem d_MO_told_78 : decode b_MO_told 78 = .ok (.getfield 180, 3) := by decide +kernel
theorem d_MO_told_81 : decode b_MO_told 81 = .ok (.lcmp, 1) := by decide +kernel
theorem d_MO_told_82 : decode b_MO_told 82 = .ok (.ifCond .le 7, 3) := by decide +kernel
theorem d_MO_told_85 : decode b_MO_told 85 = .ok (.lload_n 3, 1) := by decide +kernel
theorem d_MO_told_86 : decode b_MO_told 86 = .ok (.goto 7, 3) := by decide +kernel
theorem d_MO_told_89 : decode b_MO_told 89 = .ok (.aload_n 0, 1) := by decide +kernel
theorem d_MO_told_90 : decode b_MO_told 90 = .ok (.getfield 180, 3) := by decide +kernel
theorem d_MO_told_93 : decode b_MO_told 93 = .ok (.putfield 180, 3) := by decide +kernel
theorem d_MO_told_96 : decode b_MO_told 96 = .ok (.iconst 1, 1) := by decide +kernel
theorem d_MO_told_97 : decode b_MO_told 97 = .ok (.ireturn, 1) := by decide +kernel
theorem d_MO_duty_0 : decode b_MO_duty 0 = .ok (.iload_n 1, 1) := by decide +kernel
theorem d_MO_duty_1 : decode b_MO_duty 1 = .ok (.invokestatic 164, 3) := by decide +kernel
theorem d_MO_duty_4 : decode b_MO_duty 4 = .ok (.ifCond .eq 29, 3) := by decide +kernel
theorem d_MO_duty_7 : decode b_MO_duty 7 = .ok (.lload_n 2, 1) := by decide +kernel
theorem d_MO_duty_8 : decode b_MO_duty 8 = .ok (.invokestatic 167, 3) := by decide +kernel
theorem d_MO_duty_11 : decode b_MO_duty 11 = .ok (.ifCond .eq 22, 3) := by decide +kernel
theorem d_MO_duty_14 : decode b_MO_duty 14 = .ok (.lload 4, 2) := by decide +kernel
theorem d_MO_duty_16 : decode b_MO_duty 16 = .ok (.invokestatic 167, 3) := by decide +kernel
theorem d_MO_duty_19 : decode b_MO_duty 19 = .ok (.ifCond .eq 14, 3) := by decide +kernel
theorem d_MO_duty_22 : decode b_MO_duty 22 = .ok (.iload 6, 2) := by decide +kernel
theorem d_MO_duty_24 : decode b_MO_duty 24 = .ok (.ifCond .lt 9, 3) := by decide +kernel
theorem d_MO_duty_27 : decode b_MO_duty 27 = .ok (.iload 6, 2) := by decide +kernel
theorem d_MO_duty_29 : decode b_MO_duty 29 = .ok (.iconst 1, 1) := by decide +kernel
theorem d_MO_duty_30 : decode b_MO_duty 30 = .ok (.if_icmp .le 7, 3) := by decide +kernel
theorem d_MO_duty_33 : decode b_MO_duty 33 = .ok (.ldc2_w 228, 3) := by decide +kernel
theorem d_MO_duty_36 : decode b_MO_duty 36 = .ok (.lreturn, 1) := by decide +kernel
