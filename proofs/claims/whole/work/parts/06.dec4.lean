theorem d_MO_duty_37 : decode b_MO_duty 37 = .ok (.aload_n 0, 1) := by decide +kernel
theorem d_MO_duty_38 : decode b_MO_duty 38 = .ok (.iload_n 1, 1) := by decide +kernel
theorem d_MO_duty_39 : decode b_MO_duty 39 = .ok (.lload_n 2, 1) := by decide +kernel
theorem d_MO_duty_40 : decode b_MO_duty 40 = .ok (.lload 4, 2) := by decide +kernel
theorem d_MO_duty_42 : decode b_MO_duty 42 = .ok (.invokevirtual 230, 3) := by decide +kernel
theorem d_MO_duty_45 : decode b_MO_duty 45 = .ok (.istore 7, 2) := by decide +kernel
theorem d_MO_duty_47 : decode b_MO_duty 47 = .ok (.aload_n 0, 1) := by decide +kernel
theorem d_MO_duty_48 : decode b_MO_duty 48 = .ok (.iload_n 1, 1) := by decide +kernel
theorem d_MO_duty_49 : decode b_MO_duty 49 = .ok (.putfield 50, 3) := by decide +kernel
theorem d_MO_duty_52 : decode b_MO_duty 52 = .ok (.aload_n 0, 1) := by decide +kernel
theorem d_MO_duty_53 : decode b_MO_duty 53 = .ok (.aload_n 0, 1) := by decide +kernel
theorem d_MO_duty_54 : decode b_MO_duty 54 = .ok (.getfield 199, 3) := by decide +kernel
theorem d_MO_duty_57 : decode b_MO_duty 57 = .ok (.putfield 234, 3) := by decide +kernel
theorem d_MO_duty_60 : decode b_MO_duty 60 = .ok (.aload_n 0, 1) := by decide +kernel
theorem d_MO_duty_61 : decode b_MO_duty 61 = .ok (.iload 7, 2) := by decide +kernel
theorem d_MO_duty_63 : decode b_MO_duty 63 = .ok (.ifCond .eq 10, 3) := by decide +kernel
theorem d_MO_duty_66 : decode b_MO_duty 66 = .ok (.aload_n 0, 1) := by decide +kernel
theorem d_MO_duty_67 : decode b_MO_duty 67 = .ok (.getfield 184, 3) := by decide +kernel
theorem d_MO_duty_70 : decode b_MO_duty 70 = .ok (.goto 4, 3) := by decide +kernel
theorem d_MO_duty_73 : decode b_MO_duty 73 = .ok (.iconst 0, 1) := by decide +kernel
theorem d_MO_duty_74 : decode b_MO_duty 74 = .ok (.putfield 237, 3) := by decide +kernel
theorem d_MO_duty_77 : decode b_MO_duty 77 = .ok (.iconst 0, 1) := by decide +kernel
theorem d_MO_duty_78 : decode b_MO_duty 78 = .ok (.istore 8, 2) := by decide +kernel
theorem d_MO_duty_80 : decode b_MO_duty 80 = .ok (.iload 8, 2) := by decide +kernel
theorem d_MO_duty_82 : decode b_MO_duty 82 = .ok (.aload_n 0, 1) := by decide +kernel
theorem d_MO_duty_83 : decode b_MO_duty 83 = .ok (.getfield 184, 3) := by decide +kernel
theorem d_MO_duty_86 : decode b_MO_duty 86 = .ok (.if_icmp .ge 51, 3) := by decide +kernel
theorem d_MO_duty_89 : decode b_MO_duty 89 = .ok (.aload_n 0, 1) := by decide +kernel
theorem d_MO_duty_90 : decode b_MO_duty 90 = .ok (.getfield 54, 3) := by decide +kernel
theorem d_MO_duty_93 : decode b_MO_duty 93 = .ok (.iload 8, 2) := by decide +kernel
theorem d_MO_duty_95 : decode b_MO_duty 95 = .ok (.aload_n 0, 1) := by decide +kernel
theorem d_MO_duty_96 : decode b_MO_duty 96 = .ok (.getfield 41, 3) := by decide +kernel
theorem d_MO_duty_99 : decode b_MO_duty 99 = .ok (.iload 8, 2) := by decide +kernel
theorem d_MO_duty_101 : decode b_MO_duty 101 = .ok (.iaload, 1) := by decide +kernel
theorem d_MO_duty_102 : decode b_MO_duty 102 = .ok (.iastore, 1) := by decide +kernel
theorem d_MO_duty_103 : decode b_MO_duty 103 = .ok (.aload_n 0, 1) := by decide +kernel
theorem d_MO_duty_104 : decode b_MO_duty 104 = .ok (.getfield 57, 3) := by decide +kernel
theorem d_MO_duty_107 : decode b_MO_duty 107 = .ok (.iload 8, 2) := by decide +kernel
theorem d_MO_duty_109 : decode b_MO_duty 109 = .ok (.aload_n 0, 1) := by decide +kernel
theorem d_MO_duty_110 : decode b_MO_duty 110 = .ok (.getfield 44, 3) := by decide +kernel
theorem d_MO_duty_113 : decode b_MO_duty 113 = .ok (.iload 8, 2) := by decide +kernel
theorem d_MO_duty_115 : decode b_MO_duty 115 = .ok (.iaload, 1) := by decide +kernel
theorem d_MO_duty_116 : decode b_MO_duty 116 = .ok (.iastore, 1) := by decide +kernel
theorem d_MO_duty_117 : decode b_MO_duty 117 = .ok (.aload_n 0, 1) := by decide +kernel
theorem d_MO_duty_118 : decode b_MO_duty 118 = .ok (.getfield 60, 3) := by decide +kernel
theorem d_MO_duty_121 : decode b_MO_duty 121 = .ok (.iload 8, 2) := by decide +kernel
theorem d_MO_duty_123 : decode b_MO_duty 123 = .ok (.aload_n 0, 1) := by decide +kernel
theorem d_MO_duty_124 : decode b_MO_duty 124 = .ok (.getfield 47, 3) := by decide +kernel
theorem d_MO_duty_127 : decode b_MO_duty 127 = .ok (.iload 8, 2) := by decide +kernel
theorem d_MO_duty_129 : decode b_MO_duty 129 = .ok (.laload, 1) := by decide +kernel
theorem d_MO_duty_130 : decode b_MO_duty 130 = .ok (.lastore, 1) := by decide +kernel
theorem d_MO_duty_131 : decode b_MO_duty 131 = .ok (.iinc 8 1, 3) := by decide +kernel
theorem d_MO_duty_134 : decode b_MO_duty 134 = .ok (.goto (-54), 3) := by decide +kernel
theorem d_MO_duty_137 : decode b_MO_duty 137 = .ok (.iload 7, 2) := by decide +kernel
theorem d_MO_duty_139 : decode b_MO_duty 139 = .ok (.ifCond .eq 18, 3) := by decide +kernel
theorem d_MO_duty_142 : decode b_MO_duty 142 = .ok (.aload_n 0, 1) := by decide +kernel
theorem d_MO_duty_143 : decode b_MO_duty 143 = .ok (.getfield 187, 3) := by decide +kernel
theorem d_MO_duty_146 : decode b_MO_duty 146 = .ok (.ldc2_w 190, 3) := by decide +kernel
theorem d_MO_duty_149 : decode b_MO_duty 149 = .ok (.iload 6, 2) := by decide +kernel
theorem d_MO_duty_151 : decode b_MO_duty 151 = .ok (.invokestatic 240, 3) := by decide +kernel
theorem d_MO_duty_154 : decode b_MO_duty 154 = .ok (.goto 6, 3) := by decide +kernel
theorem d_MO_duty_157 : decode b_MO_duty 157 = .ok (.ldc2_w 228, 3) := by decide +kernel
theorem d_MO_duty_160 : decode b_MO_duty 160 = .ok (.lreturn, 1) := by decide +kernel
theorem d_MO_reckon_0 : decode b_MO_reckon 0 = .ok (.aload_n 0, 1) := by decide +kernel
theorem d_MO_reckon_1 : decode b_MO_reckon 1 = .ok (.iconst 0, 1) := by decide +kernel
theorem d_MO_reckon_2 : decode b_MO_reckon 2 = .ok (.putfield 184, 3) := by decide +kernel
theorem d_MO_reckon_5 : decode b_MO_reckon 5 = .ok (.aload_n 0, 1) := by decide +kernel
theorem d_MO_reckon_6 : decode b_MO_reckon 6 = .ok (.lconst 0, 1) := by decide +kernel
theorem d_MO_reckon_7 : decode b_MO_reckon 7 = .ok (.putfield 192, 3) := by decide +kernel
theorem d_MO_reckon_10 : decode b_MO_reckon 10 = .ok (.aload_n 0, 1) := by decide +kernel
theorem d_MO_reckon_11 : decode b_MO_reckon 11 = .ok (.lconst 0, 1) := by decide +kernel
theorem d_MO_reckon_12 : decode b_MO_reckon 12 = .ok (.putfield 187, 3) := by decide +kernel
theorem d_MO_reckon_15 : decode b_MO_reckon 15 = .ok (.aload_n 0, 1) := by decide +kernel
theorem d_MO_reckon_16 : decode b_MO_reckon 16 = .ok (.lload_n 2, 1) := by decide +kernel
theorem d_MO_reckon_17 : decode b_MO_reckon 17 = .ok (.invokevirtual 195, 3) := by decide +kernel
theorem d_MO_reckon_20 : decode b_MO_reckon 20 = .ok (.istore 6, 2) := by decide +kernel
theorem d_MO_reckon_22 : decode b_MO_reckon 22 = .ok (.aload_n 0, 1) := by decide +kernel
theorem d_MO_reckon_23 : decode b_MO_reckon 23 = .ok (.bipush 20, 2) := by decide +kernel
theorem d_MO_reckon_25 : decode b_MO_reckon 25 = .ok (.putfield 199, 3) := by decide +kernel
theorem d_MO_reckon_28 : decode b_MO_reckon 28 = .ok (.iload 6, 2) := by decide +kernel
theorem d_MO_reckon_30 : decode b_MO_reckon 30 = .ok (.iconst (-1), 1) := by decide +kernel
theorem d_MO_reckon_31 : decode b_MO_reckon 31 = .ok (.if_icmp .ne 5, 3) := by decide +kernel
theorem d_MO_reckon_34 : decode b_MO_reckon 34 = .ok (.iconst 0, 1) := by decide +kernel
theorem d_MO_reckon_35 : decode b_MO_reckon 35 = .ok (.ireturn, 1) := by decide +kernel
theorem d_MO_reckon_36 : decode b_MO_reckon 36 = .ok (.iconst 0, 1) := by decide +kernel
theorem d_MO_reckon_37 : decode b_MO_reckon 37 = .ok (.istore 7, 2) := by decide +kernel
theorem d_MO_reckon_39 : decode b_MO_reckon 39 = .ok (.iload 7, 2) := by decide +kernel
theorem d_MO_reckon_41 : decode b_MO_reckon 41 = .ok (.iconst 3, 1) := by decide +kernel
theorem d_MO_reckon_42 : decode b_MO_reckon 42 = .ok (.if_icmp .ge 31, 3) := by decide +kernel
theorem d_MO_reckon_45 : decode b_MO_reckon 45 = .ok (.aload_n 0, 1) := by decide +kernel
theorem d_MO_reckon_46 : decode b_MO_reckon 46 = .ok (.iload 7, 2) := by decide +kernel
theorem d_MO_reckon_48 : decode b_MO_reckon 48 = .ok (.putfield 199, 3) := by decide +kernel
theorem d_MO_reckon_51 : decode b_MO_reckon 51 = .ok (.aload_n 0, 1) := by decide +kernel
theorem d_MO_reckon_52 : decode b_MO_reckon 52 = .ok (.iload_n 1, 1) := by decide +kernel
theorem d_MO_reckon_53 : decode b_MO_reckon 53 = .ok (.iload 7, 2) := by decide +kernel
theorem d_MO_reckon_55 : decode b_MO_reckon 55 = .ok (.lload_n 2, 1) := by decide +kernel
theorem d_MO_reckon_56 : decode b_MO_reckon 56 = .ok (.lload 4, 2) := by decide +kernel
theorem d_MO_reckon_58 : decode b_MO_reckon 58 = .ok (.invokevirtual 202, 3) := by decide +kernel
theorem d_MO_reckon_61 : decode b_MO_reckon 61 = .ok (.iconst (-1), 1) := by decide +kernel
theorem d_MO_reckon_62 : decode b_MO_reckon 62 = .ok (.if_icmp .ne 5, 3) := by decide +kernel
theorem d_MO_reckon_65 : decode b_MO_reckon 65 = .ok (.iconst 0, 1) := by decide +kernel
theorem d_MO_reckon_66 : decode b_MO_reckon 66 = .ok (.ireturn, 1) := by decide +kernel
theorem d_MO_reckon_67 : decode b_MO_reckon 67 = .ok (.iinc 7 1, 3) := by decide +kernel
theorem d_MO_reckon_70 : decode b_MO_reckon 70 = .ok (.goto (-31), 3) := by decide +kernel
theorem d_MO_reckon_73 : decode b_MO_reckon 73 = .ok (.aload_n 0, 1) := by decide +kernel
theorem d_MO_reckon_74 : decode b_MO_reckon 74 = .ok (.getfield 38, 3) := by decide +kernel
theorem d_MO_reckon_77 : decode b_MO_reckon 77 = .ok (.aload_n 0, 1) := by decide +kernel
theorem d_MO_reckon_78 : decode b_MO_reckon 78 = .ok (.iload_n 1, 1) := by decide +kernel
theorem d_MO_reckon_79 : decode b_MO_reckon 79 = .ok (.iconst 0, 1) := by decide +kernel
theorem d_MO_reckon_80 : decode b_MO_reckon 80 = .ok (.lload_n 2, 1) := by decide +kernel
theorem d_MO_reckon_81 : decode b_MO_reckon 81 = .ok (.lload 4, 2) := by decide +kernel
theorem d_MO_reckon_83 : decode b_MO_reckon 83 = .ok (.invokevirtual 202, 3) := by decide +kernel
theorem d_MO_reckon_86 : decode b_MO_reckon 86 = .ok (.laload, 1) := by decide +kernel
theorem d_MO_reckon_87 : decode b_MO_reckon 87 = .ok (.lstore 7, 2) := by decide +kernel
theorem d_MO_reckon_89 : decode b_MO_reckon 89 = .ok (.aload_n 0, 1) := by decide +kernel
theorem d_MO_reckon_90 : decode b_MO_reckon 90 = .ok (.getfield 38, 3) := by decide +kernel
theorem d_MO_reckon_93 : decode b_MO_reckon 93 = .ok (.aload_n 0, 1) := by decide +kernel
theorem d_MO_reckon_94 : decode b_MO_reckon 94 = .ok (.iload_n 1, 1) := by decide +kernel
theorem d_MO_reckon_95 : decode b_MO_reckon 95 = .ok (.iconst 1, 1) := by decide +kernel
theorem d_MO_reckon_96 : decode b_MO_reckon 96 = .ok (.lload_n 2, 1) := by decide +kernel
theorem d_MO_reckon_97 : decode b_MO_reckon 97 = .ok (.lload 4, 2) := by decide +kernel
theorem d_MO_reckon_99 : decode b_MO_reckon 99 = .ok (.invokevirtual 202, 3) := by decide +kernel
theorem d_MO_reckon_102 : decode b_MO_reckon 102 = .ok (.laload, 1) := by decide +kernel
theorem d_MO_reckon_103 : decode b_MO_reckon 103 = .ok (.lstore 9, 2) := by decide +kernel
theorem d_MO_reckon_105 : decode b_MO_reckon 105 = .ok (.aload_n 0, 1) := by decide +kernel
theorem d_MO_reckon_106 : decode b_MO_reckon 106 = .ok (.getfield 38, 3) := by decide +kernel
theorem d_MO_reckon_109 : decode b_MO_reckon 109 = .ok (.aload_n 0, 1) := by decide +kernel
theorem d_MO_reckon_110 : decode b_MO_reckon 110 = .ok (.iload_n 1, 1) := by decide +kernel
theorem d_MO_reckon_111 : decode b_MO_reckon 111 = .ok (.iconst 2, 1) := by decide +kernel
theorem d_MO_reckon_112 : decode b_MO_reckon 112 = .ok (.lload_n 2, 1) := by decide +kernel
theorem d_MO_reckon_113 : decode b_MO_reckon 113 = .ok (.lload 4, 2) := by decide +kernel
theorem d_MO_reckon_115 : decode b_MO_reckon 115 = .ok (.invokevirtual 202, 3) := by decide +kernel
theorem d_MO_reckon_118 : decode b_MO_reckon 118 = .ok (.laload, 1) := by decide +kernel
theorem d_MO_reckon_119 : decode b_MO_reckon 119 = .ok (.lstore 11, 2) := by decide +kernel
theorem d_MO_reckon_121 : decode b_MO_reckon 121 = .ok (.aload_n 0, 1) := by decide +kernel
theorem d_MO_reckon_122 : decode b_MO_reckon 122 = .ok (.iload 6, 2) := by decide +kernel
theorem d_MO_reckon_124 : decode b_MO_reckon 124 = .ok (.iconst 0, 1) := by decide +kernel
theorem d_MO_reckon_125 : decode b_MO_reckon 125 = .ok (.lload 7, 2) := by decide +kernel
theorem d_MO_reckon_127 : decode b_MO_reckon 127 = .ok (.lload 9, 2) := by decide +kernel
theorem d_MO_reckon_129 : decode b_MO_reckon 129 = .ok (.invokevirtual 206, 3) := by decide +kernel
theorem d_MO_reckon_132 : decode b_MO_reckon 132 = .ok (.istore 13, 2) := by decide +kernel
theorem d_MO_reckon_134 : decode b_MO_reckon 134 = .ok (.aload_n 0, 1) := by decide +kernel
theorem d_MO_reckon_135 : decode b_MO_reckon 135 = .ok (.iload 6, 2) := by decide +kernel
theorem d_MO_reckon_137 : decode b_MO_reckon 137 = .ok (.iconst 1, 1) := by decide +kernel
theorem d_MO_reckon_138 : decode b_MO_reckon 138 = .ok (.lload 7, 2) := by decide +kernel
theorem d_MO_reckon_140 : decode b_MO_reckon 140 = .ok (.lconst 0, 1) := by decide +kernel
theorem d_MO_reckon_141 : decode b_MO_reckon 141 = .ok (.invokevirtual 206, 3) := by decide +kernel
theorem d_MO_reckon_144 : decode b_MO_reckon 144 = .ok (.istore 14, 2) := by decide +kernel
theorem d_MO_reckon_146 : decode b_MO_reckon 146 = .ok (.aload_n 0, 1) := by decide +kernel
theorem d_MO_reckon_147 : decode b_MO_reckon 147 = .ok (.iload_n 1, 1) := by decide +kernel
theorem d_MO_reckon_148 : decode b_MO_reckon 148 = .ok (.iconst 3, 1) := by decide +kernel
theorem d_MO_reckon_149 : decode b_MO_reckon 149 = .ok (.lload_n 2, 1) := by decide +kernel
theorem d_MO_reckon_150 : decode b_MO_reckon 150 = .ok (.lload 4, 2) := by decide +kernel
theorem d_MO_reckon_152 : decode b_MO_reckon 152 = .ok (.invokevirtual 202, 3) := by decide +kernel
theorem d_MO_reckon_155 : decode b_MO_reckon 155 = .ok (.istore 15, 2) := by decide +kernel
theorem d_MO_reckon_157 : decode b_MO_reckon 157 = .ok (.aload_n 0, 1) := by decide +kernel
theorem d_MO_reckon_158 : decode b_MO_reckon 158 = .ok (.iload 13, 2) := by decide +kernel
theorem d_MO_reckon_160 : decode b_MO_reckon 160 = .ok (.iconst (-1), 1) := by decide +kernel
theorem d_MO_reckon_161 : decode b_MO_reckon 161 = .ok (.if_icmp .ne 8, 3) := by decide +kernel
theorem d_MO_reckon_164 : decode b_MO_reckon 164 = .ok (.bipush 21, 2) := by decide +kernel
theorem d_MO_reckon_166 : decode b_MO_reckon 166 = .ok (.goto 4, 3) := by decide +kernel
theorem d_MO_reckon_169 : decode b_MO_reckon 169 = .ok (.iconst 3, 1) := by decide +kernel
theorem d_MO_reckon_170 : decode b_MO_reckon 170 = .ok (.putfield 199, 3) := by decide +kernel
theorem d_MO_reckon_173 : decode b_MO_reckon 173 = .ok (.iload 13, 2) := by decide +kernel
theorem d_MO_reckon_175 : decode b_MO_reckon 175 = .ok (.iconst (-1), 1) := by decide +kernel
theorem d_MO_reckon_176 : decode b_MO_reckon 176 = .ok (.if_icmp .eq 15, 3) := by decide +kernel
theorem d_MO_reckon_179 : decode b_MO_reckon 179 = .ok (.iload 14, 2) := by decide +kernel
theorem d_MO_reckon_181 : decode b_MO_reckon 181 = .ok (.iconst (-1), 1) := by decide +kernel
theorem d_MO_reckon_182 : decode b_MO_reckon 182 = .ok (.if_icmp .eq 11, 3) := by decide +kernel
theorem d_MO_reckon_185 : decode b_MO_reckon 185 = .ok (.iload 15, 2) := by decide +kernel
theorem d_MO_reckon_187 : decode b_MO_reckon 187 = .ok (.iconst (-1), 1) := by decide +kernel
theorem d_MO_reckon_188 : decode b_MO_reckon 188 = .ok (.if_icmp .ne 5, 3) := by decide +kernel
theorem d_MO_reckon_191 : decode b_MO_reckon 191 = .ok (.iconst 0, 1) := by decide +kernel
theorem d_MO_reckon_192 : decode b_MO_reckon 192 = .ok (.ireturn, 1) := by decide +kernel
theorem d_MO_reckon_193 : decode b_MO_reckon 193 = .ok (.aload_n 0, 1) := by decide +kernel
theorem d_MO_reckon_194 : decode b_MO_reckon 194 = .ok (.iconst (-1), 1) := by decide +kernel
theorem d_MO_reckon_195 : decode b_MO_reckon 195 = .ok (.putfield 199, 3) := by decide +kernel
theorem d_MO_reckon_198 : decode b_MO_reckon 198 = .ok (.aload_n 0, 1) := by decide +kernel
theorem d_MO_reckon_199 : decode b_MO_reckon 199 = .ok (.iload 6, 2) := by decide +kernel
theorem d_MO_reckon_201 : decode b_MO_reckon 201 = .ok (.iload 13, 2) := by decide +kernel
theorem d_MO_reckon_203 : decode b_MO_reckon 203 = .ok (.iconst 4, 1) := by decide +kernel
theorem d_MO_reckon_204 : decode b_MO_reckon 204 = .ok (.invokevirtual 209, 3) := by decide +kernel
theorem d_MO_reckon_207 : decode b_MO_reckon 207 = .ok (.i2l, 1) := by decide +kernel
theorem d_MO_reckon_208 : decode b_MO_reckon 208 = .ok (.lstore 16, 2) := by decide +kernel
theorem d_MO_reckon_210 : decode b_MO_reckon 210 = .ok (.aload_n 0, 1) := by decide +kernel
theorem d_MO_reckon_211 : decode b_MO_reckon 211 = .ok (.lload 11, 2) := by decide +kernel
theorem d_MO_reckon_213 : decode b_MO_reckon 213 = .ok (.lload 16, 2) := by decide +kernel
theorem d_MO_reckon_215 : decode b_MO_reckon 215 = .ok (.lmul, 1) := by decide +kernel
theorem d_MO_reckon_216 : decode b_MO_reckon 216 = .ok (.ldc2_w 162, 3) := by decide +kernel
theorem d_MO_reckon_219 : decode b_MO_reckon 219 = .ok (.lmul, 1) := by decide +kernel
theorem d_MO_reckon_220 : decode b_MO_reckon 220 = .ok (.putfield 187, 3) := by decide +kernel
theorem d_MO_reckon_223 : decode b_MO_reckon 223 = .ok (.aload_n 0, 1) := by decide +kernel
theorem d_MO_reckon_224 : decode b_MO_reckon 224 = .ok (.iconst 0, 1) := by decide +kernel
theorem d_MO_reckon_225 : decode b_MO_reckon 225 = .ok (.iload 13, 2) := by decide +kernel
theorem d_MO_reckon_227 : decode b_MO_reckon 227 = .ok (.invokevirtual 213, 3) := by decide +kernel
theorem d_MO_reckon_230 : decode b_MO_reckon 230 = .ok (.aload_n 0, 1) := by decide +kernel
theorem d_MO_reckon_231 : decode b_MO_reckon 231 = .ok (.iload_n 1, 1) := by decide +kernel
theorem d_MO_reckon_232 : decode b_MO_reckon 232 = .ok (.iconst 4, 1) := by decide +kernel
theorem d_MO_reckon_233 : decode b_MO_reckon 233 = .ok (.lload_n 2, 1) := by decide +kernel
theorem d_MO_reckon_234 : decode b_MO_reckon 234 = .ok (.lload 4, 2) := by decide +kernel
theorem d_MO_reckon_236 : decode b_MO_reckon 236 = .ok (.invokevirtual 202, 3) := by decide +kernel
theorem d_MO_reckon_239 : decode b_MO_reckon 239 = .ok (.istore 18, 2) := by decide +kernel
theorem d_MO_reckon_241 : decode b_MO_reckon 241 = .ok (.aload_n 0, 1) := by decide +kernel
theorem d_MO_reckon_242 : decode b_MO_reckon 242 = .ok (.iload 6, 2) := by decide +kernel
theorem d_MO_reckon_244 : decode b_MO_reckon 244 = .ok (.iconst 2, 1) := by decide +kernel
theorem d_MO_reckon_245 : decode b_MO_reckon 245 = .ok (.lload 7, 2) := by decide +kernel
theorem d_MO_reckon_247 : decode b_MO_reckon 247 = .ok (.lconst 0, 1) := by decide +kernel
theorem d_MO_reckon_248 : decode b_MO_reckon 248 = .ok (.invokevirtual 206, 3) := by decide +kernel
theorem d_MO_reckon_251 : decode b_MO_reckon 251 = .ok (.istore 19, 2) := by decide +kernel
theorem d_MO_reckon_253 : decode b_MO_reckon 253 = .ok (.iload 18, 2) := by decide +kernel
theorem d_MO_reckon_255 : decode b_MO_reckon 255 = .ok (.iconst (-1), 1) := by decide +kernel
theorem d_MO_reckon_256 : decode b_MO_reckon 256 = .ok (.if_icmp .eq 67, 3) := by decide +kernel
theorem d_MO_reckon_259 : decode b_MO_reckon 259 = .ok (.iload 19, 2) := by decide +kernel
theorem d_MO_reckon_261 : decode b_MO_reckon 261 = .ok (.iconst (-1), 1) := by decide +kernel
theorem d_MO_reckon_262 : decode b_MO_reckon 262 = .ok (.if_icmp .eq 61, 3) := by decide +kernel
theorem d_MO_reckon_265 : decode b_MO_reckon 265 = .ok (.aload_n 0, 1) := by decide +kernel
theorem d_MO_reckon_266 : decode b_MO_reckon 266 = .ok (.aload_n 0, 1) := by decide +kernel
theorem d_MO_reckon_267 : decode b_MO_reckon 267 = .ok (.getfield 38, 3) := by decide +kernel
theorem d_MO_reckon_270 : decode b_MO_reckon 270 = .ok (.iload 18, 2) := by decide +kernel
theorem d_MO_reckon_272 : decode b_MO_reckon 272 = .ok (.laload, 1) := by decide +kernel
theorem d_MO_reckon_273 : decode b_MO_reckon 273 = .ok (.ldc2_w 171, 3) := by decide +kernel
theorem d_MO_reckon_276 : decode b_MO_reckon 276 = .ok (.lmul, 1) := by decide +kernel
theorem d_MO_reckon_277 : decode b_MO_reckon 277 = .ok (.lload 11, 2) := by decide +kernel
theorem d_MO_reckon_279 : decode b_MO_reckon 279 = .ok (.aload_n 0, 1) := by decide +kernel
theorem d_MO_reckon_280 : decode b_MO_reckon 280 = .ok (.iload 6, 2) := by decide +kernel
theorem d_MO_reckon_282 : decode b_MO_reckon 282 = .ok (.iload 19, 2) := by decide +kernel
theorem d_MO_reckon_284 : decode b_MO_reckon 284 = .ok (.iconst 2, 1) := by decide +kernel
theorem d_MO_reckon_285 : decode b_MO_reckon 285 = .ok (.invokevirtual 209, 3) := by decide +kernel
theorem d_MO_reckon_288 : decode b_MO_reckon 288 = .ok (.i2l, 1) := by decide +kernel
theorem d_MO_reckon_289 : decode b_MO_reckon 289 = .ok (.lmul, 1) := by decide +kernel
theorem d_MO_reckon_290 : decode b_MO_reckon 290 = .ok (.invokestatic 217, 3) := by decide +kernel
theorem d_MO_reckon_293 : decode b_MO_reckon 293 = .ok (.putfield 192, 3) := by decide +kernel
theorem d_MO_reckon_296 : decode b_MO_reckon 296 = .ok (.aload_n 0, 1) := by decide +kernel
theorem d_MO_reckon_297 : decode b_MO_reckon 297 = .ok (.dup, 1) := by decide +kernel
theorem d_MO_reckon_298 : decode b_MO_reckon 298 = .ok (.getfield 187, 3) := by decide +kernel
theorem d_MO_reckon_301 : decode b_MO_reckon 301 = .ok (.aload_n 0, 1) := by decide +kernel
theorem d_MO_reckon_302 : decode b_MO_reckon 302 = .ok (.getfield 192, 3) := by decide +kernel
theorem d_MO_reckon_305 : decode b_MO_reckon 305 = .ok (.lload 16, 2) := by decide +kernel
theorem d_MO_reckon_307 : decode b_MO_reckon 307 = .ok (.lmul, 1) := by decide +kernel
theorem d_MO_reckon_308 : decode b_MO_reckon 308 = .ok (.ldc2_w 158, 3) := by decide +kernel
theorem d_MO_reckon_311 : decode b_MO_reckon 311 = .ok (.lmul, 1) := by decide +kernel
theorem d_MO_reckon_312 : decode b_MO_reckon 312 = .ok (.lsub, 1) := by decide +kernel
theorem d_MO_reckon_313 : decode b_MO_reckon 313 = .ok (.putfield 187, 3) := by decide +kernel
theorem d_MO_reckon_316 : decode b_MO_reckon 316 = .ok (.aload_n 0, 1) := by decide +kernel
theorem d_MO_reckon_317 : decode b_MO_reckon 317 = .ok (.iconst 1, 1) := by decide +kernel
theorem d_MO_reckon_318 : decode b_MO_reckon 318 = .ok (.iload 19, 2) := by decide +kernel
theorem d_MO_reckon_320 : decode b_MO_reckon 320 = .ok (.invokevirtual 213, 3) := by decide +kernel
theorem d_MO_reckon_323 : decode b_MO_reckon 323 = .ok (.aload_n 0, 1) := by decide +kernel
theorem d_MO_reckon_324 : decode b_MO_reckon 324 = .ok (.iload_n 1, 1) := by decide +kernel
theorem d_MO_reckon_325 : decode b_MO_reckon 325 = .ok (.iconst 5, 1) := by decide +kernel
theorem d_MO_reckon_326 : decode b_MO_reckon 326 = .ok (.lload_n 2, 1) := by decide +kernel
theorem d_MO_reckon_327 : decode b_MO_reckon 327 = .ok (.lload 4, 2) := by decide +kernel
theorem d_MO_reckon_329 : decode b_MO_reckon 329 = .ok (.invokevirtual 202, 3) := by decide +kernel
theorem d_MO_reckon_332 : decode b_MO_reckon 332 = .ok (.istore 20, 2) := by decide +kernel
theorem d_MO_reckon_334 : decode b_MO_reckon 334 = .ok (.aload_n 0, 1) := by decide +kernel
theorem d_MO_reckon_335 : decode b_MO_reckon 335 = .ok (.iload 6, 2) := by decide +kernel
theorem d_MO_reckon_337 : decode b_MO_reckon 337 = .ok (.iconst 3, 1) := by decide +kernel
theorem d_MO_reckon_338 : decode b_MO_reckon 338 = .ok (.lload 7, 2) := by decide +kernel
theorem d_MO_reckon_340 : decode b_MO_reckon 340 = .ok (.lconst 0, 1) := by decide +kernel
theorem d_MO_reckon_341 : decode b_MO_reckon 341 = .ok (.invokevirtual 206, 3) := by decide +kernel
theorem d_MO_reckon_344 : decode b_MO_reckon 344 = .ok (.istore 21, 2) := by decide +kernel
theorem d_MO_reckon_346 : decode b_MO_reckon 346 = .ok (.iload 20, 2) := by decide +kernel
theorem d_MO_reckon_348 : decode b_MO_reckon 348 = .ok (.iconst (-1), 1) := by decide +kernel
theorem d_MO_reckon_349 : decode b_MO_reckon 349 = .ok (.if_icmp .eq 72, 3) := by decide +kernel
theorem d_MO_reckon_352 : decode b_MO_reckon 352 = .ok (.iload 21, 2) := by decide +kernel
theorem d_MO_reckon_354 : decode b_MO_reckon 354 = .ok (.iconst (-1), 1) := by decide +kernel
theorem d_MO_reckon_355 : decode b_MO_reckon 355 = .ok (.if_icmp .eq 66, 3) := by decide +kernel
theorem d_MO_reckon_358 : decode b_MO_reckon 358 = .ok (.aload_n 0, 1) := by decide +kernel
theorem d_MO_reckon_359 : decode b_MO_reckon 359 = .ok (.getfield 38, 3) := by decide +kernel
theorem d_MO_reckon_362 : decode b_MO_reckon 362 = .ok (.iload 20, 2) := by decide +kernel
theorem d_MO_reckon_364 : decode b_MO_reckon 364 = .ok (.laload, 1) := by decide +kernel
theorem d_MO_reckon_365 : decode b_MO_reckon 365 = .ok (.ldc2_w 171, 3) := by decide +kernel
theorem d_MO_reckon_368 : decode b_MO_reckon 368 = .ok (.lmul, 1) := by decide +kernel
theorem d_MO_reckon_369 : decode b_MO_reckon 369 = .ok (.lload 11, 2) := by decide +kernel
theorem d_MO_reckon_371 : decode b_MO_reckon 371 = .ok (.ldc2_w 171, 3) := by decide +kernel
theorem d_MO_reckon_374 : decode b_MO_reckon 374 = .ok (.lmul, 1) := by decide +kernel
theorem d_MO_reckon_375 : decode b_MO_reckon 375 = .ok (.aload_n 0, 1) := by decide +kernel
theorem d_MO_reckon_376 : decode b_MO_reckon 376 = .ok (.getfield 192, 3) := by decide +kernel
theorem d_MO_reckon_379 : decode b_MO_reckon 379 = .ok (.lsub, 1) := by decide +kernel
theorem d_MO_reckon_380 : decode b_MO_reckon 380 = .ok (.invokestatic 217, 3) := by decide +kernel
theorem d_MO_reckon_383 : decode b_MO_reckon 383 = .ok (.lstore 22, 2) := by decide +kernel
theorem d_MO_reckon_385 : decode b_MO_reckon 385 = .ok (.aload_n 0, 1) := by decide +kernel
theorem d_MO_reckon_386 : decode b_MO_reckon 386 = .ok (.dup, 1) := by decide +kernel
theorem d_MO_reckon_387 : decode b_MO_reckon 387 = .ok (.getfield 187, 3) := by decide +kernel
theorem d_MO_reckon_390 : decode b_MO_reckon 390 = .ok (.lload 22, 2) := by decide +kernel
theorem d_MO_reckon_392 : decode b_MO_reckon 392 = .ok (.lload 16, 2) := by decide +kernel
theorem d_MO_reckon_394 : decode b_MO_reckon 394 = .ok (.lmul, 1) := by decide +kernel
theorem d_MO_reckon_395 : decode b_MO_reckon 395 = .ok (.aload_n 0, 1) := by decide +kernel
theorem d_MO_reckon_396 : decode b_MO_reckon 396 = .ok (.iload 6, 2) := by decide +kernel
theorem d_MO_reckon_398 : decode b_MO_reckon 398 = .ok (.iload 21, 2) := by decide +kernel
theorem d_MO_reckon_400 : decode b_MO_reckon 400 = .ok (.iconst 2, 1) := by decide +kernel
theorem d_MO_reckon_401 : decode b_MO_reckon 401 = .ok (.invokevirtual 209, 3) := by decide +kernel
theorem d_MO_reckon_404 : decode b_MO_reckon 404 = .ok (.i2l, 1) := by decide +kernel
theorem d_MO_reckon_405 : decode b_MO_reckon 405 = .ok (.lmul, 1) := by decide +kernel
theorem d_MO_reckon_406 : decode b_MO_reckon 406 = .ok (.ldc2_w 171, 3) := by decide +kernel
theorem d_MO_reckon_409 : decode b_MO_reckon 409 = .ok (.lmul, 1) := by decide +kernel
theorem d_MO_reckon_410 : decode b_MO_reckon 410 = .ok (.lsub, 1) := by decide +kernel
theorem d_MO_reckon_411 : decode b_MO_reckon 411 = .ok (.putfield 187, 3) := by decide +kernel
theorem d_MO_reckon_414 : decode b_MO_reckon 414 = .ok (.aload_n 0, 1) := by decide +kernel
theorem d_MO_reckon_415 : decode b_MO_reckon 415 = .ok (.iconst 2, 1) := by decide +kernel
theorem d_MO_reckon_416 : decode b_MO_reckon 416 = .ok (.iload 21, 2) := by decide +kernel
theorem d_MO_reckon_418 : decode b_MO_reckon 418 = .ok (.invokevirtual 213, 3) := by decide +kernel
theorem d_MO_reckon_421 : decode b_MO_reckon 421 = .ok (.iload 14, 2) := by decide +kernel
theorem d_MO_reckon_423 : decode b_MO_reckon 423 = .ok (.iconst (-1), 1) := by decide +kernel
theorem d_MO_reckon_424 : decode b_MO_reckon 424 = .ok (.if_icmp .eq 54, 3) := by decide +kernel
theorem d_MO_reckon_427 : decode b_MO_reckon 427 = .ok (.aload_n 0, 1) := by decide +kernel
theorem d_MO_reckon_428 : decode b_MO_reckon 428 = .ok (.getfield 38, 3) := by decide +kernel
theorem d_MO_reckon_431 : decode b_MO_reckon 431 = .ok (.iload 15, 2) := by decide +kernel
theorem d_MO_reckon_433 : decode b_MO_reckon 433 = .ok (.laload, 1) := by decide +kernel
theorem d_MO_reckon_434 : decode b_MO_reckon 434 = .ok (.aload_n 0, 1) := by decide +kernel
theorem d_MO_reckon_435 : decode b_MO_reckon 435 = .ok (.iload 6, 2) := by decide +kernel
theorem d_MO_reckon_437 : decode b_MO_reckon 437 = .ok (.iload 14, 2) := by decide +kernel
theorem d_MO_reckon_439 : decode b_MO_reckon 439 = .ok (.iconst 2, 1) := by decide +kernel
theorem d_MO_reckon_440 : decode b_MO_reckon 440 = .ok (.invokevirtual 209, 3) := by decide +kernel
theorem d_MO_reckon_443 : decode b_MO_reckon 443 = .ok (.i2l, 1) := by decide +kernel
theorem d_MO_reckon_444 : decode b_MO_reckon 444 = .ok (.lcmp, 1) := by decide +kernel
theorem d_MO_reckon_445 : decode b_MO_reckon 445 = .ok (.ifCond .ge 33, 3) := by decide +kernel
theorem d_MO_reckon_448 : decode b_MO_reckon 448 = .ok (.aload_n 0, 1) := by decide +kernel
theorem d_MO_reckon_449 : decode b_MO_reckon 449 = .ok (.aload_n 0, 1) := by decide +kernel
theorem d_MO_reckon_450 : decode b_MO_reckon 450 = .ok (.getfield 187, 3) := by decide +kernel
theorem d_MO_reckon_453 : decode b_MO_reckon 453 = .ok (.ldc2_w 171, 3) := by decide +kernel
theorem d_MO_reckon_456 : decode b_MO_reckon 456 = .ok (.ldiv, 1) := by decide +kernel
theorem d_MO_reckon_457 : decode b_MO_reckon 457 = .ok (.aload_n 0, 1) := by decide +kernel
theorem d_MO_reckon_458 : decode b_MO_reckon 458 = .ok (.iload 6, 2) := by decide +kernel
theorem d_MO_reckon_460 : decode b_MO_reckon 460 = .ok (.iload 14, 2) := by decide +kernel
theorem d_MO_reckon_462 : decode b_MO_reckon 462 = .ok (.iconst 3, 1) := by decide +kernel
theorem d_MO_reckon_463 : decode b_MO_reckon 463 = .ok (.invokevirtual 209, 3) := by decide +kernel
theorem d_MO_reckon_466 : decode b_MO_reckon 466 = .ok (.i2l, 1) := by decide +kernel
theorem d_MO_reckon_467 : decode b_MO_reckon 467 = .ok (.lmul, 1) := by decide +kernel
theorem d_MO_reckon_468 : decode b_MO_reckon 468 = .ok (.putfield 187, 3) := by decide +kernel
theorem d_MO_reckon_471 : decode b_MO_reckon 471 = .ok (.aload_n 0, 1) := by decide +kernel
theorem d_MO_reckon_472 : decode b_MO_reckon 472 = .ok (.iconst 3, 1) := by decide +kernel
theorem d_MO_reckon_473 : decode b_MO_reckon 473 = .ok (.iload 14, 2) := by decide +kernel
theorem d_MO_reckon_475 : decode b_MO_reckon 475 = .ok (.invokevirtual 213, 3) := by decide +kernel
theorem d_MO_reckon_478 : decode b_MO_reckon 478 = .ok (.aload_n 0, 1) := by decide +kernel
theorem d_MO_reckon_479 : decode b_MO_reckon 479 = .ok (.iload 6, 2) := by decide +kernel
theorem d_MO_reckon_481 : decode b_MO_reckon 481 = .ok (.iconst 4, 1) := by decide +kernel
theorem d_MO_reckon_482 : decode b_MO_reckon 482 = .ok (.lconst 0, 1) := by decide +kernel
theorem d_MO_reckon_483 : decode b_MO_reckon 483 = .ok (.lconst 0, 1) := by decide +kernel
theorem d_MO_reckon_484 : decode b_MO_reckon 484 = .ok (.invokevirtual 206, 3) := by decide +kernel
theorem d_MO_reckon_487 : decode b_MO_reckon 487 = .ok (.istore 22, 2) := by decide +kernel
theorem d_MO_reckon_489 : decode b_MO_reckon 489 = .ok (.iload 22, 2) := by decide +kernel
theorem d_MO_reckon_491 : decode b_MO_reckon 491 = .ok (.iconst (-1), 1) := by decide +kernel
theorem d_MO_reckon_492 : decode b_MO_reckon 492 = .ok (.if_icmp .eq 51, 3) := by decide +kernel
theorem d_MO_reckon_495 : decode b_MO_reckon 495 = .ok (.aload_n 0, 1) := by decide +kernel
theorem d_MO_reckon_496 : decode b_MO_reckon 496 = .ok (.iload 6, 2) := by decide +kernel
theorem d_MO_reckon_498 : decode b_MO_reckon 498 = .ok (.iload 22, 2) := by decide +kernel
theorem d_MO_reckon_500 : decode b_MO_reckon 500 = .ok (.iconst 1, 1) := by decide +kernel
theorem d_MO_reckon_501 : decode b_MO_reckon 501 = .ok (.invokevirtual 209, 3) := by decide +kernel
theorem d_MO_reckon_504 : decode b_MO_reckon 504 = .ok (.i2l, 1) := by decide +kernel
theorem d_MO_reckon_505 : decode b_MO_reckon 505 = .ok (.ldc2_w 190, 3) := by decide +kernel
theorem d_MO_reckon_508 : decode b_MO_reckon 508 = .ok (.lmul, 1) := by decide +kernel
theorem d_MO_reckon_509 : decode b_MO_reckon 509 = .ok (.lstore 23, 2) := by decide +kernel
theorem d_MO_reckon_511 : decode b_MO_reckon 511 = .ok (.aload_n 0, 1) := by decide +kernel
theorem d_MO_reckon_512 : decode b_MO_reckon 512 = .ok (.ldc2_w 221, 3) := by decide +kernel
theorem d_MO_reckon_515 : decode b_MO_reckon 515 = .ok (.aload_n 0, 1) := by decide +kernel
theorem d_MO_reckon_516 : decode b_MO_reckon 516 = .ok (.getfield 187, 3) := by decide +kernel
theorem d_MO_reckon_519 : decode b_MO_reckon 519 = .ok (.lmul, 1) := by decide +kernel
theorem d_MO_reckon_520 : decode b_MO_reckon 520 = .ok (.lload 23, 2) := by decide +kernel
theorem d_MO_reckon_522 : decode b_MO_reckon 522 = .ok (.ladd, 1) := by decide +kernel
theorem d_MO_reckon_523 : decode b_MO_reckon 523 = .ok (.ldc2_w 221, 3) := by decide +kernel
theorem d_MO_reckon_526 : decode b_MO_reckon 526 = .ok (.lload 23, 2) := by decide +kernel
theorem d_MO_reckon_528 : decode b_MO_reckon 528 = .ok (.lmul, 1) := by decide +kernel
theorem d_MO_reckon_529 : decode b_MO_reckon 529 = .ok (.ldiv, 1) := by decide +kernel
theorem d_MO_reckon_530 : decode b_MO_reckon 530 = .ok (.lload 23, 2) := by decide +kernel
theorem d_MO_reckon_532 : decode b_MO_reckon 532 = .ok (.lmul, 1) := by decide +kernel
theorem d_MO_reckon_533 : decode b_MO_reckon 533 = .ok (.putfield 187, 3) := by decide +kernel
theorem d_MO_reckon_536 : decode b_MO_reckon 536 = .ok (.aload_n 0, 1) := by decide +kernel
theorem d_MO_reckon_537 : decode b_MO_reckon 537 = .ok (.iconst 4, 1) := by decide +kernel
theorem d_MO_reckon_538 : decode b_MO_reckon 538 = .ok (.iload 22, 2) := by decide +kernel
theorem d_MO_reckon_540 : decode b_MO_reckon 540 = .ok (.invokevirtual 213, 3) := by decide +kernel
theorem d_MO_reckon_543 : decode b_MO_reckon 543 = .ok (.iconst 1, 1) := by decide +kernel
theorem d_MO_reckon_544 : decode b_MO_reckon 544 = .ok (.ireturn, 1) := by decide +kernel
theorem d_MO_editionOf_0 : decode b_MO_editionOf 0 = .ok (.iconst (-1), 1) := by decide +kernel
theorem d_MO_editionOf_1 : decode b_MO_editionOf 1 = .ok (.istore_n 3, 1) := by decide +kernel
theorem d_MO_editionOf_2 : decode b_MO_editionOf 2 = .ok (.iconst 0, 1) := by decide +kernel
theorem d_MO_editionOf_3 : decode b_MO_editionOf 3 = .ok (.istore 4, 2) := by decide +kernel
theorem d_MO_editionOf_5 : decode b_MO_editionOf 5 = .ok (.iload 4, 2) := by decide +kernel
theorem d_MO_editionOf_7 : decode b_MO_editionOf 7 = .ok (.aload_n 0, 1) := by decide +kernel
theorem d_MO_editionOf_8 : decode b_MO_editionOf 8 = .ok (.getfield 134, 3) := by decide +kernel
theorem d_MO_editionOf_11 : decode b_MO_editionOf 11 = .ok (.if_icmp .ge 50, 3) := by decide +kernel
theorem d_MO_editionOf_14 : decode b_MO_editionOf 14 = .ok (.aload_n 0, 1) := by decide +kernel
theorem d_MO_editionOf_15 : decode b_MO_editionOf 15 = .ok (.getfield 22, 3) := by decide +kernel
theorem d_MO_editionOf_18 : decode b_MO_editionOf 18 = .ok (.iload 4, 2) := by decide +kernel
theorem d_MO_editionOf_20 : decode b_MO_editionOf 20 = .ok (.laload, 1) := by decide +kernel
theorem d_MO_editionOf_21 : decode b_MO_editionOf 21 = .ok (.lload_n 1, 1) := by decide +kernel
theorem d_MO_editionOf_22 : decode b_MO_editionOf 22 = .ok (.lcmp, 1) := by decide +kernel
theorem d_MO_editionOf_23 : decode b_MO_editionOf 23 = .ok (.ifCond .gt 30, 3) := by decide +kernel
theorem d_MO_editionOf_26 : decode b_MO_editionOf 26 = .ok (.iload_n 3, 1) := by decide +kernel
theorem d_MO_editionOf_27 : decode b_MO_editionOf 27 = .ok (.iconst (-1), 1) := by decide +kernel
theorem d_MO_editionOf_28 : decode b_MO_editionOf 28 = .ok (.if_icmp .eq 20, 3) := by decide +kernel
theorem d_MO_editionOf_31 : decode b_MO_editionOf 31 = .ok (.aload_n 0, 1) := by decide +kernel
theorem d_MO_editionOf_32 : decode b_MO_editionOf 32 = .ok (.getfield 22, 3) := by decide +kernel
theorem d_MO_editionOf_35 : decode b_MO_editionOf 35 = .ok (.iload 4, 2) := by decide +kernel
theorem d_MO_editionOf_37 : decode b_MO_editionOf 37 = .ok (.laload, 1) := by decide +kernel
theorem d_MO_editionOf_38 : decode b_MO_editionOf 38 = .ok (.aload_n 0, 1) := by decide +kernel
theorem d_MO_editionOf_39 : decode b_MO_editionOf 39 = .ok (.getfield 22, 3) := by decide +kernel
theorem d_MO_editionOf_42 : decode b_MO_editionOf 42 = .ok (.iload_n 3, 1) := by decide +kernel
theorem d_MO_editionOf_43 : decode b_MO_editionOf 43 = .ok (.laload, 1) := by decide +kernel
theorem d_MO_editionOf_44 : decode b_MO_editionOf 44 = .ok (.lcmp, 1) := by decide +kernel
theorem d_MO_editionOf_45 : decode b_MO_editionOf 45 = .ok (.ifCond .lt 8, 3) := by decide +kernel
theorem d_MO_editionOf_48 : decode b_MO_editionOf 48 = .ok (.iload 4, 2) := by decide +kernel
theorem d_MO_editionOf_50 : decode b_MO_editionOf 50 = .ok (.goto 4, 3) := by decide +kernel
theorem d_MO_editionOf_53 : decode b_MO_editionOf 53 = .ok (.iload_n 3, 1) := by decide +kernel
theorem d_MO_editionOf_54 : decode b_MO_editionOf 54 = .ok (.istore_n 3, 1) := by decide +kernel
theorem d_MO_editionOf_55 : decode b_MO_editionOf 55 = .ok (.iinc 4 1, 3) := by decide +kernel
theorem d_MO_editionOf_58 : decode b_MO_editionOf 58 = .ok (.goto (-53), 3) := by decide +kernel
theorem d_MO_editionOf_61 : decode b_MO_editionOf 61 = .ok (.iload_n 3, 1) := by decide +kernel
theorem d_MO_editionOf_62 : decode b_MO_editionOf 62 = .ok (.ireturn, 1) := by decide +kernel
theorem d_MO_holds_0 : decode b_MO_holds 0 = .ok (.iconst (-1), 1) := by decide +kernel
theorem d_MO_holds_1 : decode b_MO_holds 1 = .ok (.istore 7, 2) := by decide +kernel
theorem d_MO_holds_3 : decode b_MO_holds 3 = .ok (.iconst 0, 1) := by decide +kernel
theorem d_MO_holds_4 : decode b_MO_holds 4 = .ok (.istore 8, 2) := by decide +kernel
theorem d_MO_holds_6 : decode b_MO_holds 6 = .ok (.iload 8, 2) := by decide +kernel
theorem d_MO_holds_8 : decode b_MO_holds 8 = .ok (.aload_n 0, 1) := by decide +kernel
theorem d_MO_holds_9 : decode b_MO_holds 9 = .ok (.getfield 177, 3) := by decide +kernel
theorem d_MO_holds_12 : decode b_MO_holds 12 = .ok (.if_icmp .ge 101, 3) := by decide +kernel
theorem d_MO_holds_15 : decode b_MO_holds 15 = .ok (.aload_n 0, 1) := by decide +kernel
theorem d_MO_holds_16 : decode b_MO_holds 16 = .ok (.getfield 26, 3) := by decide +kernel
theorem d_MO_holds_19 : decode b_MO_holds 19 = .ok (.iload 8, 2) := by decide +kernel
theorem d_MO_holds_21 : decode b_MO_holds 21 = .ok (.iaload, 1) := by decide +kernel
theorem d_MO_holds_22 : decode b_MO_holds 22 = .ok (.iload_n 1, 1) := by decide +kernel
theorem d_MO_holds_23 : decode b_MO_holds 23 = .ok (.if_icmp .ne 43, 3) := by decide +kernel
theorem d_MO_holds_26 : decode b_MO_holds 26 = .ok (.aload_n 0, 1) := by decide +kernel
theorem d_MO_holds_27 : decode b_MO_holds 27 = .ok (.getfield 29, 3) := by decide +kernel
theorem d_MO_holds_30 : decode b_MO_holds 30 = .ok (.iload 8, 2) := by decide +kernel
theorem d_MO_holds_32 : decode b_MO_holds 32 = .ok (.iaload, 1) := by decide +kernel
theorem d_MO_holds_33 : decode b_MO_holds 33 = .ok (.iload_n 2, 1) := by decide +kernel
theorem d_MO_holds_34 : decode b_MO_holds 34 = .ok (.if_icmp .ne 32, 3) := by decide +kernel
theorem d_MO_holds_37 : decode b_MO_holds 37 = .ok (.aload_n 0, 1) := by decide +kernel
theorem d_MO_holds_38 : decode b_MO_holds 38 = .ok (.getfield 32, 3) := by decide +kernel
theorem d_MO_holds_41 : decode b_MO_holds 41 = .ok (.iload 8, 2) := by decide +kernel
theorem d_MO_holds_43 : decode b_MO_holds 43 = .ok (.laload, 1) := by decide +kernel
theorem d_MO_holds_44 : decode b_MO_holds 44 = .ok (.lload_n 3, 1) := by decide +kernel
theorem d_MO_holds_45 : decode b_MO_holds 45 = .ok (.lcmp, 1) := by decide +kernel
theorem d_MO_holds_46 : decode b_MO_holds 46 = .ok (.ifCond .gt 20, 3) := by decide +kernel
theorem d_MO_holds_49 : decode b_MO_holds 49 = .ok (.aload_n 0, 1) := by decide +kernel
theorem d_MO_holds_50 : decode b_MO_holds 50 = .ok (.getfield 35, 3) := by decide +kernel
theorem d_MO_holds_53 : decode b_MO_holds 53 = .ok (.iload 8, 2) := by decide +kernel
theorem d_MO_holds_55 : decode b_MO_holds 55 = .ok (.laload, 1) := by decide +kernel
theorem d_MO_holds_56 : decode b_MO_holds 56 = .ok (.lload 5, 2) := by decide +kernel
theorem d_MO_holds_58 : decode b_MO_holds 58 = .ok (.lcmp, 1) := by decide +kernel
theorem d_MO_holds_59 : decode b_MO_holds 59 = .ok (.ifCond .gt 7, 3) := by decide +kernel
theorem d_MO_holds_62 : decode b_MO_holds 62 = .ok (.iconst 1, 1) := by decide +kernel
theorem d_MO_holds_63 : decode b_MO_holds 63 = .ok (.goto 4, 3) := by decide +kernel
theorem d_MO_holds_66 : decode b_MO_holds 66 = .ok (.iconst 0, 1) := by decide +kernel
theorem d_MO_holds_67 : decode b_MO_holds 67 = .ok (.istore 9, 2) := by decide +kernel
theorem d_MO_holds_69 : decode b_MO_holds 69 = .ok (.iload 9, 2) := by decide +kernel
theorem d_MO_holds_71 : decode b_MO_holds 71 = .ok (.ifCond .eq 32, 3) := by decide +kernel
theorem d_MO_holds_74 : decode b_MO_holds 74 = .ok (.iload 7, 2) := by decide +kernel
theorem d_MO_holds_76 : decode b_MO_holds 76 = .ok (.iconst (-1), 1) := by decide +kernel
theorem d_MO_holds_77 : decode b_MO_holds 77 = .ok (.if_icmp .eq 21, 3) := by decide +kernel
theorem d_MO_holds_80 : decode b_MO_holds 80 = .ok (.aload_n 0, 1) := by decide +kernel
theorem d_MO_holds_81 : decode b_MO_holds 81 = .ok (.getfield 32, 3) := by decide +kernel
theorem d_MO_holds_84 : decode b_MO_holds 84 = .ok (.iload 8, 2) := by decide +kernel
theorem d_MO_holds_86 : decode b_MO_holds 86 = .ok (.laload, 1) := by decide +kernel
theorem d_MO_holds_87 : decode b_MO_holds 87 = .ok (.aload_n 0, 1) := by decide +kernel
theorem d_MO_holds_88 : decode b_MO_holds 88 = .ok (.getfield 32, 3) := by decide +kernel
theorem d_MO_holds_91 : decode b_MO_holds 91 = .ok (.iload 7, 2) := by decide +kernel
theorem d_MO_holds_93 : decode b_MO_holds 93 = .ok (.laload, 1) := by decide +kernel
theorem d_MO_holds_94 : decode b_MO_holds 94 = .ok (.lcmp, 1) := by decide +kernel
theorem d_MO_holds_95 : decode b_MO_holds 95 = .ok (.ifCond .lt 8, 3) := by decide +kernel
theorem d_MO_holds_98 : decode b_MO_holds 98 = .ok (.iload 8, 2) := by decide +kernel
theorem d_MO_holds_100 : decode b_MO_holds 100 = .ok (.goto 5, 3) := by decide +kernel
theorem d_MO_holds_103 : decode b_MO_holds 103 = .ok (.iload 7, 2) := by decide +kernel
theorem d_MO_holds_105 : decode b_MO_holds 105 = .ok (.istore 7, 2) := by decide +kernel
theorem d_MO_holds_107 : decode b_MO_holds 107 = .ok (.iinc 8 1, 3) := by decide +kernel
theorem d_MO_holds_110 : decode b_MO_holds 110 = .ok (.goto (-104), 3) := by decide +kernel
theorem d_MO_holds_113 : decode b_MO_holds 113 = .ok (.iload 7, 2) := by decide +kernel
theorem d_MO_holds_115 : decode b_MO_holds 115 = .ok (.ireturn, 1) := by decide +kernel
theorem d_MO_find_0 : decode b_MO_find 0 = .ok (.iconst 0, 1) := by decide +kernel
theorem d_MO_find_1 : decode b_MO_find 1 = .ok (.istore 7, 2) := by decide +kernel
theorem d_MO_find_3 : decode b_MO_find 3 = .ok (.iload 7, 2) := by decide +kernel
theorem d_MO_find_5 : decode b_MO_find 5 = .ok (.aload_n 0, 1) := by decide +kernel
theorem d_MO_find_6 : decode b_MO_find 6 = .ok (.getfield 19, 3) := by decide +kernel
theorem d_MO_find_9 : decode b_MO_find 9 = .ok (.iload_n 1, 1) := by decide +kernel
theorem d_MO_find_10 : decode b_MO_find 10 = .ok (.iaload, 1) := by decide +kernel
theorem d_MO_find_11 : decode b_MO_find 11 = .ok (.if_icmp .ge 102, 3) := by decide +kernel
theorem d_MO_find_14 : decode b_MO_find 14 = .ok (.iload_n 1, 1) := by decide +kernel
theorem d_MO_find_15 : decode b_MO_find 15 = .ok (.bipush 40, 2) := by decide +kernel
theorem d_MO_find_17 : decode b_MO_find 17 = .ok (.imul, 1) := by decide +kernel
theorem d_MO_find_18 : decode b_MO_find 18 = .ok (.iload 7, 2) := by decide +kernel
theorem d_MO_find_20 : decode b_MO_find 20 = .ok (.iadd, 1) := by decide +kernel
theorem d_MO_find_21 : decode b_MO_find 21 = .ok (.iconst 5, 1) := by decide +kernel
theorem d_MO_find_22 : decode b_MO_find 22 = .ok (.imul, 1) := by decide +kernel
theorem d_MO_find_23 : decode b_MO_find 23 = .ok (.istore 8, 2) := by decide +kernel
theorem d_MO_find_25 : decode b_MO_find 25 = .ok (.aload_n 0, 1) := by decide +kernel
theorem d_MO_find_26 : decode b_MO_find 26 = .ok (.getfield 16, 3) := by decide +kernel
theorem d_MO_find_29 : decode b_MO_find 29 = .ok (.iload 8, 2) := by decide +kernel
theorem d_MO_find_31 : decode b_MO_find 31 = .ok (.iaload, 1) := by decide +kernel
theorem d_MO_find_32 : decode b_MO_find 32 = .ok (.iload_n 2, 1) := by decide +kernel
theorem d_MO_find_33 : decode b_MO_find 33 = .ok (.if_icmp .ne 27, 3) := by decide +kernel
theorem d_MO_find_36 : decode b_MO_find 36 = .ok (.iload_n 2, 1) := by decide +kernel
theorem d_MO_find_37 : decode b_MO_find 37 = .ok (.iconst 4, 1) := by decide +kernel
theorem d_MO_find_38 : decode b_MO_find 38 = .ok (.if_icmp .ge 18, 3) := by decide +kernel
theorem d_MO_find_41 : decode b_MO_find 41 = .ok (.aload_n 0, 1) := by decide +kernel
theorem d_MO_find_42 : decode b_MO_find 42 = .ok (.getfield 16, 3) := by decide +kernel
theorem d_MO_find_45 : decode b_MO_find 45 = .ok (.iload 8, 2) := by decide +kernel
theorem d_MO_find_47 : decode b_MO_find 47 = .ok (.iconst 1, 1) := by decide +kernel
theorem d_MO_find_48 : decode b_MO_find 48 = .ok (.iadd, 1) := by decide +kernel
theorem d_MO_find_49 : decode b_MO_find 49 = .ok (.iaload, 1) := by decide +kernel
theorem d_MO_find_50 : decode b_MO_find 50 = .ok (.i2l, 1) := by decide +kernel
theorem d_MO_find_51 : decode b_MO_find 51 = .ok (.lload_n 3, 1) := by decide +kernel
theorem d_MO_find_52 : decode b_MO_find 52 = .ok (.lcmp, 1) := by decide +kernel
theorem d_MO_find_53 : decode b_MO_find 53 = .ok (.ifCond .ne 7, 3) := by decide +kernel
theorem d_MO_find_56 : decode b_MO_find 56 = .ok (.iconst 1, 1) := by decide +kernel
theorem d_MO_find_57 : decode b_MO_find 57 = .ok (.goto 4, 3) := by decide +kernel
theorem d_MO_find_60 : decode b_MO_find 60 = .ok (.iconst 0, 1) := by decide +kernel
theorem d_MO_find_61 : decode b_MO_find 61 = .ok (.istore 9, 2) := by decide +kernel
theorem d_MO_find_63 : decode b_MO_find 63 = .ok (.iload 9, 2) := by decide +kernel
theorem d_MO_find_65 : decode b_MO_find 65 = .ok (.ifCond .eq 42, 3) := by decide +kernel
theorem d_MO_find_68 : decode b_MO_find 68 = .ok (.iload_n 2, 1) := by decide +kernel
theorem d_MO_find_69 : decode b_MO_find 69 = .ok (.ifCond .ne 35, 3) := by decide +kernel
theorem d_MO_find_72 : decode b_MO_find 72 = .ok (.aload_n 0, 1) := by decide +kernel
theorem d_MO_find_73 : decode b_MO_find 73 = .ok (.getfield 16, 3) := by decide +kernel
theorem d_MO_find_76 : decode b_MO_find 76 = .ok (.iload 8, 2) := by decide +kernel
theorem d_MO_find_78 : decode b_MO_find 78 = .ok (.iconst 2, 1) := by decide +kernel
theorem d_MO_find_79 : decode b_MO_find 79 = .ok (.iadd, 1) := by decide +kernel
theorem d_MO_find_80 : decode b_MO_find 80 = .ok (.iaload, 1) := by decide +kernel
theorem d_MO_find_81 : decode b_MO_find 81 = .ok (.i2l, 1) := by decide +kernel
theorem d_MO_find_82 : decode b_MO_find 82 = .ok (.lload 5, 2) := by decide +kernel
theorem d_MO_find_84 : decode b_MO_find 84 = .ok (.lcmp, 1) := by decide +kernel
theorem d_MO_find_85 : decode b_MO_find 85 = .ok (.ifCond .gt 22, 3) := by decide +kernel
theorem d_MO_find_88 : decode b_MO_find 88 = .ok (.lload 5, 2) := by decide +kernel
theorem d_MO_find_90 : decode b_MO_find 90 = .ok (.aload_n 0, 1) := by decide +kernel
theorem d_MO_find_91 : decode b_MO_find 91 = .ok (.getfield 16, 3) := by decide +kernel
theorem d_MO_find_94 : decode b_MO_find 94 = .ok (.iload 8, 2) := by decide +kernel
theorem d_MO_find_96 : decode b_MO_find 96 = .ok (.iconst 3, 1) := by decide +kernel
theorem d_MO_find_97 : decode b_MO_find 97 = .ok (.iadd, 1) := by decide +kernel
theorem d_MO_find_98 : decode b_MO_find 98 = .ok (.iaload, 1) := by decide +kernel
theorem d_MO_find_99 : decode b_MO_find 99 = .ok (.i2l, 1) := by decide +kernel
theorem d_MO_find_100 : decode b_MO_find 100 = .ok (.lcmp, 1) := by decide +kernel
theorem d_MO_find_101 : decode b_MO_find 101 = .ok (.ifCond .ge 6, 3) := by decide +kernel
theorem d_MO_find_104 : decode b_MO_find 104 = .ok (.iload 7, 2) := by decide +kernel
theorem d_MO_find_106 : decode b_MO_find 106 = .ok (.ireturn, 1) := by decide +kernel
theorem d_MO_find_107 : decode b_MO_find 107 = .ok (.iinc 7 1, 3) := by decide +kernel
theorem d_MO_find_110 : decode b_MO_find 110 = .ok (.goto (-107), 3) := by decide +kernel
theorem d_MO_find_113 : decode b_MO_find 113 = .ok (.iconst (-1), 1) := by decide +kernel
theorem d_MO_find_114 : decode b_MO_find 114 = .ok (.ireturn, 1) := by decide +kernel
theorem d_MO_value_0 : decode b_MO_value 0 = .ok (.aload_n 0, 1) := by decide +kernel
theorem d_MO_value_1 : decode b_MO_value 1 = .ok (.getfield 16, 3) := by decide +kernel
theorem d_MO_value_4 : decode b_MO_value 4 = .ok (.iload_n 1, 1) := by decide +kernel
theorem d_MO_value_5 : decode b_MO_value 5 = .ok (.bipush 40, 2) := by decide +kernel
theorem d_MO_value_7 : decode b_MO_value 7 = .ok (.imul, 1) := by decide +kernel
theorem d_MO_value_8 : decode b_MO_value 8 = .ok (.iload_n 2, 1) := by decide +kernel
theorem d_MO_value_9 : decode b_MO_value 9 = .ok (.iadd, 1) := by decide +kernel
theorem d_MO_value_10 : decode b_MO_value 10 = .ok (.iconst 5, 1) := by decide +kernel
theorem d_MO_value_11 : decode b_MO_value 11 = .ok (.imul, 1) := by decide +kernel
theorem d_MO_value_12 : decode b_MO_value 12 = .ok (.iload_n 3, 1) := by decide +kernel
theorem d_MO_value_13 : decode b_MO_value 13 = .ok (.iadd, 1) := by decide +kernel
theorem d_MO_value_14 : decode b_MO_value 14 = .ok (.iaload, 1) := by decide +kernel
theorem d_MO_value_15 : decode b_MO_value 15 = .ok (.ireturn, 1) := by decide +kernel
theorem d_MO_step_0 : decode b_MO_step 0 = .ok (.aload_n 0, 1) := by decide +kernel
theorem d_MO_step_1 : decode b_MO_step 1 = .ok (.getfield 41, 3) := by decide +kernel
theorem d_MO_step_4 : decode b_MO_step 4 = .ok (.aload_n 0, 1) := by decide +kernel
theorem d_MO_step_5 : decode b_MO_step 5 = .ok (.getfield 184, 3) := by decide +kernel
theorem d_MO_step_8 : decode b_MO_step 8 = .ok (.iload_n 1, 1) := by decide +kernel
theorem d_MO_step_9 : decode b_MO_step 9 = .ok (.iastore, 1) := by decide +kernel
theorem d_MO_step_10 : decode b_MO_step 10 = .ok (.aload_n 0, 1) := by decide +kernel
theorem d_MO_step_11 : decode b_MO_step 11 = .ok (.getfield 44, 3) := by decide +kernel
theorem d_MO_step_14 : decode b_MO_step 14 = .ok (.aload_n 0, 1) := by decide +kernel
theorem d_MO_step_15 : decode b_MO_step 15 = .ok (.getfield 184, 3) := by decide +kernel
theorem d_MO_step_18 : decode b_MO_step 18 = .ok (.iload_n 2, 1) := by decide +kernel
theorem d_MO_step_19 : decode b_MO_step 19 = .ok (.iastore, 1) := by decide +kernel
theorem d_MO_step_20 : decode b_MO_step 20 = .ok (.aload_n 0, 1) := by decide +kernel
theorem d_MO_step_21 : decode b_MO_step 21 = .ok (.getfield 47, 3) := by decide +kernel
theorem d_MO_step_24 : decode b_MO_step 24 = .ok (.aload_n 0, 1) := by decide +kernel
theorem d_MO_step_25 : decode b_MO_step 25 = .ok (.getfield 184, 3) := by decide +kernel
theorem d_MO_step_28 : decode b_MO_step 28 = .ok (.aload_n 0, 1) := by decide +kernel
theorem d_MO_step_29 : decode b_MO_step 29 = .ok (.getfield 187, 3) := by decide +kernel
theorem d_MO_step_32 : decode b_MO_step 32 = .ok (.ldc2_w 190, 3) := by decide +kernel
theorem d_MO_step_35 : decode b_MO_step 35 = .ok (.ldiv, 1) := by decide +kernel
theorem d_MO_step_36 : decode b_MO_step 36 = .ok (.lastore, 1) := by decide +kernel
theorem d_MO_step_37 : decode b_MO_step 37 = .ok (.aload_n 0, 1) := by decide +kernel
theorem d_MO_step_38 : decode b_MO_step 38 = .ok (.dup, 1) := by decide +kernel
theorem d_MO_step_39 : decode b_MO_step 39 = .ok (.getfield 184, 3) := by decide +kernel
theorem d_MO_step_42 : decode b_MO_step 42 = .ok (.iconst 1, 1) := by decide +kernel
theorem d_MO_step_43 : decode b_MO_step 43 = .ok (.iadd, 1) := by decide +kernel
theorem d_MO_step_44 : decode b_MO_step 44 = .ok (.putfield 184, 3) := by decide +kernel
theorem d_MO_step_47 : decode b_MO_step 47 = .ok (.return_, 1) := by decide +kernel
theorem d_MO_least_0 : decode b_MO_least 0 = .ok (.lload_n 0, 1) := by decide +kernel
theorem d_MO_least_1 : decode b_MO_least 1 = .ok (.lload_n 2, 1) := by decide +kernel
theorem d_MO_least_2 : decode b_MO_least 2 = .ok (.lcmp, 1) := by decide +kernel
theorem d_MO_least_3 : decode b_MO_least 3 = .ok (.ifCond .ge 7, 3) := by decide +kernel
theorem d_MO_least_6 : decode b_MO_least 6 = .ok (.lload_n 0, 1) := by decide +kernel
theorem d_MO_least_7 : decode b_MO_least 7 = .ok (.goto 4, 3) := by decide +kernel
theorem d_MO_least_10 : decode b_MO_least 10 = .ok (.lload_n 2, 1) := by decide +kernel
theorem d_MO_least_11 : decode b_MO_least 11 = .ok (.lreturn, 1) := by decide +kernel
theorem d_MO_fraction_0 : decode b_MO_fraction 0 = .ok (.lload_n 2, 1) := by decide +kernel
theorem d_MO_fraction_1 : decode b_MO_fraction 1 = .ok (.lload_n 0, 1) := by decide +kernel
theorem d_MO_fraction_2 : decode b_MO_fraction 2 = .ok (.invokestatic 223, 3) := by decide +kernel
theorem d_MO_fraction_5 : decode b_MO_fraction 5 = .ok (.lstore 5, 2) := by decide +kernel
theorem d_MO_fraction_7 : decode b_MO_fraction 7 = .ok (.iload 4, 2) := by decide +kernel
theorem d_MO_fraction_9 : decode b_MO_fraction 9 = .ok (.ifCond .ne 10, 3) := by decide +kernel
theorem d_MO_fraction_12 : decode b_MO_fraction 12 = .ok (.lload_n 0, 1) := by decide +kernel
theorem d_MO_fraction_13 : decode b_MO_fraction 13 = .ok (.lload 5, 2) := by decide +kernel
theorem d_MO_fraction_15 : decode b_MO_fraction 15 = .ok (.ldiv, 1) := by decide +kernel
theorem d_MO_fraction_16 : decode b_MO_fraction 16 = .ok (.goto 7, 3) := by decide +kernel
theorem d_MO_fraction_19 : decode b_MO_fraction 19 = .ok (.lload_n 2, 1) := by decide +kernel
theorem d_MO_fraction_20 : decode b_MO_fraction 20 = .ok (.lload 5, 2) := by decide +kernel
theorem d_MO_fraction_22 : decode b_MO_fraction 22 = .ok (.ldiv, 1) := by decide +kernel
theorem d_MO_fraction_23 : decode b_MO_fraction 23 = .ok (.lreturn, 1) := by decide +kernel
theorem d_MO_divisor_0 : decode b_MO_divisor 0 = .ok (.lload_n 0, 1) := by decide +kernel
theorem d_MO_divisor_1 : decode b_MO_divisor 1 = .ok (.lstore 4, 2) := by decide +kernel
theorem d_MO_divisor_3 : decode b_MO_divisor 3 = .ok (.lload_n 2, 1) := by decide +kernel
theorem d_MO_divisor_4 : decode b_MO_divisor 4 = .ok (.lstore 6, 2) := by decide +kernel
theorem d_MO_divisor_6 : decode b_MO_divisor 6 = .ok (.lload 6, 2) := by decide +kernel
theorem d_MO_divisor_8 : decode b_MO_divisor 8 = .ok (.lconst 0, 1) := by decide +kernel
theorem d_MO_divisor_9 : decode b_MO_divisor 9 = .ok (.lcmp, 1) := by decide +kernel
theorem d_MO_divisor_10 : decode b_MO_divisor 10 = .ok (.ifCond .eq 21, 3) := by decide +kernel
theorem d_MO_divisor_13 : decode b_MO_divisor 13 = .ok (.lload 4, 2) := by decide +kernel
theorem d_MO_divisor_15 : decode b_MO_divisor 15 = .ok (.lload 6, 2) := by decide +kernel
theorem d_MO_divisor_17 : decode b_MO_divisor 17 = .ok (.lrem, 1) := by decide +kernel
theorem d_MO_divisor_18 : decode b_MO_divisor 18 = .ok (.lstore 8, 2) := by decide +kernel
theorem d_MO_divisor_20 : decode b_MO_divisor 20 = .ok (.lload 6, 2) := by decide +kernel
theorem d_MO_divisor_22 : decode b_MO_divisor 22 = .ok (.lstore 4, 2) := by decide +kernel
theorem d_MO_divisor_24 : decode b_MO_divisor 24 = .ok (.lload 8, 2) := by decide +kernel
theorem d_MO_divisor_26 : decode b_MO_divisor 26 = .ok (.lstore 6, 2) := by decide +kernel
theorem d_MO_divisor_28 : decode b_MO_divisor 28 = .ok (.goto (-22), 3) := by decide +kernel
theorem d_MO_divisor_31 : decode b_MO_divisor 31 = .ok (.lload 4, 2) := by decide +kernel
theorem d_MO_divisor_33 : decode b_MO_divisor 33 = .ok (.lreturn, 1) := by decide +kernel
theorem d_MO_open_0 : decode b_MO_open 0 = .ok (.aload_n 0, 1) := by decide +kernel
theorem d_MO_open_1 : decode b_MO_open 1 = .ok (.getfield 50, 3) := by decide +kernel
theorem d_MO_open_4 : decode b_MO_open 4 = .ok (.iconst (-1), 1) := by decide +kernel
theorem d_MO_open_5 : decode b_MO_open 5 = .ok (.if_icmp .ne 5, 3) := by decide +kernel
theorem d_MO_open_8 : decode b_MO_open 8 = .ok (.iconst (-1), 1) := by decide +kernel
theorem d_MO_open_9 : decode b_MO_open 9 = .ok (.ireturn, 1) := by decide +kernel
theorem d_MO_open_10 : decode b_MO_open 10 = .ok (.iload_n 1, 1) := by decide +kernel
theorem d_MO_open_11 : decode b_MO_open 11 = .ok (.ifCond .ne 10, 3) := by decide +kernel
theorem d_MO_open_14 : decode b_MO_open 14 = .ok (.aload_n 0, 1) := by decide +kernel
theorem d_MO_open_15 : decode b_MO_open 15 = .ok (.getfield 50, 3) := by decide +kernel
theorem d_MO_open_18 : decode b_MO_open 18 = .ok (.goto 28, 3) := by decide +kernel
theorem d_MO_open_21 : decode b_MO_open 21 = .ok (.iload_n 1, 1) := by decide +kernel
theorem d_MO_open_22 : decode b_MO_open 22 = .ok (.iconst 1, 1) := by decide +kernel
theorem d_MO_open_23 : decode b_MO_open 23 = .ok (.if_icmp .ne 10, 3) := by decide +kernel
theorem d_MO_open_26 : decode b_MO_open 26 = .ok (.aload_n 0, 1) := by decide +kernel
theorem d_MO_open_27 : decode b_MO_open 27 = .ok (.getfield 234, 3) := by decide +kernel
theorem d_MO_open_30 : decode b_MO_open 30 = .ok (.goto 16, 3) := by decide +kernel
theorem d_MO_open_33 : decode b_MO_open 33 = .ok (.iload_n 1, 1) := by decide +kernel
theorem d_MO_open_34 : decode b_MO_open 34 = .ok (.iconst 2, 1) := by decide +kernel
theorem d_MO_open_35 : decode b_MO_open 35 = .ok (.if_icmp .ne 10, 3) := by decide +kernel
theorem d_MO_open_38 : decode b_MO_open 38 = .ok (.aload_n 0, 1) := by decide +kernel
theorem d_MO_open_39 : decode b_MO_open 39 = .ok (.getfield 237, 3) := by decide +kernel
theorem d_MO_open_42 : decode b_MO_open 42 = .ok (.goto 4, 3) := by decide +kernel
theorem d_MO_open_45 : decode b_MO_open 45 = .ok (.iconst (-1), 1) := by decide +kernel
theorem d_MO_open_46 : decode b_MO_open 46 = .ok (.ireturn, 1) := by decide +kernel
theorem d_MO_step2_0 : decode b_MO_step2 0 = .ok (.iload_n 1, 1) := by decide +kernel
theorem d_MO_step2_1 : decode b_MO_step2 1 = .ok (.aload_n 0, 1) := by decide +kernel
theorem d_MO_step2_2 : decode b_MO_step2 2 = .ok (.getfield 50, 3) := by decide +kernel
theorem d_MO_step2_5 : decode b_MO_step2 5 = .ok (.if_icmp .ne 15, 3) := by decide +kernel
theorem d_MO_step2_8 : decode b_MO_step2 8 = .ok (.iload_n 2, 1) := by decide +kernel
theorem d_MO_step2_9 : decode b_MO_step2 9 = .ok (.ifCond .lt 11, 3) := by decide +kernel
theorem d_MO_step2_12 : decode b_MO_step2 12 = .ok (.iload_n 2, 1) := by decide +kernel
theorem d_MO_step2_13 : decode b_MO_step2 13 = .ok (.aload_n 0, 1) := by decide +kernel
theorem d_MO_step2_14 : decode b_MO_step2 14 = .ok (.getfield 237, 3) := by decide +kernel
theorem d_MO_step2_17 : decode b_MO_step2 17 = .ok (.if_icmp .lt 5, 3) := by decide +kernel
theorem d_MO_step2_20 : decode b_MO_step2 20 = .ok (.iconst (-1), 1) := by decide +kernel
theorem d_MO_step2_21 : decode b_MO_step2 21 = .ok (.ireturn, 1) := by decide +kernel
theorem d_MO_step2_22 : decode b_MO_step2 22 = .ok (.iload_n 3, 1) := by decide +kernel
theorem d_MO_step2_23 : decode b_MO_step2 23 = .ok (.ifCond .ne 12, 3) := by decide +kernel
theorem d_MO_step2_26 : decode b_MO_step2 26 = .ok (.aload_n 0, 1) := by decide +kernel
theorem d_MO_step2_27 : decode b_MO_step2 27 = .ok (.getfield 54, 3) := by decide +kernel
theorem d_MO_step2_30 : decode b_MO_step2 30 = .ok (.iload_n 2, 1) := by decide +kernel
theorem d_MO_step2_31 : decode b_MO_step2 31 = .ok (.iaload, 1) := by decide +kernel
theorem d_MO_step2_32 : decode b_MO_step2 32 = .ok (.goto 39, 3) := by decide +kernel
theorem d_MO_step2_35 : decode b_MO_step2 35 = .ok (.iload_n 3, 1) := by decide +kernel
theorem d_MO_step2_36 : decode b_MO_step2 36 = .ok (.iconst 1, 1) := by decide +kernel
theorem d_MO_step2_37 : decode b_MO_step2 37 = .ok (.if_icmp .ne 12, 3) := by decide +kernel
theorem d_MO_step2_40 : decode b_MO_step2 40 = .ok (.aload_n 0, 1) := by decide +kernel
theorem d_MO_step2_41 : decode b_MO_step2 41 = .ok (.getfield 57, 3) := by decide +kernel
theorem d_MO_step2_44 : decode b_MO_step2 44 = .ok (.iload_n 2, 1) := by decide +kernel
theorem d_MO_step2_45 : decode b_MO_step2 45 = .ok (.iaload, 1) := by decide +kernel
theorem d_MO_step2_46 : decode b_MO_step2 46 = .ok (.goto 25, 3) := by decide +kernel
theorem d_MO_step2_49 : decode b_MO_step2 49 = .ok (.iload_n 3, 1) := by decide +kernel
theorem d_MO_step2_50 : decode b_MO_step2 50 = .ok (.iconst 2, 1) := by decide +kernel
theorem d_MO_step2_51 : decode b_MO_step2 51 = .ok (.if_icmp .ne 19, 3) := by decide +kernel
theorem d_MO_step2_54 : decode b_MO_step2 54 = .ok (.aload_n 0, 1) := by decide +kernel
theorem d_MO_step2_55 : decode b_MO_step2 55 = .ok (.getfield 60, 3) := by decide +kernel
theorem d_MO_step2_58 : decode b_MO_step2 58 = .ok (.iload_n 2, 1) := by decide +kernel
theorem d_MO_step2_59 : decode b_MO_step2 59 = .ok (.laload, 1) := by decide +kernel
theorem d_MO_step2_60 : decode b_MO_step2 60 = .ok (.ldc2_w 244, 3) := by decide +kernel
theorem d_MO_step2_63 : decode b_MO_step2 63 = .ok (.invokestatic 217, 3) := by decide +kernel
theorem d_MO_step2_66 : decode b_MO_step2 66 = .ok (.l2i, 1) := by decide +kernel
theorem d_MO_step2_67 : decode b_MO_step2 67 = .ok (.goto 4, 3) := by decide +kernel
theorem d_MO_step2_70 : decode b_MO_step2 70 = .ok (.iconst (-1), 1) := by decide +kernel
theorem d_MO_step2_71 : decode b_MO_step2 71 = .ok (.ireturn, 1) := by decide +kernel
theorem d_MO_allowed_0 : decode b_MO_allowed 0 = .ok (.iload_n 1, 1) := by decide +kernel
theorem d_MO_allowed_1 : decode b_MO_allowed 1 = .ok (.invokestatic 250, 3) := by decide +kernel
theorem d_MO_allowed_4 : decode b_MO_allowed 4 = .ok (.ifCond .eq 12, 3) := by decide +kernel
theorem d_MO_allowed_7 : decode b_MO_allowed 7 = .ok (.iload_n 2, 1) := by decide +kernel
theorem d_MO_allowed_8 : decode b_MO_allowed 8 = .ok (.ifCond .lt 8, 3) := by decide +kernel
theorem d_MO_allowed_11 : decode b_MO_allowed 11 = .ok (.iload_n 2, 1) := by decide +kernel
theorem d_MO_allowed_12 : decode b_MO_allowed 12 = .ok (.iconst 1, 1) := by decide +kernel
theorem d_MO_allowed_13 : decode b_MO_allowed 13 = .ok (.if_icmp .le 7, 3) := by decide +kernel
theorem d_MO_allowed_16 : decode b_MO_allowed 16 = .ok (.ldc2_w 253, 3) := by decide +kernel
theorem d_MO_allowed_19 : decode b_MO_allowed 19 = .ok (.lreturn, 1) := by decide +kernel
theorem d_MO_allowed_20 : decode b_MO_allowed 20 = .ok (.lconst 0, 1) := by decide +kernel
theorem d_MO_allowed_21 : decode b_MO_allowed 21 = .ok (.lstore_n 3, 1) := by decide +kernel
theorem d_MO_allowed_22 : decode b_MO_allowed 22 = .ok (.iconst 0, 1) := by decide +kernel
theorem d_MO_allowed_23 : decode b_MO_allowed 23 = .ok (.istore 5, 2) := by decide +kernel
theorem d_MO_allowed_25 : decode b_MO_allowed 25 = .ok (.iload 5, 2) := by decide +kernel
theorem d_MO_allowed_27 : decode b_MO_allowed 27 = .ok (.bipush 30, 2) := by decide +kernel
theorem d_MO_allowed_29 : decode b_MO_allowed 29 = .ok (.if_icmp .ge 37, 3) := by decide +kernel
theorem d_MO_allowed_32 : decode b_MO_allowed 32 = .ok (.lload_n 3, 1) := by decide +kernel
theorem d_MO_allowed_33 : decode b_MO_allowed 33 = .ok (.aload_n 0, 1) := by decide +kernel
theorem d_MO_allowed_34 : decode b_MO_allowed 34 = .ok (.iload 5, 2) := by decide +kernel
theorem d_MO_allowed_36 : decode b_MO_allowed 36 = .ok (.iload_n 1, 1) := by decide +kernel
theorem d_MO_allowed_37 : decode b_MO_allowed 37 = .ok (.invokestatic 255, 3) := by decide +kernel
theorem d_MO_allowed_40 : decode b_MO_allowed 40 = .ok (.iload_n 1, 1) := by decide +kernel
theorem d_MO_allowed_41 : decode b_MO_allowed 41 = .ok (.invokestatic 255, 3) := by decide +kernel
theorem d_MO_allowed_44 : decode b_MO_allowed 44 = .ok (.invokevirtual 230, 3) := by decide +kernel
theorem d_MO_allowed_47 : decode b_MO_allowed 47 = .ok (.ifCond .eq 10, 3) := by decide +kernel
theorem d_MO_allowed_50 : decode b_MO_allowed 50 = .ok (.aload_n 0, 1) := by decide +kernel
theorem d_MO_allowed_51 : decode b_MO_allowed 51 = .ok (.getfield 192, 3) := by decide +kernel
theorem d_MO_allowed_54 : decode b_MO_allowed 54 = .ok (.goto 4, 3) := by decide +kernel
theorem d_MO_allowed_57 : decode b_MO_allowed 57 = .ok (.lconst 0, 1) := by decide +kernel
theorem d_MO_allowed_58 : decode b_MO_allowed 58 = .ok (.ladd, 1) := by decide +kernel
theorem d_MO_allowed_59 : decode b_MO_allowed 59 = .ok (.lstore_n 3, 1) := by decide +kernel
theorem d_MO_allowed_60 : decode b_MO_allowed 60 = .ok (.iinc 5 1, 3) := by decide +kernel
theorem d_MO_allowed_63 : decode b_MO_allowed 63 = .ok (.goto (-38), 3) := by decide +kernel
theorem d_MO_allowed_66 : decode b_MO_allowed 66 = .ok (.lload_n 3, 1) := by decide +kernel
theorem d_MO_allowed_67 : decode b_MO_allowed 67 = .ok (.ldc2_w 158, 3) := by decide +kernel
theorem d_MO_allowed_70 : decode b_MO_allowed 70 = .ok (.iload_n 2, 1) := by decide +kernel
theorem d_MO_allowed_71 : decode b_MO_allowed 71 = .ok (.invokestatic 240, 3) := by decide +kernel
theorem d_MO_allowed_74 : decode b_MO_allowed 74 = .ok (.lreturn, 1) := by decide +kernel
theorem d_MO_isMonth_0 : decode b_MO_isMonth 0 = .ok (.iload_n 0, 1) := by decide +kernel
theorem d_MO_isMonth_1 : decode b_MO_isMonth 1 = .ok (.ifCond .lt 14, 3) := by decide +kernel
theorem d_MO_isMonth_4 : decode b_MO_isMonth 4 = .ok (.iload_n 0, 1) := by decide +kernel
theorem d_MO_isMonth_5 : decode b_MO_isMonth 5 = .ok (.sipush 3001, 3) := by decide +kernel
theorem d_MO_isMonth_8 : decode b_MO_isMonth 8 = .ok (.if_icmp .ge 7, 3) := by decide +kernel
theorem d_MO_isMonth_11 : decode b_MO_isMonth 11 = .ok (.iconst 1, 1) := by decide +kernel
theorem d_MO_isMonth_12 : decode b_MO_isMonth 12 = .ok (.goto 4, 3) := by decide +kernel
theorem d_MO_isMonth_15 : decode b_MO_isMonth 15 = .ok (.iconst 0, 1) := by decide +kernel
theorem d_MO_isMonth_16 : decode b_MO_isMonth 16 = .ok (.ireturn, 1) := by decide +kernel
theorem d_MO_lastOf_0 : decode b_MO_lastOf 0 = .ok (.ldc2_w 246, 3) := by decide +kernel
theorem d_MO_lastOf_3 : decode b_MO_lastOf 3 = .ok (.iload_n 0, 1) := by decide +kernel
theorem d_MO_lastOf_4 : decode b_MO_lastOf 4 = .ok (.i2l, 1) := by decide +kernel
theorem d_MO_lastOf_5 : decode b_MO_lastOf 5 = .ok (.lmul, 1) := by decide +kernel
theorem d_MO_lastOf_6 : decode b_MO_lastOf 6 = .ok (.ldc2_w 248, 3) := by decide +kernel
theorem d_MO_lastOf_9 : decode b_MO_lastOf 9 = .ok (.ladd, 1) := by decide +kernel
theorem d_MO_lastOf_10 : decode b_MO_lastOf 10 = .ok (.lreturn, 1) := by decide +kernel
theorem d_MO_returned_0 : decode b_MO_returned 0 = .ok (.iload_n 1, 1) := by decide +kernel
theorem d_MO_returned_1 : decode b_MO_returned 1 = .ok (.invokestatic 250, 3) := by decide +kernel
theorem d_MO_returned_4 : decode b_MO_returned 4 = .ok (.ifCond .ne 5, 3) := by decide +kernel
theorem d_MO_returned_7 : decode b_MO_returned 7 = .ok (.iconst (-1), 1) := by decide +kernel
theorem d_MO_returned_8 : decode b_MO_returned 8 = .ok (.ireturn, 1) := by decide +kernel
theorem d_MO_returned_9 : decode b_MO_returned 9 = .ok (.aload_n 0, 1) := by decide +kernel
theorem d_MO_returned_10 : decode b_MO_returned 10 = .ok (.iconst 0, 1) := by decide +kernel
theorem d_MO_returned_11 : decode b_MO_returned 11 = .ok (.putfield 258, 3) := by decide +kernel
theorem d_MO_returned_14 : decode b_MO_returned 14 = .ok (.iconst 0, 1) := by decide +kernel
theorem d_MO_returned_15 : decode b_MO_returned 15 = .ok (.istore_n 2, 1) := by decide +kernel
theorem d_MO_returned_16 : decode b_MO_returned 16 = .ok (.iload_n 2, 1) := by decide +kernel
theorem d_MO_returned_17 : decode b_MO_returned 17 = .ok (.bipush 30, 2) := by decide +kernel
theorem d_MO_returned_19 : decode b_MO_returned 19 = .ok (.if_icmp .ge 172, 3) := by decide +kernel
theorem d_MO_returned_22 : decode b_MO_returned 22 = .ok (.iload_n 1, 1) := by decide +kernel
theorem d_MO_returned_23 : decode b_MO_returned 23 = .ok (.bipush 30, 2) := by decide +kernel
theorem d_MO_returned_25 : decode b_MO_returned 25 = .ok (.imul, 1) := by decide +kernel
theorem d_MO_returned_26 : decode b_MO_returned 26 = .ok (.iload_n 2, 1) := by decide +kernel
theorem d_MO_returned_27 : decode b_MO_returned 27 = .ok (.iadd, 1) := by decide +kernel
theorem d_MO_returned_28 : decode b_MO_returned 28 = .ok (.istore_n 3, 1) := by decide +kernel
theorem d_MO_returned_29 : decode b_MO_returned 29 = .ok (.aload_n 0, 1) := by decide +kernel
theorem d_MO_returned_30 : decode b_MO_returned 30 = .ok (.getfield 64, 3) := by decide +kernel
theorem d_MO_returned_33 : decode b_MO_returned 33 = .ok (.iload_n 3, 1) := by decide +kernel
theorem d_MO_returned_34 : decode b_MO_returned 34 = .ok (.iaload, 1) := by decide +kernel
theorem d_MO_returned_35 : decode b_MO_returned 35 = .ok (.istore 4, 2) := by decide +kernel
theorem d_MO_returned_37 : decode b_MO_returned 37 = .ok (.aload_n 0, 1) := by decide +kernel
theorem d_MO_returned_38 : decode b_MO_returned 38 = .ok (.getfield 67, 3) := by decide +kernel
theorem d_MO_returned_41 : decode b_MO_returned 41 = .ok (.iload_n 3, 1) := by decide +kernel
theorem d_MO_returned_42 : decode b_MO_returned 42 = .ok (.laload, 1) := by decide +kernel
theorem d_MO_returned_43 : decode b_MO_returned 43 = .ok (.lstore 5, 2) := by decide +kernel
theorem d_MO_returned_45 : decode b_MO_returned 45 = .ok (.aload_n 0, 1) := by decide +kernel
theorem d_MO_returned_46 : decode b_MO_returned 46 = .ok (.getfield 64, 3) := by decide +kernel
theorem d_MO_returned_49 : decode b_MO_returned 49 = .ok (.iload_n 3, 1) := by decide +kernel
theorem d_MO_returned_50 : decode b_MO_returned 50 = .ok (.iconst 0, 1) := by decide +kernel
theorem d_MO_returned_51 : decode b_MO_returned 51 = .ok (.iastore, 1) := by decide +kernel
theorem d_MO_returned_52 : decode b_MO_returned 52 = .ok (.aload_n 0, 1) := by decide +kernel
theorem d_MO_returned_53 : decode b_MO_returned 53 = .ok (.iload_n 2, 1) := by decide +kernel
theorem d_MO_returned_54 : decode b_MO_returned 54 = .ok (.iload_n 1, 1) := by decide +kernel
theorem d_MO_returned_55 : decode b_MO_returned 55 = .ok (.invokevirtual 261, 3) := by decide +kernel
theorem d_MO_returned_58 : decode b_MO_returned 58 = .ok (.ifCond .eq 127, 3) := by decide +kernel
theorem d_MO_returned_61 : decode b_MO_returned 61 = .ok (.aload_n 0, 1) := by decide +kernel
theorem d_MO_returned_62 : decode b_MO_returned 62 = .ok (.iload_n 2, 1) := by decide +kernel
theorem d_MO_returned_63 : decode b_MO_returned 63 = .ok (.iload_n 1, 1) := by decide +kernel
theorem d_MO_returned_64 : decode b_MO_returned 64 = .ok (.invokestatic 255, 3) := by decide +kernel
theorem d_MO_returned_67 : decode b_MO_returned 67 = .ok (.aload_n 0, 1) := by decide +kernel
theorem d_MO_returned_68 : decode b_MO_returned 68 = .ok (.getfield 180, 3) := by decide +kernel
theorem d_MO_returned_71 : decode b_MO_returned 71 = .ok (.invokevirtual 230, 3) := by decide +kernel
theorem d_MO_returned_74 : decode b_MO_returned 74 = .ok (.istore 7, 2) := by decide +kernel
theorem d_MO_returned_76 : decode b_MO_returned 76 = .ok (.aload_n 0, 1) := by decide +kernel
theorem d_MO_returned_77 : decode b_MO_returned 77 = .ok (.getfield 64, 3) := by decide +kernel
theorem d_MO_returned_80 : decode b_MO_returned 80 = .ok (.iload_n 3, 1) := by decide +kernel
theorem d_MO_returned_81 : decode b_MO_returned 81 = .ok (.iload 7, 2) := by decide +kernel
theorem d_MO_returned_83 : decode b_MO_returned 83 = .ok (.ifCond .eq 7, 3) := by decide +kernel
theorem d_MO_returned_86 : decode b_MO_returned 86 = .ok (.iconst 1, 1) := by decide +kernel
theorem d_MO_returned_87 : decode b_MO_returned 87 = .ok (.goto 4, 3) := by decide +kernel
theorem d_MO_returned_90 : decode b_MO_returned 90 = .ok (.iconst 2, 1) := by decide +kernel
theorem d_MO_returned_91 : decode b_MO_returned 91 = .ok (.iastore, 1) := by decide +kernel
theorem d_MO_returned_92 : decode b_MO_returned 92 = .ok (.aload_n 0, 1) := by decide +kernel
theorem d_MO_returned_93 : decode b_MO_returned 93 = .ok (.getfield 67, 3) := by decide +kernel
theorem d_MO_returned_96 : decode b_MO_returned 96 = .ok (.iload_n 3, 1) := by decide +kernel
theorem d_MO_returned_97 : decode b_MO_returned 97 = .ok (.aload_n 0, 1) := by decide +kernel
theorem d_MO_returned_98 : decode b_MO_returned 98 = .ok (.getfield 187, 3) := by decide +kernel
theorem d_MO_returned_101 : decode b_MO_returned 101 = .ok (.ldc2_w 190, 3) := by decide +kernel
theorem d_MO_returned_104 : decode b_MO_returned 104 = .ok (.ldiv, 1) := by decide +kernel
theorem d_MO_returned_105 : decode b_MO_returned 105 = .ok (.lastore, 1) := by decide +kernel
theorem d_MO_returned_106 : decode b_MO_returned 106 = .ok (.aload_n 0, 1) := by decide +kernel
theorem d_MO_returned_107 : decode b_MO_returned 107 = .ok (.getfield 74, 3) := by decide +kernel
theorem d_MO_returned_110 : decode b_MO_returned 110 = .ok (.aload_n 0, 1) := by decide +kernel
theorem d_MO_returned_111 : decode b_MO_returned 111 = .ok (.getfield 258, 3) := by decide +kernel
theorem d_MO_returned_114 : decode b_MO_returned 114 = .ok (.iload_n 2, 1) := by decide +kernel
theorem d_MO_returned_115 : decode b_MO_returned 115 = .ok (.iastore, 1) := by decide +kernel
theorem d_MO_returned_116 : decode b_MO_returned 116 = .ok (.aload_n 0, 1) := by decide +kernel
theorem d_MO_returned_117 : decode b_MO_returned 117 = .ok (.getfield 77, 3) := by decide +kernel
theorem d_MO_returned_120 : decode b_MO_returned 120 = .ok (.aload_n 0, 1) := by decide +kernel
theorem d_MO_returned_121 : decode b_MO_returned 121 = .ok (.getfield 258, 3) := by decide +kernel
theorem d_MO_returned_124 : decode b_MO_returned 124 = .ok (.iload 7, 2) := by decide +kernel
theorem d_MO_returned_126 : decode b_MO_returned 126 = .ok (.ifCond .eq 12, 3) := by decide +kernel
theorem d_MO_returned_129 : decode b_MO_returned 129 = .ok (.aload_n 0, 1) := by decide +kernel
theorem d_MO_returned_130 : decode b_MO_returned 130 = .ok (.getfield 67, 3) := by decide +kernel
theorem d_MO_returned_133 : decode b_MO_returned 133 = .ok (.iload_n 3, 1) := by decide +kernel
theorem d_MO_returned_134 : decode b_MO_returned 134 = .ok (.laload, 1) := by decide +kernel
theorem d_MO_returned_135 : decode b_MO_returned 135 = .ok (.goto 6, 3) := by decide +kernel
theorem d_MO_returned_138 : decode b_MO_returned 138 = .ok (.ldc2_w 228, 3) := by decide +kernel
theorem d_MO_returned_141 : decode b_MO_returned 141 = .ok (.lastore, 1) := by decide +kernel
theorem d_MO_returned_142 : decode b_MO_returned 142 = .ok (.aload_n 0, 1) := by decide +kernel
theorem d_MO_returned_143 : decode b_MO_returned 143 = .ok (.getfield 80, 3) := by decide +kernel
theorem d_MO_returned_146 : decode b_MO_returned 146 = .ok (.aload_n 0, 1) := by decide +kernel
theorem d_MO_returned_147 : decode b_MO_returned 147 = .ok (.getfield 258, 3) := by decide +kernel
theorem d_MO_returned_150 : decode b_MO_returned 150 = .ok (.iload 7, 2) := by decide +kernel
theorem d_MO_returned_152 : decode b_MO_returned 152 = .ok (.ifCond .eq 21, 3) := by decide +kernel
theorem d_MO_returned_155 : decode b_MO_returned 155 = .ok (.iload 4, 2) := by decide +kernel
theorem d_MO_returned_157 : decode b_MO_returned 157 = .ok (.iconst 1, 1) := by decide +kernel
theorem d_MO_returned_158 : decode b_MO_returned 158 = .ok (.if_icmp .ne 15, 3) := by decide +kernel
theorem d_MO_returned_161 : decode b_MO_returned 161 = .ok (.aload_n 0, 1) := by decide +kernel
theorem d_MO_returned_162 : decode b_MO_returned 162 = .ok (.getfield 67, 3) := by decide +kernel
theorem d_MO_returned_165 : decode b_MO_returned 165 = .ok (.iload_n 3, 1) := by decide +kernel
theorem d_MO_returned_166 : decode b_MO_returned 166 = .ok (.laload, 1) := by decide +kernel
theorem d_MO_returned_167 : decode b_MO_returned 167 = .ok (.lload 5, 2) := by decide +kernel
theorem d_MO_returned_169 : decode b_MO_returned 169 = .ok (.lsub, 1) := by decide +kernel
theorem d_MO_returned_170 : decode b_MO_returned 170 = .ok (.goto 4, 3) := by decide +kernel
theorem d_MO_returned_173 : decode b_MO_returned 173 = .ok (.lconst 0, 1) := by decide +kernel
theorem d_MO_returned_174 : decode b_MO_returned 174 = .ok (.lastore, 1) := by decide +kernel
theorem d_MO_returned_175 : decode b_MO_returned 175 = .ok (.aload_n 0, 1) := by decide +kernel
theorem d_MO_returned_176 : decode b_MO_returned 176 = .ok (.dup, 1) := by decide +kernel
theorem d_MO_returned_177 : decode b_MO_returned 177 = .ok (.getfield 258, 3) := by decide +kernel
theorem d_MO_returned_180 : decode b_MO_returned 180 = .ok (.iconst 1, 1) := by decide +kernel
theorem d_MO_returned_181 : decode b_MO_returned 181 = .ok (.iadd, 1) := by decide +kernel
theorem d_MO_returned_182 : decode b_MO_returned 182 = .ok (.putfield 258, 3) := by decide +kernel
theorem d_MO_returned_185 : decode b_MO_returned 185 = .ok (.iinc 2 1, 3) := by decide +kernel
theorem d_MO_returned_188 : decode b_MO_returned 188 = .ok (.goto (-172), 3) := by decide +kernel
theorem d_MO_returned_191 : decode b_MO_returned 191 = .ok (.aload_n 0, 1) := by decide +kernel
theorem d_MO_returned_192 : decode b_MO_returned 192 = .ok (.getfield 70, 3) := by decide +kernel
theorem d_MO_returned_195 : decode b_MO_returned 195 = .ok (.iload_n 1, 1) := by decide +kernel
theorem d_MO_returned_196 : decode b_MO_returned 196 = .ok (.iconst 1, 1) := by decide +kernel
theorem d_MO_returned_197 : decode b_MO_returned 197 = .ok (.bastore, 1) := by decide +kernel
theorem d_MO_returned_198 : decode b_MO_returned 198 = .ok (.aload_n 0, 1) := by decide +kernel
theorem d_MO_returned_199 : decode b_MO_returned 199 = .ok (.getfield 258, 3) := by decide +kernel
theorem d_MO_returned_202 : decode b_MO_returned 202 = .ok (.ireturn, 1) := by decide +kernel
theorem d_MO_hasLitres_0 : decode b_MO_hasLitres 0 = .ok (.iconst 0, 1) := by decide +kernel
theorem d_MO_hasLitres_1 : decode b_MO_hasLitres 1 = .ok (.istore_n 3, 1) := by decide +kernel
theorem d_MO_hasLitres_2 : decode b_MO_hasLitres 2 = .ok (.iconst 0, 1) := by decide +kernel
theorem d_MO_hasLitres_3 : decode b_MO_hasLitres 3 = .ok (.istore 4, 2) := by decide +kernel
theorem d_MO_hasLitres_5 : decode b_MO_hasLitres 5 = .ok (.iload 4, 2) := by decide +kernel
theorem d_MO_hasLitres_7 : decode b_MO_hasLitres 7 = .ok (.aload_n 0, 1) := by decide +kernel
theorem d_MO_hasLitres_8 : decode b_MO_hasLitres 8 = .ok (.getfield 177, 3) := by decide +kernel
theorem d_MO_hasLitres_11 : decode b_MO_hasLitres 11 = .ok (.if_icmp .ge 56, 3) := by decide +kernel
theorem d_MO_hasLitres_14 : decode b_MO_hasLitres 14 = .ok (.iload_n 3, 1) := by decide +kernel
theorem d_MO_hasLitres_15 : decode b_MO_hasLitres 15 = .ok (.aload_n 0, 1) := by decide +kernel
theorem d_MO_hasLitres_16 : decode b_MO_hasLitres 16 = .ok (.getfield 26, 3) := by decide +kernel
theorem d_MO_hasLitres_19 : decode b_MO_hasLitres 19 = .ok (.iload 4, 2) := by decide +kernel
theorem d_MO_hasLitres_21 : decode b_MO_hasLitres 21 = .ok (.iaload, 1) := by decide +kernel
theorem d_MO_hasLitres_22 : decode b_MO_hasLitres 22 = .ok (.iload_n 1, 1) := by decide +kernel
theorem d_MO_hasLitres_23 : decode b_MO_hasLitres 23 = .ok (.if_icmp .ne 35, 3) := by decide +kernel
theorem d_MO_hasLitres_26 : decode b_MO_hasLitres 26 = .ok (.aload_n 0, 1) := by decide +kernel
theorem d_MO_hasLitres_27 : decode b_MO_hasLitres 27 = .ok (.getfield 29, 3) := by decide +kernel
theorem d_MO_hasLitres_30 : decode b_MO_hasLitres 30 = .ok (.iload 4, 2) := by decide +kernel
theorem d_MO_hasLitres_32 : decode b_MO_hasLitres 32 = .ok (.iaload, 1) := by decide +kernel
theorem d_MO_hasLitres_33 : decode b_MO_hasLitres 33 = .ok (.iconst 2, 1) := by decide +kernel
theorem d_MO_hasLitres_34 : decode b_MO_hasLitres 34 = .ok (.if_icmp .ne 24, 3) := by decide +kernel
theorem d_MO_hasLitres_37 : decode b_MO_hasLitres 37 = .ok (.aload_n 0, 1) := by decide +kernel
theorem d_MO_hasLitres_38 : decode b_MO_hasLitres 38 = .ok (.getfield 32, 3) := by decide +kernel
theorem d_MO_hasLitres_41 : decode b_MO_hasLitres 41 = .ok (.iload 4, 2) := by decide +kernel
theorem d_MO_hasLitres_43 : decode b_MO_hasLitres 43 = .ok (.laload, 1) := by decide +kernel
theorem d_MO_hasLitres_44 : decode b_MO_hasLitres 44 = .ok (.ldc2_w 246, 3) := by decide +kernel
theorem d_MO_hasLitres_47 : decode b_MO_hasLitres 47 = .ok (.ldiv, 1) := by decide +kernel
theorem d_MO_hasLitres_48 : decode b_MO_hasLitres 48 = .ok (.iload_n 2, 1) := by decide +kernel
theorem d_MO_hasLitres_49 : decode b_MO_hasLitres 49 = .ok (.i2l, 1) := by decide +kernel
theorem d_MO_hasLitres_50 : decode b_MO_hasLitres 50 = .ok (.lcmp, 1) := by decide +kernel
theorem d_MO_hasLitres_51 : decode b_MO_hasLitres 51 = .ok (.ifCond .ne 7, 3) := by decide +kernel
theorem d_MO_hasLitres_54 : decode b_MO_hasLitres 54 = .ok (.iconst 1, 1) := by decide +kernel
theorem d_MO_hasLitres_55 : decode b_MO_hasLitres 55 = .ok (.goto 4, 3) := by decide +kernel
theorem d_MO_hasLitres_58 : decode b_MO_hasLitres 58 = .ok (.iconst 0, 1) := by decide +kernel
theorem d_MO_hasLitres_59 : decode b_MO_hasLitres 59 = .ok (.ior, 1) := by decide +kernel
theorem d_MO_hasLitres_60 : decode b_MO_hasLitres 60 = .ok (.istore_n 3, 1) := by decide +kernel
theorem d_MO_hasLitres_61 : decode b_MO_hasLitres 61 = .ok (.iinc 4 1, 3) := by decide +kernel
theorem d_MO_hasLitres_64 : decode b_MO_hasLitres 64 = .ok (.goto (-59), 3) := by decide +kernel
theorem d_MO_hasLitres_67 : decode b_MO_hasLitres 67 = .ok (.iload_n 3, 1) := by decide +kernel
theorem d_MO_hasLitres_68 : decode b_MO_hasLitres 68 = .ok (.ireturn, 1) := by decide +kernel
theorem d_MO_row_0 : decode b_MO_row 0 = .ok (.iload_n 1, 1) := by decide +kernel
theorem d_MO_row_1 : decode b_MO_row 1 = .ok (.ifCond .lt 11, 3) := by decide +kernel
theorem d_MO_row_4 : decode b_MO_row 4 = .ok (.iload_n 1, 1) := by decide +kernel
theorem d_MO_row_5 : decode b_MO_row 5 = .ok (.aload_n 0, 1) := by decide +kernel
theorem d_MO_row_6 : decode b_MO_row 6 = .ok (.getfield 258, 3) := by decide +kernel
theorem d_MO_row_9 : decode b_MO_row 9 = .ok (.if_icmp .lt 7, 3) := by decide +kernel
theorem d_MO_row_12 : decode b_MO_row 12 = .ok (.ldc2_w 253, 3) := by decide +kernel
theorem d_MO_row_15 : decode b_MO_row 15 = .ok (.lreturn, 1) := by decide +kernel
theorem d_MO_row_16 : decode b_MO_row 16 = .ok (.iload_n 2, 1) := by decide +kernel
theorem d_MO_row_17 : decode b_MO_row 17 = .ok (.ifCond .ne 13, 3) := by decide +kernel
theorem d_MO_row_20 : decode b_MO_row 20 = .ok (.aload_n 0, 1) := by decide +kernel
theorem d_MO_row_21 : decode b_MO_row 21 = .ok (.getfield 74, 3) := by decide +kernel
theorem d_MO_row_24 : decode b_MO_row 24 = .ok (.iload_n 1, 1) := by decide +kernel
theorem d_MO_row_25 : decode b_MO_row 25 = .ok (.iaload, 1) := by decide +kernel
theorem d_MO_row_26 : decode b_MO_row 26 = .ok (.i2l, 1) := by decide +kernel
theorem d_MO_row_27 : decode b_MO_row 27 = .ok (.goto 34, 3) := by decide +kernel
theorem d_MO_row_30 : decode b_MO_row 30 = .ok (.iload_n 2, 1) := by decide +kernel
theorem d_MO_row_31 : decode b_MO_row 31 = .ok (.iconst 1, 1) := by decide +kernel
theorem d_MO_row_32 : decode b_MO_row 32 = .ok (.if_icmp .ne 12, 3) := by decide +kernel
theorem d_MO_row_35 : decode b_MO_row 35 = .ok (.aload_n 0, 1) := by decide +kernel
theorem d_MO_row_36 : decode b_MO_row 36 = .ok (.getfield 77, 3) := by decide +kernel
theorem d_MO_row_39 : decode b_MO_row 39 = .ok (.iload_n 1, 1) := by decide +kernel
theorem d_MO_row_40 : decode b_MO_row 40 = .ok (.laload, 1) := by decide +kernel
theorem d_MO_row_41 : decode b_MO_row 41 = .ok (.goto 20, 3) := by decide +kernel
theorem d_MO_row_44 : decode b_MO_row 44 = .ok (.iload_n 2, 1) := by decide +kernel
theorem d_MO_row_45 : decode b_MO_row 45 = .ok (.iconst 2, 1) := by decide +kernel
theorem d_MO_row_46 : decode b_MO_row 46 = .ok (.if_icmp .ne 12, 3) := by decide +kernel
theorem d_MO_row_49 : decode b_MO_row 49 = .ok (.aload_n 0, 1) := by decide +kernel
theorem d_MO_row_50 : decode b_MO_row 50 = .ok (.getfield 80, 3) := by decide +kernel
theorem d_MO_row_53 : decode b_MO_row 53 = .ok (.iload_n 1, 1) := by decide +kernel
theorem d_MO_row_54 : decode b_MO_row 54 = .ok (.laload, 1) := by decide +kernel
theorem d_MO_row_55 : decode b_MO_row 55 = .ok (.goto 6, 3) := by decide +kernel
theorem d_MO_row_58 : decode b_MO_row 58 = .ok (.ldc2_w 253, 3) := by decide +kernel
theorem d_MO_row_61 : decode b_MO_row 61 = .ok (.lreturn, 1) := by decide +kernel
theorem d_MO_difference_0 : decode b_MO_difference 0 = .ok (.iload_n 1, 1) := by decide +kernel
theorem d_MO_difference_1 : decode b_MO_difference 1 = .ok (.invokestatic 250, 3) := by decide +kernel
theorem d_MO_difference_4 : decode b_MO_difference 4 = .ok (.ifCond .eq 19, 3) := by decide +kernel
theorem d_MO_difference_7 : decode b_MO_difference 7 = .ok (.aload_n 0, 1) := by decide +kernel
theorem d_MO_difference_8 : decode b_MO_difference 8 = .ok (.getfield 70, 3) := by decide +kernel
theorem d_MO_difference_11 : decode b_MO_difference 11 = .ok (.iload_n 1, 1) := by decide +kernel
theorem d_MO_difference_12 : decode b_MO_difference 12 = .ok (.baload, 1) := by decide +kernel
theorem d_MO_difference_13 : decode b_MO_difference 13 = .ok (.ifCond .eq 10, 3) := by decide +kernel
theorem d_MO_difference_16 : decode b_MO_difference 16 = .ok (.lload_n 2, 1) := by decide +kernel
theorem d_MO_difference_17 : decode b_MO_difference 17 = .ok (.invokestatic 167, 3) := by decide +kernel
theorem d_MO_difference_20 : decode b_MO_difference 20 = .ok (.ifCond .ne 5, 3) := by decide +kernel
theorem d_MO_difference_23 : decode b_MO_difference 23 = .ok (.lconst 0, 1) := by decide +kernel
theorem d_MO_difference_24 : decode b_MO_difference 24 = .ok (.lreturn, 1) := by decide +kernel
theorem d_MO_difference_25 : decode b_MO_difference 25 = .ok (.lconst 0, 1) := by decide +kernel
theorem d_MO_difference_26 : decode b_MO_difference 26 = .ok (.lstore 4, 2) := by decide +kernel
theorem d_MO_difference_28 : decode b_MO_difference 28 = .ok (.iconst 0, 1) := by decide +kernel
theorem d_MO_difference_29 : decode b_MO_difference 29 = .ok (.istore 6, 2) := by decide +kernel
theorem d_MO_difference_31 : decode b_MO_difference 31 = .ok (.iload 6, 2) := by decide +kernel
theorem d_MO_difference_33 : decode b_MO_difference 33 = .ok (.bipush 30, 2) := by decide +kernel
theorem d_MO_difference_35 : decode b_MO_difference 35 = .ok (.if_icmp .ge 73, 3) := by decide +kernel
theorem d_MO_difference_38 : decode b_MO_difference 38 = .ok (.aload_n 0, 1) := by decide +kernel
theorem d_MO_difference_39 : decode b_MO_difference 39 = .ok (.getfield 64, 3) := by decide +kernel
theorem d_MO_difference_42 : decode b_MO_difference 42 = .ok (.iload_n 1, 1) := by decide +kernel
theorem d_MO_difference_43 : decode b_MO_difference 43 = .ok (.bipush 30, 2) := by decide +kernel
theorem d_MO_difference_45 : decode b_MO_difference 45 = .ok (.imul, 1) := by decide +kernel
theorem d_MO_difference_46 : decode b_MO_difference 46 = .ok (.iload 6, 2) := by decide +kernel
theorem d_MO_difference_48 : decode b_MO_difference 48 = .ok (.iadd, 1) := by decide +kernel
theorem d_MO_difference_49 : decode b_MO_difference 49 = .ok (.iaload, 1) := by decide +kernel
theorem d_MO_difference_50 : decode b_MO_difference 50 = .ok (.iconst 1, 1) := by decide +kernel
theorem d_MO_difference_51 : decode b_MO_difference 51 = .ok (.if_icmp .ne 51, 3) := by decide +kernel
theorem d_MO_difference_54 : decode b_MO_difference 54 = .ok (.aload_n 0, 1) := by decide +kernel
theorem d_MO_difference_55 : decode b_MO_difference 55 = .ok (.iload 6, 2) := by decide +kernel
theorem d_MO_difference_57 : decode b_MO_difference 57 = .ok (.iload_n 1, 1) := by decide +kernel
theorem d_MO_difference_58 : decode b_MO_difference 58 = .ok (.invokestatic 255, 3) := by decide +kernel
theorem d_MO_difference_61 : decode b_MO_difference 61 = .ok (.lload_n 2, 1) := by decide +kernel
theorem d_MO_difference_62 : decode b_MO_difference 62 = .ok (.invokevirtual 230, 3) := by decide +kernel
theorem d_MO_difference_65 : decode b_MO_difference 65 = .ok (.istore 7, 2) := by decide +kernel
theorem d_MO_difference_67 : decode b_MO_difference 67 = .ok (.lload 4, 2) := by decide +kernel
theorem d_MO_difference_69 : decode b_MO_difference 69 = .ok (.iload 7, 2) := by decide +kernel
theorem d_MO_difference_71 : decode b_MO_difference 71 = .ok (.ifCond .eq 14, 3) := by decide +kernel
theorem d_MO_difference_74 : decode b_MO_difference 74 = .ok (.aload_n 0, 1) := by decide +kernel
theorem d_MO_difference_75 : decode b_MO_difference 75 = .ok (.getfield 187, 3) := by decide +kernel
theorem d_MO_difference_78 : decode b_MO_difference 78 = .ok (.ldc2_w 190, 3) := by decide +kernel
theorem d_MO_difference_81 : decode b_MO_difference 81 = .ok (.ldiv, 1) := by decide +kernel
theorem d_MO_difference_82 : decode b_MO_difference 82 = .ok (.goto 4, 3) := by decide +kernel
theorem d_MO_difference_85 : decode b_MO_difference 85 = .ok (.lconst 0, 1) := by decide +kernel
theorem d_MO_difference_86 : decode b_MO_difference 86 = .ok (.aload_n 0, 1) := by decide +kernel
theorem d_MO_difference_87 : decode b_MO_difference 87 = .ok (.getfield 67, 3) := by decide +kernel
theorem d_MO_difference_90 : decode b_MO_difference 90 = .ok (.iload_n 1, 1) := by decide +kernel
theorem d_MO_difference_91 : decode b_MO_difference 91 = .ok (.bipush 30, 2) := by decide +kernel
theorem d_MO_difference_93 : decode b_MO_difference 93 = .ok (.imul, 1) := by decide +kernel
theorem d_MO_difference_94 : decode b_MO_difference 94 = .ok (.iload 6, 2) := by decide +kernel
theorem d_MO_difference_96 : decode b_MO_difference 96 = .ok (.iadd, 1) := by decide +kernel
theorem d_MO_difference_97 : decode b_MO_difference 97 = .ok (.laload, 1) := by decide +kernel
theorem d_MO_difference_98 : decode b_MO_difference 98 = .ok (.lsub, 1) := by decide +kernel
theorem d_MO_difference_99 : decode b_MO_difference 99 = .ok (.ladd, 1) := by decide +kernel
theorem d_MO_difference_100 : decode b_MO_difference 100 = .ok (.lstore 4, 2) := by decide +kernel
theorem d_MO_difference_102 : decode b_MO_difference 102 = .ok (.iinc 6 1, 3) := by decide +kernel
theorem d_MO_difference_105 : decode b_MO_difference 105 = .ok (.goto (-74), 3) := by decide +kernel
theorem d_MO_difference_108 : decode b_MO_difference 108 = .ok (.lload 4, 2) := by decide +kernel
theorem d_MO_difference_110 : decode b_MO_difference 110 = .ok (.lreturn, 1) := by decide +kernel
theorem d_MO_interest_0 : decode b_MO_interest 0 = .ok (.iload_n 1, 1) := by decide +kernel
theorem d_MO_interest_1 : decode b_MO_interest 1 = .ok (.invokestatic 250, 3) := by decide +kernel
theorem d_MO_interest_4 : decode b_MO_interest 4 = .ok (.ifCond .eq 30, 3) := by decide +kernel
theorem d_MO_interest_7 : decode b_MO_interest 7 = .ok (.aload_n 0, 1) := by decide +kernel
theorem d_MO_interest_8 : decode b_MO_interest 8 = .ok (.getfield 70, 3) := by decide +kernel
theorem d_MO_interest_11 : decode b_MO_interest 11 = .ok (.iload_n 1, 1) := by decide +kernel
theorem d_MO_interest_12 : decode b_MO_interest 12 = .ok (.baload, 1) := by decide +kernel
theorem d_MO_interest_13 : decode b_MO_interest 13 = .ok (.ifCond .eq 21, 3) := by decide +kernel
theorem d_MO_interest_16 : decode b_MO_interest 16 = .ok (.lload_n 2, 1) := by decide +kernel
theorem d_MO_interest_17 : decode b_MO_interest 17 = .ok (.invokestatic 167, 3) := by decide +kernel
theorem d_MO_interest_20 : decode b_MO_interest 20 = .ok (.ifCond .eq 14, 3) := by decide +kernel
theorem d_MO_interest_23 : decode b_MO_interest 23 = .ok (.iload 4, 2) := by decide +kernel
theorem d_MO_interest_25 : decode b_MO_interest 25 = .ok (.ifCond .lt 9, 3) := by decide +kernel
theorem d_MO_interest_28 : decode b_MO_interest 28 = .ok (.iload 4, 2) := by decide +kernel
theorem d_MO_interest_30 : decode b_MO_interest 30 = .ok (.iconst 1, 1) := by decide +kernel
theorem d_MO_interest_31 : decode b_MO_interest 31 = .ok (.if_icmp .le 7, 3) := by decide +kernel
theorem d_MO_interest_34 : decode b_MO_interest 34 = .ok (.ldc2_w 228, 3) := by decide +kernel
theorem d_MO_interest_37 : decode b_MO_interest 37 = .ok (.lreturn, 1) := by decide +kernel
theorem d_MO_interest_38 : decode b_MO_interest 38 = .ok (.aload_n 0, 1) := by decide +kernel
theorem d_MO_interest_39 : decode b_MO_interest 39 = .ok (.iload_n 1, 1) := by decide +kernel
theorem d_MO_interest_40 : decode b_MO_interest 40 = .ok (.invokestatic 255, 3) := by decide +kernel
theorem d_MO_interest_43 : decode b_MO_interest 43 = .ok (.invokevirtual 195, 3) := by decide +kernel
theorem d_MO_interest_46 : decode b_MO_interest 46 = .ok (.istore 5, 2) := by decide +kernel
theorem d_MO_interest_48 : decode b_MO_interest 48 = .ok (.iload 5, 2) := by decide +kernel
theorem d_MO_interest_50 : decode b_MO_interest 50 = .ok (.iconst (-1), 1) := by decide +kernel
theorem d_MO_interest_51 : decode b_MO_interest 51 = .ok (.if_icmp .ne 7, 3) := by decide +kernel
theorem d_MO_interest_54 : decode b_MO_interest 54 = .ok (.iconst (-1), 1) := by decide +kernel
theorem d_MO_interest_55 : decode b_MO_interest 55 = .ok (.goto 12, 3) := by decide +kernel
theorem d_MO_interest_58 : decode b_MO_interest 58 = .ok (.aload_n 0, 1) := by decide +kernel
theorem d_MO_interest_59 : decode b_MO_interest 59 = .ok (.iload 5, 2) := by decide +kernel
theorem d_MO_interest_61 : decode b_MO_interest 61 = .ok (.iconst 5, 1) := by decide +kernel
theorem d_MO_interest_62 : decode b_MO_interest 62 = .ok (.lconst 0, 1) := by decide +kernel
theorem d_MO_interest_63 : decode b_MO_interest 63 = .ok (.lconst 0, 1) := by decide +kernel
theorem d_MO_interest_64 : decode b_MO_interest 64 = .ok (.invokevirtual 206, 3) := by decide +kernel
theorem d_MO_interest_67 : decode b_MO_interest 67 = .ok (.istore 6, 2) := by decide +kernel
theorem d_MO_interest_69 : decode b_MO_interest 69 = .ok (.iload 6, 2) := by decide +kernel
theorem d_MO_interest_71 : decode b_MO_interest 71 = .ok (.iconst (-1), 1) := by decide +kernel
theorem d_MO_interest_72 : decode b_MO_interest 72 = .ok (.if_icmp .eq 12, 3) := by decide +kernel
theorem d_MO_interest_75 : decode b_MO_interest 75 = .ok (.lload_n 2, 1) := by decide +kernel
theorem d_MO_interest_76 : decode b_MO_interest 76 = .ok (.iload_n 1, 1) := by decide +kernel
theorem d_MO_interest_77 : decode b_MO_interest 77 = .ok (.invokestatic 255, 3) := by decide +kernel
theorem d_MO_interest_80 : decode b_MO_interest 80 = .ok (.lcmp, 1) := by decide +kernel
theorem d_MO_interest_81 : decode b_MO_interest 81 = .ok (.ifCond .gt 7, 3) := by decide +kernel
theorem d_MO_interest_84 : decode b_MO_interest 84 = .ok (.iload 4, 2) := by decide +kernel
theorem d_MO_interest_86 : decode b_MO_interest 86 = .ok (.i2l, 1) := by decide +kernel
theorem d_MO_interest_87 : decode b_MO_interest 87 = .ok (.lreturn, 1) := by decide +kernel
theorem d_MO_interest_88 : decode b_MO_interest 88 = .ok (.lconst 0, 1) := by decide +kernel
theorem d_MO_interest_89 : decode b_MO_interest 89 = .ok (.lstore 7, 2) := by decide +kernel
theorem d_MO_interest_91 : decode b_MO_interest 91 = .ok (.iconst 0, 1) := by decide +kernel
theorem d_MO_interest_92 : decode b_MO_interest 92 = .ok (.istore 9, 2) := by decide +kernel
theorem d_MO_interest_94 : decode b_MO_interest 94 = .ok (.iload 9, 2) := by decide +kernel
theorem d_MO_interest_96 : decode b_MO_interest 96 = .ok (.bipush 30, 2) := by decide +kernel
theorem d_MO_interest_98 : decode b_MO_interest 98 = .ok (.if_icmp .ge 46, 3) := by decide +kernel
theorem d_MO_interest_101 : decode b_MO_interest 101 = .ok (.lload 7, 2) := by decide +kernel
theorem d_MO_interest_103 : decode b_MO_interest 103 = .ok (.aload_n 0, 1) := by decide +kernel
theorem d_MO_interest_104 : decode b_MO_interest 104 = .ok (.getfield 64, 3) := by decide +kernel
theorem d_MO_interest_107 : decode b_MO_interest 107 = .ok (.iload_n 1, 1) := by decide +kernel
theorem d_MO_interest_108 : decode b_MO_interest 108 = .ok (.bipush 30, 2) := by decide +kernel
theorem d_MO_interest_110 : decode b_MO_interest 110 = .ok (.imul, 1) := by decide +kernel
theorem d_MO_interest_111 : decode b_MO_interest 111 = .ok (.iload 9, 2) := by decide +kernel
theorem d_MO_interest_113 : decode b_MO_interest 113 = .ok (.iadd, 1) := by decide +kernel
theorem d_MO_interest_114 : decode b_MO_interest 114 = .ok (.iaload, 1) := by decide +kernel
theorem d_MO_interest_115 : decode b_MO_interest 115 = .ok (.iconst 1, 1) := by decide +kernel
theorem d_MO_interest_116 : decode b_MO_interest 116 = .ok (.if_icmp .ne 18, 3) := by decide +kernel
theorem d_MO_interest_119 : decode b_MO_interest 119 = .ok (.aload_n 0, 1) := by decide +kernel
theorem d_MO_interest_120 : decode b_MO_interest 120 = .ok (.getfield 67, 3) := by decide +kernel
theorem d_MO_interest_123 : decode b_MO_interest 123 = .ok (.iload_n 1, 1) := by decide +kernel
theorem d_MO_interest_124 : decode b_MO_interest 124 = .ok (.bipush 30, 2) := by decide +kernel
theorem d_MO_interest_126 : decode b_MO_interest 126 = .ok (.imul, 1) := by decide +kernel
theorem d_MO_interest_127 : decode b_MO_interest 127 = .ok (.iload 9, 2) := by decide +kernel
theorem d_MO_interest_129 : decode b_MO_interest 129 = .ok (.iadd, 1) := by decide +kernel
theorem d_MO_interest_130 : decode b_MO_interest 130 = .ok (.laload, 1) := by decide +kernel
theorem d_MO_interest_131 : decode b_MO_interest 131 = .ok (.goto 4, 3) := by decide +kernel
theorem d_MO_interest_134 : decode b_MO_interest 134 = .ok (.lconst 0, 1) := by decide +kernel
theorem d_MO_interest_135 : decode b_MO_interest 135 = .ok (.ladd, 1) := by decide +kernel
theorem d_MO_interest_136 : decode b_MO_interest 136 = .ok (.lstore 7, 2) := by decide +kernel
theorem d_MO_interest_138 : decode b_MO_interest 138 = .ok (.iinc 9 1, 3) := by decide +kernel
theorem d_MO_interest_141 : decode b_MO_interest 141 = .ok (.goto (-47), 3) := by decide +kernel
theorem d_MO_interest_144 : decode b_MO_interest 144 = .ok (.lload 7, 2) := by decide +kernel
theorem d_MO_interest_146 : decode b_MO_interest 146 = .ok (.aload_n 0, 1) := by decide +kernel
theorem d_MO_interest_147 : decode b_MO_interest 147 = .ok (.iload 5, 2) := by decide +kernel
theorem d_MO_interest_149 : decode b_MO_interest 149 = .ok (.iload 6, 2) := by decide +kernel
theorem d_MO_interest_151 : decode b_MO_interest 151 = .ok (.iconst 1, 1) := by decide +kernel
theorem d_MO_interest_152 : decode b_MO_interest 152 = .ok (.invokevirtual 209, 3) := by decide +kernel
theorem d_MO_interest_155 : decode b_MO_interest 155 = .ok (.i2l, 1) := by decide +kernel
theorem d_MO_interest_156 : decode b_MO_interest 156 = .ok (.lmul, 1) := by decide +kernel
theorem d_MO_interest_157 : decode b_MO_interest 157 = .ok (.lload_n 2, 1) := by decide +kernel
theorem d_MO_interest_158 : decode b_MO_interest 158 = .ok (.iload_n 1, 1) := by decide +kernel
theorem d_MO_interest_159 : decode b_MO_interest 159 = .ok (.invokestatic 255, 3) := by decide +kernel
theorem d_MO_interest_162 : decode b_MO_interest 162 = .ok (.lsub, 1) := by decide +kernel
theorem d_MO_interest_163 : decode b_MO_interest 163 = .ok (.lmul, 1) := by decide +kernel
theorem d_MO_interest_164 : decode b_MO_interest 164 = .ok (.ldc2_w 171, 3) := by decide +kernel
theorem d_MO_interest_167 : decode b_MO_interest 167 = .ok (.iload 4, 2) := by decide +kernel
theorem d_MO_interest_169 : decode b_MO_interest 169 = .ok (.invokestatic 240, 3) := by decide +kernel
theorem d_MO_interest_172 : decode b_MO_interest 172 = .ok (.lreturn, 1) := by decide +kernel
