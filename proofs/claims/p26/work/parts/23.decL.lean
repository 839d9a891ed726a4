theorem dL_below_0 : decode cL_below 0 = .ok (.iload_n 0, 1) := by decide +kernel
theorem dL_below_1 : decode cL_below 1 = .ok (.ldc 7, 2) := by decide +kernel
theorem dL_below_3 : decode cL_below 3 = .ok (.iand, 1) := by decide +kernel
theorem dL_below_4 : decode cL_below 4 = .ok (.iload_n 1, 1) := by decide +kernel
theorem dL_below_5 : decode cL_below 5 = .ok (.irem, 1) := by decide +kernel
theorem dL_below_6 : decode cL_below 6 = .ok (.ireturn, 1) := by decide +kernel
theorem dL_cell_0 : decode cL_cell 0 = .ok (.iload_n 1, 1) := by decide +kernel
theorem dL_cell_1 : decode cL_cell 1 = .ok (.aload_n 0, 1) := by decide +kernel
theorem dL_cell_2 : decode cL_cell 2 = .ok (.arraylength, 1) := by decide +kernel
theorem dL_cell_3 : decode cL_cell 3 = .ok (.if_icmp .ge 9, 3) := by decide +kernel
theorem dL_cell_6 : decode cL_cell 6 = .ok (.aload_n 0, 1) := by decide +kernel
theorem dL_cell_7 : decode cL_cell 7 = .ok (.iload_n 1, 1) := by decide +kernel
theorem dL_cell_8 : decode cL_cell 8 = .ok (.iaload, 1) := by decide +kernel
theorem dL_cell_9 : decode cL_cell 9 = .ok (.goto 9, 3) := by decide +kernel
theorem dL_cell_12 : decode cL_cell 12 = .ok (.ldc 8, 2) := by decide +kernel
theorem dL_cell_14 : decode cL_cell 14 = .ok (.iload_n 1, 1) := by decide +kernel
theorem dL_cell_15 : decode cL_cell 15 = .ok (.iconst 3, 1) := by decide +kernel
theorem dL_cell_16 : decode cL_cell 16 = .ok (.iadd, 1) := by decide +kernel
theorem dL_cell_17 : decode cL_cell 17 = .ok (.imul, 1) := by decide +kernel
theorem dL_cell_18 : decode cL_cell 18 = .ok (.ireturn, 1) := by decide +kernel
theorem dL_law_0 : decode cL_law 0 = .ok (.new 9, 3) := by decide +kernel
theorem dL_law_3 : decode cL_law 3 = .ok (.dup, 1) := by decide +kernel
theorem dL_law_4 : decode cL_law 4 = .ok (.invokespecial 11, 3) := by decide +kernel
theorem dL_law_7 : decode cL_law 7 = .ok (.astore_n 1, 1) := by decide +kernel
theorem dL_law_8 : decode cL_law 8 = .ok (.iconst 2, 1) := by decide +kernel
theorem dL_law_9 : decode cL_law 9 = .ok (.aload_n 0, 1) := by decide +kernel
theorem dL_law_10 : decode cL_law 10 = .ok (.iconst 0, 1) := by decide +kernel
theorem dL_law_11 : decode cL_law 11 = .ok (.invokestatic 12, 3) := by decide +kernel
theorem dL_law_14 : decode cL_law 14 = .ok (.iconst 3, 1) := by decide +kernel
theorem dL_law_15 : decode cL_law 15 = .ok (.invokestatic 18, 3) := by decide +kernel
theorem dL_law_18 : decode cL_law 18 = .ok (.iadd, 1) := by decide +kernel
theorem dL_law_19 : decode cL_law 19 = .ok (.istore_n 2, 1) := by decide +kernel
theorem dL_law_20 : decode cL_law 20 = .ok (.aload_n 1, 1) := by decide +kernel
theorem dL_law_21 : decode cL_law 21 = .ok (.iload_n 2, 1) := by decide +kernel
theorem dL_law_22 : decode cL_law 22 = .ok (.iload_n 2, 1) := by decide +kernel
theorem dL_law_23 : decode cL_law 23 = .ok (.iconst 4, 1) := by decide +kernel
theorem dL_law_24 : decode cL_law 24 = .ok (.if_icmp .ne 7, 3) := by decide +kernel
theorem dL_law_27 : decode cL_law 27 = .ok (.iconst 2, 1) := by decide +kernel
theorem dL_law_28 : decode cL_law 28 = .ok (.goto 33, 3) := by decide +kernel
theorem dL_law_31 : decode cL_law 31 = .ok (.iload_n 2, 1) := by decide +kernel
theorem dL_law_32 : decode cL_law 32 = .ok (.iconst 3, 1) := by decide +kernel
theorem dL_law_33 : decode cL_law 33 = .ok (.if_icmp .ne 17, 3) := by decide +kernel
theorem dL_law_36 : decode cL_law 36 = .ok (.iconst 2, 1) := by decide +kernel
theorem dL_law_37 : decode cL_law 37 = .ok (.aload_n 0, 1) := by decide +kernel
theorem dL_law_38 : decode cL_law 38 = .ok (.iconst 1, 1) := by decide +kernel
theorem dL_law_39 : decode cL_law 39 = .ok (.invokestatic 12, 3) := by decide +kernel
theorem dL_law_42 : decode cL_law 42 = .ok (.iconst 2, 1) := by decide +kernel
theorem dL_law_43 : decode cL_law 43 = .ok (.invokestatic 18, 3) := by decide +kernel
theorem dL_law_46 : decode cL_law 46 = .ok (.iadd, 1) := by decide +kernel
theorem dL_law_47 : decode cL_law 47 = .ok (.goto 14, 3) := by decide +kernel
theorem dL_law_50 : decode cL_law 50 = .ok (.iconst 2, 1) := by decide +kernel
theorem dL_law_51 : decode cL_law 51 = .ok (.aload_n 0, 1) := by decide +kernel
theorem dL_law_52 : decode cL_law 52 = .ok (.iconst 1, 1) := by decide +kernel
theorem dL_law_53 : decode cL_law 53 = .ok (.invokestatic 12, 3) := by decide +kernel
theorem dL_law_56 : decode cL_law 56 = .ok (.iconst 3, 1) := by decide +kernel
theorem dL_law_57 : decode cL_law 57 = .ok (.invokestatic 18, 3) := by decide +kernel
theorem dL_law_60 : decode cL_law 60 = .ok (.iadd, 1) := by decide +kernel
theorem dL_law_61 : decode cL_law 61 = .ok (.invokevirtual 22, 3) := by decide +kernel
theorem dL_law_64 : decode cL_law 64 = .ok (.istore_n 3, 1) := by decide +kernel
theorem dL_law_65 : decode cL_law 65 = .ok (.iconst 0, 1) := by decide +kernel
theorem dL_law_66 : decode cL_law 66 = .ok (.istore 4, 2) := by decide +kernel
theorem dL_law_68 : decode cL_law 68 = .ok (.iload 4, 2) := by decide +kernel
theorem dL_law_70 : decode cL_law 70 = .ok (.iload_n 3, 1) := by decide +kernel
theorem dL_law_71 : decode cL_law 71 = .ok (.if_icmp .ge 71, 3) := by decide +kernel
theorem dL_law_74 : decode cL_law 74 = .ok (.aload_n 0, 1) := by decide +kernel
theorem dL_law_75 : decode cL_law 75 = .ok (.iconst 2, 1) := by decide +kernel
theorem dL_law_76 : decode cL_law 76 = .ok (.iload 4, 2) := by decide +kernel
theorem dL_law_78 : decode cL_law 78 = .ok (.iadd, 1) := by decide +kernel
theorem dL_law_79 : decode cL_law 79 = .ok (.invokestatic 12, 3) := by decide +kernel
theorem dL_law_82 : decode cL_law 82 = .ok (.iconst 3, 1) := by decide +kernel
theorem dL_law_83 : decode cL_law 83 = .ok (.iload 4, 2) := by decide +kernel
theorem dL_law_85 : decode cL_law 85 = .ok (.imul, 1) := by decide +kernel
theorem dL_law_86 : decode cL_law 86 = .ok (.iadd, 1) := by decide +kernel
theorem dL_law_87 : decode cL_law 87 = .ok (.istore 5, 2) := by decide +kernel
theorem dL_law_89 : decode cL_law 89 = .ok (.aload_n 1, 1) := by decide +kernel
theorem dL_law_90 : decode cL_law 90 = .ok (.iload 4, 2) := by decide +kernel
theorem dL_law_92 : decode cL_law 92 = .ok (.iload 5, 2) := by decide +kernel
theorem dL_law_94 : decode cL_law 94 = .ok (.bipush 7, 2) := by decide +kernel
theorem dL_law_96 : decode cL_law 96 = .ok (.invokestatic 18, 3) := by decide +kernel
theorem dL_law_99 : decode cL_law 99 = .ok (.ifCond .le 7, 3) := by decide +kernel
theorem dL_law_102 : decode cL_law 102 = .ok (.iconst 1, 1) := by decide +kernel
theorem dL_law_103 : decode cL_law 103 = .ok (.goto 4, 3) := by decide +kernel
theorem dL_law_106 : decode cL_law 106 = .ok (.iconst 0, 1) := by decide +kernel
theorem dL_law_107 : decode cL_law 107 = .ok (.iload 5, 2) := by decide +kernel
theorem dL_law_109 : decode cL_law 109 = .ok (.iconst 3, 1) := by decide +kernel
theorem dL_law_110 : decode cL_law 110 = .ok (.ishr, 1) := by decide +kernel
theorem dL_law_111 : decode cL_law 111 = .ok (.iconst 3, 1) := by decide +kernel
theorem dL_law_112 : decode cL_law 112 = .ok (.invokestatic 18, 3) := by decide +kernel
theorem dL_law_115 : decode cL_law 115 = .ok (.ifCond .ne 7, 3) := by decide +kernel
theorem dL_law_118 : decode cL_law 118 = .ok (.iconst 1, 1) := by decide +kernel
theorem dL_law_119 : decode cL_law 119 = .ok (.goto 4, 3) := by decide +kernel
theorem dL_law_122 : decode cL_law 122 = .ok (.iconst 0, 1) := by decide +kernel
theorem dL_law_123 : decode cL_law 123 = .ok (.iload 5, 2) := by decide +kernel
theorem dL_law_125 : decode cL_law 125 = .ok (.iconst 5, 1) := by decide +kernel
theorem dL_law_126 : decode cL_law 126 = .ok (.ishr, 1) := by decide +kernel
theorem dL_law_127 : decode cL_law 127 = .ok (.iconst 4, 1) := by decide +kernel
theorem dL_law_128 : decode cL_law 128 = .ok (.invokestatic 18, 3) := by decide +kernel
theorem dL_law_131 : decode cL_law 131 = .ok (.iconst 0, 1) := by decide +kernel
theorem dL_law_132 : decode cL_law 132 = .ok (.invokevirtual 25, 3) := by decide +kernel
theorem dL_law_135 : decode cL_law 135 = .ok (.pop, 1) := by decide +kernel
theorem dL_law_136 : decode cL_law 136 = .ok (.iinc 4 1, 3) := by decide +kernel
theorem dL_law_139 : decode cL_law 139 = .ok (.goto (-71), 3) := by decide +kernel
theorem dL_law_142 : decode cL_law 142 = .ok (.iconst 5, 1) := by decide +kernel
theorem dL_law_143 : decode cL_law 143 = .ok (.newarray .int, 2) := by decide +kernel
theorem dL_law_145 : decode cL_law 145 = .ok (.astore 4, 2) := by decide +kernel
theorem dL_law_147 : decode cL_law 147 = .ok (.iconst 0, 1) := by decide +kernel
theorem dL_law_148 : decode cL_law 148 = .ok (.istore 5, 2) := by decide +kernel
theorem dL_law_150 : decode cL_law 150 = .ok (.iload 5, 2) := by decide +kernel
theorem dL_law_152 : decode cL_law 152 = .ok (.bipush 40, 2) := by decide +kernel
theorem dL_law_154 : decode cL_law 154 = .ok (.if_icmp .ge 78, 3) := by decide +kernel
theorem dL_law_157 : decode cL_law 157 = .ok (.aload_n 0, 1) := by decide +kernel
theorem dL_law_158 : decode cL_law 158 = .ok (.iload 5, 2) := by decide +kernel
theorem dL_law_160 : decode cL_law 160 = .ok (.bipush 16, 2) := by decide +kernel
theorem dL_law_162 : decode cL_law 162 = .ok (.irem, 1) := by decide +kernel
theorem dL_law_163 : decode cL_law 163 = .ok (.invokestatic 12, 3) := by decide +kernel
theorem dL_law_166 : decode cL_law 166 = .ok (.bipush 41, 2) := by decide +kernel
theorem dL_law_168 : decode cL_law 168 = .ok (.iload 5, 2) := by decide +kernel
theorem dL_law_170 : decode cL_law 170 = .ok (.imul, 1) := by decide +kernel
theorem dL_law_171 : decode cL_law 171 = .ok (.iadd, 1) := by decide +kernel
theorem dL_law_172 : decode cL_law 172 = .ok (.istore 6, 2) := by decide +kernel
theorem dL_law_174 : decode cL_law 174 = .ok (.aload_n 1, 1) := by decide +kernel
theorem dL_law_175 : decode cL_law 175 = .ok (.iload 6, 2) := by decide +kernel
theorem dL_law_177 : decode cL_law 177 = .ok (.iconst 2, 1) := by decide +kernel
theorem dL_law_178 : decode cL_law 178 = .ok (.ishr, 1) := by decide +kernel
theorem dL_law_179 : decode cL_law 179 = .ok (.iload 6, 2) := by decide +kernel
theorem dL_law_181 : decode cL_law 181 = .ok (.bipush 10, 2) := by decide +kernel
theorem dL_law_183 : decode cL_law 183 = .ok (.invokestatic 18, 3) := by decide +kernel
theorem dL_law_186 : decode cL_law 186 = .ok (.iload_n 3, 1) := by decide +kernel
theorem dL_law_187 : decode cL_law 187 = .ok (.invokestatic 29, 3) := by decide +kernel
theorem dL_law_190 : decode cL_law 190 = .ok (.istore 7, 2) := by decide +kernel
theorem dL_law_192 : decode cL_law 192 = .ok (.aload_n 1, 1) := by decide +kernel
theorem dL_law_193 : decode cL_law 193 = .ok (.iload_n 3, 1) := by decide +kernel
theorem dL_law_194 : decode cL_law 194 = .ok (.aload 4, 2) := by decide +kernel
theorem dL_law_196 : decode cL_law 196 = .ok (.iload 7, 2) := by decide +kernel
theorem dL_law_198 : decode cL_law 198 = .ok (.invokestatic 33, 3) := by decide +kernel
theorem dL_law_201 : decode cL_law 201 = .ok (.ifCond .ne 5, 3) := by decide +kernel
theorem dL_law_204 : decode cL_law 204 = .ok (.iconst 0, 1) := by decide +kernel
theorem dL_law_205 : decode cL_law 205 = .ok (.ireturn, 1) := by decide +kernel
theorem dL_law_206 : decode cL_law 206 = .ok (.iload 5, 2) := by decide +kernel
theorem dL_law_208 : decode cL_law 208 = .ok (.bipush 10, 2) := by decide +kernel
theorem dL_law_210 : decode cL_law 210 = .ok (.irem, 1) := by decide +kernel
theorem dL_law_211 : decode cL_law 211 = .ok (.bipush 9, 2) := by decide +kernel
theorem dL_law_213 : decode cL_law 213 = .ok (.if_icmp .ne 13, 3) := by decide +kernel
theorem dL_law_216 : decode cL_law 216 = .ok (.aload_n 1, 1) := by decide +kernel
theorem dL_law_217 : decode cL_law 217 = .ok (.iload_n 3, 1) := by decide +kernel
theorem dL_law_218 : decode cL_law 218 = .ok (.invokestatic 37, 3) := by decide +kernel
theorem dL_law_221 : decode cL_law 221 = .ok (.ifCond .ne 5, 3) := by decide +kernel
theorem dL_law_224 : decode cL_law 224 = .ok (.iconst 0, 1) := by decide +kernel
theorem dL_law_225 : decode cL_law 225 = .ok (.ireturn, 1) := by decide +kernel
theorem dL_law_226 : decode cL_law 226 = .ok (.iinc 5 1, 3) := by decide +kernel
theorem dL_law_229 : decode cL_law 229 = .ok (.goto (-79), 3) := by decide +kernel
theorem dL_law_232 : decode cL_law 232 = .ok (.iconst 1, 1) := by decide +kernel
theorem dL_law_233 : decode cL_law 233 = .ok (.ireturn, 1) := by decide +kernel
theorem dL_act_0 : decode cL_act 0 = .ok (.iload_n 1, 1) := by decide +kernel
theorem dL_act_1 : decode cL_act 1 = .ok (.iconst 1, 1) := by decide +kernel
theorem dL_act_2 : decode cL_act 2 = .ok (.ishr, 1) := by decide +kernel
theorem dL_act_3 : decode cL_act 3 = .ok (.iload_n 3, 1) := by decide +kernel
theorem dL_act_4 : decode cL_act 4 = .ok (.invokestatic 18, 3) := by decide +kernel
theorem dL_act_7 : decode cL_act 7 = .ok (.istore 4, 2) := by decide +kernel
theorem dL_act_9 : decode cL_act 9 = .ok (.iload_n 2, 1) := by decide +kernel
theorem dL_act_10 : decode cL_act 10 = .ok (.tableswitch 258 0 7 #[46, 116, 147, 179, 203, 227, 234, 234], 46) := by decide +kernel
theorem dL_act_56 : decode cL_act 56 = .ok (.aload_n 0, 1) := by decide +kernel
theorem dL_act_57 : decode cL_act 57 = .ok (.iload 4, 2) := by decide +kernel
theorem dL_act_59 : decode cL_act 59 = .ok (.iload_n 1, 1) := by decide +kernel
theorem dL_act_60 : decode cL_act 60 = .ok (.iconst 3, 1) := by decide +kernel
theorem dL_act_61 : decode cL_act 61 = .ok (.ishr, 1) := by decide +kernel
theorem dL_act_62 : decode cL_act 62 = .ok (.iconst 5, 1) := by decide +kernel
theorem dL_act_63 : decode cL_act 63 = .ok (.invokestatic 18, 3) := by decide +kernel
theorem dL_act_66 : decode cL_act 66 = .ok (.ifCond .le 7, 3) := by decide +kernel
theorem dL_act_69 : decode cL_act 69 = .ok (.iconst 1, 1) := by decide +kernel
theorem dL_act_70 : decode cL_act 70 = .ok (.goto 4, 3) := by decide +kernel
theorem dL_act_73 : decode cL_act 73 = .ok (.iconst 0, 1) := by decide +kernel
theorem dL_act_74 : decode cL_act 74 = .ok (.iload_n 1, 1) := by decide +kernel
theorem dL_act_75 : decode cL_act 75 = .ok (.iconst 5, 1) := by decide +kernel
theorem dL_act_76 : decode cL_act 76 = .ok (.ishr, 1) := by decide +kernel
theorem dL_act_77 : decode cL_act 77 = .ok (.iconst 3, 1) := by decide +kernel
theorem dL_act_78 : decode cL_act 78 = .ok (.invokestatic 18, 3) := by decide +kernel
theorem dL_act_81 : decode cL_act 81 = .ok (.ifCond .ne 7, 3) := by decide +kernel
theorem dL_act_84 : decode cL_act 84 = .ok (.iconst 1, 1) := by decide +kernel
theorem dL_act_85 : decode cL_act 85 = .ok (.goto 4, 3) := by decide +kernel
theorem dL_act_88 : decode cL_act 88 = .ok (.iconst 0, 1) := by decide +kernel
theorem dL_act_89 : decode cL_act 89 = .ok (.iload_n 1, 1) := by decide +kernel
theorem dL_act_90 : decode cL_act 90 = .ok (.bipush 7, 2) := by decide +kernel
theorem dL_act_92 : decode cL_act 92 = .ok (.ishr, 1) := by decide +kernel
theorem dL_act_93 : decode cL_act 93 = .ok (.bipush 6, 2) := by decide +kernel
theorem dL_act_95 : decode cL_act 95 = .ok (.invokestatic 18, 3) := by decide +kernel
theorem dL_act_98 : decode cL_act 98 = .ok (.iload_n 1, 1) := by decide +kernel
theorem dL_act_99 : decode cL_act 99 = .ok (.iconst 4, 1) := by decide +kernel
theorem dL_act_100 : decode cL_act 100 = .ok (.ishr, 1) := by decide +kernel
theorem dL_act_101 : decode cL_act 101 = .ok (.iconst 4, 1) := by decide +kernel
theorem dL_act_102 : decode cL_act 102 = .ok (.invokestatic 18, 3) := by decide +kernel
theorem dL_act_105 : decode cL_act 105 = .ok (.ifCond .ne 14, 3) := by decide +kernel
theorem dL_act_108 : decode cL_act 108 = .ok (.iload_n 1, 1) := by decide +kernel
theorem dL_act_109 : decode cL_act 109 = .ok (.bipush 6, 2) := by decide +kernel
theorem dL_act_111 : decode cL_act 111 = .ok (.ishr, 1) := by decide +kernel
theorem dL_act_112 : decode cL_act 112 = .ok (.iconst 3, 1) := by decide +kernel
theorem dL_act_113 : decode cL_act 113 = .ok (.invokestatic 18, 3) := by decide +kernel
theorem dL_act_116 : decode cL_act 116 = .ok (.goto 4, 3) := by decide +kernel
theorem dL_act_119 : decode cL_act 119 = .ok (.iconst 0, 1) := by decide +kernel
theorem dL_act_120 : decode cL_act 120 = .ok (.invokevirtual 25, 3) := by decide +kernel
theorem dL_act_123 : decode cL_act 123 = .ok (.pop, 1) := by decide +kernel
theorem dL_act_124 : decode cL_act 124 = .ok (.iconst 0, 1) := by decide +kernel
theorem dL_act_125 : decode cL_act 125 = .ok (.ireturn, 1) := by decide +kernel
theorem dL_act_126 : decode cL_act 126 = .ok (.aload_n 0, 1) := by decide +kernel
theorem dL_act_127 : decode cL_act 127 = .ok (.iload_n 1, 1) := by decide +kernel
theorem dL_act_128 : decode cL_act 128 = .ok (.iconst 3, 1) := by decide +kernel
theorem dL_act_129 : decode cL_act 129 = .ok (.ishr, 1) := by decide +kernel
theorem dL_act_130 : decode cL_act 130 = .ok (.bipush 8, 2) := by decide +kernel
theorem dL_act_132 : decode cL_act 132 = .ok (.invokestatic 18, 3) := by decide +kernel
theorem dL_act_135 : decode cL_act 135 = .ok (.iload_n 1, 1) := by decide +kernel
theorem dL_act_136 : decode cL_act 136 = .ok (.bipush 6, 2) := by decide +kernel
theorem dL_act_138 : decode cL_act 138 = .ok (.ishr, 1) := by decide +kernel
theorem dL_act_139 : decode cL_act 139 = .ok (.iconst 3, 1) := by decide +kernel
theorem dL_act_140 : decode cL_act 140 = .ok (.invokestatic 18, 3) := by decide +kernel
theorem dL_act_143 : decode cL_act 143 = .ok (.ifCond .ne 7, 3) := by decide +kernel
theorem dL_act_146 : decode cL_act 146 = .ok (.iconst 1, 1) := by decide +kernel
theorem dL_act_147 : decode cL_act 147 = .ok (.goto 4, 3) := by decide +kernel
theorem dL_act_150 : decode cL_act 150 = .ok (.iconst 0, 1) := by decide +kernel
theorem dL_act_151 : decode cL_act 151 = .ok (.invokevirtual 41, 3) := by decide +kernel
theorem dL_act_154 : decode cL_act 154 = .ok (.pop, 1) := by decide +kernel
theorem dL_act_155 : decode cL_act 155 = .ok (.iconst 0, 1) := by decide +kernel
theorem dL_act_156 : decode cL_act 156 = .ok (.ireturn, 1) := by decide +kernel
theorem dL_act_157 : decode cL_act 157 = .ok (.aload_n 0, 1) := by decide +kernel
theorem dL_act_158 : decode cL_act 158 = .ok (.iconst 1, 1) := by decide +kernel
theorem dL_act_159 : decode cL_act 159 = .ok (.iload_n 1, 1) := by decide +kernel
theorem dL_act_160 : decode cL_act 160 = .ok (.iconst 3, 1) := by decide +kernel
theorem dL_act_161 : decode cL_act 161 = .ok (.ishr, 1) := by decide +kernel
theorem dL_act_162 : decode cL_act 162 = .ok (.bipush 6, 2) := by decide +kernel
theorem dL_act_164 : decode cL_act 164 = .ok (.invokestatic 18, 3) := by decide +kernel
theorem dL_act_167 : decode cL_act 167 = .ok (.iadd, 1) := by decide +kernel
theorem dL_act_168 : decode cL_act 168 = .ok (.iload_n 1, 1) := by decide +kernel
theorem dL_act_169 : decode cL_act 169 = .ok (.iconst 5, 1) := by decide +kernel
theorem dL_act_170 : decode cL_act 170 = .ok (.ishr, 1) := by decide +kernel
theorem dL_act_171 : decode cL_act 171 = .ok (.iconst 2, 1) := by decide +kernel
theorem dL_act_172 : decode cL_act 172 = .ok (.invokestatic 18, 3) := by decide +kernel
theorem dL_act_175 : decode cL_act 175 = .ok (.ifCond .ne 7, 3) := by decide +kernel
theorem dL_act_178 : decode cL_act 178 = .ok (.iconst 1, 1) := by decide +kernel
theorem dL_act_179 : decode cL_act 179 = .ok (.goto 4, 3) := by decide +kernel
theorem dL_act_182 : decode cL_act 182 = .ok (.iconst 0, 1) := by decide +kernel
theorem dL_act_183 : decode cL_act 183 = .ok (.invokevirtual 45, 3) := by decide +kernel
theorem dL_act_186 : decode cL_act 186 = .ok (.pop, 1) := by decide +kernel
theorem dL_act_187 : decode cL_act 187 = .ok (.iconst 0, 1) := by decide +kernel
theorem dL_act_188 : decode cL_act 188 = .ok (.ireturn, 1) := by decide +kernel
theorem dL_act_189 : decode cL_act 189 = .ok (.aload_n 0, 1) := by decide +kernel
theorem dL_act_190 : decode cL_act 190 = .ok (.iload_n 1, 1) := by decide +kernel
theorem dL_act_191 : decode cL_act 191 = .ok (.iconst 3, 1) := by decide +kernel
theorem dL_act_192 : decode cL_act 192 = .ok (.ishr, 1) := by decide +kernel
theorem dL_act_193 : decode cL_act 193 = .ok (.iconst 3, 1) := by decide +kernel
theorem dL_act_194 : decode cL_act 194 = .ok (.invokestatic 18, 3) := by decide +kernel
theorem dL_act_197 : decode cL_act 197 = .ok (.iload 4, 2) := by decide +kernel
theorem dL_act_199 : decode cL_act 199 = .ok (.iload_n 1, 1) := by decide +kernel
theorem dL_act_200 : decode cL_act 200 = .ok (.iconst 5, 1) := by decide +kernel
theorem dL_act_201 : decode cL_act 201 = .ok (.ishr, 1) := by decide +kernel
theorem dL_act_202 : decode cL_act 202 = .ok (.bipush 32, 2) := by decide +kernel
theorem dL_act_204 : decode cL_act 204 = .ok (.invokestatic 18, 3) := by decide +kernel
theorem dL_act_207 : decode cL_act 207 = .ok (.invokevirtual 48, 3) := by decide +kernel
theorem dL_act_210 : decode cL_act 210 = .ok (.pop, 1) := by decide +kernel
theorem dL_act_211 : decode cL_act 211 = .ok (.iconst 0, 1) := by decide +kernel
theorem dL_act_212 : decode cL_act 212 = .ok (.ireturn, 1) := by decide +kernel
theorem dL_act_213 : decode cL_act 213 = .ok (.aload_n 0, 1) := by decide +kernel
theorem dL_act_214 : decode cL_act 214 = .ok (.iload_n 1, 1) := by decide +kernel
theorem dL_act_215 : decode cL_act 215 = .ok (.iconst 3, 1) := by decide +kernel
theorem dL_act_216 : decode cL_act 216 = .ok (.ishr, 1) := by decide +kernel
theorem dL_act_217 : decode cL_act 217 = .ok (.iconst 1, 1) := by decide +kernel
theorem dL_act_218 : decode cL_act 218 = .ok (.iload_n 3, 1) := by decide +kernel
theorem dL_act_219 : decode cL_act 219 = .ok (.ishl, 1) := by decide +kernel
theorem dL_act_220 : decode cL_act 220 = .ok (.invokestatic 18, 3) := by decide +kernel
theorem dL_act_223 : decode cL_act 223 = .ok (.iload_n 1, 1) := by decide +kernel
theorem dL_act_224 : decode cL_act 224 = .ok (.iconst 5, 1) := by decide +kernel
theorem dL_act_225 : decode cL_act 225 = .ok (.ishr, 1) := by decide +kernel
theorem dL_act_226 : decode cL_act 226 = .ok (.bipush 26, 2) := by decide +kernel
theorem dL_act_228 : decode cL_act 228 = .ok (.invokestatic 18, 3) := by decide +kernel
theorem dL_act_231 : decode cL_act 231 = .ok (.invokevirtual 52, 3) := by decide +kernel
theorem dL_act_234 : decode cL_act 234 = .ok (.pop, 1) := by decide +kernel
theorem dL_act_235 : decode cL_act 235 = .ok (.iconst 0, 1) := by decide +kernel
theorem dL_act_236 : decode cL_act 236 = .ok (.ireturn, 1) := by decide +kernel
theorem dL_act_237 : decode cL_act 237 = .ok (.aload_n 0, 1) := by decide +kernel
theorem dL_act_238 : decode cL_act 238 = .ok (.invokevirtual 55, 3) := by decide +kernel
theorem dL_act_241 : decode cL_act 241 = .ok (.pop, 1) := by decide +kernel
theorem dL_act_242 : decode cL_act 242 = .ok (.iconst 0, 1) := by decide +kernel
theorem dL_act_243 : decode cL_act 243 = .ok (.ireturn, 1) := by decide +kernel
theorem dL_act_244 : decode cL_act 244 = .ok (.aload_n 0, 1) := by decide +kernel
theorem dL_act_245 : decode cL_act 245 = .ok (.iload 4, 2) := by decide +kernel
theorem dL_act_247 : decode cL_act 247 = .ok (.iload_n 1, 1) := by decide +kernel
theorem dL_act_248 : decode cL_act 248 = .ok (.iconst 5, 1) := by decide +kernel
theorem dL_act_249 : decode cL_act 249 = .ok (.ishr, 1) := by decide +kernel
theorem dL_act_250 : decode cL_act 250 = .ok (.iconst 3, 1) := by decide +kernel
theorem dL_act_251 : decode cL_act 251 = .ok (.invokestatic 18, 3) := by decide +kernel
theorem dL_act_254 : decode cL_act 254 = .ok (.ifCond .le 7, 3) := by decide +kernel
theorem dL_act_257 : decode cL_act 257 = .ok (.iconst 1, 1) := by decide +kernel
theorem dL_act_258 : decode cL_act 258 = .ok (.goto 4, 3) := by decide +kernel
theorem dL_act_261 : decode cL_act 261 = .ok (.iconst 0, 1) := by decide +kernel
theorem dL_act_262 : decode cL_act 262 = .ok (.invokevirtual 59, 3) := by decide +kernel
theorem dL_act_265 : decode cL_act 265 = .ok (.pop, 1) := by decide +kernel
theorem dL_act_266 : decode cL_act 266 = .ok (.iconst 0, 1) := by decide +kernel
theorem dL_act_267 : decode cL_act 267 = .ok (.ireturn, 1) := by decide +kernel
theorem dL_act_268 : decode cL_act 268 = .ok (.aload_n 0, 1) := by decide +kernel
theorem dL_act_269 : decode cL_act 269 = .ok (.iconst 1, 1) := by decide +kernel
theorem dL_act_270 : decode cL_act 270 = .ok (.iload_n 1, 1) := by decide +kernel
theorem dL_act_271 : decode cL_act 271 = .ok (.iconst 3, 1) := by decide +kernel
theorem dL_act_272 : decode cL_act 272 = .ok (.ishr, 1) := by decide +kernel
theorem dL_act_273 : decode cL_act 273 = .ok (.bipush 12, 2) := by decide +kernel
theorem dL_act_275 : decode cL_act 275 = .ok (.invokestatic 18, 3) := by decide +kernel
theorem dL_act_278 : decode cL_act 278 = .ok (.iadd, 1) := by decide +kernel
theorem dL_act_279 : decode cL_act 279 = .ok (.invokevirtual 62, 3) := by decide +kernel
theorem dL_act_282 : decode cL_act 282 = .ok (.pop, 1) := by decide +kernel
theorem dL_act_283 : decode cL_act 283 = .ok (.iconst 1, 1) := by decide +kernel
theorem dL_act_284 : decode cL_act 284 = .ok (.ireturn, 1) := by decide +kernel
theorem dL_act_285 : decode cL_act 285 = .ok (.astore 5, 2) := by decide +kernel
theorem dL_act_287 : decode cL_act 287 = .ok (.iconst 0, 1) := by decide +kernel
theorem dL_act_288 : decode cL_act 288 = .ok (.ireturn, 1) := by decide +kernel
theorem dL_act_289 : decode cL_act 289 = .ok (.astore 5, 2) := by decide +kernel
theorem dL_act_291 : decode cL_act 291 = .ok (.iconst 0, 1) := by decide +kernel
theorem dL_act_292 : decode cL_act 292 = .ok (.ireturn, 1) := by decide +kernel
theorem dL_act_293 : decode cL_act 293 = .ok (.astore 5, 2) := by decide +kernel
theorem dL_act_295 : decode cL_act 295 = .ok (.iconst 0, 1) := by decide +kernel
theorem dL_act_296 : decode cL_act 296 = .ok (.ireturn, 1) := by decide +kernel
theorem dL_isAlways_0 : decode cL_isAlways 0 = .ok (.iconst 5, 1) := by decide +kernel
theorem dL_isAlways_1 : decode cL_isAlways 1 = .ok (.newarray .int, 2) := by decide +kernel
theorem dL_isAlways_3 : decode cL_isAlways 3 = .ok (.dup, 1) := by decide +kernel
theorem dL_isAlways_4 : decode cL_isAlways 4 = .ok (.iconst 0, 1) := by decide +kernel
theorem dL_isAlways_5 : decode cL_isAlways 5 = .ok (.aload_n 0, 1) := by decide +kernel
theorem dL_isAlways_6 : decode cL_isAlways 6 = .ok (.iconst 2, 1) := by decide +kernel
theorem dL_isAlways_7 : decode cL_isAlways 7 = .ok (.invokevirtual 72, 3) := by decide +kernel
theorem dL_isAlways_10 : decode cL_isAlways 10 = .ok (.iastore, 1) := by decide +kernel
theorem dL_isAlways_11 : decode cL_isAlways 11 = .ok (.dup, 1) := by decide +kernel
theorem dL_isAlways_12 : decode cL_isAlways 12 = .ok (.iconst 1, 1) := by decide +kernel
theorem dL_isAlways_13 : decode cL_isAlways 13 = .ok (.aload_n 0, 1) := by decide +kernel
theorem dL_isAlways_14 : decode cL_isAlways 14 = .ok (.iconst 3, 1) := by decide +kernel
theorem dL_isAlways_15 : decode cL_isAlways 15 = .ok (.invokevirtual 72, 3) := by decide +kernel
theorem dL_isAlways_18 : decode cL_isAlways 18 = .ok (.iastore, 1) := by decide +kernel
theorem dL_isAlways_19 : decode cL_isAlways 19 = .ok (.dup, 1) := by decide +kernel
theorem dL_isAlways_20 : decode cL_isAlways 20 = .ok (.iconst 2, 1) := by decide +kernel
theorem dL_isAlways_21 : decode cL_isAlways 21 = .ok (.aload_n 0, 1) := by decide +kernel
theorem dL_isAlways_22 : decode cL_isAlways 22 = .ok (.bipush 12, 2) := by decide +kernel
theorem dL_isAlways_24 : decode cL_isAlways 24 = .ok (.invokevirtual 72, 3) := by decide +kernel
theorem dL_isAlways_27 : decode cL_isAlways 27 = .ok (.iastore, 1) := by decide +kernel
theorem dL_isAlways_28 : decode cL_isAlways 28 = .ok (.dup, 1) := by decide +kernel
theorem dL_isAlways_29 : decode cL_isAlways 29 = .ok (.iconst 3, 1) := by decide +kernel
theorem dL_isAlways_30 : decode cL_isAlways 30 = .ok (.aload_n 0, 1) := by decide +kernel
theorem dL_isAlways_31 : decode cL_isAlways 31 = .ok (.bipush 13, 2) := by decide +kernel
theorem dL_isAlways_33 : decode cL_isAlways 33 = .ok (.invokevirtual 72, 3) := by decide +kernel
theorem dL_isAlways_36 : decode cL_isAlways 36 = .ok (.iastore, 1) := by decide +kernel
theorem dL_isAlways_37 : decode cL_isAlways 37 = .ok (.dup, 1) := by decide +kernel
theorem dL_isAlways_38 : decode cL_isAlways 38 = .ok (.iconst 4, 1) := by decide +kernel
theorem dL_isAlways_39 : decode cL_isAlways 39 = .ok (.aload_n 0, 1) := by decide +kernel
theorem dL_isAlways_40 : decode cL_isAlways 40 = .ok (.bipush 14, 2) := by decide +kernel
theorem dL_isAlways_42 : decode cL_isAlways 42 = .ok (.invokevirtual 72, 3) := by decide +kernel
theorem dL_isAlways_45 : decode cL_isAlways 45 = .ok (.iastore, 1) := by decide +kernel
theorem dL_isAlways_46 : decode cL_isAlways 46 = .ok (.astore 4, 2) := by decide +kernel
theorem dL_isAlways_48 : decode cL_isAlways 48 = .ok (.iconst 0, 1) := by decide +kernel
theorem dL_isAlways_49 : decode cL_isAlways 49 = .ok (.istore 5, 2) := by decide +kernel
theorem dL_isAlways_51 : decode cL_isAlways 51 = .ok (.iload 5, 2) := by decide +kernel
theorem dL_isAlways_53 : decode cL_isAlways 53 = .ok (.iconst 5, 1) := by decide +kernel
theorem dL_isAlways_54 : decode cL_isAlways 54 = .ok (.if_icmp .ge 32, 3) := by decide +kernel
theorem dL_isAlways_57 : decode cL_isAlways 57 = .ok (.aload 4, 2) := by decide +kernel
theorem dL_isAlways_59 : decode cL_isAlways 59 = .ok (.iload 5, 2) := by decide +kernel
theorem dL_isAlways_61 : decode cL_isAlways 61 = .ok (.iaload, 1) := by decide +kernel
theorem dL_isAlways_62 : decode cL_isAlways 62 = .ok (.aload_n 2, 1) := by decide +kernel
theorem dL_isAlways_63 : decode cL_isAlways 63 = .ok (.iload 5, 2) := by decide +kernel
theorem dL_isAlways_65 : decode cL_isAlways 65 = .ok (.iaload, 1) := by decide +kernel
theorem dL_isAlways_66 : decode cL_isAlways 66 = .ok (.if_icmp .ge 5, 3) := by decide +kernel
theorem dL_isAlways_69 : decode cL_isAlways 69 = .ok (.iconst 0, 1) := by decide +kernel
theorem dL_isAlways_70 : decode cL_isAlways 70 = .ok (.ireturn, 1) := by decide +kernel
theorem dL_isAlways_71 : decode cL_isAlways 71 = .ok (.aload_n 2, 1) := by decide +kernel
theorem dL_isAlways_72 : decode cL_isAlways 72 = .ok (.iload 5, 2) := by decide +kernel
theorem dL_isAlways_74 : decode cL_isAlways 74 = .ok (.aload 4, 2) := by decide +kernel
theorem dL_isAlways_76 : decode cL_isAlways 76 = .ok (.iload 5, 2) := by decide +kernel
theorem dL_isAlways_78 : decode cL_isAlways 78 = .ok (.iaload, 1) := by decide +kernel
theorem dL_isAlways_79 : decode cL_isAlways 79 = .ok (.iastore, 1) := by decide +kernel
theorem dL_isAlways_80 : decode cL_isAlways 80 = .ok (.iinc 5 1, 3) := by decide +kernel
theorem dL_isAlways_83 : decode cL_isAlways 83 = .ok (.goto (-32), 3) := by decide +kernel
theorem dL_isAlways_86 : decode cL_isAlways 86 = .ok (.iconst 0, 1) := by decide +kernel
theorem dL_isAlways_87 : decode cL_isAlways 87 = .ok (.istore 5, 2) := by decide +kernel
theorem dL_isAlways_89 : decode cL_isAlways 89 = .ok (.iconst 0, 1) := by decide +kernel
theorem dL_isAlways_90 : decode cL_isAlways 90 = .ok (.istore 6, 2) := by decide +kernel
theorem dL_isAlways_92 : decode cL_isAlways 92 = .ok (.iload 6, 2) := by decide +kernel
theorem dL_isAlways_94 : decode cL_isAlways 94 = .ok (.iload_n 1, 1) := by decide +kernel
theorem dL_isAlways_95 : decode cL_isAlways 95 = .ok (.if_icmp .ge 129, 3) := by decide +kernel
theorem dL_isAlways_98 : decode cL_isAlways 98 = .ok (.aload_n 0, 1) := by decide +kernel
theorem dL_isAlways_99 : decode cL_isAlways 99 = .ok (.iload 6, 2) := by decide +kernel
theorem dL_isAlways_101 : decode cL_isAlways 101 = .ok (.bipush 6, 2) := by decide +kernel
theorem dL_isAlways_103 : decode cL_isAlways 103 = .ok (.invokevirtual 75, 3) := by decide +kernel
theorem dL_isAlways_106 : decode cL_isAlways 106 = .ok (.istore 7, 2) := by decide +kernel
theorem dL_isAlways_108 : decode cL_isAlways 108 = .ok (.iload 5, 2) := by decide +kernel
theorem dL_isAlways_110 : decode cL_isAlways 110 = .ok (.aload_n 0, 1) := by decide +kernel
theorem dL_isAlways_111 : decode cL_isAlways 111 = .ok (.iload 6, 2) := by decide +kernel
theorem dL_isAlways_113 : decode cL_isAlways 113 = .ok (.bipush 10, 2) := by decide +kernel
theorem dL_isAlways_115 : decode cL_isAlways 115 = .ok (.invokevirtual 75, 3) := by decide +kernel
theorem dL_isAlways_118 : decode cL_isAlways 118 = .ok (.iadd, 1) := by decide +kernel
theorem dL_isAlways_119 : decode cL_isAlways 119 = .ok (.istore 5, 2) := by decide +kernel
theorem dL_isAlways_121 : decode cL_isAlways 121 = .ok (.aload_n 0, 1) := by decide +kernel
theorem dL_isAlways_122 : decode cL_isAlways 122 = .ok (.iload 6, 2) := by decide +kernel
theorem dL_isAlways_124 : decode cL_isAlways 124 = .ok (.bipush 10, 2) := by decide +kernel
theorem dL_isAlways_126 : decode cL_isAlways 126 = .ok (.invokevirtual 75, 3) := by decide +kernel
theorem dL_isAlways_129 : decode cL_isAlways 129 = .ok (.iconst 2, 1) := by decide +kernel
theorem dL_isAlways_130 : decode cL_isAlways 130 = .ok (.irem, 1) := by decide +kernel
theorem dL_isAlways_131 : decode cL_isAlways 131 = .ok (.iload 7, 2) := by decide +kernel
theorem dL_isAlways_133 : decode cL_isAlways 133 = .ok (.if_icmp .ne 83, 3) := by decide +kernel
theorem dL_isAlways_136 : decode cL_isAlways 136 = .ok (.aload_n 0, 1) := by decide +kernel
theorem dL_isAlways_137 : decode cL_isAlways 137 = .ok (.iconst 3, 1) := by decide +kernel
theorem dL_isAlways_138 : decode cL_isAlways 138 = .ok (.invokevirtual 78, 3) := by decide +kernel
theorem dL_isAlways_141 : decode cL_isAlways 141 = .ok (.iload 6, 2) := by decide +kernel
theorem dL_isAlways_143 : decode cL_isAlways 143 = .ok (.ishr, 1) := by decide +kernel
theorem dL_isAlways_144 : decode cL_isAlways 144 = .ok (.iconst 1, 1) := by decide +kernel
theorem dL_isAlways_145 : decode cL_isAlways 145 = .ok (.iand, 1) := by decide +kernel
theorem dL_isAlways_146 : decode cL_isAlways 146 = .ok (.iload 7, 2) := by decide +kernel
theorem dL_isAlways_148 : decode cL_isAlways 148 = .ok (.if_icmp .ne 68, 3) := by decide +kernel
theorem dL_isAlways_151 : decode cL_isAlways 151 = .ok (.aload_n 0, 1) := by decide +kernel
theorem dL_isAlways_152 : decode cL_isAlways 152 = .ok (.iload 6, 2) := by decide +kernel
theorem dL_isAlways_154 : decode cL_isAlways 154 = .ok (.bipush 8, 2) := by decide +kernel
theorem dL_isAlways_156 : decode cL_isAlways 156 = .ok (.invokevirtual 75, 3) := by decide +kernel
theorem dL_isAlways_159 : decode cL_isAlways 159 = .ok (.iconst (-1), 1) := by decide +kernel
theorem dL_isAlways_160 : decode cL_isAlways 160 = .ok (.if_icmp .ne 7, 3) := by decide +kernel
theorem dL_isAlways_163 : decode cL_isAlways 163 = .ok (.iconst 1, 1) := by decide +kernel
theorem dL_isAlways_164 : decode cL_isAlways 164 = .ok (.goto 4, 3) := by decide +kernel
theorem dL_isAlways_167 : decode cL_isAlways 167 = .ok (.iconst 0, 1) := by decide +kernel
theorem dL_isAlways_168 : decode cL_isAlways 168 = .ok (.iload 7, 2) := by decide +kernel
theorem dL_isAlways_170 : decode cL_isAlways 170 = .ok (.ifCond .ne 7, 3) := by decide +kernel
theorem dL_isAlways_173 : decode cL_isAlways 173 = .ok (.iconst 1, 1) := by decide +kernel
theorem dL_isAlways_174 : decode cL_isAlways 174 = .ok (.goto 4, 3) := by decide +kernel
theorem dL_isAlways_177 : decode cL_isAlways 177 = .ok (.iconst 0, 1) := by decide +kernel
theorem dL_isAlways_178 : decode cL_isAlways 178 = .ok (.if_icmp .ne 38, 3) := by decide +kernel
theorem dL_isAlways_181 : decode cL_isAlways 181 = .ok (.aload_n 0, 1) := by decide +kernel
theorem dL_isAlways_182 : decode cL_isAlways 182 = .ok (.iload 6, 2) := by decide +kernel
theorem dL_isAlways_184 : decode cL_isAlways 184 = .ok (.bipush 9, 2) := by decide +kernel
theorem dL_isAlways_186 : decode cL_isAlways 186 = .ok (.invokevirtual 75, 3) := by decide +kernel
theorem dL_isAlways_189 : decode cL_isAlways 189 = .ok (.aload 4, 2) := by decide +kernel
theorem dL_isAlways_191 : decode cL_isAlways 191 = .ok (.iconst 0, 1) := by decide +kernel
theorem dL_isAlways_192 : decode cL_isAlways 192 = .ok (.iaload, 1) := by decide +kernel
theorem dL_isAlways_193 : decode cL_isAlways 193 = .ok (.if_icmp .gt 23, 3) := by decide +kernel
theorem dL_isAlways_196 : decode cL_isAlways 196 = .ok (.iload_n 3, 1) := by decide +kernel
theorem dL_isAlways_197 : decode cL_isAlways 197 = .ok (.ifCond .eq 21, 3) := by decide +kernel
theorem dL_isAlways_200 : decode cL_isAlways 200 = .ok (.aload_n 0, 1) := by decide +kernel
theorem dL_isAlways_201 : decode cL_isAlways 201 = .ok (.iload 6, 2) := by decide +kernel
theorem dL_isAlways_203 : decode cL_isAlways 203 = .ok (.bipush 7, 2) := by decide +kernel
theorem dL_isAlways_205 : decode cL_isAlways 205 = .ok (.invokevirtual 75, 3) := by decide +kernel
theorem dL_isAlways_208 : decode cL_isAlways 208 = .ok (.aload_n 0, 1) := by decide +kernel
theorem dL_isAlways_209 : decode cL_isAlways 209 = .ok (.iconst 5, 1) := by decide +kernel
theorem dL_isAlways_210 : decode cL_isAlways 210 = .ok (.invokevirtual 72, 3) := by decide +kernel
theorem dL_isAlways_213 : decode cL_isAlways 213 = .ok (.if_icmp .le 5, 3) := by decide +kernel
theorem dL_isAlways_216 : decode cL_isAlways 216 = .ok (.iconst 0, 1) := by decide +kernel
theorem dL_isAlways_217 : decode cL_isAlways 217 = .ok (.ireturn, 1) := by decide +kernel
theorem dL_isAlways_218 : decode cL_isAlways 218 = .ok (.iinc 6 1, 3) := by decide +kernel
theorem dL_isAlways_221 : decode cL_isAlways 221 = .ok (.goto (-129), 3) := by decide +kernel
theorem dL_isAlways_224 : decode cL_isAlways 224 = .ok (.aload_n 0, 1) := by decide +kernel
theorem dL_isAlways_225 : decode cL_isAlways 225 = .ok (.iconst 0, 1) := by decide +kernel
theorem dL_isAlways_226 : decode cL_isAlways 226 = .ok (.invokevirtual 78, 3) := by decide +kernel
theorem dL_isAlways_229 : decode cL_isAlways 229 = .ok (.istore 6, 2) := by decide +kernel
theorem dL_isAlways_231 : decode cL_isAlways 231 = .ok (.aload_n 0, 1) := by decide +kernel
theorem dL_isAlways_232 : decode cL_isAlways 232 = .ok (.iconst 1, 1) := by decide +kernel
theorem dL_isAlways_233 : decode cL_isAlways 233 = .ok (.invokevirtual 78, 3) := by decide +kernel
theorem dL_isAlways_236 : decode cL_isAlways 236 = .ok (.istore 7, 2) := by decide +kernel
theorem dL_isAlways_238 : decode cL_isAlways 238 = .ok (.iload 5, 2) := by decide +kernel
theorem dL_isAlways_240 : decode cL_isAlways 240 = .ok (.aload 4, 2) := by decide +kernel
theorem dL_isAlways_242 : decode cL_isAlways 242 = .ok (.iconst 1, 1) := by decide +kernel
theorem dL_isAlways_243 : decode cL_isAlways 243 = .ok (.iaload, 1) := by decide +kernel
theorem dL_isAlways_244 : decode cL_isAlways 244 = .ok (.if_icmp .ne 46, 3) := by decide +kernel
theorem dL_isAlways_247 : decode cL_isAlways 247 = .ok (.aload_n 0, 1) := by decide +kernel
theorem dL_isAlways_248 : decode cL_isAlways 248 = .ok (.iconst 2, 1) := by decide +kernel
theorem dL_isAlways_249 : decode cL_isAlways 249 = .ok (.invokevirtual 78, 3) := by decide +kernel
theorem dL_isAlways_252 : decode cL_isAlways 252 = .ok (.iload 7, 2) := by decide +kernel
theorem dL_isAlways_254 : decode cL_isAlways 254 = .ok (.iload 6, 2) := by decide +kernel
theorem dL_isAlways_256 : decode cL_isAlways 256 = .ok (.iconst (-1), 1) := by decide +kernel
theorem dL_isAlways_257 : decode cL_isAlways 257 = .ok (.ixor, 1) := by decide +kernel
theorem dL_isAlways_258 : decode cL_isAlways 258 = .ok (.iand, 1) := by decide +kernel
theorem dL_isAlways_259 : decode cL_isAlways 259 = .ok (.if_icmp .ne 31, 3) := by decide +kernel
theorem dL_isAlways_262 : decode cL_isAlways 262 = .ok (.aload_n 0, 1) := by decide +kernel
theorem dL_isAlways_263 : decode cL_isAlways 263 = .ok (.iconst 4, 1) := by decide +kernel
theorem dL_isAlways_264 : decode cL_isAlways 264 = .ok (.invokevirtual 78, 3) := by decide +kernel
theorem dL_isAlways_267 : decode cL_isAlways 267 = .ok (.aload_n 0, 1) := by decide +kernel
theorem dL_isAlways_268 : decode cL_isAlways 268 = .ok (.iconst 5, 1) := by decide +kernel
theorem dL_isAlways_269 : decode cL_isAlways 269 = .ok (.invokevirtual 78, 3) := by decide +kernel
theorem dL_isAlways_272 : decode cL_isAlways 272 = .ok (.iconst (-1), 1) := by decide +kernel
theorem dL_isAlways_273 : decode cL_isAlways 273 = .ok (.ixor, 1) := by decide +kernel
theorem dL_isAlways_274 : decode cL_isAlways 274 = .ok (.iand, 1) := by decide +kernel
theorem dL_isAlways_275 : decode cL_isAlways 275 = .ok (.ifCond .ne 15, 3) := by decide +kernel
theorem dL_isAlways_278 : decode cL_isAlways 278 = .ok (.aload_n 0, 1) := by decide +kernel
theorem dL_isAlways_279 : decode cL_isAlways 279 = .ok (.invokevirtual 81, 3) := by decide +kernel
theorem dL_isAlways_282 : decode cL_isAlways 282 = .ok (.invokevirtual 85, 3) := by decide +kernel
theorem dL_isAlways_285 : decode cL_isAlways 285 = .ok (.bipush 60, 2) := by decide +kernel
theorem dL_isAlways_287 : decode cL_isAlways 287 = .ok (.if_icmp .le 5, 3) := by decide +kernel
theorem dL_isAlways_290 : decode cL_isAlways 290 = .ok (.iconst 0, 1) := by decide +kernel
theorem dL_isAlways_291 : decode cL_isAlways 291 = .ok (.ireturn, 1) := by decide +kernel
theorem dL_isAlways_292 : decode cL_isAlways 292 = .ok (.iload_n 3, 1) := by decide +kernel
theorem dL_isAlways_293 : decode cL_isAlways 293 = .ok (.ifCond .eq 52, 3) := by decide +kernel
theorem dL_isAlways_296 : decode cL_isAlways 296 = .ok (.iload 6, 2) := by decide +kernel
theorem dL_isAlways_298 : decode cL_isAlways 298 = .ok (.iload 7, 2) := by decide +kernel
theorem dL_isAlways_300 : decode cL_isAlways 300 = .ok (.ior, 1) := by decide +kernel
theorem dL_isAlways_301 : decode cL_isAlways 301 = .ok (.aload_n 0, 1) := by decide +kernel
theorem dL_isAlways_302 : decode cL_isAlways 302 = .ok (.iconst 5, 1) := by decide +kernel
theorem dL_isAlways_303 : decode cL_isAlways 303 = .ok (.invokevirtual 78, 3) := by decide +kernel
theorem dL_isAlways_306 : decode cL_isAlways 306 = .ok (.iconst (-1), 1) := by decide +kernel
theorem dL_isAlways_307 : decode cL_isAlways 307 = .ok (.ixor, 1) := by decide +kernel
theorem dL_isAlways_308 : decode cL_isAlways 308 = .ok (.iand, 1) := by decide +kernel
theorem dL_isAlways_309 : decode cL_isAlways 309 = .ok (.ifCond .ne 34, 3) := by decide +kernel
theorem dL_isAlways_312 : decode cL_isAlways 312 = .ok (.aload_n 0, 1) := by decide +kernel
theorem dL_isAlways_313 : decode cL_isAlways 313 = .ok (.iload 6, 2) := by decide +kernel
theorem dL_isAlways_315 : decode cL_isAlways 315 = .ok (.invokevirtual 90, 3) := by decide +kernel
theorem dL_isAlways_318 : decode cL_isAlways 318 = .ok (.iload 7, 2) := by decide +kernel
theorem dL_isAlways_320 : decode cL_isAlways 320 = .ok (.if_icmp .ne 23, 3) := by decide +kernel
theorem dL_isAlways_323 : decode cL_isAlways 323 = .ok (.aload_n 0, 1) := by decide +kernel
theorem dL_isAlways_324 : decode cL_isAlways 324 = .ok (.bipush 8, 2) := by decide +kernel
theorem dL_isAlways_326 : decode cL_isAlways 326 = .ok (.invokevirtual 72, 3) := by decide +kernel
theorem dL_isAlways_329 : decode cL_isAlways 329 = .ok (.iconst 1, 1) := by decide +kernel
theorem dL_isAlways_330 : decode cL_isAlways 330 = .ok (.if_icmp .ne 15, 3) := by decide +kernel
theorem dL_isAlways_333 : decode cL_isAlways 333 = .ok (.iload 7, 2) := by decide +kernel
theorem dL_isAlways_335 : decode cL_isAlways 335 = .ok (.iload 7, 2) := by decide +kernel
theorem dL_isAlways_337 : decode cL_isAlways 337 = .ok (.iload 6, 2) := by decide +kernel
theorem dL_isAlways_339 : decode cL_isAlways 339 = .ok (.iand, 1) := by decide +kernel
theorem dL_isAlways_340 : decode cL_isAlways 340 = .ok (.if_icmp .eq 5, 3) := by decide +kernel
theorem dL_isAlways_343 : decode cL_isAlways 343 = .ok (.iconst 0, 1) := by decide +kernel
theorem dL_isAlways_344 : decode cL_isAlways 344 = .ok (.ireturn, 1) := by decide +kernel
theorem dL_isAlways_345 : decode cL_isAlways 345 = .ok (.aload_n 0, 1) := by decide +kernel
theorem dL_isAlways_346 : decode cL_isAlways 346 = .ok (.invokevirtual 93, 3) := by decide +kernel
theorem dL_isAlways_349 : decode cL_isAlways 349 = .ok (.ireturn, 1) := by decide +kernel
theorem dL_isTheorem_0 : decode cL_isTheorem 0 = .ok (.aload_n 0, 1) := by decide +kernel
theorem dL_isTheorem_1 : decode cL_isTheorem 1 = .ok (.invokevirtual 97, 3) := by decide +kernel
theorem dL_isTheorem_4 : decode cL_isTheorem 4 = .ok (.lstore_n 2, 1) := by decide +kernel
theorem dL_isTheorem_5 : decode cL_isTheorem 5 = .ok (.aload_n 0, 1) := by decide +kernel
theorem dL_isTheorem_6 : decode cL_isTheorem 6 = .ok (.bipush 8, 2) := by decide +kernel
theorem dL_isTheorem_8 : decode cL_isTheorem 8 = .ok (.invokevirtual 72, 3) := by decide +kernel
theorem dL_isTheorem_11 : decode cL_isTheorem 11 = .ok (.iconst 1, 1) := by decide +kernel
theorem dL_isTheorem_12 : decode cL_isTheorem 12 = .ok (.if_icmp .ne 7, 3) := by decide +kernel
theorem dL_isTheorem_15 : decode cL_isTheorem 15 = .ok (.iconst 1, 1) := by decide +kernel
theorem dL_isTheorem_16 : decode cL_isTheorem 16 = .ok (.goto 4, 3) := by decide +kernel
theorem dL_isTheorem_19 : decode cL_isTheorem 19 = .ok (.iconst 0, 1) := by decide +kernel
theorem dL_isTheorem_20 : decode cL_isTheorem 20 = .ok (.istore 4, 2) := by decide +kernel
theorem dL_isTheorem_22 : decode cL_isTheorem 22 = .ok (.aload_n 0, 1) := by decide +kernel
theorem dL_isTheorem_23 : decode cL_isTheorem 23 = .ok (.bipush 9, 2) := by decide +kernel
theorem dL_isTheorem_25 : decode cL_isTheorem 25 = .ok (.invokevirtual 72, 3) := by decide +kernel
theorem dL_isTheorem_28 : decode cL_isTheorem 28 = .ok (.istore 5, 2) := by decide +kernel
theorem dL_isTheorem_30 : decode cL_isTheorem 30 = .ok (.aload_n 0, 1) := by decide +kernel
theorem dL_isTheorem_31 : decode cL_isTheorem 31 = .ok (.iconst 5, 1) := by decide +kernel
theorem dL_isTheorem_32 : decode cL_isTheorem 32 = .ok (.invokevirtual 78, 3) := by decide +kernel
theorem dL_isTheorem_35 : decode cL_isTheorem 35 = .ok (.istore 6, 2) := by decide +kernel
theorem dL_isTheorem_37 : decode cL_isTheorem 37 = .ok (.iconst 0, 1) := by decide +kernel
theorem dL_isTheorem_38 : decode cL_isTheorem 38 = .ok (.istore 7, 2) := by decide +kernel
theorem dL_isTheorem_40 : decode cL_isTheorem 40 = .ok (.iconst 0, 1) := by decide +kernel
theorem dL_isTheorem_41 : decode cL_isTheorem 41 = .ok (.istore 8, 2) := by decide +kernel
theorem dL_isTheorem_43 : decode cL_isTheorem 43 = .ok (.iload 8, 2) := by decide +kernel
theorem dL_isTheorem_45 : decode cL_isTheorem 45 = .ok (.iconst 1, 1) := by decide +kernel
theorem dL_isTheorem_46 : decode cL_isTheorem 46 = .ok (.iload_n 1, 1) := by decide +kernel
theorem dL_isTheorem_47 : decode cL_isTheorem 47 = .ok (.ishl, 1) := by decide +kernel
theorem dL_isTheorem_48 : decode cL_isTheorem 48 = .ok (.if_icmp .ge 115, 3) := by decide +kernel
theorem dL_isTheorem_51 : decode cL_isTheorem 51 = .ok (.iconst 0, 1) := by decide +kernel
theorem dL_isTheorem_52 : decode cL_isTheorem 52 = .ok (.istore 9, 2) := by decide +kernel
theorem dL_isTheorem_54 : decode cL_isTheorem 54 = .ok (.iconst 0, 1) := by decide +kernel
theorem dL_isTheorem_55 : decode cL_isTheorem 55 = .ok (.istore 10, 2) := by decide +kernel
theorem dL_isTheorem_57 : decode cL_isTheorem 57 = .ok (.iload 10, 2) := by decide +kernel
theorem dL_isTheorem_59 : decode cL_isTheorem 59 = .ok (.iload_n 1, 1) := by decide +kernel
theorem dL_isTheorem_60 : decode cL_isTheorem 60 = .ok (.if_icmp .ge 24, 3) := by decide +kernel
theorem dL_isTheorem_63 : decode cL_isTheorem 63 = .ok (.iload 9, 2) := by decide +kernel
theorem dL_isTheorem_65 : decode cL_isTheorem 65 = .ok (.iload 8, 2) := by decide +kernel
theorem dL_isTheorem_67 : decode cL_isTheorem 67 = .ok (.iload 6, 2) := by decide +kernel
theorem dL_isTheorem_69 : decode cL_isTheorem 69 = .ok (.iand, 1) := by decide +kernel
theorem dL_isTheorem_70 : decode cL_isTheorem 70 = .ok (.iload 10, 2) := by decide +kernel
theorem dL_isTheorem_72 : decode cL_isTheorem 72 = .ok (.ishr, 1) := by decide +kernel
theorem dL_isTheorem_73 : decode cL_isTheorem 73 = .ok (.iconst 1, 1) := by decide +kernel
theorem dL_isTheorem_74 : decode cL_isTheorem 74 = .ok (.iand, 1) := by decide +kernel
theorem dL_isTheorem_75 : decode cL_isTheorem 75 = .ok (.iadd, 1) := by decide +kernel
theorem dL_isTheorem_76 : decode cL_isTheorem 76 = .ok (.istore 9, 2) := by decide +kernel
theorem dL_isTheorem_78 : decode cL_isTheorem 78 = .ok (.iinc 10 1, 3) := by decide +kernel
theorem dL_isTheorem_81 : decode cL_isTheorem 81 = .ok (.goto (-24), 3) := by decide +kernel
theorem dL_isTheorem_84 : decode cL_isTheorem 84 = .ok (.aload_n 0, 1) := by decide +kernel
theorem dL_isTheorem_85 : decode cL_isTheorem 85 = .ok (.iload 8, 2) := by decide +kernel
theorem dL_isTheorem_87 : decode cL_isTheorem 87 = .ok (.invokevirtual 90, 3) := by decide +kernel
theorem dL_isTheorem_90 : decode cL_isTheorem 90 = .ok (.iload 8, 2) := by decide +kernel
theorem dL_isTheorem_92 : decode cL_isTheorem 92 = .ok (.iconst (-1), 1) := by decide +kernel
theorem dL_isTheorem_93 : decode cL_isTheorem 93 = .ok (.ixor, 1) := by decide +kernel
theorem dL_isTheorem_94 : decode cL_isTheorem 94 = .ok (.iand, 1) := by decide +kernel
theorem dL_isTheorem_95 : decode cL_isTheorem 95 = .ok (.ifCond .ne 7, 3) := by decide +kernel
theorem dL_isTheorem_98 : decode cL_isTheorem 98 = .ok (.iconst 1, 1) := by decide +kernel
theorem dL_isTheorem_99 : decode cL_isTheorem 99 = .ok (.goto 4, 3) := by decide +kernel
theorem dL_isTheorem_102 : decode cL_isTheorem 102 = .ok (.iconst 0, 1) := by decide +kernel
theorem dL_isTheorem_103 : decode cL_isTheorem 103 = .ok (.istore 10, 2) := by decide +kernel
theorem dL_isTheorem_105 : decode cL_isTheorem 105 = .ok (.aload_n 0, 1) := by decide +kernel
theorem dL_isTheorem_106 : decode cL_isTheorem 106 = .ok (.iload 8, 2) := by decide +kernel
theorem dL_isTheorem_108 : decode cL_isTheorem 108 = .ok (.invokevirtual 101, 3) := by decide +kernel
theorem dL_isTheorem_111 : decode cL_isTheorem 111 = .ok (.iload 10, 2) := by decide +kernel
theorem dL_isTheorem_113 : decode cL_isTheorem 113 = .ok (.if_icmp .ne 20, 3) := by decide +kernel
theorem dL_isTheorem_116 : decode cL_isTheorem 116 = .ok (.iload 10, 2) := by decide +kernel
theorem dL_isTheorem_118 : decode cL_isTheorem 118 = .ok (.ifCond .ne 17, 3) := by decide +kernel
theorem dL_isTheorem_121 : decode cL_isTheorem 121 = .ok (.iload 4, 2) := by decide +kernel
theorem dL_isTheorem_123 : decode cL_isTheorem 123 = .ok (.ifCond .ne 10, 3) := by decide +kernel
theorem dL_isTheorem_126 : decode cL_isTheorem 126 = .ok (.iload 9, 2) := by decide +kernel
theorem dL_isTheorem_128 : decode cL_isTheorem 128 = .ok (.iload 5, 2) := by decide +kernel
theorem dL_isTheorem_130 : decode cL_isTheorem 130 = .ok (.if_icmp .ge 5, 3) := by decide +kernel
theorem dL_isTheorem_133 : decode cL_isTheorem 133 = .ok (.iconst 0, 1) := by decide +kernel
theorem dL_isTheorem_134 : decode cL_isTheorem 134 = .ok (.ireturn, 1) := by decide +kernel
theorem dL_isTheorem_135 : decode cL_isTheorem 135 = .ok (.iload 7, 2) := by decide +kernel
theorem dL_isTheorem_137 : decode cL_isTheorem 137 = .ok (.iload 10, 2) := by decide +kernel
theorem dL_isTheorem_139 : decode cL_isTheorem 139 = .ok (.ifCond .ne 14, 3) := by decide +kernel
theorem dL_isTheorem_142 : decode cL_isTheorem 142 = .ok (.iload 9, 2) := by decide +kernel
theorem dL_isTheorem_144 : decode cL_isTheorem 144 = .ok (.iload 5, 2) := by decide +kernel
theorem dL_isTheorem_146 : decode cL_isTheorem 146 = .ok (.if_icmp .ne 7, 3) := by decide +kernel
theorem dL_isTheorem_149 : decode cL_isTheorem 149 = .ok (.iconst 1, 1) := by decide +kernel
theorem dL_isTheorem_150 : decode cL_isTheorem 150 = .ok (.goto 4, 3) := by decide +kernel
theorem dL_isTheorem_153 : decode cL_isTheorem 153 = .ok (.iconst 0, 1) := by decide +kernel
theorem dL_isTheorem_154 : decode cL_isTheorem 154 = .ok (.ior, 1) := by decide +kernel
theorem dL_isTheorem_155 : decode cL_isTheorem 155 = .ok (.istore 7, 2) := by decide +kernel
theorem dL_isTheorem_157 : decode cL_isTheorem 157 = .ok (.iinc 8 1, 3) := by decide +kernel
theorem dL_isTheorem_160 : decode cL_isTheorem 160 = .ok (.goto (-117), 3) := by decide +kernel
theorem dL_isTheorem_163 : decode cL_isTheorem 163 = .ok (.iload 4, 2) := by decide +kernel
theorem dL_isTheorem_165 : decode cL_isTheorem 165 = .ok (.iload 7, 2) := by decide +kernel
theorem dL_isTheorem_167 : decode cL_isTheorem 167 = .ok (.if_icmp .eq 19, 3) := by decide +kernel
theorem dL_isTheorem_170 : decode cL_isTheorem 170 = .ok (.iload 4, 2) := by decide +kernel
theorem dL_isTheorem_172 : decode cL_isTheorem 172 = .ok (.iload 5, 2) := by decide +kernel
theorem dL_isTheorem_174 : decode cL_isTheorem 174 = .ok (.iconst (-1), 1) := by decide +kernel
theorem dL_isTheorem_175 : decode cL_isTheorem 175 = .ok (.if_icmp .ne 7, 3) := by decide +kernel
theorem dL_isTheorem_178 : decode cL_isTheorem 178 = .ok (.iconst 1, 1) := by decide +kernel
theorem dL_isTheorem_179 : decode cL_isTheorem 179 = .ok (.goto 4, 3) := by decide +kernel
theorem dL_isTheorem_182 : decode cL_isTheorem 182 = .ok (.iconst 0, 1) := by decide +kernel
theorem dL_isTheorem_183 : decode cL_isTheorem 183 = .ok (.if_icmp .eq 5, 3) := by decide +kernel
theorem dL_isTheorem_186 : decode cL_isTheorem 186 = .ok (.iconst 0, 1) := by decide +kernel
theorem dL_isTheorem_187 : decode cL_isTheorem 187 = .ok (.ireturn, 1) := by decide +kernel
theorem dL_isTheorem_188 : decode cL_isTheorem 188 = .ok (.iconst 0, 1) := by decide +kernel
theorem dL_isTheorem_189 : decode cL_isTheorem 189 = .ok (.istore 8, 2) := by decide +kernel
theorem dL_isTheorem_191 : decode cL_isTheorem 191 = .ok (.iload 8, 2) := by decide +kernel
theorem dL_isTheorem_193 : decode cL_isTheorem 193 = .ok (.iload_n 1, 1) := by decide +kernel
theorem dL_isTheorem_194 : decode cL_isTheorem 194 = .ok (.if_icmp .ge 81, 3) := by decide +kernel
theorem dL_isTheorem_197 : decode cL_isTheorem 197 = .ok (.aload_n 0, 1) := by decide +kernel
theorem dL_isTheorem_198 : decode cL_isTheorem 198 = .ok (.iload 8, 2) := by decide +kernel
theorem dL_isTheorem_200 : decode cL_isTheorem 200 = .ok (.invokevirtual 105, 3) := by decide +kernel
theorem dL_isTheorem_203 : decode cL_isTheorem 203 = .ok (.istore 9, 2) := by decide +kernel
theorem dL_isTheorem_205 : decode cL_isTheorem 205 = .ok (.iload 4, 2) := by decide +kernel
theorem dL_isTheorem_207 : decode cL_isTheorem 207 = .ok (.ifCond .eq 18, 3) := by decide +kernel
theorem dL_isTheorem_210 : decode cL_isTheorem 210 = .ok (.iload 9, 2) := by decide +kernel
theorem dL_isTheorem_212 : decode cL_isTheorem 212 = .ok (.iconst (-1), 1) := by decide +kernel
theorem dL_isTheorem_213 : decode cL_isTheorem 213 = .ok (.if_icmp .ne 25, 3) := by decide +kernel
theorem dL_isTheorem_216 : decode cL_isTheorem 216 = .ok (.aload_n 0, 1) := by decide +kernel
theorem dL_isTheorem_217 : decode cL_isTheorem 217 = .ok (.iload 8, 2) := by decide +kernel
theorem dL_isTheorem_219 : decode cL_isTheorem 219 = .ok (.invokevirtual 108, 3) := by decide +kernel
theorem dL_isTheorem_222 : decode cL_isTheorem 222 = .ok (.ifCond .ne 16, 3) := by decide +kernel
theorem dL_isTheorem_225 : decode cL_isTheorem 225 = .ok (.iload 9, 2) := by decide +kernel
theorem dL_isTheorem_227 : decode cL_isTheorem 227 = .ok (.iconst (-1), 1) := by decide +kernel
theorem dL_isTheorem_228 : decode cL_isTheorem 228 = .ok (.if_icmp .eq 12, 3) := by decide +kernel
theorem dL_isTheorem_231 : decode cL_isTheorem 231 = .ok (.iload 9, 2) := by decide +kernel
theorem dL_isTheorem_233 : decode cL_isTheorem 233 = .ok (.iload 5, 2) := by decide +kernel
theorem dL_isTheorem_235 : decode cL_isTheorem 235 = .ok (.if_icmp .ge 5, 3) := by decide +kernel
theorem dL_isTheorem_238 : decode cL_isTheorem 238 = .ok (.iconst 0, 1) := by decide +kernel
theorem dL_isTheorem_239 : decode cL_isTheorem 239 = .ok (.ireturn, 1) := by decide +kernel
theorem dL_isTheorem_240 : decode cL_isTheorem 240 = .ok (.aload_n 0, 1) := by decide +kernel
theorem dL_isTheorem_241 : decode cL_isTheorem 241 = .ok (.iload 6, 2) := by decide +kernel
theorem dL_isTheorem_243 : decode cL_isTheorem 243 = .ok (.iconst 1, 1) := by decide +kernel
theorem dL_isTheorem_244 : decode cL_isTheorem 244 = .ok (.ishr, 1) := by decide +kernel
theorem dL_isTheorem_245 : decode cL_isTheorem 245 = .ok (.invokevirtual 90, 3) := by decide +kernel
theorem dL_isTheorem_248 : decode cL_isTheorem 248 = .ok (.aload_n 0, 1) := by decide +kernel
theorem dL_isTheorem_249 : decode cL_isTheorem 249 = .ok (.iload 6, 2) := by decide +kernel
theorem dL_isTheorem_251 : decode cL_isTheorem 251 = .ok (.iconst 1, 1) := by decide +kernel
theorem dL_isTheorem_252 : decode cL_isTheorem 252 = .ok (.ishr, 1) := by decide +kernel
theorem dL_isTheorem_253 : decode cL_isTheorem 253 = .ok (.iconst 1, 1) := by decide +kernel
theorem dL_isTheorem_254 : decode cL_isTheorem 254 = .ok (.iload 8, 2) := by decide +kernel
theorem dL_isTheorem_256 : decode cL_isTheorem 256 = .ok (.ishl, 1) := by decide +kernel
theorem dL_isTheorem_257 : decode cL_isTheorem 257 = .ok (.ior, 1) := by decide +kernel
theorem dL_isTheorem_258 : decode cL_isTheorem 258 = .ok (.invokevirtual 90, 3) := by decide +kernel
theorem dL_isTheorem_261 : decode cL_isTheorem 261 = .ok (.iconst (-1), 1) := by decide +kernel
theorem dL_isTheorem_262 : decode cL_isTheorem 262 = .ok (.ixor, 1) := by decide +kernel
theorem dL_isTheorem_263 : decode cL_isTheorem 263 = .ok (.iand, 1) := by decide +kernel
theorem dL_isTheorem_264 : decode cL_isTheorem 264 = .ok (.ifCond .eq 5, 3) := by decide +kernel
theorem dL_isTheorem_267 : decode cL_isTheorem 267 = .ok (.iconst 0, 1) := by decide +kernel
theorem dL_isTheorem_268 : decode cL_isTheorem 268 = .ok (.ireturn, 1) := by decide +kernel
theorem dL_isTheorem_269 : decode cL_isTheorem 269 = .ok (.iinc 8 1, 3) := by decide +kernel
theorem dL_isTheorem_272 : decode cL_isTheorem 272 = .ok (.goto (-81), 3) := by decide +kernel
theorem dL_isTheorem_275 : decode cL_isTheorem 275 = .ok (.aload_n 0, 1) := by decide +kernel
theorem dL_isTheorem_276 : decode cL_isTheorem 276 = .ok (.invokevirtual 111, 3) := by decide +kernel
theorem dL_isTheorem_279 : decode cL_isTheorem 279 = .ok (.istore 8, 2) := by decide +kernel
theorem dL_isTheorem_281 : decode cL_isTheorem 281 = .ok (.iload 8, 2) := by decide +kernel
theorem dL_isTheorem_283 : decode cL_isTheorem 283 = .ok (.iconst (-1), 1) := by decide +kernel
theorem dL_isTheorem_284 : decode cL_isTheorem 284 = .ok (.if_icmp .eq 26, 3) := by decide +kernel
theorem dL_isTheorem_287 : decode cL_isTheorem 287 = .ok (.iload 6, 2) := by decide +kernel
theorem dL_isTheorem_289 : decode cL_isTheorem 289 = .ok (.iload 8, 2) := by decide +kernel
theorem dL_isTheorem_291 : decode cL_isTheorem 291 = .ok (.ishr, 1) := by decide +kernel
theorem dL_isTheorem_292 : decode cL_isTheorem 292 = .ok (.iconst 1, 1) := by decide +kernel
theorem dL_isTheorem_293 : decode cL_isTheorem 293 = .ok (.iand, 1) := by decide +kernel
theorem dL_isTheorem_294 : decode cL_isTheorem 294 = .ok (.ifCond .eq 14, 3) := by decide +kernel
theorem dL_isTheorem_297 : decode cL_isTheorem 297 = .ok (.aload_n 0, 1) := by decide +kernel
theorem dL_isTheorem_298 : decode cL_isTheorem 298 = .ok (.iload 8, 2) := by decide +kernel
theorem dL_isTheorem_300 : decode cL_isTheorem 300 = .ok (.iconst 1, 1) := by decide +kernel
theorem dL_isTheorem_301 : decode cL_isTheorem 301 = .ok (.invokevirtual 75, 3) := by decide +kernel
theorem dL_isTheorem_304 : decode cL_isTheorem 304 = .ok (.iconst 1, 1) := by decide +kernel
theorem dL_isTheorem_305 : decode cL_isTheorem 305 = .ok (.if_icmp .ne 5, 3) := by decide +kernel
theorem dL_isTheorem_308 : decode cL_isTheorem 308 = .ok (.iconst 0, 1) := by decide +kernel
theorem dL_isTheorem_309 : decode cL_isTheorem 309 = .ok (.ireturn, 1) := by decide +kernel
theorem dL_isTheorem_310 : decode cL_isTheorem 310 = .ok (.aload_n 0, 1) := by decide +kernel
theorem dL_isTheorem_311 : decode cL_isTheorem 311 = .ok (.invokevirtual 97, 3) := by decide +kernel
theorem dL_isTheorem_314 : decode cL_isTheorem 314 = .ok (.lload_n 2, 1) := by decide +kernel
theorem dL_isTheorem_315 : decode cL_isTheorem 315 = .ok (.lcmp, 1) := by decide +kernel
theorem dL_isTheorem_316 : decode cL_isTheorem 316 = .ok (.ifCond .ne 7, 3) := by decide +kernel
theorem dL_isTheorem_319 : decode cL_isTheorem 319 = .ok (.iconst 1, 1) := by decide +kernel
theorem dL_isTheorem_320 : decode cL_isTheorem 320 = .ok (.goto 4, 3) := by decide +kernel
theorem dL_isTheorem_323 : decode cL_isTheorem 323 = .ok (.iconst 0, 1) := by decide +kernel
theorem dL_isTheorem_324 : decode cL_isTheorem 324 = .ok (.ireturn, 1) := by decide +kernel
