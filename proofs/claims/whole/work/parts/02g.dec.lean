theorem dX12_start_98 : decode cX12_start 98 = .ok (.getfield 9, 3) := by decide +kernel
theorem dX12_start_101 : decode cX12_start 101 = .ok (.iconst 3, 1) := by decide +kernel
theorem dX12_start_102 : decode cX12_start 102 = .ok (.iload 7, 2) := by decide +kernel
theorem dX12_start_104 : decode cX12_start 104 = .ok (.bipush 7, 2) := by decide +kernel
theorem dX12_start_106 : decode cX12_start 106 = .ok (.irem, 1) := by decide +kernel
theorem dX12_start_107 : decode cX12_start 107 = .ok (.iastore, 1) := by decide +kernel
theorem dX12_start_108 : decode cX12_start 108 = .ok (.aload_n 0, 1) := by decide +kernel
theorem dX12_start_109 : decode cX12_start 109 = .ok (.invokevirtual 234, 3) := by decide +kernel
theorem dX12_start_112 : decode cX12_start 112 = .ok (.iload_n 3, 1) := by decide +kernel
theorem dX12_start_113 : decode cX12_start 113 = .ok (.if_icmp .ne 60, 3) := by decide +kernel
theorem dX12_start_116 : decode cX12_start 116 = .ok (.aload_n 0, 1) := by decide +kernel
theorem dX12_start_117 : decode cX12_start 117 = .ok (.iload_n 1, 1) := by decide +kernel
theorem dX12_start_118 : decode cX12_start 118 = .ok (.invokevirtual 215, 3) := by decide +kernel
theorem dX12_start_121 : decode cX12_start 121 = .ok (.lstore 8, 2) := by decide +kernel
theorem dX12_start_123 : decode cX12_start 123 = .ok (.iload 4, 2) := by decide +kernel
theorem dX12_start_125 : decode cX12_start 125 = .ok (.bipush (-5), 2) := by decide +kernel
theorem dX12_start_127 : decode cX12_start 127 = .ok (.if_icmp .eq 11, 3) := by decide +kernel
theorem dX12_start_130 : decode cX12_start 130 = .ok (.lload 8, 2) := by decide +kernel
theorem dX12_start_132 : decode cX12_start 132 = .ok (.lload 5, 2) := by decide +kernel
theorem dX12_start_134 : decode cX12_start 134 = .ok (.lcmp, 1) := by decide +kernel
theorem dX12_start_135 : decode cX12_start 135 = .ok (.ifCond .ge 7, 3) := by decide +kernel
theorem dX12_start_138 : decode cX12_start 138 = .ok (.iconst 1, 1) := by decide +kernel
theorem dX12_start_139 : decode cX12_start 139 = .ok (.goto 4, 3) := by decide +kernel
theorem dX12_start_142 : decode cX12_start 142 = .ok (.iconst 0, 1) := by decide +kernel
theorem dX12_start_143 : decode cX12_start 143 = .ok (.istore 10, 2) := by decide +kernel
theorem dX12_start_145 : decode cX12_start 145 = .ok (.iload 10, 2) := by decide +kernel
theorem dX12_start_147 : decode cX12_start 147 = .ok (.ifCond .eq 8, 3) := by decide +kernel
theorem dX12_start_150 : decode cX12_start 150 = .ok (.iload 7, 2) := by decide +kernel
theorem dX12_start_152 : decode cX12_start 152 = .ok (.goto 5, 3) := by decide +kernel
theorem dX12_start_155 : decode cX12_start 155 = .ok (.iload 4, 2) := by decide +kernel
theorem dX12_start_157 : decode cX12_start 157 = .ok (.istore 4, 2) := by decide +kernel
theorem dX12_start_159 : decode cX12_start 159 = .ok (.iload 10, 2) := by decide +kernel
theorem dX12_start_161 : decode cX12_start 161 = .ok (.ifCond .eq 8, 3) := by decide +kernel
theorem dX12_start_164 : decode cX12_start 164 = .ok (.lload 8, 2) := by decide +kernel
theorem dX12_start_166 : decode cX12_start 166 = .ok (.goto 5, 3) := by decide +kernel
theorem dX12_start_169 : decode cX12_start 169 = .ok (.lload 5, 2) := by decide +kernel
theorem dX12_start_171 : decode cX12_start 171 = .ok (.lstore 5, 2) := by decide +kernel
theorem dX12_start_173 : decode cX12_start 173 = .ok (.iinc 7 1, 3) := by decide +kernel
theorem dX12_start_176 : decode cX12_start 176 = .ok (.goto (-127), 3) := by decide +kernel
theorem dX12_start_179 : decode cX12_start 179 = .ok (.aload_n 0, 1) := by decide +kernel
theorem dX12_start_180 : decode cX12_start 180 = .ok (.invokevirtual 231, 3) := by decide +kernel
theorem dX12_start_183 : decode cX12_start 183 = .ok (.iload_n 2, 1) := by decide +kernel
theorem dX12_start_184 : decode cX12_start 184 = .ok (.ifCond .ne 12, 3) := by decide +kernel
theorem dX12_start_187 : decode cX12_start 187 = .ok (.iload 4, 2) := by decide +kernel
theorem dX12_start_189 : decode cX12_start 189 = .ok (.sipush 343, 3) := by decide +kernel
theorem dX12_start_192 : decode cX12_start 192 = .ok (.idiv, 1) := by decide +kernel
theorem dX12_start_193 : decode cX12_start 193 = .ok (.goto 40, 3) := by decide +kernel
theorem dX12_start_196 : decode cX12_start 196 = .ok (.iload_n 2, 1) := by decide +kernel
theorem dX12_start_197 : decode cX12_start 197 = .ok (.iconst 1, 1) := by decide +kernel
theorem dX12_start_198 : decode cX12_start 198 = .ok (.if_icmp .ne 14, 3) := by decide +kernel
theorem dX12_start_201 : decode cX12_start 201 = .ok (.iload 4, 2) := by decide +kernel
theorem dX12_start_203 : decode cX12_start 203 = .ok (.bipush 49, 2) := by decide +kernel
theorem dX12_start_205 : decode cX12_start 205 = .ok (.idiv, 1) := by decide +kernel
theorem dX12_start_206 : decode cX12_start 206 = .ok (.bipush 7, 2) := by decide +kernel
theorem dX12_start_208 : decode cX12_start 208 = .ok (.irem, 1) := by decide +kernel
theorem dX12_start_209 : decode cX12_start 209 = .ok (.goto 24, 3) := by decide +kernel
theorem dX12_start_212 : decode cX12_start 212 = .ok (.iload_n 2, 1) := by decide +kernel
theorem dX12_start_213 : decode cX12_start 213 = .ok (.iconst 2, 1) := by decide +kernel
theorem dX12_start_214 : decode cX12_start 214 = .ok (.if_icmp .ne 14, 3) := by decide +kernel
theorem dX12_start_217 : decode cX12_start 217 = .ok (.iload 4, 2) := by decide +kernel
theorem dX12_start_219 : decode cX12_start 219 = .ok (.bipush 7, 2) := by decide +kernel
theorem dX12_start_221 : decode cX12_start 221 = .ok (.idiv, 1) := by decide +kernel
theorem dX12_start_222 : decode cX12_start 222 = .ok (.bipush 7, 2) := by decide +kernel
theorem dX12_start_224 : decode cX12_start 224 = .ok (.irem, 1) := by decide +kernel
theorem dX12_start_225 : decode cX12_start 225 = .ok (.goto 8, 3) := by decide +kernel
theorem dX12_start_228 : decode cX12_start 228 = .ok (.iload 4, 2) := by decide +kernel
theorem dX12_start_230 : decode cX12_start 230 = .ok (.bipush 7, 2) := by decide +kernel
theorem dX12_start_232 : decode cX12_start 232 = .ok (.irem, 1) := by decide +kernel
theorem dX12_start_233 : decode cX12_start 233 = .ok (.ireturn, 1) := by decide +kernel
theorem dX12_rule_0 : decode cX12_rule 0 = .ok (.aload_n 0, 1) := by decide +kernel
theorem dX12_rule_1 : decode cX12_rule 1 = .ok (.iload_n 1, 1) := by decide +kernel
theorem dX12_rule_2 : decode cX12_rule 2 = .ok (.invokevirtual 163, 3) := by decide +kernel
theorem dX12_rule_5 : decode cX12_rule 5 = .ok (.ifCond .ne 5, 3) := by decide +kernel
theorem dX12_rule_8 : decode cX12_rule 8 = .ok (.iconst (-1), 1) := by decide +kernel
theorem dX12_rule_9 : decode cX12_rule 9 = .ok (.ireturn, 1) := by decide +kernel
theorem dX12_rule_10 : decode cX12_rule 10 = .ok (.iload_n 2, 1) := by decide +kernel
theorem dX12_rule_11 : decode cX12_rule 11 = .ok (.iconst 1, 1) := by decide +kernel
theorem dX12_rule_12 : decode cX12_rule 12 = .ok (.bipush 6, 2) := by decide +kernel
theorem dX12_rule_14 : decode cX12_rule 14 = .ok (.invokestatic 51, 3) := by decide +kernel
theorem dX12_rule_17 : decode cX12_rule 17 = .ok (.ifCond .ne 6, 3) := by decide +kernel
theorem dX12_rule_20 : decode cX12_rule 20 = .ok (.bipush (-2), 2) := by decide +kernel
theorem dX12_rule_22 : decode cX12_rule 22 = .ok (.ireturn, 1) := by decide +kernel
theorem dX12_rule_23 : decode cX12_rule 23 = .ok (.aload_n 0, 1) := by decide +kernel
theorem dX12_rule_24 : decode cX12_rule 24 = .ok (.getfield 9, 3) := by decide +kernel
theorem dX12_rule_27 : decode cX12_rule 27 = .ok (.sipush 156, 3) := by decide +kernel
theorem dX12_rule_30 : decode cX12_rule 30 = .ok (.iload_n 1, 1) := by decide +kernel
theorem dX12_rule_31 : decode cX12_rule 31 = .ok (.iadd, 1) := by decide +kernel
theorem dX12_rule_32 : decode cX12_rule 32 = .ok (.iaload, 1) := by decide +kernel
theorem dX12_rule_33 : decode cX12_rule 33 = .ok (.istore_n 3, 1) := by decide +kernel
theorem dX12_rule_34 : decode cX12_rule 34 = .ok (.iconst (-1), 1) := by decide +kernel
theorem dX12_rule_35 : decode cX12_rule 35 = .ok (.istore 4, 2) := by decide +kernel
theorem dX12_rule_37 : decode cX12_rule 37 = .ok (.lconst 0, 1) := by decide +kernel
theorem dX12_rule_38 : decode cX12_rule 38 = .ok (.lstore 5, 2) := by decide +kernel
theorem dX12_rule_40 : decode cX12_rule 40 = .ok (.iconst 0, 1) := by decide +kernel
theorem dX12_rule_41 : decode cX12_rule 41 = .ok (.istore 7, 2) := by decide +kernel
theorem dX12_rule_43 : decode cX12_rule 43 = .ok (.iload 7, 2) := by decide +kernel
theorem dX12_rule_45 : decode cX12_rule 45 = .ok (.bipush 10, 2) := by decide +kernel
theorem dX12_rule_47 : decode cX12_rule 47 = .ok (.if_icmp .ge 77, 3) := by decide +kernel
theorem dX12_rule_50 : decode cX12_rule 50 = .ok (.aload_n 0, 1) := by decide +kernel
theorem dX12_rule_51 : decode cX12_rule 51 = .ok (.getfield 9, 3) := by decide +kernel
theorem dX12_rule_54 : decode cX12_rule 54 = .ok (.sipush 156, 3) := by decide +kernel
theorem dX12_rule_57 : decode cX12_rule 57 = .ok (.iload_n 1, 1) := by decide +kernel
theorem dX12_rule_58 : decode cX12_rule 58 = .ok (.iadd, 1) := by decide +kernel
theorem dX12_rule_59 : decode cX12_rule 59 = .ok (.iload 7, 2) := by decide +kernel
theorem dX12_rule_61 : decode cX12_rule 61 = .ok (.iastore, 1) := by decide +kernel
theorem dX12_rule_62 : decode cX12_rule 62 = .ok (.aload_n 0, 1) := by decide +kernel
theorem dX12_rule_63 : decode cX12_rule 63 = .ok (.iload_n 2, 1) := by decide +kernel
theorem dX12_rule_64 : decode cX12_rule 64 = .ok (.invokevirtual 215, 3) := by decide +kernel
theorem dX12_rule_67 : decode cX12_rule 67 = .ok (.lstore 8, 2) := by decide +kernel
theorem dX12_rule_69 : decode cX12_rule 69 = .ok (.iload 4, 2) := by decide +kernel
theorem dX12_rule_71 : decode cX12_rule 71 = .ok (.iconst (-1), 1) := by decide +kernel
theorem dX12_rule_72 : decode cX12_rule 72 = .ok (.if_icmp .eq 11, 3) := by decide +kernel
theorem dX12_rule_75 : decode cX12_rule 75 = .ok (.lload 8, 2) := by decide +kernel
theorem dX12_rule_77 : decode cX12_rule 77 = .ok (.lload 5, 2) := by decide +kernel
theorem dX12_rule_79 : decode cX12_rule 79 = .ok (.lcmp, 1) := by decide +kernel
theorem dX12_rule_80 : decode cX12_rule 80 = .ok (.ifCond .ge 7, 3) := by decide +kernel
theorem dX12_rule_83 : decode cX12_rule 83 = .ok (.iconst 1, 1) := by decide +kernel
theorem dX12_rule_84 : decode cX12_rule 84 = .ok (.goto 4, 3) := by decide +kernel
theorem dX12_rule_87 : decode cX12_rule 87 = .ok (.iconst 0, 1) := by decide +kernel
theorem dX12_rule_88 : decode cX12_rule 88 = .ok (.istore 10, 2) := by decide +kernel
theorem dX12_rule_90 : decode cX12_rule 90 = .ok (.iload 10, 2) := by decide +kernel
theorem dX12_rule_92 : decode cX12_rule 92 = .ok (.ifCond .eq 8, 3) := by decide +kernel
theorem dX12_rule_95 : decode cX12_rule 95 = .ok (.iload 7, 2) := by decide +kernel
theorem dX12_rule_97 : decode cX12_rule 97 = .ok (.goto 5, 3) := by decide +kernel
theorem dX12_rule_100 : decode cX12_rule 100 = .ok (.iload 4, 2) := by decide +kernel
theorem dX12_rule_102 : decode cX12_rule 102 = .ok (.istore 4, 2) := by decide +kernel
theorem dX12_rule_104 : decode cX12_rule 104 = .ok (.iload 10, 2) := by decide +kernel
theorem dX12_rule_106 : decode cX12_rule 106 = .ok (.ifCond .eq 8, 3) := by decide +kernel
theorem dX12_rule_109 : decode cX12_rule 109 = .ok (.lload 8, 2) := by decide +kernel
theorem dX12_rule_111 : decode cX12_rule 111 = .ok (.goto 5, 3) := by decide +kernel
theorem dX12_rule_114 : decode cX12_rule 114 = .ok (.lload 5, 2) := by decide +kernel
theorem dX12_rule_116 : decode cX12_rule 116 = .ok (.lstore 5, 2) := by decide +kernel
theorem dX12_rule_118 : decode cX12_rule 118 = .ok (.iinc 7 1, 3) := by decide +kernel
theorem dX12_rule_121 : decode cX12_rule 121 = .ok (.goto (-78), 3) := by decide +kernel
theorem dX12_rule_124 : decode cX12_rule 124 = .ok (.aload_n 0, 1) := by decide +kernel
theorem dX12_rule_125 : decode cX12_rule 125 = .ok (.getfield 9, 3) := by decide +kernel
theorem dX12_rule_128 : decode cX12_rule 128 = .ok (.sipush 156, 3) := by decide +kernel
theorem dX12_rule_131 : decode cX12_rule 131 = .ok (.iload_n 1, 1) := by decide +kernel
theorem dX12_rule_132 : decode cX12_rule 132 = .ok (.iadd, 1) := by decide +kernel
theorem dX12_rule_133 : decode cX12_rule 133 = .ok (.iload_n 3, 1) := by decide +kernel
theorem dX12_rule_134 : decode cX12_rule 134 = .ok (.iastore, 1) := by decide +kernel
theorem dX12_rule_135 : decode cX12_rule 135 = .ok (.iload 4, 2) := by decide +kernel
theorem dX12_rule_137 : decode cX12_rule 137 = .ok (.ireturn, 1) := by decide +kernel
theorem dX12_gather_0 : decode cX12_gather 0 = .ok (.iload_n 1, 1) := by decide +kernel
theorem dX12_gather_1 : decode cX12_gather 1 = .ok (.iconst 1, 1) := by decide +kernel
theorem dX12_gather_2 : decode cX12_gather 2 = .ok (.bipush 6, 2) := by decide +kernel
theorem dX12_gather_4 : decode cX12_gather 4 = .ok (.invokestatic 51, 3) := by decide +kernel
theorem dX12_gather_7 : decode cX12_gather 7 = .ok (.ifCond .ne 6, 3) := by decide +kernel
theorem dX12_gather_10 : decode cX12_gather 10 = .ok (.bipush (-2), 2) := by decide +kernel
theorem dX12_gather_12 : decode cX12_gather 12 = .ok (.ireturn, 1) := by decide +kernel
theorem dX12_gather_13 : decode cX12_gather 13 = .ok (.aload_n 0, 1) := by decide +kernel
theorem dX12_gather_14 : decode cX12_gather 14 = .ok (.iload_n 1, 1) := by decide +kernel
theorem dX12_gather_15 : decode cX12_gather 15 = .ok (.invokevirtual 215, 3) := by decide +kernel
theorem dX12_gather_18 : decode cX12_gather 18 = .ok (.lstore_n 2, 1) := by decide +kernel
theorem dX12_gather_19 : decode cX12_gather 19 = .ok (.iconst 0, 1) := by decide +kernel
theorem dX12_gather_20 : decode cX12_gather 20 = .ok (.istore 4, 2) := by decide +kernel
theorem dX12_gather_22 : decode cX12_gather 22 = .ok (.iconst 1, 1) := by decide +kernel
theorem dX12_gather_23 : decode cX12_gather 23 = .ok (.istore 5, 2) := by decide +kernel
theorem dX12_gather_25 : decode cX12_gather 25 = .ok (.iload 5, 2) := by decide +kernel
theorem dX12_gather_27 : decode cX12_gather 27 = .ok (.iconst 4, 1) := by decide +kernel
theorem dX12_gather_28 : decode cX12_gather 28 = .ok (.if_icmp .ge 36, 3) := by decide +kernel
theorem dX12_gather_31 : decode cX12_gather 31 = .ok (.aload_n 0, 1) := by decide +kernel
theorem dX12_gather_32 : decode cX12_gather 32 = .ok (.getfield 37, 3) := by decide +kernel
theorem dX12_gather_35 : decode cX12_gather 35 = .ok (.iload 5, 2) := by decide +kernel
theorem dX12_gather_37 : decode cX12_gather 37 = .ok (.laload, 1) := by decide +kernel
theorem dX12_gather_38 : decode cX12_gather 38 = .ok (.aload_n 0, 1) := by decide +kernel
theorem dX12_gather_39 : decode cX12_gather 39 = .ok (.getfield 37, 3) := by decide +kernel
theorem dX12_gather_42 : decode cX12_gather 42 = .ok (.iload 4, 2) := by decide +kernel
theorem dX12_gather_44 : decode cX12_gather 44 = .ok (.laload, 1) := by decide +kernel
theorem dX12_gather_45 : decode cX12_gather 45 = .ok (.lcmp, 1) := by decide +kernel
theorem dX12_gather_46 : decode cX12_gather 46 = .ok (.ifCond .le 8, 3) := by decide +kernel
theorem dX12_gather_49 : decode cX12_gather 49 = .ok (.iload 5, 2) := by decide +kernel
theorem dX12_gather_51 : decode cX12_gather 51 = .ok (.goto 5, 3) := by decide +kernel
theorem dX12_gather_54 : decode cX12_gather 54 = .ok (.iload 4, 2) := by decide +kernel
theorem dX12_gather_56 : decode cX12_gather 56 = .ok (.istore 4, 2) := by decide +kernel
theorem dX12_gather_58 : decode cX12_gather 58 = .ok (.iinc 5 1, 3) := by decide +kernel
theorem dX12_gather_61 : decode cX12_gather 61 = .ok (.goto (-36), 3) := by decide +kernel
theorem dX12_gather_64 : decode cX12_gather 64 = .ok (.iload 4, 2) := by decide +kernel
theorem dX12_gather_66 : decode cX12_gather 66 = .ok (.ireturn, 1) := by decide +kernel
theorem dX12_penny_0 : decode cX12_penny 0 = .ok (.aload_n 0, 1) := by decide +kernel
theorem dX12_penny_1 : decode cX12_penny 1 = .ok (.iload_n 1, 1) := by decide +kernel
theorem dX12_penny_2 : decode cX12_penny 2 = .ok (.invokevirtual 163, 3) := by decide +kernel
theorem dX12_penny_5 : decode cX12_penny 5 = .ok (.ifCond .eq 22, 3) := by decide +kernel
theorem dX12_penny_8 : decode cX12_penny 8 = .ok (.iload_n 2, 1) := by decide +kernel
theorem dX12_penny_9 : decode cX12_penny 9 = .ok (.iconst 1, 1) := by decide +kernel
theorem dX12_penny_10 : decode cX12_penny 10 = .ok (.bipush 6, 2) := by decide +kernel
theorem dX12_penny_12 : decode cX12_penny 12 = .ok (.invokestatic 51, 3) := by decide +kernel
theorem dX12_penny_15 : decode cX12_penny 15 = .ok (.ifCond .eq 12, 3) := by decide +kernel
theorem dX12_penny_18 : decode cX12_penny 18 = .ok (.iload_n 3, 1) := by decide +kernel
theorem dX12_penny_19 : decode cX12_penny 19 = .ok (.iconst 0, 1) := by decide +kernel
theorem dX12_penny_20 : decode cX12_penny 20 = .ok (.iconst 1, 1) := by decide +kernel
theorem dX12_penny_21 : decode cX12_penny 21 = .ok (.invokestatic 51, 3) := by decide +kernel
theorem dX12_penny_24 : decode cX12_penny 24 = .ok (.ifCond .ne 7, 3) := by decide +kernel
theorem dX12_penny_27 : decode cX12_penny 27 = .ok (.ldc2_w 213, 3) := by decide +kernel
theorem dX12_penny_30 : decode cX12_penny 30 = .ok (.lreturn, 1) := by decide +kernel
theorem dX12_penny_31 : decode cX12_penny 31 = .ok (.aload_n 0, 1) := by decide +kernel
theorem dX12_penny_32 : decode cX12_penny 32 = .ok (.iload_n 2, 1) := by decide +kernel
theorem dX12_penny_33 : decode cX12_penny 33 = .ok (.invokevirtual 215, 3) := by decide +kernel
theorem dX12_penny_36 : decode cX12_penny 36 = .ok (.lstore 4, 2) := by decide +kernel
theorem dX12_penny_38 : decode cX12_penny 38 = .ok (.aload_n 0, 1) := by decide +kernel
theorem dX12_penny_39 : decode cX12_penny 39 = .ok (.getfield 9, 3) := by decide +kernel
theorem dX12_penny_42 : decode cX12_penny 42 = .ok (.sipush 150, 3) := by decide +kernel
theorem dX12_penny_45 : decode cX12_penny 45 = .ok (.iload_n 1, 1) := by decide +kernel
theorem dX12_penny_46 : decode cX12_penny 46 = .ok (.iadd, 1) := by decide +kernel
theorem dX12_penny_47 : decode cX12_penny 47 = .ok (.iaload, 1) := by decide +kernel
theorem dX12_penny_48 : decode cX12_penny 48 = .ok (.istore 6, 2) := by decide +kernel
theorem dX12_penny_50 : decode cX12_penny 50 = .ok (.aload_n 0, 1) := by decide +kernel
theorem dX12_penny_51 : decode cX12_penny 51 = .ok (.getfield 9, 3) := by decide +kernel
theorem dX12_penny_54 : decode cX12_penny 54 = .ok (.sipush 150, 3) := by decide +kernel
theorem dX12_penny_57 : decode cX12_penny 57 = .ok (.iload_n 1, 1) := by decide +kernel
theorem dX12_penny_58 : decode cX12_penny 58 = .ok (.iadd, 1) := by decide +kernel
theorem dX12_penny_59 : decode cX12_penny 59 = .ok (.iconst 4, 1) := by decide +kernel
theorem dX12_penny_60 : decode cX12_penny 60 = .ok (.iastore, 1) := by decide +kernel
theorem dX12_penny_61 : decode cX12_penny 61 = .ok (.aload_n 0, 1) := by decide +kernel
theorem dX12_penny_62 : decode cX12_penny 62 = .ok (.iload_n 2, 1) := by decide +kernel
theorem dX12_penny_63 : decode cX12_penny 63 = .ok (.invokevirtual 215, 3) := by decide +kernel
theorem dX12_penny_66 : decode cX12_penny 66 = .ok (.lstore 7, 2) := by decide +kernel
theorem dX12_penny_68 : decode cX12_penny 68 = .ok (.aload_n 0, 1) := by decide +kernel
theorem dX12_penny_69 : decode cX12_penny 69 = .ok (.getfield 9, 3) := by decide +kernel
theorem dX12_penny_72 : decode cX12_penny 72 = .ok (.sipush 150, 3) := by decide +kernel
theorem dX12_penny_75 : decode cX12_penny 75 = .ok (.iload_n 1, 1) := by decide +kernel
theorem dX12_penny_76 : decode cX12_penny 76 = .ok (.iadd, 1) := by decide +kernel
theorem dX12_penny_77 : decode cX12_penny 77 = .ok (.iload 6, 2) := by decide +kernel
theorem dX12_penny_79 : decode cX12_penny 79 = .ok (.iastore, 1) := by decide +kernel
theorem dX12_penny_80 : decode cX12_penny 80 = .ok (.lload 4, 2) := by decide +kernel
theorem dX12_penny_82 : decode cX12_penny 82 = .ok (.lload 7, 2) := by decide +kernel
theorem dX12_penny_84 : decode cX12_penny 84 = .ok (.lsub, 1) := by decide +kernel
theorem dX12_penny_85 : decode cX12_penny 85 = .ok (.iload_n 2, 1) := by decide +kernel
theorem dX12_penny_86 : decode cX12_penny 86 = .ok (.invokestatic 219, 3) := by decide +kernel
theorem dX12_penny_89 : decode cX12_penny 89 = .ok (.iload_n 3, 1) := by decide +kernel
theorem dX12_penny_90 : decode cX12_penny 90 = .ok (.invokestatic 222, 3) := by decide +kernel
theorem dX12_penny_93 : decode cX12_penny 93 = .ok (.lreturn, 1) := by decide +kernel
theorem dX12_cart_0 : decode cX12_cart 0 = .ok (.iconst 0, 1) := by decide +kernel
theorem dX12_cart_1 : decode cX12_cart 1 = .ok (.istore_n 1, 1) := by decide +kernel
theorem dX12_cart_2 : decode cX12_cart 2 = .ok (.iconst 0, 1) := by decide +kernel
theorem dX12_cart_3 : decode cX12_cart 3 = .ok (.istore_n 2, 1) := by decide +kernel
theorem dX12_cart_4 : decode cX12_cart 4 = .ok (.iconst 1, 1) := by decide +kernel
theorem dX12_cart_5 : decode cX12_cart 5 = .ok (.istore_n 3, 1) := by decide +kernel
theorem dX12_cart_6 : decode cX12_cart 6 = .ok (.iload_n 3, 1) := by decide +kernel
theorem dX12_cart_7 : decode cX12_cart 7 = .ok (.iconst 4, 1) := by decide +kernel
theorem dX12_cart_8 : decode cX12_cart 8 = .ok (.if_icmp .ge 59, 3) := by decide +kernel
theorem dX12_cart_11 : decode cX12_cart 11 = .ok (.aload_n 0, 1) := by decide +kernel
theorem dX12_cart_12 : decode cX12_cart 12 = .ok (.getfield 9, 3) := by decide +kernel
theorem dX12_cart_15 : decode cX12_cart 15 = .ok (.iconst 0, 1) := by decide +kernel
theorem dX12_cart_16 : decode cX12_cart 16 = .ok (.iload_n 3, 1) := by decide +kernel
theorem dX12_cart_17 : decode cX12_cart 17 = .ok (.iadd, 1) := by decide +kernel
theorem dX12_cart_18 : decode cX12_cart 18 = .ok (.iaload, 1) := by decide +kernel
theorem dX12_cart_19 : decode cX12_cart 19 = .ok (.aload_n 0, 1) := by decide +kernel
theorem dX12_cart_20 : decode cX12_cart 20 = .ok (.getfield 9, 3) := by decide +kernel
theorem dX12_cart_23 : decode cX12_cart 23 = .ok (.iconst 0, 1) := by decide +kernel
theorem dX12_cart_24 : decode cX12_cart 24 = .ok (.iload_n 1, 1) := by decide +kernel
theorem dX12_cart_25 : decode cX12_cart 25 = .ok (.iadd, 1) := by decide +kernel
theorem dX12_cart_26 : decode cX12_cart 26 = .ok (.iaload, 1) := by decide +kernel
theorem dX12_cart_27 : decode cX12_cart 27 = .ok (.if_icmp .le 7, 3) := by decide +kernel
theorem dX12_cart_30 : decode cX12_cart 30 = .ok (.iload_n 3, 1) := by decide +kernel
theorem dX12_cart_31 : decode cX12_cart 31 = .ok (.goto 4, 3) := by decide +kernel
theorem dX12_cart_34 : decode cX12_cart 34 = .ok (.iload_n 1, 1) := by decide +kernel
theorem dX12_cart_35 : decode cX12_cart 35 = .ok (.istore_n 1, 1) := by decide +kernel
theorem dX12_cart_36 : decode cX12_cart 36 = .ok (.aload_n 0, 1) := by decide +kernel
theorem dX12_cart_37 : decode cX12_cart 37 = .ok (.getfield 9, 3) := by decide +kernel
theorem dX12_cart_40 : decode cX12_cart 40 = .ok (.iconst 0, 1) := by decide +kernel
theorem dX12_cart_41 : decode cX12_cart 41 = .ok (.iload_n 3, 1) := by decide +kernel
theorem dX12_cart_42 : decode cX12_cart 42 = .ok (.iadd, 1) := by decide +kernel
theorem dX12_cart_43 : decode cX12_cart 43 = .ok (.iaload, 1) := by decide +kernel
theorem dX12_cart_44 : decode cX12_cart 44 = .ok (.aload_n 0, 1) := by decide +kernel
theorem dX12_cart_45 : decode cX12_cart 45 = .ok (.getfield 9, 3) := by decide +kernel
theorem dX12_cart_48 : decode cX12_cart 48 = .ok (.iconst 0, 1) := by decide +kernel
theorem dX12_cart_49 : decode cX12_cart 49 = .ok (.iload_n 2, 1) := by decide +kernel
theorem dX12_cart_50 : decode cX12_cart 50 = .ok (.iadd, 1) := by decide +kernel
theorem dX12_cart_51 : decode cX12_cart 51 = .ok (.iaload, 1) := by decide +kernel
theorem dX12_cart_52 : decode cX12_cart 52 = .ok (.if_icmp .ge 7, 3) := by decide +kernel
theorem dX12_cart_55 : decode cX12_cart 55 = .ok (.iload_n 3, 1) := by decide +kernel
theorem dX12_cart_56 : decode cX12_cart 56 = .ok (.goto 4, 3) := by decide +kernel
theorem dX12_cart_59 : decode cX12_cart 59 = .ok (.iload_n 2, 1) := by decide +kernel
theorem dX12_cart_60 : decode cX12_cart 60 = .ok (.istore_n 2, 1) := by decide +kernel
theorem dX12_cart_61 : decode cX12_cart 61 = .ok (.iinc 3 1, 3) := by decide +kernel
theorem dX12_cart_64 : decode cX12_cart 64 = .ok (.goto (-58), 3) := by decide +kernel
theorem dX12_cart_67 : decode cX12_cart 67 = .ok (.iload_n 1, 1) := by decide +kernel
theorem dX12_cart_68 : decode cX12_cart 68 = .ok (.iload_n 2, 1) := by decide +kernel
theorem dX12_cart_69 : decode cX12_cart 69 = .ok (.if_icmp .ne 7, 3) := by decide +kernel
theorem dX12_cart_72 : decode cX12_cart 72 = .ok (.iconst 0, 1) := by decide +kernel
theorem dX12_cart_73 : decode cX12_cart 73 = .ok (.goto 11, 3) := by decide +kernel
theorem dX12_cart_76 : decode cX12_cart 76 = .ok (.aload_n 0, 1) := by decide +kernel
theorem dX12_cart_77 : decode cX12_cart 77 = .ok (.sipush 230, 3) := by decide +kernel
theorem dX12_cart_80 : decode cX12_cart 80 = .ok (.iconst 2, 1) := by decide +kernel
theorem dX12_cart_81 : decode cX12_cart 81 = .ok (.invokevirtual 152, 3) := by decide +kernel
theorem dX12_cart_84 : decode cX12_cart 84 = .ok (.istore_n 3, 1) := by decide +kernel
theorem dX12_cart_85 : decode cX12_cart 85 = .ok (.iload_n 3, 1) := by decide +kernel
theorem dX12_cart_86 : decode cX12_cart 86 = .ok (.aload_n 0, 1) := by decide +kernel
theorem dX12_cart_87 : decode cX12_cart 87 = .ok (.getfield 9, 3) := by decide +kernel
theorem dX12_cart_90 : decode cX12_cart 90 = .ok (.iconst 0, 1) := by decide +kernel
theorem dX12_cart_91 : decode cX12_cart 91 = .ok (.iload_n 1, 1) := by decide +kernel
theorem dX12_cart_92 : decode cX12_cart 92 = .ok (.iadd, 1) := by decide +kernel
theorem dX12_cart_93 : decode cX12_cart 93 = .ok (.iaload, 1) := by decide +kernel
theorem dX12_cart_94 : decode cX12_cart 94 = .ok (.if_icmp .le 14, 3) := by decide +kernel
theorem dX12_cart_97 : decode cX12_cart 97 = .ok (.aload_n 0, 1) := by decide +kernel
theorem dX12_cart_98 : decode cX12_cart 98 = .ok (.getfield 9, 3) := by decide +kernel
theorem dX12_cart_101 : decode cX12_cart 101 = .ok (.iconst 0, 1) := by decide +kernel
theorem dX12_cart_102 : decode cX12_cart 102 = .ok (.iload_n 1, 1) := by decide +kernel
theorem dX12_cart_103 : decode cX12_cart 103 = .ok (.iadd, 1) := by decide +kernel
theorem dX12_cart_104 : decode cX12_cart 104 = .ok (.iaload, 1) := by decide +kernel
theorem dX12_cart_105 : decode cX12_cart 105 = .ok (.goto 4, 3) := by decide +kernel
theorem dX12_cart_108 : decode cX12_cart 108 = .ok (.iload_n 3, 1) := by decide +kernel
theorem dX12_cart_109 : decode cX12_cart 109 = .ok (.istore_n 3, 1) := by decide +kernel
theorem dX12_cart_110 : decode cX12_cart 110 = .ok (.iload_n 3, 1) := by decide +kernel
theorem dX12_cart_111 : decode cX12_cart 111 = .ok (.bipush 9, 2) := by decide +kernel
theorem dX12_cart_113 : decode cX12_cart 113 = .ok (.aload_n 0, 1) := by decide +kernel
theorem dX12_cart_114 : decode cX12_cart 114 = .ok (.getfield 9, 3) := by decide +kernel
theorem dX12_cart_117 : decode cX12_cart 117 = .ok (.iconst 0, 1) := by decide +kernel
theorem dX12_cart_118 : decode cX12_cart 118 = .ok (.iload_n 2, 1) := by decide +kernel
theorem dX12_cart_119 : decode cX12_cart 119 = .ok (.iadd, 1) := by decide +kernel
theorem dX12_cart_120 : decode cX12_cart 120 = .ok (.iaload, 1) := by decide +kernel
theorem dX12_cart_121 : decode cX12_cart 121 = .ok (.isub, 1) := by decide +kernel
theorem dX12_cart_122 : decode cX12_cart 122 = .ok (.if_icmp .le 17, 3) := by decide +kernel
theorem dX12_cart_125 : decode cX12_cart 125 = .ok (.bipush 9, 2) := by decide +kernel
theorem dX12_cart_127 : decode cX12_cart 127 = .ok (.aload_n 0, 1) := by decide +kernel
theorem dX12_cart_128 : decode cX12_cart 128 = .ok (.getfield 9, 3) := by decide +kernel
theorem dX12_cart_131 : decode cX12_cart 131 = .ok (.iconst 0, 1) := by decide +kernel
theorem dX12_cart_132 : decode cX12_cart 132 = .ok (.iload_n 2, 1) := by decide +kernel
theorem dX12_cart_133 : decode cX12_cart 133 = .ok (.iadd, 1) := by decide +kernel
theorem dX12_cart_134 : decode cX12_cart 134 = .ok (.iaload, 1) := by decide +kernel
theorem dX12_cart_135 : decode cX12_cart 135 = .ok (.isub, 1) := by decide +kernel
theorem dX12_cart_136 : decode cX12_cart 136 = .ok (.goto 4, 3) := by decide +kernel
theorem dX12_cart_139 : decode cX12_cart 139 = .ok (.iload_n 3, 1) := by decide +kernel
theorem dX12_cart_140 : decode cX12_cart 140 = .ok (.istore_n 3, 1) := by decide +kernel
theorem dX12_cart_141 : decode cX12_cart 141 = .ok (.aload_n 0, 1) := by decide +kernel
theorem dX12_cart_142 : decode cX12_cart 142 = .ok (.getfield 9, 3) := by decide +kernel
theorem dX12_cart_145 : decode cX12_cart 145 = .ok (.iconst 0, 1) := by decide +kernel
theorem dX12_cart_146 : decode cX12_cart 146 = .ok (.iload_n 1, 1) := by decide +kernel
theorem dX12_cart_147 : decode cX12_cart 147 = .ok (.iadd, 1) := by decide +kernel
theorem dX12_cart_148 : decode cX12_cart 148 = .ok (.dup2, 1) := by decide +kernel
theorem dX12_cart_149 : decode cX12_cart 149 = .ok (.iaload, 1) := by decide +kernel
theorem dX12_cart_150 : decode cX12_cart 150 = .ok (.iload_n 3, 1) := by decide +kernel
theorem dX12_cart_151 : decode cX12_cart 151 = .ok (.isub, 1) := by decide +kernel
theorem dX12_cart_152 : decode cX12_cart 152 = .ok (.iastore, 1) := by decide +kernel
theorem dX12_cart_153 : decode cX12_cart 153 = .ok (.aload_n 0, 1) := by decide +kernel
theorem dX12_cart_154 : decode cX12_cart 154 = .ok (.getfield 9, 3) := by decide +kernel
theorem dX12_cart_157 : decode cX12_cart 157 = .ok (.iconst 0, 1) := by decide +kernel
theorem dX12_cart_158 : decode cX12_cart 158 = .ok (.iload_n 2, 1) := by decide +kernel
theorem dX12_cart_159 : decode cX12_cart 159 = .ok (.iadd, 1) := by decide +kernel
theorem dX12_cart_160 : decode cX12_cart 160 = .ok (.dup2, 1) := by decide +kernel
theorem dX12_cart_161 : decode cX12_cart 161 = .ok (.iaload, 1) := by decide +kernel
theorem dX12_cart_162 : decode cX12_cart 162 = .ok (.iload_n 3, 1) := by decide +kernel
theorem dX12_cart_163 : decode cX12_cart 163 = .ok (.iadd, 1) := by decide +kernel
theorem dX12_cart_164 : decode cX12_cart 164 = .ok (.iastore, 1) := by decide +kernel
theorem dX12_cart_165 : decode cX12_cart 165 = .ok (.iload_n 3, 1) := by decide +kernel
theorem dX12_cart_166 : decode cX12_cart 166 = .ok (.ireturn, 1) := by decide +kernel
theorem dX12_count1_0 : decode cX12_count1 0 = .ok (.iconst 0, 1) := by decide +kernel
theorem dX12_count1_1 : decode cX12_count1 1 = .ok (.istore_n 1, 1) := by decide +kernel
theorem dX12_count1_2 : decode cX12_count1 2 = .ok (.iconst 0, 1) := by decide +kernel
theorem dX12_count1_3 : decode cX12_count1 3 = .ok (.istore_n 2, 1) := by decide +kernel
theorem dX12_count1_4 : decode cX12_count1 4 = .ok (.iload_n 2, 1) := by decide +kernel
theorem dX12_count1_5 : decode cX12_count1 5 = .ok (.bipush 12, 2) := by decide +kernel
theorem dX12_count1_7 : decode cX12_count1 7 = .ok (.if_icmp .ge 17, 3) := by decide +kernel
theorem dX12_count1_10 : decode cX12_count1 10 = .ok (.iload_n 1, 1) := by decide +kernel
theorem dX12_count1_11 : decode cX12_count1 11 = .ok (.iload_n 0, 1) := by decide +kernel
theorem dX12_count1_12 : decode cX12_count1 12 = .ok (.iload_n 2, 1) := by decide +kernel
theorem dX12_count1_13 : decode cX12_count1 13 = .ok (.ishr, 1) := by decide +kernel
theorem dX12_count1_14 : decode cX12_count1 14 = .ok (.iconst 1, 1) := by decide +kernel
theorem dX12_count1_15 : decode cX12_count1 15 = .ok (.iand, 1) := by decide +kernel
theorem dX12_count1_16 : decode cX12_count1 16 = .ok (.iadd, 1) := by decide +kernel
theorem dX12_count1_17 : decode cX12_count1 17 = .ok (.istore_n 1, 1) := by decide +kernel
theorem dX12_count1_18 : decode cX12_count1 18 = .ok (.iinc 2 1, 3) := by decide +kernel
theorem dX12_count1_21 : decode cX12_count1 21 = .ok (.goto (-17), 3) := by decide +kernel
theorem dX12_count1_24 : decode cX12_count1 24 = .ok (.iload_n 1, 1) := by decide +kernel
theorem dX12_count1_25 : decode cX12_count1 25 = .ok (.ireturn, 1) := by decide +kernel
theorem dX12_isDry_0 : decode cX12_isDry 0 = .ok (.aload_n 0, 1) := by decide +kernel
theorem dX12_isDry_1 : decode cX12_isDry 1 = .ok (.iconst 0, 1) := by decide +kernel
theorem dX12_isDry_2 : decode cX12_isDry 2 = .ok (.invokevirtual 190, 3) := by decide +kernel
theorem dX12_isDry_5 : decode cX12_isDry 5 = .ok (.iconst 0, 1) := by decide +kernel
theorem dX12_isDry_6 : decode cX12_isDry 6 = .ok (.istore_n 3, 1) := by decide +kernel
theorem dX12_isDry_7 : decode cX12_isDry 7 = .ok (.iload_n 3, 1) := by decide +kernel
theorem dX12_isDry_8 : decode cX12_isDry 8 = .ok (.iload_n 2, 1) := by decide +kernel
theorem dX12_isDry_9 : decode cX12_isDry 9 = .ok (.if_icmp .ge 42, 3) := by decide +kernel
theorem dX12_isDry_12 : decode cX12_isDry 12 = .ok (.iload_n 1, 1) := by decide +kernel
theorem dX12_isDry_13 : decode cX12_isDry 13 = .ok (.iload_n 3, 1) := by decide +kernel
theorem dX12_isDry_14 : decode cX12_isDry 14 = .ok (.ishr, 1) := by decide +kernel
theorem dX12_isDry_15 : decode cX12_isDry 15 = .ok (.iconst 1, 1) := by decide +kernel
theorem dX12_isDry_16 : decode cX12_isDry 16 = .ok (.iand, 1) := by decide +kernel
theorem dX12_isDry_17 : decode cX12_isDry 17 = .ok (.iconst 1, 1) := by decide +kernel
theorem dX12_isDry_18 : decode cX12_isDry 18 = .ok (.if_icmp .ne 10, 3) := by decide +kernel
theorem dX12_isDry_21 : decode cX12_isDry 21 = .ok (.aload_n 0, 1) := by decide +kernel
theorem dX12_isDry_22 : decode cX12_isDry 22 = .ok (.invokevirtual 237, 3) := by decide +kernel
theorem dX12_isDry_25 : decode cX12_isDry 25 = .ok (.goto 4, 3) := by decide +kernel
theorem dX12_isDry_28 : decode cX12_isDry 28 = .ok (.iconst 0, 1) := by decide +kernel
theorem dX12_isDry_29 : decode cX12_isDry 29 = .ok (.istore 4, 2) := by decide +kernel
theorem dX12_isDry_31 : decode cX12_isDry 31 = .ok (.aload_n 0, 1) := by decide +kernel
theorem dX12_isDry_32 : decode cX12_isDry 32 = .ok (.aload_n 0, 1) := by decide +kernel
theorem dX12_isDry_33 : decode cX12_isDry 33 = .ok (.getfield 9, 3) := by decide +kernel
theorem dX12_isDry_36 : decode cX12_isDry 36 = .ok (.sipush 180, 3) := by decide +kernel
theorem dX12_isDry_39 : decode cX12_isDry 39 = .ok (.iload_n 3, 1) := by decide +kernel
theorem dX12_isDry_40 : decode cX12_isDry 40 = .ok (.iadd, 1) := by decide +kernel
theorem dX12_isDry_41 : decode cX12_isDry 41 = .ok (.iaload, 1) := by decide +kernel
theorem dX12_isDry_42 : decode cX12_isDry 42 = .ok (.invokevirtual 187, 3) := by decide +kernel
theorem dX12_isDry_45 : decode cX12_isDry 45 = .ok (.iinc 3 1, 3) := by decide +kernel
theorem dX12_isDry_48 : decode cX12_isDry 48 = .ok (.goto (-41), 3) := by decide +kernel
theorem dX12_isDry_51 : decode cX12_isDry 51 = .ok (.aload_n 0, 1) := by decide +kernel
theorem dX12_isDry_52 : decode cX12_isDry 52 = .ok (.getfield 9, 3) := by decide +kernel
theorem dX12_isDry_55 : decode cX12_isDry 55 = .ok (.bipush 13, 2) := by decide +kernel
theorem dX12_isDry_57 : decode cX12_isDry 57 = .ok (.iaload, 1) := by decide +kernel
theorem dX12_isDry_58 : decode cX12_isDry 58 = .ok (.ifCond .ne 7, 3) := by decide +kernel
theorem dX12_isDry_61 : decode cX12_isDry 61 = .ok (.iconst 1, 1) := by decide +kernel
theorem dX12_isDry_62 : decode cX12_isDry 62 = .ok (.goto 4, 3) := by decide +kernel
theorem dX12_isDry_65 : decode cX12_isDry 65 = .ok (.iconst 0, 1) := by decide +kernel
theorem dX12_isDry_66 : decode cX12_isDry 66 = .ok (.istore_n 3, 1) := by decide +kernel
theorem dX12_isDry_67 : decode cX12_isDry 67 = .ok (.aload_n 0, 1) := by decide +kernel
theorem dX12_isDry_68 : decode cX12_isDry 68 = .ok (.iconst 0, 1) := by decide +kernel
theorem dX12_isDry_69 : decode cX12_isDry 69 = .ok (.invokevirtual 193, 3) := by decide +kernel
theorem dX12_isDry_72 : decode cX12_isDry 72 = .ok (.iload_n 3, 1) := by decide +kernel
theorem dX12_isDry_73 : decode cX12_isDry 73 = .ok (.ireturn, 1) := by decide +kernel
theorem dX12_needed_0 : decode cX12_needed 0 = .ok (.aload_n 0, 1) := by decide +kernel
theorem dX12_needed_1 : decode cX12_needed 1 = .ok (.getfield 9, 3) := by decide +kernel
theorem dX12_needed_4 : decode cX12_needed 4 = .ok (.bipush 17, 2) := by decide +kernel
theorem dX12_needed_6 : decode cX12_needed 6 = .ok (.iaload, 1) := by decide +kernel
theorem dX12_needed_7 : decode cX12_needed 7 = .ok (.bipush 12, 2) := by decide +kernel
theorem dX12_needed_9 : decode cX12_needed 9 = .ok (.if_icmp .le 8, 3) := by decide +kernel
theorem dX12_needed_12 : decode cX12_needed 12 = .ok (.bipush 12, 2) := by decide +kernel
theorem dX12_needed_14 : decode cX12_needed 14 = .ok (.goto 10, 3) := by decide +kernel
theorem dX12_needed_17 : decode cX12_needed 17 = .ok (.aload_n 0, 1) := by decide +kernel
theorem dX12_needed_18 : decode cX12_needed 18 = .ok (.getfield 9, 3) := by decide +kernel
theorem dX12_needed_21 : decode cX12_needed 21 = .ok (.bipush 17, 2) := by decide +kernel
theorem dX12_needed_23 : decode cX12_needed 23 = .ok (.iaload, 1) := by decide +kernel
theorem dX12_needed_24 : decode cX12_needed 24 = .ok (.istore_n 1, 1) := by decide +kernel
theorem dX12_needed_25 : decode cX12_needed 25 = .ok (.bipush (-5), 2) := by decide +kernel
theorem dX12_needed_27 : decode cX12_needed 27 = .ok (.istore_n 2, 1) := by decide +kernel
theorem dX12_needed_28 : decode cX12_needed 28 = .ok (.iconst 0, 1) := by decide +kernel
theorem dX12_needed_29 : decode cX12_needed 29 = .ok (.istore_n 3, 1) := by decide +kernel
theorem dX12_needed_30 : decode cX12_needed 30 = .ok (.iload_n 3, 1) := by decide +kernel
theorem dX12_needed_31 : decode cX12_needed 31 = .ok (.iconst 1, 1) := by decide +kernel
theorem dX12_needed_32 : decode cX12_needed 32 = .ok (.iload_n 1, 1) := by decide +kernel
theorem dX12_needed_33 : decode cX12_needed 33 = .ok (.ishl, 1) := by decide +kernel
theorem dX12_needed_34 : decode cX12_needed 34 = .ok (.if_icmp .ge 37, 3) := by decide +kernel
theorem dX12_needed_37 : decode cX12_needed 37 = .ok (.iload_n 2, 1) := by decide +kernel
theorem dX12_needed_38 : decode cX12_needed 38 = .ok (.bipush (-5), 2) := by decide +kernel
theorem dX12_needed_40 : decode cX12_needed 40 = .ok (.if_icmp .eq 14, 3) := by decide +kernel
theorem dX12_needed_43 : decode cX12_needed 43 = .ok (.iload_n 3, 1) := by decide +kernel
theorem dX12_needed_44 : decode cX12_needed 44 = .ok (.invokestatic 240, 3) := by decide +kernel
theorem dX12_needed_47 : decode cX12_needed 47 = .ok (.iload_n 2, 1) := by decide +kernel
theorem dX12_needed_48 : decode cX12_needed 48 = .ok (.invokestatic 240, 3) := by decide +kernel
theorem dX12_needed_51 : decode cX12_needed 51 = .ok (.if_icmp .ge 14, 3) := by decide +kernel
theorem dX12_needed_54 : decode cX12_needed 54 = .ok (.aload_n 0, 1) := by decide +kernel
theorem dX12_needed_55 : decode cX12_needed 55 = .ok (.iload_n 3, 1) := by decide +kernel
theorem dX12_needed_56 : decode cX12_needed 56 = .ok (.iload_n 1, 1) := by decide +kernel
theorem dX12_needed_57 : decode cX12_needed 57 = .ok (.invokevirtual 243, 3) := by decide +kernel
theorem dX12_needed_60 : decode cX12_needed 60 = .ok (.ifCond .eq 5, 3) := by decide +kernel
theorem dX12_needed_63 : decode cX12_needed 63 = .ok (.iload_n 3, 1) := by decide +kernel
theorem dX12_needed_64 : decode cX12_needed 64 = .ok (.istore_n 2, 1) := by decide +kernel
theorem dX12_needed_65 : decode cX12_needed 65 = .ok (.iinc 3 1, 3) := by decide +kernel
theorem dX12_needed_68 : decode cX12_needed 68 = .ok (.goto (-38), 3) := by decide +kernel
theorem dX12_needed_71 : decode cX12_needed 71 = .ok (.iload_n 2, 1) := by decide +kernel
theorem dX12_needed_72 : decode cX12_needed 72 = .ok (.ireturn, 1) := by decide +kernel
theorem dX12_book_0 : decode cX12_book 0 = .ok (.iload_n 1, 1) := by decide +kernel
theorem dX12_book_1 : decode cX12_book 1 = .ok (.invokestatic 55, 3) := by decide +kernel
theorem dX12_book_4 : decode cX12_book 4 = .ok (.ifCond .ne 5, 3) := by decide +kernel
theorem dX12_book_7 : decode cX12_book 7 = .ok (.iconst (-1), 1) := by decide +kernel
theorem dX12_book_8 : decode cX12_book 8 = .ok (.ireturn, 1) := by decide +kernel
theorem dX12_book_9 : decode cX12_book 9 = .ok (.iload_n 2, 1) := by decide +kernel
theorem dX12_book_10 : decode cX12_book 10 = .ok (.iconst 0, 1) := by decide +kernel
theorem dX12_book_11 : decode cX12_book 11 = .ok (.bipush 99, 2) := by decide +kernel
theorem dX12_book_13 : decode cX12_book 13 = .ok (.invokestatic 51, 3) := by decide +kernel
theorem dX12_book_16 : decode cX12_book 16 = .ok (.ifCond .ne 6, 3) := by decide +kernel
theorem dX12_book_19 : decode cX12_book 19 = .ok (.bipush (-2), 2) := by decide +kernel
theorem dX12_book_21 : decode cX12_book 21 = .ok (.ireturn, 1) := by decide +kernel
theorem dX12_book_22 : decode cX12_book 22 = .ok (.aload_n 0, 1) := by decide +kernel
theorem dX12_book_23 : decode cX12_book 23 = .ok (.getfield 9, 3) := by decide +kernel
theorem dX12_book_26 : decode cX12_book 26 = .ok (.bipush 18, 2) := by decide +kernel
theorem dX12_book_28 : decode cX12_book 28 = .ok (.iaload, 1) := by decide +kernel
theorem dX12_book_29 : decode cX12_book 29 = .ok (.bipush 10, 2) := by decide +kernel
theorem dX12_book_31 : decode cX12_book 31 = .ok (.if_icmp .ne 6, 3) := by decide +kernel
theorem dX12_book_34 : decode cX12_book 34 = .ok (.bipush (-4), 2) := by decide +kernel
theorem dX12_book_36 : decode cX12_book 36 = .ok (.ireturn, 1) := by decide +kernel
theorem dX12_book_37 : decode cX12_book 37 = .ok (.aload_n 0, 1) := by decide +kernel
theorem dX12_book_38 : decode cX12_book 38 = .ok (.getfield 9, 3) := by decide +kernel
theorem dX12_book_41 : decode cX12_book 41 = .ok (.sipush 200, 3) := by decide +kernel
theorem dX12_book_44 : decode cX12_book 44 = .ok (.aload_n 0, 1) := by decide +kernel
theorem dX12_book_45 : decode cX12_book 45 = .ok (.getfield 9, 3) := by decide +kernel
theorem dX12_book_48 : decode cX12_book 48 = .ok (.bipush 18, 2) := by decide +kernel
theorem dX12_book_50 : decode cX12_book 50 = .ok (.iaload, 1) := by decide +kernel
theorem dX12_book_51 : decode cX12_book 51 = .ok (.iadd, 1) := by decide +kernel
theorem dX12_book_52 : decode cX12_book 52 = .ok (.iload_n 1, 1) := by decide +kernel
theorem dX12_book_53 : decode cX12_book 53 = .ok (.iastore, 1) := by decide +kernel
theorem dX12_book_54 : decode cX12_book 54 = .ok (.aload_n 0, 1) := by decide +kernel
theorem dX12_book_55 : decode cX12_book 55 = .ok (.getfield 9, 3) := by decide +kernel
theorem dX12_book_58 : decode cX12_book 58 = .ok (.sipush 210, 3) := by decide +kernel
theorem dX12_book_61 : decode cX12_book 61 = .ok (.aload_n 0, 1) := by decide +kernel
theorem dX12_book_62 : decode cX12_book 62 = .ok (.getfield 9, 3) := by decide +kernel
theorem dX12_book_65 : decode cX12_book 65 = .ok (.bipush 18, 2) := by decide +kernel
theorem dX12_book_67 : decode cX12_book 67 = .ok (.iaload, 1) := by decide +kernel
theorem dX12_book_68 : decode cX12_book 68 = .ok (.iadd, 1) := by decide +kernel
theorem dX12_book_69 : decode cX12_book 69 = .ok (.iload_n 2, 1) := by decide +kernel
theorem dX12_book_70 : decode cX12_book 70 = .ok (.iastore, 1) := by decide +kernel
theorem dX12_book_71 : decode cX12_book 71 = .ok (.aload_n 0, 1) := by decide +kernel
theorem dX12_book_72 : decode cX12_book 72 = .ok (.getfield 9, 3) := by decide +kernel
theorem dX12_book_75 : decode cX12_book 75 = .ok (.bipush 18, 2) := by decide +kernel
theorem dX12_book_77 : decode cX12_book 77 = .ok (.dup2, 1) := by decide +kernel
theorem dX12_book_78 : decode cX12_book 78 = .ok (.iaload, 1) := by decide +kernel
theorem dX12_book_79 : decode cX12_book 79 = .ok (.iconst 1, 1) := by decide +kernel
theorem dX12_book_80 : decode cX12_book 80 = .ok (.iadd, 1) := by decide +kernel
theorem dX12_book_81 : decode cX12_book 81 = .ok (.iastore, 1) := by decide +kernel
theorem dX12_book_82 : decode cX12_book 82 = .ok (.aload_n 0, 1) := by decide +kernel
theorem dX12_book_83 : decode cX12_book 83 = .ok (.getfield 9, 3) := by decide +kernel
theorem dX12_book_86 : decode cX12_book 86 = .ok (.bipush 18, 2) := by decide +kernel
theorem dX12_book_88 : decode cX12_book 88 = .ok (.iaload, 1) := by decide +kernel
theorem dX12_book_89 : decode cX12_book 89 = .ok (.ireturn, 1) := by decide +kernel
theorem dX12_vanish_0 : decode cX12_vanish 0 = .ok (.iload_n 1, 1) := by decide +kernel
theorem dX12_vanish_1 : decode cX12_vanish 1 = .ok (.iconst 0, 1) := by decide +kernel
theorem dX12_vanish_2 : decode cX12_vanish 2 = .ok (.iconst 1, 1) := by decide +kernel
theorem dX12_vanish_3 : decode cX12_vanish 3 = .ok (.invokestatic 51, 3) := by decide +kernel
theorem dX12_vanish_6 : decode cX12_vanish 6 = .ok (.ifCond .ne 5, 3) := by decide +kernel
theorem dX12_vanish_9 : decode cX12_vanish 9 = .ok (.iconst (-1), 1) := by decide +kernel
theorem dX12_vanish_10 : decode cX12_vanish 10 = .ok (.ireturn, 1) := by decide +kernel
theorem dX12_vanish_11 : decode cX12_vanish 11 = .ok (.iconst 0, 1) := by decide +kernel
theorem dX12_vanish_12 : decode cX12_vanish 12 = .ok (.istore_n 2, 1) := by decide +kernel
theorem dX12_vanish_13 : decode cX12_vanish 13 = .ok (.iconst 0, 1) := by decide +kernel
theorem dX12_vanish_14 : decode cX12_vanish 14 = .ok (.istore_n 3, 1) := by decide +kernel
theorem dX12_vanish_15 : decode cX12_vanish 15 = .ok (.bipush (-5), 2) := by decide +kernel
theorem dX12_vanish_17 : decode cX12_vanish 17 = .ok (.istore 4, 2) := by decide +kernel
theorem dX12_vanish_19 : decode cX12_vanish 19 = .ok (.iconst 0, 1) := by decide +kernel
theorem dX12_vanish_20 : decode cX12_vanish 20 = .ok (.istore 5, 2) := by decide +kernel
theorem dX12_vanish_22 : decode cX12_vanish 22 = .ok (.iconst 0, 1) := by decide +kernel
theorem dX12_vanish_23 : decode cX12_vanish 23 = .ok (.istore 6, 2) := by decide +kernel
theorem dX12_vanish_25 : decode cX12_vanish 25 = .ok (.iload 6, 2) := by decide +kernel
theorem dX12_vanish_27 : decode cX12_vanish 27 = .ok (.iconst 4, 1) := by decide +kernel
theorem dX12_vanish_28 : decode cX12_vanish 28 = .ok (.if_icmp .ge 172, 3) := by decide +kernel
theorem dX12_vanish_31 : decode cX12_vanish 31 = .ok (.iconst 0, 1) := by decide +kernel
theorem dX12_vanish_32 : decode cX12_vanish 32 = .ok (.istore 7, 2) := by decide +kernel
theorem dX12_vanish_34 : decode cX12_vanish 34 = .ok (.iconst 0, 1) := by decide +kernel
theorem dX12_vanish_35 : decode cX12_vanish 35 = .ok (.istore 8, 2) := by decide +kernel
theorem dX12_vanish_37 : decode cX12_vanish 37 = .ok (.iconst 0, 1) := by decide +kernel
theorem dX12_vanish_38 : decode cX12_vanish 38 = .ok (.istore 9, 2) := by decide +kernel
theorem dX12_vanish_40 : decode cX12_vanish 40 = .ok (.iload 9, 2) := by decide +kernel
theorem dX12_vanish_42 : decode cX12_vanish 42 = .ok (.aload_n 0, 1) := by decide +kernel
theorem dX12_vanish_43 : decode cX12_vanish 43 = .ok (.getfield 9, 3) := by decide +kernel
theorem dX12_vanish_46 : decode cX12_vanish 46 = .ok (.bipush 18, 2) := by decide +kernel
theorem dX12_vanish_48 : decode cX12_vanish 48 = .ok (.iaload, 1) := by decide +kernel
theorem dX12_vanish_49 : decode cX12_vanish 49 = .ok (.if_icmp .ge 73, 3) := by decide +kernel
theorem dX12_vanish_52 : decode cX12_vanish 52 = .ok (.iload 7, 2) := by decide +kernel
theorem dX12_vanish_54 : decode cX12_vanish 54 = .ok (.aload_n 0, 1) := by decide +kernel
theorem dX12_vanish_55 : decode cX12_vanish 55 = .ok (.getfield 9, 3) := by decide +kernel
theorem dX12_vanish_58 : decode cX12_vanish 58 = .ok (.sipush 200, 3) := by decide +kernel
theorem dX12_vanish_61 : decode cX12_vanish 61 = .ok (.iload 9, 2) := by decide +kernel
theorem dX12_vanish_63 : decode cX12_vanish 63 = .ok (.iadd, 1) := by decide +kernel
theorem dX12_vanish_64 : decode cX12_vanish 64 = .ok (.iaload, 1) := by decide +kernel
theorem dX12_vanish_65 : decode cX12_vanish 65 = .ok (.iload 6, 2) := by decide +kernel
theorem dX12_vanish_67 : decode cX12_vanish 67 = .ok (.if_icmp .ne 17, 3) := by decide +kernel
theorem dX12_vanish_70 : decode cX12_vanish 70 = .ok (.aload_n 0, 1) := by decide +kernel
theorem dX12_vanish_71 : decode cX12_vanish 71 = .ok (.getfield 9, 3) := by decide +kernel
theorem dX12_vanish_74 : decode cX12_vanish 74 = .ok (.sipush 210, 3) := by decide +kernel
theorem dX12_vanish_77 : decode cX12_vanish 77 = .ok (.iload 9, 2) := by decide +kernel
theorem dX12_vanish_79 : decode cX12_vanish 79 = .ok (.iadd, 1) := by decide +kernel
theorem dX12_vanish_80 : decode cX12_vanish 80 = .ok (.iaload, 1) := by decide +kernel
theorem dX12_vanish_81 : decode cX12_vanish 81 = .ok (.goto 4, 3) := by decide +kernel
theorem dX12_vanish_84 : decode cX12_vanish 84 = .ok (.iconst 0, 1) := by decide +kernel
theorem dX12_vanish_85 : decode cX12_vanish 85 = .ok (.iadd, 1) := by decide +kernel
theorem dX12_vanish_86 : decode cX12_vanish 86 = .ok (.istore 7, 2) := by decide +kernel
theorem dX12_vanish_88 : decode cX12_vanish 88 = .ok (.iload 8, 2) := by decide +kernel
theorem dX12_vanish_90 : decode cX12_vanish 90 = .ok (.ifCond .ne 19, 3) := by decide +kernel
theorem dX12_vanish_93 : decode cX12_vanish 93 = .ok (.aload_n 0, 1) := by decide +kernel
theorem dX12_vanish_94 : decode cX12_vanish 94 = .ok (.getfield 9, 3) := by decide +kernel
theorem dX12_vanish_97 : decode cX12_vanish 97 = .ok (.sipush 200, 3) := by decide +kernel
theorem dX12_vanish_100 : decode cX12_vanish 100 = .ok (.iload 9, 2) := by decide +kernel
theorem dX12_vanish_102 : decode cX12_vanish 102 = .ok (.iadd, 1) := by decide +kernel
theorem dX12_vanish_103 : decode cX12_vanish 103 = .ok (.iaload, 1) := by decide +kernel
theorem dX12_vanish_104 : decode cX12_vanish 104 = .ok (.iload 6, 2) := by decide +kernel
theorem dX12_vanish_106 : decode cX12_vanish 106 = .ok (.if_icmp .ne 7, 3) := by decide +kernel
theorem dX12_vanish_109 : decode cX12_vanish 109 = .ok (.iconst 1, 1) := by decide +kernel
theorem dX12_vanish_110 : decode cX12_vanish 110 = .ok (.goto 4, 3) := by decide +kernel
theorem dX12_vanish_113 : decode cX12_vanish 113 = .ok (.iconst 0, 1) := by decide +kernel
theorem dX12_vanish_114 : decode cX12_vanish 114 = .ok (.istore 8, 2) := by decide +kernel
theorem dX12_vanish_116 : decode cX12_vanish 116 = .ok (.iinc 9 1, 3) := by decide +kernel
theorem dX12_vanish_119 : decode cX12_vanish 119 = .ok (.goto (-79), 3) := by decide +kernel
theorem dX12_vanish_122 : decode cX12_vanish 122 = .ok (.iload_n 2, 1) := by decide +kernel
theorem dX12_vanish_123 : decode cX12_vanish 123 = .ok (.iload 8, 2) := by decide +kernel
theorem dX12_vanish_125 : decode cX12_vanish 125 = .ok (.ifCond .eq 7, 3) := by decide +kernel
theorem dX12_vanish_128 : decode cX12_vanish 128 = .ok (.iconst 1, 1) := by decide +kernel
theorem dX12_vanish_129 : decode cX12_vanish 129 = .ok (.goto 4, 3) := by decide +kernel
theorem dX12_vanish_132 : decode cX12_vanish 132 = .ok (.iconst 0, 1) := by decide +kernel
theorem dX12_vanish_133 : decode cX12_vanish 133 = .ok (.iadd, 1) := by decide +kernel
theorem dX12_vanish_134 : decode cX12_vanish 134 = .ok (.istore_n 2, 1) := by decide +kernel
theorem dX12_vanish_135 : decode cX12_vanish 135 = .ok (.iload_n 3, 1) := by decide +kernel
theorem dX12_vanish_136 : decode cX12_vanish 136 = .ok (.iload 7, 2) := by decide +kernel
theorem dX12_vanish_138 : decode cX12_vanish 138 = .ok (.iadd, 1) := by decide +kernel
theorem dX12_vanish_139 : decode cX12_vanish 139 = .ok (.istore_n 3, 1) := by decide +kernel
theorem dX12_vanish_140 : decode cX12_vanish 140 = .ok (.iload 8, 2) := by decide +kernel
theorem dX12_vanish_142 : decode cX12_vanish 142 = .ok (.ifCond .eq 21, 3) := by decide +kernel
theorem dX12_vanish_145 : decode cX12_vanish 145 = .ok (.iload 4, 2) := by decide +kernel
theorem dX12_vanish_147 : decode cX12_vanish 147 = .ok (.bipush (-5), 2) := by decide +kernel
theorem dX12_vanish_149 : decode cX12_vanish 149 = .ok (.if_icmp .eq 10, 3) := by decide +kernel
theorem dX12_vanish_152 : decode cX12_vanish 152 = .ok (.iload 7, 2) := by decide +kernel
theorem dX12_vanish_154 : decode cX12_vanish 154 = .ok (.iload 5, 2) := by decide +kernel
theorem dX12_vanish_156 : decode cX12_vanish 156 = .ok (.if_icmp .le 7, 3) := by decide +kernel
theorem dX12_vanish_159 : decode cX12_vanish 159 = .ok (.iconst 1, 1) := by decide +kernel
theorem dX12_vanish_160 : decode cX12_vanish 160 = .ok (.goto 4, 3) := by decide +kernel
theorem dX12_vanish_163 : decode cX12_vanish 163 = .ok (.iconst 0, 1) := by decide +kernel
theorem dX12_vanish_164 : decode cX12_vanish 164 = .ok (.istore 9, 2) := by decide +kernel
theorem dX12_vanish_166 : decode cX12_vanish 166 = .ok (.iload 9, 2) := by decide +kernel
theorem dX12_vanish_168 : decode cX12_vanish 168 = .ok (.ifCond .eq 8, 3) := by decide +kernel
theorem dX12_vanish_171 : decode cX12_vanish 171 = .ok (.iload 6, 2) := by decide +kernel
theorem dX12_vanish_173 : decode cX12_vanish 173 = .ok (.goto 5, 3) := by decide +kernel
theorem dX12_vanish_176 : decode cX12_vanish 176 = .ok (.iload 4, 2) := by decide +kernel
theorem dX12_vanish_178 : decode cX12_vanish 178 = .ok (.istore 4, 2) := by decide +kernel
theorem dX12_vanish_180 : decode cX12_vanish 180 = .ok (.iload 9, 2) := by decide +kernel
theorem dX12_vanish_182 : decode cX12_vanish 182 = .ok (.ifCond .eq 8, 3) := by decide +kernel
theorem dX12_vanish_185 : decode cX12_vanish 185 = .ok (.iload 7, 2) := by decide +kernel
theorem dX12_vanish_187 : decode cX12_vanish 187 = .ok (.goto 5, 3) := by decide +kernel
theorem dX12_vanish_190 : decode cX12_vanish 190 = .ok (.iload 5, 2) := by decide +kernel
theorem dX12_vanish_192 : decode cX12_vanish 192 = .ok (.istore 5, 2) := by decide +kernel
theorem dX12_vanish_194 : decode cX12_vanish 194 = .ok (.iinc 6 1, 3) := by decide +kernel
theorem dX12_vanish_197 : decode cX12_vanish 197 = .ok (.goto (-172), 3) := by decide +kernel
theorem dX12_vanish_200 : decode cX12_vanish 200 = .ok (.iload_n 1, 1) := by decide +kernel
theorem dX12_vanish_201 : decode cX12_vanish 201 = .ok (.ifCond .eq 10, 3) := by decide +kernel
theorem dX12_vanish_204 : decode cX12_vanish 204 = .ok (.iload 4, 2) := by decide +kernel
theorem dX12_vanish_206 : decode cX12_vanish 206 = .ok (.bipush (-5), 2) := by decide +kernel
theorem dX12_vanish_208 : decode cX12_vanish 208 = .ok (.if_icmp .ne 8, 3) := by decide +kernel
theorem dX12_vanish_211 : decode cX12_vanish 211 = .ok (.iload 4, 2) := by decide +kernel
theorem dX12_vanish_213 : decode cX12_vanish 213 = .ok (.goto 14, 3) := by decide +kernel
theorem dX12_vanish_216 : decode cX12_vanish 216 = .ok (.bipush 100, 2) := by decide +kernel
theorem dX12_vanish_218 : decode cX12_vanish 218 = .ok (.iload 5, 2) := by decide +kernel
theorem dX12_vanish_220 : decode cX12_vanish 220 = .ok (.iload_n 2, 1) := by decide +kernel
theorem dX12_vanish_221 : decode cX12_vanish 221 = .ok (.imul, 1) := by decide +kernel
theorem dX12_vanish_222 : decode cX12_vanish 222 = .ok (.iload_n 3, 1) := by decide +kernel
theorem dX12_vanish_223 : decode cX12_vanish 223 = .ok (.isub, 1) := by decide +kernel
theorem dX12_vanish_224 : decode cX12_vanish 224 = .ok (.imul, 1) := by decide +kernel
theorem dX12_vanish_225 : decode cX12_vanish 225 = .ok (.iload_n 2, 1) := by decide +kernel
theorem dX12_vanish_226 : decode cX12_vanish 226 = .ok (.idiv, 1) := by decide +kernel
theorem dX12_vanish_227 : decode cX12_vanish 227 = .ok (.ireturn, 1) := by decide +kernel
theorem dX12_runs_0 : decode cX12_runs 0 = .ok (.aload_n 0, 1) := by decide +kernel
theorem dX12_runs_1 : decode cX12_runs 1 = .ok (.getfield 246, 3) := by decide +kernel
theorem dX12_runs_4 : decode cX12_runs 4 = .ok (.bipush 20, 2) := by decide +kernel
theorem dX12_runs_6 : decode cX12_runs 6 = .ok (.if_icmp .ge 13, 3) := by decide +kernel
theorem dX12_runs_9 : decode cX12_runs 9 = .ok (.aload_n 0, 1) := by decide +kernel
theorem dX12_runs_10 : decode cX12_runs 10 = .ok (.getfield 44, 3) := by decide +kernel
theorem dX12_runs_13 : decode cX12_runs 13 = .ok (.aload_n 0, 1) := by decide +kernel
theorem dX12_runs_14 : decode cX12_runs 14 = .ok (.getfield 246, 3) := by decide +kernel
theorem dX12_runs_17 : decode cX12_runs 17 = .ok (.iload_n 1, 1) := by decide +kernel
theorem dX12_runs_18 : decode cX12_runs 18 = .ok (.iastore, 1) := by decide +kernel
theorem dX12_runs_19 : decode cX12_runs 19 = .ok (.aload_n 0, 1) := by decide +kernel
theorem dX12_runs_20 : decode cX12_runs 20 = .ok (.dup, 1) := by decide +kernel
theorem dX12_runs_21 : decode cX12_runs 21 = .ok (.getfield 246, 3) := by decide +kernel
theorem dX12_runs_24 : decode cX12_runs 24 = .ok (.iconst 1, 1) := by decide +kernel
theorem dX12_runs_25 : decode cX12_runs 25 = .ok (.iadd, 1) := by decide +kernel
theorem dX12_runs_26 : decode cX12_runs 26 = .ok (.putfield 246, 3) := by decide +kernel
theorem dX12_runs_29 : decode cX12_runs 29 = .ok (.return_, 1) := by decide +kernel
theorem dX12_isUnder_0 : decode cX12_isUnder 0 = .ok (.iload_n 1, 1) := by decide +kernel
theorem dX12_isUnder_1 : decode cX12_isUnder 1 = .ok (.ifCond .eq 34, 3) := by decide +kernel
theorem dX12_isUnder_4 : decode cX12_isUnder 4 = .ok (.iload_n 1, 1) := by decide +kernel
theorem dX12_isUnder_5 : decode cX12_isUnder 5 = .ok (.iload_n 0, 1) := by decide +kernel
theorem dX12_isUnder_6 : decode cX12_isUnder 6 = .ok (.if_icmp .eq 29, 3) := by decide +kernel
theorem dX12_isUnder_9 : decode cX12_isUnder 9 = .ok (.iload_n 1, 1) := by decide +kernel
theorem dX12_isUnder_10 : decode cX12_isUnder 10 = .ok (.iconst 1, 1) := by decide +kernel
theorem dX12_isUnder_11 : decode cX12_isUnder 11 = .ok (.if_icmp .ne 8, 3) := by decide +kernel
theorem dX12_isUnder_14 : decode cX12_isUnder 14 = .ok (.iload_n 0, 1) := by decide +kernel
theorem dX12_isUnder_15 : decode cX12_isUnder 15 = .ok (.iconst 4, 1) := by decide +kernel
theorem dX12_isUnder_16 : decode cX12_isUnder 16 = .ok (.if_icmp .eq 19, 3) := by decide +kernel
theorem dX12_isUnder_19 : decode cX12_isUnder 19 = .ok (.iload_n 1, 1) := by decide +kernel
theorem dX12_isUnder_20 : decode cX12_isUnder 20 = .ok (.iconst 2, 1) := by decide +kernel
theorem dX12_isUnder_21 : decode cX12_isUnder 21 = .ok (.if_icmp .ne 18, 3) := by decide +kernel
theorem dX12_isUnder_24 : decode cX12_isUnder 24 = .ok (.iload_n 0, 1) := by decide +kernel
theorem dX12_isUnder_25 : decode cX12_isUnder 25 = .ok (.iconst 5, 1) := by decide +kernel
theorem dX12_isUnder_26 : decode cX12_isUnder 26 = .ok (.if_icmp .eq 9, 3) := by decide +kernel
theorem dX12_isUnder_29 : decode cX12_isUnder 29 = .ok (.iload_n 0, 1) := by decide +kernel
theorem dX12_isUnder_30 : decode cX12_isUnder 30 = .ok (.bipush 6, 2) := by decide +kernel
theorem dX12_isUnder_32 : decode cX12_isUnder 32 = .ok (.if_icmp .ne 7, 3) := by decide +kernel
theorem dX12_isUnder_35 : decode cX12_isUnder 35 = .ok (.iconst 1, 1) := by decide +kernel
theorem dX12_isUnder_36 : decode cX12_isUnder 36 = .ok (.goto 4, 3) := by decide +kernel
theorem dX12_isUnder_39 : decode cX12_isUnder 39 = .ok (.iconst 0, 1) := by decide +kernel
theorem dX12_isUnder_40 : decode cX12_isUnder 40 = .ok (.ireturn, 1) := by decide +kernel
theorem dX12_plainTakes_0 : decode cX12_plainTakes 0 = .ok (.aload_n 0, 1) := by decide +kernel
theorem dX12_plainTakes_1 : decode cX12_plainTakes 1 = .ok (.iconst 1, 1) := by decide +kernel
theorem dX12_plainTakes_2 : decode cX12_plainTakes 2 = .ok (.invokevirtual 249, 3) := by decide +kernel
theorem dX12_plainTakes_5 : decode cX12_plainTakes 5 = .ok (.iload_n 1, 1) := by decide +kernel
theorem dX12_plainTakes_6 : decode cX12_plainTakes 6 = .ok (.aload_n 0, 1) := by decide +kernel
theorem dX12_plainTakes_7 : decode cX12_plainTakes 7 = .ok (.getfield 252, 3) := by decide +kernel
theorem dX12_plainTakes_10 : decode cX12_plainTakes 10 = .ok (.iadd, 1) := by decide +kernel
theorem dX12_plainTakes_11 : decode cX12_plainTakes 11 = .ok (.ireturn, 1) := by decide +kernel
theorem dX12_takesActs_0 : decode cX12_takesActs 0 = .ok (.aload_n 0, 1) := by decide +kernel
theorem dX12_takesActs_1 : decode cX12_takesActs 1 = .ok (.getfield 255, 3) := by decide +kernel
theorem dX12_takesActs_4 : decode cX12_takesActs 4 = .ok (.iconst 1, 1) := by decide +kernel
theorem dX12_takesActs_5 : decode cX12_takesActs 5 = .ok (.invokestatic 258, 3) := by decide +kernel
theorem dX12_takesActs_8 : decode cX12_takesActs 8 = .ok (.ifCond .eq 17, 3) := by decide +kernel
theorem dX12_takesActs_11 : decode cX12_takesActs 11 = .ok (.aload_n 0, 1) := by decide +kernel
theorem dX12_takesActs_12 : decode cX12_takesActs 12 = .ok (.bipush 11, 2) := by decide +kernel
theorem dX12_takesActs_14 : decode cX12_takesActs 14 = .ok (.invokevirtual 249, 3) := by decide +kernel
theorem dX12_takesActs_17 : decode cX12_takesActs 17 = .ok (.aload_n 0, 1) := by decide +kernel
theorem dX12_takesActs_18 : decode cX12_takesActs 18 = .ok (.iload_n 1, 1) := by decide +kernel
theorem dX12_takesActs_19 : decode cX12_takesActs 19 = .ok (.iconst 3, 1) := by decide +kernel
theorem dX12_takesActs_20 : decode cX12_takesActs 20 = .ok (.imul, 1) := by decide +kernel
theorem dX12_takesActs_21 : decode cX12_takesActs 21 = .ok (.invokevirtual 261, 3) := by decide +kernel
theorem dX12_takesActs_24 : decode cX12_takesActs 24 = .ok (.ireturn, 1) := by decide +kernel
theorem dX12_takesActs_25 : decode cX12_takesActs 25 = .ok (.aload_n 0, 1) := by decide +kernel
theorem dX12_takesActs_26 : decode cX12_takesActs 26 = .ok (.getfield 255, 3) := by decide +kernel
theorem dX12_takesActs_29 : decode cX12_takesActs 29 = .ok (.iconst 5, 1) := by decide +kernel
theorem dX12_takesActs_30 : decode cX12_takesActs 30 = .ok (.if_icmp .ne 20, 3) := by decide +kernel
theorem dX12_takesActs_33 : decode cX12_takesActs 33 = .ok (.aload_n 0, 1) := by decide +kernel
theorem dX12_takesActs_34 : decode cX12_takesActs 34 = .ok (.bipush 51, 2) := by decide +kernel
theorem dX12_takesActs_36 : decode cX12_takesActs 36 = .ok (.invokevirtual 249, 3) := by decide +kernel
theorem dX12_takesActs_39 : decode cX12_takesActs 39 = .ok (.aload_n 0, 1) := by decide +kernel
theorem dX12_takesActs_40 : decode cX12_takesActs 40 = .ok (.iload_n 1, 1) := by decide +kernel
theorem dX12_takesActs_41 : decode cX12_takesActs 41 = .ok (.invokevirtual 261, 3) := by decide +kernel
theorem dX12_takesActs_44 : decode cX12_takesActs 44 = .ok (.aload_n 0, 1) := by decide +kernel
theorem dX12_takesActs_45 : decode cX12_takesActs 45 = .ok (.getfield 252, 3) := by decide +kernel
theorem dX12_takesActs_48 : decode cX12_takesActs 48 = .ok (.ixor, 1) := by decide +kernel
theorem dX12_takesActs_49 : decode cX12_takesActs 49 = .ok (.ireturn, 1) := by decide +kernel
theorem dX12_takesActs_50 : decode cX12_takesActs 50 = .ok (.aload_n 0, 1) := by decide +kernel
theorem dX12_takesActs_51 : decode cX12_takesActs 51 = .ok (.iload_n 1, 1) := by decide +kernel
theorem dX12_takesActs_52 : decode cX12_takesActs 52 = .ok (.invokevirtual 261, 3) := by decide +kernel
theorem dX12_takesActs_55 : decode cX12_takesActs 55 = .ok (.ireturn, 1) := by decide +kernel
theorem dX12_plainWalks_0 : decode cX12_plainWalks 0 = .ok (.aload_n 0, 1) := by decide +kernel
theorem dX12_plainWalks_1 : decode cX12_plainWalks 1 = .ok (.iconst 2, 1) := by decide +kernel
theorem dX12_plainWalks_2 : decode cX12_plainWalks 2 = .ok (.invokevirtual 249, 3) := by decide +kernel
theorem dX12_plainWalks_5 : decode cX12_plainWalks 5 = .ok (.aload_n 0, 1) := by decide +kernel
theorem dX12_plainWalks_6 : decode cX12_plainWalks 6 = .ok (.iload_n 1, 1) := by decide +kernel
theorem dX12_plainWalks_7 : decode cX12_plainWalks 7 = .ok (.invokevirtual 264, 3) := by decide +kernel
theorem dX12_plainWalks_10 : decode cX12_plainWalks 10 = .ok (.aload_n 0, 1) := by decide +kernel
theorem dX12_plainWalks_11 : decode cX12_plainWalks 11 = .ok (.getfield 267, 3) := by decide +kernel
theorem dX12_plainWalks_14 : decode cX12_plainWalks 14 = .ok (.isub, 1) := by decide +kernel
theorem dX12_plainWalks_15 : decode cX12_plainWalks 15 = .ok (.ireturn, 1) := by decide +kernel
theorem dX12_backWalks_0 : decode cX12_backWalks 0 = .ok (.aload_n 0, 1) := by decide +kernel
theorem dX12_backWalks_1 : decode cX12_backWalks 1 = .ok (.bipush 21, 2) := by decide +kernel
theorem dX12_backWalks_3 : decode cX12_backWalks 3 = .ok (.invokevirtual 249, 3) := by decide +kernel
theorem dX12_backWalks_6 : decode cX12_backWalks 6 = .ok (.aload_n 0, 1) := by decide +kernel
theorem dX12_backWalks_7 : decode cX12_backWalks 7 = .ok (.iload_n 1, 1) := by decide +kernel
theorem dX12_backWalks_8 : decode cX12_backWalks 8 = .ok (.invokevirtual 270, 3) := by decide +kernel
theorem dX12_backWalks_11 : decode cX12_backWalks 11 = .ok (.ineg, 1) := by decide +kernel
theorem dX12_backWalks_12 : decode cX12_backWalks 12 = .ok (.ireturn, 1) := by decide +kernel
theorem dX12_walksActs_0 : decode cX12_walksActs 0 = .ok (.aload_n 0, 1) := by decide +kernel
theorem dX12_walksActs_1 : decode cX12_walksActs 1 = .ok (.getfield 255, 3) := by decide +kernel
theorem dX12_walksActs_4 : decode cX12_walksActs 4 = .ok (.bipush 6, 2) := by decide +kernel
theorem dX12_walksActs_6 : decode cX12_walksActs 6 = .ok (.if_icmp .ne 20, 3) := by decide +kernel
theorem dX12_walksActs_9 : decode cX12_walksActs 9 = .ok (.aload_n 0, 1) := by decide +kernel
theorem dX12_walksActs_10 : decode cX12_walksActs 10 = .ok (.bipush 61, 2) := by decide +kernel
theorem dX12_walksActs_12 : decode cX12_walksActs 12 = .ok (.invokevirtual 249, 3) := by decide +kernel
theorem dX12_walksActs_15 : decode cX12_walksActs 15 = .ok (.aload_n 0, 1) := by decide +kernel
theorem dX12_walksActs_16 : decode cX12_walksActs 16 = .ok (.iload_n 1, 1) := by decide +kernel
theorem dX12_walksActs_17 : decode cX12_walksActs 17 = .ok (.invokevirtual 273, 3) := by decide +kernel
theorem dX12_walksActs_20 : decode cX12_walksActs 20 = .ok (.aload_n 0, 1) := by decide +kernel
theorem dX12_walksActs_21 : decode cX12_walksActs 21 = .ok (.getfield 267, 3) := by decide +kernel
theorem dX12_walksActs_24 : decode cX12_walksActs 24 = .ok (.iadd, 1) := by decide +kernel
theorem dX12_walksActs_25 : decode cX12_walksActs 25 = .ok (.ireturn, 1) := by decide +kernel
theorem dX12_walksActs_26 : decode cX12_walksActs 26 = .ok (.aload_n 0, 1) := by decide +kernel
theorem dX12_walksActs_27 : decode cX12_walksActs 27 = .ok (.getfield 255, 3) := by decide +kernel
theorem dX12_walksActs_30 : decode cX12_walksActs 30 = .ok (.iconst 2, 1) := by decide +kernel
theorem dX12_walksActs_31 : decode cX12_walksActs 31 = .ok (.invokestatic 258, 3) := by decide +kernel
theorem dX12_walksActs_34 : decode cX12_walksActs 34 = .ok (.ifCond .eq 11, 3) := by decide +kernel
theorem dX12_walksActs_37 : decode cX12_walksActs 37 = .ok (.aload_n 0, 1) := by decide +kernel
theorem dX12_walksActs_38 : decode cX12_walksActs 38 = .ok (.iload_n 1, 1) := by decide +kernel
theorem dX12_walksActs_39 : decode cX12_walksActs 39 = .ok (.invokevirtual 273, 3) := by decide +kernel
theorem dX12_walksActs_42 : decode cX12_walksActs 42 = .ok (.goto 8, 3) := by decide +kernel
theorem dX12_walksActs_45 : decode cX12_walksActs 45 = .ok (.aload_n 0, 1) := by decide +kernel
theorem dX12_walksActs_46 : decode cX12_walksActs 46 = .ok (.iload_n 1, 1) := by decide +kernel
theorem dX12_walksActs_47 : decode cX12_walksActs 47 = .ok (.invokevirtual 270, 3) := by decide +kernel
theorem dX12_walksActs_50 : decode cX12_walksActs 50 = .ok (.ireturn, 1) := by decide +kernel
theorem dX12_plainTells_0 : decode cX12_plainTells 0 = .ok (.aload_n 0, 1) := by decide +kernel
theorem dX12_plainTells_1 : decode cX12_plainTells 1 = .ok (.iconst 3, 1) := by decide +kernel
theorem dX12_plainTells_2 : decode cX12_plainTells 2 = .ok (.invokevirtual 249, 3) := by decide +kernel
theorem dX12_plainTells_5 : decode cX12_plainTells 5 = .ok (.aload_n 0, 1) := by decide +kernel
theorem dX12_plainTells_6 : decode cX12_plainTells 6 = .ok (.iload_n 1, 1) := by decide +kernel
theorem dX12_plainTells_7 : decode cX12_plainTells 7 = .ok (.invokevirtual 276, 3) := by decide +kernel
theorem dX12_plainTells_10 : decode cX12_plainTells 10 = .ok (.iconst 2, 1) := by decide +kernel
theorem dX12_plainTells_11 : decode cX12_plainTells 11 = .ok (.imul, 1) := by decide +kernel
theorem dX12_plainTells_12 : decode cX12_plainTells 12 = .ok (.ireturn, 1) := by decide +kernel
theorem dX12_tellsActs_0 : decode cX12_tellsActs 0 = .ok (.aload_n 0, 1) := by decide +kernel
theorem dX12_tellsActs_1 : decode cX12_tellsActs 1 = .ok (.getfield 255, 3) := by decide +kernel
theorem dX12_tellsActs_4 : decode cX12_tellsActs 4 = .ok (.iconst 3, 1) := by decide +kernel
theorem dX12_tellsActs_5 : decode cX12_tellsActs 5 = .ok (.if_icmp .ne 18, 3) := by decide +kernel
theorem dX12_tellsActs_8 : decode cX12_tellsActs 8 = .ok (.aload_n 0, 1) := by decide +kernel
theorem dX12_tellsActs_9 : decode cX12_tellsActs 9 = .ok (.bipush 31, 2) := by decide +kernel
theorem dX12_tellsActs_11 : decode cX12_tellsActs 11 = .ok (.invokevirtual 249, 3) := by decide +kernel
theorem dX12_tellsActs_14 : decode cX12_tellsActs 14 = .ok (.aload_n 0, 1) := by decide +kernel
theorem dX12_tellsActs_15 : decode cX12_tellsActs 15 = .ok (.iload_n 1, 1) := by decide +kernel
theorem dX12_tellsActs_16 : decode cX12_tellsActs 16 = .ok (.invokevirtual 279, 3) := by decide +kernel
theorem dX12_tellsActs_19 : decode cX12_tellsActs 19 = .ok (.bipush 7, 2) := by decide +kernel
theorem dX12_tellsActs_21 : decode cX12_tellsActs 21 = .ok (.ixor, 1) := by decide +kernel
theorem dX12_tellsActs_22 : decode cX12_tellsActs 22 = .ok (.ireturn, 1) := by decide +kernel
theorem dX12_tellsActs_23 : decode cX12_tellsActs 23 = .ok (.aload_n 0, 1) := by decide +kernel
theorem dX12_tellsActs_24 : decode cX12_tellsActs 24 = .ok (.getfield 255, 3) := by decide +kernel
theorem dX12_tellsActs_27 : decode cX12_tellsActs 27 = .ok (.iconst 4, 1) := by decide +kernel
theorem dX12_tellsActs_28 : decode cX12_tellsActs 28 = .ok (.if_icmp .ne 25, 3) := by decide +kernel
theorem dX12_tellsActs_31 : decode cX12_tellsActs 31 = .ok (.aload_n 0, 1) := by decide +kernel
theorem dX12_tellsActs_32 : decode cX12_tellsActs 32 = .ok (.bipush 41, 2) := by decide +kernel
theorem dX12_tellsActs_34 : decode cX12_tellsActs 34 = .ok (.invokevirtual 249, 3) := by decide +kernel
theorem dX12_tellsActs_37 : decode cX12_tellsActs 37 = .ok (.aload_n 0, 1) := by decide +kernel
theorem dX12_tellsActs_38 : decode cX12_tellsActs 38 = .ok (.iload_n 1, 1) := by decide +kernel
theorem dX12_tellsActs_39 : decode cX12_tellsActs 39 = .ok (.iconst 1, 1) := by decide +kernel
theorem dX12_tellsActs_40 : decode cX12_tellsActs 40 = .ok (.isub, 1) := by decide +kernel
theorem dX12_tellsActs_41 : decode cX12_tellsActs 41 = .ok (.invokevirtual 279, 3) := by decide +kernel
theorem dX12_tellsActs_44 : decode cX12_tellsActs 44 = .ok (.istore_n 2, 1) := by decide +kernel
theorem dX12_tellsActs_45 : decode cX12_tellsActs 45 = .ok (.iload_n 2, 1) := by decide +kernel
theorem dX12_tellsActs_46 : decode cX12_tellsActs 46 = .ok (.aload_n 0, 1) := by decide +kernel
theorem dX12_tellsActs_47 : decode cX12_tellsActs 47 = .ok (.iconst 2, 1) := by decide +kernel
theorem dX12_tellsActs_48 : decode cX12_tellsActs 48 = .ok (.invokevirtual 264, 3) := by decide +kernel
theorem dX12_tellsActs_51 : decode cX12_tellsActs 51 = .ok (.iadd, 1) := by decide +kernel
theorem dX12_tellsActs_52 : decode cX12_tellsActs 52 = .ok (.ireturn, 1) := by decide +kernel
theorem dX12_tellsActs_53 : decode cX12_tellsActs 53 = .ok (.aload_n 0, 1) := by decide +kernel
theorem dX12_tellsActs_54 : decode cX12_tellsActs 54 = .ok (.iload_n 1, 1) := by decide +kernel
theorem dX12_tellsActs_55 : decode cX12_tellsActs 55 = .ok (.invokevirtual 279, 3) := by decide +kernel
theorem dX12_tellsActs_58 : decode cX12_tellsActs 58 = .ok (.ireturn, 1) := by decide +kernel
theorem dX12_act_0 : decode cX12_act 0 = .ok (.aload_n 0, 1) := by decide +kernel
theorem dX12_act_1 : decode cX12_act 1 = .ok (.iconst 0, 1) := by decide +kernel
theorem dX12_act_2 : decode cX12_act 2 = .ok (.putfield 246, 3) := by decide +kernel
theorem dX12_act_5 : decode cX12_act 5 = .ok (.aload_n 0, 1) := by decide +kernel
theorem dX12_act_6 : decode cX12_act 6 = .ok (.iload_n 1, 1) := by decide +kernel
theorem dX12_act_7 : decode cX12_act 7 = .ok (.invokevirtual 163, 3) := by decide +kernel
theorem dX12_act_10 : decode cX12_act 10 = .ok (.ifCond .eq 12, 3) := by decide +kernel
theorem dX12_act_13 : decode cX12_act 13 = .ok (.iload_n 2, 1) := by decide +kernel
theorem dX12_act_14 : decode cX12_act 14 = .ok (.iconst 0, 1) := by decide +kernel
theorem dX12_act_15 : decode cX12_act 15 = .ok (.iconst 2, 1) := by decide +kernel
theorem dX12_act_16 : decode cX12_act 16 = .ok (.invokestatic 51, 3) := by decide +kernel
theorem dX12_act_19 : decode cX12_act 19 = .ok (.ifCond .ne 5, 3) := by decide +kernel
theorem dX12_act_22 : decode cX12_act 22 = .ok (.iconst 0, 1) := by decide +kernel
theorem dX12_act_23 : decode cX12_act 23 = .ok (.ireturn, 1) := by decide +kernel
theorem dX12_act_24 : decode cX12_act 24 = .ok (.aload_n 0, 1) := by decide +kernel
theorem dX12_act_25 : decode cX12_act 25 = .ok (.aload_n 0, 1) := by decide +kernel
theorem dX12_act_26 : decode cX12_act 26 = .ok (.getfield 9, 3) := by decide +kernel
theorem dX12_act_29 : decode cX12_act 29 = .ok (.sipush 150, 3) := by decide +kernel
theorem dX12_act_32 : decode cX12_act 32 = .ok (.iload_n 1, 1) := by decide +kernel
theorem dX12_act_33 : decode cX12_act 33 = .ok (.iadd, 1) := by decide +kernel
theorem dX12_act_34 : decode cX12_act 34 = .ok (.iaload, 1) := by decide +kernel
theorem dX12_act_35 : decode cX12_act 35 = .ok (.putfield 255, 3) := by decide +kernel
theorem dX12_act_38 : decode cX12_act 38 = .ok (.aload_n 0, 1) := by decide +kernel
theorem dX12_act_39 : decode cX12_act 39 = .ok (.iload_n 1, 1) := by decide +kernel
theorem dX12_act_40 : decode cX12_act 40 = .ok (.putfield 252, 3) := by decide +kernel
theorem dX12_act_43 : decode cX12_act 43 = .ok (.aload_n 0, 1) := by decide +kernel
theorem dX12_act_44 : decode cX12_act 44 = .ok (.aload_n 0, 1) := by decide +kernel
theorem dX12_act_45 : decode cX12_act 45 = .ok (.getfield 9, 3) := by decide +kernel
theorem dX12_act_48 : decode cX12_act 48 = .ok (.sipush 156, 3) := by decide +kernel
theorem dX12_act_51 : decode cX12_act 51 = .ok (.iload_n 1, 1) := by decide +kernel
theorem dX12_act_52 : decode cX12_act 52 = .ok (.iadd, 1) := by decide +kernel
theorem dX12_act_53 : decode cX12_act 53 = .ok (.iaload, 1) := by decide +kernel
theorem dX12_act_54 : decode cX12_act 54 = .ok (.putfield 267, 3) := by decide +kernel
theorem dX12_act_57 : decode cX12_act 57 = .ok (.iload_n 2, 1) := by decide +kernel
theorem dX12_act_58 : decode cX12_act 58 = .ok (.ifCond .ne 11, 3) := by decide +kernel
theorem dX12_act_61 : decode cX12_act 61 = .ok (.aload_n 0, 1) := by decide +kernel
theorem dX12_act_62 : decode cX12_act 62 = .ok (.iload_n 3, 1) := by decide +kernel
theorem dX12_act_63 : decode cX12_act 63 = .ok (.invokevirtual 264, 3) := by decide +kernel
theorem dX12_act_66 : decode cX12_act 66 = .ok (.goto 21, 3) := by decide +kernel
theorem dX12_act_69 : decode cX12_act 69 = .ok (.iload_n 2, 1) := by decide +kernel
theorem dX12_act_70 : decode cX12_act 70 = .ok (.iconst 1, 1) := by decide +kernel
theorem dX12_act_71 : decode cX12_act 71 = .ok (.if_icmp .ne 11, 3) := by decide +kernel
theorem dX12_act_74 : decode cX12_act 74 = .ok (.aload_n 0, 1) := by decide +kernel
theorem dX12_act_75 : decode cX12_act 75 = .ok (.iload_n 3, 1) := by decide +kernel
theorem dX12_act_76 : decode cX12_act 76 = .ok (.invokevirtual 276, 3) := by decide +kernel
theorem dX12_act_79 : decode cX12_act 79 = .ok (.goto 8, 3) := by decide +kernel
theorem dX12_act_82 : decode cX12_act 82 = .ok (.aload_n 0, 1) := by decide +kernel
theorem dX12_act_83 : decode cX12_act 83 = .ok (.iload_n 3, 1) := by decide +kernel
theorem dX12_act_84 : decode cX12_act 84 = .ok (.invokevirtual 282, 3) := by decide +kernel
theorem dX12_act_87 : decode cX12_act 87 = .ok (.ireturn, 1) := by decide +kernel
theorem dX12_trace_0 : decode cX12_trace 0 = .ok (.iload_n 1, 1) := by decide +kernel
theorem dX12_trace_1 : decode cX12_trace 1 = .ok (.iconst 0, 1) := by decide +kernel
theorem dX12_trace_2 : decode cX12_trace 2 = .ok (.aload_n 0, 1) := by decide +kernel
theorem dX12_trace_3 : decode cX12_trace 3 = .ok (.getfield 246, 3) := by decide +kernel
theorem dX12_trace_6 : decode cX12_trace 6 = .ok (.bipush 20, 2) := by decide +kernel
theorem dX12_trace_8 : decode cX12_trace 8 = .ok (.if_icmp .ge 10, 3) := by decide +kernel
theorem dX12_trace_11 : decode cX12_trace 11 = .ok (.aload_n 0, 1) := by decide +kernel
theorem dX12_trace_12 : decode cX12_trace 12 = .ok (.getfield 246, 3) := by decide +kernel
theorem dX12_trace_15 : decode cX12_trace 15 = .ok (.goto 5, 3) := by decide +kernel
theorem dX12_trace_18 : decode cX12_trace 18 = .ok (.bipush 20, 2) := by decide +kernel
theorem dX12_trace_20 : decode cX12_trace 20 = .ok (.iconst 1, 1) := by decide +kernel
theorem dX12_trace_21 : decode cX12_trace 21 = .ok (.isub, 1) := by decide +kernel
theorem dX12_trace_22 : decode cX12_trace 22 = .ok (.invokestatic 51, 3) := by decide +kernel
theorem dX12_trace_25 : decode cX12_trace 25 = .ok (.ifCond .eq 12, 3) := by decide +kernel
theorem dX12_trace_28 : decode cX12_trace 28 = .ok (.aload_n 0, 1) := by decide +kernel
theorem dX12_trace_29 : decode cX12_trace 29 = .ok (.getfield 44, 3) := by decide +kernel
theorem dX12_trace_32 : decode cX12_trace 32 = .ok (.iload_n 1, 1) := by decide +kernel
theorem dX12_trace_33 : decode cX12_trace 33 = .ok (.iaload, 1) := by decide +kernel
theorem dX12_trace_34 : decode cX12_trace 34 = .ok (.goto 4, 3) := by decide +kernel
theorem dX12_trace_37 : decode cX12_trace 37 = .ok (.iconst (-1), 1) := by decide +kernel
theorem dX12_trace_38 : decode cX12_trace 38 = .ok (.ireturn, 1) := by decide +kernel
theorem dX12_as_0 : decode cX12_as 0 = .ok (.aload_n 0, 1) := by decide +kernel
theorem dX12_as_1 : decode cX12_as 1 = .ok (.iload_n 1, 1) := by decide +kernel
theorem dX12_as_2 : decode cX12_as 2 = .ok (.invokevirtual 163, 3) := by decide +kernel
theorem dX12_as_5 : decode cX12_as 5 = .ok (.ifCond .eq 13, 3) := by decide +kernel
theorem dX12_as_8 : decode cX12_as 8 = .ok (.iload_n 2, 1) := by decide +kernel
theorem dX12_as_9 : decode cX12_as 9 = .ok (.iconst 0, 1) := by decide +kernel
theorem dX12_as_10 : decode cX12_as 10 = .ok (.bipush 6, 2) := by decide +kernel
theorem dX12_as_12 : decode cX12_as 12 = .ok (.invokestatic 51, 3) := by decide +kernel
theorem dX12_as_15 : decode cX12_as 15 = .ok (.ifCond .ne 5, 3) := by decide +kernel
theorem dX12_as_18 : decode cX12_as 18 = .ok (.iconst (-1), 1) := by decide +kernel
theorem dX12_as_19 : decode cX12_as 19 = .ok (.ireturn, 1) := by decide +kernel
theorem dX12_as_20 : decode cX12_as 20 = .ok (.aload_n 0, 1) := by decide +kernel
theorem dX12_as_21 : decode cX12_as 21 = .ok (.getfield 9, 3) := by decide +kernel
theorem dX12_as_24 : decode cX12_as 24 = .ok (.sipush 150, 3) := by decide +kernel
theorem dX12_as_27 : decode cX12_as 27 = .ok (.iload_n 1, 1) := by decide +kernel
theorem dX12_as_28 : decode cX12_as 28 = .ok (.iadd, 1) := by decide +kernel
theorem dX12_as_29 : decode cX12_as 29 = .ok (.iaload, 1) := by decide +kernel
theorem dX12_as_30 : decode cX12_as 30 = .ok (.iload_n 2, 1) := by decide +kernel
theorem dX12_as_31 : decode cX12_as 31 = .ok (.invokestatic 258, 3) := by decide +kernel
theorem dX12_as_34 : decode cX12_as 34 = .ok (.ifCond .eq 16, 3) := by decide +kernel
theorem dX12_as_37 : decode cX12_as 37 = .ok (.aload_n 0, 1) := by decide +kernel
theorem dX12_as_38 : decode cX12_as 38 = .ok (.getfield 9, 3) := by decide +kernel
theorem dX12_as_41 : decode cX12_as 41 = .ok (.sipush 156, 3) := by decide +kernel
theorem dX12_as_44 : decode cX12_as 44 = .ok (.iload_n 1, 1) := by decide +kernel
theorem dX12_as_45 : decode cX12_as 45 = .ok (.iadd, 1) := by decide +kernel
theorem dX12_as_46 : decode cX12_as 46 = .ok (.iaload, 1) := by decide +kernel
theorem dX12_as_47 : decode cX12_as 47 = .ok (.goto 5, 3) := by decide +kernel
theorem dX12_as_50 : decode cX12_as 50 = .ok (.bipush (-6), 2) := by decide +kernel
theorem dX12_as_52 : decode cX12_as 52 = .ok (.ireturn, 1) := by decide +kernel
theorem dX12_image_0 : decode cX12_image 0 = .ok (.iconst 0, 1) := by decide +kernel
theorem dX12_image_1 : decode cX12_image 1 = .ok (.istore_n 1, 1) := by decide +kernel
theorem dX12_image_2 : decode cX12_image 2 = .ok (.iload_n 1, 1) := by decide +kernel
theorem dX12_image_3 : decode cX12_image 3 = .ok (.sipush 940, 3) := by decide +kernel
theorem dX12_image_6 : decode cX12_image 6 = .ok (.if_icmp .ge 21, 3) := by decide +kernel
theorem dX12_image_9 : decode cX12_image 9 = .ok (.aload_n 0, 1) := by decide +kernel
theorem dX12_image_10 : decode cX12_image 10 = .ok (.getfield 15, 3) := by decide +kernel
theorem dX12_image_13 : decode cX12_image 13 = .ok (.iload_n 1, 1) := by decide +kernel
theorem dX12_image_14 : decode cX12_image 14 = .ok (.aload_n 0, 1) := by decide +kernel
theorem dX12_image_15 : decode cX12_image 15 = .ok (.getfield 9, 3) := by decide +kernel
theorem dX12_image_18 : decode cX12_image 18 = .ok (.iload_n 1, 1) := by decide +kernel
theorem dX12_image_19 : decode cX12_image 19 = .ok (.iaload, 1) := by decide +kernel
theorem dX12_image_20 : decode cX12_image 20 = .ok (.iastore, 1) := by decide +kernel
theorem dX12_image_21 : decode cX12_image 21 = .ok (.iinc 1 1, 3) := by decide +kernel
theorem dX12_image_24 : decode cX12_image 24 = .ok (.goto (-22), 3) := by decide +kernel
