theorem dX12_factor_34 : decode cX12_factor 34 = .ok (.iconst 1, 1) := by decide +kernel
theorem dX12_factor_35 : decode cX12_factor 35 = .ok (.goto 4, 3) := by decide +kernel
theorem dX12_factor_38 : decode cX12_factor 38 = .ok (.iconst 0, 1) := by decide +kernel
theorem dX12_factor_39 : decode cX12_factor 39 = .ok (.putfield 67, 3) := by decide +kernel
theorem dX12_factor_42 : decode cX12_factor 42 = .ok (.aload_n 0, 1) := by decide +kernel
theorem dX12_factor_43 : decode cX12_factor 43 = .ok (.dup, 1) := by decide +kernel
theorem dX12_factor_44 : decode cX12_factor 44 = .ok (.getfield 91, 3) := by decide +kernel
theorem dX12_factor_47 : decode cX12_factor 47 = .ok (.iconst 1, 1) := by decide +kernel
theorem dX12_factor_48 : decode cX12_factor 48 = .ok (.iadd, 1) := by decide +kernel
theorem dX12_factor_49 : decode cX12_factor 49 = .ok (.putfield 91, 3) := by decide +kernel
theorem dX12_factor_52 : decode cX12_factor 52 = .ok (.aload_n 0, 1) := by decide +kernel
theorem dX12_factor_53 : decode cX12_factor 53 = .ok (.dup, 1) := by decide +kernel
theorem dX12_factor_54 : decode cX12_factor 54 = .ok (.getfield 61, 3) := by decide +kernel
theorem dX12_factor_57 : decode cX12_factor 57 = .ok (.aload_n 0, 1) := by decide +kernel
theorem dX12_factor_58 : decode cX12_factor 58 = .ok (.getfield 67, 3) := by decide +kernel
theorem dX12_factor_61 : decode cX12_factor 61 = .ok (.ifCond .eq 7, 3) := by decide +kernel
theorem dX12_factor_64 : decode cX12_factor 64 = .ok (.iconst 0, 1) := by decide +kernel
theorem dX12_factor_65 : decode cX12_factor 65 = .ok (.goto 4, 3) := by decide +kernel
theorem dX12_factor_68 : decode cX12_factor 68 = .ok (.iconst 1, 1) := by decide +kernel
theorem dX12_factor_69 : decode cX12_factor 69 = .ok (.iadd, 1) := by decide +kernel
theorem dX12_factor_70 : decode cX12_factor 70 = .ok (.putfield 61, 3) := by decide +kernel
theorem dX12_factor_73 : decode cX12_factor 73 = .ok (.iload_n 1, 1) := by decide +kernel
theorem dX12_factor_74 : decode cX12_factor 74 = .ok (.bipush 33, 2) := by decide +kernel
theorem dX12_factor_76 : decode cX12_factor 76 = .ok (.if_icmp .ne 15, 3) := by decide +kernel
theorem dX12_factor_79 : decode cX12_factor 79 = .ok (.aload_n 0, 1) := by decide +kernel
theorem dX12_factor_80 : decode cX12_factor 80 = .ok (.invokevirtual 94, 3) := by decide +kernel
theorem dX12_factor_83 : decode cX12_factor 83 = .ok (.aload_n 0, 1) := by decide +kernel
theorem dX12_factor_84 : decode cX12_factor 84 = .ok (.iconst (-1), 1) := by decide +kernel
theorem dX12_factor_85 : decode cX12_factor 85 = .ok (.invokevirtual 97, 3) := by decide +kernel
theorem dX12_factor_88 : decode cX12_factor 88 = .ok (.goto 13, 3) := by decide +kernel
theorem dX12_factor_91 : decode cX12_factor 91 = .ok (.aload_n 0, 1) := by decide +kernel
theorem dX12_factor_92 : decode cX12_factor 92 = .ok (.invokevirtual 100, 3) := by decide +kernel
theorem dX12_factor_95 : decode cX12_factor 95 = .ok (.aload_n 0, 1) := by decide +kernel
theorem dX12_factor_96 : decode cX12_factor 96 = .ok (.bipush 41, 2) := by decide +kernel
theorem dX12_factor_98 : decode cX12_factor 98 = .ok (.invokevirtual 84, 3) := by decide +kernel
theorem dX12_factor_101 : decode cX12_factor 101 = .ok (.aload_n 0, 1) := by decide +kernel
theorem dX12_factor_102 : decode cX12_factor 102 = .ok (.dup, 1) := by decide +kernel
theorem dX12_factor_103 : decode cX12_factor 103 = .ok (.getfield 91, 3) := by decide +kernel
theorem dX12_factor_106 : decode cX12_factor 106 = .ok (.iconst 1, 1) := by decide +kernel
theorem dX12_factor_107 : decode cX12_factor 107 = .ok (.isub, 1) := by decide +kernel
theorem dX12_factor_108 : decode cX12_factor 108 = .ok (.putfield 91, 3) := by decide +kernel
theorem dX12_factor_111 : decode cX12_factor 111 = .ok (.return_, 1) := by decide +kernel
theorem dX12_factor_112 : decode cX12_factor 112 = .ok (.aload_n 0, 1) := by decide +kernel
theorem dX12_factor_113 : decode cX12_factor 113 = .ok (.ldc 103, 2) := by decide +kernel
theorem dX12_factor_115 : decode cX12_factor 115 = .ok (.invokevirtual 105, 3) := by decide +kernel
theorem dX12_factor_118 : decode cX12_factor 118 = .ok (.istore_n 2, 1) := by decide +kernel
theorem dX12_factor_119 : decode cX12_factor 119 = .ok (.aload_n 0, 1) := by decide +kernel
theorem dX12_factor_120 : decode cX12_factor 120 = .ok (.iload_n 2, 1) := by decide +kernel
theorem dX12_factor_121 : decode cX12_factor 121 = .ok (.iconst (-1), 1) := by decide +kernel
theorem dX12_factor_122 : decode cX12_factor 122 = .ok (.if_icmp .ne 7, 3) := by decide +kernel
theorem dX12_factor_125 : decode cX12_factor 125 = .ok (.iconst 1, 1) := by decide +kernel
theorem dX12_factor_126 : decode cX12_factor 126 = .ok (.goto 4, 3) := by decide +kernel
theorem dX12_factor_129 : decode cX12_factor 129 = .ok (.iconst 0, 1) := by decide +kernel
theorem dX12_factor_130 : decode cX12_factor 130 = .ok (.putfield 67, 3) := by decide +kernel
theorem dX12_factor_133 : decode cX12_factor 133 = .ok (.aload_n 0, 1) := by decide +kernel
theorem dX12_factor_134 : decode cX12_factor 134 = .ok (.getfield 67, 3) := by decide +kernel
theorem dX12_factor_137 : decode cX12_factor 137 = .ok (.ifCond .eq 7, 3) := by decide +kernel
theorem dX12_factor_140 : decode cX12_factor 140 = .ok (.iconst 0, 1) := by decide +kernel
theorem dX12_factor_141 : decode cX12_factor 141 = .ok (.goto 9, 3) := by decide +kernel
theorem dX12_factor_144 : decode cX12_factor 144 = .ok (.aload_n 0, 1) := by decide +kernel
theorem dX12_factor_145 : decode cX12_factor 145 = .ok (.ldc 109, 2) := by decide +kernel
theorem dX12_factor_147 : decode cX12_factor 147 = .ok (.invokevirtual 105, 3) := by decide +kernel
theorem dX12_factor_150 : decode cX12_factor 150 = .ok (.istore_n 3, 1) := by decide +kernel
theorem dX12_factor_151 : decode cX12_factor 151 = .ok (.aload_n 0, 1) := by decide +kernel
theorem dX12_factor_152 : decode cX12_factor 152 = .ok (.aload_n 0, 1) := by decide +kernel
theorem dX12_factor_153 : decode cX12_factor 153 = .ok (.getfield 67, 3) := by decide +kernel
theorem dX12_factor_156 : decode cX12_factor 156 = .ok (.ifCond .ne 8, 3) := by decide +kernel
theorem dX12_factor_159 : decode cX12_factor 159 = .ok (.iload_n 3, 1) := by decide +kernel
theorem dX12_factor_160 : decode cX12_factor 160 = .ok (.iconst (-1), 1) := by decide +kernel
theorem dX12_factor_161 : decode cX12_factor 161 = .ok (.if_icmp .ne 7, 3) := by decide +kernel
theorem dX12_factor_164 : decode cX12_factor 164 = .ok (.iconst 1, 1) := by decide +kernel
theorem dX12_factor_165 : decode cX12_factor 165 = .ok (.goto 4, 3) := by decide +kernel
theorem dX12_factor_168 : decode cX12_factor 168 = .ok (.iconst 0, 1) := by decide +kernel
theorem dX12_factor_169 : decode cX12_factor 169 = .ok (.putfield 67, 3) := by decide +kernel
theorem dX12_factor_172 : decode cX12_factor 172 = .ok (.aload_n 0, 1) := by decide +kernel
theorem dX12_factor_173 : decode cX12_factor 173 = .ok (.invokevirtual 111, 3) := by decide +kernel
theorem dX12_factor_176 : decode cX12_factor 176 = .ok (.istore 4, 2) := by decide +kernel
theorem dX12_factor_178 : decode cX12_factor 178 = .ok (.aload_n 0, 1) := by decide +kernel
theorem dX12_factor_179 : decode cX12_factor 179 = .ok (.iload_n 2, 1) := by decide +kernel
theorem dX12_factor_180 : decode cX12_factor 180 = .ok (.bipush 8, 2) := by decide +kernel
theorem dX12_factor_182 : decode cX12_factor 182 = .ok (.iload_n 3, 1) := by decide +kernel
theorem dX12_factor_183 : decode cX12_factor 183 = .ok (.imul, 1) := by decide +kernel
theorem dX12_factor_184 : decode cX12_factor 184 = .ok (.iadd, 1) := by decide +kernel
theorem dX12_factor_185 : decode cX12_factor 185 = .ok (.bipush 32, 2) := by decide +kernel
theorem dX12_factor_187 : decode cX12_factor 187 = .ok (.iload 4, 2) := by decide +kernel
theorem dX12_factor_189 : decode cX12_factor 189 = .ok (.imul, 1) := by decide +kernel
theorem dX12_factor_190 : decode cX12_factor 190 = .ok (.iadd, 1) := by decide +kernel
theorem dX12_factor_191 : decode cX12_factor 191 = .ok (.invokevirtual 97, 3) := by decide +kernel
theorem dX12_factor_194 : decode cX12_factor 194 = .ok (.return_, 1) := by decide +kernel
theorem dX12_every_0 : decode cX12_every 0 = .ok (.aload_n 0, 1) := by decide +kernel
theorem dX12_every_1 : decode cX12_every 1 = .ok (.invokevirtual 94, 3) := by decide +kernel
theorem dX12_every_4 : decode cX12_every 4 = .ok (.aload_n 0, 1) := by decide +kernel
theorem dX12_every_5 : decode cX12_every 5 = .ok (.getfield 67, 3) := by decide +kernel
theorem dX12_every_8 : decode cX12_every 8 = .ok (.ifCond .ne 35, 3) := by decide +kernel
theorem dX12_every_11 : decode cX12_every 11 = .ok (.aload_n 0, 1) := by decide +kernel
theorem dX12_every_12 : decode cX12_every 12 = .ok (.invokevirtual 71, 3) := by decide +kernel
theorem dX12_every_15 : decode cX12_every 15 = .ok (.bipush 38, 2) := by decide +kernel
theorem dX12_every_17 : decode cX12_every 17 = .ok (.if_icmp .ne 26, 3) := by decide +kernel
theorem dX12_every_20 : decode cX12_every 20 = .ok (.aload_n 0, 1) := by decide +kernel
theorem dX12_every_21 : decode cX12_every 21 = .ok (.dup, 1) := by decide +kernel
theorem dX12_every_22 : decode cX12_every 22 = .ok (.getfield 61, 3) := by decide +kernel
theorem dX12_every_25 : decode cX12_every 25 = .ok (.iconst 1, 1) := by decide +kernel
theorem dX12_every_26 : decode cX12_every 26 = .ok (.iadd, 1) := by decide +kernel
theorem dX12_every_27 : decode cX12_every 27 = .ok (.putfield 61, 3) := by decide +kernel
theorem dX12_every_30 : decode cX12_every 30 = .ok (.aload_n 0, 1) := by decide +kernel
theorem dX12_every_31 : decode cX12_every 31 = .ok (.invokevirtual 94, 3) := by decide +kernel
theorem dX12_every_34 : decode cX12_every 34 = .ok (.aload_n 0, 1) := by decide +kernel
theorem dX12_every_35 : decode cX12_every 35 = .ok (.bipush (-2), 2) := by decide +kernel
theorem dX12_every_37 : decode cX12_every 37 = .ok (.invokevirtual 97, 3) := by decide +kernel
theorem dX12_every_40 : decode cX12_every 40 = .ok (.goto (-36), 3) := by decide +kernel
theorem dX12_every_43 : decode cX12_every 43 = .ok (.return_, 1) := by decide +kernel
theorem dX12_some_0 : decode cX12_some 0 = .ok (.aload_n 0, 1) := by decide +kernel
theorem dX12_some_1 : decode cX12_some 1 = .ok (.invokevirtual 114, 3) := by decide +kernel
theorem dX12_some_4 : decode cX12_some 4 = .ok (.aload_n 0, 1) := by decide +kernel
theorem dX12_some_5 : decode cX12_some 5 = .ok (.getfield 67, 3) := by decide +kernel
theorem dX12_some_8 : decode cX12_some 8 = .ok (.ifCond .ne 35, 3) := by decide +kernel
theorem dX12_some_11 : decode cX12_some 11 = .ok (.aload_n 0, 1) := by decide +kernel
theorem dX12_some_12 : decode cX12_some 12 = .ok (.invokevirtual 71, 3) := by decide +kernel
theorem dX12_some_15 : decode cX12_some 15 = .ok (.bipush 124, 2) := by decide +kernel
theorem dX12_some_17 : decode cX12_some 17 = .ok (.if_icmp .ne 26, 3) := by decide +kernel
theorem dX12_some_20 : decode cX12_some 20 = .ok (.aload_n 0, 1) := by decide +kernel
theorem dX12_some_21 : decode cX12_some 21 = .ok (.dup, 1) := by decide +kernel
theorem dX12_some_22 : decode cX12_some 22 = .ok (.getfield 61, 3) := by decide +kernel
theorem dX12_some_25 : decode cX12_some 25 = .ok (.iconst 1, 1) := by decide +kernel
theorem dX12_some_26 : decode cX12_some 26 = .ok (.iadd, 1) := by decide +kernel
theorem dX12_some_27 : decode cX12_some 27 = .ok (.putfield 61, 3) := by decide +kernel
theorem dX12_some_30 : decode cX12_some 30 = .ok (.aload_n 0, 1) := by decide +kernel
theorem dX12_some_31 : decode cX12_some 31 = .ok (.invokevirtual 114, 3) := by decide +kernel
theorem dX12_some_34 : decode cX12_some 34 = .ok (.aload_n 0, 1) := by decide +kernel
theorem dX12_some_35 : decode cX12_some 35 = .ok (.bipush (-3), 2) := by decide +kernel
theorem dX12_some_37 : decode cX12_some 37 = .ok (.invokevirtual 97, 3) := by decide +kernel
theorem dX12_some_40 : decode cX12_some 40 = .ok (.goto (-36), 3) := by decide +kernel
theorem dX12_some_43 : decode cX12_some 43 = .ok (.return_, 1) := by decide +kernel
theorem dX12_much_0 : decode cX12_much 0 = .ok (.aload_n 0, 1) := by decide +kernel
theorem dX12_much_1 : decode cX12_much 1 = .ok (.aload_n 2, 1) := by decide +kernel
theorem dX12_much_2 : decode cX12_much 2 = .ok (.invokevirtual 117, 3) := by decide +kernel
theorem dX12_much_5 : decode cX12_much 5 = .ok (.aload_n 0, 1) := by decide +kernel
theorem dX12_much_6 : decode cX12_much 6 = .ok (.invokevirtual 111, 3) := by decide +kernel
theorem dX12_much_9 : decode cX12_much 9 = .ok (.istore_n 3, 1) := by decide +kernel
theorem dX12_much_10 : decode cX12_much 10 = .ok (.aload_n 0, 1) := by decide +kernel
theorem dX12_much_11 : decode cX12_much 11 = .ok (.bipush 32, 2) := by decide +kernel
theorem dX12_much_13 : decode cX12_much 13 = .ok (.invokevirtual 84, 3) := by decide +kernel
theorem dX12_much_16 : decode cX12_much 16 = .ok (.aload_n 0, 1) := by decide +kernel
theorem dX12_much_17 : decode cX12_much 17 = .ok (.invokevirtual 100, 3) := by decide +kernel
theorem dX12_much_20 : decode cX12_much 20 = .ok (.aload_n 0, 1) := by decide +kernel
theorem dX12_much_21 : decode cX12_much 21 = .ok (.iload_n 1, 1) := by decide +kernel
theorem dX12_much_22 : decode cX12_much 22 = .ok (.iload_n 3, 1) := by decide +kernel
theorem dX12_much_23 : decode cX12_much 23 = .ok (.isub, 1) := by decide +kernel
theorem dX12_much_24 : decode cX12_much 24 = .ok (.invokevirtual 97, 3) := by decide +kernel
theorem dX12_much_27 : decode cX12_much 27 = .ok (.return_, 1) := by decide +kernel
theorem dX12_tellsHere_0 : decode cX12_tellsHere 0 = .ok (.aload_n 0, 1) := by decide +kernel
theorem dX12_tellsHere_1 : decode cX12_tellsHere 1 = .ok (.aload_n 2, 1) := by decide +kernel
theorem dX12_tellsHere_2 : decode cX12_tellsHere 2 = .ok (.invokevirtual 117, 3) := by decide +kernel
theorem dX12_tellsHere_5 : decode cX12_tellsHere 5 = .ok (.aload_n 0, 1) := by decide +kernel
theorem dX12_tellsHere_6 : decode cX12_tellsHere 6 = .ok (.invokevirtual 111, 3) := by decide +kernel
theorem dX12_tellsHere_9 : decode cX12_tellsHere 9 = .ok (.istore_n 3, 1) := by decide +kernel
theorem dX12_tellsHere_10 : decode cX12_tellsHere 10 = .ok (.aload_n 0, 1) := by decide +kernel
theorem dX12_tellsHere_11 : decode cX12_tellsHere 11 = .ok (.getfield 67, 3) := by decide +kernel
theorem dX12_tellsHere_14 : decode cX12_tellsHere 14 = .ok (.ifCond .ne 15, 3) := by decide +kernel
theorem dX12_tellsHere_17 : decode cX12_tellsHere 17 = .ok (.aload_n 0, 1) := by decide +kernel
theorem dX12_tellsHere_18 : decode cX12_tellsHere 18 = .ok (.getfield 9, 3) := by decide +kernel
theorem dX12_tellsHere_21 : decode cX12_tellsHere 21 = .ok (.iload_n 1, 1) := by decide +kernel
theorem dX12_tellsHere_22 : decode cX12_tellsHere 22 = .ok (.aload_n 0, 1) := by decide +kernel
theorem dX12_tellsHere_23 : decode cX12_tellsHere 23 = .ok (.getfield 88, 3) := by decide +kernel
theorem dX12_tellsHere_26 : decode cX12_tellsHere 26 = .ok (.iadd, 1) := by decide +kernel
theorem dX12_tellsHere_27 : decode cX12_tellsHere 27 = .ok (.iload_n 3, 1) := by decide +kernel
theorem dX12_tellsHere_28 : decode cX12_tellsHere 28 = .ok (.iastore, 1) := by decide +kernel
theorem dX12_tellsHere_29 : decode cX12_tellsHere 29 = .ok (.return_, 1) := by decide +kernel
theorem dX12_clauseOfC_0 : decode cX12_clauseOfC 0 = .ok (.aload_n 0, 1) := by decide +kernel
theorem dX12_clauseOfC_1 : decode cX12_clauseOfC 1 = .ok (.ldc 121, 2) := by decide +kernel
theorem dX12_clauseOfC_3 : decode cX12_clauseOfC 3 = .ok (.invokevirtual 117, 3) := by decide +kernel
theorem dX12_clauseOfC_6 : decode cX12_clauseOfC 6 = .ok (.aload_n 0, 1) := by decide +kernel
theorem dX12_clauseOfC_7 : decode cX12_clauseOfC 7 = .ok (.invokevirtual 71, 3) := by decide +kernel
theorem dX12_clauseOfC_10 : decode cX12_clauseOfC 10 = .ok (.bipush 114, 2) := by decide +kernel
theorem dX12_clauseOfC_12 : decode cX12_clauseOfC 12 = .ok (.if_icmp .ne 15, 3) := by decide +kernel
theorem dX12_clauseOfC_15 : decode cX12_clauseOfC 15 = .ok (.aload_n 0, 1) := by decide +kernel
theorem dX12_clauseOfC_16 : decode cX12_clauseOfC 16 = .ok (.sipush 225, 3) := by decide +kernel
theorem dX12_clauseOfC_19 : decode cX12_clauseOfC 19 = .ok (.ldc 123, 2) := by decide +kernel
theorem dX12_clauseOfC_21 : decode cX12_clauseOfC 21 = .ok (.invokevirtual 125, 3) := by decide +kernel
theorem dX12_clauseOfC_24 : decode cX12_clauseOfC 24 = .ok (.goto 12, 3) := by decide +kernel
theorem dX12_clauseOfC_27 : decode cX12_clauseOfC 27 = .ok (.aload_n 0, 1) := by decide +kernel
theorem dX12_clauseOfC_28 : decode cX12_clauseOfC 28 = .ok (.sipush 230, 3) := by decide +kernel
theorem dX12_clauseOfC_31 : decode cX12_clauseOfC 31 = .ok (.ldc 129, 2) := by decide +kernel
theorem dX12_clauseOfC_33 : decode cX12_clauseOfC 33 = .ok (.invokevirtual 125, 3) := by decide +kernel
theorem dX12_clauseOfC_36 : decode cX12_clauseOfC 36 = .ok (.return_, 1) := by decide +kernel
theorem dX12_clauseHere_0 : decode cX12_clauseHere 0 = .ok (.aload_n 0, 1) := by decide +kernel
theorem dX12_clauseHere_1 : decode cX12_clauseHere 1 = .ok (.invokevirtual 71, 3) := by decide +kernel
theorem dX12_clauseHere_4 : decode cX12_clauseHere 4 = .ok (.lookupswitch 86 #[(99, 79), (108, 55), (114, 44), (119, 67)], 44) := by decide +kernel
theorem dX12_clauseHere_48 : decode cX12_clauseHere 48 = .ok (.aload_n 0, 1) := by decide +kernel
theorem dX12_clauseHere_49 : decode cX12_clauseHere 49 = .ok (.bipush (-10), 2) := by decide +kernel
theorem dX12_clauseHere_51 : decode cX12_clauseHere 51 = .ok (.ldc 131, 2) := by decide +kernel
theorem dX12_clauseHere_53 : decode cX12_clauseHere 53 = .ok (.invokevirtual 133, 3) := by decide +kernel
theorem dX12_clauseHere_56 : decode cX12_clauseHere 56 = .ok (.goto 39, 3) := by decide +kernel
theorem dX12_clauseHere_59 : decode cX12_clauseHere 59 = .ok (.aload_n 0, 1) := by decide +kernel
theorem dX12_clauseHere_60 : decode cX12_clauseHere 60 = .ok (.sipush (-200), 3) := by decide +kernel
theorem dX12_clauseHere_63 : decode cX12_clauseHere 63 = .ok (.ldc 136, 2) := by decide +kernel
theorem dX12_clauseHere_65 : decode cX12_clauseHere 65 = .ok (.invokevirtual 133, 3) := by decide +kernel
theorem dX12_clauseHere_68 : decode cX12_clauseHere 68 = .ok (.goto 27, 3) := by decide +kernel
theorem dX12_clauseHere_71 : decode cX12_clauseHere 71 = .ok (.aload_n 0, 1) := by decide +kernel
theorem dX12_clauseHere_72 : decode cX12_clauseHere 72 = .ok (.sipush 220, 3) := by decide +kernel
theorem dX12_clauseHere_75 : decode cX12_clauseHere 75 = .ok (.ldc 138, 2) := by decide +kernel
theorem dX12_clauseHere_77 : decode cX12_clauseHere 77 = .ok (.invokevirtual 125, 3) := by decide +kernel
theorem dX12_clauseHere_80 : decode cX12_clauseHere 80 = .ok (.goto 15, 3) := by decide +kernel
theorem dX12_clauseHere_83 : decode cX12_clauseHere 83 = .ok (.aload_n 0, 1) := by decide +kernel
theorem dX12_clauseHere_84 : decode cX12_clauseHere 84 = .ok (.invokevirtual 140, 3) := by decide +kernel
theorem dX12_clauseHere_87 : decode cX12_clauseHere 87 = .ok (.goto 8, 3) := by decide +kernel
theorem dX12_clauseHere_90 : decode cX12_clauseHere 90 = .ok (.aload_n 0, 1) := by decide +kernel
theorem dX12_clauseHere_91 : decode cX12_clauseHere 91 = .ok (.iconst 1, 1) := by decide +kernel
theorem dX12_clauseHere_92 : decode cX12_clauseHere 92 = .ok (.putfield 67, 3) := by decide +kernel
theorem dX12_clauseHere_95 : decode cX12_clauseHere 95 = .ok (.return_, 1) := by decide +kernel
theorem dX12_town_0 : decode cX12_town 0 = .ok (.aload_n 0, 1) := by decide +kernel
theorem dX12_town_1 : decode cX12_town 1 = .ok (.getfield 9, 3) := by decide +kernel
theorem dX12_town_4 : decode cX12_town 4 = .ok (.bipush 16, 2) := by decide +kernel
theorem dX12_town_6 : decode cX12_town 6 = .ok (.iaload, 1) := by decide +kernel
theorem dX12_town_7 : decode cX12_town 7 = .ok (.iconst 5, 1) := by decide +kernel
theorem dX12_town_8 : decode cX12_town 8 = .ok (.if_icmp .ne 6, 3) := by decide +kernel
theorem dX12_town_11 : decode cX12_town 11 = .ok (.bipush (-4), 2) := by decide +kernel
theorem dX12_town_13 : decode cX12_town 13 = .ok (.ireturn, 1) := by decide +kernel
theorem dX12_town_14 : decode cX12_town 14 = .ok (.aload_n 0, 1) := by decide +kernel
theorem dX12_town_15 : decode cX12_town 15 = .ok (.aload_n 0, 1) := by decide +kernel
theorem dX12_town_16 : decode cX12_town 16 = .ok (.getfield 9, 3) := by decide +kernel
theorem dX12_town_19 : decode cX12_town 19 = .ok (.bipush 16, 2) := by decide +kernel
theorem dX12_town_21 : decode cX12_town 21 = .ok (.iaload, 1) := by decide +kernel
theorem dX12_town_22 : decode cX12_town 22 = .ok (.putfield 88, 3) := by decide +kernel
theorem dX12_town_25 : decode cX12_town 25 = .ok (.aload_n 0, 1) := by decide +kernel
theorem dX12_town_26 : decode cX12_town 26 = .ok (.aload_n 0, 1) := by decide +kernel
theorem dX12_town_27 : decode cX12_town 27 = .ok (.getfield 9, 3) := by decide +kernel
theorem dX12_town_30 : decode cX12_town 30 = .ok (.bipush 19, 2) := by decide +kernel
theorem dX12_town_32 : decode cX12_town 32 = .ok (.iaload, 1) := by decide +kernel
theorem dX12_town_33 : decode cX12_town 33 = .ok (.putfield 64, 3) := by decide +kernel
theorem dX12_town_36 : decode cX12_town 36 = .ok (.aload_n 0, 1) := by decide +kernel
theorem dX12_town_37 : decode cX12_town 37 = .ok (.getfield 9, 3) := by decide +kernel
theorem dX12_town_40 : decode cX12_town 40 = .ok (.bipush 19, 2) := by decide +kernel
theorem dX12_town_42 : decode cX12_town 42 = .ok (.iconst 0, 1) := by decide +kernel
theorem dX12_town_43 : decode cX12_town 43 = .ok (.iastore, 1) := by decide +kernel
theorem dX12_town_44 : decode cX12_town 44 = .ok (.aload_n 0, 1) := by decide +kernel
theorem dX12_town_45 : decode cX12_town 45 = .ok (.getfield 9, 3) := by decide +kernel
theorem dX12_town_48 : decode cX12_town 48 = .ok (.sipush 220, 3) := by decide +kernel
theorem dX12_town_51 : decode cX12_town 51 = .ok (.aload_n 0, 1) := by decide +kernel
theorem dX12_town_52 : decode cX12_town 52 = .ok (.getfield 88, 3) := by decide +kernel
theorem dX12_town_55 : decode cX12_town 55 = .ok (.iadd, 1) := by decide +kernel
theorem dX12_town_56 : decode cX12_town 56 = .ok (.bipush 9, 2) := by decide +kernel
theorem dX12_town_58 : decode cX12_town 58 = .ok (.iastore, 1) := by decide +kernel
theorem dX12_town_59 : decode cX12_town 59 = .ok (.aload_n 0, 1) := by decide +kernel
theorem dX12_town_60 : decode cX12_town 60 = .ok (.getfield 9, 3) := by decide +kernel
theorem dX12_town_63 : decode cX12_town 63 = .ok (.sipush 225, 3) := by decide +kernel
theorem dX12_town_66 : decode cX12_town 66 = .ok (.aload_n 0, 1) := by decide +kernel
theorem dX12_town_67 : decode cX12_town 67 = .ok (.getfield 88, 3) := by decide +kernel
theorem dX12_town_70 : decode cX12_town 70 = .ok (.iadd, 1) := by decide +kernel
theorem dX12_town_71 : decode cX12_town 71 = .ok (.iconst 1, 1) := by decide +kernel
theorem dX12_town_72 : decode cX12_town 72 = .ok (.iastore, 1) := by decide +kernel
theorem dX12_town_73 : decode cX12_town 73 = .ok (.aload_n 0, 1) := by decide +kernel
theorem dX12_town_74 : decode cX12_town 74 = .ok (.getfield 9, 3) := by decide +kernel
theorem dX12_town_77 : decode cX12_town 77 = .ok (.sipush 230, 3) := by decide +kernel
theorem dX12_town_80 : decode cX12_town 80 = .ok (.aload_n 0, 1) := by decide +kernel
theorem dX12_town_81 : decode cX12_town 81 = .ok (.getfield 88, 3) := by decide +kernel
theorem dX12_town_84 : decode cX12_town 84 = .ok (.iadd, 1) := by decide +kernel
theorem dX12_town_85 : decode cX12_town 85 = .ok (.iconst 2, 1) := by decide +kernel
theorem dX12_town_86 : decode cX12_town 86 = .ok (.iastore, 1) := by decide +kernel
theorem dX12_town_87 : decode cX12_town 87 = .ok (.aload_n 0, 1) := by decide +kernel
theorem dX12_town_88 : decode cX12_town 88 = .ok (.getfield 9, 3) := by decide +kernel
theorem dX12_town_91 : decode cX12_town 91 = .ok (.sipush 235, 3) := by decide +kernel
theorem dX12_town_94 : decode cX12_town 94 = .ok (.aload_n 0, 1) := by decide +kernel
theorem dX12_town_95 : decode cX12_town 95 = .ok (.getfield 88, 3) := by decide +kernel
theorem dX12_town_98 : decode cX12_town 98 = .ok (.iadd, 1) := by decide +kernel
theorem dX12_town_99 : decode cX12_town 99 = .ok (.iconst 0, 1) := by decide +kernel
theorem dX12_town_100 : decode cX12_town 100 = .ok (.iastore, 1) := by decide +kernel
theorem dX12_town_101 : decode cX12_town 101 = .ok (.aload_n 0, 1) := by decide +kernel
theorem dX12_town_102 : decode cX12_town 102 = .ok (.iconst 0, 1) := by decide +kernel
theorem dX12_town_103 : decode cX12_town 103 = .ok (.putfield 61, 3) := by decide +kernel
theorem dX12_town_106 : decode cX12_town 106 = .ok (.aload_n 0, 1) := by decide +kernel
theorem dX12_town_107 : decode cX12_town 107 = .ok (.iconst 0, 1) := by decide +kernel
theorem dX12_town_108 : decode cX12_town 108 = .ok (.putfield 67, 3) := by decide +kernel
theorem dX12_town_111 : decode cX12_town 111 = .ok (.aload_n 0, 1) := by decide +kernel
theorem dX12_town_112 : decode cX12_town 112 = .ok (.iconst 0, 1) := by decide +kernel
theorem dX12_town_113 : decode cX12_town 113 = .ok (.putfield 91, 3) := by decide +kernel
theorem dX12_town_116 : decode cX12_town 116 = .ok (.iconst 1, 1) := by decide +kernel
theorem dX12_town_117 : decode cX12_town 117 = .ok (.istore_n 1, 1) := by decide +kernel
theorem dX12_town_118 : decode cX12_town 118 = .ok (.aload_n 0, 1) := by decide +kernel
theorem dX12_town_119 : decode cX12_town 119 = .ok (.invokevirtual 143, 3) := by decide +kernel
theorem dX12_town_122 : decode cX12_town 122 = .ok (.aload_n 0, 1) := by decide +kernel
theorem dX12_town_123 : decode cX12_town 123 = .ok (.getfield 67, 3) := by decide +kernel
theorem dX12_town_126 : decode cX12_town 126 = .ok (.ifCond .ne 38, 3) := by decide +kernel
theorem dX12_town_129 : decode cX12_town 129 = .ok (.iload_n 1, 1) := by decide +kernel
theorem dX12_town_130 : decode cX12_town 130 = .ok (.bipush 10, 2) := by decide +kernel
theorem dX12_town_132 : decode cX12_town 132 = .ok (.if_icmp .ge 32, 3) := by decide +kernel
theorem dX12_town_135 : decode cX12_town 135 = .ok (.aload_n 0, 1) := by decide +kernel
theorem dX12_town_136 : decode cX12_town 136 = .ok (.invokevirtual 71, 3) := by decide +kernel
theorem dX12_town_139 : decode cX12_town 139 = .ok (.bipush 59, 2) := by decide +kernel
theorem dX12_town_141 : decode cX12_town 141 = .ok (.if_icmp .ne 23, 3) := by decide +kernel
theorem dX12_town_144 : decode cX12_town 144 = .ok (.aload_n 0, 1) := by decide +kernel
theorem dX12_town_145 : decode cX12_town 145 = .ok (.dup, 1) := by decide +kernel
theorem dX12_town_146 : decode cX12_town 146 = .ok (.getfield 61, 3) := by decide +kernel
theorem dX12_town_149 : decode cX12_town 149 = .ok (.iconst 1, 1) := by decide +kernel
theorem dX12_town_150 : decode cX12_town 150 = .ok (.iadd, 1) := by decide +kernel
theorem dX12_town_151 : decode cX12_town 151 = .ok (.putfield 61, 3) := by decide +kernel
theorem dX12_town_154 : decode cX12_town 154 = .ok (.aload_n 0, 1) := by decide +kernel
theorem dX12_town_155 : decode cX12_town 155 = .ok (.invokevirtual 143, 3) := by decide +kernel
theorem dX12_town_158 : decode cX12_town 158 = .ok (.iinc 1 1, 3) := by decide +kernel
theorem dX12_town_161 : decode cX12_town 161 = .ok (.goto (-39), 3) := by decide +kernel
theorem dX12_town_164 : decode cX12_town 164 = .ok (.aload_n 0, 1) := by decide +kernel
theorem dX12_town_165 : decode cX12_town 165 = .ok (.getfield 67, 3) := by decide +kernel
theorem dX12_town_168 : decode cX12_town 168 = .ok (.ifCond .ne 14, 3) := by decide +kernel
theorem dX12_town_171 : decode cX12_town 171 = .ok (.aload_n 0, 1) := by decide +kernel
theorem dX12_town_172 : decode cX12_town 172 = .ok (.getfield 61, 3) := by decide +kernel
theorem dX12_town_175 : decode cX12_town 175 = .ok (.aload_n 0, 1) := by decide +kernel
theorem dX12_town_176 : decode cX12_town 176 = .ok (.getfield 64, 3) := by decide +kernel
theorem dX12_town_179 : decode cX12_town 179 = .ok (.if_icmp .eq 11, 3) := by decide +kernel
theorem dX12_town_182 : decode cX12_town 182 = .ok (.bipush (-10), 2) := by decide +kernel
theorem dX12_town_184 : decode cX12_town 184 = .ok (.aload_n 0, 1) := by decide +kernel
theorem dX12_town_185 : decode cX12_town 185 = .ok (.getfield 61, 3) := by decide +kernel
theorem dX12_town_188 : decode cX12_town 188 = .ok (.isub, 1) := by decide +kernel
theorem dX12_town_189 : decode cX12_town 189 = .ok (.ireturn, 1) := by decide +kernel
theorem dX12_town_190 : decode cX12_town 190 = .ok (.aload_n 0, 1) := by decide +kernel
theorem dX12_town_191 : decode cX12_town 191 = .ok (.getfield 9, 3) := by decide +kernel
theorem dX12_town_194 : decode cX12_town 194 = .ok (.bipush 16, 2) := by decide +kernel
theorem dX12_town_196 : decode cX12_town 196 = .ok (.dup2, 1) := by decide +kernel
theorem dX12_town_197 : decode cX12_town 197 = .ok (.iaload, 1) := by decide +kernel
theorem dX12_town_198 : decode cX12_town 198 = .ok (.iconst 1, 1) := by decide +kernel
theorem dX12_town_199 : decode cX12_town 199 = .ok (.iadd, 1) := by decide +kernel
theorem dX12_town_200 : decode cX12_town 200 = .ok (.iastore, 1) := by decide +kernel
theorem dX12_town_201 : decode cX12_town 201 = .ok (.aload_n 0, 1) := by decide +kernel
theorem dX12_town_202 : decode cX12_town 202 = .ok (.getfield 9, 3) := by decide +kernel
theorem dX12_town_205 : decode cX12_town 205 = .ok (.bipush 20, 2) := by decide +kernel
theorem dX12_town_207 : decode cX12_town 207 = .ok (.aload_n 0, 1) := by decide +kernel
theorem dX12_town_208 : decode cX12_town 208 = .ok (.getfield 88, 3) := by decide +kernel
theorem dX12_town_211 : decode cX12_town 211 = .ok (.iastore, 1) := by decide +kernel
theorem dX12_town_212 : decode cX12_town 212 = .ok (.aload_n 0, 1) := by decide +kernel
theorem dX12_town_213 : decode cX12_town 213 = .ok (.getfield 88, 3) := by decide +kernel
theorem dX12_town_216 : decode cX12_town 216 = .ok (.ireturn, 1) := by decide +kernel
theorem dX12_tellsOf_0 : decode cX12_tellsOf 0 = .ok (.aload_n 0, 1) := by decide +kernel
theorem dX12_tellsOf_1 : decode cX12_tellsOf 1 = .ok (.getfield 9, 3) := by decide +kernel
theorem dX12_tellsOf_4 : decode cX12_tellsOf 4 = .ok (.bipush 20, 2) := by decide +kernel
theorem dX12_tellsOf_6 : decode cX12_tellsOf 6 = .ok (.iaload, 1) := by decide +kernel
theorem dX12_tellsOf_7 : decode cX12_tellsOf 7 = .ok (.iconst (-1), 1) := by decide +kernel
theorem dX12_tellsOf_8 : decode cX12_tellsOf 8 = .ok (.if_icmp .ne 7, 3) := by decide +kernel
theorem dX12_tellsOf_11 : decode cX12_tellsOf 11 = .ok (.iload_n 2, 1) := by decide +kernel
theorem dX12_tellsOf_12 : decode cX12_tellsOf 12 = .ok (.goto 17, 3) := by decide +kernel
theorem dX12_tellsOf_15 : decode cX12_tellsOf 15 = .ok (.aload_n 0, 1) := by decide +kernel
theorem dX12_tellsOf_16 : decode cX12_tellsOf 16 = .ok (.getfield 9, 3) := by decide +kernel
theorem dX12_tellsOf_19 : decode cX12_tellsOf 19 = .ok (.iload_n 1, 1) := by decide +kernel
theorem dX12_tellsOf_20 : decode cX12_tellsOf 20 = .ok (.aload_n 0, 1) := by decide +kernel
theorem dX12_tellsOf_21 : decode cX12_tellsOf 21 = .ok (.getfield 9, 3) := by decide +kernel
theorem dX12_tellsOf_24 : decode cX12_tellsOf 24 = .ok (.bipush 20, 2) := by decide +kernel
theorem dX12_tellsOf_26 : decode cX12_tellsOf 26 = .ok (.iaload, 1) := by decide +kernel
theorem dX12_tellsOf_27 : decode cX12_tellsOf 27 = .ok (.iadd, 1) := by decide +kernel
theorem dX12_tellsOf_28 : decode cX12_tellsOf 28 = .ok (.iaload, 1) := by decide +kernel
theorem dX12_tellsOf_29 : decode cX12_tellsOf 29 = .ok (.ireturn, 1) := by decide +kernel
theorem dX12_looks_0 : decode cX12_looks 0 = .ok (.aload_n 0, 1) := by decide +kernel
theorem dX12_looks_1 : decode cX12_looks 1 = .ok (.getfield 21, 3) := by decide +kernel
theorem dX12_looks_4 : decode cX12_looks 4 = .ok (.iconst 0, 1) := by decide +kernel
theorem dX12_looks_5 : decode cX12_looks 5 = .ok (.iload_n 1, 1) := by decide +kernel
theorem dX12_looks_6 : decode cX12_looks 6 = .ok (.iastore, 1) := by decide +kernel
theorem dX12_looks_7 : decode cX12_looks 7 = .ok (.aload_n 0, 1) := by decide +kernel
theorem dX12_looks_8 : decode cX12_looks 8 = .ok (.getfield 21, 3) := by decide +kernel
theorem dX12_looks_11 : decode cX12_looks 11 = .ok (.iconst 1, 1) := by decide +kernel
theorem dX12_looks_12 : decode cX12_looks 12 = .ok (.iload_n 2, 1) := by decide +kernel
theorem dX12_looks_13 : decode cX12_looks 13 = .ok (.bipush 24, 2) := by decide +kernel
theorem dX12_looks_15 : decode cX12_looks 15 = .ok (.irem, 1) := by decide +kernel
theorem dX12_looks_16 : decode cX12_looks 16 = .ok (.iastore, 1) := by decide +kernel
theorem dX12_looks_17 : decode cX12_looks 17 = .ok (.aload_n 0, 1) := by decide +kernel
theorem dX12_looks_18 : decode cX12_looks 18 = .ok (.getfield 21, 3) := by decide +kernel
theorem dX12_looks_21 : decode cX12_looks 21 = .ok (.iconst 2, 1) := by decide +kernel
theorem dX12_looks_22 : decode cX12_looks 22 = .ok (.iload_n 3, 1) := by decide +kernel
theorem dX12_looks_23 : decode cX12_looks 23 = .ok (.iastore, 1) := by decide +kernel
theorem dX12_looks_24 : decode cX12_looks 24 = .ok (.aload_n 0, 1) := by decide +kernel
theorem dX12_looks_25 : decode cX12_looks 25 = .ok (.getfield 21, 3) := by decide +kernel
theorem dX12_looks_28 : decode cX12_looks 28 = .ok (.iconst 3, 1) := by decide +kernel
theorem dX12_looks_29 : decode cX12_looks 29 = .ok (.iload 4, 2) := by decide +kernel
theorem dX12_looks_31 : decode cX12_looks 31 = .ok (.iastore, 1) := by decide +kernel
theorem dX12_looks_32 : decode cX12_looks 32 = .ok (.aload_n 0, 1) := by decide +kernel
theorem dX12_looks_33 : decode cX12_looks 33 = .ok (.getfield 21, 3) := by decide +kernel
theorem dX12_looks_36 : decode cX12_looks 36 = .ok (.iconst 4, 1) := by decide +kernel
theorem dX12_looks_37 : decode cX12_looks 37 = .ok (.iload 5, 2) := by decide +kernel
theorem dX12_looks_39 : decode cX12_looks 39 = .ok (.iastore, 1) := by decide +kernel
theorem dX12_looks_40 : decode cX12_looks 40 = .ok (.aload_n 0, 1) := by decide +kernel
theorem dX12_looks_41 : decode cX12_looks 41 = .ok (.iconst 0, 1) := by decide +kernel
theorem dX12_looks_42 : decode cX12_looks 42 = .ok (.putfield 146, 3) := by decide +kernel
theorem dX12_looks_45 : decode cX12_looks 45 = .ok (.aload_n 0, 1) := by decide +kernel
theorem dX12_looks_46 : decode cX12_looks 46 = .ok (.iconst 0, 1) := by decide +kernel
theorem dX12_looks_47 : decode cX12_looks 47 = .ok (.putfield 149, 3) := by decide +kernel
theorem dX12_looks_50 : decode cX12_looks 50 = .ok (.aload_n 0, 1) := by decide +kernel
theorem dX12_looks_51 : decode cX12_looks 51 = .ok (.sipush 235, 3) := by decide +kernel
theorem dX12_looks_54 : decode cX12_looks 54 = .ok (.iconst 0, 1) := by decide +kernel
theorem dX12_looks_55 : decode cX12_looks 55 = .ok (.invokevirtual 152, 3) := by decide +kernel
theorem dX12_looks_58 : decode cX12_looks 58 = .ok (.istore 6, 2) := by decide +kernel
theorem dX12_looks_60 : decode cX12_looks 60 = .ok (.sipush 240, 3) := by decide +kernel
theorem dX12_looks_63 : decode cX12_looks 63 = .ok (.sipush 140, 3) := by decide +kernel
theorem dX12_looks_66 : decode cX12_looks 66 = .ok (.aload_n 0, 1) := by decide +kernel
theorem dX12_looks_67 : decode cX12_looks 67 = .ok (.getfield 9, 3) := by decide +kernel
theorem dX12_looks_70 : decode cX12_looks 70 = .ok (.bipush 20, 2) := by decide +kernel
theorem dX12_looks_72 : decode cX12_looks 72 = .ok (.iaload, 1) := by decide +kernel
theorem dX12_looks_73 : decode cX12_looks 73 = .ok (.imul, 1) := by decide +kernel
theorem dX12_looks_74 : decode cX12_looks 74 = .ok (.iadd, 1) := by decide +kernel
theorem dX12_looks_75 : decode cX12_looks 75 = .ok (.istore 7, 2) := by decide +kernel
theorem dX12_looks_77 : decode cX12_looks 77 = .ok (.iconst 0, 1) := by decide +kernel
theorem dX12_looks_78 : decode cX12_looks 78 = .ok (.istore 8, 2) := by decide +kernel
theorem dX12_looks_80 : decode cX12_looks 80 = .ok (.iload 7, 2) := by decide +kernel
theorem dX12_looks_82 : decode cX12_looks 82 = .ok (.istore 9, 2) := by decide +kernel
theorem dX12_looks_84 : decode cX12_looks 84 = .ok (.iload 9, 2) := by decide +kernel
theorem dX12_looks_86 : decode cX12_looks 86 = .ok (.iload 7, 2) := by decide +kernel
theorem dX12_looks_88 : decode cX12_looks 88 = .ok (.iload 6, 2) := by decide +kernel
theorem dX12_looks_90 : decode cX12_looks 90 = .ok (.iadd, 1) := by decide +kernel
theorem dX12_looks_91 : decode cX12_looks 91 = .ok (.if_icmp .ge 344, 3) := by decide +kernel
theorem dX12_looks_94 : decode cX12_looks 94 = .ok (.aload_n 0, 1) := by decide +kernel
theorem dX12_looks_95 : decode cX12_looks 95 = .ok (.getfield 9, 3) := by decide +kernel
theorem dX12_looks_98 : decode cX12_looks 98 = .ok (.iload 9, 2) := by decide +kernel
theorem dX12_looks_100 : decode cX12_looks 100 = .ok (.iaload, 1) := by decide +kernel
theorem dX12_looks_101 : decode cX12_looks 101 = .ok (.istore 10, 2) := by decide +kernel
theorem dX12_looks_103 : decode cX12_looks 103 = .ok (.iload 10, 2) := by decide +kernel
theorem dX12_looks_105 : decode cX12_looks 105 = .ok (.ifCond .lt 97, 3) := by decide +kernel
theorem dX12_looks_108 : decode cX12_looks 108 = .ok (.aload_n 0, 1) := by decide +kernel
theorem dX12_looks_109 : decode cX12_looks 109 = .ok (.getfield 21, 3) := by decide +kernel
theorem dX12_looks_112 : decode cX12_looks 112 = .ok (.iload 10, 2) := by decide +kernel
theorem dX12_looks_114 : decode cX12_looks 114 = .ok (.bipush 8, 2) := by decide +kernel
theorem dX12_looks_116 : decode cX12_looks 116 = .ok (.irem, 1) := by decide +kernel
theorem dX12_looks_117 : decode cX12_looks 117 = .ok (.iaload, 1) := by decide +kernel
theorem dX12_looks_118 : decode cX12_looks 118 = .ok (.istore 11, 2) := by decide +kernel
theorem dX12_looks_120 : decode cX12_looks 120 = .ok (.iload 10, 2) := by decide +kernel
theorem dX12_looks_122 : decode cX12_looks 122 = .ok (.bipush 8, 2) := by decide +kernel
theorem dX12_looks_124 : decode cX12_looks 124 = .ok (.idiv, 1) := by decide +kernel
theorem dX12_looks_125 : decode cX12_looks 125 = .ok (.iconst 4, 1) := by decide +kernel
theorem dX12_looks_126 : decode cX12_looks 126 = .ok (.irem, 1) := by decide +kernel
theorem dX12_looks_127 : decode cX12_looks 127 = .ok (.istore 12, 2) := by decide +kernel
theorem dX12_looks_129 : decode cX12_looks 129 = .ok (.iload 10, 2) := by decide +kernel
theorem dX12_looks_131 : decode cX12_looks 131 = .ok (.bipush 32, 2) := by decide +kernel
theorem dX12_looks_133 : decode cX12_looks 133 = .ok (.idiv, 1) := by decide +kernel
theorem dX12_looks_134 : decode cX12_looks 134 = .ok (.istore 13, 2) := by decide +kernel
theorem dX12_looks_136 : decode cX12_looks 136 = .ok (.aload_n 0, 1) := by decide +kernel
theorem dX12_looks_137 : decode cX12_looks 137 = .ok (.getfield 24, 3) := by decide +kernel
theorem dX12_looks_140 : decode cX12_looks 140 = .ok (.iload 8, 2) := by decide +kernel
theorem dX12_looks_142 : decode cX12_looks 142 = .ok (.iload 12, 2) := by decide +kernel
theorem dX12_looks_144 : decode cX12_looks 144 = .ok (.ifCond .ne 18, 3) := by decide +kernel
theorem dX12_looks_147 : decode cX12_looks 147 = .ok (.iload 11, 2) := by decide +kernel
theorem dX12_looks_149 : decode cX12_looks 149 = .ok (.iload 13, 2) := by decide +kernel
theorem dX12_looks_151 : decode cX12_looks 151 = .ok (.if_icmp .ge 7, 3) := by decide +kernel
theorem dX12_looks_154 : decode cX12_looks 154 = .ok (.iconst 1, 1) := by decide +kernel
theorem dX12_looks_155 : decode cX12_looks 155 = .ok (.goto 40, 3) := by decide +kernel
theorem dX12_looks_158 : decode cX12_looks 158 = .ok (.iconst 0, 1) := by decide +kernel
theorem dX12_looks_159 : decode cX12_looks 159 = .ok (.goto 36, 3) := by decide +kernel
theorem dX12_looks_162 : decode cX12_looks 162 = .ok (.iload 12, 2) := by decide +kernel
theorem dX12_looks_164 : decode cX12_looks 164 = .ok (.iconst 1, 1) := by decide +kernel
theorem dX12_looks_165 : decode cX12_looks 165 = .ok (.if_icmp .ne 18, 3) := by decide +kernel
theorem dX12_looks_168 : decode cX12_looks 168 = .ok (.iload 11, 2) := by decide +kernel
theorem dX12_looks_170 : decode cX12_looks 170 = .ok (.iload 13, 2) := by decide +kernel
theorem dX12_looks_172 : decode cX12_looks 172 = .ok (.if_icmp .ne 7, 3) := by decide +kernel
theorem dX12_looks_175 : decode cX12_looks 175 = .ok (.iconst 1, 1) := by decide +kernel
theorem dX12_looks_176 : decode cX12_looks 176 = .ok (.goto 19, 3) := by decide +kernel
theorem dX12_looks_179 : decode cX12_looks 179 = .ok (.iconst 0, 1) := by decide +kernel
theorem dX12_looks_180 : decode cX12_looks 180 = .ok (.goto 15, 3) := by decide +kernel
theorem dX12_looks_183 : decode cX12_looks 183 = .ok (.iload 11, 2) := by decide +kernel
theorem dX12_looks_185 : decode cX12_looks 185 = .ok (.iload 13, 2) := by decide +kernel
theorem dX12_looks_187 : decode cX12_looks 187 = .ok (.if_icmp .le 7, 3) := by decide +kernel
theorem dX12_looks_190 : decode cX12_looks 190 = .ok (.iconst 1, 1) := by decide +kernel
theorem dX12_looks_191 : decode cX12_looks 191 = .ok (.goto 4, 3) := by decide +kernel
theorem dX12_looks_194 : decode cX12_looks 194 = .ok (.iconst 0, 1) := by decide +kernel
theorem dX12_looks_195 : decode cX12_looks 195 = .ok (.bastore, 1) := by decide +kernel
theorem dX12_looks_196 : decode cX12_looks 196 = .ok (.iinc 8 1, 3) := by decide +kernel
theorem dX12_looks_199 : decode cX12_looks 199 = .ok (.goto 230, 3) := by decide +kernel
theorem dX12_looks_202 : decode cX12_looks 202 = .ok (.iload 10, 2) := by decide +kernel
theorem dX12_looks_204 : decode cX12_looks 204 = .ok (.iconst (-1), 1) := by decide +kernel
theorem dX12_looks_205 : decode cX12_looks 205 = .ok (.if_icmp .ne 32, 3) := by decide +kernel
theorem dX12_looks_208 : decode cX12_looks 208 = .ok (.aload_n 0, 1) := by decide +kernel
theorem dX12_looks_209 : decode cX12_looks 209 = .ok (.getfield 24, 3) := by decide +kernel
theorem dX12_looks_212 : decode cX12_looks 212 = .ok (.iload 8, 2) := by decide +kernel
theorem dX12_looks_214 : decode cX12_looks 214 = .ok (.iconst 1, 1) := by decide +kernel
theorem dX12_looks_215 : decode cX12_looks 215 = .ok (.isub, 1) := by decide +kernel
theorem dX12_looks_216 : decode cX12_looks 216 = .ok (.aload_n 0, 1) := by decide +kernel
theorem dX12_looks_217 : decode cX12_looks 217 = .ok (.getfield 24, 3) := by decide +kernel
theorem dX12_looks_220 : decode cX12_looks 220 = .ok (.iload 8, 2) := by decide +kernel
theorem dX12_looks_222 : decode cX12_looks 222 = .ok (.iconst 1, 1) := by decide +kernel
theorem dX12_looks_223 : decode cX12_looks 223 = .ok (.isub, 1) := by decide +kernel
theorem dX12_looks_224 : decode cX12_looks 224 = .ok (.baload, 1) := by decide +kernel
theorem dX12_looks_225 : decode cX12_looks 225 = .ok (.ifCond .ne 7, 3) := by decide +kernel
theorem dX12_looks_228 : decode cX12_looks 228 = .ok (.iconst 1, 1) := by decide +kernel
theorem dX12_looks_229 : decode cX12_looks 229 = .ok (.goto 4, 3) := by decide +kernel
theorem dX12_looks_232 : decode cX12_looks 232 = .ok (.iconst 0, 1) := by decide +kernel
theorem dX12_looks_233 : decode cX12_looks 233 = .ok (.bastore, 1) := by decide +kernel
theorem dX12_looks_234 : decode cX12_looks 234 = .ok (.goto 195, 3) := by decide +kernel
theorem dX12_looks_237 : decode cX12_looks 237 = .ok (.iload 10, 2) := by decide +kernel
theorem dX12_looks_239 : decode cX12_looks 239 = .ok (.bipush (-10), 2) := by decide +kernel
theorem dX12_looks_241 : decode cX12_looks 241 = .ok (.if_icmp .le 82, 3) := by decide +kernel
theorem dX12_looks_244 : decode cX12_looks 244 = .ok (.iinc 8 (-1), 3) := by decide +kernel
theorem dX12_looks_247 : decode cX12_looks 247 = .ok (.aload_n 0, 1) := by decide +kernel
theorem dX12_looks_248 : decode cX12_looks 248 = .ok (.getfield 24, 3) := by decide +kernel
theorem dX12_looks_251 : decode cX12_looks 251 = .ok (.iload 8, 2) := by decide +kernel
theorem dX12_looks_253 : decode cX12_looks 253 = .ok (.iconst 1, 1) := by decide +kernel
theorem dX12_looks_254 : decode cX12_looks 254 = .ok (.isub, 1) := by decide +kernel
theorem dX12_looks_255 : decode cX12_looks 255 = .ok (.iload 10, 2) := by decide +kernel
theorem dX12_looks_257 : decode cX12_looks 257 = .ok (.bipush (-2), 2) := by decide +kernel
theorem dX12_looks_259 : decode cX12_looks 259 = .ok (.if_icmp .ne 33, 3) := by decide +kernel
theorem dX12_looks_262 : decode cX12_looks 262 = .ok (.aload_n 0, 1) := by decide +kernel
theorem dX12_looks_263 : decode cX12_looks 263 = .ok (.getfield 24, 3) := by decide +kernel
theorem dX12_looks_266 : decode cX12_looks 266 = .ok (.iload 8, 2) := by decide +kernel
theorem dX12_looks_268 : decode cX12_looks 268 = .ok (.iconst 1, 1) := by decide +kernel
theorem dX12_looks_269 : decode cX12_looks 269 = .ok (.isub, 1) := by decide +kernel
theorem dX12_looks_270 : decode cX12_looks 270 = .ok (.baload, 1) := by decide +kernel
theorem dX12_looks_271 : decode cX12_looks 271 = .ok (.ifCond .eq 17, 3) := by decide +kernel
theorem dX12_looks_274 : decode cX12_looks 274 = .ok (.aload_n 0, 1) := by decide +kernel
theorem dX12_looks_275 : decode cX12_looks 275 = .ok (.getfield 24, 3) := by decide +kernel
theorem dX12_looks_278 : decode cX12_looks 278 = .ok (.iload 8, 2) := by decide +kernel
theorem dX12_looks_280 : decode cX12_looks 280 = .ok (.baload, 1) := by decide +kernel
theorem dX12_looks_281 : decode cX12_looks 281 = .ok (.ifCond .eq 7, 3) := by decide +kernel
theorem dX12_looks_284 : decode cX12_looks 284 = .ok (.iconst 1, 1) := by decide +kernel
theorem dX12_looks_285 : decode cX12_looks 285 = .ok (.goto 34, 3) := by decide +kernel
theorem dX12_looks_288 : decode cX12_looks 288 = .ok (.iconst 0, 1) := by decide +kernel
theorem dX12_looks_289 : decode cX12_looks 289 = .ok (.goto 30, 3) := by decide +kernel
theorem dX12_looks_292 : decode cX12_looks 292 = .ok (.aload_n 0, 1) := by decide +kernel
theorem dX12_looks_293 : decode cX12_looks 293 = .ok (.getfield 24, 3) := by decide +kernel
theorem dX12_looks_296 : decode cX12_looks 296 = .ok (.iload 8, 2) := by decide +kernel
theorem dX12_looks_298 : decode cX12_looks 298 = .ok (.iconst 1, 1) := by decide +kernel
theorem dX12_looks_299 : decode cX12_looks 299 = .ok (.isub, 1) := by decide +kernel
theorem dX12_looks_300 : decode cX12_looks 300 = .ok (.baload, 1) := by decide +kernel
theorem dX12_looks_301 : decode cX12_looks 301 = .ok (.ifCond .ne 13, 3) := by decide +kernel
theorem dX12_looks_304 : decode cX12_looks 304 = .ok (.aload_n 0, 1) := by decide +kernel
theorem dX12_looks_305 : decode cX12_looks 305 = .ok (.getfield 24, 3) := by decide +kernel
theorem dX12_looks_308 : decode cX12_looks 308 = .ok (.iload 8, 2) := by decide +kernel
theorem dX12_looks_310 : decode cX12_looks 310 = .ok (.baload, 1) := by decide +kernel
theorem dX12_looks_311 : decode cX12_looks 311 = .ok (.ifCond .eq 7, 3) := by decide +kernel
theorem dX12_looks_314 : decode cX12_looks 314 = .ok (.iconst 1, 1) := by decide +kernel
theorem dX12_looks_315 : decode cX12_looks 315 = .ok (.goto 4, 3) := by decide +kernel
theorem dX12_looks_318 : decode cX12_looks 318 = .ok (.iconst 0, 1) := by decide +kernel
theorem dX12_looks_319 : decode cX12_looks 319 = .ok (.bastore, 1) := by decide +kernel
theorem dX12_looks_320 : decode cX12_looks 320 = .ok (.goto 109, 3) := by decide +kernel
theorem dX12_looks_323 : decode cX12_looks 323 = .ok (.iconst 0, 1) := by decide +kernel
theorem dX12_looks_324 : decode cX12_looks 324 = .ok (.istore 8, 2) := by decide +kernel
theorem dX12_looks_326 : decode cX12_looks 326 = .ok (.iload 10, 2) := by decide +kernel
theorem dX12_looks_328 : decode cX12_looks 328 = .ok (.sipush (-200), 3) := by decide +kernel
theorem dX12_looks_331 : decode cX12_looks 331 = .ok (.if_icmp .le 11, 3) := by decide +kernel
theorem dX12_looks_334 : decode cX12_looks 334 = .ok (.bipush (-10), 2) := by decide +kernel
theorem dX12_looks_336 : decode cX12_looks 336 = .ok (.iload 10, 2) := by decide +kernel
theorem dX12_looks_338 : decode cX12_looks 338 = .ok (.isub, 1) := by decide +kernel
theorem dX12_looks_339 : decode cX12_looks 339 = .ok (.goto 9, 3) := by decide +kernel
theorem dX12_looks_342 : decode cX12_looks 342 = .ok (.sipush (-200), 3) := by decide +kernel
theorem dX12_looks_345 : decode cX12_looks 345 = .ok (.iload 10, 2) := by decide +kernel
theorem dX12_looks_347 : decode cX12_looks 347 = .ok (.isub, 1) := by decide +kernel
theorem dX12_looks_348 : decode cX12_looks 348 = .ok (.istore 11, 2) := by decide +kernel
theorem dX12_looks_350 : decode cX12_looks 350 = .ok (.aload_n 0, 1) := by decide +kernel
theorem dX12_looks_351 : decode cX12_looks 351 = .ok (.dup, 1) := by decide +kernel
theorem dX12_looks_352 : decode cX12_looks 352 = .ok (.getfield 146, 3) := by decide +kernel
theorem dX12_looks_355 : decode cX12_looks 355 = .ok (.aload_n 0, 1) := by decide +kernel
theorem dX12_looks_356 : decode cX12_looks 356 = .ok (.getfield 24, 3) := by decide +kernel
theorem dX12_looks_359 : decode cX12_looks 359 = .ok (.iconst 0, 1) := by decide +kernel
theorem dX12_looks_360 : decode cX12_looks 360 = .ok (.baload, 1) := by decide +kernel
theorem dX12_looks_361 : decode cX12_looks 361 = .ok (.ifCond .eq 16, 3) := by decide +kernel
theorem dX12_looks_364 : decode cX12_looks 364 = .ok (.iload 10, 2) := by decide +kernel
theorem dX12_looks_366 : decode cX12_looks 366 = .ok (.sipush (-200), 3) := by decide +kernel
theorem dX12_looks_369 : decode cX12_looks 369 = .ok (.if_icmp .le 8, 3) := by decide +kernel
theorem dX12_looks_372 : decode cX12_looks 372 = .ok (.iload 11, 2) := by decide +kernel
theorem dX12_looks_374 : decode cX12_looks 374 = .ok (.goto 4, 3) := by decide +kernel
theorem dX12_looks_377 : decode cX12_looks 377 = .ok (.iconst 0, 1) := by decide +kernel
theorem dX12_looks_378 : decode cX12_looks 378 = .ok (.iadd, 1) := by decide +kernel
theorem dX12_looks_379 : decode cX12_looks 379 = .ok (.putfield 146, 3) := by decide +kernel
theorem dX12_looks_382 : decode cX12_looks 382 = .ok (.aload_n 0, 1) := by decide +kernel
theorem dX12_looks_383 : decode cX12_looks 383 = .ok (.aload_n 0, 1) := by decide +kernel
theorem dX12_looks_384 : decode cX12_looks 384 = .ok (.getfield 149, 3) := by decide +kernel
theorem dX12_looks_387 : decode cX12_looks 387 = .ok (.ifCond .ne 34, 3) := by decide +kernel
theorem dX12_looks_390 : decode cX12_looks 390 = .ok (.aload_n 0, 1) := by decide +kernel
theorem dX12_looks_391 : decode cX12_looks 391 = .ok (.getfield 24, 3) := by decide +kernel
theorem dX12_looks_394 : decode cX12_looks 394 = .ok (.iconst 0, 1) := by decide +kernel
theorem dX12_looks_395 : decode cX12_looks 395 = .ok (.baload, 1) := by decide +kernel
theorem dX12_looks_396 : decode cX12_looks 396 = .ok (.ifCond .eq 29, 3) := by decide +kernel
theorem dX12_looks_399 : decode cX12_looks 399 = .ok (.iload 10, 2) := by decide +kernel
theorem dX12_looks_401 : decode cX12_looks 401 = .ok (.sipush (-200), 3) := by decide +kernel
theorem dX12_looks_404 : decode cX12_looks 404 = .ok (.if_icmp .gt 21, 3) := by decide +kernel
theorem dX12_looks_407 : decode cX12_looks 407 = .ok (.iload 11, 2) := by decide +kernel
theorem dX12_looks_409 : decode cX12_looks 409 = .ok (.ifCond .le 16, 3) := by decide +kernel
theorem dX12_looks_412 : decode cX12_looks 412 = .ok (.iload_n 2, 1) := by decide +kernel
theorem dX12_looks_413 : decode cX12_looks 413 = .ok (.iconst 1, 1) := by decide +kernel
theorem dX12_looks_414 : decode cX12_looks 414 = .ok (.iadd, 1) := by decide +kernel
theorem dX12_looks_415 : decode cX12_looks 415 = .ok (.iload 11, 2) := by decide +kernel
theorem dX12_looks_417 : decode cX12_looks 417 = .ok (.irem, 1) := by decide +kernel
theorem dX12_looks_418 : decode cX12_looks 418 = .ok (.ifCond .ne 7, 3) := by decide +kernel
theorem dX12_looks_421 : decode cX12_looks 421 = .ok (.iconst 1, 1) := by decide +kernel
theorem dX12_looks_422 : decode cX12_looks 422 = .ok (.goto 4, 3) := by decide +kernel
theorem dX12_looks_425 : decode cX12_looks 425 = .ok (.iconst 0, 1) := by decide +kernel
theorem dX12_looks_426 : decode cX12_looks 426 = .ok (.putfield 149, 3) := by decide +kernel
theorem dX12_looks_429 : decode cX12_looks 429 = .ok (.iinc 9 1, 3) := by decide +kernel
theorem dX12_looks_432 : decode cX12_looks 432 = .ok (.goto (-348), 3) := by decide +kernel
theorem dX12_looks_435 : decode cX12_looks 435 = .ok (.aload_n 0, 1) := by decide +kernel
theorem dX12_looks_436 : decode cX12_looks 436 = .ok (.aload_n 0, 1) := by decide +kernel
theorem dX12_looks_437 : decode cX12_looks 437 = .ok (.getfield 146, 3) := by decide +kernel
theorem dX12_looks_440 : decode cX12_looks 440 = .ok (.bipush 10, 2) := by decide +kernel
theorem dX12_looks_442 : decode cX12_looks 442 = .ok (.if_icmp .le 8, 3) := by decide +kernel
theorem dX12_looks_445 : decode cX12_looks 445 = .ok (.bipush 10, 2) := by decide +kernel
theorem dX12_looks_447 : decode cX12_looks 447 = .ok (.goto 7, 3) := by decide +kernel
theorem dX12_looks_450 : decode cX12_looks 450 = .ok (.aload_n 0, 1) := by decide +kernel
theorem dX12_looks_451 : decode cX12_looks 451 = .ok (.getfield 146, 3) := by decide +kernel
theorem dX12_looks_454 : decode cX12_looks 454 = .ok (.putfield 146, 3) := by decide +kernel
theorem dX12_looks_457 : decode cX12_looks 457 = .ok (.return_, 1) := by decide +kernel
theorem dX12_rainOf_0 : decode cX12_rainOf 0 = .ok (.aload_n 0, 1) := by decide +kernel
theorem dX12_rainOf_1 : decode cX12_rainOf 1 = .ok (.iload_n 2, 1) := by decide +kernel
theorem dX12_rainOf_2 : decode cX12_rainOf 2 = .ok (.iload_n 1, 1) := by decide +kernel
theorem dX12_rainOf_3 : decode cX12_rainOf 3 = .ok (.bipush 99, 2) := by decide +kernel
theorem dX12_rainOf_5 : decode cX12_rainOf 5 = .ok (.bipush 99, 2) := by decide +kernel
theorem dX12_rainOf_7 : decode cX12_rainOf 7 = .ok (.bipush 99, 2) := by decide +kernel
theorem dX12_rainOf_9 : decode cX12_rainOf 9 = .ok (.invokevirtual 156, 3) := by decide +kernel
theorem dX12_rainOf_12 : decode cX12_rainOf 12 = .ok (.aload_n 0, 1) := by decide +kernel
theorem dX12_rainOf_13 : decode cX12_rainOf 13 = .ok (.getfield 146, 3) := by decide +kernel
theorem dX12_rainOf_16 : decode cX12_rainOf 16 = .ok (.ireturn, 1) := by decide +kernel
theorem dX12_told_0 : decode cX12_told 0 = .ok (.iload_n 1, 1) := by decide +kernel
theorem dX12_told_1 : decode cX12_told 1 = .ok (.tableswitch 102 0 5 #[39, 58, 68, 77, 86, 94], 39) := by decide +kernel
theorem dX12_told_40 : decode cX12_told 40 = .ok (.aload_n 0, 1) := by decide +kernel
theorem dX12_told_41 : decode cX12_told 41 = .ok (.aload_n 0, 1) := by decide +kernel
theorem dX12_told_42 : decode cX12_told 42 = .ok (.getfield 9, 3) := by decide +kernel
theorem dX12_told_45 : decode cX12_told 45 = .ok (.bipush 10, 2) := by decide +kernel
theorem dX12_told_47 : decode cX12_told 47 = .ok (.iaload, 1) := by decide +kernel
theorem dX12_told_48 : decode cX12_told 48 = .ok (.aload_n 0, 1) := by decide +kernel
theorem dX12_told_49 : decode cX12_told 49 = .ok (.getfield 9, 3) := by decide +kernel
theorem dX12_told_52 : decode cX12_told 52 = .ok (.bipush 11, 2) := by decide +kernel
theorem dX12_told_54 : decode cX12_told 54 = .ok (.iaload, 1) := by decide +kernel
theorem dX12_told_55 : decode cX12_told 55 = .ok (.invokevirtual 160, 3) := by decide +kernel
theorem dX12_told_58 : decode cX12_told 58 = .ok (.ireturn, 1) := by decide +kernel
theorem dX12_told_59 : decode cX12_told 59 = .ok (.aload_n 0, 1) := by decide +kernel
theorem dX12_told_60 : decode cX12_told 60 = .ok (.sipush 220, 3) := by decide +kernel
theorem dX12_told_63 : decode cX12_told 63 = .ok (.bipush 9, 2) := by decide +kernel
theorem dX12_told_65 : decode cX12_told 65 = .ok (.invokevirtual 152, 3) := by decide +kernel
theorem dX12_told_68 : decode cX12_told 68 = .ok (.ireturn, 1) := by decide +kernel
theorem dX12_told_69 : decode cX12_told 69 = .ok (.aload_n 0, 1) := by decide +kernel
theorem dX12_told_70 : decode cX12_told 70 = .ok (.sipush 225, 3) := by decide +kernel
theorem dX12_told_73 : decode cX12_told 73 = .ok (.iconst 1, 1) := by decide +kernel
theorem dX12_told_74 : decode cX12_told 74 = .ok (.invokevirtual 152, 3) := by decide +kernel
theorem dX12_told_77 : decode cX12_told 77 = .ok (.ireturn, 1) := by decide +kernel
theorem dX12_told_78 : decode cX12_told 78 = .ok (.aload_n 0, 1) := by decide +kernel
theorem dX12_told_79 : decode cX12_told 79 = .ok (.sipush 230, 3) := by decide +kernel
theorem dX12_told_82 : decode cX12_told 82 = .ok (.iconst 2, 1) := by decide +kernel
theorem dX12_told_83 : decode cX12_told 83 = .ok (.invokevirtual 152, 3) := by decide +kernel
theorem dX12_told_86 : decode cX12_told 86 = .ok (.ireturn, 1) := by decide +kernel
theorem dX12_told_87 : decode cX12_told 87 = .ok (.aload_n 0, 1) := by decide +kernel
theorem dX12_told_88 : decode cX12_told 88 = .ok (.getfield 9, 3) := by decide +kernel
theorem dX12_told_91 : decode cX12_told 91 = .ok (.bipush 10, 2) := by decide +kernel
theorem dX12_told_93 : decode cX12_told 93 = .ok (.iaload, 1) := by decide +kernel
theorem dX12_told_94 : decode cX12_told 94 = .ok (.ireturn, 1) := by decide +kernel
theorem dX12_told_95 : decode cX12_told 95 = .ok (.aload_n 0, 1) := by decide +kernel
theorem dX12_told_96 : decode cX12_told 96 = .ok (.getfield 9, 3) := by decide +kernel
theorem dX12_told_99 : decode cX12_told 99 = .ok (.bipush 11, 2) := by decide +kernel
theorem dX12_told_101 : decode cX12_told 101 = .ok (.iaload, 1) := by decide +kernel
theorem dX12_told_102 : decode cX12_told 102 = .ok (.ireturn, 1) := by decide +kernel
theorem dX12_told_103 : decode cX12_told 103 = .ok (.iconst (-1), 1) := by decide +kernel
theorem dX12_told_104 : decode cX12_told 104 = .ok (.ireturn, 1) := by decide +kernel
theorem dX12_person_0 : decode cX12_person 0 = .ok (.iload_n 1, 1) := by decide +kernel
theorem dX12_person_1 : decode cX12_person 1 = .ok (.iconst 0, 1) := by decide +kernel
theorem dX12_person_2 : decode cX12_person 2 = .ok (.bipush 6, 2) := by decide +kernel
theorem dX12_person_4 : decode cX12_person 4 = .ok (.invokestatic 51, 3) := by decide +kernel
theorem dX12_person_7 : decode cX12_person 7 = .ok (.ifCond .eq 21, 3) := by decide +kernel
theorem dX12_person_10 : decode cX12_person 10 = .ok (.iload_n 3, 1) := by decide +kernel
theorem dX12_person_11 : decode cX12_person 11 = .ok (.iconst 0, 1) := by decide +kernel
theorem dX12_person_12 : decode cX12_person 12 = .ok (.bipush 33, 2) := by decide +kernel
theorem dX12_person_14 : decode cX12_person 14 = .ok (.invokestatic 51, 3) := by decide +kernel
theorem dX12_person_17 : decode cX12_person 17 = .ok (.ifCond .eq 11, 3) := by decide +kernel
theorem dX12_person_20 : decode cX12_person 20 = .ok (.iload_n 3, 1) := by decide +kernel
theorem dX12_person_21 : decode cX12_person 21 = .ok (.bipush 10, 2) := by decide +kernel
theorem dX12_person_23 : decode cX12_person 23 = .ok (.irem, 1) := by decide +kernel
theorem dX12_person_24 : decode cX12_person 24 = .ok (.iconst 3, 1) := by decide +kernel
theorem dX12_person_25 : decode cX12_person 25 = .ok (.if_icmp .le 5, 3) := by decide +kernel
theorem dX12_person_28 : decode cX12_person 28 = .ok (.iconst (-1), 1) := by decide +kernel
theorem dX12_person_29 : decode cX12_person 29 = .ok (.ireturn, 1) := by decide +kernel
theorem dX12_person_30 : decode cX12_person 30 = .ok (.iload_n 2, 1) := by decide +kernel
theorem dX12_person_31 : decode cX12_person 31 = .ok (.iconst 0, 1) := by decide +kernel
theorem dX12_person_32 : decode cX12_person 32 = .ok (.bipush 9, 2) := by decide +kernel
theorem dX12_person_34 : decode cX12_person 34 = .ok (.invokestatic 51, 3) := by decide +kernel
theorem dX12_person_37 : decode cX12_person 37 = .ok (.ifCond .eq 14, 3) := by decide +kernel
theorem dX12_person_40 : decode cX12_person 40 = .ok (.iload_n 3, 1) := by decide +kernel
theorem dX12_person_41 : decode cX12_person 41 = .ok (.bipush 10, 2) := by decide +kernel
theorem dX12_person_43 : decode cX12_person 43 = .ok (.idiv, 1) := by decide +kernel
theorem dX12_person_44 : decode cX12_person 44 = .ok (.iload_n 3, 1) := by decide +kernel
theorem dX12_person_45 : decode cX12_person 45 = .ok (.bipush 10, 2) := by decide +kernel
theorem dX12_person_47 : decode cX12_person 47 = .ok (.irem, 1) := by decide +kernel
theorem dX12_person_48 : decode cX12_person 48 = .ok (.if_icmp .ne 6, 3) := by decide +kernel
theorem dX12_person_51 : decode cX12_person 51 = .ok (.bipush (-2), 2) := by decide +kernel
theorem dX12_person_53 : decode cX12_person 53 = .ok (.ireturn, 1) := by decide +kernel
theorem dX12_person_54 : decode cX12_person 54 = .ok (.aload_n 0, 1) := by decide +kernel
theorem dX12_person_55 : decode cX12_person 55 = .ok (.getfield 9, 3) := by decide +kernel
theorem dX12_person_58 : decode cX12_person 58 = .ok (.bipush 15, 2) := by decide +kernel
theorem dX12_person_60 : decode cX12_person 60 = .ok (.iaload, 1) := by decide +kernel
theorem dX12_person_61 : decode cX12_person 61 = .ok (.bipush 6, 2) := by decide +kernel
theorem dX12_person_63 : decode cX12_person 63 = .ok (.if_icmp .ne 6, 3) := by decide +kernel
theorem dX12_person_66 : decode cX12_person 66 = .ok (.bipush (-4), 2) := by decide +kernel
theorem dX12_person_68 : decode cX12_person 68 = .ok (.ireturn, 1) := by decide +kernel
theorem dX12_person_69 : decode cX12_person 69 = .ok (.aload_n 0, 1) := by decide +kernel
theorem dX12_person_70 : decode cX12_person 70 = .ok (.getfield 9, 3) := by decide +kernel
theorem dX12_person_73 : decode cX12_person 73 = .ok (.bipush 15, 2) := by decide +kernel
theorem dX12_person_75 : decode cX12_person 75 = .ok (.iaload, 1) := by decide +kernel
theorem dX12_person_76 : decode cX12_person 76 = .ok (.istore 4, 2) := by decide +kernel
theorem dX12_person_78 : decode cX12_person 78 = .ok (.aload_n 0, 1) := by decide +kernel
theorem dX12_person_79 : decode cX12_person 79 = .ok (.getfield 9, 3) := by decide +kernel
theorem dX12_person_82 : decode cX12_person 82 = .ok (.sipush 150, 3) := by decide +kernel
theorem dX12_person_85 : decode cX12_person 85 = .ok (.iload 4, 2) := by decide +kernel
theorem dX12_person_87 : decode cX12_person 87 = .ok (.iadd, 1) := by decide +kernel
theorem dX12_person_88 : decode cX12_person 88 = .ok (.iload_n 1, 1) := by decide +kernel
theorem dX12_person_89 : decode cX12_person 89 = .ok (.iastore, 1) := by decide +kernel
theorem dX12_person_90 : decode cX12_person 90 = .ok (.aload_n 0, 1) := by decide +kernel
theorem dX12_person_91 : decode cX12_person 91 = .ok (.getfield 9, 3) := by decide +kernel
theorem dX12_person_94 : decode cX12_person 94 = .ok (.sipush 156, 3) := by decide +kernel
theorem dX12_person_97 : decode cX12_person 97 = .ok (.iload 4, 2) := by decide +kernel
theorem dX12_person_99 : decode cX12_person 99 = .ok (.iadd, 1) := by decide +kernel
theorem dX12_person_100 : decode cX12_person 100 = .ok (.iload_n 2, 1) := by decide +kernel
theorem dX12_person_101 : decode cX12_person 101 = .ok (.iastore, 1) := by decide +kernel
theorem dX12_person_102 : decode cX12_person 102 = .ok (.aload_n 0, 1) := by decide +kernel
theorem dX12_person_103 : decode cX12_person 103 = .ok (.getfield 9, 3) := by decide +kernel
theorem dX12_person_106 : decode cX12_person 106 = .ok (.sipush 162, 3) := by decide +kernel
theorem dX12_person_109 : decode cX12_person 109 = .ok (.iload 4, 2) := by decide +kernel
theorem dX12_person_111 : decode cX12_person 111 = .ok (.iadd, 1) := by decide +kernel
theorem dX12_person_112 : decode cX12_person 112 = .ok (.iload_n 3, 1) := by decide +kernel
theorem dX12_person_113 : decode cX12_person 113 = .ok (.bipush 10, 2) := by decide +kernel
theorem dX12_person_115 : decode cX12_person 115 = .ok (.idiv, 1) := by decide +kernel
theorem dX12_person_116 : decode cX12_person 116 = .ok (.iastore, 1) := by decide +kernel
theorem dX12_person_117 : decode cX12_person 117 = .ok (.aload_n 0, 1) := by decide +kernel
theorem dX12_person_118 : decode cX12_person 118 = .ok (.getfield 9, 3) := by decide +kernel
theorem dX12_person_121 : decode cX12_person 121 = .ok (.sipush 168, 3) := by decide +kernel
theorem dX12_person_124 : decode cX12_person 124 = .ok (.iload 4, 2) := by decide +kernel
theorem dX12_person_126 : decode cX12_person 126 = .ok (.iadd, 1) := by decide +kernel
theorem dX12_person_127 : decode cX12_person 127 = .ok (.iload_n 3, 1) := by decide +kernel
theorem dX12_person_128 : decode cX12_person 128 = .ok (.bipush 10, 2) := by decide +kernel
theorem dX12_person_130 : decode cX12_person 130 = .ok (.irem, 1) := by decide +kernel
theorem dX12_person_131 : decode cX12_person 131 = .ok (.iastore, 1) := by decide +kernel
theorem dX12_person_132 : decode cX12_person 132 = .ok (.aload_n 0, 1) := by decide +kernel
theorem dX12_person_133 : decode cX12_person 133 = .ok (.getfield 9, 3) := by decide +kernel
theorem dX12_person_136 : decode cX12_person 136 = .ok (.sipush 174, 3) := by decide +kernel
theorem dX12_person_139 : decode cX12_person 139 = .ok (.iload 4, 2) := by decide +kernel
theorem dX12_person_141 : decode cX12_person 141 = .ok (.iadd, 1) := by decide +kernel
theorem dX12_person_142 : decode cX12_person 142 = .ok (.iconst 1, 1) := by decide +kernel
theorem dX12_person_143 : decode cX12_person 143 = .ok (.iastore, 1) := by decide +kernel
theorem dX12_person_144 : decode cX12_person 144 = .ok (.aload_n 0, 1) := by decide +kernel
theorem dX12_person_145 : decode cX12_person 145 = .ok (.getfield 9, 3) := by decide +kernel
theorem dX12_person_148 : decode cX12_person 148 = .ok (.iconst 4, 1) := by decide +kernel
theorem dX12_person_149 : decode cX12_person 149 = .ok (.iload 4, 2) := by decide +kernel
theorem dX12_person_151 : decode cX12_person 151 = .ok (.iadd, 1) := by decide +kernel
theorem dX12_person_152 : decode cX12_person 152 = .ok (.iconst 0, 1) := by decide +kernel
theorem dX12_person_153 : decode cX12_person 153 = .ok (.iastore, 1) := by decide +kernel
theorem dX12_person_154 : decode cX12_person 154 = .ok (.aload_n 0, 1) := by decide +kernel
theorem dX12_person_155 : decode cX12_person 155 = .ok (.getfield 9, 3) := by decide +kernel
theorem dX12_person_158 : decode cX12_person 158 = .ok (.bipush 15, 2) := by decide +kernel
theorem dX12_person_160 : decode cX12_person 160 = .ok (.dup2, 1) := by decide +kernel
theorem dX12_person_161 : decode cX12_person 161 = .ok (.iaload, 1) := by decide +kernel
theorem dX12_person_162 : decode cX12_person 162 = .ok (.iconst 1, 1) := by decide +kernel
theorem dX12_person_163 : decode cX12_person 163 = .ok (.iadd, 1) := by decide +kernel
theorem dX12_person_164 : decode cX12_person 164 = .ok (.iastore, 1) := by decide +kernel
theorem dX12_person_165 : decode cX12_person 165 = .ok (.iload 4, 2) := by decide +kernel
theorem dX12_person_167 : decode cX12_person 167 = .ok (.ireturn, 1) := by decide +kernel
theorem dX12_step_0 : decode cX12_step 0 = .ok (.aload_n 0, 1) := by decide +kernel
theorem dX12_step_1 : decode cX12_step 1 = .ok (.iload_n 1, 1) := by decide +kernel
theorem dX12_step_2 : decode cX12_step 2 = .ok (.invokevirtual 163, 3) := by decide +kernel
theorem dX12_step_5 : decode cX12_step 5 = .ok (.ifCond .ne 5, 3) := by decide +kernel
theorem dX12_step_8 : decode cX12_step 8 = .ok (.iconst (-1), 1) := by decide +kernel
theorem dX12_step_9 : decode cX12_step 9 = .ok (.ireturn, 1) := by decide +kernel
theorem dX12_step_10 : decode cX12_step 10 = .ok (.iload_n 2, 1) := by decide +kernel
theorem dX12_step_11 : decode cX12_step 11 = .ok (.iconst 1, 1) := by decide +kernel
theorem dX12_step_12 : decode cX12_step 12 = .ok (.bipush 9, 2) := by decide +kernel
theorem dX12_step_14 : decode cX12_step 14 = .ok (.invokestatic 51, 3) := by decide +kernel
theorem dX12_step_17 : decode cX12_step 17 = .ok (.ifCond .ne 6, 3) := by decide +kernel
theorem dX12_step_20 : decode cX12_step 20 = .ok (.bipush (-2), 2) := by decide +kernel
theorem dX12_step_22 : decode cX12_step 22 = .ok (.ireturn, 1) := by decide +kernel
theorem dX12_step_23 : decode cX12_step 23 = .ok (.aload_n 0, 1) := by decide +kernel
theorem dX12_step_24 : decode cX12_step 24 = .ok (.getfield 9, 3) := by decide +kernel
theorem dX12_step_27 : decode cX12_step 27 = .ok (.sipush 174, 3) := by decide +kernel
theorem dX12_step_30 : decode cX12_step 30 = .ok (.iload_n 1, 1) := by decide +kernel
theorem dX12_step_31 : decode cX12_step 31 = .ok (.iadd, 1) := by decide +kernel
theorem dX12_step_32 : decode cX12_step 32 = .ok (.iaload, 1) := by decide +kernel
theorem dX12_step_33 : decode cX12_step 33 = .ok (.istore_n 3, 1) := by decide +kernel
theorem dX12_step_34 : decode cX12_step 34 = .ok (.aload_n 0, 1) := by decide +kernel
theorem dX12_step_35 : decode cX12_step 35 = .ok (.getfield 9, 3) := by decide +kernel
theorem dX12_step_38 : decode cX12_step 38 = .ok (.sipush 174, 3) := by decide +kernel
theorem dX12_step_41 : decode cX12_step 41 = .ok (.iload_n 1, 1) := by decide +kernel
theorem dX12_step_42 : decode cX12_step 42 = .ok (.iadd, 1) := by decide +kernel
theorem dX12_step_43 : decode cX12_step 43 = .ok (.iload_n 2, 1) := by decide +kernel
theorem dX12_step_44 : decode cX12_step 44 = .ok (.iastore, 1) := by decide +kernel
theorem dX12_step_45 : decode cX12_step 45 = .ok (.iload_n 3, 1) := by decide +kernel
theorem dX12_step_46 : decode cX12_step 46 = .ok (.ireturn, 1) := by decide +kernel
theorem dX12_doorOf_0 : decode cX12_doorOf 0 = .ok (.aload_n 0, 1) := by decide +kernel
theorem dX12_doorOf_1 : decode cX12_doorOf 1 = .ok (.getfield 9, 3) := by decide +kernel
theorem dX12_doorOf_4 : decode cX12_doorOf 4 = .ok (.iconst 4, 1) := by decide +kernel
theorem dX12_doorOf_5 : decode cX12_doorOf 5 = .ok (.iload_n 1, 1) := by decide +kernel
theorem dX12_doorOf_6 : decode cX12_doorOf 6 = .ok (.iadd, 1) := by decide +kernel
theorem dX12_doorOf_7 : decode cX12_doorOf 7 = .ok (.iaload, 1) := by decide +kernel
theorem dX12_doorOf_8 : decode cX12_doorOf 8 = .ok (.ifCond .ne 16, 3) := by decide +kernel
theorem dX12_doorOf_11 : decode cX12_doorOf 11 = .ok (.aload_n 0, 1) := by decide +kernel
theorem dX12_doorOf_12 : decode cX12_doorOf 12 = .ok (.getfield 9, 3) := by decide +kernel
theorem dX12_doorOf_15 : decode cX12_doorOf 15 = .ok (.sipush 162, 3) := by decide +kernel
theorem dX12_doorOf_18 : decode cX12_doorOf 18 = .ok (.iload_n 1, 1) := by decide +kernel
theorem dX12_doorOf_19 : decode cX12_doorOf 19 = .ok (.iadd, 1) := by decide +kernel
theorem dX12_doorOf_20 : decode cX12_doorOf 20 = .ok (.iaload, 1) := by decide +kernel
theorem dX12_doorOf_21 : decode cX12_doorOf 21 = .ok (.goto 13, 3) := by decide +kernel
theorem dX12_doorOf_24 : decode cX12_doorOf 24 = .ok (.aload_n 0, 1) := by decide +kernel
theorem dX12_doorOf_25 : decode cX12_doorOf 25 = .ok (.getfield 9, 3) := by decide +kernel
theorem dX12_doorOf_28 : decode cX12_doorOf 28 = .ok (.sipush 168, 3) := by decide +kernel
theorem dX12_doorOf_31 : decode cX12_doorOf 31 = .ok (.iload_n 1, 1) := by decide +kernel
theorem dX12_doorOf_32 : decode cX12_doorOf 32 = .ok (.iadd, 1) := by decide +kernel
theorem dX12_doorOf_33 : decode cX12_doorOf 33 = .ok (.iaload, 1) := by decide +kernel
theorem dX12_doorOf_34 : decode cX12_doorOf 34 = .ok (.ireturn, 1) := by decide +kernel
theorem dX12_otherOf_0 : decode cX12_otherOf 0 = .ok (.aload_n 0, 1) := by decide +kernel
theorem dX12_otherOf_1 : decode cX12_otherOf 1 = .ok (.getfield 9, 3) := by decide +kernel
theorem dX12_otherOf_4 : decode cX12_otherOf 4 = .ok (.iconst 4, 1) := by decide +kernel
theorem dX12_otherOf_5 : decode cX12_otherOf 5 = .ok (.iload_n 1, 1) := by decide +kernel
theorem dX12_otherOf_6 : decode cX12_otherOf 6 = .ok (.iadd, 1) := by decide +kernel
theorem dX12_otherOf_7 : decode cX12_otherOf 7 = .ok (.iaload, 1) := by decide +kernel
theorem dX12_otherOf_8 : decode cX12_otherOf 8 = .ok (.ifCond .ne 16, 3) := by decide +kernel
theorem dX12_otherOf_11 : decode cX12_otherOf 11 = .ok (.aload_n 0, 1) := by decide +kernel
theorem dX12_otherOf_12 : decode cX12_otherOf 12 = .ok (.getfield 9, 3) := by decide +kernel
theorem dX12_otherOf_15 : decode cX12_otherOf 15 = .ok (.sipush 168, 3) := by decide +kernel
theorem dX12_otherOf_18 : decode cX12_otherOf 18 = .ok (.iload_n 1, 1) := by decide +kernel
theorem dX12_otherOf_19 : decode cX12_otherOf 19 = .ok (.iadd, 1) := by decide +kernel
theorem dX12_otherOf_20 : decode cX12_otherOf 20 = .ok (.iaload, 1) := by decide +kernel
theorem dX12_otherOf_21 : decode cX12_otherOf 21 = .ok (.goto 13, 3) := by decide +kernel
theorem dX12_otherOf_24 : decode cX12_otherOf 24 = .ok (.aload_n 0, 1) := by decide +kernel
theorem dX12_otherOf_25 : decode cX12_otherOf 25 = .ok (.getfield 9, 3) := by decide +kernel
theorem dX12_otherOf_28 : decode cX12_otherOf 28 = .ok (.sipush 162, 3) := by decide +kernel
theorem dX12_otherOf_31 : decode cX12_otherOf 31 = .ok (.iload_n 1, 1) := by decide +kernel
theorem dX12_otherOf_32 : decode cX12_otherOf 32 = .ok (.iadd, 1) := by decide +kernel
theorem dX12_otherOf_33 : decode cX12_otherOf 33 = .ok (.iaload, 1) := by decide +kernel
theorem dX12_otherOf_34 : decode cX12_otherOf 34 = .ok (.ireturn, 1) := by decide +kernel
theorem dX12_doesTake_0 : decode cX12_doesTake 0 = .ok (.aload_n 0, 1) := by decide +kernel
theorem dX12_doesTake_1 : decode cX12_doesTake 1 = .ok (.getfield 9, 3) := by decide +kernel
theorem dX12_doesTake_4 : decode cX12_doesTake 4 = .ok (.iconst 0, 1) := by decide +kernel
theorem dX12_doesTake_5 : decode cX12_doesTake 5 = .ok (.aload_n 0, 1) := by decide +kernel
theorem dX12_doesTake_6 : decode cX12_doesTake 6 = .ok (.iload_n 1, 1) := by decide +kernel
theorem dX12_doesTake_7 : decode cX12_doesTake 7 = .ok (.invokevirtual 166, 3) := by decide +kernel
theorem dX12_doesTake_10 : decode cX12_doesTake 10 = .ok (.iadd, 1) := by decide +kernel
theorem dX12_doesTake_11 : decode cX12_doesTake 11 = .ok (.iaload, 1) := by decide +kernel
theorem dX12_doesTake_12 : decode cX12_doesTake 12 = .ok (.istore_n 3, 1) := by decide +kernel
theorem dX12_doesTake_13 : decode cX12_doesTake 13 = .ok (.aload_n 0, 1) := by decide +kernel
theorem dX12_doesTake_14 : decode cX12_doesTake 14 = .ok (.getfield 9, 3) := by decide +kernel
theorem dX12_doesTake_17 : decode cX12_doesTake 17 = .ok (.sipush 156, 3) := by decide +kernel
theorem dX12_doesTake_20 : decode cX12_doesTake 20 = .ok (.iload_n 1, 1) := by decide +kernel
theorem dX12_doesTake_21 : decode cX12_doesTake 21 = .ok (.iadd, 1) := by decide +kernel
theorem dX12_doesTake_22 : decode cX12_doesTake 22 = .ok (.iaload, 1) := by decide +kernel
theorem dX12_doesTake_23 : decode cX12_doesTake 23 = .ok (.istore 4, 2) := by decide +kernel
theorem dX12_doesTake_25 : decode cX12_doesTake 25 = .ok (.iload_n 3, 1) := by decide +kernel
theorem dX12_doesTake_26 : decode cX12_doesTake 26 = .ok (.iload 4, 2) := by decide +kernel
theorem dX12_doesTake_28 : decode cX12_doesTake 28 = .ok (.if_icmp .lt 23, 3) := by decide +kernel
theorem dX12_doesTake_31 : decode cX12_doesTake 31 = .ok (.iload_n 3, 1) := by decide +kernel
theorem dX12_doesTake_32 : decode cX12_doesTake 32 = .ok (.aload_n 0, 1) := by decide +kernel
theorem dX12_doesTake_33 : decode cX12_doesTake 33 = .ok (.getfield 9, 3) := by decide +kernel
theorem dX12_doesTake_36 : decode cX12_doesTake 36 = .ok (.iconst 0, 1) := by decide +kernel
theorem dX12_doesTake_37 : decode cX12_doesTake 37 = .ok (.aload_n 0, 1) := by decide +kernel
theorem dX12_doesTake_38 : decode cX12_doesTake 38 = .ok (.iload_n 1, 1) := by decide +kernel
theorem dX12_doesTake_39 : decode cX12_doesTake 39 = .ok (.invokevirtual 170, 3) := by decide +kernel
theorem dX12_doesTake_42 : decode cX12_doesTake 42 = .ok (.iadd, 1) := by decide +kernel
theorem dX12_doesTake_43 : decode cX12_doesTake 43 = .ok (.iaload, 1) := by decide +kernel
theorem dX12_doesTake_44 : decode cX12_doesTake 44 = .ok (.if_icmp .le 7, 3) := by decide +kernel
theorem dX12_doesTake_47 : decode cX12_doesTake 47 = .ok (.iconst 1, 1) := by decide +kernel
theorem dX12_doesTake_48 : decode cX12_doesTake 48 = .ok (.goto 4, 3) := by decide +kernel
theorem dX12_doesTake_51 : decode cX12_doesTake 51 = .ok (.iconst 0, 1) := by decide +kernel
theorem dX12_doesTake_52 : decode cX12_doesTake 52 = .ok (.istore 5, 2) := by decide +kernel
theorem dX12_doesTake_54 : decode cX12_doesTake 54 = .ok (.iload_n 3, 1) := by decide +kernel
theorem dX12_doesTake_55 : decode cX12_doesTake 55 = .ok (.ifCond .ne 5, 3) := by decide +kernel
theorem dX12_doesTake_58 : decode cX12_doesTake 58 = .ok (.iconst 0, 1) := by decide +kernel
theorem dX12_doesTake_59 : decode cX12_doesTake 59 = .ok (.ireturn, 1) := by decide +kernel
theorem dX12_doesTake_60 : decode cX12_doesTake 60 = .ok (.aload_n 0, 1) := by decide +kernel
theorem dX12_doesTake_61 : decode cX12_doesTake 61 = .ok (.getfield 9, 3) := by decide +kernel
theorem dX12_doesTake_64 : decode cX12_doesTake 64 = .ok (.sipush 150, 3) := by decide +kernel
theorem dX12_doesTake_67 : decode cX12_doesTake 67 = .ok (.iload_n 1, 1) := by decide +kernel
theorem dX12_doesTake_68 : decode cX12_doesTake 68 = .ok (.iadd, 1) := by decide +kernel
theorem dX12_doesTake_69 : decode cX12_doesTake 69 = .ok (.iaload, 1) := by decide +kernel
theorem dX12_doesTake_70 : decode cX12_doesTake 70 = .ok (.tableswitch 133 1 6 #[38, 68, 105, 131, 68, 84], 38) := by decide +kernel
theorem dX12_doesTake_108 : decode cX12_doesTake 108 = .ok (.iload_n 2, 1) := by decide +kernel
theorem dX12_doesTake_109 : decode cX12_doesTake 109 = .ok (.iconst 1, 1) := by decide +kernel
theorem dX12_doesTake_110 : decode cX12_doesTake 110 = .ok (.if_icmp .eq 22, 3) := by decide +kernel
theorem dX12_doesTake_113 : decode cX12_doesTake 113 = .ok (.aload_n 0, 1) := by decide +kernel
theorem dX12_doesTake_114 : decode cX12_doesTake 114 = .ok (.aload_n 0, 1) := by decide +kernel
theorem dX12_doesTake_115 : decode cX12_doesTake 115 = .ok (.getfield 9, 3) := by decide +kernel
theorem dX12_doesTake_118 : decode cX12_doesTake 118 = .ok (.bipush 10, 2) := by decide +kernel
theorem dX12_doesTake_120 : decode cX12_doesTake 120 = .ok (.iaload, 1) := by decide +kernel
theorem dX12_doesTake_121 : decode cX12_doesTake 121 = .ok (.iconst 1, 1) := by decide +kernel
theorem dX12_doesTake_122 : decode cX12_doesTake 122 = .ok (.iadd, 1) := by decide +kernel
theorem dX12_doesTake_123 : decode cX12_doesTake 123 = .ok (.iload_n 2, 1) := by decide +kernel
theorem dX12_doesTake_124 : decode cX12_doesTake 124 = .ok (.invokevirtual 160, 3) := by decide +kernel
theorem dX12_doesTake_127 : decode cX12_doesTake 127 = .ok (.iload 4, 2) := by decide +kernel
theorem dX12_doesTake_129 : decode cX12_doesTake 129 = .ok (.if_icmp .lt 7, 3) := by decide +kernel
theorem dX12_doesTake_132 : decode cX12_doesTake 132 = .ok (.iconst 1, 1) := by decide +kernel
theorem dX12_doesTake_133 : decode cX12_doesTake 133 = .ok (.goto 4, 3) := by decide +kernel
theorem dX12_doesTake_136 : decode cX12_doesTake 136 = .ok (.iconst 0, 1) := by decide +kernel
theorem dX12_doesTake_137 : decode cX12_doesTake 137 = .ok (.ireturn, 1) := by decide +kernel
theorem dX12_doesTake_138 : decode cX12_doesTake 138 = .ok (.iload_n 2, 1) := by decide +kernel
theorem dX12_doesTake_139 : decode cX12_doesTake 139 = .ok (.iconst 1, 1) := by decide +kernel
theorem dX12_doesTake_140 : decode cX12_doesTake 140 = .ok (.if_icmp .eq 8, 3) := by decide +kernel
theorem dX12_doesTake_143 : decode cX12_doesTake 143 = .ok (.iload 5, 2) := by decide +kernel
theorem dX12_doesTake_145 : decode cX12_doesTake 145 = .ok (.ifCond .eq 7, 3) := by decide +kernel
theorem dX12_doesTake_148 : decode cX12_doesTake 148 = .ok (.iconst 1, 1) := by decide +kernel
theorem dX12_doesTake_149 : decode cX12_doesTake 149 = .ok (.goto 4, 3) := by decide +kernel
theorem dX12_doesTake_152 : decode cX12_doesTake 152 = .ok (.iconst 0, 1) := by decide +kernel
theorem dX12_doesTake_153 : decode cX12_doesTake 153 = .ok (.ireturn, 1) := by decide +kernel
theorem dX12_doesTake_154 : decode cX12_doesTake 154 = .ok (.iload_n 2, 1) := by decide +kernel
theorem dX12_doesTake_155 : decode cX12_doesTake 155 = .ok (.iconst 1, 1) := by decide +kernel
theorem dX12_doesTake_156 : decode cX12_doesTake 156 = .ok (.if_icmp .eq 13, 3) := by decide +kernel
theorem dX12_doesTake_159 : decode cX12_doesTake 159 = .ok (.iload 5, 2) := by decide +kernel
theorem dX12_doesTake_161 : decode cX12_doesTake 161 = .ok (.ifCond .eq 12, 3) := by decide +kernel
theorem dX12_doesTake_164 : decode cX12_doesTake 164 = .ok (.iload_n 3, 1) := by decide +kernel
theorem dX12_doesTake_165 : decode cX12_doesTake 165 = .ok (.iconst 1, 1) := by decide +kernel
theorem dX12_doesTake_166 : decode cX12_doesTake 166 = .ok (.if_icmp .le 7, 3) := by decide +kernel
theorem dX12_doesTake_169 : decode cX12_doesTake 169 = .ok (.iconst 1, 1) := by decide +kernel
theorem dX12_doesTake_170 : decode cX12_doesTake 170 = .ok (.goto 4, 3) := by decide +kernel
theorem dX12_doesTake_173 : decode cX12_doesTake 173 = .ok (.iconst 0, 1) := by decide +kernel
theorem dX12_doesTake_174 : decode cX12_doesTake 174 = .ok (.ireturn, 1) := by decide +kernel
theorem dX12_doesTake_175 : decode cX12_doesTake 175 = .ok (.iload_n 2, 1) := by decide +kernel
theorem dX12_doesTake_176 : decode cX12_doesTake 176 = .ok (.iconst 1, 1) := by decide +kernel
theorem dX12_doesTake_177 : decode cX12_doesTake 177 = .ok (.if_icmp .ne 22, 3) := by decide +kernel
theorem dX12_doesTake_180 : decode cX12_doesTake 180 = .ok (.aload_n 0, 1) := by decide +kernel
theorem dX12_doesTake_181 : decode cX12_doesTake 181 = .ok (.getfield 9, 3) := by decide +kernel
theorem dX12_doesTake_184 : decode cX12_doesTake 184 = .ok (.bipush 10, 2) := by decide +kernel
theorem dX12_doesTake_186 : decode cX12_doesTake 186 = .ok (.iaload, 1) := by decide +kernel
theorem dX12_doesTake_187 : decode cX12_doesTake 187 = .ok (.bipush 10, 2) := by decide +kernel
theorem dX12_doesTake_189 : decode cX12_doesTake 189 = .ok (.irem, 1) := by decide +kernel
theorem dX12_doesTake_190 : decode cX12_doesTake 190 = .ok (.iload 4, 2) := by decide +kernel
theorem dX12_doesTake_192 : decode cX12_doesTake 192 = .ok (.if_icmp .eq 7, 3) := by decide +kernel
theorem dX12_doesTake_195 : decode cX12_doesTake 195 = .ok (.iconst 1, 1) := by decide +kernel
theorem dX12_doesTake_196 : decode cX12_doesTake 196 = .ok (.goto 4, 3) := by decide +kernel
theorem dX12_doesTake_199 : decode cX12_doesTake 199 = .ok (.iconst 0, 1) := by decide +kernel
theorem dX12_doesTake_200 : decode cX12_doesTake 200 = .ok (.ireturn, 1) := by decide +kernel
theorem dX12_doesTake_201 : decode cX12_doesTake 201 = .ok (.iconst 1, 1) := by decide +kernel
theorem dX12_doesTake_202 : decode cX12_doesTake 202 = .ok (.ireturn, 1) := by decide +kernel
theorem dX12_doesTake_203 : decode cX12_doesTake 203 = .ok (.iload_n 2, 1) := by decide +kernel
