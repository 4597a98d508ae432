theorem dX11_town_71 : decode cX11_town 71 = .ok (.dup, 1) := by decide +kernel
theorem dX11_town_72 : decode cX11_town 72 = .ok (.getfield 73, 3) := by decide +kernel
theorem dX11_town_75 : decode cX11_town 75 = .ok (.iconst 1, 1) := by decide +kernel
theorem dX11_town_76 : decode cX11_town 76 = .ok (.iadd, 1) := by decide +kernel
theorem dX11_town_77 : decode cX11_town 77 = .ok (.putfield 73, 3) := by decide +kernel
theorem dX11_town_80 : decode cX11_town 80 = .ok (.aload_n 0, 1) := by decide +kernel
theorem dX11_town_81 : decode cX11_town 81 = .ok (.getfield 12, 3) := by decide +kernel
theorem dX11_town_84 : decode cX11_town 84 = .ok (.getfield 73, 3) := by decide +kernel
theorem dX11_town_87 : decode cX11_town 87 = .ok (.iconst 1, 1) := by decide +kernel
theorem dX11_town_88 : decode cX11_town 88 = .ok (.isub, 1) := by decide +kernel
theorem dX11_town_89 : decode cX11_town 89 = .ok (.ireturn, 1) := by decide +kernel
theorem dX11_told_0 : decode cX11_told 0 = .ok (.iload_n 1, 1) := by decide +kernel
theorem dX11_told_1 : decode cX11_told 1 = .ok (.tableswitch 125 0 5 #[39, 70, 81, 92, 103, 114], 39) := by decide +kernel
theorem dX11_told_40 : decode cX11_told 40 = .ok (.aload_n 0, 1) := by decide +kernel
theorem dX11_told_41 : decode cX11_told 41 = .ok (.getfield 12, 3) := by decide +kernel
theorem dX11_told_44 : decode cX11_told 44 = .ok (.getfield 83, 3) := by decide +kernel
theorem dX11_told_47 : decode cX11_told 47 = .ok (.aload_n 0, 1) := by decide +kernel
theorem dX11_told_48 : decode cX11_told 48 = .ok (.getfield 12, 3) := by decide +kernel
theorem dX11_told_51 : decode cX11_told 51 = .ok (.getfield 58, 3) := by decide +kernel
theorem dX11_told_54 : decode cX11_told 54 = .ok (.getfield 87, 3) := by decide +kernel
theorem dX11_told_57 : decode cX11_told 57 = .ok (.aload_n 0, 1) := by decide +kernel
theorem dX11_told_58 : decode cX11_told 58 = .ok (.getfield 12, 3) := by decide +kernel
theorem dX11_told_61 : decode cX11_told 61 = .ok (.getfield 58, 3) := by decide +kernel
theorem dX11_told_64 : decode cX11_told 64 = .ok (.getfield 90, 3) := by decide +kernel
theorem dX11_told_67 : decode cX11_told 67 = .ok (.invokevirtual 93, 3) := by decide +kernel
theorem dX11_told_70 : decode cX11_told 70 = .ok (.ireturn, 1) := by decide +kernel
theorem dX11_told_71 : decode cX11_told 71 = .ok (.aload_n 0, 1) := by decide +kernel
theorem dX11_told_72 : decode cX11_told 72 = .ok (.getfield 12, 3) := by decide +kernel
theorem dX11_told_75 : decode cX11_told 75 = .ok (.getfield 83, 3) := by decide +kernel
theorem dX11_told_78 : decode cX11_told 78 = .ok (.getfield 97, 3) := by decide +kernel
theorem dX11_told_81 : decode cX11_told 81 = .ok (.ireturn, 1) := by decide +kernel
theorem dX11_told_82 : decode cX11_told 82 = .ok (.aload_n 0, 1) := by decide +kernel
theorem dX11_told_83 : decode cX11_told 83 = .ok (.getfield 12, 3) := by decide +kernel
theorem dX11_told_86 : decode cX11_told 86 = .ok (.getfield 83, 3) := by decide +kernel
theorem dX11_told_89 : decode cX11_told 89 = .ok (.getfield 100, 3) := by decide +kernel
theorem dX11_told_92 : decode cX11_told 92 = .ok (.ireturn, 1) := by decide +kernel
theorem dX11_told_93 : decode cX11_told 93 = .ok (.aload_n 0, 1) := by decide +kernel
theorem dX11_told_94 : decode cX11_told 94 = .ok (.getfield 12, 3) := by decide +kernel
theorem dX11_told_97 : decode cX11_told 97 = .ok (.getfield 83, 3) := by decide +kernel
theorem dX11_told_100 : decode cX11_told 100 = .ok (.getfield 103, 3) := by decide +kernel
theorem dX11_told_103 : decode cX11_told 103 = .ok (.ireturn, 1) := by decide +kernel
theorem dX11_told_104 : decode cX11_told 104 = .ok (.aload_n 0, 1) := by decide +kernel
theorem dX11_told_105 : decode cX11_told 105 = .ok (.getfield 12, 3) := by decide +kernel
theorem dX11_told_108 : decode cX11_told 108 = .ok (.getfield 58, 3) := by decide +kernel
theorem dX11_told_111 : decode cX11_told 111 = .ok (.getfield 87, 3) := by decide +kernel
theorem dX11_told_114 : decode cX11_told 114 = .ok (.ireturn, 1) := by decide +kernel
theorem dX11_told_115 : decode cX11_told 115 = .ok (.aload_n 0, 1) := by decide +kernel
theorem dX11_told_116 : decode cX11_told 116 = .ok (.getfield 12, 3) := by decide +kernel
theorem dX11_told_119 : decode cX11_told 119 = .ok (.getfield 58, 3) := by decide +kernel
theorem dX11_told_122 : decode cX11_told 122 = .ok (.getfield 90, 3) := by decide +kernel
theorem dX11_told_125 : decode cX11_told 125 = .ok (.ireturn, 1) := by decide +kernel
theorem dX11_told_126 : decode cX11_told 126 = .ok (.iconst (-1), 1) := by decide +kernel
theorem dX11_told_127 : decode cX11_told 127 = .ok (.ireturn, 1) := by decide +kernel
theorem dX11_person_0 : decode cX11_person 0 = .ok (.iload_n 1, 1) := by decide +kernel
theorem dX11_person_1 : decode cX11_person 1 = .ok (.ifCond .lt 13, 3) := by decide +kernel
theorem dX11_person_4 : decode cX11_person 4 = .ok (.iload_n 1, 1) := by decide +kernel
theorem dX11_person_5 : decode cX11_person 5 = .ok (.bipush 7, 2) := by decide +kernel
theorem dX11_person_7 : decode cX11_person 7 = .ok (.if_icmp .ge 7, 3) := by decide +kernel
theorem dX11_person_10 : decode cX11_person 10 = .ok (.iload_n 3, 1) := by decide +kernel
theorem dX11_person_11 : decode cX11_person 11 = .ok (.ifCond .ge 5, 3) := by decide +kernel
theorem dX11_person_14 : decode cX11_person 14 = .ok (.iconst (-1), 1) := by decide +kernel
theorem dX11_person_15 : decode cX11_person 15 = .ok (.ireturn, 1) := by decide +kernel
theorem dX11_person_16 : decode cX11_person 16 = .ok (.iload_n 3, 1) := by decide +kernel
theorem dX11_person_17 : decode cX11_person 17 = .ok (.bipush 10, 2) := by decide +kernel
theorem dX11_person_19 : decode cX11_person 19 = .ok (.idiv, 1) := by decide +kernel
theorem dX11_person_20 : decode cX11_person 20 = .ok (.istore 4, 2) := by decide +kernel
theorem dX11_person_22 : decode cX11_person 22 = .ok (.iload_n 3, 1) := by decide +kernel
theorem dX11_person_23 : decode cX11_person 23 = .ok (.bipush 10, 2) := by decide +kernel
theorem dX11_person_25 : decode cX11_person 25 = .ok (.irem, 1) := by decide +kernel
theorem dX11_person_26 : decode cX11_person 26 = .ok (.istore 5, 2) := by decide +kernel
theorem dX11_person_28 : decode cX11_person 28 = .ok (.iload 4, 2) := by decide +kernel
theorem dX11_person_30 : decode cX11_person 30 = .ok (.invokestatic 54, 3) := by decide +kernel
theorem dX11_person_33 : decode cX11_person 33 = .ok (.ifCond .eq 11, 3) := by decide +kernel
theorem dX11_person_36 : decode cX11_person 36 = .ok (.iload 5, 2) := by decide +kernel
theorem dX11_person_38 : decode cX11_person 38 = .ok (.invokestatic 54, 3) := by decide +kernel
theorem dX11_person_41 : decode cX11_person 41 = .ok (.ifCond .ne 5, 3) := by decide +kernel
theorem dX11_person_44 : decode cX11_person 44 = .ok (.iconst (-1), 1) := by decide +kernel
theorem dX11_person_45 : decode cX11_person 45 = .ok (.ireturn, 1) := by decide +kernel
theorem dX11_person_46 : decode cX11_person 46 = .ok (.iload_n 2, 1) := by decide +kernel
theorem dX11_person_47 : decode cX11_person 47 = .ok (.ifCond .lt 16, 3) := by decide +kernel
theorem dX11_person_50 : decode cX11_person 50 = .ok (.iload_n 2, 1) := by decide +kernel
theorem dX11_person_51 : decode cX11_person 51 = .ok (.bipush 9, 2) := by decide +kernel
theorem dX11_person_53 : decode cX11_person 53 = .ok (.if_icmp .gt 10, 3) := by decide +kernel
theorem dX11_person_56 : decode cX11_person 56 = .ok (.iload 4, 2) := by decide +kernel
theorem dX11_person_58 : decode cX11_person 58 = .ok (.iload 5, 2) := by decide +kernel
theorem dX11_person_60 : decode cX11_person 60 = .ok (.if_icmp .ne 6, 3) := by decide +kernel
theorem dX11_person_63 : decode cX11_person 63 = .ok (.bipush (-2), 2) := by decide +kernel
theorem dX11_person_65 : decode cX11_person 65 = .ok (.ireturn, 1) := by decide +kernel
theorem dX11_person_66 : decode cX11_person 66 = .ok (.aload_n 0, 1) := by decide +kernel
theorem dX11_person_67 : decode cX11_person 67 = .ok (.getfield 12, 3) := by decide +kernel
theorem dX11_person_70 : decode cX11_person 70 = .ok (.getfield 106, 3) := by decide +kernel
theorem dX11_person_73 : decode cX11_person 73 = .ok (.bipush 6, 2) := by decide +kernel
theorem dX11_person_75 : decode cX11_person 75 = .ok (.if_icmp .lt 6, 3) := by decide +kernel
theorem dX11_person_78 : decode cX11_person 78 = .ok (.bipush (-4), 2) := by decide +kernel
theorem dX11_person_80 : decode cX11_person 80 = .ok (.ireturn, 1) := by decide +kernel
theorem dX11_person_81 : decode cX11_person 81 = .ok (.aload_n 0, 1) := by decide +kernel
theorem dX11_person_82 : decode cX11_person 82 = .ok (.getfield 12, 3) := by decide +kernel
theorem dX11_person_85 : decode cX11_person 85 = .ok (.getfield 106, 3) := by decide +kernel
theorem dX11_person_88 : decode cX11_person 88 = .ok (.istore 6, 2) := by decide +kernel
theorem dX11_person_90 : decode cX11_person 90 = .ok (.aload_n 0, 1) := by decide +kernel
theorem dX11_person_91 : decode cX11_person 91 = .ok (.getfield 12, 3) := by decide +kernel
theorem dX11_person_94 : decode cX11_person 94 = .ok (.getfield 109, 3) := by decide +kernel
theorem dX11_person_97 : decode cX11_person 97 = .ok (.iload 6, 2) := by decide +kernel
theorem dX11_person_99 : decode cX11_person 99 = .ok (.iload_n 1, 1) := by decide +kernel
theorem dX11_person_100 : decode cX11_person 100 = .ok (.iload 6, 2) := by decide +kernel
theorem dX11_person_102 : decode cX11_person 102 = .ok (.iload_n 2, 1) := by decide +kernel
theorem dX11_person_103 : decode cX11_person 103 = .ok (.iload 4, 2) := by decide +kernel
theorem dX11_person_105 : decode cX11_person 105 = .ok (.iload 5, 2) := by decide +kernel
theorem dX11_person_107 : decode cX11_person 107 = .ok (.invokestatic 113, 3) := by decide +kernel
theorem dX11_person_110 : decode cX11_person 110 = .ok (.aastore, 1) := by decide +kernel
theorem dX11_person_111 : decode cX11_person 111 = .ok (.aload_n 0, 1) := by decide +kernel
theorem dX11_person_112 : decode cX11_person 112 = .ok (.getfield 12, 3) := by decide +kernel
theorem dX11_person_115 : decode cX11_person 115 = .ok (.getfield 117, 3) := by decide +kernel
theorem dX11_person_118 : decode cX11_person 118 = .ok (.iload 6, 2) := by decide +kernel
theorem dX11_person_120 : decode cX11_person 120 = .ok (.iconst 1, 1) := by decide +kernel
theorem dX11_person_121 : decode cX11_person 121 = .ok (.iastore, 1) := by decide +kernel
theorem dX11_person_122 : decode cX11_person 122 = .ok (.aload_n 0, 1) := by decide +kernel
theorem dX11_person_123 : decode cX11_person 123 = .ok (.getfield 12, 3) := by decide +kernel
theorem dX11_person_126 : decode cX11_person 126 = .ok (.getfield 58, 3) := by decide +kernel
theorem dX11_person_129 : decode cX11_person 129 = .ok (.getfield 120, 3) := by decide +kernel
theorem dX11_person_132 : decode cX11_person 132 = .ok (.iload 6, 2) := by decide +kernel
theorem dX11_person_134 : decode cX11_person 134 = .ok (.iload 4, 2) := by decide +kernel
theorem dX11_person_136 : decode cX11_person 136 = .ok (.iastore, 1) := by decide +kernel
theorem dX11_person_137 : decode cX11_person 137 = .ok (.aload_n 0, 1) := by decide +kernel
theorem dX11_person_138 : decode cX11_person 138 = .ok (.getfield 12, 3) := by decide +kernel
theorem dX11_person_141 : decode cX11_person 141 = .ok (.dup, 1) := by decide +kernel
theorem dX11_person_142 : decode cX11_person 142 = .ok (.getfield 106, 3) := by decide +kernel
theorem dX11_person_145 : decode cX11_person 145 = .ok (.iconst 1, 1) := by decide +kernel
theorem dX11_person_146 : decode cX11_person 146 = .ok (.iadd, 1) := by decide +kernel
theorem dX11_person_147 : decode cX11_person 147 = .ok (.putfield 106, 3) := by decide +kernel
theorem dX11_person_150 : decode cX11_person 150 = .ok (.iload 6, 2) := by decide +kernel
theorem dX11_person_152 : decode cX11_person 152 = .ok (.ireturn, 1) := by decide +kernel
theorem dX11_step_0 : decode cX11_step 0 = .ok (.aload_n 0, 1) := by decide +kernel
theorem dX11_step_1 : decode cX11_step 1 = .ok (.iload_n 1, 1) := by decide +kernel
theorem dX11_step_2 : decode cX11_step 2 = .ok (.invokevirtual 123, 3) := by decide +kernel
theorem dX11_step_5 : decode cX11_step 5 = .ok (.ifnonnull 5, 3) := by decide +kernel
theorem dX11_step_8 : decode cX11_step 8 = .ok (.iconst (-1), 1) := by decide +kernel
theorem dX11_step_9 : decode cX11_step 9 = .ok (.ireturn, 1) := by decide +kernel
theorem dX11_step_10 : decode cX11_step 10 = .ok (.iload_n 2, 1) := by decide +kernel
theorem dX11_step_11 : decode cX11_step 11 = .ok (.iconst 1, 1) := by decide +kernel
theorem dX11_step_12 : decode cX11_step 12 = .ok (.if_icmp .lt 9, 3) := by decide +kernel
theorem dX11_step_15 : decode cX11_step 15 = .ok (.iload_n 2, 1) := by decide +kernel
theorem dX11_step_16 : decode cX11_step 16 = .ok (.bipush 9, 2) := by decide +kernel
theorem dX11_step_18 : decode cX11_step 18 = .ok (.if_icmp .le 6, 3) := by decide +kernel
theorem dX11_step_21 : decode cX11_step 21 = .ok (.bipush (-2), 2) := by decide +kernel
theorem dX11_step_23 : decode cX11_step 23 = .ok (.ireturn, 1) := by decide +kernel
theorem dX11_step_24 : decode cX11_step 24 = .ok (.aload_n 0, 1) := by decide +kernel
theorem dX11_step_25 : decode cX11_step 25 = .ok (.getfield 12, 3) := by decide +kernel
theorem dX11_step_28 : decode cX11_step 28 = .ok (.getfield 117, 3) := by decide +kernel
theorem dX11_step_31 : decode cX11_step 31 = .ok (.iload_n 1, 1) := by decide +kernel
theorem dX11_step_32 : decode cX11_step 32 = .ok (.iaload, 1) := by decide +kernel
theorem dX11_step_33 : decode cX11_step 33 = .ok (.istore_n 3, 1) := by decide +kernel
theorem dX11_step_34 : decode cX11_step 34 = .ok (.aload_n 0, 1) := by decide +kernel
theorem dX11_step_35 : decode cX11_step 35 = .ok (.getfield 12, 3) := by decide +kernel
theorem dX11_step_38 : decode cX11_step 38 = .ok (.getfield 117, 3) := by decide +kernel
theorem dX11_step_41 : decode cX11_step 41 = .ok (.iload_n 1, 1) := by decide +kernel
theorem dX11_step_42 : decode cX11_step 42 = .ok (.iload_n 2, 1) := by decide +kernel
theorem dX11_step_43 : decode cX11_step 43 = .ok (.iastore, 1) := by decide +kernel
theorem dX11_step_44 : decode cX11_step 44 = .ok (.iload_n 3, 1) := by decide +kernel
theorem dX11_step_45 : decode cX11_step 45 = .ok (.ireturn, 1) := by decide +kernel
theorem dX11_of_0 : decode cX11_of 0 = .ok (.aload_n 0, 1) := by decide +kernel
theorem dX11_of_1 : decode cX11_of 1 = .ok (.iload_n 1, 1) := by decide +kernel
theorem dX11_of_2 : decode cX11_of 2 = .ok (.invokevirtual 123, 3) := by decide +kernel
theorem dX11_of_5 : decode cX11_of 5 = .ok (.astore_n 3, 1) := by decide +kernel
theorem dX11_of_6 : decode cX11_of 6 = .ok (.aload_n 3, 1) := by decide +kernel
theorem dX11_of_7 : decode cX11_of 7 = .ok (.ifnonnull 5, 3) := by decide +kernel
theorem dX11_of_10 : decode cX11_of 10 = .ok (.iconst (-1), 1) := by decide +kernel
theorem dX11_of_11 : decode cX11_of 11 = .ok (.ireturn, 1) := by decide +kernel
theorem dX11_of_12 : decode cX11_of 12 = .ok (.iload_n 2, 1) := by decide +kernel
theorem dX11_of_13 : decode cX11_of 13 = .ok (.tableswitch 146 0 7 #[47, 52, 57, 62, 67, 80, 90, 118], 47) := by decide +kernel
theorem dX11_of_60 : decode cX11_of 60 = .ok (.aload_n 3, 1) := by decide +kernel
theorem dX11_of_61 : decode cX11_of 61 = .ok (.getfield 127, 3) := by decide +kernel
theorem dX11_of_64 : decode cX11_of 64 = .ok (.ireturn, 1) := by decide +kernel
theorem dX11_of_65 : decode cX11_of 65 = .ok (.aload_n 3, 1) := by decide +kernel
theorem dX11_of_66 : decode cX11_of 66 = .ok (.getfield 132, 3) := by decide +kernel
theorem dX11_of_69 : decode cX11_of 69 = .ok (.ireturn, 1) := by decide +kernel
theorem dX11_of_70 : decode cX11_of 70 = .ok (.aload_n 3, 1) := by decide +kernel
theorem dX11_of_71 : decode cX11_of 71 = .ok (.getfield 135, 3) := by decide +kernel
theorem dX11_of_74 : decode cX11_of 74 = .ok (.ireturn, 1) := by decide +kernel
theorem dX11_of_75 : decode cX11_of 75 = .ok (.aload_n 3, 1) := by decide +kernel
theorem dX11_of_76 : decode cX11_of 76 = .ok (.getfield 138, 3) := by decide +kernel
theorem dX11_of_79 : decode cX11_of 79 = .ok (.ireturn, 1) := by decide +kernel
theorem dX11_of_80 : decode cX11_of 80 = .ok (.aload_n 0, 1) := by decide +kernel
theorem dX11_of_81 : decode cX11_of 81 = .ok (.getfield 12, 3) := by decide +kernel
theorem dX11_of_84 : decode cX11_of 84 = .ok (.getfield 58, 3) := by decide +kernel
theorem dX11_of_87 : decode cX11_of 87 = .ok (.getfield 120, 3) := by decide +kernel
theorem dX11_of_90 : decode cX11_of 90 = .ok (.iload_n 1, 1) := by decide +kernel
theorem dX11_of_91 : decode cX11_of 91 = .ok (.iaload, 1) := by decide +kernel
theorem dX11_of_92 : decode cX11_of 92 = .ok (.ireturn, 1) := by decide +kernel
theorem dX11_of_93 : decode cX11_of 93 = .ok (.aload_n 0, 1) := by decide +kernel
theorem dX11_of_94 : decode cX11_of 94 = .ok (.getfield 12, 3) := by decide +kernel
theorem dX11_of_97 : decode cX11_of 97 = .ok (.getfield 117, 3) := by decide +kernel
theorem dX11_of_100 : decode cX11_of 100 = .ok (.iload_n 1, 1) := by decide +kernel
theorem dX11_of_101 : decode cX11_of 101 = .ok (.iaload, 1) := by decide +kernel
theorem dX11_of_102 : decode cX11_of 102 = .ok (.ireturn, 1) := by decide +kernel
theorem dX11_of_103 : decode cX11_of 103 = .ok (.aload_n 0, 1) := by decide +kernel
theorem dX11_of_104 : decode cX11_of 104 = .ok (.getfield 12, 3) := by decide +kernel
theorem dX11_of_107 : decode cX11_of 107 = .ok (.getfield 58, 3) := by decide +kernel
theorem dX11_of_110 : decode cX11_of 110 = .ok (.aload_n 3, 1) := by decide +kernel
theorem dX11_of_111 : decode cX11_of 111 = .ok (.aload_n 0, 1) := by decide +kernel
theorem dX11_of_112 : decode cX11_of 112 = .ok (.getfield 12, 3) := by decide +kernel
theorem dX11_of_115 : decode cX11_of 115 = .ok (.getfield 83, 3) := by decide +kernel
theorem dX11_of_118 : decode cX11_of 118 = .ok (.iconst 0, 1) := by decide +kernel
theorem dX11_of_119 : decode cX11_of 119 = .ok (.invokevirtual 141, 3) := by decide +kernel
theorem dX11_of_122 : decode cX11_of 122 = .ok (.ifCond .eq 7, 3) := by decide +kernel
theorem dX11_of_125 : decode cX11_of 125 = .ok (.iconst 1, 1) := by decide +kernel
theorem dX11_of_126 : decode cX11_of 126 = .ok (.goto 4, 3) := by decide +kernel
theorem dX11_of_129 : decode cX11_of 129 = .ok (.iconst 0, 1) := by decide +kernel
theorem dX11_of_130 : decode cX11_of 130 = .ok (.ireturn, 1) := by decide +kernel
theorem dX11_of_131 : decode cX11_of 131 = .ok (.aload_n 0, 1) := by decide +kernel
theorem dX11_of_132 : decode cX11_of 132 = .ok (.getfield 12, 3) := by decide +kernel
theorem dX11_of_135 : decode cX11_of 135 = .ok (.getfield 58, 3) := by decide +kernel
theorem dX11_of_138 : decode cX11_of 138 = .ok (.aload_n 3, 1) := by decide +kernel
theorem dX11_of_139 : decode cX11_of 139 = .ok (.aload_n 0, 1) := by decide +kernel
theorem dX11_of_140 : decode cX11_of 140 = .ok (.getfield 12, 3) := by decide +kernel
theorem dX11_of_143 : decode cX11_of 143 = .ok (.getfield 83, 3) := by decide +kernel
theorem dX11_of_146 : decode cX11_of 146 = .ok (.iconst 1, 1) := by decide +kernel
theorem dX11_of_147 : decode cX11_of 147 = .ok (.invokevirtual 141, 3) := by decide +kernel
theorem dX11_of_150 : decode cX11_of 150 = .ok (.ifCond .eq 7, 3) := by decide +kernel
theorem dX11_of_153 : decode cX11_of 153 = .ok (.iconst 1, 1) := by decide +kernel
theorem dX11_of_154 : decode cX11_of 154 = .ok (.goto 4, 3) := by decide +kernel
theorem dX11_of_157 : decode cX11_of 157 = .ok (.iconst 0, 1) := by decide +kernel
theorem dX11_of_158 : decode cX11_of 158 = .ok (.ireturn, 1) := by decide +kernel
theorem dX11_of_159 : decode cX11_of 159 = .ok (.iconst (-1), 1) := by decide +kernel
theorem dX11_of_160 : decode cX11_of 160 = .ok (.ireturn, 1) := by decide +kernel
theorem dX11_go_0 : decode cX11_go 0 = .ok (.iload_n 1, 1) := by decide +kernel
theorem dX11_go_1 : decode cX11_go 1 = .ok (.ifCond .eq 12, 3) := by decide +kernel
theorem dX11_go_4 : decode cX11_go 4 = .ok (.iload_n 1, 1) := by decide +kernel
theorem dX11_go_5 : decode cX11_go 5 = .ok (.iconst 1, 1) := by decide +kernel
theorem dX11_go_6 : decode cX11_go 6 = .ok (.if_icmp .eq 7, 3) := by decide +kernel
theorem dX11_go_9 : decode cX11_go 9 = .ok (.sipush (-1002), 3) := by decide +kernel
theorem dX11_go_12 : decode cX11_go 12 = .ok (.ireturn, 1) := by decide +kernel
theorem dX11_go_13 : decode cX11_go 13 = .ok (.aload_n 0, 1) := by decide +kernel
theorem dX11_go_14 : decode cX11_go 14 = .ok (.getfield 12, 3) := by decide +kernel
theorem dX11_go_17 : decode cX11_go 17 = .ok (.getfield 58, 3) := by decide +kernel
theorem dX11_go_20 : decode cX11_go 20 = .ok (.getfield 87, 3) := by decide +kernel
theorem dX11_go_23 : decode cX11_go 23 = .ok (.sipush 999, 3) := by decide +kernel
theorem dX11_go_26 : decode cX11_go 26 = .ok (.if_icmp .lt 7, 3) := by decide +kernel
theorem dX11_go_29 : decode cX11_go 29 = .ok (.sipush (-1003), 3) := by decide +kernel
theorem dX11_go_32 : decode cX11_go 32 = .ok (.ireturn, 1) := by decide +kernel
theorem dX11_go_33 : decode cX11_go 33 = .ok (.aload_n 0, 1) := by decide +kernel
theorem dX11_go_34 : decode cX11_go 34 = .ok (.getfield 12, 3) := by decide +kernel
theorem dX11_go_37 : decode cX11_go 37 = .ok (.getfield 58, 3) := by decide +kernel
theorem dX11_go_40 : decode cX11_go 40 = .ok (.invokevirtual 145, 3) := by decide +kernel
theorem dX11_go_43 : decode cX11_go 43 = .ok (.aload_n 0, 1) := by decide +kernel
theorem dX11_go_44 : decode cX11_go 44 = .ok (.getfield 12, 3) := by decide +kernel
theorem dX11_go_47 : decode cX11_go 47 = .ok (.getfield 58, 3) := by decide +kernel
theorem dX11_go_50 : decode cX11_go 50 = .ok (.aload_n 0, 1) := by decide +kernel
theorem dX11_go_51 : decode cX11_go 51 = .ok (.getfield 12, 3) := by decide +kernel
theorem dX11_go_54 : decode cX11_go 54 = .ok (.iload_n 1, 1) := by decide +kernel
theorem dX11_go_55 : decode cX11_go 55 = .ok (.invokevirtual 148, 3) := by decide +kernel
theorem dX11_go_58 : decode cX11_go 58 = .ok (.aload_n 0, 1) := by decide +kernel
theorem dX11_go_59 : decode cX11_go 59 = .ok (.getfield 12, 3) := by decide +kernel
theorem dX11_go_62 : decode cX11_go 62 = .ok (.getfield 58, 3) := by decide +kernel
theorem dX11_go_65 : decode cX11_go 65 = .ok (.getfield 152, 3) := by decide +kernel
theorem dX11_go_68 : decode cX11_go 68 = .ok (.ireturn, 1) := by decide +kernel
theorem dX11_row_0 : decode cX11_row 0 = .ok (.iload_n 1, 1) := by decide +kernel
theorem dX11_row_1 : decode cX11_row 1 = .ok (.iconst (-1), 1) := by decide +kernel
theorem dX11_row_2 : decode cX11_row 2 = .ok (.if_icmp .ne 13, 3) := by decide +kernel
theorem dX11_row_5 : decode cX11_row 5 = .ok (.aload_n 0, 1) := by decide +kernel
theorem dX11_row_6 : decode cX11_row 6 = .ok (.getfield 12, 3) := by decide +kernel
theorem dX11_row_9 : decode cX11_row 9 = .ok (.iconst 0, 1) := by decide +kernel
theorem dX11_row_10 : decode cX11_row 10 = .ok (.putfield 155, 3) := by decide +kernel
theorem dX11_row_13 : decode cX11_row 13 = .ok (.iconst 0, 1) := by decide +kernel
theorem dX11_row_14 : decode cX11_row 14 = .ok (.ireturn, 1) := by decide +kernel
theorem dX11_row_15 : decode cX11_row 15 = .ok (.iload_n 1, 1) := by decide +kernel
theorem dX11_row_16 : decode cX11_row 16 = .ok (.ifCond .eq 11, 3) := by decide +kernel
theorem dX11_row_19 : decode cX11_row 19 = .ok (.iload_n 1, 1) := by decide +kernel
theorem dX11_row_20 : decode cX11_row 20 = .ok (.iconst 1, 1) := by decide +kernel
theorem dX11_row_21 : decode cX11_row 21 = .ok (.if_icmp .eq 6, 3) := by decide +kernel
theorem dX11_row_24 : decode cX11_row 24 = .ok (.bipush (-2), 2) := by decide +kernel
theorem dX11_row_26 : decode cX11_row 26 = .ok (.ireturn, 1) := by decide +kernel
theorem dX11_row_27 : decode cX11_row 27 = .ok (.aload_n 0, 1) := by decide +kernel
theorem dX11_row_28 : decode cX11_row 28 = .ok (.getfield 12, 3) := by decide +kernel
theorem dX11_row_31 : decode cX11_row 31 = .ok (.getfield 155, 3) := by decide +kernel
theorem dX11_row_34 : decode cX11_row 34 = .ok (.bipush 20, 2) := by decide +kernel
theorem dX11_row_36 : decode cX11_row 36 = .ok (.if_icmp .lt 6, 3) := by decide +kernel
theorem dX11_row_39 : decode cX11_row 39 = .ok (.bipush (-4), 2) := by decide +kernel
theorem dX11_row_41 : decode cX11_row 41 = .ok (.ireturn, 1) := by decide +kernel
theorem dX11_row_42 : decode cX11_row 42 = .ok (.aload_n 0, 1) := by decide +kernel
theorem dX11_row_43 : decode cX11_row 43 = .ok (.getfield 12, 3) := by decide +kernel
theorem dX11_row_46 : decode cX11_row 46 = .ok (.getfield 158, 3) := by decide +kernel
theorem dX11_row_49 : decode cX11_row 49 = .ok (.aload_n 0, 1) := by decide +kernel
theorem dX11_row_50 : decode cX11_row 50 = .ok (.getfield 12, 3) := by decide +kernel
theorem dX11_row_53 : decode cX11_row 53 = .ok (.getfield 155, 3) := by decide +kernel
theorem dX11_row_56 : decode cX11_row 56 = .ok (.iload_n 1, 1) := by decide +kernel
theorem dX11_row_57 : decode cX11_row 57 = .ok (.iastore, 1) := by decide +kernel
theorem dX11_row_58 : decode cX11_row 58 = .ok (.aload_n 0, 1) := by decide +kernel
theorem dX11_row_59 : decode cX11_row 59 = .ok (.getfield 12, 3) := by decide +kernel
theorem dX11_row_62 : decode cX11_row 62 = .ok (.dup, 1) := by decide +kernel
theorem dX11_row_63 : decode cX11_row 63 = .ok (.getfield 155, 3) := by decide +kernel
theorem dX11_row_66 : decode cX11_row 66 = .ok (.iconst 1, 1) := by decide +kernel
theorem dX11_row_67 : decode cX11_row 67 = .ok (.iadd, 1) := by decide +kernel
theorem dX11_row_68 : decode cX11_row 68 = .ok (.putfield 155, 3) := by decide +kernel
theorem dX11_row_71 : decode cX11_row 71 = .ok (.aload_n 0, 1) := by decide +kernel
theorem dX11_row_72 : decode cX11_row 72 = .ok (.getfield 12, 3) := by decide +kernel
theorem dX11_row_75 : decode cX11_row 75 = .ok (.getfield 155, 3) := by decide +kernel
theorem dX11_row_78 : decode cX11_row 78 = .ok (.ireturn, 1) := by decide +kernel
theorem dX11_hand_0 : decode cX11_hand 0 = .ok (.iload_n 2, 1) := by decide +kernel
theorem dX11_hand_1 : decode cX11_hand 1 = .ok (.ifCond .lt 9, 3) := by decide +kernel
theorem dX11_hand_4 : decode cX11_hand 4 = .ok (.iload_n 2, 1) := by decide +kernel
theorem dX11_hand_5 : decode cX11_hand 5 = .ok (.bipush 6, 2) := by decide +kernel
theorem dX11_hand_7 : decode cX11_hand 7 = .ok (.if_icmp .le 7, 3) := by decide +kernel
theorem dX11_hand_10 : decode cX11_hand 10 = .ok (.sipush (-1001), 3) := by decide +kernel
theorem dX11_hand_13 : decode cX11_hand 13 = .ok (.ireturn, 1) := by decide +kernel
theorem dX11_hand_14 : decode cX11_hand 14 = .ok (.iload_n 1, 1) := by decide +kernel
theorem dX11_hand_15 : decode cX11_hand 15 = .ok (.ifCond .lt 14, 3) := by decide +kernel
theorem dX11_hand_18 : decode cX11_hand 18 = .ok (.iload_n 1, 1) := by decide +kernel
theorem dX11_hand_19 : decode cX11_hand 19 = .ok (.aload_n 0, 1) := by decide +kernel
theorem dX11_hand_20 : decode cX11_hand 20 = .ok (.getfield 12, 3) := by decide +kernel
theorem dX11_hand_23 : decode cX11_hand 23 = .ok (.getfield 155, 3) := by decide +kernel
theorem dX11_hand_26 : decode cX11_hand 26 = .ok (.if_icmp .le 7, 3) := by decide +kernel
theorem dX11_hand_29 : decode cX11_hand 29 = .ok (.sipush (-1002), 3) := by decide +kernel
theorem dX11_hand_32 : decode cX11_hand 32 = .ok (.ireturn, 1) := by decide +kernel
theorem dX11_hand_33 : decode cX11_hand 33 = .ok (.aload_n 0, 1) := by decide +kernel
theorem dX11_hand_34 : decode cX11_hand 34 = .ok (.invokevirtual 161, 3) := by decide +kernel
theorem dX11_hand_37 : decode cX11_hand 37 = .ok (.astore_n 3, 1) := by decide +kernel
theorem dX11_hand_38 : decode cX11_hand 38 = .ok (.iconst 0, 1) := by decide +kernel
theorem dX11_hand_39 : decode cX11_hand 39 = .ok (.istore 4, 2) := by decide +kernel
theorem dX11_hand_41 : decode cX11_hand 41 = .ok (.iload 4, 2) := by decide +kernel
theorem dX11_hand_43 : decode cX11_hand 43 = .ok (.iload_n 1, 1) := by decide +kernel
theorem dX11_hand_44 : decode cX11_hand 44 = .ok (.if_icmp .ge 27, 3) := by decide +kernel
theorem dX11_hand_47 : decode cX11_hand 47 = .ok (.aload_n 3, 1) := by decide +kernel
theorem dX11_hand_48 : decode cX11_hand 48 = .ok (.aload_n 0, 1) := by decide +kernel
theorem dX11_hand_49 : decode cX11_hand 49 = .ok (.getfield 12, 3) := by decide +kernel
theorem dX11_hand_52 : decode cX11_hand 52 = .ok (.aload_n 0, 1) := by decide +kernel
theorem dX11_hand_53 : decode cX11_hand 53 = .ok (.getfield 12, 3) := by decide +kernel
theorem dX11_hand_56 : decode cX11_hand 56 = .ok (.getfield 158, 3) := by decide +kernel
theorem dX11_hand_59 : decode cX11_hand 59 = .ok (.iload 4, 2) := by decide +kernel
theorem dX11_hand_61 : decode cX11_hand 61 = .ok (.iaload, 1) := by decide +kernel
theorem dX11_hand_62 : decode cX11_hand 62 = .ok (.invokevirtual 148, 3) := by decide +kernel
theorem dX11_hand_65 : decode cX11_hand 65 = .ok (.iinc 4 1, 3) := by decide +kernel
theorem dX11_hand_68 : decode cX11_hand 68 = .ok (.goto (-27), 3) := by decide +kernel
theorem dX11_hand_71 : decode cX11_hand 71 = .ok (.iload_n 2, 1) := by decide +kernel
theorem dX11_hand_72 : decode cX11_hand 72 = .ok (.lookupswitch 51 #[(0, 36), (1, 41), (6, 46)], 36) := by decide +kernel
theorem dX11_hand_108 : decode cX11_hand 108 = .ok (.aload_n 3, 1) := by decide +kernel
theorem dX11_hand_109 : decode cX11_hand 109 = .ok (.getfield 152, 3) := by decide +kernel
theorem dX11_hand_112 : decode cX11_hand 112 = .ok (.ireturn, 1) := by decide +kernel
theorem dX11_hand_113 : decode cX11_hand 113 = .ok (.aload_n 3, 1) := by decide +kernel
theorem dX11_hand_114 : decode cX11_hand 114 = .ok (.getfield 165, 3) := by decide +kernel
theorem dX11_hand_117 : decode cX11_hand 117 = .ok (.ireturn, 1) := by decide +kernel
theorem dX11_hand_118 : decode cX11_hand 118 = .ok (.aload_n 3, 1) := by decide +kernel
theorem dX11_hand_119 : decode cX11_hand 119 = .ok (.getfield 168, 3) := by decide +kernel
theorem dX11_hand_122 : decode cX11_hand 122 = .ok (.ireturn, 1) := by decide +kernel
theorem dX11_hand_123 : decode cX11_hand 123 = .ok (.aload_n 3, 1) := by decide +kernel
theorem dX11_hand_124 : decode cX11_hand 124 = .ok (.getfield 62, 3) := by decide +kernel
theorem dX11_hand_127 : decode cX11_hand 127 = .ok (.iload_n 2, 1) := by decide +kernel
theorem dX11_hand_128 : decode cX11_hand 128 = .ok (.iconst 2, 1) := by decide +kernel
theorem dX11_hand_129 : decode cX11_hand 129 = .ok (.isub, 1) := by decide +kernel
theorem dX11_hand_130 : decode cX11_hand 130 = .ok (.iaload, 1) := by decide +kernel
theorem dX11_hand_131 : decode cX11_hand 131 = .ok (.ireturn, 1) := by decide +kernel
theorem dX11_mean_0 : decode cX11_mean 0 = .ok (.iload_n 1, 1) := by decide +kernel
theorem dX11_mean_1 : decode cX11_mean 1 = .ok (.iconst 1, 1) := by decide +kernel
theorem dX11_mean_2 : decode cX11_mean 2 = .ok (.if_icmp .lt 27, 3) := by decide +kernel
theorem dX11_mean_5 : decode cX11_mean 5 = .ok (.iload_n 1, 1) := by decide +kernel
theorem dX11_mean_6 : decode cX11_mean 6 = .ok (.bipush 8, 2) := by decide +kernel
theorem dX11_mean_8 : decode cX11_mean 8 = .ok (.if_icmp .gt 21, 3) := by decide +kernel
theorem dX11_mean_11 : decode cX11_mean 11 = .ok (.iload_n 2, 1) := by decide +kernel
theorem dX11_mean_12 : decode cX11_mean 12 = .ok (.ifCond .lt 17, 3) := by decide +kernel
theorem dX11_mean_15 : decode cX11_mean 15 = .ok (.iload_n 2, 1) := by decide +kernel
theorem dX11_mean_16 : decode cX11_mean 16 = .ok (.iconst 1, 1) := by decide +kernel
theorem dX11_mean_17 : decode cX11_mean 17 = .ok (.if_icmp .gt 12, 3) := by decide +kernel
theorem dX11_mean_20 : decode cX11_mean 20 = .ok (.iload_n 3, 1) := by decide +kernel
theorem dX11_mean_21 : decode cX11_mean 21 = .ok (.ifCond .lt 8, 3) := by decide +kernel
theorem dX11_mean_24 : decode cX11_mean 24 = .ok (.iload_n 3, 1) := by decide +kernel
theorem dX11_mean_25 : decode cX11_mean 25 = .ok (.iconst 1, 1) := by decide +kernel
theorem dX11_mean_26 : decode cX11_mean 26 = .ok (.if_icmp .le 7, 3) := by decide +kernel
theorem dX11_mean_29 : decode cX11_mean 29 = .ok (.ldc2_w 171, 3) := by decide +kernel
theorem dX11_mean_32 : decode cX11_mean 32 = .ok (.lreturn, 1) := by decide +kernel
theorem dX11_mean_33 : decode cX11_mean 33 = .ok (.aload_n 0, 1) := by decide +kernel
theorem dX11_mean_34 : decode cX11_mean 34 = .ok (.invokevirtual 161, 3) := by decide +kernel
theorem dX11_mean_37 : decode cX11_mean 37 = .ok (.pop, 1) := by decide +kernel
theorem dX11_mean_38 : decode cX11_mean 38 = .ok (.aload_n 0, 1) := by decide +kernel
theorem dX11_mean_39 : decode cX11_mean 39 = .ok (.iconst 0, 1) := by decide +kernel
theorem dX11_mean_40 : decode cX11_mean 40 = .ok (.iload_n 1, 1) := by decide +kernel
theorem dX11_mean_41 : decode cX11_mean 41 = .ok (.lconst 1, 1) := by decide +kernel
theorem dX11_mean_42 : decode cX11_mean 42 = .ok (.invokevirtual 173, 3) := by decide +kernel
theorem dX11_mean_45 : decode cX11_mean 45 = .ok (.iload_n 2, 1) := by decide +kernel
theorem dX11_mean_46 : decode cX11_mean 46 = .ok (.ifCond .ne 10, 3) := by decide +kernel
theorem dX11_mean_49 : decode cX11_mean 49 = .ok (.aload_n 0, 1) := by decide +kernel
theorem dX11_mean_50 : decode cX11_mean 50 = .ok (.getfield 42, 3) := by decide +kernel
theorem dX11_mean_53 : decode cX11_mean 53 = .ok (.goto 7, 3) := by decide +kernel
theorem dX11_mean_56 : decode cX11_mean 56 = .ok (.aload_n 0, 1) := by decide +kernel
theorem dX11_mean_57 : decode cX11_mean 57 = .ok (.getfield 46, 3) := by decide +kernel
theorem dX11_mean_60 : decode cX11_mean 60 = .ok (.iload_n 1, 1) := by decide +kernel
theorem dX11_mean_61 : decode cX11_mean 61 = .ok (.invokestatic 177, 3) := by decide +kernel
theorem dX11_mean_64 : decode cX11_mean 64 = .ok (.iload_n 3, 1) := by decide +kernel
theorem dX11_mean_65 : decode cX11_mean 65 = .ok (.invokestatic 181, 3) := by decide +kernel
theorem dX11_mean_68 : decode cX11_mean 68 = .ok (.lreturn, 1) := by decide +kernel
theorem dX11_least_0 : decode cX11_least 0 = .ok (.iload_n 1, 1) := by decide +kernel
theorem dX11_least_1 : decode cX11_least 1 = .ok (.iconst 1, 1) := by decide +kernel
theorem dX11_least_2 : decode cX11_least 2 = .ok (.if_icmp .lt 19, 3) := by decide +kernel
theorem dX11_least_5 : decode cX11_least 5 = .ok (.iload_n 1, 1) := by decide +kernel
theorem dX11_least_6 : decode cX11_least 6 = .ok (.bipush 8, 2) := by decide +kernel
theorem dX11_least_8 : decode cX11_least 8 = .ok (.if_icmp .gt 13, 3) := by decide +kernel
theorem dX11_least_11 : decode cX11_least 11 = .ok (.iload_n 2, 1) := by decide +kernel
theorem dX11_least_12 : decode cX11_least 12 = .ok (.ifCond .lt 9, 3) := by decide +kernel
theorem dX11_least_15 : decode cX11_least 15 = .ok (.iload_n 2, 1) := by decide +kernel
theorem dX11_least_16 : decode cX11_least 16 = .ok (.bipush 100, 2) := by decide +kernel
theorem dX11_least_18 : decode cX11_least 18 = .ok (.if_icmp .le 6, 3) := by decide +kernel
theorem dX11_least_21 : decode cX11_least 21 = .ok (.bipush (-2), 2) := by decide +kernel
theorem dX11_least_23 : decode cX11_least 23 = .ok (.ireturn, 1) := by decide +kernel
theorem dX11_least_24 : decode cX11_least 24 = .ok (.bipush 100, 2) := by decide +kernel
theorem dX11_least_26 : decode cX11_least 26 = .ok (.iload_n 2, 1) := by decide +kernel
theorem dX11_least_27 : decode cX11_least 27 = .ok (.isub, 1) := by decide +kernel
theorem dX11_least_28 : decode cX11_least 28 = .ok (.i2l, 1) := by decide +kernel
theorem dX11_least_29 : decode cX11_least 29 = .ok (.iload_n 1, 1) := by decide +kernel
theorem dX11_least_30 : decode cX11_least 30 = .ok (.invokestatic 177, 3) := by decide +kernel
theorem dX11_least_33 : decode cX11_least 33 = .ok (.lmul, 1) := by decide +kernel
theorem dX11_least_34 : decode cX11_least 34 = .ok (.lstore_n 3, 1) := by decide +kernel
theorem dX11_least_35 : decode cX11_least 35 = .ok (.iconst 0, 1) := by decide +kernel
theorem dX11_least_36 : decode cX11_least 36 = .ok (.istore 5, 2) := by decide +kernel
theorem dX11_least_38 : decode cX11_least 38 = .ok (.iload 5, 2) := by decide +kernel
theorem dX11_least_40 : decode cX11_least 40 = .ok (.bipush 9, 2) := by decide +kernel
theorem dX11_least_42 : decode cX11_least 42 = .ok (.if_icmp .gt 47, 3) := by decide +kernel
theorem dX11_least_45 : decode cX11_least 45 = .ok (.aload_n 0, 1) := by decide +kernel
theorem dX11_least_46 : decode cX11_least 46 = .ok (.invokevirtual 161, 3) := by decide +kernel
theorem dX11_least_49 : decode cX11_least 49 = .ok (.iload 5, 2) := by decide +kernel
theorem dX11_least_51 : decode cX11_least 51 = .ok (.iload 5, 2) := by decide +kernel
theorem dX11_least_53 : decode cX11_least 53 = .ok (.iload 5, 2) := by decide +kernel
theorem dX11_least_55 : decode cX11_least 55 = .ok (.iload 5, 2) := by decide +kernel
theorem dX11_least_57 : decode cX11_least 57 = .ok (.invokevirtual 185, 3) := by decide +kernel
theorem dX11_least_60 : decode cX11_least 60 = .ok (.aload_n 0, 1) := by decide +kernel
theorem dX11_least_61 : decode cX11_least 61 = .ok (.iconst 0, 1) := by decide +kernel
theorem dX11_least_62 : decode cX11_least 62 = .ok (.iload_n 1, 1) := by decide +kernel
theorem dX11_least_63 : decode cX11_least 63 = .ok (.lconst 1, 1) := by decide +kernel
theorem dX11_least_64 : decode cX11_least 64 = .ok (.invokevirtual 173, 3) := by decide +kernel
theorem dX11_least_67 : decode cX11_least 67 = .ok (.aload_n 0, 1) := by decide +kernel
theorem dX11_least_68 : decode cX11_least 68 = .ok (.getfield 46, 3) := by decide +kernel
theorem dX11_least_71 : decode cX11_least 71 = .ok (.ldc2_w 189, 3) := by decide +kernel
theorem dX11_least_74 : decode cX11_least 74 = .ok (.lmul, 1) := by decide +kernel
theorem dX11_least_75 : decode cX11_least 75 = .ok (.lload_n 3, 1) := by decide +kernel
theorem dX11_least_76 : decode cX11_least 76 = .ok (.lcmp, 1) := by decide +kernel
theorem dX11_least_77 : decode cX11_least 77 = .ok (.ifCond .lt 6, 3) := by decide +kernel
theorem dX11_least_80 : decode cX11_least 80 = .ok (.iload 5, 2) := by decide +kernel
theorem dX11_least_82 : decode cX11_least 82 = .ok (.ireturn, 1) := by decide +kernel
theorem dX11_least_83 : decode cX11_least 83 = .ok (.iinc 5 1, 3) := by decide +kernel
theorem dX11_least_86 : decode cX11_least 86 = .ok (.goto (-48), 3) := by decide +kernel
theorem dX11_least_89 : decode cX11_least 89 = .ok (.bipush (-5), 2) := by decide +kernel
theorem dX11_least_91 : decode cX11_least 91 = .ok (.ireturn, 1) := by decide +kernel
theorem dX11_start_0 : decode cX11_start 0 = .ok (.iload_n 2, 1) := by decide +kernel
theorem dX11_start_1 : decode cX11_start 1 = .ok (.invokestatic 54, 3) := by decide +kernel
theorem dX11_start_4 : decode cX11_start 4 = .ok (.ifCond .ne 5, 3) := by decide +kernel
theorem dX11_start_7 : decode cX11_start 7 = .ok (.iconst (-1), 1) := by decide +kernel
theorem dX11_start_8 : decode cX11_start 8 = .ok (.ireturn, 1) := by decide +kernel
theorem dX11_start_9 : decode cX11_start 9 = .ok (.iload_n 1, 1) := by decide +kernel
theorem dX11_start_10 : decode cX11_start 10 = .ok (.iconst 1, 1) := by decide +kernel
theorem dX11_start_11 : decode cX11_start 11 = .ok (.if_icmp .lt 8, 3) := by decide +kernel
theorem dX11_start_14 : decode cX11_start 14 = .ok (.iload_n 1, 1) := by decide +kernel
theorem dX11_start_15 : decode cX11_start 15 = .ok (.iconst 5, 1) := by decide +kernel
theorem dX11_start_16 : decode cX11_start 16 = .ok (.if_icmp .le 6, 3) := by decide +kernel
theorem dX11_start_19 : decode cX11_start 19 = .ok (.bipush (-2), 2) := by decide +kernel
theorem dX11_start_21 : decode cX11_start 21 = .ok (.ireturn, 1) := by decide +kernel
theorem dX11_start_22 : decode cX11_start 22 = .ok (.aload_n 0, 1) := by decide +kernel
theorem dX11_start_23 : decode cX11_start 23 = .ok (.getfield 12, 3) := by decide +kernel
theorem dX11_start_26 : decode cX11_start 26 = .ok (.getfield 58, 3) := by decide +kernel
theorem dX11_start_29 : decode cX11_start 29 = .ok (.invokevirtual 191, 3) := by decide +kernel
theorem dX11_start_32 : decode cX11_start 32 = .ok (.istore_n 3, 1) := by decide +kernel
theorem dX11_start_33 : decode cX11_start 33 = .ok (.iload_n 3, 1) := by decide +kernel
theorem dX11_start_34 : decode cX11_start 34 = .ok (.bipush 6, 2) := by decide +kernel
theorem dX11_start_36 : decode cX11_start 36 = .ok (.if_icmp .le 6, 3) := by decide +kernel
theorem dX11_start_39 : decode cX11_start 39 = .ok (.bipush (-9), 2) := by decide +kernel
theorem dX11_start_41 : decode cX11_start 41 = .ok (.ireturn, 1) := by decide +kernel
theorem dX11_start_42 : decode cX11_start 42 = .ok (.aload_n 0, 1) := by decide +kernel
theorem dX11_start_43 : decode cX11_start 43 = .ok (.iload_n 1, 1) := by decide +kernel
theorem dX11_start_44 : decode cX11_start 44 = .ok (.iload_n 3, 1) := by decide +kernel
theorem dX11_start_45 : decode cX11_start 45 = .ok (.invokevirtual 195, 3) := by decide +kernel
theorem dX11_start_48 : decode cX11_start 48 = .ok (.iload_n 2, 1) := by decide +kernel
theorem dX11_start_49 : decode cX11_start 49 = .ok (.invokestatic 198, 3) := by decide +kernel
theorem dX11_start_52 : decode cX11_start 52 = .ok (.ireturn, 1) := by decide +kernel
theorem dX11_rule_0 : decode cX11_rule 0 = .ok (.aload_n 0, 1) := by decide +kernel
theorem dX11_rule_1 : decode cX11_rule 1 = .ok (.iload_n 1, 1) := by decide +kernel
theorem dX11_rule_2 : decode cX11_rule 2 = .ok (.invokevirtual 123, 3) := by decide +kernel
theorem dX11_rule_5 : decode cX11_rule 5 = .ok (.astore_n 3, 1) := by decide +kernel
theorem dX11_rule_6 : decode cX11_rule 6 = .ok (.aload_n 3, 1) := by decide +kernel
theorem dX11_rule_7 : decode cX11_rule 7 = .ok (.ifnonnull 5, 3) := by decide +kernel
theorem dX11_rule_10 : decode cX11_rule 10 = .ok (.iconst (-1), 1) := by decide +kernel
theorem dX11_rule_11 : decode cX11_rule 11 = .ok (.ireturn, 1) := by decide +kernel
theorem dX11_rule_12 : decode cX11_rule 12 = .ok (.iload_n 2, 1) := by decide +kernel
theorem dX11_rule_13 : decode cX11_rule 13 = .ok (.iconst 1, 1) := by decide +kernel
theorem dX11_rule_14 : decode cX11_rule 14 = .ok (.if_icmp .lt 9, 3) := by decide +kernel
theorem dX11_rule_17 : decode cX11_rule 17 = .ok (.iload_n 2, 1) := by decide +kernel
theorem dX11_rule_18 : decode cX11_rule 18 = .ok (.bipush 6, 2) := by decide +kernel
theorem dX11_rule_20 : decode cX11_rule 20 = .ok (.if_icmp .le 6, 3) := by decide +kernel
theorem dX11_rule_23 : decode cX11_rule 23 = .ok (.bipush (-2), 2) := by decide +kernel
theorem dX11_rule_25 : decode cX11_rule 25 = .ok (.ireturn, 1) := by decide +kernel
theorem dX11_rule_26 : decode cX11_rule 26 = .ok (.aload_n 3, 1) := by decide +kernel
theorem dX11_rule_27 : decode cX11_rule 27 = .ok (.getfield 132, 3) := by decide +kernel
theorem dX11_rule_30 : decode cX11_rule 30 = .ok (.istore 4, 2) := by decide +kernel
theorem dX11_rule_32 : decode cX11_rule 32 = .ok (.iconst 0, 1) := by decide +kernel
theorem dX11_rule_33 : decode cX11_rule 33 = .ok (.istore 5, 2) := by decide +kernel
theorem dX11_rule_35 : decode cX11_rule 35 = .ok (.lconst 0, 1) := by decide +kernel
theorem dX11_rule_36 : decode cX11_rule 36 = .ok (.lstore 6, 2) := by decide +kernel
theorem dX11_rule_38 : decode cX11_rule 38 = .ok (.iconst 0, 1) := by decide +kernel
theorem dX11_rule_39 : decode cX11_rule 39 = .ok (.istore 8, 2) := by decide +kernel
theorem dX11_rule_41 : decode cX11_rule 41 = .ok (.iload 8, 2) := by decide +kernel
theorem dX11_rule_43 : decode cX11_rule 43 = .ok (.bipush 9, 2) := by decide +kernel
theorem dX11_rule_45 : decode cX11_rule 45 = .ok (.if_icmp .gt 52, 3) := by decide +kernel
theorem dX11_rule_48 : decode cX11_rule 48 = .ok (.aload_n 3, 1) := by decide +kernel
theorem dX11_rule_49 : decode cX11_rule 49 = .ok (.iload 8, 2) := by decide +kernel
theorem dX11_rule_51 : decode cX11_rule 51 = .ok (.putfield 132, 3) := by decide +kernel
theorem dX11_rule_54 : decode cX11_rule 54 = .ok (.aload_n 0, 1) := by decide +kernel
theorem dX11_rule_55 : decode cX11_rule 55 = .ok (.invokevirtual 161, 3) := by decide +kernel
theorem dX11_rule_58 : decode cX11_rule 58 = .ok (.pop, 1) := by decide +kernel
theorem dX11_rule_59 : decode cX11_rule 59 = .ok (.aload_n 0, 1) := by decide +kernel
theorem dX11_rule_60 : decode cX11_rule 60 = .ok (.iconst 0, 1) := by decide +kernel
theorem dX11_rule_61 : decode cX11_rule 61 = .ok (.iload_n 2, 1) := by decide +kernel
theorem dX11_rule_62 : decode cX11_rule 62 = .ok (.lconst 1, 1) := by decide +kernel
theorem dX11_rule_63 : decode cX11_rule 63 = .ok (.invokevirtual 173, 3) := by decide +kernel
theorem dX11_rule_66 : decode cX11_rule 66 = .ok (.iload 8, 2) := by decide +kernel
theorem dX11_rule_68 : decode cX11_rule 68 = .ok (.ifCond .eq 13, 3) := by decide +kernel
theorem dX11_rule_71 : decode cX11_rule 71 = .ok (.aload_n 0, 1) := by decide +kernel
theorem dX11_rule_72 : decode cX11_rule 72 = .ok (.getfield 42, 3) := by decide +kernel
theorem dX11_rule_75 : decode cX11_rule 75 = .ok (.lload 6, 2) := by decide +kernel
theorem dX11_rule_77 : decode cX11_rule 77 = .ok (.lcmp, 1) := by decide +kernel
theorem dX11_rule_78 : decode cX11_rule 78 = .ok (.ifCond .ge 13, 3) := by decide +kernel
theorem dX11_rule_81 : decode cX11_rule 81 = .ok (.iload 8, 2) := by decide +kernel
theorem dX11_rule_83 : decode cX11_rule 83 = .ok (.istore 5, 2) := by decide +kernel
theorem dX11_rule_85 : decode cX11_rule 85 = .ok (.aload_n 0, 1) := by decide +kernel
theorem dX11_rule_86 : decode cX11_rule 86 = .ok (.getfield 42, 3) := by decide +kernel
theorem dX11_rule_89 : decode cX11_rule 89 = .ok (.lstore 6, 2) := by decide +kernel
theorem dX11_rule_91 : decode cX11_rule 91 = .ok (.iinc 8 1, 3) := by decide +kernel
theorem dX11_rule_94 : decode cX11_rule 94 = .ok (.goto (-53), 3) := by decide +kernel
theorem dX11_rule_97 : decode cX11_rule 97 = .ok (.aload_n 3, 1) := by decide +kernel
theorem dX11_rule_98 : decode cX11_rule 98 = .ok (.iload 4, 2) := by decide +kernel
theorem dX11_rule_100 : decode cX11_rule 100 = .ok (.putfield 132, 3) := by decide +kernel
theorem dX11_rule_103 : decode cX11_rule 103 = .ok (.iload 5, 2) := by decide +kernel
theorem dX11_rule_105 : decode cX11_rule 105 = .ok (.ireturn, 1) := by decide +kernel
theorem dX11_gather_0 : decode cX11_gather 0 = .ok (.iload_n 1, 1) := by decide +kernel
theorem dX11_gather_1 : decode cX11_gather 1 = .ok (.iconst 1, 1) := by decide +kernel
theorem dX11_gather_2 : decode cX11_gather 2 = .ok (.if_icmp .lt 9, 3) := by decide +kernel
theorem dX11_gather_5 : decode cX11_gather 5 = .ok (.iload_n 1, 1) := by decide +kernel
theorem dX11_gather_6 : decode cX11_gather 6 = .ok (.bipush 6, 2) := by decide +kernel
theorem dX11_gather_8 : decode cX11_gather 8 = .ok (.if_icmp .le 6, 3) := by decide +kernel
theorem dX11_gather_11 : decode cX11_gather 11 = .ok (.bipush (-2), 2) := by decide +kernel
theorem dX11_gather_13 : decode cX11_gather 13 = .ok (.ireturn, 1) := by decide +kernel
theorem dX11_gather_14 : decode cX11_gather 14 = .ok (.aload_n 0, 1) := by decide +kernel
theorem dX11_gather_15 : decode cX11_gather 15 = .ok (.invokevirtual 161, 3) := by decide +kernel
theorem dX11_gather_18 : decode cX11_gather 18 = .ok (.pop, 1) := by decide +kernel
theorem dX11_gather_19 : decode cX11_gather 19 = .ok (.aload_n 0, 1) := by decide +kernel
theorem dX11_gather_20 : decode cX11_gather 20 = .ok (.iconst 0, 1) := by decide +kernel
theorem dX11_gather_21 : decode cX11_gather 21 = .ok (.iload_n 1, 1) := by decide +kernel
theorem dX11_gather_22 : decode cX11_gather 22 = .ok (.lconst 1, 1) := by decide +kernel
theorem dX11_gather_23 : decode cX11_gather 23 = .ok (.invokevirtual 173, 3) := by decide +kernel
theorem dX11_gather_26 : decode cX11_gather 26 = .ok (.iconst 0, 1) := by decide +kernel
theorem dX11_gather_27 : decode cX11_gather 27 = .ok (.istore_n 2, 1) := by decide +kernel
theorem dX11_gather_28 : decode cX11_gather 28 = .ok (.iconst 1, 1) := by decide +kernel
theorem dX11_gather_29 : decode cX11_gather 29 = .ok (.istore_n 3, 1) := by decide +kernel
theorem dX11_gather_30 : decode cX11_gather 30 = .ok (.iload_n 3, 1) := by decide +kernel
theorem dX11_gather_31 : decode cX11_gather 31 = .ok (.iconst 4, 1) := by decide +kernel
theorem dX11_gather_32 : decode cX11_gather 32 = .ok (.if_icmp .ge 27, 3) := by decide +kernel
theorem dX11_gather_35 : decode cX11_gather 35 = .ok (.aload_n 0, 1) := by decide +kernel
theorem dX11_gather_36 : decode cX11_gather 36 = .ok (.getfield 38, 3) := by decide +kernel
theorem dX11_gather_39 : decode cX11_gather 39 = .ok (.iload_n 3, 1) := by decide +kernel
theorem dX11_gather_40 : decode cX11_gather 40 = .ok (.laload, 1) := by decide +kernel
theorem dX11_gather_41 : decode cX11_gather 41 = .ok (.aload_n 0, 1) := by decide +kernel
theorem dX11_gather_42 : decode cX11_gather 42 = .ok (.getfield 38, 3) := by decide +kernel
theorem dX11_gather_45 : decode cX11_gather 45 = .ok (.iload_n 2, 1) := by decide +kernel
theorem dX11_gather_46 : decode cX11_gather 46 = .ok (.laload, 1) := by decide +kernel
theorem dX11_gather_47 : decode cX11_gather 47 = .ok (.lcmp, 1) := by decide +kernel
theorem dX11_gather_48 : decode cX11_gather 48 = .ok (.ifCond .le 5, 3) := by decide +kernel
theorem dX11_gather_51 : decode cX11_gather 51 = .ok (.iload_n 3, 1) := by decide +kernel
theorem dX11_gather_52 : decode cX11_gather 52 = .ok (.istore_n 2, 1) := by decide +kernel
theorem dX11_gather_53 : decode cX11_gather 53 = .ok (.iinc 3 1, 3) := by decide +kernel
theorem dX11_gather_56 : decode cX11_gather 56 = .ok (.goto (-26), 3) := by decide +kernel
theorem dX11_gather_59 : decode cX11_gather 59 = .ok (.iload_n 2, 1) := by decide +kernel
theorem dX11_gather_60 : decode cX11_gather 60 = .ok (.ireturn, 1) := by decide +kernel
theorem dX11_penny_0 : decode cX11_penny 0 = .ok (.aload_n 0, 1) := by decide +kernel
theorem dX11_penny_1 : decode cX11_penny 1 = .ok (.iload_n 1, 1) := by decide +kernel
theorem dX11_penny_2 : decode cX11_penny 2 = .ok (.invokevirtual 123, 3) := by decide +kernel
theorem dX11_penny_5 : decode cX11_penny 5 = .ok (.astore 4, 2) := by decide +kernel
theorem dX11_penny_7 : decode cX11_penny 7 = .ok (.aload 4, 2) := by decide +kernel
theorem dX11_penny_9 : decode cX11_penny 9 = .ok (.ifnull 23, 3) := by decide +kernel
theorem dX11_penny_12 : decode cX11_penny 12 = .ok (.iload_n 2, 1) := by decide +kernel
theorem dX11_penny_13 : decode cX11_penny 13 = .ok (.iconst 1, 1) := by decide +kernel
theorem dX11_penny_14 : decode cX11_penny 14 = .ok (.if_icmp .lt 18, 3) := by decide +kernel
theorem dX11_penny_17 : decode cX11_penny 17 = .ok (.iload_n 2, 1) := by decide +kernel
theorem dX11_penny_18 : decode cX11_penny 18 = .ok (.bipush 6, 2) := by decide +kernel
theorem dX11_penny_20 : decode cX11_penny 20 = .ok (.if_icmp .gt 12, 3) := by decide +kernel
theorem dX11_penny_23 : decode cX11_penny 23 = .ok (.iload_n 3, 1) := by decide +kernel
theorem dX11_penny_24 : decode cX11_penny 24 = .ok (.ifCond .lt 8, 3) := by decide +kernel
theorem dX11_penny_27 : decode cX11_penny 27 = .ok (.iload_n 3, 1) := by decide +kernel
theorem dX11_penny_28 : decode cX11_penny 28 = .ok (.iconst 1, 1) := by decide +kernel
theorem dX11_penny_29 : decode cX11_penny 29 = .ok (.if_icmp .le 7, 3) := by decide +kernel
theorem dX11_penny_32 : decode cX11_penny 32 = .ok (.ldc2_w 171, 3) := by decide +kernel
theorem dX11_penny_35 : decode cX11_penny 35 = .ok (.lreturn, 1) := by decide +kernel
theorem dX11_penny_36 : decode cX11_penny 36 = .ok (.aload_n 0, 1) := by decide +kernel
theorem dX11_penny_37 : decode cX11_penny 37 = .ok (.invokevirtual 161, 3) := by decide +kernel
theorem dX11_penny_40 : decode cX11_penny 40 = .ok (.pop, 1) := by decide +kernel
theorem dX11_penny_41 : decode cX11_penny 41 = .ok (.aload_n 0, 1) := by decide +kernel
theorem dX11_penny_42 : decode cX11_penny 42 = .ok (.iconst 0, 1) := by decide +kernel
theorem dX11_penny_43 : decode cX11_penny 43 = .ok (.iload_n 2, 1) := by decide +kernel
theorem dX11_penny_44 : decode cX11_penny 44 = .ok (.lconst 1, 1) := by decide +kernel
theorem dX11_penny_45 : decode cX11_penny 45 = .ok (.invokevirtual 173, 3) := by decide +kernel
theorem dX11_penny_48 : decode cX11_penny 48 = .ok (.aload_n 0, 1) := by decide +kernel
theorem dX11_penny_49 : decode cX11_penny 49 = .ok (.getfield 42, 3) := by decide +kernel
theorem dX11_penny_52 : decode cX11_penny 52 = .ok (.lstore 5, 2) := by decide +kernel
theorem dX11_penny_54 : decode cX11_penny 54 = .ok (.aload_n 0, 1) := by decide +kernel
theorem dX11_penny_55 : decode cX11_penny 55 = .ok (.getfield 12, 3) := by decide +kernel
theorem dX11_penny_58 : decode cX11_penny 58 = .ok (.getfield 109, 3) := by decide +kernel
theorem dX11_penny_61 : decode cX11_penny 61 = .ok (.iload_n 1, 1) := by decide +kernel
theorem dX11_penny_62 : decode cX11_penny 62 = .ok (.iconst 4, 1) := by decide +kernel
theorem dX11_penny_63 : decode cX11_penny 63 = .ok (.iload_n 1, 1) := by decide +kernel
theorem dX11_penny_64 : decode cX11_penny 64 = .ok (.aload 4, 2) := by decide +kernel
theorem dX11_penny_66 : decode cX11_penny 66 = .ok (.getfield 132, 3) := by decide +kernel
theorem dX11_penny_69 : decode cX11_penny 69 = .ok (.aload 4, 2) := by decide +kernel
theorem dX11_penny_71 : decode cX11_penny 71 = .ok (.getfield 135, 3) := by decide +kernel
theorem dX11_penny_74 : decode cX11_penny 74 = .ok (.aload 4, 2) := by decide +kernel
theorem dX11_penny_76 : decode cX11_penny 76 = .ok (.getfield 138, 3) := by decide +kernel
theorem dX11_penny_79 : decode cX11_penny 79 = .ok (.invokestatic 113, 3) := by decide +kernel
theorem dX11_penny_82 : decode cX11_penny 82 = .ok (.aastore, 1) := by decide +kernel
theorem dX11_penny_83 : decode cX11_penny 83 = .ok (.aload_n 0, 1) := by decide +kernel
theorem dX11_penny_84 : decode cX11_penny 84 = .ok (.invokevirtual 161, 3) := by decide +kernel
theorem dX11_penny_87 : decode cX11_penny 87 = .ok (.pop, 1) := by decide +kernel
theorem dX11_penny_88 : decode cX11_penny 88 = .ok (.aload_n 0, 1) := by decide +kernel
theorem dX11_penny_89 : decode cX11_penny 89 = .ok (.iconst 0, 1) := by decide +kernel
theorem dX11_penny_90 : decode cX11_penny 90 = .ok (.iload_n 2, 1) := by decide +kernel
theorem dX11_penny_91 : decode cX11_penny 91 = .ok (.lconst 1, 1) := by decide +kernel
theorem dX11_penny_92 : decode cX11_penny 92 = .ok (.invokevirtual 173, 3) := by decide +kernel
theorem dX11_penny_95 : decode cX11_penny 95 = .ok (.aload_n 0, 1) := by decide +kernel
theorem dX11_penny_96 : decode cX11_penny 96 = .ok (.getfield 12, 3) := by decide +kernel
theorem dX11_penny_99 : decode cX11_penny 99 = .ok (.getfield 109, 3) := by decide +kernel
theorem dX11_penny_102 : decode cX11_penny 102 = .ok (.iload_n 1, 1) := by decide +kernel
theorem dX11_penny_103 : decode cX11_penny 103 = .ok (.aload 4, 2) := by decide +kernel
theorem dX11_penny_105 : decode cX11_penny 105 = .ok (.aastore, 1) := by decide +kernel
theorem dX11_penny_106 : decode cX11_penny 106 = .ok (.lload 5, 2) := by decide +kernel
theorem dX11_penny_108 : decode cX11_penny 108 = .ok (.aload_n 0, 1) := by decide +kernel
theorem dX11_penny_109 : decode cX11_penny 109 = .ok (.getfield 42, 3) := by decide +kernel
theorem dX11_penny_112 : decode cX11_penny 112 = .ok (.lsub, 1) := by decide +kernel
theorem dX11_penny_113 : decode cX11_penny 113 = .ok (.iload_n 2, 1) := by decide +kernel
theorem dX11_penny_114 : decode cX11_penny 114 = .ok (.invokestatic 177, 3) := by decide +kernel
theorem dX11_penny_117 : decode cX11_penny 117 = .ok (.iload_n 3, 1) := by decide +kernel
theorem dX11_penny_118 : decode cX11_penny 118 = .ok (.invokestatic 181, 3) := by decide +kernel
theorem dX11_penny_121 : decode cX11_penny 121 = .ok (.lreturn, 1) := by decide +kernel
theorem dX11_cart_0 : decode cX11_cart 0 = .ok (.aload_n 0, 1) := by decide +kernel
theorem dX11_cart_1 : decode cX11_cart 1 = .ok (.getfield 12, 3) := by decide +kernel
theorem dX11_cart_4 : decode cX11_cart 4 = .ok (.getfield 58, 3) := by decide +kernel
theorem dX11_cart_7 : decode cX11_cart 7 = .ok (.aload_n 0, 1) := by decide +kernel
theorem dX11_cart_8 : decode cX11_cart 8 = .ok (.getfield 12, 3) := by decide +kernel
theorem dX11_cart_11 : decode cX11_cart 11 = .ok (.getfield 83, 3) := by decide +kernel
theorem dX11_cart_14 : decode cX11_cart 14 = .ok (.getfield 103, 3) := by decide +kernel
theorem dX11_cart_17 : decode cX11_cart 17 = .ok (.invokevirtual 201, 3) := by decide +kernel
theorem dX11_cart_20 : decode cX11_cart 20 = .ok (.ireturn, 1) := by decide +kernel
theorem dX11_needed_0 : decode cX11_needed 0 = .ok (.aload_n 0, 1) := by decide +kernel
theorem dX11_needed_1 : decode cX11_needed 1 = .ok (.bipush (-5), 2) := by decide +kernel
theorem dX11_needed_3 : decode cX11_needed 3 = .ok (.putfield 49, 3) := by decide +kernel
theorem dX11_needed_6 : decode cX11_needed 6 = .ok (.aload_n 0, 1) := by decide +kernel
theorem dX11_needed_7 : decode cX11_needed 7 = .ok (.invokevirtual 161, 3) := by decide +kernel
theorem dX11_needed_10 : decode cX11_needed 10 = .ok (.pop, 1) := by decide +kernel
theorem dX11_needed_11 : decode cX11_needed 11 = .ok (.aload_n 0, 1) := by decide +kernel
theorem dX11_needed_12 : decode cX11_needed 12 = .ok (.iconst 0, 1) := by decide +kernel
theorem dX11_needed_13 : decode cX11_needed 13 = .ok (.iconst 0, 1) := by decide +kernel
theorem dX11_needed_14 : decode cX11_needed 14 = .ok (.invokevirtual 205, 3) := by decide +kernel
theorem dX11_needed_17 : decode cX11_needed 17 = .ok (.aload_n 0, 1) := by decide +kernel
theorem dX11_needed_18 : decode cX11_needed 18 = .ok (.getfield 49, 3) := by decide +kernel
theorem dX11_needed_21 : decode cX11_needed 21 = .ok (.ireturn, 1) := by decide +kernel
theorem dX11_book_0 : decode cX11_book 0 = .ok (.iload_n 1, 1) := by decide +kernel
theorem dX11_book_1 : decode cX11_book 1 = .ok (.invokestatic 54, 3) := by decide +kernel
theorem dX11_book_4 : decode cX11_book 4 = .ok (.ifCond .ne 5, 3) := by decide +kernel
theorem dX11_book_7 : decode cX11_book 7 = .ok (.iconst (-1), 1) := by decide +kernel
theorem dX11_book_8 : decode cX11_book 8 = .ok (.ireturn, 1) := by decide +kernel
theorem dX11_book_9 : decode cX11_book 9 = .ok (.iload_n 2, 1) := by decide +kernel
theorem dX11_book_10 : decode cX11_book 10 = .ok (.ifCond .lt 9, 3) := by decide +kernel
theorem dX11_book_13 : decode cX11_book 13 = .ok (.iload_n 2, 1) := by decide +kernel
theorem dX11_book_14 : decode cX11_book 14 = .ok (.bipush 99, 2) := by decide +kernel
theorem dX11_book_16 : decode cX11_book 16 = .ok (.if_icmp .le 6, 3) := by decide +kernel
theorem dX11_book_19 : decode cX11_book 19 = .ok (.bipush (-2), 2) := by decide +kernel
theorem dX11_book_21 : decode cX11_book 21 = .ok (.ireturn, 1) := by decide +kernel
theorem dX11_book_22 : decode cX11_book 22 = .ok (.aload_n 0, 1) := by decide +kernel
theorem dX11_book_23 : decode cX11_book 23 = .ok (.getfield 12, 3) := by decide +kernel
theorem dX11_book_26 : decode cX11_book 26 = .ok (.getfield 209, 3) := by decide +kernel
theorem dX11_book_29 : decode cX11_book 29 = .ok (.bipush 10, 2) := by decide +kernel
theorem dX11_book_31 : decode cX11_book 31 = .ok (.if_icmp .lt 6, 3) := by decide +kernel
theorem dX11_book_34 : decode cX11_book 34 = .ok (.bipush (-4), 2) := by decide +kernel
theorem dX11_book_36 : decode cX11_book 36 = .ok (.ireturn, 1) := by decide +kernel
theorem dX11_book_37 : decode cX11_book 37 = .ok (.aload_n 0, 1) := by decide +kernel
theorem dX11_book_38 : decode cX11_book 38 = .ok (.getfield 12, 3) := by decide +kernel
theorem dX11_book_41 : decode cX11_book 41 = .ok (.getfield 212, 3) := by decide +kernel
theorem dX11_book_44 : decode cX11_book 44 = .ok (.aload_n 0, 1) := by decide +kernel
theorem dX11_book_45 : decode cX11_book 45 = .ok (.getfield 12, 3) := by decide +kernel
theorem dX11_book_48 : decode cX11_book 48 = .ok (.getfield 209, 3) := by decide +kernel
theorem dX11_book_51 : decode cX11_book 51 = .ok (.iload_n 1, 1) := by decide +kernel
theorem dX11_book_52 : decode cX11_book 52 = .ok (.iastore, 1) := by decide +kernel
theorem dX11_book_53 : decode cX11_book 53 = .ok (.aload_n 0, 1) := by decide +kernel
theorem dX11_book_54 : decode cX11_book 54 = .ok (.getfield 12, 3) := by decide +kernel
theorem dX11_book_57 : decode cX11_book 57 = .ok (.getfield 215, 3) := by decide +kernel
theorem dX11_book_60 : decode cX11_book 60 = .ok (.aload_n 0, 1) := by decide +kernel
theorem dX11_book_61 : decode cX11_book 61 = .ok (.getfield 12, 3) := by decide +kernel
theorem dX11_book_64 : decode cX11_book 64 = .ok (.getfield 209, 3) := by decide +kernel
theorem dX11_book_67 : decode cX11_book 67 = .ok (.iload_n 2, 1) := by decide +kernel
theorem dX11_book_68 : decode cX11_book 68 = .ok (.iastore, 1) := by decide +kernel
theorem dX11_book_69 : decode cX11_book 69 = .ok (.aload_n 0, 1) := by decide +kernel
theorem dX11_book_70 : decode cX11_book 70 = .ok (.getfield 12, 3) := by decide +kernel
theorem dX11_book_73 : decode cX11_book 73 = .ok (.dup, 1) := by decide +kernel
theorem dX11_book_74 : decode cX11_book 74 = .ok (.getfield 209, 3) := by decide +kernel
theorem dX11_book_77 : decode cX11_book 77 = .ok (.iconst 1, 1) := by decide +kernel
theorem dX11_book_78 : decode cX11_book 78 = .ok (.iadd, 1) := by decide +kernel
theorem dX11_book_79 : decode cX11_book 79 = .ok (.putfield 209, 3) := by decide +kernel
theorem dX11_book_82 : decode cX11_book 82 = .ok (.aload_n 0, 1) := by decide +kernel
theorem dX11_book_83 : decode cX11_book 83 = .ok (.getfield 12, 3) := by decide +kernel
theorem dX11_book_86 : decode cX11_book 86 = .ok (.getfield 209, 3) := by decide +kernel
theorem dX11_book_89 : decode cX11_book 89 = .ok (.ireturn, 1) := by decide +kernel
theorem dX11_vanish_0 : decode cX11_vanish 0 = .ok (.iload_n 1, 1) := by decide +kernel
theorem dX11_vanish_1 : decode cX11_vanish 1 = .ok (.ifCond .lt 8, 3) := by decide +kernel
theorem dX11_vanish_4 : decode cX11_vanish 4 = .ok (.iload_n 1, 1) := by decide +kernel
theorem dX11_vanish_5 : decode cX11_vanish 5 = .ok (.iconst 1, 1) := by decide +kernel
theorem dX11_vanish_6 : decode cX11_vanish 6 = .ok (.if_icmp .le 5, 3) := by decide +kernel
theorem dX11_vanish_9 : decode cX11_vanish 9 = .ok (.iconst (-1), 1) := by decide +kernel
theorem dX11_vanish_10 : decode cX11_vanish 10 = .ok (.ireturn, 1) := by decide +kernel
theorem dX11_vanish_11 : decode cX11_vanish 11 = .ok (.iconst 0, 1) := by decide +kernel
theorem dX11_vanish_12 : decode cX11_vanish 12 = .ok (.istore_n 2, 1) := by decide +kernel
theorem dX11_vanish_13 : decode cX11_vanish 13 = .ok (.iconst 0, 1) := by decide +kernel
theorem dX11_vanish_14 : decode cX11_vanish 14 = .ok (.istore_n 3, 1) := by decide +kernel
theorem dX11_vanish_15 : decode cX11_vanish 15 = .ok (.bipush (-5), 2) := by decide +kernel
theorem dX11_vanish_17 : decode cX11_vanish 17 = .ok (.istore 4, 2) := by decide +kernel
theorem dX11_vanish_19 : decode cX11_vanish 19 = .ok (.iconst 0, 1) := by decide +kernel
theorem dX11_vanish_20 : decode cX11_vanish 20 = .ok (.istore 5, 2) := by decide +kernel
theorem dX11_vanish_22 : decode cX11_vanish 22 = .ok (.iconst 0, 1) := by decide +kernel
theorem dX11_vanish_23 : decode cX11_vanish 23 = .ok (.istore 6, 2) := by decide +kernel
theorem dX11_vanish_25 : decode cX11_vanish 25 = .ok (.iload 6, 2) := by decide +kernel
theorem dX11_vanish_27 : decode cX11_vanish 27 = .ok (.iconst 4, 1) := by decide +kernel
theorem dX11_vanish_28 : decode cX11_vanish 28 = .ok (.if_icmp .ge 55, 3) := by decide +kernel
theorem dX11_vanish_31 : decode cX11_vanish 31 = .ok (.aload_n 0, 1) := by decide +kernel
theorem dX11_vanish_32 : decode cX11_vanish 32 = .ok (.getfield 12, 3) := by decide +kernel
theorem dX11_vanish_35 : decode cX11_vanish 35 = .ok (.iload 6, 2) := by decide +kernel
theorem dX11_vanish_37 : decode cX11_vanish 37 = .ok (.invokevirtual 218, 3) := by decide +kernel
theorem dX11_vanish_40 : decode cX11_vanish 40 = .ok (.istore 7, 2) := by decide +kernel
theorem dX11_vanish_42 : decode cX11_vanish 42 = .ok (.iload 7, 2) := by decide +kernel
theorem dX11_vanish_44 : decode cX11_vanish 44 = .ok (.ifCond .lt 33, 3) := by decide +kernel
theorem dX11_vanish_47 : decode cX11_vanish 47 = .ok (.iinc 2 1, 3) := by decide +kernel
theorem dX11_vanish_50 : decode cX11_vanish 50 = .ok (.iload_n 3, 1) := by decide +kernel
theorem dX11_vanish_51 : decode cX11_vanish 51 = .ok (.iload 7, 2) := by decide +kernel
theorem dX11_vanish_53 : decode cX11_vanish 53 = .ok (.iadd, 1) := by decide +kernel
theorem dX11_vanish_54 : decode cX11_vanish 54 = .ok (.istore_n 3, 1) := by decide +kernel
theorem dX11_vanish_55 : decode cX11_vanish 55 = .ok (.iload 4, 2) := by decide +kernel
theorem dX11_vanish_57 : decode cX11_vanish 57 = .ok (.bipush (-5), 2) := by decide +kernel
theorem dX11_vanish_59 : decode cX11_vanish 59 = .ok (.if_icmp .eq 10, 3) := by decide +kernel
theorem dX11_vanish_62 : decode cX11_vanish 62 = .ok (.iload 7, 2) := by decide +kernel
theorem dX11_vanish_64 : decode cX11_vanish 64 = .ok (.iload 5, 2) := by decide +kernel
theorem dX11_vanish_66 : decode cX11_vanish 66 = .ok (.if_icmp .le 11, 3) := by decide +kernel
theorem dX11_vanish_69 : decode cX11_vanish 69 = .ok (.iload 6, 2) := by decide +kernel
theorem dX11_vanish_71 : decode cX11_vanish 71 = .ok (.istore 4, 2) := by decide +kernel
theorem dX11_vanish_73 : decode cX11_vanish 73 = .ok (.iload 7, 2) := by decide +kernel
theorem dX11_vanish_75 : decode cX11_vanish 75 = .ok (.istore 5, 2) := by decide +kernel
theorem dX11_vanish_77 : decode cX11_vanish 77 = .ok (.iinc 6 1, 3) := by decide +kernel
theorem dX11_vanish_80 : decode cX11_vanish 80 = .ok (.goto (-55), 3) := by decide +kernel
theorem dX11_vanish_83 : decode cX11_vanish 83 = .ok (.iload_n 2, 1) := by decide +kernel
theorem dX11_vanish_84 : decode cX11_vanish 84 = .ok (.ifCond .eq 7, 3) := by decide +kernel
theorem dX11_vanish_87 : decode cX11_vanish 87 = .ok (.iload_n 1, 1) := by decide +kernel
theorem dX11_vanish_88 : decode cX11_vanish 88 = .ok (.ifCond .ne 6, 3) := by decide +kernel
theorem dX11_vanish_91 : decode cX11_vanish 91 = .ok (.iload 4, 2) := by decide +kernel
theorem dX11_vanish_93 : decode cX11_vanish 93 = .ok (.ireturn, 1) := by decide +kernel
theorem dX11_vanish_94 : decode cX11_vanish 94 = .ok (.bipush 100, 2) := by decide +kernel
theorem dX11_vanish_96 : decode cX11_vanish 96 = .ok (.iload 5, 2) := by decide +kernel
theorem dX11_vanish_98 : decode cX11_vanish 98 = .ok (.iload_n 2, 1) := by decide +kernel
theorem dX11_vanish_99 : decode cX11_vanish 99 = .ok (.imul, 1) := by decide +kernel
theorem dX11_vanish_100 : decode cX11_vanish 100 = .ok (.iload_n 3, 1) := by decide +kernel
theorem dX11_vanish_101 : decode cX11_vanish 101 = .ok (.isub, 1) := by decide +kernel
theorem dX11_vanish_102 : decode cX11_vanish 102 = .ok (.imul, 1) := by decide +kernel
theorem dX11_vanish_103 : decode cX11_vanish 103 = .ok (.iload_n 2, 1) := by decide +kernel
theorem dX11_vanish_104 : decode cX11_vanish 104 = .ok (.idiv, 1) := by decide +kernel
theorem dX11_vanish_105 : decode cX11_vanish 105 = .ok (.ireturn, 1) := by decide +kernel
theorem dX11_act_0 : decode cX11_act 0 = .ok (.aload_n 0, 1) := by decide +kernel
theorem dX11_act_1 : decode cX11_act 1 = .ok (.getfield 28, 3) := by decide +kernel
theorem dX11_act_4 : decode cX11_act 4 = .ok (.iconst 0, 1) := by decide +kernel
theorem dX11_act_5 : decode cX11_act 5 = .ok (.putfield 221, 3) := by decide +kernel
theorem dX11_act_8 : decode cX11_act 8 = .ok (.aload_n 0, 1) := by decide +kernel
theorem dX11_act_9 : decode cX11_act 9 = .ok (.iload_n 1, 1) := by decide +kernel
theorem dX11_act_10 : decode cX11_act 10 = .ok (.invokevirtual 123, 3) := by decide +kernel
theorem dX11_act_13 : decode cX11_act 13 = .ok (.astore 4, 2) := by decide +kernel
theorem dX11_act_15 : decode cX11_act 15 = .ok (.aload 4, 2) := by decide +kernel
theorem dX11_act_17 : decode cX11_act 17 = .ok (.ifnonnull 5, 3) := by decide +kernel
theorem dX11_act_20 : decode cX11_act 20 = .ok (.iconst 0, 1) := by decide +kernel
theorem dX11_act_21 : decode cX11_act 21 = .ok (.ireturn, 1) := by decide +kernel
theorem dX11_act_22 : decode cX11_act 22 = .ok (.iload_n 2, 1) := by decide +kernel
theorem dX11_act_23 : decode cX11_act 23 = .ok (.tableswitch 58 0 2 #[25, 36, 47], 25) := by decide +kernel
theorem dX11_act_48 : decode cX11_act 48 = .ok (.aload 4, 2) := by decide +kernel
theorem dX11_act_50 : decode cX11_act 50 = .ok (.iload_n 3, 1) := by decide +kernel
theorem dX11_act_51 : decode cX11_act 51 = .ok (.aload_n 0, 1) := by decide +kernel
theorem dX11_act_52 : decode cX11_act 52 = .ok (.getfield 28, 3) := by decide +kernel
theorem dX11_act_55 : decode cX11_act 55 = .ok (.invokevirtual 224, 3) := by decide +kernel
theorem dX11_act_58 : decode cX11_act 58 = .ok (.ireturn, 1) := by decide +kernel
theorem dX11_act_59 : decode cX11_act 59 = .ok (.aload 4, 2) := by decide +kernel
theorem dX11_act_61 : decode cX11_act 61 = .ok (.iload_n 3, 1) := by decide +kernel
theorem dX11_act_62 : decode cX11_act 62 = .ok (.aload_n 0, 1) := by decide +kernel
theorem dX11_act_63 : decode cX11_act 63 = .ok (.getfield 28, 3) := by decide +kernel
theorem dX11_act_66 : decode cX11_act 66 = .ok (.invokevirtual 228, 3) := by decide +kernel
theorem dX11_act_69 : decode cX11_act 69 = .ok (.ireturn, 1) := by decide +kernel
theorem dX11_act_70 : decode cX11_act 70 = .ok (.aload 4, 2) := by decide +kernel
theorem dX11_act_72 : decode cX11_act 72 = .ok (.iload_n 3, 1) := by decide +kernel
theorem dX11_act_73 : decode cX11_act 73 = .ok (.aload_n 0, 1) := by decide +kernel
theorem dX11_act_74 : decode cX11_act 74 = .ok (.getfield 28, 3) := by decide +kernel
theorem dX11_act_77 : decode cX11_act 77 = .ok (.invokevirtual 231, 3) := by decide +kernel
theorem dX11_act_80 : decode cX11_act 80 = .ok (.ireturn, 1) := by decide +kernel
theorem dX11_act_81 : decode cX11_act 81 = .ok (.iconst 0, 1) := by decide +kernel
theorem dX11_act_82 : decode cX11_act 82 = .ok (.ireturn, 1) := by decide +kernel
theorem dX11_trace_0 : decode cX11_trace 0 = .ok (.iload_n 1, 1) := by decide +kernel
theorem dX11_trace_1 : decode cX11_trace 1 = .ok (.ifCond .lt 20, 3) := by decide +kernel
theorem dX11_trace_4 : decode cX11_trace 4 = .ok (.iload_n 1, 1) := by decide +kernel
theorem dX11_trace_5 : decode cX11_trace 5 = .ok (.aload_n 0, 1) := by decide +kernel
theorem dX11_trace_6 : decode cX11_trace 6 = .ok (.getfield 28, 3) := by decide +kernel
theorem dX11_trace_9 : decode cX11_trace 9 = .ok (.getfield 221, 3) := by decide +kernel
theorem dX11_trace_12 : decode cX11_trace 12 = .ok (.if_icmp .ge 9, 3) := by decide +kernel
theorem dX11_trace_15 : decode cX11_trace 15 = .ok (.iload_n 1, 1) := by decide +kernel
theorem dX11_trace_16 : decode cX11_trace 16 = .ok (.bipush 20, 2) := by decide +kernel
theorem dX11_trace_18 : decode cX11_trace 18 = .ok (.if_icmp .lt 5, 3) := by decide +kernel
theorem dX11_trace_21 : decode cX11_trace 21 = .ok (.iconst (-1), 1) := by decide +kernel
theorem dX11_trace_22 : decode cX11_trace 22 = .ok (.ireturn, 1) := by decide +kernel
theorem dX11_trace_23 : decode cX11_trace 23 = .ok (.aload_n 0, 1) := by decide +kernel
theorem dX11_trace_24 : decode cX11_trace 24 = .ok (.getfield 28, 3) := by decide +kernel
theorem dX11_trace_27 : decode cX11_trace 27 = .ok (.getfield 234, 3) := by decide +kernel
theorem dX11_trace_30 : decode cX11_trace 30 = .ok (.iload_n 1, 1) := by decide +kernel
theorem dX11_trace_31 : decode cX11_trace 31 = .ok (.iaload, 1) := by decide +kernel
theorem dX11_trace_32 : decode cX11_trace 32 = .ok (.ireturn, 1) := by decide +kernel
theorem dX11_as_0 : decode cX11_as 0 = .ok (.aload_n 0, 1) := by decide +kernel
theorem dX11_as_1 : decode cX11_as 1 = .ok (.iload_n 1, 1) := by decide +kernel
theorem dX11_as_2 : decode cX11_as 2 = .ok (.invokevirtual 123, 3) := by decide +kernel
theorem dX11_as_5 : decode cX11_as 5 = .ok (.astore_n 3, 1) := by decide +kernel
theorem dX11_as_6 : decode cX11_as 6 = .ok (.aload_n 3, 1) := by decide +kernel
theorem dX11_as_7 : decode cX11_as 7 = .ok (.ifnull 13, 3) := by decide +kernel
theorem dX11_as_10 : decode cX11_as 10 = .ok (.iload_n 2, 1) := by decide +kernel
theorem dX11_as_11 : decode cX11_as 11 = .ok (.ifCond .lt 9, 3) := by decide +kernel
theorem dX11_as_14 : decode cX11_as 14 = .ok (.iload_n 2, 1) := by decide +kernel
theorem dX11_as_15 : decode cX11_as 15 = .ok (.bipush 7, 2) := by decide +kernel
theorem dX11_as_17 : decode cX11_as 17 = .ok (.if_icmp .lt 5, 3) := by decide +kernel
theorem dX11_as_20 : decode cX11_as 20 = .ok (.iconst (-1), 1) := by decide +kernel
theorem dX11_as_21 : decode cX11_as 21 = .ok (.ireturn, 1) := by decide +kernel
theorem dX11_as_22 : decode cX11_as 22 = .ok (.aload_n 3, 1) := by decide +kernel
theorem dX11_as_23 : decode cX11_as 23 = .ok (.iload_n 2, 1) := by decide +kernel
theorem dX11_as_24 : decode cX11_as 24 = .ok (.invokestatic 237, 3) := by decide +kernel
theorem dX11_as_27 : decode cX11_as 27 = .ok (.ifCond .eq 10, 3) := by decide +kernel
theorem dX11_as_30 : decode cX11_as 30 = .ok (.aload_n 3, 1) := by decide +kernel
theorem dX11_as_31 : decode cX11_as 31 = .ok (.getfield 132, 3) := by decide +kernel
theorem dX11_as_34 : decode cX11_as 34 = .ok (.goto 5, 3) := by decide +kernel
theorem dX11_as_37 : decode cX11_as 37 = .ok (.bipush (-6), 2) := by decide +kernel
theorem dX11_as_39 : decode cX11_as 39 = .ok (.ireturn, 1) := by decide +kernel
theorem dX11_image_0 : decode cX11_image 0 = .ok (.aload_n 0, 1) := by decide +kernel
theorem dX11_image_1 : decode cX11_image 1 = .ok (.getfield 18, 3) := by decide +kernel
theorem dX11_image_4 : decode cX11_image 4 = .ok (.aload_n 0, 1) := by decide +kernel
theorem dX11_image_5 : decode cX11_image 5 = .ok (.getfield 12, 3) := by decide +kernel
theorem dX11_image_8 : decode cX11_image 8 = .ok (.invokevirtual 241, 3) := by decide +kernel
theorem dX11_image_11 : decode cX11_image 11 = .ok (.aload_n 0, 1) := by decide +kernel
theorem dX11_image_12 : decode cX11_image 12 = .ok (.iconst 1, 1) := by decide +kernel
theorem dX11_image_13 : decode cX11_image 13 = .ok (.putfield 21, 3) := by decide +kernel
theorem dX11_image_16 : decode cX11_image 16 = .ok (.aload_n 0, 1) := by decide +kernel
theorem dX11_image_17 : decode cX11_image 17 = .ok (.getfield 12, 3) := by decide +kernel
theorem dX11_image_20 : decode cX11_image 20 = .ok (.getfield 106, 3) := by decide +kernel
theorem dX11_image_23 : decode cX11_image 23 = .ok (.ireturn, 1) := by decide +kernel
theorem dX11_undo_0 : decode cX11_undo 0 = .ok (.aload_n 0, 1) := by decide +kernel
theorem dX11_undo_1 : decode cX11_undo 1 = .ok (.getfield 21, 3) := by decide +kernel
theorem dX11_undo_4 : decode cX11_undo 4 = .ok (.ifCond .ne 6, 3) := by decide +kernel
theorem dX11_undo_7 : decode cX11_undo 7 = .ok (.bipush (-3), 2) := by decide +kernel
theorem dX11_undo_9 : decode cX11_undo 9 = .ok (.ireturn, 1) := by decide +kernel
theorem dX11_undo_10 : decode cX11_undo 10 = .ok (.aload_n 0, 1) := by decide +kernel
theorem dX11_undo_11 : decode cX11_undo 11 = .ok (.getfield 12, 3) := by decide +kernel
theorem dX11_undo_14 : decode cX11_undo 14 = .ok (.aload_n 0, 1) := by decide +kernel
theorem dX11_undo_15 : decode cX11_undo 15 = .ok (.getfield 18, 3) := by decide +kernel
theorem dX11_undo_18 : decode cX11_undo 18 = .ok (.invokevirtual 241, 3) := by decide +kernel
theorem dX11_undo_21 : decode cX11_undo 21 = .ok (.aload_n 0, 1) := by decide +kernel
theorem dX11_undo_22 : decode cX11_undo 22 = .ok (.getfield 12, 3) := by decide +kernel
theorem dX11_undo_25 : decode cX11_undo 25 = .ok (.getfield 106, 3) := by decide +kernel
theorem dX11_undo_28 : decode cX11_undo 28 = .ok (.ireturn, 1) := by decide +kernel
theorem dX11_count_0 : decode cX11_count 0 = .ok (.iload_n 1, 1) := by decide +kernel
theorem dX11_count_1 : decode cX11_count 1 = .ok (.tableswitch 102 0 6 #[43, 51, 62, 70, 78, 86, 94], 43) := by decide +kernel
theorem dX11_count_44 : decode cX11_count 44 = .ok (.aload_n 0, 1) := by decide +kernel
theorem dX11_count_45 : decode cX11_count 45 = .ok (.getfield 12, 3) := by decide +kernel
theorem dX11_count_48 : decode cX11_count 48 = .ok (.getfield 106, 3) := by decide +kernel
theorem dX11_count_51 : decode cX11_count 51 = .ok (.ireturn, 1) := by decide +kernel
theorem dX11_count_52 : decode cX11_count 52 = .ok (.aload_n 0, 1) := by decide +kernel
theorem dX11_count_53 : decode cX11_count 53 = .ok (.getfield 12, 3) := by decide +kernel
theorem dX11_count_56 : decode cX11_count 56 = .ok (.getfield 58, 3) := by decide +kernel
theorem dX11_count_59 : decode cX11_count 59 = .ok (.invokevirtual 191, 3) := by decide +kernel
theorem dX11_count_62 : decode cX11_count 62 = .ok (.ireturn, 1) := by decide +kernel
theorem dX11_count_63 : decode cX11_count 63 = .ok (.aload_n 0, 1) := by decide +kernel
theorem dX11_count_64 : decode cX11_count 64 = .ok (.getfield 12, 3) := by decide +kernel
theorem dX11_count_67 : decode cX11_count 67 = .ok (.getfield 73, 3) := by decide +kernel
theorem dX11_count_70 : decode cX11_count 70 = .ok (.ireturn, 1) := by decide +kernel
theorem dX11_count_71 : decode cX11_count 71 = .ok (.aload_n 0, 1) := by decide +kernel
theorem dX11_count_72 : decode cX11_count 72 = .ok (.getfield 12, 3) := by decide +kernel
theorem dX11_count_75 : decode cX11_count 75 = .ok (.getfield 155, 3) := by decide +kernel
theorem dX11_count_78 : decode cX11_count 78 = .ok (.ireturn, 1) := by decide +kernel
theorem dX11_count_79 : decode cX11_count 79 = .ok (.aload_n 0, 1) := by decide +kernel
theorem dX11_count_80 : decode cX11_count 80 = .ok (.getfield 12, 3) := by decide +kernel
theorem dX11_count_83 : decode cX11_count 83 = .ok (.getfield 209, 3) := by decide +kernel
theorem dX11_count_86 : decode cX11_count 86 = .ok (.ireturn, 1) := by decide +kernel
theorem dX11_count_87 : decode cX11_count 87 = .ok (.aload_n 0, 1) := by decide +kernel
theorem dX11_count_88 : decode cX11_count 88 = .ok (.getfield 12, 3) := by decide +kernel
theorem dX11_count_91 : decode cX11_count 91 = .ok (.getfield 66, 3) := by decide +kernel
theorem dX11_count_94 : decode cX11_count 94 = .ok (.ireturn, 1) := by decide +kernel
theorem dX11_count_95 : decode cX11_count 95 = .ok (.aload_n 0, 1) := by decide +kernel
theorem dX11_count_96 : decode cX11_count 96 = .ok (.getfield 28, 3) := by decide +kernel
theorem dX11_count_99 : decode cX11_count 99 = .ok (.getfield 221, 3) := by decide +kernel
theorem dX11_count_102 : decode cX11_count 102 = .ok (.ireturn, 1) := by decide +kernel
theorem dX11_count_103 : decode cX11_count 103 = .ok (.iconst (-1), 1) := by decide +kernel
theorem dX11_count_104 : decode cX11_count 104 = .ok (.ireturn, 1) := by decide +kernel
theorem dX11_isDoor_0 : decode cX11_isDoor 0 = .ok (.iload_n 0, 1) := by decide +kernel
theorem dX11_isDoor_1 : decode cX11_isDoor 1 = .ok (.ifCond .lt 12, 3) := by decide +kernel
theorem dX11_isDoor_4 : decode cX11_isDoor 4 = .ok (.iload_n 0, 1) := by decide +kernel
theorem dX11_isDoor_5 : decode cX11_isDoor 5 = .ok (.iconst 4, 1) := by decide +kernel
theorem dX11_isDoor_6 : decode cX11_isDoor 6 = .ok (.if_icmp .ge 7, 3) := by decide +kernel
theorem dX11_isDoor_9 : decode cX11_isDoor 9 = .ok (.iconst 1, 1) := by decide +kernel
theorem dX11_isDoor_10 : decode cX11_isDoor 10 = .ok (.goto 4, 3) := by decide +kernel
theorem dX11_isDoor_13 : decode cX11_isDoor 13 = .ok (.iconst 0, 1) := by decide +kernel
theorem dX11_isDoor_14 : decode cX11_isDoor 14 = .ok (.ireturn, 1) := by decide +kernel
theorem dX11_personAt_0 : decode cX11_personAt 0 = .ok (.iload_n 1, 1) := by decide +kernel
theorem dX11_personAt_1 : decode cX11_personAt 1 = .ok (.ifCond .lt 26, 3) := by decide +kernel
theorem dX11_personAt_4 : decode cX11_personAt 4 = .ok (.iload_n 1, 1) := by decide +kernel
theorem dX11_personAt_5 : decode cX11_personAt 5 = .ok (.aload_n 0, 1) := by decide +kernel
theorem dX11_personAt_6 : decode cX11_personAt 6 = .ok (.getfield 12, 3) := by decide +kernel
theorem dX11_personAt_9 : decode cX11_personAt 9 = .ok (.getfield 106, 3) := by decide +kernel
theorem dX11_personAt_12 : decode cX11_personAt 12 = .ok (.if_icmp .ge 15, 3) := by decide +kernel
theorem dX11_personAt_15 : decode cX11_personAt 15 = .ok (.aload_n 0, 1) := by decide +kernel
