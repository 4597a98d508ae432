theorem dX12_doesTake_204 : decode cX12_doesTake 204 = .ok (.iconst 1, 1) := by decide +kernel
theorem dX12_doesTake_205 : decode cX12_doesTake 205 = .ok (.if_icmp .ne 7, 3) := by decide +kernel
theorem dX12_doesTake_208 : decode cX12_doesTake 208 = .ok (.iconst 1, 1) := by decide +kernel
theorem dX12_doesTake_209 : decode cX12_doesTake 209 = .ok (.goto 4, 3) := by decide +kernel
theorem dX12_doesTake_212 : decode cX12_doesTake 212 = .ok (.iconst 0, 1) := by decide +kernel
theorem dX12_doesTake_213 : decode cX12_doesTake 213 = .ok (.ireturn, 1) := by decide +kernel
theorem dX12_of_0 : decode cX12_of 0 = .ok (.aload_n 0, 1) := by decide +kernel
theorem dX12_of_1 : decode cX12_of 1 = .ok (.iload_n 1, 1) := by decide +kernel
theorem dX12_of_2 : decode cX12_of 2 = .ok (.invokevirtual 163, 3) := by decide +kernel
theorem dX12_of_5 : decode cX12_of 5 = .ok (.ifCond .ne 5, 3) := by decide +kernel
theorem dX12_of_8 : decode cX12_of 8 = .ok (.iconst (-1), 1) := by decide +kernel
theorem dX12_of_9 : decode cX12_of 9 = .ok (.ireturn, 1) := by decide +kernel
theorem dX12_of_10 : decode cX12_of 10 = .ok (.iload_n 2, 1) := by decide +kernel
theorem dX12_of_11 : decode cX12_of 11 = .ok (.tableswitch 124 0 7 #[45, 56, 67, 78, 89, 95, 106, 106], 45) := by decide +kernel
theorem dX12_of_56 : decode cX12_of 56 = .ok (.aload_n 0, 1) := by decide +kernel
theorem dX12_of_57 : decode cX12_of 57 = .ok (.getfield 9, 3) := by decide +kernel
theorem dX12_of_60 : decode cX12_of 60 = .ok (.sipush 150, 3) := by decide +kernel
theorem dX12_of_63 : decode cX12_of 63 = .ok (.iload_n 1, 1) := by decide +kernel
theorem dX12_of_64 : decode cX12_of 64 = .ok (.iadd, 1) := by decide +kernel
theorem dX12_of_65 : decode cX12_of 65 = .ok (.iaload, 1) := by decide +kernel
theorem dX12_of_66 : decode cX12_of 66 = .ok (.ireturn, 1) := by decide +kernel
theorem dX12_of_67 : decode cX12_of 67 = .ok (.aload_n 0, 1) := by decide +kernel
theorem dX12_of_68 : decode cX12_of 68 = .ok (.getfield 9, 3) := by decide +kernel
theorem dX12_of_71 : decode cX12_of 71 = .ok (.sipush 156, 3) := by decide +kernel
theorem dX12_of_74 : decode cX12_of 74 = .ok (.iload_n 1, 1) := by decide +kernel
theorem dX12_of_75 : decode cX12_of 75 = .ok (.iadd, 1) := by decide +kernel
theorem dX12_of_76 : decode cX12_of 76 = .ok (.iaload, 1) := by decide +kernel
theorem dX12_of_77 : decode cX12_of 77 = .ok (.ireturn, 1) := by decide +kernel
theorem dX12_of_78 : decode cX12_of 78 = .ok (.aload_n 0, 1) := by decide +kernel
theorem dX12_of_79 : decode cX12_of 79 = .ok (.getfield 9, 3) := by decide +kernel
theorem dX12_of_82 : decode cX12_of 82 = .ok (.sipush 162, 3) := by decide +kernel
theorem dX12_of_85 : decode cX12_of 85 = .ok (.iload_n 1, 1) := by decide +kernel
theorem dX12_of_86 : decode cX12_of 86 = .ok (.iadd, 1) := by decide +kernel
theorem dX12_of_87 : decode cX12_of 87 = .ok (.iaload, 1) := by decide +kernel
theorem dX12_of_88 : decode cX12_of 88 = .ok (.ireturn, 1) := by decide +kernel
theorem dX12_of_89 : decode cX12_of 89 = .ok (.aload_n 0, 1) := by decide +kernel
theorem dX12_of_90 : decode cX12_of 90 = .ok (.getfield 9, 3) := by decide +kernel
theorem dX12_of_93 : decode cX12_of 93 = .ok (.sipush 168, 3) := by decide +kernel
theorem dX12_of_96 : decode cX12_of 96 = .ok (.iload_n 1, 1) := by decide +kernel
theorem dX12_of_97 : decode cX12_of 97 = .ok (.iadd, 1) := by decide +kernel
theorem dX12_of_98 : decode cX12_of 98 = .ok (.iaload, 1) := by decide +kernel
theorem dX12_of_99 : decode cX12_of 99 = .ok (.ireturn, 1) := by decide +kernel
theorem dX12_of_100 : decode cX12_of 100 = .ok (.aload_n 0, 1) := by decide +kernel
theorem dX12_of_101 : decode cX12_of 101 = .ok (.iload_n 1, 1) := by decide +kernel
theorem dX12_of_102 : decode cX12_of 102 = .ok (.invokevirtual 166, 3) := by decide +kernel
theorem dX12_of_105 : decode cX12_of 105 = .ok (.ireturn, 1) := by decide +kernel
theorem dX12_of_106 : decode cX12_of 106 = .ok (.aload_n 0, 1) := by decide +kernel
theorem dX12_of_107 : decode cX12_of 107 = .ok (.getfield 9, 3) := by decide +kernel
theorem dX12_of_110 : decode cX12_of 110 = .ok (.sipush 174, 3) := by decide +kernel
theorem dX12_of_113 : decode cX12_of 113 = .ok (.iload_n 1, 1) := by decide +kernel
theorem dX12_of_114 : decode cX12_of 114 = .ok (.iadd, 1) := by decide +kernel
theorem dX12_of_115 : decode cX12_of 115 = .ok (.iaload, 1) := by decide +kernel
theorem dX12_of_116 : decode cX12_of 116 = .ok (.ireturn, 1) := by decide +kernel
theorem dX12_of_117 : decode cX12_of 117 = .ok (.aload_n 0, 1) := by decide +kernel
theorem dX12_of_118 : decode cX12_of 118 = .ok (.iload_n 1, 1) := by decide +kernel
theorem dX12_of_119 : decode cX12_of 119 = .ok (.iload_n 2, 1) := by decide +kernel
theorem dX12_of_120 : decode cX12_of 120 = .ok (.bipush 6, 2) := by decide +kernel
theorem dX12_of_122 : decode cX12_of 122 = .ok (.isub, 1) := by decide +kernel
theorem dX12_of_123 : decode cX12_of 123 = .ok (.invokevirtual 173, 3) := by decide +kernel
theorem dX12_of_126 : decode cX12_of 126 = .ok (.ifCond .eq 7, 3) := by decide +kernel
theorem dX12_of_129 : decode cX12_of 129 = .ok (.iconst 1, 1) := by decide +kernel
theorem dX12_of_130 : decode cX12_of 130 = .ok (.goto 4, 3) := by decide +kernel
theorem dX12_of_133 : decode cX12_of 133 = .ok (.iconst 0, 1) := by decide +kernel
theorem dX12_of_134 : decode cX12_of 134 = .ok (.ireturn, 1) := by decide +kernel
theorem dX12_of_135 : decode cX12_of 135 = .ok (.iconst (-1), 1) := by decide +kernel
theorem dX12_of_136 : decode cX12_of 136 = .ok (.ireturn, 1) := by decide +kernel
theorem dX12_goesAlong_0 : decode cX12_goesAlong 0 = .ok (.iconst 0, 1) := by decide +kernel
theorem dX12_goesAlong_1 : decode cX12_goesAlong 1 = .ok (.istore_n 2, 1) := by decide +kernel
theorem dX12_goesAlong_2 : decode cX12_goesAlong 2 = .ok (.iconst 0, 1) := by decide +kernel
theorem dX12_goesAlong_3 : decode cX12_goesAlong 3 = .ok (.istore_n 3, 1) := by decide +kernel
theorem dX12_goesAlong_4 : decode cX12_goesAlong 4 = .ok (.iload_n 3, 1) := by decide +kernel
theorem dX12_goesAlong_5 : decode cX12_goesAlong 5 = .ok (.iload_n 1, 1) := by decide +kernel
theorem dX12_goesAlong_6 : decode cX12_goesAlong 6 = .ok (.if_icmp .ge 63, 3) := by decide +kernel
theorem dX12_goesAlong_9 : decode cX12_goesAlong 9 = .ok (.iload_n 2, 1) := by decide +kernel
theorem dX12_goesAlong_10 : decode cX12_goesAlong 10 = .ok (.ifCond .ne 47, 3) := by decide +kernel
theorem dX12_goesAlong_13 : decode cX12_goesAlong 13 = .ok (.aload_n 0, 1) := by decide +kernel
theorem dX12_goesAlong_14 : decode cX12_goesAlong 14 = .ok (.getfield 31, 3) := by decide +kernel
theorem dX12_goesAlong_17 : decode cX12_goesAlong 17 = .ok (.iload_n 3, 1) := by decide +kernel
theorem dX12_goesAlong_18 : decode cX12_goesAlong 18 = .ok (.baload, 1) := by decide +kernel
theorem dX12_goesAlong_19 : decode cX12_goesAlong 19 = .ok (.ifCond .eq 42, 3) := by decide +kernel
theorem dX12_goesAlong_22 : decode cX12_goesAlong 22 = .ok (.aload_n 0, 1) := by decide +kernel
theorem dX12_goesAlong_23 : decode cX12_goesAlong 23 = .ok (.getfield 28, 3) := by decide +kernel
theorem dX12_goesAlong_26 : decode cX12_goesAlong 26 = .ok (.iload_n 3, 1) := by decide +kernel
theorem dX12_goesAlong_27 : decode cX12_goesAlong 27 = .ok (.baload, 1) := by decide +kernel
theorem dX12_goesAlong_28 : decode cX12_goesAlong 28 = .ok (.ifCond .eq 33, 3) := by decide +kernel
theorem dX12_goesAlong_31 : decode cX12_goesAlong 31 = .ok (.aload_n 0, 1) := by decide +kernel
theorem dX12_goesAlong_32 : decode cX12_goesAlong 32 = .ok (.iload_n 3, 1) := by decide +kernel
theorem dX12_goesAlong_33 : decode cX12_goesAlong 33 = .ok (.invokevirtual 166, 3) := by decide +kernel
theorem dX12_goesAlong_36 : decode cX12_goesAlong 36 = .ok (.aload_n 0, 1) := by decide +kernel
theorem dX12_goesAlong_37 : decode cX12_goesAlong 37 = .ok (.iload_n 1, 1) := by decide +kernel
theorem dX12_goesAlong_38 : decode cX12_goesAlong 38 = .ok (.invokevirtual 166, 3) := by decide +kernel
theorem dX12_goesAlong_41 : decode cX12_goesAlong 41 = .ok (.if_icmp .ne 20, 3) := by decide +kernel
theorem dX12_goesAlong_44 : decode cX12_goesAlong 44 = .ok (.aload_n 0, 1) := by decide +kernel
theorem dX12_goesAlong_45 : decode cX12_goesAlong 45 = .ok (.iload_n 3, 1) := by decide +kernel
theorem dX12_goesAlong_46 : decode cX12_goesAlong 46 = .ok (.invokevirtual 170, 3) := by decide +kernel
theorem dX12_goesAlong_49 : decode cX12_goesAlong 49 = .ok (.aload_n 0, 1) := by decide +kernel
theorem dX12_goesAlong_50 : decode cX12_goesAlong 50 = .ok (.iload_n 1, 1) := by decide +kernel
theorem dX12_goesAlong_51 : decode cX12_goesAlong 51 = .ok (.invokevirtual 170, 3) := by decide +kernel
theorem dX12_goesAlong_54 : decode cX12_goesAlong 54 = .ok (.if_icmp .ne 7, 3) := by decide +kernel
theorem dX12_goesAlong_57 : decode cX12_goesAlong 57 = .ok (.iconst 1, 1) := by decide +kernel
theorem dX12_goesAlong_58 : decode cX12_goesAlong 58 = .ok (.goto 4, 3) := by decide +kernel
theorem dX12_goesAlong_61 : decode cX12_goesAlong 61 = .ok (.iconst 0, 1) := by decide +kernel
theorem dX12_goesAlong_62 : decode cX12_goesAlong 62 = .ok (.istore_n 2, 1) := by decide +kernel
theorem dX12_goesAlong_63 : decode cX12_goesAlong 63 = .ok (.iinc 3 1, 3) := by decide +kernel
theorem dX12_goesAlong_66 : decode cX12_goesAlong 66 = .ok (.goto (-62), 3) := by decide +kernel
theorem dX12_goesAlong_69 : decode cX12_goesAlong 69 = .ok (.iload_n 2, 1) := by decide +kernel
theorem dX12_goesAlong_70 : decode cX12_goesAlong 70 = .ok (.ifCond .eq 21, 3) := by decide +kernel
theorem dX12_goesAlong_73 : decode cX12_goesAlong 73 = .ok (.aload_n 0, 1) := by decide +kernel
theorem dX12_goesAlong_74 : decode cX12_goesAlong 74 = .ok (.getfield 9, 3) := by decide +kernel
theorem dX12_goesAlong_77 : decode cX12_goesAlong 77 = .ok (.sipush 150, 3) := by decide +kernel
theorem dX12_goesAlong_80 : decode cX12_goesAlong 80 = .ok (.iload_n 1, 1) := by decide +kernel
theorem dX12_goesAlong_81 : decode cX12_goesAlong 81 = .ok (.iadd, 1) := by decide +kernel
theorem dX12_goesAlong_82 : decode cX12_goesAlong 82 = .ok (.iaload, 1) := by decide +kernel
theorem dX12_goesAlong_83 : decode cX12_goesAlong 83 = .ok (.iconst 5, 1) := by decide +kernel
theorem dX12_goesAlong_84 : decode cX12_goesAlong 84 = .ok (.if_icmp .ne 7, 3) := by decide +kernel
theorem dX12_goesAlong_87 : decode cX12_goesAlong 87 = .ok (.iconst 1, 1) := by decide +kernel
theorem dX12_goesAlong_88 : decode cX12_goesAlong 88 = .ok (.goto 4, 3) := by decide +kernel
theorem dX12_goesAlong_91 : decode cX12_goesAlong 91 = .ok (.iconst 0, 1) := by decide +kernel
theorem dX12_goesAlong_92 : decode cX12_goesAlong 92 = .ok (.ireturn, 1) := by decide +kernel
theorem dX12_walksOut_0 : decode cX12_walksOut 0 = .ok (.aload_n 0, 1) := by decide +kernel
theorem dX12_walksOut_1 : decode cX12_walksOut 1 = .ok (.iload_n 1, 1) := by decide +kernel
theorem dX12_walksOut_2 : decode cX12_walksOut 2 = .ok (.invokevirtual 166, 3) := by decide +kernel
theorem dX12_walksOut_5 : decode cX12_walksOut 5 = .ok (.istore_n 3, 1) := by decide +kernel
theorem dX12_walksOut_6 : decode cX12_walksOut 6 = .ok (.aload_n 0, 1) := by decide +kernel
theorem dX12_walksOut_7 : decode cX12_walksOut 7 = .ok (.getfield 9, 3) := by decide +kernel
theorem dX12_walksOut_10 : decode cX12_walksOut 10 = .ok (.iconst 0, 1) := by decide +kernel
theorem dX12_walksOut_11 : decode cX12_walksOut 11 = .ok (.iload_n 3, 1) := by decide +kernel
theorem dX12_walksOut_12 : decode cX12_walksOut 12 = .ok (.iadd, 1) := by decide +kernel
theorem dX12_walksOut_13 : decode cX12_walksOut 13 = .ok (.iaload, 1) := by decide +kernel
theorem dX12_walksOut_14 : decode cX12_walksOut 14 = .ok (.istore 4, 2) := by decide +kernel
theorem dX12_walksOut_16 : decode cX12_walksOut 16 = .ok (.aload_n 0, 1) := by decide +kernel
theorem dX12_walksOut_17 : decode cX12_walksOut 17 = .ok (.getfield 28, 3) := by decide +kernel
theorem dX12_walksOut_20 : decode cX12_walksOut 20 = .ok (.iload_n 1, 1) := by decide +kernel
theorem dX12_walksOut_21 : decode cX12_walksOut 21 = .ok (.aload_n 0, 1) := by decide +kernel
theorem dX12_walksOut_22 : decode cX12_walksOut 22 = .ok (.iload_n 1, 1) := by decide +kernel
theorem dX12_walksOut_23 : decode cX12_walksOut 23 = .ok (.iload_n 2, 1) := by decide +kernel
theorem dX12_walksOut_24 : decode cX12_walksOut 24 = .ok (.invokevirtual 173, 3) := by decide +kernel
theorem dX12_walksOut_27 : decode cX12_walksOut 27 = .ok (.bastore, 1) := by decide +kernel
theorem dX12_walksOut_28 : decode cX12_walksOut 28 = .ok (.aload_n 0, 1) := by decide +kernel
theorem dX12_walksOut_29 : decode cX12_walksOut 29 = .ok (.getfield 34, 3) := by decide +kernel
theorem dX12_walksOut_32 : decode cX12_walksOut 32 = .ok (.iload_n 1, 1) := by decide +kernel
theorem dX12_walksOut_33 : decode cX12_walksOut 33 = .ok (.iconst 0, 1) := by decide +kernel
theorem dX12_walksOut_34 : decode cX12_walksOut 34 = .ok (.bastore, 1) := by decide +kernel
theorem dX12_walksOut_35 : decode cX12_walksOut 35 = .ok (.aload_n 0, 1) := by decide +kernel
theorem dX12_walksOut_36 : decode cX12_walksOut 36 = .ok (.getfield 28, 3) := by decide +kernel
theorem dX12_walksOut_39 : decode cX12_walksOut 39 = .ok (.iload_n 1, 1) := by decide +kernel
theorem dX12_walksOut_40 : decode cX12_walksOut 40 = .ok (.baload, 1) := by decide +kernel
theorem dX12_walksOut_41 : decode cX12_walksOut 41 = .ok (.ifCond .eq 100, 3) := by decide +kernel
theorem dX12_walksOut_44 : decode cX12_walksOut 44 = .ok (.aload_n 0, 1) := by decide +kernel
theorem dX12_walksOut_45 : decode cX12_walksOut 45 = .ok (.iload_n 2, 1) := by decide +kernel
theorem dX12_walksOut_46 : decode cX12_walksOut 46 = .ok (.aload_n 0, 1) := by decide +kernel
theorem dX12_walksOut_47 : decode cX12_walksOut 47 = .ok (.getfield 9, 3) := by decide +kernel
theorem dX12_walksOut_50 : decode cX12_walksOut 50 = .ok (.bipush 10, 2) := by decide +kernel
theorem dX12_walksOut_52 : decode cX12_walksOut 52 = .ok (.iaload, 1) := by decide +kernel
theorem dX12_walksOut_53 : decode cX12_walksOut 53 = .ok (.iload_n 1, 1) := by decide +kernel
theorem dX12_walksOut_54 : decode cX12_walksOut 54 = .ok (.iload_n 3, 1) := by decide +kernel
theorem dX12_walksOut_55 : decode cX12_walksOut 55 = .ok (.iload 4, 2) := by decide +kernel
theorem dX12_walksOut_57 : decode cX12_walksOut 57 = .ok (.invokevirtual 156, 3) := by decide +kernel
theorem dX12_walksOut_60 : decode cX12_walksOut 60 = .ok (.aload_n 0, 1) := by decide +kernel
theorem dX12_walksOut_61 : decode cX12_walksOut 61 = .ok (.getfield 34, 3) := by decide +kernel
theorem dX12_walksOut_64 : decode cX12_walksOut 64 = .ok (.iload_n 1, 1) := by decide +kernel
theorem dX12_walksOut_65 : decode cX12_walksOut 65 = .ok (.aload_n 0, 1) := by decide +kernel
theorem dX12_walksOut_66 : decode cX12_walksOut 66 = .ok (.getfield 149, 3) := by decide +kernel
theorem dX12_walksOut_69 : decode cX12_walksOut 69 = .ok (.ifCond .ne 7, 3) := by decide +kernel
theorem dX12_walksOut_72 : decode cX12_walksOut 72 = .ok (.iconst 1, 1) := by decide +kernel
theorem dX12_walksOut_73 : decode cX12_walksOut 73 = .ok (.goto 4, 3) := by decide +kernel
theorem dX12_walksOut_76 : decode cX12_walksOut 76 = .ok (.iconst 0, 1) := by decide +kernel
theorem dX12_walksOut_77 : decode cX12_walksOut 77 = .ok (.bastore, 1) := by decide +kernel
theorem dX12_walksOut_78 : decode cX12_walksOut 78 = .ok (.aload_n 0, 1) := by decide +kernel
theorem dX12_walksOut_79 : decode cX12_walksOut 79 = .ok (.getfield 9, 3) := by decide +kernel
theorem dX12_walksOut_82 : decode cX12_walksOut 82 = .ok (.bipush 14, 2) := by decide +kernel
theorem dX12_walksOut_84 : decode cX12_walksOut 84 = .ok (.dup2, 1) := by decide +kernel
theorem dX12_walksOut_85 : decode cX12_walksOut 85 = .ok (.iaload, 1) := by decide +kernel
theorem dX12_walksOut_86 : decode cX12_walksOut 86 = .ok (.aload_n 0, 1) := by decide +kernel
theorem dX12_walksOut_87 : decode cX12_walksOut 87 = .ok (.getfield 149, 3) := by decide +kernel
theorem dX12_walksOut_90 : decode cX12_walksOut 90 = .ok (.ifCond .eq 7, 3) := by decide +kernel
theorem dX12_walksOut_93 : decode cX12_walksOut 93 = .ok (.iconst 1, 1) := by decide +kernel
theorem dX12_walksOut_94 : decode cX12_walksOut 94 = .ok (.goto 4, 3) := by decide +kernel
theorem dX12_walksOut_97 : decode cX12_walksOut 97 = .ok (.iconst 0, 1) := by decide +kernel
theorem dX12_walksOut_98 : decode cX12_walksOut 98 = .ok (.iadd, 1) := by decide +kernel
theorem dX12_walksOut_99 : decode cX12_walksOut 99 = .ok (.iastore, 1) := by decide +kernel
theorem dX12_walksOut_100 : decode cX12_walksOut 100 = .ok (.aload_n 0, 1) := by decide +kernel
theorem dX12_walksOut_101 : decode cX12_walksOut 101 = .ok (.getfield 9, 3) := by decide +kernel
theorem dX12_walksOut_104 : decode cX12_walksOut 104 = .ok (.iconst 0, 1) := by decide +kernel
theorem dX12_walksOut_105 : decode cX12_walksOut 105 = .ok (.iload_n 3, 1) := by decide +kernel
theorem dX12_walksOut_106 : decode cX12_walksOut 106 = .ok (.iadd, 1) := by decide +kernel
theorem dX12_walksOut_107 : decode cX12_walksOut 107 = .ok (.dup2, 1) := by decide +kernel
theorem dX12_walksOut_108 : decode cX12_walksOut 108 = .ok (.iaload, 1) := by decide +kernel
theorem dX12_walksOut_109 : decode cX12_walksOut 109 = .ok (.iconst 1, 1) := by decide +kernel
theorem dX12_walksOut_110 : decode cX12_walksOut 110 = .ok (.isub, 1) := by decide +kernel
theorem dX12_walksOut_111 : decode cX12_walksOut 111 = .ok (.iastore, 1) := by decide +kernel
theorem dX12_walksOut_112 : decode cX12_walksOut 112 = .ok (.aload_n 0, 1) := by decide +kernel
theorem dX12_walksOut_113 : decode cX12_walksOut 113 = .ok (.getfield 9, 3) := by decide +kernel
theorem dX12_walksOut_116 : decode cX12_walksOut 116 = .ok (.bipush 12, 2) := by decide +kernel
theorem dX12_walksOut_118 : decode cX12_walksOut 118 = .ok (.dup2, 1) := by decide +kernel
theorem dX12_walksOut_119 : decode cX12_walksOut 119 = .ok (.iaload, 1) := by decide +kernel
theorem dX12_walksOut_120 : decode cX12_walksOut 120 = .ok (.iload_n 2, 1) := by decide +kernel
theorem dX12_walksOut_121 : decode cX12_walksOut 121 = .ok (.ifCond .ne 14, 3) := by decide +kernel
theorem dX12_walksOut_124 : decode cX12_walksOut 124 = .ok (.aload_n 0, 1) := by decide +kernel
theorem dX12_walksOut_125 : decode cX12_walksOut 125 = .ok (.sipush 225, 3) := by decide +kernel
theorem dX12_walksOut_128 : decode cX12_walksOut 128 = .ok (.iconst 1, 1) := by decide +kernel
theorem dX12_walksOut_129 : decode cX12_walksOut 129 = .ok (.invokevirtual 152, 3) := by decide +kernel
theorem dX12_walksOut_132 : decode cX12_walksOut 132 = .ok (.goto 4, 3) := by decide +kernel
theorem dX12_walksOut_135 : decode cX12_walksOut 135 = .ok (.iconst 0, 1) := by decide +kernel
theorem dX12_walksOut_136 : decode cX12_walksOut 136 = .ok (.iadd, 1) := by decide +kernel
theorem dX12_walksOut_137 : decode cX12_walksOut 137 = .ok (.iastore, 1) := by decide +kernel
theorem dX12_walksOut_138 : decode cX12_walksOut 138 = .ok (.goto 51, 3) := by decide +kernel
theorem dX12_walksOut_141 : decode cX12_walksOut 141 = .ok (.iload_n 2, 1) := by decide +kernel
theorem dX12_walksOut_142 : decode cX12_walksOut 142 = .ok (.iconst 1, 1) := by decide +kernel
theorem dX12_walksOut_143 : decode cX12_walksOut 143 = .ok (.if_icmp .ne 46, 3) := by decide +kernel
theorem dX12_walksOut_146 : decode cX12_walksOut 146 = .ok (.iload 4, 2) := by decide +kernel
theorem dX12_walksOut_148 : decode cX12_walksOut 148 = .ok (.ifCond .ne 11, 3) := by decide +kernel
theorem dX12_walksOut_151 : decode cX12_walksOut 151 = .ok (.aload_n 0, 1) := by decide +kernel
theorem dX12_walksOut_152 : decode cX12_walksOut 152 = .ok (.iload_n 1, 1) := by decide +kernel
theorem dX12_walksOut_153 : decode cX12_walksOut 153 = .ok (.invokevirtual 177, 3) := by decide +kernel
theorem dX12_walksOut_156 : decode cX12_walksOut 156 = .ok (.ifCond .ne 33, 3) := by decide +kernel
theorem dX12_walksOut_159 : decode cX12_walksOut 159 = .ok (.aload_n 0, 1) := by decide +kernel
theorem dX12_walksOut_160 : decode cX12_walksOut 160 = .ok (.getfield 9, 3) := by decide +kernel
theorem dX12_walksOut_163 : decode cX12_walksOut 163 = .ok (.bipush 13, 2) := by decide +kernel
theorem dX12_walksOut_165 : decode cX12_walksOut 165 = .ok (.dup2, 1) := by decide +kernel
theorem dX12_walksOut_166 : decode cX12_walksOut 166 = .ok (.iaload, 1) := by decide +kernel
theorem dX12_walksOut_167 : decode cX12_walksOut 167 = .ok (.iconst 1, 1) := by decide +kernel
theorem dX12_walksOut_168 : decode cX12_walksOut 168 = .ok (.iadd, 1) := by decide +kernel
theorem dX12_walksOut_169 : decode cX12_walksOut 169 = .ok (.iastore, 1) := by decide +kernel
theorem dX12_walksOut_170 : decode cX12_walksOut 170 = .ok (.aload_n 0, 1) := by decide +kernel
theorem dX12_walksOut_171 : decode cX12_walksOut 171 = .ok (.getfield 9, 3) := by decide +kernel
theorem dX12_walksOut_174 : decode cX12_walksOut 174 = .ok (.bipush 12, 2) := by decide +kernel
theorem dX12_walksOut_176 : decode cX12_walksOut 176 = .ok (.dup2, 1) := by decide +kernel
theorem dX12_walksOut_177 : decode cX12_walksOut 177 = .ok (.iaload, 1) := by decide +kernel
theorem dX12_walksOut_178 : decode cX12_walksOut 178 = .ok (.aload_n 0, 1) := by decide +kernel
theorem dX12_walksOut_179 : decode cX12_walksOut 179 = .ok (.sipush 220, 3) := by decide +kernel
theorem dX12_walksOut_182 : decode cX12_walksOut 182 = .ok (.bipush 9, 2) := by decide +kernel
theorem dX12_walksOut_184 : decode cX12_walksOut 184 = .ok (.invokevirtual 152, 3) := by decide +kernel
theorem dX12_walksOut_187 : decode cX12_walksOut 187 = .ok (.iadd, 1) := by decide +kernel
theorem dX12_walksOut_188 : decode cX12_walksOut 188 = .ok (.iastore, 1) := by decide +kernel
theorem dX12_walksOut_189 : decode cX12_walksOut 189 = .ok (.return_, 1) := by decide +kernel
theorem dX12_hourGoes_0 : decode cX12_hourGoes 0 = .ok (.iconst 0, 1) := by decide +kernel
theorem dX12_hourGoes_1 : decode cX12_hourGoes 1 = .ok (.istore_n 2, 1) := by decide +kernel
theorem dX12_hourGoes_2 : decode cX12_hourGoes 2 = .ok (.iload_n 2, 1) := by decide +kernel
theorem dX12_hourGoes_3 : decode cX12_hourGoes 3 = .ok (.aload_n 0, 1) := by decide +kernel
theorem dX12_hourGoes_4 : decode cX12_hourGoes 4 = .ok (.getfield 9, 3) := by decide +kernel
theorem dX12_hourGoes_7 : decode cX12_hourGoes 7 = .ok (.bipush 15, 2) := by decide +kernel
theorem dX12_hourGoes_9 : decode cX12_hourGoes 9 = .ok (.iaload, 1) := by decide +kernel
theorem dX12_hourGoes_10 : decode cX12_hourGoes 10 = .ok (.if_icmp .ge 56, 3) := by decide +kernel
theorem dX12_hourGoes_13 : decode cX12_hourGoes 13 = .ok (.aload_n 0, 1) := by decide +kernel
theorem dX12_hourGoes_14 : decode cX12_hourGoes 14 = .ok (.getfield 31, 3) := by decide +kernel
theorem dX12_hourGoes_17 : decode cX12_hourGoes 17 = .ok (.iload_n 2, 1) := by decide +kernel
theorem dX12_hourGoes_18 : decode cX12_hourGoes 18 = .ok (.aload_n 0, 1) := by decide +kernel
theorem dX12_hourGoes_19 : decode cX12_hourGoes 19 = .ok (.getfield 9, 3) := by decide +kernel
theorem dX12_hourGoes_22 : decode cX12_hourGoes 22 = .ok (.bipush 10, 2) := by decide +kernel
theorem dX12_hourGoes_24 : decode cX12_hourGoes 24 = .ok (.iaload, 1) := by decide +kernel
theorem dX12_hourGoes_25 : decode cX12_hourGoes 25 = .ok (.aload_n 0, 1) := by decide +kernel
theorem dX12_hourGoes_26 : decode cX12_hourGoes 26 = .ok (.getfield 9, 3) := by decide +kernel
theorem dX12_hourGoes_29 : decode cX12_hourGoes 29 = .ok (.sipush 174, 3) := by decide +kernel
theorem dX12_hourGoes_32 : decode cX12_hourGoes 32 = .ok (.iload_n 2, 1) := by decide +kernel
theorem dX12_hourGoes_33 : decode cX12_hourGoes 33 = .ok (.iadd, 1) := by decide +kernel
theorem dX12_hourGoes_34 : decode cX12_hourGoes 34 = .ok (.iaload, 1) := by decide +kernel
theorem dX12_hourGoes_35 : decode cX12_hourGoes 35 = .ok (.irem, 1) := by decide +kernel
theorem dX12_hourGoes_36 : decode cX12_hourGoes 36 = .ok (.ifCond .ne 7, 3) := by decide +kernel
theorem dX12_hourGoes_39 : decode cX12_hourGoes 39 = .ok (.iconst 1, 1) := by decide +kernel
theorem dX12_hourGoes_40 : decode cX12_hourGoes 40 = .ok (.goto 4, 3) := by decide +kernel
theorem dX12_hourGoes_43 : decode cX12_hourGoes 43 = .ok (.iconst 0, 1) := by decide +kernel
theorem dX12_hourGoes_44 : decode cX12_hourGoes 44 = .ok (.bastore, 1) := by decide +kernel
theorem dX12_hourGoes_45 : decode cX12_hourGoes 45 = .ok (.aload_n 0, 1) := by decide +kernel
theorem dX12_hourGoes_46 : decode cX12_hourGoes 46 = .ok (.getfield 31, 3) := by decide +kernel
theorem dX12_hourGoes_49 : decode cX12_hourGoes 49 = .ok (.iload_n 2, 1) := by decide +kernel
theorem dX12_hourGoes_50 : decode cX12_hourGoes 50 = .ok (.baload, 1) := by decide +kernel
theorem dX12_hourGoes_51 : decode cX12_hourGoes 51 = .ok (.ifCond .eq 9, 3) := by decide +kernel
theorem dX12_hourGoes_54 : decode cX12_hourGoes 54 = .ok (.aload_n 0, 1) := by decide +kernel
theorem dX12_hourGoes_55 : decode cX12_hourGoes 55 = .ok (.iload_n 2, 1) := by decide +kernel
theorem dX12_hourGoes_56 : decode cX12_hourGoes 56 = .ok (.iload_n 1, 1) := by decide +kernel
theorem dX12_hourGoes_57 : decode cX12_hourGoes 57 = .ok (.invokevirtual 180, 3) := by decide +kernel
theorem dX12_hourGoes_60 : decode cX12_hourGoes 60 = .ok (.iinc 2 1, 3) := by decide +kernel
theorem dX12_hourGoes_63 : decode cX12_hourGoes 63 = .ok (.goto (-61), 3) := by decide +kernel
theorem dX12_hourGoes_66 : decode cX12_hourGoes 66 = .ok (.iconst 0, 1) := by decide +kernel
theorem dX12_hourGoes_67 : decode cX12_hourGoes 67 = .ok (.istore_n 2, 1) := by decide +kernel
theorem dX12_hourGoes_68 : decode cX12_hourGoes 68 = .ok (.iload_n 2, 1) := by decide +kernel
theorem dX12_hourGoes_69 : decode cX12_hourGoes 69 = .ok (.aload_n 0, 1) := by decide +kernel
theorem dX12_hourGoes_70 : decode cX12_hourGoes 70 = .ok (.getfield 9, 3) := by decide +kernel
theorem dX12_hourGoes_73 : decode cX12_hourGoes 73 = .ok (.bipush 15, 2) := by decide +kernel
theorem dX12_hourGoes_75 : decode cX12_hourGoes 75 = .ok (.iaload, 1) := by decide +kernel
theorem dX12_hourGoes_76 : decode cX12_hourGoes 76 = .ok (.if_icmp .ge 119, 3) := by decide +kernel
theorem dX12_hourGoes_79 : decode cX12_hourGoes 79 = .ok (.aload_n 0, 1) := by decide +kernel
theorem dX12_hourGoes_80 : decode cX12_hourGoes 80 = .ok (.getfield 31, 3) := by decide +kernel
theorem dX12_hourGoes_83 : decode cX12_hourGoes 83 = .ok (.iload_n 2, 1) := by decide +kernel
theorem dX12_hourGoes_84 : decode cX12_hourGoes 84 = .ok (.baload, 1) := by decide +kernel
theorem dX12_hourGoes_85 : decode cX12_hourGoes 85 = .ok (.ifCond .eq 104, 3) := by decide +kernel
theorem dX12_hourGoes_88 : decode cX12_hourGoes 88 = .ok (.iconst 0, 1) := by decide +kernel
theorem dX12_hourGoes_89 : decode cX12_hourGoes 89 = .ok (.aload_n 0, 1) := by decide +kernel
theorem dX12_hourGoes_90 : decode cX12_hourGoes 90 = .ok (.iload_n 2, 1) := by decide +kernel
theorem dX12_hourGoes_91 : decode cX12_hourGoes 91 = .ok (.invokevirtual 170, 3) := by decide +kernel
theorem dX12_hourGoes_94 : decode cX12_hourGoes 94 = .ok (.iadd, 1) := by decide +kernel
theorem dX12_hourGoes_95 : decode cX12_hourGoes 95 = .ok (.istore_n 3, 1) := by decide +kernel
theorem dX12_hourGoes_96 : decode cX12_hourGoes 96 = .ok (.aload_n 0, 1) := by decide +kernel
theorem dX12_hourGoes_97 : decode cX12_hourGoes 97 = .ok (.getfield 34, 3) := by decide +kernel
theorem dX12_hourGoes_100 : decode cX12_hourGoes 100 = .ok (.iload_n 2, 1) := by decide +kernel
theorem dX12_hourGoes_101 : decode cX12_hourGoes 101 = .ok (.baload, 1) := by decide +kernel
theorem dX12_hourGoes_102 : decode cX12_hourGoes 102 = .ok (.ifCond .eq 18, 3) := by decide +kernel
theorem dX12_hourGoes_105 : decode cX12_hourGoes 105 = .ok (.aload_n 0, 1) := by decide +kernel
theorem dX12_hourGoes_106 : decode cX12_hourGoes 106 = .ok (.getfield 9, 3) := by decide +kernel
theorem dX12_hourGoes_109 : decode cX12_hourGoes 109 = .ok (.iload_n 3, 1) := by decide +kernel
theorem dX12_hourGoes_110 : decode cX12_hourGoes 110 = .ok (.iaload, 1) := by decide +kernel
theorem dX12_hourGoes_111 : decode cX12_hourGoes 111 = .ok (.bipush 9, 2) := by decide +kernel
theorem dX12_hourGoes_113 : decode cX12_hourGoes 113 = .ok (.if_icmp .ge 7, 3) := by decide +kernel
theorem dX12_hourGoes_116 : decode cX12_hourGoes 116 = .ok (.iconst 1, 1) := by decide +kernel
theorem dX12_hourGoes_117 : decode cX12_hourGoes 117 = .ok (.goto 4, 3) := by decide +kernel
theorem dX12_hourGoes_120 : decode cX12_hourGoes 120 = .ok (.iconst 0, 1) := by decide +kernel
theorem dX12_hourGoes_121 : decode cX12_hourGoes 121 = .ok (.istore 4, 2) := by decide +kernel
theorem dX12_hourGoes_123 : decode cX12_hourGoes 123 = .ok (.aload_n 0, 1) := by decide +kernel
theorem dX12_hourGoes_124 : decode cX12_hourGoes 124 = .ok (.getfield 9, 3) := by decide +kernel
theorem dX12_hourGoes_127 : decode cX12_hourGoes 127 = .ok (.bipush 14, 2) := by decide +kernel
theorem dX12_hourGoes_129 : decode cX12_hourGoes 129 = .ok (.dup2, 1) := by decide +kernel
theorem dX12_hourGoes_130 : decode cX12_hourGoes 130 = .ok (.iaload, 1) := by decide +kernel
theorem dX12_hourGoes_131 : decode cX12_hourGoes 131 = .ok (.aload_n 0, 1) := by decide +kernel
theorem dX12_hourGoes_132 : decode cX12_hourGoes 132 = .ok (.getfield 34, 3) := by decide +kernel
theorem dX12_hourGoes_135 : decode cX12_hourGoes 135 = .ok (.iload_n 2, 1) := by decide +kernel
theorem dX12_hourGoes_136 : decode cX12_hourGoes 136 = .ok (.baload, 1) := by decide +kernel
theorem dX12_hourGoes_137 : decode cX12_hourGoes 137 = .ok (.ifCond .eq 12, 3) := by decide +kernel
theorem dX12_hourGoes_140 : decode cX12_hourGoes 140 = .ok (.iload 4, 2) := by decide +kernel
theorem dX12_hourGoes_142 : decode cX12_hourGoes 142 = .ok (.ifCond .ne 7, 3) := by decide +kernel
theorem dX12_hourGoes_145 : decode cX12_hourGoes 145 = .ok (.iconst 1, 1) := by decide +kernel
theorem dX12_hourGoes_146 : decode cX12_hourGoes 146 = .ok (.goto 4, 3) := by decide +kernel
theorem dX12_hourGoes_149 : decode cX12_hourGoes 149 = .ok (.iconst 0, 1) := by decide +kernel
theorem dX12_hourGoes_150 : decode cX12_hourGoes 150 = .ok (.iadd, 1) := by decide +kernel
theorem dX12_hourGoes_151 : decode cX12_hourGoes 151 = .ok (.iastore, 1) := by decide +kernel
theorem dX12_hourGoes_152 : decode cX12_hourGoes 152 = .ok (.aload_n 0, 1) := by decide +kernel
theorem dX12_hourGoes_153 : decode cX12_hourGoes 153 = .ok (.getfield 9, 3) := by decide +kernel
theorem dX12_hourGoes_156 : decode cX12_hourGoes 156 = .ok (.iload_n 3, 1) := by decide +kernel
theorem dX12_hourGoes_157 : decode cX12_hourGoes 157 = .ok (.dup2, 1) := by decide +kernel
theorem dX12_hourGoes_158 : decode cX12_hourGoes 158 = .ok (.iaload, 1) := by decide +kernel
theorem dX12_hourGoes_159 : decode cX12_hourGoes 159 = .ok (.iload 4, 2) := by decide +kernel
theorem dX12_hourGoes_161 : decode cX12_hourGoes 161 = .ok (.ifCond .eq 7, 3) := by decide +kernel
theorem dX12_hourGoes_164 : decode cX12_hourGoes 164 = .ok (.iconst 1, 1) := by decide +kernel
theorem dX12_hourGoes_165 : decode cX12_hourGoes 165 = .ok (.goto 4, 3) := by decide +kernel
theorem dX12_hourGoes_168 : decode cX12_hourGoes 168 = .ok (.iconst 0, 1) := by decide +kernel
theorem dX12_hourGoes_169 : decode cX12_hourGoes 169 = .ok (.iadd, 1) := by decide +kernel
theorem dX12_hourGoes_170 : decode cX12_hourGoes 170 = .ok (.iastore, 1) := by decide +kernel
theorem dX12_hourGoes_171 : decode cX12_hourGoes 171 = .ok (.aload_n 0, 1) := by decide +kernel
theorem dX12_hourGoes_172 : decode cX12_hourGoes 172 = .ok (.getfield 9, 3) := by decide +kernel
theorem dX12_hourGoes_175 : decode cX12_hourGoes 175 = .ok (.iconst 4, 1) := by decide +kernel
theorem dX12_hourGoes_176 : decode cX12_hourGoes 176 = .ok (.iload_n 2, 1) := by decide +kernel
theorem dX12_hourGoes_177 : decode cX12_hourGoes 177 = .ok (.iadd, 1) := by decide +kernel
theorem dX12_hourGoes_178 : decode cX12_hourGoes 178 = .ok (.iconst 1, 1) := by decide +kernel
theorem dX12_hourGoes_179 : decode cX12_hourGoes 179 = .ok (.aload_n 0, 1) := by decide +kernel
theorem dX12_hourGoes_180 : decode cX12_hourGoes 180 = .ok (.getfield 9, 3) := by decide +kernel
theorem dX12_hourGoes_183 : decode cX12_hourGoes 183 = .ok (.iconst 4, 1) := by decide +kernel
theorem dX12_hourGoes_184 : decode cX12_hourGoes 184 = .ok (.iload_n 2, 1) := by decide +kernel
theorem dX12_hourGoes_185 : decode cX12_hourGoes 185 = .ok (.iadd, 1) := by decide +kernel
theorem dX12_hourGoes_186 : decode cX12_hourGoes 186 = .ok (.iaload, 1) := by decide +kernel
theorem dX12_hourGoes_187 : decode cX12_hourGoes 187 = .ok (.isub, 1) := by decide +kernel
theorem dX12_hourGoes_188 : decode cX12_hourGoes 188 = .ok (.iastore, 1) := by decide +kernel
theorem dX12_hourGoes_189 : decode cX12_hourGoes 189 = .ok (.iinc 2 1, 3) := by decide +kernel
theorem dX12_hourGoes_192 : decode cX12_hourGoes 192 = .ok (.goto (-124), 3) := by decide +kernel
theorem dX12_hourGoes_195 : decode cX12_hourGoes 195 = .ok (.aload_n 0, 1) := by decide +kernel
theorem dX12_hourGoes_196 : decode cX12_hourGoes 196 = .ok (.getfield 9, 3) := by decide +kernel
theorem dX12_hourGoes_199 : decode cX12_hourGoes 199 = .ok (.bipush 11, 2) := by decide +kernel
theorem dX12_hourGoes_201 : decode cX12_hourGoes 201 = .ok (.iload_n 1, 1) := by decide +kernel
theorem dX12_hourGoes_202 : decode cX12_hourGoes 202 = .ok (.iastore, 1) := by decide +kernel
theorem dX12_hourGoes_203 : decode cX12_hourGoes 203 = .ok (.aload_n 0, 1) := by decide +kernel
theorem dX12_hourGoes_204 : decode cX12_hourGoes 204 = .ok (.getfield 9, 3) := by decide +kernel
theorem dX12_hourGoes_207 : decode cX12_hourGoes 207 = .ok (.bipush 10, 2) := by decide +kernel
theorem dX12_hourGoes_209 : decode cX12_hourGoes 209 = .ok (.dup2, 1) := by decide +kernel
theorem dX12_hourGoes_210 : decode cX12_hourGoes 210 = .ok (.iaload, 1) := by decide +kernel
theorem dX12_hourGoes_211 : decode cX12_hourGoes 211 = .ok (.iconst 1, 1) := by decide +kernel
theorem dX12_hourGoes_212 : decode cX12_hourGoes 212 = .ok (.iadd, 1) := by decide +kernel
theorem dX12_hourGoes_213 : decode cX12_hourGoes 213 = .ok (.iastore, 1) := by decide +kernel
theorem dX12_hourGoes_214 : decode cX12_hourGoes 214 = .ok (.return_, 1) := by decide +kernel
theorem dX12_begins_0 : decode cX12_begins 0 = .ok (.aload_n 0, 1) := by decide +kernel
theorem dX12_begins_1 : decode cX12_begins 1 = .ok (.getfield 9, 3) := by decide +kernel
theorem dX12_begins_4 : decode cX12_begins 4 = .ok (.bipush 12, 2) := by decide +kernel
theorem dX12_begins_6 : decode cX12_begins 6 = .ok (.iconst 0, 1) := by decide +kernel
theorem dX12_begins_7 : decode cX12_begins 7 = .ok (.iastore, 1) := by decide +kernel
theorem dX12_begins_8 : decode cX12_begins 8 = .ok (.aload_n 0, 1) := by decide +kernel
theorem dX12_begins_9 : decode cX12_begins 9 = .ok (.getfield 9, 3) := by decide +kernel
theorem dX12_begins_12 : decode cX12_begins 12 = .ok (.bipush 13, 2) := by decide +kernel
theorem dX12_begins_14 : decode cX12_begins 14 = .ok (.iconst 0, 1) := by decide +kernel
theorem dX12_begins_15 : decode cX12_begins 15 = .ok (.iastore, 1) := by decide +kernel
theorem dX12_begins_16 : decode cX12_begins 16 = .ok (.aload_n 0, 1) := by decide +kernel
theorem dX12_begins_17 : decode cX12_begins 17 = .ok (.getfield 9, 3) := by decide +kernel
theorem dX12_begins_20 : decode cX12_begins 20 = .ok (.bipush 14, 2) := by decide +kernel
theorem dX12_begins_22 : decode cX12_begins 22 = .ok (.iconst 0, 1) := by decide +kernel
theorem dX12_begins_23 : decode cX12_begins 23 = .ok (.iastore, 1) := by decide +kernel
theorem dX12_begins_24 : decode cX12_begins 24 = .ok (.return_, 1) := by decide +kernel
theorem dX12_go_0 : decode cX12_go 0 = .ok (.iload_n 1, 1) := by decide +kernel
theorem dX12_go_1 : decode cX12_go 1 = .ok (.iconst 0, 1) := by decide +kernel
theorem dX12_go_2 : decode cX12_go 2 = .ok (.iconst 1, 1) := by decide +kernel
theorem dX12_go_3 : decode cX12_go 3 = .ok (.invokestatic 51, 3) := by decide +kernel
theorem dX12_go_6 : decode cX12_go 6 = .ok (.ifCond .ne 7, 3) := by decide +kernel
theorem dX12_go_9 : decode cX12_go 9 = .ok (.sipush (-1002), 3) := by decide +kernel
theorem dX12_go_12 : decode cX12_go 12 = .ok (.ireturn, 1) := by decide +kernel
theorem dX12_go_13 : decode cX12_go 13 = .ok (.aload_n 0, 1) := by decide +kernel
theorem dX12_go_14 : decode cX12_go 14 = .ok (.getfield 9, 3) := by decide +kernel
theorem dX12_go_17 : decode cX12_go 17 = .ok (.bipush 10, 2) := by decide +kernel
theorem dX12_go_19 : decode cX12_go 19 = .ok (.iaload, 1) := by decide +kernel
theorem dX12_go_20 : decode cX12_go 20 = .ok (.sipush 999, 3) := by decide +kernel
theorem dX12_go_23 : decode cX12_go 23 = .ok (.if_icmp .ne 7, 3) := by decide +kernel
theorem dX12_go_26 : decode cX12_go 26 = .ok (.sipush (-1003), 3) := by decide +kernel
theorem dX12_go_29 : decode cX12_go 29 = .ok (.ireturn, 1) := by decide +kernel
theorem dX12_go_30 : decode cX12_go 30 = .ok (.aload_n 0, 1) := by decide +kernel
theorem dX12_go_31 : decode cX12_go 31 = .ok (.invokevirtual 184, 3) := by decide +kernel
theorem dX12_go_34 : decode cX12_go 34 = .ok (.aload_n 0, 1) := by decide +kernel
theorem dX12_go_35 : decode cX12_go 35 = .ok (.iload_n 1, 1) := by decide +kernel
theorem dX12_go_36 : decode cX12_go 36 = .ok (.invokevirtual 187, 3) := by decide +kernel
theorem dX12_go_39 : decode cX12_go 39 = .ok (.aload_n 0, 1) := by decide +kernel
theorem dX12_go_40 : decode cX12_go 40 = .ok (.getfield 9, 3) := by decide +kernel
theorem dX12_go_43 : decode cX12_go 43 = .ok (.bipush 12, 2) := by decide +kernel
theorem dX12_go_45 : decode cX12_go 45 = .ok (.iaload, 1) := by decide +kernel
theorem dX12_go_46 : decode cX12_go 46 = .ok (.istore_n 2, 1) := by decide +kernel
theorem dX12_go_47 : decode cX12_go 47 = .ok (.aload_n 0, 1) := by decide +kernel
theorem dX12_go_48 : decode cX12_go 48 = .ok (.invokevirtual 184, 3) := by decide +kernel
theorem dX12_go_51 : decode cX12_go 51 = .ok (.iload_n 2, 1) := by decide +kernel
theorem dX12_go_52 : decode cX12_go 52 = .ok (.ireturn, 1) := by decide +kernel
theorem dX12_row_0 : decode cX12_row 0 = .ok (.iload_n 1, 1) := by decide +kernel
theorem dX12_row_1 : decode cX12_row 1 = .ok (.iconst (-1), 1) := by decide +kernel
theorem dX12_row_2 : decode cX12_row 2 = .ok (.if_icmp .ne 13, 3) := by decide +kernel
theorem dX12_row_5 : decode cX12_row 5 = .ok (.aload_n 0, 1) := by decide +kernel
theorem dX12_row_6 : decode cX12_row 6 = .ok (.getfield 9, 3) := by decide +kernel
theorem dX12_row_9 : decode cX12_row 9 = .ok (.bipush 17, 2) := by decide +kernel
theorem dX12_row_11 : decode cX12_row 11 = .ok (.iconst 0, 1) := by decide +kernel
theorem dX12_row_12 : decode cX12_row 12 = .ok (.iastore, 1) := by decide +kernel
theorem dX12_row_13 : decode cX12_row 13 = .ok (.iconst 0, 1) := by decide +kernel
theorem dX12_row_14 : decode cX12_row 14 = .ok (.ireturn, 1) := by decide +kernel
theorem dX12_row_15 : decode cX12_row 15 = .ok (.iload_n 1, 1) := by decide +kernel
theorem dX12_row_16 : decode cX12_row 16 = .ok (.iconst 0, 1) := by decide +kernel
theorem dX12_row_17 : decode cX12_row 17 = .ok (.iconst 1, 1) := by decide +kernel
theorem dX12_row_18 : decode cX12_row 18 = .ok (.invokestatic 51, 3) := by decide +kernel
theorem dX12_row_21 : decode cX12_row 21 = .ok (.ifCond .ne 6, 3) := by decide +kernel
theorem dX12_row_24 : decode cX12_row 24 = .ok (.bipush (-2), 2) := by decide +kernel
theorem dX12_row_26 : decode cX12_row 26 = .ok (.ireturn, 1) := by decide +kernel
theorem dX12_row_27 : decode cX12_row 27 = .ok (.aload_n 0, 1) := by decide +kernel
theorem dX12_row_28 : decode cX12_row 28 = .ok (.getfield 9, 3) := by decide +kernel
theorem dX12_row_31 : decode cX12_row 31 = .ok (.bipush 17, 2) := by decide +kernel
theorem dX12_row_33 : decode cX12_row 33 = .ok (.iaload, 1) := by decide +kernel
theorem dX12_row_34 : decode cX12_row 34 = .ok (.bipush 20, 2) := by decide +kernel
theorem dX12_row_36 : decode cX12_row 36 = .ok (.if_icmp .ne 6, 3) := by decide +kernel
theorem dX12_row_39 : decode cX12_row 39 = .ok (.bipush (-4), 2) := by decide +kernel
theorem dX12_row_41 : decode cX12_row 41 = .ok (.ireturn, 1) := by decide +kernel
theorem dX12_row_42 : decode cX12_row 42 = .ok (.aload_n 0, 1) := by decide +kernel
theorem dX12_row_43 : decode cX12_row 43 = .ok (.getfield 9, 3) := by decide +kernel
theorem dX12_row_46 : decode cX12_row 46 = .ok (.sipush 180, 3) := by decide +kernel
theorem dX12_row_49 : decode cX12_row 49 = .ok (.aload_n 0, 1) := by decide +kernel
theorem dX12_row_50 : decode cX12_row 50 = .ok (.getfield 9, 3) := by decide +kernel
theorem dX12_row_53 : decode cX12_row 53 = .ok (.bipush 17, 2) := by decide +kernel
theorem dX12_row_55 : decode cX12_row 55 = .ok (.iaload, 1) := by decide +kernel
theorem dX12_row_56 : decode cX12_row 56 = .ok (.iadd, 1) := by decide +kernel
theorem dX12_row_57 : decode cX12_row 57 = .ok (.iload_n 1, 1) := by decide +kernel
theorem dX12_row_58 : decode cX12_row 58 = .ok (.iastore, 1) := by decide +kernel
theorem dX12_row_59 : decode cX12_row 59 = .ok (.aload_n 0, 1) := by decide +kernel
theorem dX12_row_60 : decode cX12_row 60 = .ok (.getfield 9, 3) := by decide +kernel
theorem dX12_row_63 : decode cX12_row 63 = .ok (.bipush 17, 2) := by decide +kernel
theorem dX12_row_65 : decode cX12_row 65 = .ok (.dup2, 1) := by decide +kernel
theorem dX12_row_66 : decode cX12_row 66 = .ok (.iaload, 1) := by decide +kernel
theorem dX12_row_67 : decode cX12_row 67 = .ok (.iconst 1, 1) := by decide +kernel
theorem dX12_row_68 : decode cX12_row 68 = .ok (.iadd, 1) := by decide +kernel
theorem dX12_row_69 : decode cX12_row 69 = .ok (.iastore, 1) := by decide +kernel
theorem dX12_row_70 : decode cX12_row 70 = .ok (.aload_n 0, 1) := by decide +kernel
theorem dX12_row_71 : decode cX12_row 71 = .ok (.getfield 9, 3) := by decide +kernel
theorem dX12_row_74 : decode cX12_row 74 = .ok (.bipush 17, 2) := by decide +kernel
theorem dX12_row_76 : decode cX12_row 76 = .ok (.iaload, 1) := by decide +kernel
theorem dX12_row_77 : decode cX12_row 77 = .ok (.ireturn, 1) := by decide +kernel
theorem dX12_hand_0 : decode cX12_hand 0 = .ok (.iload_n 2, 1) := by decide +kernel
theorem dX12_hand_1 : decode cX12_hand 1 = .ok (.iconst 0, 1) := by decide +kernel
theorem dX12_hand_2 : decode cX12_hand 2 = .ok (.bipush 6, 2) := by decide +kernel
theorem dX12_hand_4 : decode cX12_hand 4 = .ok (.invokestatic 51, 3) := by decide +kernel
theorem dX12_hand_7 : decode cX12_hand 7 = .ok (.ifCond .ne 7, 3) := by decide +kernel
theorem dX12_hand_10 : decode cX12_hand 10 = .ok (.sipush (-1001), 3) := by decide +kernel
theorem dX12_hand_13 : decode cX12_hand 13 = .ok (.ireturn, 1) := by decide +kernel
theorem dX12_hand_14 : decode cX12_hand 14 = .ok (.iload_n 1, 1) := by decide +kernel
theorem dX12_hand_15 : decode cX12_hand 15 = .ok (.iconst 0, 1) := by decide +kernel
theorem dX12_hand_16 : decode cX12_hand 16 = .ok (.aload_n 0, 1) := by decide +kernel
theorem dX12_hand_17 : decode cX12_hand 17 = .ok (.getfield 9, 3) := by decide +kernel
theorem dX12_hand_20 : decode cX12_hand 20 = .ok (.bipush 17, 2) := by decide +kernel
theorem dX12_hand_22 : decode cX12_hand 22 = .ok (.iaload, 1) := by decide +kernel
theorem dX12_hand_23 : decode cX12_hand 23 = .ok (.invokestatic 51, 3) := by decide +kernel
theorem dX12_hand_26 : decode cX12_hand 26 = .ok (.ifCond .ne 7, 3) := by decide +kernel
theorem dX12_hand_29 : decode cX12_hand 29 = .ok (.sipush (-1002), 3) := by decide +kernel
theorem dX12_hand_32 : decode cX12_hand 32 = .ok (.ireturn, 1) := by decide +kernel
theorem dX12_hand_33 : decode cX12_hand 33 = .ok (.aload_n 0, 1) := by decide +kernel
theorem dX12_hand_34 : decode cX12_hand 34 = .ok (.iconst 0, 1) := by decide +kernel
theorem dX12_hand_35 : decode cX12_hand 35 = .ok (.invokevirtual 190, 3) := by decide +kernel
theorem dX12_hand_38 : decode cX12_hand 38 = .ok (.iconst 0, 1) := by decide +kernel
theorem dX12_hand_39 : decode cX12_hand 39 = .ok (.istore_n 3, 1) := by decide +kernel
theorem dX12_hand_40 : decode cX12_hand 40 = .ok (.iload_n 3, 1) := by decide +kernel
theorem dX12_hand_41 : decode cX12_hand 41 = .ok (.iload_n 1, 1) := by decide +kernel
theorem dX12_hand_42 : decode cX12_hand 42 = .ok (.if_icmp .ge 23, 3) := by decide +kernel
theorem dX12_hand_45 : decode cX12_hand 45 = .ok (.aload_n 0, 1) := by decide +kernel
theorem dX12_hand_46 : decode cX12_hand 46 = .ok (.aload_n 0, 1) := by decide +kernel
theorem dX12_hand_47 : decode cX12_hand 47 = .ok (.getfield 9, 3) := by decide +kernel
theorem dX12_hand_50 : decode cX12_hand 50 = .ok (.sipush 180, 3) := by decide +kernel
theorem dX12_hand_53 : decode cX12_hand 53 = .ok (.iload_n 3, 1) := by decide +kernel
theorem dX12_hand_54 : decode cX12_hand 54 = .ok (.iadd, 1) := by decide +kernel
theorem dX12_hand_55 : decode cX12_hand 55 = .ok (.iaload, 1) := by decide +kernel
theorem dX12_hand_56 : decode cX12_hand 56 = .ok (.invokevirtual 187, 3) := by decide +kernel
theorem dX12_hand_59 : decode cX12_hand 59 = .ok (.iinc 3 1, 3) := by decide +kernel
theorem dX12_hand_62 : decode cX12_hand 62 = .ok (.goto (-22), 3) := by decide +kernel
theorem dX12_hand_65 : decode cX12_hand 65 = .ok (.iload_n 2, 1) := by decide +kernel
theorem dX12_hand_66 : decode cX12_hand 66 = .ok (.ifCond .ne 13, 3) := by decide +kernel
theorem dX12_hand_69 : decode cX12_hand 69 = .ok (.aload_n 0, 1) := by decide +kernel
theorem dX12_hand_70 : decode cX12_hand 70 = .ok (.getfield 9, 3) := by decide +kernel
theorem dX12_hand_73 : decode cX12_hand 73 = .ok (.bipush 12, 2) := by decide +kernel
theorem dX12_hand_75 : decode cX12_hand 75 = .ok (.iaload, 1) := by decide +kernel
theorem dX12_hand_76 : decode cX12_hand 76 = .ok (.goto 44, 3) := by decide +kernel
theorem dX12_hand_79 : decode cX12_hand 79 = .ok (.iload_n 2, 1) := by decide +kernel
theorem dX12_hand_80 : decode cX12_hand 80 = .ok (.iconst 1, 1) := by decide +kernel
theorem dX12_hand_81 : decode cX12_hand 81 = .ok (.if_icmp .ne 13, 3) := by decide +kernel
theorem dX12_hand_84 : decode cX12_hand 84 = .ok (.aload_n 0, 1) := by decide +kernel
theorem dX12_hand_85 : decode cX12_hand 85 = .ok (.getfield 9, 3) := by decide +kernel
theorem dX12_hand_88 : decode cX12_hand 88 = .ok (.bipush 13, 2) := by decide +kernel
theorem dX12_hand_90 : decode cX12_hand 90 = .ok (.iaload, 1) := by decide +kernel
theorem dX12_hand_91 : decode cX12_hand 91 = .ok (.goto 29, 3) := by decide +kernel
theorem dX12_hand_94 : decode cX12_hand 94 = .ok (.iload_n 2, 1) := by decide +kernel
theorem dX12_hand_95 : decode cX12_hand 95 = .ok (.bipush 6, 2) := by decide +kernel
theorem dX12_hand_97 : decode cX12_hand 97 = .ok (.if_icmp .ne 13, 3) := by decide +kernel
theorem dX12_hand_100 : decode cX12_hand 100 = .ok (.aload_n 0, 1) := by decide +kernel
theorem dX12_hand_101 : decode cX12_hand 101 = .ok (.getfield 9, 3) := by decide +kernel
theorem dX12_hand_104 : decode cX12_hand 104 = .ok (.bipush 14, 2) := by decide +kernel
theorem dX12_hand_106 : decode cX12_hand 106 = .ok (.iaload, 1) := by decide +kernel
theorem dX12_hand_107 : decode cX12_hand 107 = .ok (.goto 13, 3) := by decide +kernel
theorem dX12_hand_110 : decode cX12_hand 110 = .ok (.aload_n 0, 1) := by decide +kernel
theorem dX12_hand_111 : decode cX12_hand 111 = .ok (.getfield 9, 3) := by decide +kernel
theorem dX12_hand_114 : decode cX12_hand 114 = .ok (.iconst 0, 1) := by decide +kernel
theorem dX12_hand_115 : decode cX12_hand 115 = .ok (.iload_n 2, 1) := by decide +kernel
theorem dX12_hand_116 : decode cX12_hand 116 = .ok (.iadd, 1) := by decide +kernel
theorem dX12_hand_117 : decode cX12_hand 117 = .ok (.iconst 2, 1) := by decide +kernel
theorem dX12_hand_118 : decode cX12_hand 118 = .ok (.isub, 1) := by decide +kernel
theorem dX12_hand_119 : decode cX12_hand 119 = .ok (.iaload, 1) := by decide +kernel
theorem dX12_hand_120 : decode cX12_hand 120 = .ok (.istore_n 3, 1) := by decide +kernel
theorem dX12_hand_121 : decode cX12_hand 121 = .ok (.aload_n 0, 1) := by decide +kernel
theorem dX12_hand_122 : decode cX12_hand 122 = .ok (.iconst 0, 1) := by decide +kernel
theorem dX12_hand_123 : decode cX12_hand 123 = .ok (.invokevirtual 193, 3) := by decide +kernel
theorem dX12_hand_126 : decode cX12_hand 126 = .ok (.iload_n 3, 1) := by decide +kernel
theorem dX12_hand_127 : decode cX12_hand 127 = .ok (.ireturn, 1) := by decide +kernel
theorem dX12_allSkies_0 : decode cX12_allSkies 0 = .ok (.iload_n 1, 1) := by decide +kernel
theorem dX12_allSkies_1 : decode cX12_allSkies 1 = .ok (.iload_n 2, 1) := by decide +kernel
theorem dX12_allSkies_2 : decode cX12_allSkies 2 = .ok (.if_icmp .ne 84, 3) := by decide +kernel
theorem dX12_allSkies_5 : decode cX12_allSkies 5 = .ok (.aload_n 0, 1) := by decide +kernel
theorem dX12_allSkies_6 : decode cX12_allSkies 6 = .ok (.dup, 1) := by decide +kernel
theorem dX12_allSkies_7 : decode cX12_allSkies 7 = .ok (.getfield 196, 3) := by decide +kernel
theorem dX12_allSkies_10 : decode cX12_allSkies 10 = .ok (.lload_n 3, 1) := by decide +kernel
theorem dX12_allSkies_11 : decode cX12_allSkies 11 = .ok (.aload_n 0, 1) := by decide +kernel
theorem dX12_allSkies_12 : decode cX12_allSkies 12 = .ok (.getfield 9, 3) := by decide +kernel
theorem dX12_allSkies_15 : decode cX12_allSkies 15 = .ok (.bipush 12, 2) := by decide +kernel
theorem dX12_allSkies_17 : decode cX12_allSkies 17 = .ok (.iaload, 1) := by decide +kernel
theorem dX12_allSkies_18 : decode cX12_allSkies 18 = .ok (.i2l, 1) := by decide +kernel
theorem dX12_allSkies_19 : decode cX12_allSkies 19 = .ok (.lmul, 1) := by decide +kernel
theorem dX12_allSkies_20 : decode cX12_allSkies 20 = .ok (.ladd, 1) := by decide +kernel
theorem dX12_allSkies_21 : decode cX12_allSkies 21 = .ok (.putfield 196, 3) := by decide +kernel
theorem dX12_allSkies_24 : decode cX12_allSkies 24 = .ok (.aload_n 0, 1) := by decide +kernel
theorem dX12_allSkies_25 : decode cX12_allSkies 25 = .ok (.dup, 1) := by decide +kernel
theorem dX12_allSkies_26 : decode cX12_allSkies 26 = .ok (.getfield 200, 3) := by decide +kernel
theorem dX12_allSkies_29 : decode cX12_allSkies 29 = .ok (.aload_n 0, 1) := by decide +kernel
theorem dX12_allSkies_30 : decode cX12_allSkies 30 = .ok (.getfield 9, 3) := by decide +kernel
theorem dX12_allSkies_33 : decode cX12_allSkies 33 = .ok (.bipush 13, 2) := by decide +kernel
theorem dX12_allSkies_35 : decode cX12_allSkies 35 = .ok (.iaload, 1) := by decide +kernel
theorem dX12_allSkies_36 : decode cX12_allSkies 36 = .ok (.ifCond .ne 7, 3) := by decide +kernel
theorem dX12_allSkies_39 : decode cX12_allSkies 39 = .ok (.lload_n 3, 1) := by decide +kernel
theorem dX12_allSkies_40 : decode cX12_allSkies 40 = .ok (.goto 4, 3) := by decide +kernel
theorem dX12_allSkies_43 : decode cX12_allSkies 43 = .ok (.lconst 0, 1) := by decide +kernel
theorem dX12_allSkies_44 : decode cX12_allSkies 44 = .ok (.ladd, 1) := by decide +kernel
theorem dX12_allSkies_45 : decode cX12_allSkies 45 = .ok (.putfield 200, 3) := by decide +kernel
theorem dX12_allSkies_48 : decode cX12_allSkies 48 = .ok (.iconst 0, 1) := by decide +kernel
theorem dX12_allSkies_49 : decode cX12_allSkies 49 = .ok (.istore 5, 2) := by decide +kernel
theorem dX12_allSkies_51 : decode cX12_allSkies 51 = .ok (.iload 5, 2) := by decide +kernel
theorem dX12_allSkies_53 : decode cX12_allSkies 53 = .ok (.iconst 4, 1) := by decide +kernel
theorem dX12_allSkies_54 : decode cX12_allSkies 54 = .ok (.if_icmp .ge 31, 3) := by decide +kernel
theorem dX12_allSkies_57 : decode cX12_allSkies 57 = .ok (.aload_n 0, 1) := by decide +kernel
theorem dX12_allSkies_58 : decode cX12_allSkies 58 = .ok (.getfield 37, 3) := by decide +kernel
theorem dX12_allSkies_61 : decode cX12_allSkies 61 = .ok (.iload 5, 2) := by decide +kernel
theorem dX12_allSkies_63 : decode cX12_allSkies 63 = .ok (.dup2, 1) := by decide +kernel
theorem dX12_allSkies_64 : decode cX12_allSkies 64 = .ok (.laload, 1) := by decide +kernel
theorem dX12_allSkies_65 : decode cX12_allSkies 65 = .ok (.lload_n 3, 1) := by decide +kernel
theorem dX12_allSkies_66 : decode cX12_allSkies 66 = .ok (.aload_n 0, 1) := by decide +kernel
theorem dX12_allSkies_67 : decode cX12_allSkies 67 = .ok (.getfield 9, 3) := by decide +kernel
theorem dX12_allSkies_70 : decode cX12_allSkies 70 = .ok (.iconst 0, 1) := by decide +kernel
theorem dX12_allSkies_71 : decode cX12_allSkies 71 = .ok (.iload 5, 2) := by decide +kernel
theorem dX12_allSkies_73 : decode cX12_allSkies 73 = .ok (.iadd, 1) := by decide +kernel
theorem dX12_allSkies_74 : decode cX12_allSkies 74 = .ok (.iaload, 1) := by decide +kernel
theorem dX12_allSkies_75 : decode cX12_allSkies 75 = .ok (.i2l, 1) := by decide +kernel
theorem dX12_allSkies_76 : decode cX12_allSkies 76 = .ok (.lmul, 1) := by decide +kernel
theorem dX12_allSkies_77 : decode cX12_allSkies 77 = .ok (.ladd, 1) := by decide +kernel
theorem dX12_allSkies_78 : decode cX12_allSkies 78 = .ok (.lastore, 1) := by decide +kernel
theorem dX12_allSkies_79 : decode cX12_allSkies 79 = .ok (.iinc 5 1, 3) := by decide +kernel
theorem dX12_allSkies_82 : decode cX12_allSkies 82 = .ok (.goto (-31), 3) := by decide +kernel
theorem dX12_allSkies_85 : decode cX12_allSkies 85 = .ok (.return_, 1) := by decide +kernel
theorem dX12_allSkies_86 : decode cX12_allSkies 86 = .ok (.aload_n 0, 1) := by decide +kernel
theorem dX12_allSkies_87 : decode cX12_allSkies 87 = .ok (.aload_n 0, 1) := by decide +kernel
theorem dX12_allSkies_88 : decode cX12_allSkies 88 = .ok (.getfield 9, 3) := by decide +kernel
theorem dX12_allSkies_91 : decode cX12_allSkies 91 = .ok (.bipush 10, 2) := by decide +kernel
theorem dX12_allSkies_93 : decode cX12_allSkies 93 = .ok (.iaload, 1) := by decide +kernel
theorem dX12_allSkies_94 : decode cX12_allSkies 94 = .ok (.aload_n 0, 1) := by decide +kernel
theorem dX12_allSkies_95 : decode cX12_allSkies 95 = .ok (.getfield 9, 3) := by decide +kernel
theorem dX12_allSkies_98 : decode cX12_allSkies 98 = .ok (.bipush 11, 2) := by decide +kernel
theorem dX12_allSkies_100 : decode cX12_allSkies 100 = .ok (.iaload, 1) := by decide +kernel
theorem dX12_allSkies_101 : decode cX12_allSkies 101 = .ok (.invokevirtual 160, 3) := by decide +kernel
theorem dX12_allSkies_104 : decode cX12_allSkies 104 = .ok (.istore 5, 2) := by decide +kernel
theorem dX12_allSkies_106 : decode cX12_allSkies 106 = .ok (.aload_n 0, 1) := by decide +kernel
theorem dX12_allSkies_107 : decode cX12_allSkies 107 = .ok (.iload_n 1, 1) := by decide +kernel
theorem dX12_allSkies_108 : decode cX12_allSkies 108 = .ok (.iconst 1, 1) := by decide +kernel
theorem dX12_allSkies_109 : decode cX12_allSkies 109 = .ok (.iadd, 1) := by decide +kernel
theorem dX12_allSkies_110 : decode cX12_allSkies 110 = .ok (.invokevirtual 190, 3) := by decide +kernel
theorem dX12_allSkies_113 : decode cX12_allSkies 113 = .ok (.iload 5, 2) := by decide +kernel
theorem dX12_allSkies_115 : decode cX12_allSkies 115 = .ok (.bipush 10, 2) := by decide +kernel
theorem dX12_allSkies_117 : decode cX12_allSkies 117 = .ok (.if_icmp .ge 31, 3) := by decide +kernel
theorem dX12_allSkies_120 : decode cX12_allSkies 120 = .ok (.aload_n 0, 1) := by decide +kernel
theorem dX12_allSkies_121 : decode cX12_allSkies 121 = .ok (.iconst 0, 1) := by decide +kernel
theorem dX12_allSkies_122 : decode cX12_allSkies 122 = .ok (.invokevirtual 187, 3) := by decide +kernel
theorem dX12_allSkies_125 : decode cX12_allSkies 125 = .ok (.aload_n 0, 1) := by decide +kernel
theorem dX12_allSkies_126 : decode cX12_allSkies 126 = .ok (.iload_n 1, 1) := by decide +kernel
theorem dX12_allSkies_127 : decode cX12_allSkies 127 = .ok (.iconst 1, 1) := by decide +kernel
theorem dX12_allSkies_128 : decode cX12_allSkies 128 = .ok (.iadd, 1) := by decide +kernel
theorem dX12_allSkies_129 : decode cX12_allSkies 129 = .ok (.iload_n 2, 1) := by decide +kernel
theorem dX12_allSkies_130 : decode cX12_allSkies 130 = .ok (.lload_n 3, 1) := by decide +kernel
theorem dX12_allSkies_131 : decode cX12_allSkies 131 = .ok (.bipush 10, 2) := by decide +kernel
theorem dX12_allSkies_133 : decode cX12_allSkies 133 = .ok (.iload 5, 2) := by decide +kernel
theorem dX12_allSkies_135 : decode cX12_allSkies 135 = .ok (.isub, 1) := by decide +kernel
theorem dX12_allSkies_136 : decode cX12_allSkies 136 = .ok (.i2l, 1) := by decide +kernel
theorem dX12_allSkies_137 : decode cX12_allSkies 137 = .ok (.lmul, 1) := by decide +kernel
theorem dX12_allSkies_138 : decode cX12_allSkies 138 = .ok (.invokevirtual 203, 3) := by decide +kernel
theorem dX12_allSkies_141 : decode cX12_allSkies 141 = .ok (.aload_n 0, 1) := by decide +kernel
theorem dX12_allSkies_142 : decode cX12_allSkies 142 = .ok (.iload_n 1, 1) := by decide +kernel
theorem dX12_allSkies_143 : decode cX12_allSkies 143 = .ok (.iconst 1, 1) := by decide +kernel
theorem dX12_allSkies_144 : decode cX12_allSkies 144 = .ok (.iadd, 1) := by decide +kernel
theorem dX12_allSkies_145 : decode cX12_allSkies 145 = .ok (.invokevirtual 193, 3) := by decide +kernel
theorem dX12_allSkies_148 : decode cX12_allSkies 148 = .ok (.iload 5, 2) := by decide +kernel
theorem dX12_allSkies_150 : decode cX12_allSkies 150 = .ok (.ifCond .le 28, 3) := by decide +kernel
theorem dX12_allSkies_153 : decode cX12_allSkies 153 = .ok (.aload_n 0, 1) := by decide +kernel
theorem dX12_allSkies_154 : decode cX12_allSkies 154 = .ok (.iconst 1, 1) := by decide +kernel
theorem dX12_allSkies_155 : decode cX12_allSkies 155 = .ok (.invokevirtual 187, 3) := by decide +kernel
theorem dX12_allSkies_158 : decode cX12_allSkies 158 = .ok (.aload_n 0, 1) := by decide +kernel
theorem dX12_allSkies_159 : decode cX12_allSkies 159 = .ok (.iload_n 1, 1) := by decide +kernel
theorem dX12_allSkies_160 : decode cX12_allSkies 160 = .ok (.iconst 1, 1) := by decide +kernel
theorem dX12_allSkies_161 : decode cX12_allSkies 161 = .ok (.iadd, 1) := by decide +kernel
theorem dX12_allSkies_162 : decode cX12_allSkies 162 = .ok (.iload_n 2, 1) := by decide +kernel
theorem dX12_allSkies_163 : decode cX12_allSkies 163 = .ok (.lload_n 3, 1) := by decide +kernel
theorem dX12_allSkies_164 : decode cX12_allSkies 164 = .ok (.iload 5, 2) := by decide +kernel
theorem dX12_allSkies_166 : decode cX12_allSkies 166 = .ok (.i2l, 1) := by decide +kernel
theorem dX12_allSkies_167 : decode cX12_allSkies 167 = .ok (.lmul, 1) := by decide +kernel
theorem dX12_allSkies_168 : decode cX12_allSkies 168 = .ok (.invokevirtual 203, 3) := by decide +kernel
theorem dX12_allSkies_171 : decode cX12_allSkies 171 = .ok (.aload_n 0, 1) := by decide +kernel
theorem dX12_allSkies_172 : decode cX12_allSkies 172 = .ok (.iload_n 1, 1) := by decide +kernel
theorem dX12_allSkies_173 : decode cX12_allSkies 173 = .ok (.iconst 1, 1) := by decide +kernel
theorem dX12_allSkies_174 : decode cX12_allSkies 174 = .ok (.iadd, 1) := by decide +kernel
theorem dX12_allSkies_175 : decode cX12_allSkies 175 = .ok (.invokevirtual 193, 3) := by decide +kernel
theorem dX12_allSkies_178 : decode cX12_allSkies 178 = .ok (.return_, 1) := by decide +kernel
theorem dX12_meanOf_0 : decode cX12_meanOf 0 = .ok (.aload_n 0, 1) := by decide +kernel
theorem dX12_meanOf_1 : decode cX12_meanOf 1 = .ok (.lconst 0, 1) := by decide +kernel
theorem dX12_meanOf_2 : decode cX12_meanOf 2 = .ok (.putfield 196, 3) := by decide +kernel
theorem dX12_meanOf_5 : decode cX12_meanOf 5 = .ok (.aload_n 0, 1) := by decide +kernel
theorem dX12_meanOf_6 : decode cX12_meanOf 6 = .ok (.lconst 0, 1) := by decide +kernel
theorem dX12_meanOf_7 : decode cX12_meanOf 7 = .ok (.putfield 200, 3) := by decide +kernel
theorem dX12_meanOf_10 : decode cX12_meanOf 10 = .ok (.iconst 0, 1) := by decide +kernel
theorem dX12_meanOf_11 : decode cX12_meanOf 11 = .ok (.istore_n 2, 1) := by decide +kernel
theorem dX12_meanOf_12 : decode cX12_meanOf 12 = .ok (.iload_n 2, 1) := by decide +kernel
theorem dX12_meanOf_13 : decode cX12_meanOf 13 = .ok (.iconst 4, 1) := by decide +kernel
theorem dX12_meanOf_14 : decode cX12_meanOf 14 = .ok (.if_icmp .ge 16, 3) := by decide +kernel
theorem dX12_meanOf_17 : decode cX12_meanOf 17 = .ok (.aload_n 0, 1) := by decide +kernel
theorem dX12_meanOf_18 : decode cX12_meanOf 18 = .ok (.getfield 37, 3) := by decide +kernel
theorem dX12_meanOf_21 : decode cX12_meanOf 21 = .ok (.iload_n 2, 1) := by decide +kernel
theorem dX12_meanOf_22 : decode cX12_meanOf 22 = .ok (.lconst 0, 1) := by decide +kernel
theorem dX12_meanOf_23 : decode cX12_meanOf 23 = .ok (.lastore, 1) := by decide +kernel
theorem dX12_meanOf_24 : decode cX12_meanOf 24 = .ok (.iinc 2 1, 3) := by decide +kernel
theorem dX12_meanOf_27 : decode cX12_meanOf 27 = .ok (.goto (-15), 3) := by decide +kernel
theorem dX12_meanOf_30 : decode cX12_meanOf 30 = .ok (.aload_n 0, 1) := by decide +kernel
theorem dX12_meanOf_31 : decode cX12_meanOf 31 = .ok (.iconst 0, 1) := by decide +kernel
theorem dX12_meanOf_32 : decode cX12_meanOf 32 = .ok (.iload_n 1, 1) := by decide +kernel
theorem dX12_meanOf_33 : decode cX12_meanOf 33 = .ok (.lconst 1, 1) := by decide +kernel
theorem dX12_meanOf_34 : decode cX12_meanOf 34 = .ok (.invokevirtual 203, 3) := by decide +kernel
theorem dX12_meanOf_37 : decode cX12_meanOf 37 = .ok (.aload_n 0, 1) := by decide +kernel
theorem dX12_meanOf_38 : decode cX12_meanOf 38 = .ok (.getfield 196, 3) := by decide +kernel
theorem dX12_meanOf_41 : decode cX12_meanOf 41 = .ok (.lreturn, 1) := by decide +kernel
theorem dX12_power_0 : decode cX12_power 0 = .ok (.lconst 1, 1) := by decide +kernel
theorem dX12_power_1 : decode cX12_power 1 = .ok (.lstore_n 1, 1) := by decide +kernel
theorem dX12_power_2 : decode cX12_power 2 = .ok (.iconst 0, 1) := by decide +kernel
theorem dX12_power_3 : decode cX12_power 3 = .ok (.istore_n 3, 1) := by decide +kernel
theorem dX12_power_4 : decode cX12_power 4 = .ok (.iload_n 3, 1) := by decide +kernel
theorem dX12_power_5 : decode cX12_power 5 = .ok (.iload_n 0, 1) := by decide +kernel
theorem dX12_power_6 : decode cX12_power 6 = .ok (.if_icmp .ge 15, 3) := by decide +kernel
theorem dX12_power_9 : decode cX12_power 9 = .ok (.lload_n 1, 1) := by decide +kernel
theorem dX12_power_10 : decode cX12_power 10 = .ok (.ldc2_w 207, 3) := by decide +kernel
theorem dX12_power_13 : decode cX12_power 13 = .ok (.lmul, 1) := by decide +kernel
theorem dX12_power_14 : decode cX12_power 14 = .ok (.lstore_n 1, 1) := by decide +kernel
theorem dX12_power_15 : decode cX12_power 15 = .ok (.iinc 3 1, 3) := by decide +kernel
theorem dX12_power_18 : decode cX12_power 18 = .ok (.goto (-14), 3) := by decide +kernel
theorem dX12_power_21 : decode cX12_power 21 = .ok (.lload_n 1, 1) := by decide +kernel
theorem dX12_power_22 : decode cX12_power 22 = .ok (.lreturn, 1) := by decide +kernel
theorem dX12_divisor_0 : decode cX12_divisor 0 = .ok (.lload_n 0, 1) := by decide +kernel
theorem dX12_divisor_1 : decode cX12_divisor 1 = .ok (.lconst 0, 1) := by decide +kernel
theorem dX12_divisor_2 : decode cX12_divisor 2 = .ok (.lcmp, 1) := by decide +kernel
theorem dX12_divisor_3 : decode cX12_divisor 3 = .ok (.ifCond .ge 8, 3) := by decide +kernel
theorem dX12_divisor_6 : decode cX12_divisor 6 = .ok (.lload_n 0, 1) := by decide +kernel
theorem dX12_divisor_7 : decode cX12_divisor 7 = .ok (.lneg, 1) := by decide +kernel
theorem dX12_divisor_8 : decode cX12_divisor 8 = .ok (.goto 4, 3) := by decide +kernel
theorem dX12_divisor_11 : decode cX12_divisor 11 = .ok (.lload_n 0, 1) := by decide +kernel
theorem dX12_divisor_12 : decode cX12_divisor 12 = .ok (.lstore 4, 2) := by decide +kernel
theorem dX12_divisor_14 : decode cX12_divisor 14 = .ok (.lload_n 2, 1) := by decide +kernel
theorem dX12_divisor_15 : decode cX12_divisor 15 = .ok (.lstore 6, 2) := by decide +kernel
theorem dX12_divisor_17 : decode cX12_divisor 17 = .ok (.lload 6, 2) := by decide +kernel
theorem dX12_divisor_19 : decode cX12_divisor 19 = .ok (.lconst 0, 1) := by decide +kernel
theorem dX12_divisor_20 : decode cX12_divisor 20 = .ok (.lcmp, 1) := by decide +kernel
theorem dX12_divisor_21 : decode cX12_divisor 21 = .ok (.ifCond .eq 21, 3) := by decide +kernel
theorem dX12_divisor_24 : decode cX12_divisor 24 = .ok (.lload 4, 2) := by decide +kernel
theorem dX12_divisor_26 : decode cX12_divisor 26 = .ok (.lload 6, 2) := by decide +kernel
theorem dX12_divisor_28 : decode cX12_divisor 28 = .ok (.lrem, 1) := by decide +kernel
theorem dX12_divisor_29 : decode cX12_divisor 29 = .ok (.lstore 8, 2) := by decide +kernel
theorem dX12_divisor_31 : decode cX12_divisor 31 = .ok (.lload 6, 2) := by decide +kernel
theorem dX12_divisor_33 : decode cX12_divisor 33 = .ok (.lstore 4, 2) := by decide +kernel
theorem dX12_divisor_35 : decode cX12_divisor 35 = .ok (.lload 8, 2) := by decide +kernel
theorem dX12_divisor_37 : decode cX12_divisor 37 = .ok (.lstore 6, 2) := by decide +kernel
theorem dX12_divisor_39 : decode cX12_divisor 39 = .ok (.goto (-22), 3) := by decide +kernel
theorem dX12_divisor_42 : decode cX12_divisor 42 = .ok (.lload 4, 2) := by decide +kernel
theorem dX12_divisor_44 : decode cX12_divisor 44 = .ok (.lreturn, 1) := by decide +kernel
theorem dX12_lowest_0 : decode cX12_lowest 0 = .ok (.iload 4, 2) := by decide +kernel
theorem dX12_lowest_2 : decode cX12_lowest 2 = .ok (.ifCond .ne 7, 3) := by decide +kernel
theorem dX12_lowest_5 : decode cX12_lowest 5 = .ok (.lload_n 0, 1) := by decide +kernel
theorem dX12_lowest_6 : decode cX12_lowest 6 = .ok (.goto 4, 3) := by decide +kernel
theorem dX12_lowest_9 : decode cX12_lowest 9 = .ok (.lload_n 2, 1) := by decide +kernel
theorem dX12_lowest_10 : decode cX12_lowest 10 = .ok (.lload_n 0, 1) := by decide +kernel
theorem dX12_lowest_11 : decode cX12_lowest 11 = .ok (.lload_n 2, 1) := by decide +kernel
theorem dX12_lowest_12 : decode cX12_lowest 12 = .ok (.invokestatic 209, 3) := by decide +kernel
theorem dX12_lowest_15 : decode cX12_lowest 15 = .ok (.ldiv, 1) := by decide +kernel
theorem dX12_lowest_16 : decode cX12_lowest 16 = .ok (.lreturn, 1) := by decide +kernel
theorem dX12_mean_0 : decode cX12_mean 0 = .ok (.iload_n 1, 1) := by decide +kernel
theorem dX12_mean_1 : decode cX12_mean 1 = .ok (.iconst 1, 1) := by decide +kernel
theorem dX12_mean_2 : decode cX12_mean 2 = .ok (.bipush 8, 2) := by decide +kernel
theorem dX12_mean_4 : decode cX12_mean 4 = .ok (.invokestatic 51, 3) := by decide +kernel
theorem dX12_mean_7 : decode cX12_mean 7 = .ok (.ifCond .eq 21, 3) := by decide +kernel
theorem dX12_mean_10 : decode cX12_mean 10 = .ok (.iload_n 2, 1) := by decide +kernel
theorem dX12_mean_11 : decode cX12_mean 11 = .ok (.iconst 0, 1) := by decide +kernel
theorem dX12_mean_12 : decode cX12_mean 12 = .ok (.iconst 1, 1) := by decide +kernel
theorem dX12_mean_13 : decode cX12_mean 13 = .ok (.invokestatic 51, 3) := by decide +kernel
theorem dX12_mean_16 : decode cX12_mean 16 = .ok (.ifCond .eq 12, 3) := by decide +kernel
theorem dX12_mean_19 : decode cX12_mean 19 = .ok (.iload_n 3, 1) := by decide +kernel
theorem dX12_mean_20 : decode cX12_mean 20 = .ok (.iconst 0, 1) := by decide +kernel
theorem dX12_mean_21 : decode cX12_mean 21 = .ok (.iconst 1, 1) := by decide +kernel
theorem dX12_mean_22 : decode cX12_mean 22 = .ok (.invokestatic 51, 3) := by decide +kernel
theorem dX12_mean_25 : decode cX12_mean 25 = .ok (.ifCond .ne 7, 3) := by decide +kernel
theorem dX12_mean_28 : decode cX12_mean 28 = .ok (.ldc2_w 213, 3) := by decide +kernel
theorem dX12_mean_31 : decode cX12_mean 31 = .ok (.lreturn, 1) := by decide +kernel
theorem dX12_mean_32 : decode cX12_mean 32 = .ok (.aload_n 0, 1) := by decide +kernel
theorem dX12_mean_33 : decode cX12_mean 33 = .ok (.iload_n 1, 1) := by decide +kernel
theorem dX12_mean_34 : decode cX12_mean 34 = .ok (.invokevirtual 215, 3) := by decide +kernel
theorem dX12_mean_37 : decode cX12_mean 37 = .ok (.lstore 4, 2) := by decide +kernel
theorem dX12_mean_39 : decode cX12_mean 39 = .ok (.iload_n 2, 1) := by decide +kernel
theorem dX12_mean_40 : decode cX12_mean 40 = .ok (.ifCond .ne 8, 3) := by decide +kernel
theorem dX12_mean_43 : decode cX12_mean 43 = .ok (.lload 4, 2) := by decide +kernel
theorem dX12_mean_45 : decode cX12_mean 45 = .ok (.goto 7, 3) := by decide +kernel
theorem dX12_mean_48 : decode cX12_mean 48 = .ok (.aload_n 0, 1) := by decide +kernel
theorem dX12_mean_49 : decode cX12_mean 49 = .ok (.getfield 200, 3) := by decide +kernel
theorem dX12_mean_52 : decode cX12_mean 52 = .ok (.iload_n 1, 1) := by decide +kernel
theorem dX12_mean_53 : decode cX12_mean 53 = .ok (.invokestatic 219, 3) := by decide +kernel
theorem dX12_mean_56 : decode cX12_mean 56 = .ok (.iload_n 3, 1) := by decide +kernel
theorem dX12_mean_57 : decode cX12_mean 57 = .ok (.invokestatic 222, 3) := by decide +kernel
theorem dX12_mean_60 : decode cX12_mean 60 = .ok (.lreturn, 1) := by decide +kernel
theorem dX12_keepsStands_0 : decode cX12_keepsStands 0 = .ok (.iconst 0, 1) := by decide +kernel
theorem dX12_keepsStands_1 : decode cX12_keepsStands 1 = .ok (.istore_n 1, 1) := by decide +kernel
theorem dX12_keepsStands_2 : decode cX12_keepsStands 2 = .ok (.iload_n 1, 1) := by decide +kernel
theorem dX12_keepsStands_3 : decode cX12_keepsStands 3 = .ok (.iconst 4, 1) := by decide +kernel
theorem dX12_keepsStands_4 : decode cX12_keepsStands 4 = .ok (.if_icmp .ge 23, 3) := by decide +kernel
theorem dX12_keepsStands_7 : decode cX12_keepsStands 7 = .ok (.aload_n 0, 1) := by decide +kernel
theorem dX12_keepsStands_8 : decode cX12_keepsStands 8 = .ok (.getfield 41, 3) := by decide +kernel
theorem dX12_keepsStands_11 : decode cX12_keepsStands 11 = .ok (.iload_n 1, 1) := by decide +kernel
theorem dX12_keepsStands_12 : decode cX12_keepsStands 12 = .ok (.aload_n 0, 1) := by decide +kernel
theorem dX12_keepsStands_13 : decode cX12_keepsStands 13 = .ok (.getfield 9, 3) := by decide +kernel
theorem dX12_keepsStands_16 : decode cX12_keepsStands 16 = .ok (.iconst 0, 1) := by decide +kernel
theorem dX12_keepsStands_17 : decode cX12_keepsStands 17 = .ok (.iload_n 1, 1) := by decide +kernel
theorem dX12_keepsStands_18 : decode cX12_keepsStands 18 = .ok (.iadd, 1) := by decide +kernel
theorem dX12_keepsStands_19 : decode cX12_keepsStands 19 = .ok (.iaload, 1) := by decide +kernel
theorem dX12_keepsStands_20 : decode cX12_keepsStands 20 = .ok (.iastore, 1) := by decide +kernel
theorem dX12_keepsStands_21 : decode cX12_keepsStands 21 = .ok (.iinc 1 1, 3) := by decide +kernel
theorem dX12_keepsStands_24 : decode cX12_keepsStands 24 = .ok (.goto (-22), 3) := by decide +kernel
theorem dX12_keepsStands_27 : decode cX12_keepsStands 27 = .ok (.return_, 1) := by decide +kernel
theorem dX12_putsStandsBack_0 : decode cX12_putsStandsBack 0 = .ok (.iconst 0, 1) := by decide +kernel
theorem dX12_putsStandsBack_1 : decode cX12_putsStandsBack 1 = .ok (.istore_n 1, 1) := by decide +kernel
theorem dX12_putsStandsBack_2 : decode cX12_putsStandsBack 2 = .ok (.iload_n 1, 1) := by decide +kernel
theorem dX12_putsStandsBack_3 : decode cX12_putsStandsBack 3 = .ok (.iconst 4, 1) := by decide +kernel
theorem dX12_putsStandsBack_4 : decode cX12_putsStandsBack 4 = .ok (.if_icmp .ge 23, 3) := by decide +kernel
theorem dX12_putsStandsBack_7 : decode cX12_putsStandsBack 7 = .ok (.aload_n 0, 1) := by decide +kernel
theorem dX12_putsStandsBack_8 : decode cX12_putsStandsBack 8 = .ok (.getfield 9, 3) := by decide +kernel
theorem dX12_putsStandsBack_11 : decode cX12_putsStandsBack 11 = .ok (.iconst 0, 1) := by decide +kernel
theorem dX12_putsStandsBack_12 : decode cX12_putsStandsBack 12 = .ok (.iload_n 1, 1) := by decide +kernel
theorem dX12_putsStandsBack_13 : decode cX12_putsStandsBack 13 = .ok (.iadd, 1) := by decide +kernel
theorem dX12_putsStandsBack_14 : decode cX12_putsStandsBack 14 = .ok (.aload_n 0, 1) := by decide +kernel
theorem dX12_putsStandsBack_15 : decode cX12_putsStandsBack 15 = .ok (.getfield 41, 3) := by decide +kernel
theorem dX12_putsStandsBack_18 : decode cX12_putsStandsBack 18 = .ok (.iload_n 1, 1) := by decide +kernel
theorem dX12_putsStandsBack_19 : decode cX12_putsStandsBack 19 = .ok (.iaload, 1) := by decide +kernel
theorem dX12_putsStandsBack_20 : decode cX12_putsStandsBack 20 = .ok (.iastore, 1) := by decide +kernel
theorem dX12_putsStandsBack_21 : decode cX12_putsStandsBack 21 = .ok (.iinc 1 1, 3) := by decide +kernel
theorem dX12_putsStandsBack_24 : decode cX12_putsStandsBack 24 = .ok (.goto (-22), 3) := by decide +kernel
theorem dX12_putsStandsBack_27 : decode cX12_putsStandsBack 27 = .ok (.return_, 1) := by decide +kernel
theorem dX12_least_0 : decode cX12_least 0 = .ok (.iload_n 1, 1) := by decide +kernel
theorem dX12_least_1 : decode cX12_least 1 = .ok (.iconst 1, 1) := by decide +kernel
theorem dX12_least_2 : decode cX12_least 2 = .ok (.bipush 8, 2) := by decide +kernel
theorem dX12_least_4 : decode cX12_least 4 = .ok (.invokestatic 51, 3) := by decide +kernel
theorem dX12_least_7 : decode cX12_least 7 = .ok (.ifCond .eq 13, 3) := by decide +kernel
theorem dX12_least_10 : decode cX12_least 10 = .ok (.iload_n 2, 1) := by decide +kernel
theorem dX12_least_11 : decode cX12_least 11 = .ok (.iconst 0, 1) := by decide +kernel
theorem dX12_least_12 : decode cX12_least 12 = .ok (.bipush 100, 2) := by decide +kernel
theorem dX12_least_14 : decode cX12_least 14 = .ok (.invokestatic 51, 3) := by decide +kernel
theorem dX12_least_17 : decode cX12_least 17 = .ok (.ifCond .ne 6, 3) := by decide +kernel
theorem dX12_least_20 : decode cX12_least 20 = .ok (.bipush (-2), 2) := by decide +kernel
theorem dX12_least_22 : decode cX12_least 22 = .ok (.ireturn, 1) := by decide +kernel
theorem dX12_least_23 : decode cX12_least 23 = .ok (.aload_n 0, 1) := by decide +kernel
theorem dX12_least_24 : decode cX12_least 24 = .ok (.invokevirtual 226, 3) := by decide +kernel
theorem dX12_least_27 : decode cX12_least 27 = .ok (.bipush (-5), 2) := by decide +kernel
theorem dX12_least_29 : decode cX12_least 29 = .ok (.istore_n 3, 1) := by decide +kernel
theorem dX12_least_30 : decode cX12_least 30 = .ok (.iconst 0, 1) := by decide +kernel
theorem dX12_least_31 : decode cX12_least 31 = .ok (.istore 4, 2) := by decide +kernel
theorem dX12_least_33 : decode cX12_least 33 = .ok (.iload 4, 2) := by decide +kernel
theorem dX12_least_35 : decode cX12_least 35 = .ok (.bipush 10, 2) := by decide +kernel
theorem dX12_least_37 : decode cX12_least 37 = .ok (.if_icmp .ge 80, 3) := by decide +kernel
theorem dX12_least_40 : decode cX12_least 40 = .ok (.iload_n 3, 1) := by decide +kernel
theorem dX12_least_41 : decode cX12_least 41 = .ok (.bipush (-5), 2) := by decide +kernel
theorem dX12_least_43 : decode cX12_least 43 = .ok (.if_icmp .ne 74, 3) := by decide +kernel
theorem dX12_least_46 : decode cX12_least 46 = .ok (.iconst 0, 1) := by decide +kernel
theorem dX12_least_47 : decode cX12_least 47 = .ok (.istore 5, 2) := by decide +kernel
theorem dX12_least_49 : decode cX12_least 49 = .ok (.iload 5, 2) := by decide +kernel
theorem dX12_least_51 : decode cX12_least 51 = .ok (.iconst 4, 1) := by decide +kernel
theorem dX12_least_52 : decode cX12_least 52 = .ok (.if_icmp .ge 20, 3) := by decide +kernel
theorem dX12_least_55 : decode cX12_least 55 = .ok (.aload_n 0, 1) := by decide +kernel
theorem dX12_least_56 : decode cX12_least 56 = .ok (.getfield 9, 3) := by decide +kernel
theorem dX12_least_59 : decode cX12_least 59 = .ok (.iconst 0, 1) := by decide +kernel
theorem dX12_least_60 : decode cX12_least 60 = .ok (.iload 5, 2) := by decide +kernel
theorem dX12_least_62 : decode cX12_least 62 = .ok (.iadd, 1) := by decide +kernel
theorem dX12_least_63 : decode cX12_least 63 = .ok (.iload 4, 2) := by decide +kernel
theorem dX12_least_65 : decode cX12_least 65 = .ok (.iastore, 1) := by decide +kernel
theorem dX12_least_66 : decode cX12_least 66 = .ok (.iinc 5 1, 3) := by decide +kernel
theorem dX12_least_69 : decode cX12_least 69 = .ok (.goto (-20), 3) := by decide +kernel
theorem dX12_least_72 : decode cX12_least 72 = .ok (.aload_n 0, 1) := by decide +kernel
theorem dX12_least_73 : decode cX12_least 73 = .ok (.iload_n 1, 1) := by decide +kernel
theorem dX12_least_74 : decode cX12_least 74 = .ok (.invokevirtual 215, 3) := by decide +kernel
theorem dX12_least_77 : decode cX12_least 77 = .ok (.lstore 5, 2) := by decide +kernel
theorem dX12_least_79 : decode cX12_least 79 = .ok (.iload_n 1, 1) := by decide +kernel
theorem dX12_least_80 : decode cX12_least 80 = .ok (.invokestatic 219, 3) := by decide +kernel
theorem dX12_least_83 : decode cX12_least 83 = .ok (.aload_n 0, 1) := by decide +kernel
theorem dX12_least_84 : decode cX12_least 84 = .ok (.getfield 200, 3) := by decide +kernel
theorem dX12_least_87 : decode cX12_least 87 = .ok (.lsub, 1) := by decide +kernel
theorem dX12_least_88 : decode cX12_least 88 = .ok (.ldc2_w 229, 3) := by decide +kernel
theorem dX12_least_91 : decode cX12_least 91 = .ok (.lmul, 1) := by decide +kernel
theorem dX12_least_92 : decode cX12_least 92 = .ok (.iload_n 2, 1) := by decide +kernel
theorem dX12_least_93 : decode cX12_least 93 = .ok (.i2l, 1) := by decide +kernel
theorem dX12_least_94 : decode cX12_least 94 = .ok (.iload_n 1, 1) := by decide +kernel
theorem dX12_least_95 : decode cX12_least 95 = .ok (.invokestatic 219, 3) := by decide +kernel
theorem dX12_least_98 : decode cX12_least 98 = .ok (.lmul, 1) := by decide +kernel
theorem dX12_least_99 : decode cX12_least 99 = .ok (.lcmp, 1) := by decide +kernel
theorem dX12_least_100 : decode cX12_least 100 = .ok (.ifCond .gt 8, 3) := by decide +kernel
theorem dX12_least_103 : decode cX12_least 103 = .ok (.iload 4, 2) := by decide +kernel
theorem dX12_least_105 : decode cX12_least 105 = .ok (.goto 5, 3) := by decide +kernel
theorem dX12_least_108 : decode cX12_least 108 = .ok (.bipush (-5), 2) := by decide +kernel
theorem dX12_least_110 : decode cX12_least 110 = .ok (.istore_n 3, 1) := by decide +kernel
theorem dX12_least_111 : decode cX12_least 111 = .ok (.iinc 4 1, 3) := by decide +kernel
theorem dX12_least_114 : decode cX12_least 114 = .ok (.goto (-81), 3) := by decide +kernel
theorem dX12_least_117 : decode cX12_least 117 = .ok (.aload_n 0, 1) := by decide +kernel
theorem dX12_least_118 : decode cX12_least 118 = .ok (.invokevirtual 231, 3) := by decide +kernel
theorem dX12_least_121 : decode cX12_least 121 = .ok (.iload_n 3, 1) := by decide +kernel
theorem dX12_least_122 : decode cX12_least 122 = .ok (.ireturn, 1) := by decide +kernel
theorem dX12_start_0 : decode cX12_start 0 = .ok (.iload_n 2, 1) := by decide +kernel
theorem dX12_start_1 : decode cX12_start 1 = .ok (.invokestatic 55, 3) := by decide +kernel
theorem dX12_start_4 : decode cX12_start 4 = .ok (.ifCond .ne 5, 3) := by decide +kernel
theorem dX12_start_7 : decode cX12_start 7 = .ok (.iconst (-1), 1) := by decide +kernel
theorem dX12_start_8 : decode cX12_start 8 = .ok (.ireturn, 1) := by decide +kernel
theorem dX12_start_9 : decode cX12_start 9 = .ok (.iload_n 1, 1) := by decide +kernel
theorem dX12_start_10 : decode cX12_start 10 = .ok (.iconst 1, 1) := by decide +kernel
theorem dX12_start_11 : decode cX12_start 11 = .ok (.iconst 5, 1) := by decide +kernel
theorem dX12_start_12 : decode cX12_start 12 = .ok (.invokestatic 51, 3) := by decide +kernel
theorem dX12_start_15 : decode cX12_start 15 = .ok (.ifCond .ne 6, 3) := by decide +kernel
theorem dX12_start_18 : decode cX12_start 18 = .ok (.bipush (-2), 2) := by decide +kernel
theorem dX12_start_20 : decode cX12_start 20 = .ok (.ireturn, 1) := by decide +kernel
theorem dX12_start_21 : decode cX12_start 21 = .ok (.aload_n 0, 1) := by decide +kernel
theorem dX12_start_22 : decode cX12_start 22 = .ok (.invokevirtual 234, 3) := by decide +kernel
theorem dX12_start_25 : decode cX12_start 25 = .ok (.istore_n 3, 1) := by decide +kernel
theorem dX12_start_26 : decode cX12_start 26 = .ok (.iload_n 3, 1) := by decide +kernel
theorem dX12_start_27 : decode cX12_start 27 = .ok (.bipush 6, 2) := by decide +kernel
theorem dX12_start_29 : decode cX12_start 29 = .ok (.if_icmp .le 6, 3) := by decide +kernel
theorem dX12_start_32 : decode cX12_start 32 = .ok (.bipush (-9), 2) := by decide +kernel
theorem dX12_start_34 : decode cX12_start 34 = .ok (.ireturn, 1) := by decide +kernel
theorem dX12_start_35 : decode cX12_start 35 = .ok (.aload_n 0, 1) := by decide +kernel
theorem dX12_start_36 : decode cX12_start 36 = .ok (.invokevirtual 226, 3) := by decide +kernel
theorem dX12_start_39 : decode cX12_start 39 = .ok (.bipush (-5), 2) := by decide +kernel
theorem dX12_start_41 : decode cX12_start 41 = .ok (.istore 4, 2) := by decide +kernel
theorem dX12_start_43 : decode cX12_start 43 = .ok (.lconst 0, 1) := by decide +kernel
theorem dX12_start_44 : decode cX12_start 44 = .ok (.lstore 5, 2) := by decide +kernel
theorem dX12_start_46 : decode cX12_start 46 = .ok (.iconst 0, 1) := by decide +kernel
theorem dX12_start_47 : decode cX12_start 47 = .ok (.istore 7, 2) := by decide +kernel
theorem dX12_start_49 : decode cX12_start 49 = .ok (.iload 7, 2) := by decide +kernel
theorem dX12_start_51 : decode cX12_start 51 = .ok (.sipush 2401, 3) := by decide +kernel
theorem dX12_start_54 : decode cX12_start 54 = .ok (.if_icmp .ge 125, 3) := by decide +kernel
theorem dX12_start_57 : decode cX12_start 57 = .ok (.aload_n 0, 1) := by decide +kernel
theorem dX12_start_58 : decode cX12_start 58 = .ok (.getfield 9, 3) := by decide +kernel
theorem dX12_start_61 : decode cX12_start 61 = .ok (.iconst 0, 1) := by decide +kernel
theorem dX12_start_62 : decode cX12_start 62 = .ok (.iload 7, 2) := by decide +kernel
theorem dX12_start_64 : decode cX12_start 64 = .ok (.sipush 343, 3) := by decide +kernel
theorem dX12_start_67 : decode cX12_start 67 = .ok (.idiv, 1) := by decide +kernel
theorem dX12_start_68 : decode cX12_start 68 = .ok (.iastore, 1) := by decide +kernel
theorem dX12_start_69 : decode cX12_start 69 = .ok (.aload_n 0, 1) := by decide +kernel
theorem dX12_start_70 : decode cX12_start 70 = .ok (.getfield 9, 3) := by decide +kernel
theorem dX12_start_73 : decode cX12_start 73 = .ok (.iconst 1, 1) := by decide +kernel
theorem dX12_start_74 : decode cX12_start 74 = .ok (.iload 7, 2) := by decide +kernel
theorem dX12_start_76 : decode cX12_start 76 = .ok (.bipush 49, 2) := by decide +kernel
theorem dX12_start_78 : decode cX12_start 78 = .ok (.idiv, 1) := by decide +kernel
theorem dX12_start_79 : decode cX12_start 79 = .ok (.bipush 7, 2) := by decide +kernel
theorem dX12_start_81 : decode cX12_start 81 = .ok (.irem, 1) := by decide +kernel
theorem dX12_start_82 : decode cX12_start 82 = .ok (.iastore, 1) := by decide +kernel
theorem dX12_start_83 : decode cX12_start 83 = .ok (.aload_n 0, 1) := by decide +kernel
theorem dX12_start_84 : decode cX12_start 84 = .ok (.getfield 9, 3) := by decide +kernel
theorem dX12_start_87 : decode cX12_start 87 = .ok (.iconst 2, 1) := by decide +kernel
theorem dX12_start_88 : decode cX12_start 88 = .ok (.iload 7, 2) := by decide +kernel
theorem dX12_start_90 : decode cX12_start 90 = .ok (.bipush 7, 2) := by decide +kernel
theorem dX12_start_92 : decode cX12_start 92 = .ok (.idiv, 1) := by decide +kernel
theorem dX12_start_93 : decode cX12_start 93 = .ok (.bipush 7, 2) := by decide +kernel
theorem dX12_start_95 : decode cX12_start 95 = .ok (.irem, 1) := by decide +kernel
theorem dX12_start_96 : decode cX12_start 96 = .ok (.iastore, 1) := by decide +kernel
theorem dX12_start_97 : decode cX12_start 97 = .ok (.aload_n 0, 1) := by decide +kernel
