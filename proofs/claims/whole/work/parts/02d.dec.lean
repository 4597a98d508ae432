theorem dX11_personAt_16 : decode cX11_personAt 16 = .ok (.getfield 12, 3) := by decide +kernel
theorem dX11_personAt_19 : decode cX11_personAt 19 = .ok (.getfield 109, 3) := by decide +kernel
theorem dX11_personAt_22 : decode cX11_personAt 22 = .ok (.iload_n 1, 1) := by decide +kernel
theorem dX11_personAt_23 : decode cX11_personAt 23 = .ok (.aaload, 1) := by decide +kernel
theorem dX11_personAt_24 : decode cX11_personAt 24 = .ok (.goto 4, 3) := by decide +kernel
theorem dX11_personAt_27 : decode cX11_personAt 27 = .ok (.aconst_null, 1) := by decide +kernel
theorem dX11_personAt_28 : decode cX11_personAt 28 = .ok (.areturn, 1) := by decide +kernel
theorem dX11_oneOf_0 : decode cX11_oneOf 0 = .ok (.iload_n 0, 1) := by decide +kernel
theorem dX11_oneOf_1 : decode cX11_oneOf 1 = .ok (.tableswitch 123 1 6 #[39, 53, 67, 81, 95, 109], 39) := by decide +kernel
theorem dX11_oneOf_40 : decode cX11_oneOf 40 = .ok (.new 245, 3) := by decide +kernel
theorem dX11_oneOf_43 : decode cX11_oneOf 43 = .ok (.dup, 1) := by decide +kernel
theorem dX11_oneOf_44 : decode cX11_oneOf 44 = .ok (.iload_n 0, 1) := by decide +kernel
theorem dX11_oneOf_45 : decode cX11_oneOf 45 = .ok (.iload_n 1, 1) := by decide +kernel
theorem dX11_oneOf_46 : decode cX11_oneOf 46 = .ok (.iload_n 2, 1) := by decide +kernel
theorem dX11_oneOf_47 : decode cX11_oneOf 47 = .ok (.iload_n 3, 1) := by decide +kernel
theorem dX11_oneOf_48 : decode cX11_oneOf 48 = .ok (.iload 4, 2) := by decide +kernel
theorem dX11_oneOf_50 : decode cX11_oneOf 50 = .ok (.invokespecial 247, 3) := by decide +kernel
theorem dX11_oneOf_53 : decode cX11_oneOf 53 = .ok (.areturn, 1) := by decide +kernel
theorem dX11_oneOf_54 : decode cX11_oneOf 54 = .ok (.new 250, 3) := by decide +kernel
theorem dX11_oneOf_57 : decode cX11_oneOf 57 = .ok (.dup, 1) := by decide +kernel
theorem dX11_oneOf_58 : decode cX11_oneOf 58 = .ok (.iload_n 0, 1) := by decide +kernel
theorem dX11_oneOf_59 : decode cX11_oneOf 59 = .ok (.iload_n 1, 1) := by decide +kernel
theorem dX11_oneOf_60 : decode cX11_oneOf 60 = .ok (.iload_n 2, 1) := by decide +kernel
theorem dX11_oneOf_61 : decode cX11_oneOf 61 = .ok (.iload_n 3, 1) := by decide +kernel
theorem dX11_oneOf_62 : decode cX11_oneOf 62 = .ok (.iload 4, 2) := by decide +kernel
theorem dX11_oneOf_64 : decode cX11_oneOf 64 = .ok (.invokespecial 252, 3) := by decide +kernel
theorem dX11_oneOf_67 : decode cX11_oneOf 67 = .ok (.areturn, 1) := by decide +kernel
theorem dX11_oneOf_68 : decode cX11_oneOf 68 = .ok (.new 253, 3) := by decide +kernel
theorem dX11_oneOf_71 : decode cX11_oneOf 71 = .ok (.dup, 1) := by decide +kernel
theorem dX11_oneOf_72 : decode cX11_oneOf 72 = .ok (.iload_n 0, 1) := by decide +kernel
theorem dX11_oneOf_73 : decode cX11_oneOf 73 = .ok (.iload_n 1, 1) := by decide +kernel
theorem dX11_oneOf_74 : decode cX11_oneOf 74 = .ok (.iload_n 2, 1) := by decide +kernel
theorem dX11_oneOf_75 : decode cX11_oneOf 75 = .ok (.iload_n 3, 1) := by decide +kernel
theorem dX11_oneOf_76 : decode cX11_oneOf 76 = .ok (.iload 4, 2) := by decide +kernel
theorem dX11_oneOf_78 : decode cX11_oneOf 78 = .ok (.invokespecial 255, 3) := by decide +kernel
theorem dX11_oneOf_81 : decode cX11_oneOf 81 = .ok (.areturn, 1) := by decide +kernel
theorem dX11_oneOf_82 : decode cX11_oneOf 82 = .ok (.new 256, 3) := by decide +kernel
theorem dX11_oneOf_85 : decode cX11_oneOf 85 = .ok (.dup, 1) := by decide +kernel
theorem dX11_oneOf_86 : decode cX11_oneOf 86 = .ok (.iload_n 0, 1) := by decide +kernel
theorem dX11_oneOf_87 : decode cX11_oneOf 87 = .ok (.iload_n 1, 1) := by decide +kernel
theorem dX11_oneOf_88 : decode cX11_oneOf 88 = .ok (.iload_n 2, 1) := by decide +kernel
theorem dX11_oneOf_89 : decode cX11_oneOf 89 = .ok (.iload_n 3, 1) := by decide +kernel
theorem dX11_oneOf_90 : decode cX11_oneOf 90 = .ok (.iload 4, 2) := by decide +kernel
theorem dX11_oneOf_92 : decode cX11_oneOf 92 = .ok (.invokespecial 258, 3) := by decide +kernel
theorem dX11_oneOf_95 : decode cX11_oneOf 95 = .ok (.areturn, 1) := by decide +kernel
theorem dX11_oneOf_96 : decode cX11_oneOf 96 = .ok (.new 259, 3) := by decide +kernel
theorem dX11_oneOf_99 : decode cX11_oneOf 99 = .ok (.dup, 1) := by decide +kernel
theorem dX11_oneOf_100 : decode cX11_oneOf 100 = .ok (.iload_n 0, 1) := by decide +kernel
theorem dX11_oneOf_101 : decode cX11_oneOf 101 = .ok (.iload_n 1, 1) := by decide +kernel
theorem dX11_oneOf_102 : decode cX11_oneOf 102 = .ok (.iload_n 2, 1) := by decide +kernel
theorem dX11_oneOf_103 : decode cX11_oneOf 103 = .ok (.iload_n 3, 1) := by decide +kernel
theorem dX11_oneOf_104 : decode cX11_oneOf 104 = .ok (.iload 4, 2) := by decide +kernel
theorem dX11_oneOf_106 : decode cX11_oneOf 106 = .ok (.invokespecial 261, 3) := by decide +kernel
theorem dX11_oneOf_109 : decode cX11_oneOf 109 = .ok (.areturn, 1) := by decide +kernel
theorem dX11_oneOf_110 : decode cX11_oneOf 110 = .ok (.new 262, 3) := by decide +kernel
theorem dX11_oneOf_113 : decode cX11_oneOf 113 = .ok (.dup, 1) := by decide +kernel
theorem dX11_oneOf_114 : decode cX11_oneOf 114 = .ok (.iload_n 0, 1) := by decide +kernel
theorem dX11_oneOf_115 : decode cX11_oneOf 115 = .ok (.iload_n 1, 1) := by decide +kernel
theorem dX11_oneOf_116 : decode cX11_oneOf 116 = .ok (.iload_n 2, 1) := by decide +kernel
theorem dX11_oneOf_117 : decode cX11_oneOf 117 = .ok (.iload_n 3, 1) := by decide +kernel
theorem dX11_oneOf_118 : decode cX11_oneOf 118 = .ok (.iload 4, 2) := by decide +kernel
theorem dX11_oneOf_120 : decode cX11_oneOf 120 = .ok (.invokespecial 264, 3) := by decide +kernel
theorem dX11_oneOf_123 : decode cX11_oneOf 123 = .ok (.areturn, 1) := by decide +kernel
theorem dX11_oneOf_124 : decode cX11_oneOf 124 = .ok (.new 128, 3) := by decide +kernel
theorem dX11_oneOf_127 : decode cX11_oneOf 127 = .ok (.dup, 1) := by decide +kernel
theorem dX11_oneOf_128 : decode cX11_oneOf 128 = .ok (.iload_n 0, 1) := by decide +kernel
theorem dX11_oneOf_129 : decode cX11_oneOf 129 = .ok (.iload_n 1, 1) := by decide +kernel
theorem dX11_oneOf_130 : decode cX11_oneOf 130 = .ok (.iload_n 2, 1) := by decide +kernel
theorem dX11_oneOf_131 : decode cX11_oneOf 131 = .ok (.iload_n 3, 1) := by decide +kernel
theorem dX11_oneOf_132 : decode cX11_oneOf 132 = .ok (.iload 4, 2) := by decide +kernel
theorem dX11_oneOf_134 : decode cX11_oneOf 134 = .ok (.invokespecial 265, 3) := by decide +kernel
theorem dX11_oneOf_137 : decode cX11_oneOf 137 = .ok (.areturn, 1) := by decide +kernel
theorem dX11_isOfKind_0 : decode cX11_isOfKind 0 = .ok (.iload_n 1, 1) := by decide +kernel
theorem dX11_isOfKind_1 : decode cX11_isOfKind 1 = .ok (.tableswitch 75 0 6 #[43, 45, 50, 55, 60, 65, 70], 43) := by decide +kernel
theorem dX11_isOfKind_44 : decode cX11_isOfKind 44 = .ok (.iconst 1, 1) := by decide +kernel
theorem dX11_isOfKind_45 : decode cX11_isOfKind 45 = .ok (.ireturn, 1) := by decide +kernel
theorem dX11_isOfKind_46 : decode cX11_isOfKind 46 = .ok (.aload_n 0, 1) := by decide +kernel
theorem dX11_isOfKind_47 : decode cX11_isOfKind 47 = .ok (.instanceof 245, 3) := by decide +kernel
theorem dX11_isOfKind_50 : decode cX11_isOfKind 50 = .ok (.ireturn, 1) := by decide +kernel
theorem dX11_isOfKind_51 : decode cX11_isOfKind 51 = .ok (.aload_n 0, 1) := by decide +kernel
theorem dX11_isOfKind_52 : decode cX11_isOfKind 52 = .ok (.instanceof 250, 3) := by decide +kernel
theorem dX11_isOfKind_55 : decode cX11_isOfKind 55 = .ok (.ireturn, 1) := by decide +kernel
theorem dX11_isOfKind_56 : decode cX11_isOfKind 56 = .ok (.aload_n 0, 1) := by decide +kernel
theorem dX11_isOfKind_57 : decode cX11_isOfKind 57 = .ok (.instanceof 253, 3) := by decide +kernel
theorem dX11_isOfKind_60 : decode cX11_isOfKind 60 = .ok (.ireturn, 1) := by decide +kernel
theorem dX11_isOfKind_61 : decode cX11_isOfKind 61 = .ok (.aload_n 0, 1) := by decide +kernel
theorem dX11_isOfKind_62 : decode cX11_isOfKind 62 = .ok (.instanceof 256, 3) := by decide +kernel
theorem dX11_isOfKind_65 : decode cX11_isOfKind 65 = .ok (.ireturn, 1) := by decide +kernel
theorem dX11_isOfKind_66 : decode cX11_isOfKind 66 = .ok (.aload_n 0, 1) := by decide +kernel
theorem dX11_isOfKind_67 : decode cX11_isOfKind 67 = .ok (.instanceof 259, 3) := by decide +kernel
theorem dX11_isOfKind_70 : decode cX11_isOfKind 70 = .ok (.ireturn, 1) := by decide +kernel
theorem dX11_isOfKind_71 : decode cX11_isOfKind 71 = .ok (.aload_n 0, 1) := by decide +kernel
theorem dX11_isOfKind_72 : decode cX11_isOfKind 72 = .ok (.instanceof 262, 3) := by decide +kernel
theorem dX11_isOfKind_75 : decode cX11_isOfKind 75 = .ok (.ireturn, 1) := by decide +kernel
theorem dX11_isOfKind_76 : decode cX11_isOfKind 76 = .ok (.iconst 0, 1) := by decide +kernel
theorem dX11_isOfKind_77 : decode cX11_isOfKind 77 = .ok (.ireturn, 1) := by decide +kernel
theorem dX11_beginThought_0 : decode cX11_beginThought 0 = .ok (.aload_n 0, 1) := by decide +kernel
theorem dX11_beginThought_1 : decode cX11_beginThought 1 = .ok (.lconst 0, 1) := by decide +kernel
theorem dX11_beginThought_2 : decode cX11_beginThought 2 = .ok (.putfield 42, 3) := by decide +kernel
theorem dX11_beginThought_5 : decode cX11_beginThought 5 = .ok (.aload_n 0, 1) := by decide +kernel
theorem dX11_beginThought_6 : decode cX11_beginThought 6 = .ok (.lconst 0, 1) := by decide +kernel
theorem dX11_beginThought_7 : decode cX11_beginThought 7 = .ok (.putfield 46, 3) := by decide +kernel
theorem dX11_beginThought_10 : decode cX11_beginThought 10 = .ok (.iconst 0, 1) := by decide +kernel
theorem dX11_beginThought_11 : decode cX11_beginThought 11 = .ok (.istore_n 1, 1) := by decide +kernel
theorem dX11_beginThought_12 : decode cX11_beginThought 12 = .ok (.iload_n 1, 1) := by decide +kernel
theorem dX11_beginThought_13 : decode cX11_beginThought 13 = .ok (.iconst 4, 1) := by decide +kernel
theorem dX11_beginThought_14 : decode cX11_beginThought 14 = .ok (.if_icmp .ge 16, 3) := by decide +kernel
theorem dX11_beginThought_17 : decode cX11_beginThought 17 = .ok (.aload_n 0, 1) := by decide +kernel
theorem dX11_beginThought_18 : decode cX11_beginThought 18 = .ok (.getfield 38, 3) := by decide +kernel
theorem dX11_beginThought_21 : decode cX11_beginThought 21 = .ok (.iload_n 1, 1) := by decide +kernel
theorem dX11_beginThought_22 : decode cX11_beginThought 22 = .ok (.lconst 0, 1) := by decide +kernel
theorem dX11_beginThought_23 : decode cX11_beginThought 23 = .ok (.lastore, 1) := by decide +kernel
theorem dX11_beginThought_24 : decode cX11_beginThought 24 = .ok (.iinc 1 1, 3) := by decide +kernel
theorem dX11_beginThought_27 : decode cX11_beginThought 27 = .ok (.goto (-15), 3) := by decide +kernel
theorem dX11_beginThought_30 : decode cX11_beginThought 30 = .ok (.aload_n 0, 1) := by decide +kernel
theorem dX11_beginThought_31 : decode cX11_beginThought 31 = .ok (.getfield 34, 3) := by decide +kernel
theorem dX11_beginThought_34 : decode cX11_beginThought 34 = .ok (.iconst 0, 1) := by decide +kernel
theorem dX11_beginThought_35 : decode cX11_beginThought 35 = .ok (.aaload, 1) := by decide +kernel
theorem dX11_beginThought_36 : decode cX11_beginThought 36 = .ok (.astore_n 1, 1) := by decide +kernel
theorem dX11_beginThought_37 : decode cX11_beginThought 37 = .ok (.aload_n 1, 1) := by decide +kernel
theorem dX11_beginThought_38 : decode cX11_beginThought 38 = .ok (.aload_n 0, 1) := by decide +kernel
theorem dX11_beginThought_39 : decode cX11_beginThought 39 = .ok (.getfield 12, 3) := by decide +kernel
theorem dX11_beginThought_42 : decode cX11_beginThought 42 = .ok (.getfield 58, 3) := by decide +kernel
theorem dX11_beginThought_45 : decode cX11_beginThought 45 = .ok (.invokevirtual 266, 3) := by decide +kernel
theorem dX11_beginThought_48 : decode cX11_beginThought 48 = .ok (.aload_n 1, 1) := by decide +kernel
theorem dX11_beginThought_49 : decode cX11_beginThought 49 = .ok (.invokevirtual 145, 3) := by decide +kernel
theorem dX11_beginThought_52 : decode cX11_beginThought 52 = .ok (.aload_n 1, 1) := by decide +kernel
theorem dX11_beginThought_53 : decode cX11_beginThought 53 = .ok (.areturn, 1) := by decide +kernel
theorem dX11_weigh_0 : decode cX11_weigh 0 = .ok (.aload_n 0, 1) := by decide +kernel
theorem dX11_weigh_1 : decode cX11_weigh 1 = .ok (.getfield 34, 3) := by decide +kernel
theorem dX11_weigh_4 : decode cX11_weigh 4 = .ok (.iload_n 1, 1) := by decide +kernel
theorem dX11_weigh_5 : decode cX11_weigh 5 = .ok (.aaload, 1) := by decide +kernel
theorem dX11_weigh_6 : decode cX11_weigh 6 = .ok (.astore 5, 2) := by decide +kernel
theorem dX11_weigh_8 : decode cX11_weigh 8 = .ok (.iload_n 2, 1) := by decide +kernel
theorem dX11_weigh_9 : decode cX11_weigh 9 = .ok (.ifCond .le 14, 3) := by decide +kernel
theorem dX11_weigh_12 : decode cX11_weigh 12 = .ok (.iload_n 1, 1) := by decide +kernel
theorem dX11_weigh_13 : decode cX11_weigh 13 = .ok (.iconst 1, 1) := by decide +kernel
theorem dX11_weigh_14 : decode cX11_weigh 14 = .ok (.iadd, 1) := by decide +kernel
theorem dX11_weigh_15 : decode cX11_weigh 15 = .ok (.aload_n 0, 1) := by decide +kernel
theorem dX11_weigh_16 : decode cX11_weigh 16 = .ok (.getfield 34, 3) := by decide +kernel
theorem dX11_weigh_19 : decode cX11_weigh 19 = .ok (.arraylength, 1) := by decide +kernel
theorem dX11_weigh_20 : decode cX11_weigh 20 = .ok (.if_icmp .lt 11, 3) := by decide +kernel
theorem dX11_weigh_23 : decode cX11_weigh 23 = .ok (.aload_n 0, 1) := by decide +kernel
theorem dX11_weigh_24 : decode cX11_weigh 24 = .ok (.aload 5, 2) := by decide +kernel
theorem dX11_weigh_26 : decode cX11_weigh 26 = .ok (.lload_n 3, 1) := by decide +kernel
theorem dX11_weigh_27 : decode cX11_weigh 27 = .ok (.invokevirtual 269, 3) := by decide +kernel
theorem dX11_weigh_30 : decode cX11_weigh 30 = .ok (.return_, 1) := by decide +kernel
theorem dX11_weigh_31 : decode cX11_weigh 31 = .ok (.aload_n 0, 1) := by decide +kernel
theorem dX11_weigh_32 : decode cX11_weigh 32 = .ok (.getfield 34, 3) := by decide +kernel
theorem dX11_weigh_35 : decode cX11_weigh 35 = .ok (.iload_n 1, 1) := by decide +kernel
theorem dX11_weigh_36 : decode cX11_weigh 36 = .ok (.iconst 1, 1) := by decide +kernel
theorem dX11_weigh_37 : decode cX11_weigh 37 = .ok (.iadd, 1) := by decide +kernel
theorem dX11_weigh_38 : decode cX11_weigh 38 = .ok (.aaload, 1) := by decide +kernel
theorem dX11_weigh_39 : decode cX11_weigh 39 = .ok (.astore 6, 2) := by decide +kernel
theorem dX11_weigh_41 : decode cX11_weigh 41 = .ok (.aload_n 0, 1) := by decide +kernel
theorem dX11_weigh_42 : decode cX11_weigh 42 = .ok (.getfield 12, 3) := by decide +kernel
theorem dX11_weigh_45 : decode cX11_weigh 45 = .ok (.getfield 83, 3) := by decide +kernel
theorem dX11_weigh_48 : decode cX11_weigh 48 = .ok (.aload 5, 2) := by decide +kernel
theorem dX11_weigh_50 : decode cX11_weigh 50 = .ok (.getfield 87, 3) := by decide +kernel
theorem dX11_weigh_53 : decode cX11_weigh 53 = .ok (.aload 5, 2) := by decide +kernel
theorem dX11_weigh_55 : decode cX11_weigh 55 = .ok (.getfield 90, 3) := by decide +kernel
theorem dX11_weigh_58 : decode cX11_weigh 58 = .ok (.invokevirtual 93, 3) := by decide +kernel
theorem dX11_weigh_61 : decode cX11_weigh 61 = .ok (.istore 7, 2) := by decide +kernel
theorem dX11_weigh_63 : decode cX11_weigh 63 = .ok (.iconst 0, 1) := by decide +kernel
theorem dX11_weigh_64 : decode cX11_weigh 64 = .ok (.istore 8, 2) := by decide +kernel
theorem dX11_weigh_66 : decode cX11_weigh 66 = .ok (.iload 8, 2) := by decide +kernel
theorem dX11_weigh_68 : decode cX11_weigh 68 = .ok (.iconst 1, 1) := by decide +kernel
theorem dX11_weigh_69 : decode cX11_weigh 69 = .ok (.if_icmp .gt 65, 3) := by decide +kernel
theorem dX11_weigh_72 : decode cX11_weigh 72 = .ok (.iload 8, 2) := by decide +kernel
theorem dX11_weigh_74 : decode cX11_weigh 74 = .ok (.iconst 1, 1) := by decide +kernel
theorem dX11_weigh_75 : decode cX11_weigh 75 = .ok (.if_icmp .ne 8, 3) := by decide +kernel
theorem dX11_weigh_78 : decode cX11_weigh 78 = .ok (.iload 7, 2) := by decide +kernel
theorem dX11_weigh_80 : decode cX11_weigh 80 = .ok (.goto 8, 3) := by decide +kernel
theorem dX11_weigh_83 : decode cX11_weigh 83 = .ok (.bipush 10, 2) := by decide +kernel
theorem dX11_weigh_85 : decode cX11_weigh 85 = .ok (.iload 7, 2) := by decide +kernel
theorem dX11_weigh_87 : decode cX11_weigh 87 = .ok (.isub, 1) := by decide +kernel
theorem dX11_weigh_88 : decode cX11_weigh 88 = .ok (.istore 9, 2) := by decide +kernel
theorem dX11_weigh_90 : decode cX11_weigh 90 = .ok (.iload 9, 2) := by decide +kernel
theorem dX11_weigh_92 : decode cX11_weigh 92 = .ok (.ifCond .le 36, 3) := by decide +kernel
theorem dX11_weigh_95 : decode cX11_weigh 95 = .ok (.aload 6, 2) := by decide +kernel
theorem dX11_weigh_97 : decode cX11_weigh 97 = .ok (.aload 5, 2) := by decide +kernel
theorem dX11_weigh_99 : decode cX11_weigh 99 = .ok (.invokevirtual 266, 3) := by decide +kernel
theorem dX11_weigh_102 : decode cX11_weigh 102 = .ok (.aload 6, 2) := by decide +kernel
theorem dX11_weigh_104 : decode cX11_weigh 104 = .ok (.aload_n 0, 1) := by decide +kernel
theorem dX11_weigh_105 : decode cX11_weigh 105 = .ok (.getfield 12, 3) := by decide +kernel
theorem dX11_weigh_108 : decode cX11_weigh 108 = .ok (.iload 8, 2) := by decide +kernel
theorem dX11_weigh_110 : decode cX11_weigh 110 = .ok (.invokevirtual 148, 3) := by decide +kernel
theorem dX11_weigh_113 : decode cX11_weigh 113 = .ok (.aload_n 0, 1) := by decide +kernel
theorem dX11_weigh_114 : decode cX11_weigh 114 = .ok (.iload_n 1, 1) := by decide +kernel
theorem dX11_weigh_115 : decode cX11_weigh 115 = .ok (.iconst 1, 1) := by decide +kernel
theorem dX11_weigh_116 : decode cX11_weigh 116 = .ok (.iadd, 1) := by decide +kernel
theorem dX11_weigh_117 : decode cX11_weigh 117 = .ok (.iload_n 2, 1) := by decide +kernel
theorem dX11_weigh_118 : decode cX11_weigh 118 = .ok (.iconst 1, 1) := by decide +kernel
theorem dX11_weigh_119 : decode cX11_weigh 119 = .ok (.isub, 1) := by decide +kernel
theorem dX11_weigh_120 : decode cX11_weigh 120 = .ok (.lload_n 3, 1) := by decide +kernel
theorem dX11_weigh_121 : decode cX11_weigh 121 = .ok (.iload 9, 2) := by decide +kernel
theorem dX11_weigh_123 : decode cX11_weigh 123 = .ok (.i2l, 1) := by decide +kernel
theorem dX11_weigh_124 : decode cX11_weigh 124 = .ok (.lmul, 1) := by decide +kernel
theorem dX11_weigh_125 : decode cX11_weigh 125 = .ok (.invokevirtual 173, 3) := by decide +kernel
theorem dX11_weigh_128 : decode cX11_weigh 128 = .ok (.iinc 8 1, 3) := by decide +kernel
theorem dX11_weigh_131 : decode cX11_weigh 131 = .ok (.goto (-65), 3) := by decide +kernel
theorem dX11_weigh_134 : decode cX11_weigh 134 = .ok (.return_, 1) := by decide +kernel
theorem dX11_addWeighed_0 : decode cX11_addWeighed 0 = .ok (.aload_n 0, 1) := by decide +kernel
theorem dX11_addWeighed_1 : decode cX11_addWeighed 1 = .ok (.dup, 1) := by decide +kernel
theorem dX11_addWeighed_2 : decode cX11_addWeighed 2 = .ok (.getfield 42, 3) := by decide +kernel
theorem dX11_addWeighed_5 : decode cX11_addWeighed 5 = .ok (.lload_n 2, 1) := by decide +kernel
theorem dX11_addWeighed_6 : decode cX11_addWeighed 6 = .ok (.aload_n 1, 1) := by decide +kernel
theorem dX11_addWeighed_7 : decode cX11_addWeighed 7 = .ok (.getfield 152, 3) := by decide +kernel
theorem dX11_addWeighed_10 : decode cX11_addWeighed 10 = .ok (.i2l, 1) := by decide +kernel
theorem dX11_addWeighed_11 : decode cX11_addWeighed 11 = .ok (.lmul, 1) := by decide +kernel
theorem dX11_addWeighed_12 : decode cX11_addWeighed 12 = .ok (.ladd, 1) := by decide +kernel
theorem dX11_addWeighed_13 : decode cX11_addWeighed 13 = .ok (.putfield 42, 3) := by decide +kernel
theorem dX11_addWeighed_16 : decode cX11_addWeighed 16 = .ok (.aload_n 1, 1) := by decide +kernel
theorem dX11_addWeighed_17 : decode cX11_addWeighed 17 = .ok (.getfield 165, 3) := by decide +kernel
theorem dX11_addWeighed_20 : decode cX11_addWeighed 20 = .ok (.ifCond .ne 13, 3) := by decide +kernel
theorem dX11_addWeighed_23 : decode cX11_addWeighed 23 = .ok (.aload_n 0, 1) := by decide +kernel
theorem dX11_addWeighed_24 : decode cX11_addWeighed 24 = .ok (.dup, 1) := by decide +kernel
theorem dX11_addWeighed_25 : decode cX11_addWeighed 25 = .ok (.getfield 46, 3) := by decide +kernel
theorem dX11_addWeighed_28 : decode cX11_addWeighed 28 = .ok (.lload_n 2, 1) := by decide +kernel
theorem dX11_addWeighed_29 : decode cX11_addWeighed 29 = .ok (.ladd, 1) := by decide +kernel
theorem dX11_addWeighed_30 : decode cX11_addWeighed 30 = .ok (.putfield 46, 3) := by decide +kernel
theorem dX11_addWeighed_33 : decode cX11_addWeighed 33 = .ok (.iconst 0, 1) := by decide +kernel
theorem dX11_addWeighed_34 : decode cX11_addWeighed 34 = .ok (.istore 4, 2) := by decide +kernel
theorem dX11_addWeighed_36 : decode cX11_addWeighed 36 = .ok (.iload 4, 2) := by decide +kernel
theorem dX11_addWeighed_38 : decode cX11_addWeighed 38 = .ok (.iconst 4, 1) := by decide +kernel
theorem dX11_addWeighed_39 : decode cX11_addWeighed 39 = .ok (.if_icmp .ge 29, 3) := by decide +kernel
theorem dX11_addWeighed_42 : decode cX11_addWeighed 42 = .ok (.aload_n 0, 1) := by decide +kernel
theorem dX11_addWeighed_43 : decode cX11_addWeighed 43 = .ok (.getfield 38, 3) := by decide +kernel
theorem dX11_addWeighed_46 : decode cX11_addWeighed 46 = .ok (.iload 4, 2) := by decide +kernel
theorem dX11_addWeighed_48 : decode cX11_addWeighed 48 = .ok (.dup2, 1) := by decide +kernel
theorem dX11_addWeighed_49 : decode cX11_addWeighed 49 = .ok (.laload, 1) := by decide +kernel
theorem dX11_addWeighed_50 : decode cX11_addWeighed 50 = .ok (.lload_n 2, 1) := by decide +kernel
theorem dX11_addWeighed_51 : decode cX11_addWeighed 51 = .ok (.aload_n 1, 1) := by decide +kernel
theorem dX11_addWeighed_52 : decode cX11_addWeighed 52 = .ok (.getfield 62, 3) := by decide +kernel
theorem dX11_addWeighed_55 : decode cX11_addWeighed 55 = .ok (.iload 4, 2) := by decide +kernel
theorem dX11_addWeighed_57 : decode cX11_addWeighed 57 = .ok (.iaload, 1) := by decide +kernel
theorem dX11_addWeighed_58 : decode cX11_addWeighed 58 = .ok (.i2l, 1) := by decide +kernel
theorem dX11_addWeighed_59 : decode cX11_addWeighed 59 = .ok (.lmul, 1) := by decide +kernel
theorem dX11_addWeighed_60 : decode cX11_addWeighed 60 = .ok (.ladd, 1) := by decide +kernel
theorem dX11_addWeighed_61 : decode cX11_addWeighed 61 = .ok (.lastore, 1) := by decide +kernel
theorem dX11_addWeighed_62 : decode cX11_addWeighed 62 = .ok (.iinc 4 1, 3) := by decide +kernel
theorem dX11_addWeighed_65 : decode cX11_addWeighed 65 = .ok (.goto (-29), 3) := by decide +kernel
theorem dX11_addWeighed_68 : decode cX11_addWeighed 68 = .ok (.return_, 1) := by decide +kernel
theorem dX11_bestStart_0 : decode cX11_bestStart 0 = .ok (.bipush (-5), 2) := by decide +kernel
theorem dX11_bestStart_2 : decode cX11_bestStart 2 = .ok (.istore_n 3, 1) := by decide +kernel
theorem dX11_bestStart_3 : decode cX11_bestStart 3 = .ok (.lconst 0, 1) := by decide +kernel
theorem dX11_bestStart_4 : decode cX11_bestStart 4 = .ok (.lstore 4, 2) := by decide +kernel
theorem dX11_bestStart_6 : decode cX11_bestStart 6 = .ok (.iconst 0, 1) := by decide +kernel
theorem dX11_bestStart_7 : decode cX11_bestStart 7 = .ok (.istore 6, 2) := by decide +kernel
theorem dX11_bestStart_9 : decode cX11_bestStart 9 = .ok (.iload 6, 2) := by decide +kernel
theorem dX11_bestStart_11 : decode cX11_bestStart 11 = .ok (.iload_n 2, 1) := by decide +kernel
theorem dX11_bestStart_12 : decode cX11_bestStart 12 = .ok (.if_icmp .gt 126, 3) := by decide +kernel
theorem dX11_bestStart_15 : decode cX11_bestStart 15 = .ok (.iconst 0, 1) := by decide +kernel
theorem dX11_bestStart_16 : decode cX11_bestStart 16 = .ok (.istore 7, 2) := by decide +kernel
theorem dX11_bestStart_18 : decode cX11_bestStart 18 = .ok (.iload 7, 2) := by decide +kernel
theorem dX11_bestStart_20 : decode cX11_bestStart 20 = .ok (.iload_n 2, 1) := by decide +kernel
theorem dX11_bestStart_21 : decode cX11_bestStart 21 = .ok (.iload 6, 2) := by decide +kernel
theorem dX11_bestStart_23 : decode cX11_bestStart 23 = .ok (.isub, 1) := by decide +kernel
theorem dX11_bestStart_24 : decode cX11_bestStart 24 = .ok (.if_icmp .gt 108, 3) := by decide +kernel
theorem dX11_bestStart_27 : decode cX11_bestStart 27 = .ok (.iconst 0, 1) := by decide +kernel
theorem dX11_bestStart_28 : decode cX11_bestStart 28 = .ok (.istore 8, 2) := by decide +kernel
theorem dX11_bestStart_30 : decode cX11_bestStart 30 = .ok (.iload 8, 2) := by decide +kernel
theorem dX11_bestStart_32 : decode cX11_bestStart 32 = .ok (.iload_n 2, 1) := by decide +kernel
theorem dX11_bestStart_33 : decode cX11_bestStart 33 = .ok (.iload 6, 2) := by decide +kernel
theorem dX11_bestStart_35 : decode cX11_bestStart 35 = .ok (.isub, 1) := by decide +kernel
theorem dX11_bestStart_36 : decode cX11_bestStart 36 = .ok (.iload 7, 2) := by decide +kernel
theorem dX11_bestStart_38 : decode cX11_bestStart 38 = .ok (.isub, 1) := by decide +kernel
theorem dX11_bestStart_39 : decode cX11_bestStart 39 = .ok (.if_icmp .gt 87, 3) := by decide +kernel
theorem dX11_bestStart_42 : decode cX11_bestStart 42 = .ok (.iload_n 2, 1) := by decide +kernel
theorem dX11_bestStart_43 : decode cX11_bestStart 43 = .ok (.iload 6, 2) := by decide +kernel
theorem dX11_bestStart_45 : decode cX11_bestStart 45 = .ok (.isub, 1) := by decide +kernel
theorem dX11_bestStart_46 : decode cX11_bestStart 46 = .ok (.iload 7, 2) := by decide +kernel
theorem dX11_bestStart_48 : decode cX11_bestStart 48 = .ok (.isub, 1) := by decide +kernel
theorem dX11_bestStart_49 : decode cX11_bestStart 49 = .ok (.iload 8, 2) := by decide +kernel
theorem dX11_bestStart_51 : decode cX11_bestStart 51 = .ok (.isub, 1) := by decide +kernel
theorem dX11_bestStart_52 : decode cX11_bestStart 52 = .ok (.istore 9, 2) := by decide +kernel
theorem dX11_bestStart_54 : decode cX11_bestStart 54 = .ok (.aload_n 0, 1) := by decide +kernel
theorem dX11_bestStart_55 : decode cX11_bestStart 55 = .ok (.invokevirtual 161, 3) := by decide +kernel
theorem dX11_bestStart_58 : decode cX11_bestStart 58 = .ok (.iload 6, 2) := by decide +kernel
theorem dX11_bestStart_60 : decode cX11_bestStart 60 = .ok (.iload 7, 2) := by decide +kernel
theorem dX11_bestStart_62 : decode cX11_bestStart 62 = .ok (.iload 8, 2) := by decide +kernel
theorem dX11_bestStart_64 : decode cX11_bestStart 64 = .ok (.iload 9, 2) := by decide +kernel
theorem dX11_bestStart_66 : decode cX11_bestStart 66 = .ok (.invokevirtual 185, 3) := by decide +kernel
theorem dX11_bestStart_69 : decode cX11_bestStart 69 = .ok (.aload_n 0, 1) := by decide +kernel
theorem dX11_bestStart_70 : decode cX11_bestStart 70 = .ok (.iconst 0, 1) := by decide +kernel
theorem dX11_bestStart_71 : decode cX11_bestStart 71 = .ok (.iload_n 1, 1) := by decide +kernel
theorem dX11_bestStart_72 : decode cX11_bestStart 72 = .ok (.lconst 1, 1) := by decide +kernel
theorem dX11_bestStart_73 : decode cX11_bestStart 73 = .ok (.invokevirtual 173, 3) := by decide +kernel
theorem dX11_bestStart_76 : decode cX11_bestStart 76 = .ok (.iload_n 3, 1) := by decide +kernel
theorem dX11_bestStart_77 : decode cX11_bestStart 77 = .ok (.bipush (-5), 2) := by decide +kernel
theorem dX11_bestStart_79 : decode cX11_bestStart 79 = .ok (.if_icmp .eq 13, 3) := by decide +kernel
theorem dX11_bestStart_82 : decode cX11_bestStart 82 = .ok (.aload_n 0, 1) := by decide +kernel
theorem dX11_bestStart_83 : decode cX11_bestStart 83 = .ok (.getfield 42, 3) := by decide +kernel
theorem dX11_bestStart_86 : decode cX11_bestStart 86 = .ok (.lload 4, 2) := by decide +kernel
theorem dX11_bestStart_88 : decode cX11_bestStart 88 = .ok (.lcmp, 1) := by decide +kernel
theorem dX11_bestStart_89 : decode cX11_bestStart 89 = .ok (.ifCond .ge 31, 3) := by decide +kernel
theorem dX11_bestStart_92 : decode cX11_bestStart 92 = .ok (.iload 6, 2) := by decide +kernel
theorem dX11_bestStart_94 : decode cX11_bestStart 94 = .ok (.sipush 1000, 3) := by decide +kernel
theorem dX11_bestStart_97 : decode cX11_bestStart 97 = .ok (.imul, 1) := by decide +kernel
theorem dX11_bestStart_98 : decode cX11_bestStart 98 = .ok (.iload 7, 2) := by decide +kernel
theorem dX11_bestStart_100 : decode cX11_bestStart 100 = .ok (.bipush 100, 2) := by decide +kernel
theorem dX11_bestStart_102 : decode cX11_bestStart 102 = .ok (.imul, 1) := by decide +kernel
theorem dX11_bestStart_103 : decode cX11_bestStart 103 = .ok (.iadd, 1) := by decide +kernel
theorem dX11_bestStart_104 : decode cX11_bestStart 104 = .ok (.iload 8, 2) := by decide +kernel
theorem dX11_bestStart_106 : decode cX11_bestStart 106 = .ok (.bipush 10, 2) := by decide +kernel
theorem dX11_bestStart_108 : decode cX11_bestStart 108 = .ok (.imul, 1) := by decide +kernel
theorem dX11_bestStart_109 : decode cX11_bestStart 109 = .ok (.iadd, 1) := by decide +kernel
theorem dX11_bestStart_110 : decode cX11_bestStart 110 = .ok (.iload 9, 2) := by decide +kernel
theorem dX11_bestStart_112 : decode cX11_bestStart 112 = .ok (.iadd, 1) := by decide +kernel
theorem dX11_bestStart_113 : decode cX11_bestStart 113 = .ok (.istore_n 3, 1) := by decide +kernel
theorem dX11_bestStart_114 : decode cX11_bestStart 114 = .ok (.aload_n 0, 1) := by decide +kernel
theorem dX11_bestStart_115 : decode cX11_bestStart 115 = .ok (.getfield 42, 3) := by decide +kernel
theorem dX11_bestStart_118 : decode cX11_bestStart 118 = .ok (.lstore 4, 2) := by decide +kernel
theorem dX11_bestStart_120 : decode cX11_bestStart 120 = .ok (.iinc 8 1, 3) := by decide +kernel
theorem dX11_bestStart_123 : decode cX11_bestStart 123 = .ok (.goto (-93), 3) := by decide +kernel
theorem dX11_bestStart_126 : decode cX11_bestStart 126 = .ok (.iinc 7 1, 3) := by decide +kernel
theorem dX11_bestStart_129 : decode cX11_bestStart 129 = .ok (.goto (-111), 3) := by decide +kernel
theorem dX11_bestStart_132 : decode cX11_bestStart 132 = .ok (.iinc 6 1, 3) := by decide +kernel
theorem dX11_bestStart_135 : decode cX11_bestStart 135 = .ok (.goto (-126), 3) := by decide +kernel
theorem dX11_bestStart_138 : decode cX11_bestStart 138 = .ok (.iload_n 3, 1) := by decide +kernel
theorem dX11_bestStart_139 : decode cX11_bestStart 139 = .ok (.ireturn, 1) := by decide +kernel
theorem dX11_standIn_0 : decode cX11_standIn 0 = .ok (.iload_n 1, 1) := by decide +kernel
theorem dX11_standIn_1 : decode cX11_standIn 1 = .ok (.tableswitch 49 0 2 #[27, 33, 41], 27) := by decide +kernel
theorem dX11_standIn_28 : decode cX11_standIn 28 = .ok (.iload_n 0, 1) := by decide +kernel
theorem dX11_standIn_29 : decode cX11_standIn 29 = .ok (.sipush 1000, 3) := by decide +kernel
theorem dX11_standIn_32 : decode cX11_standIn 32 = .ok (.idiv, 1) := by decide +kernel
theorem dX11_standIn_33 : decode cX11_standIn 33 = .ok (.ireturn, 1) := by decide +kernel
theorem dX11_standIn_34 : decode cX11_standIn 34 = .ok (.iload_n 0, 1) := by decide +kernel
theorem dX11_standIn_35 : decode cX11_standIn 35 = .ok (.bipush 100, 2) := by decide +kernel
theorem dX11_standIn_37 : decode cX11_standIn 37 = .ok (.idiv, 1) := by decide +kernel
theorem dX11_standIn_38 : decode cX11_standIn 38 = .ok (.bipush 10, 2) := by decide +kernel
theorem dX11_standIn_40 : decode cX11_standIn 40 = .ok (.irem, 1) := by decide +kernel
theorem dX11_standIn_41 : decode cX11_standIn 41 = .ok (.ireturn, 1) := by decide +kernel
theorem dX11_standIn_42 : decode cX11_standIn 42 = .ok (.iload_n 0, 1) := by decide +kernel
theorem dX11_standIn_43 : decode cX11_standIn 43 = .ok (.bipush 10, 2) := by decide +kernel
theorem dX11_standIn_45 : decode cX11_standIn 45 = .ok (.idiv, 1) := by decide +kernel
theorem dX11_standIn_46 : decode cX11_standIn 46 = .ok (.bipush 10, 2) := by decide +kernel
theorem dX11_standIn_48 : decode cX11_standIn 48 = .ok (.irem, 1) := by decide +kernel
theorem dX11_standIn_49 : decode cX11_standIn 49 = .ok (.ireturn, 1) := by decide +kernel
theorem dX11_standIn_50 : decode cX11_standIn 50 = .ok (.iload_n 0, 1) := by decide +kernel
theorem dX11_standIn_51 : decode cX11_standIn 51 = .ok (.bipush 10, 2) := by decide +kernel
theorem dX11_standIn_53 : decode cX11_standIn 53 = .ok (.irem, 1) := by decide +kernel
theorem dX11_standIn_54 : decode cX11_standIn 54 = .ok (.ireturn, 1) := by decide +kernel
theorem dX11_seekCarts_0 : decode cX11_seekCarts 0 = .ok (.aload_n 0, 1) := by decide +kernel
theorem dX11_seekCarts_1 : decode cX11_seekCarts 1 = .ok (.getfield 49, 3) := by decide +kernel
theorem dX11_seekCarts_4 : decode cX11_seekCarts 4 = .ok (.bipush (-5), 2) := by decide +kernel
theorem dX11_seekCarts_6 : decode cX11_seekCarts 6 = .ok (.if_icmp .eq 18, 3) := by decide +kernel
theorem dX11_seekCarts_9 : decode cX11_seekCarts 9 = .ok (.iload_n 2, 1) := by decide +kernel
theorem dX11_seekCarts_10 : decode cX11_seekCarts 10 = .ok (.invokestatic 273, 3) := by decide +kernel
theorem dX11_seekCarts_13 : decode cX11_seekCarts 13 = .ok (.aload_n 0, 1) := by decide +kernel
theorem dX11_seekCarts_14 : decode cX11_seekCarts 14 = .ok (.getfield 49, 3) := by decide +kernel
theorem dX11_seekCarts_17 : decode cX11_seekCarts 17 = .ok (.invokestatic 273, 3) := by decide +kernel
theorem dX11_seekCarts_20 : decode cX11_seekCarts 20 = .ok (.if_icmp .le 4, 3) := by decide +kernel
theorem dX11_seekCarts_23 : decode cX11_seekCarts 23 = .ok (.return_, 1) := by decide +kernel
theorem dX11_seekCarts_24 : decode cX11_seekCarts 24 = .ok (.iload_n 1, 1) := by decide +kernel
theorem dX11_seekCarts_25 : decode cX11_seekCarts 25 = .ok (.aload_n 0, 1) := by decide +kernel
theorem dX11_seekCarts_26 : decode cX11_seekCarts 26 = .ok (.getfield 12, 3) := by decide +kernel
theorem dX11_seekCarts_29 : decode cX11_seekCarts 29 = .ok (.getfield 155, 3) := by decide +kernel
theorem dX11_seekCarts_32 : decode cX11_seekCarts 32 = .ok (.if_icmp .ge 9, 3) := by decide +kernel
theorem dX11_seekCarts_35 : decode cX11_seekCarts 35 = .ok (.iload_n 1, 1) := by decide +kernel
theorem dX11_seekCarts_36 : decode cX11_seekCarts 36 = .ok (.bipush 12, 2) := by decide +kernel
theorem dX11_seekCarts_38 : decode cX11_seekCarts 38 = .ok (.if_icmp .lt 29, 3) := by decide +kernel
theorem dX11_seekCarts_41 : decode cX11_seekCarts 41 = .ok (.aload_n 0, 1) := by decide +kernel
theorem dX11_seekCarts_42 : decode cX11_seekCarts 42 = .ok (.getfield 49, 3) := by decide +kernel
theorem dX11_seekCarts_45 : decode cX11_seekCarts 45 = .ok (.bipush (-5), 2) := by decide +kernel
theorem dX11_seekCarts_47 : decode cX11_seekCarts 47 = .ok (.if_icmp .eq 14, 3) := by decide +kernel
theorem dX11_seekCarts_50 : decode cX11_seekCarts 50 = .ok (.iload_n 2, 1) := by decide +kernel
theorem dX11_seekCarts_51 : decode cX11_seekCarts 51 = .ok (.aload_n 0, 1) := by decide +kernel
theorem dX11_seekCarts_52 : decode cX11_seekCarts 52 = .ok (.getfield 49, 3) := by decide +kernel
theorem dX11_seekCarts_55 : decode cX11_seekCarts 55 = .ok (.invokestatic 278, 3) := by decide +kernel
theorem dX11_seekCarts_58 : decode cX11_seekCarts 58 = .ok (.ifCond .eq 8, 3) := by decide +kernel
theorem dX11_seekCarts_61 : decode cX11_seekCarts 61 = .ok (.aload_n 0, 1) := by decide +kernel
theorem dX11_seekCarts_62 : decode cX11_seekCarts 62 = .ok (.iload_n 2, 1) := by decide +kernel
theorem dX11_seekCarts_63 : decode cX11_seekCarts 63 = .ok (.putfield 49, 3) := by decide +kernel
theorem dX11_seekCarts_66 : decode cX11_seekCarts 66 = .ok (.return_, 1) := by decide +kernel
theorem dX11_seekCarts_67 : decode cX11_seekCarts 67 = .ok (.aload_n 0, 1) := by decide +kernel
theorem dX11_seekCarts_68 : decode cX11_seekCarts 68 = .ok (.getfield 34, 3) := by decide +kernel
theorem dX11_seekCarts_71 : decode cX11_seekCarts 71 = .ok (.iload_n 1, 1) := by decide +kernel
theorem dX11_seekCarts_72 : decode cX11_seekCarts 72 = .ok (.iconst 1, 1) := by decide +kernel
theorem dX11_seekCarts_73 : decode cX11_seekCarts 73 = .ok (.iadd, 1) := by decide +kernel
theorem dX11_seekCarts_74 : decode cX11_seekCarts 74 = .ok (.aaload, 1) := by decide +kernel
theorem dX11_seekCarts_75 : decode cX11_seekCarts 75 = .ok (.astore_n 3, 1) := by decide +kernel
theorem dX11_seekCarts_76 : decode cX11_seekCarts 76 = .ok (.iconst 0, 1) := by decide +kernel
theorem dX11_seekCarts_77 : decode cX11_seekCarts 77 = .ok (.istore 4, 2) := by decide +kernel
theorem dX11_seekCarts_79 : decode cX11_seekCarts 79 = .ok (.iload 4, 2) := by decide +kernel
theorem dX11_seekCarts_81 : decode cX11_seekCarts 81 = .ok (.iconst 1, 1) := by decide +kernel
theorem dX11_seekCarts_82 : decode cX11_seekCarts 82 = .ok (.if_icmp .gt 78, 3) := by decide +kernel
theorem dX11_seekCarts_85 : decode cX11_seekCarts 85 = .ok (.aload_n 3, 1) := by decide +kernel
theorem dX11_seekCarts_86 : decode cX11_seekCarts 86 = .ok (.aload_n 0, 1) := by decide +kernel
theorem dX11_seekCarts_87 : decode cX11_seekCarts 87 = .ok (.getfield 34, 3) := by decide +kernel
theorem dX11_seekCarts_90 : decode cX11_seekCarts 90 = .ok (.iload_n 1, 1) := by decide +kernel
theorem dX11_seekCarts_91 : decode cX11_seekCarts 91 = .ok (.aaload, 1) := by decide +kernel
theorem dX11_seekCarts_92 : decode cX11_seekCarts 92 = .ok (.invokevirtual 266, 3) := by decide +kernel
theorem dX11_seekCarts_95 : decode cX11_seekCarts 95 = .ok (.iload 4, 2) := by decide +kernel
theorem dX11_seekCarts_97 : decode cX11_seekCarts 97 = .ok (.ifCond .eq 20, 3) := by decide +kernel
theorem dX11_seekCarts_100 : decode cX11_seekCarts 100 = .ok (.aload_n 3, 1) := by decide +kernel
theorem dX11_seekCarts_101 : decode cX11_seekCarts 101 = .ok (.aload_n 0, 1) := by decide +kernel
theorem dX11_seekCarts_102 : decode cX11_seekCarts 102 = .ok (.getfield 12, 3) := by decide +kernel
theorem dX11_seekCarts_105 : decode cX11_seekCarts 105 = .ok (.getfield 83, 3) := by decide +kernel
theorem dX11_seekCarts_108 : decode cX11_seekCarts 108 = .ok (.getfield 103, 3) := by decide +kernel
theorem dX11_seekCarts_111 : decode cX11_seekCarts 111 = .ok (.invokevirtual 201, 3) := by decide +kernel
theorem dX11_seekCarts_114 : decode cX11_seekCarts 114 = .ok (.ifCond .le 40, 3) := by decide +kernel
theorem dX11_seekCarts_117 : decode cX11_seekCarts 117 = .ok (.aload_n 3, 1) := by decide +kernel
theorem dX11_seekCarts_118 : decode cX11_seekCarts 118 = .ok (.aload_n 0, 1) := by decide +kernel
theorem dX11_seekCarts_119 : decode cX11_seekCarts 119 = .ok (.getfield 12, 3) := by decide +kernel
theorem dX11_seekCarts_122 : decode cX11_seekCarts 122 = .ok (.aload_n 0, 1) := by decide +kernel
theorem dX11_seekCarts_123 : decode cX11_seekCarts 123 = .ok (.getfield 12, 3) := by decide +kernel
theorem dX11_seekCarts_126 : decode cX11_seekCarts 126 = .ok (.getfield 158, 3) := by decide +kernel
theorem dX11_seekCarts_129 : decode cX11_seekCarts 129 = .ok (.iload_n 1, 1) := by decide +kernel
theorem dX11_seekCarts_130 : decode cX11_seekCarts 130 = .ok (.iaload, 1) := by decide +kernel
theorem dX11_seekCarts_131 : decode cX11_seekCarts 131 = .ok (.invokevirtual 148, 3) := by decide +kernel
theorem dX11_seekCarts_134 : decode cX11_seekCarts 134 = .ok (.aload_n 3, 1) := by decide +kernel
theorem dX11_seekCarts_135 : decode cX11_seekCarts 135 = .ok (.getfield 165, 3) := by decide +kernel
theorem dX11_seekCarts_138 : decode cX11_seekCarts 138 = .ok (.ifCond .ne 16, 3) := by decide +kernel
theorem dX11_seekCarts_141 : decode cX11_seekCarts 141 = .ok (.aload_n 0, 1) := by decide +kernel
theorem dX11_seekCarts_142 : decode cX11_seekCarts 142 = .ok (.iload_n 1, 1) := by decide +kernel
theorem dX11_seekCarts_143 : decode cX11_seekCarts 143 = .ok (.iconst 1, 1) := by decide +kernel
theorem dX11_seekCarts_144 : decode cX11_seekCarts 144 = .ok (.iadd, 1) := by decide +kernel
theorem dX11_seekCarts_145 : decode cX11_seekCarts 145 = .ok (.iload_n 2, 1) := by decide +kernel
theorem dX11_seekCarts_146 : decode cX11_seekCarts 146 = .ok (.iload 4, 2) := by decide +kernel
theorem dX11_seekCarts_148 : decode cX11_seekCarts 148 = .ok (.iload_n 1, 1) := by decide +kernel
theorem dX11_seekCarts_149 : decode cX11_seekCarts 149 = .ok (.ishl, 1) := by decide +kernel
theorem dX11_seekCarts_150 : decode cX11_seekCarts 150 = .ok (.ior, 1) := by decide +kernel
theorem dX11_seekCarts_151 : decode cX11_seekCarts 151 = .ok (.invokevirtual 205, 3) := by decide +kernel
theorem dX11_seekCarts_154 : decode cX11_seekCarts 154 = .ok (.iinc 4 1, 3) := by decide +kernel
theorem dX11_seekCarts_157 : decode cX11_seekCarts 157 = .ok (.goto (-78), 3) := by decide +kernel
theorem dX11_seekCarts_160 : decode cX11_seekCarts 160 = .ok (.return_, 1) := by decide +kernel
theorem dX11_comesFirst_0 : decode cX11_comesFirst 0 = .ok (.iload_n 0, 1) := by decide +kernel
theorem dX11_comesFirst_1 : decode cX11_comesFirst 1 = .ok (.invokestatic 273, 3) := by decide +kernel
theorem dX11_comesFirst_4 : decode cX11_comesFirst 4 = .ok (.iload_n 1, 1) := by decide +kernel
theorem dX11_comesFirst_5 : decode cX11_comesFirst 5 = .ok (.invokestatic 273, 3) := by decide +kernel
theorem dX11_comesFirst_8 : decode cX11_comesFirst 8 = .ok (.isub, 1) := by decide +kernel
theorem dX11_comesFirst_9 : decode cX11_comesFirst 9 = .ok (.istore_n 2, 1) := by decide +kernel
theorem dX11_comesFirst_10 : decode cX11_comesFirst 10 = .ok (.iload_n 2, 1) := by decide +kernel
theorem dX11_comesFirst_11 : decode cX11_comesFirst 11 = .ok (.ifCond .lt 12, 3) := by decide +kernel
theorem dX11_comesFirst_14 : decode cX11_comesFirst 14 = .ok (.iload_n 2, 1) := by decide +kernel
theorem dX11_comesFirst_15 : decode cX11_comesFirst 15 = .ok (.ifCond .ne 12, 3) := by decide +kernel
theorem dX11_comesFirst_18 : decode cX11_comesFirst 18 = .ok (.iload_n 0, 1) := by decide +kernel
theorem dX11_comesFirst_19 : decode cX11_comesFirst 19 = .ok (.iload_n 1, 1) := by decide +kernel
theorem dX11_comesFirst_20 : decode cX11_comesFirst 20 = .ok (.if_icmp .ge 7, 3) := by decide +kernel
theorem dX11_comesFirst_23 : decode cX11_comesFirst 23 = .ok (.iconst 1, 1) := by decide +kernel
theorem dX11_comesFirst_24 : decode cX11_comesFirst 24 = .ok (.goto 4, 3) := by decide +kernel
theorem dX11_comesFirst_27 : decode cX11_comesFirst 27 = .ok (.iconst 0, 1) := by decide +kernel
theorem dX11_comesFirst_28 : decode cX11_comesFirst 28 = .ok (.ireturn, 1) := by decide +kernel
theorem dX11_tenTo_0 : decode cX11_tenTo 0 = .ok (.lconst 1, 1) := by decide +kernel
theorem dX11_tenTo_1 : decode cX11_tenTo 1 = .ok (.lstore_n 1, 1) := by decide +kernel
theorem dX11_tenTo_2 : decode cX11_tenTo 2 = .ok (.iconst 0, 1) := by decide +kernel
theorem dX11_tenTo_3 : decode cX11_tenTo 3 = .ok (.istore_n 3, 1) := by decide +kernel
theorem dX11_tenTo_4 : decode cX11_tenTo 4 = .ok (.iload_n 3, 1) := by decide +kernel
theorem dX11_tenTo_5 : decode cX11_tenTo 5 = .ok (.iload_n 0, 1) := by decide +kernel
theorem dX11_tenTo_6 : decode cX11_tenTo 6 = .ok (.if_icmp .ge 15, 3) := by decide +kernel
theorem dX11_tenTo_9 : decode cX11_tenTo 9 = .ok (.lload_n 1, 1) := by decide +kernel
theorem dX11_tenTo_10 : decode cX11_tenTo 10 = .ok (.ldc2_w 282, 3) := by decide +kernel
theorem dX11_tenTo_13 : decode cX11_tenTo 13 = .ok (.lmul, 1) := by decide +kernel
theorem dX11_tenTo_14 : decode cX11_tenTo 14 = .ok (.lstore_n 1, 1) := by decide +kernel
theorem dX11_tenTo_15 : decode cX11_tenTo 15 = .ok (.iinc 3 1, 3) := by decide +kernel
theorem dX11_tenTo_18 : decode cX11_tenTo 18 = .ok (.goto (-14), 3) := by decide +kernel
theorem dX11_tenTo_21 : decode cX11_tenTo 21 = .ok (.lload_n 1, 1) := by decide +kernel
theorem dX11_tenTo_22 : decode cX11_tenTo 22 = .ok (.lreturn, 1) := by decide +kernel
theorem dX11_fractionPart_0 : decode cX11_fractionPart 0 = .ok (.lconst 1, 1) := by decide +kernel
theorem dX11_fractionPart_1 : decode cX11_fractionPart 1 = .ok (.lload_n 0, 1) := by decide +kernel
theorem dX11_fractionPart_2 : decode cX11_fractionPart 2 = .ok (.invokestatic 284, 3) := by decide +kernel
theorem dX11_fractionPart_5 : decode cX11_fractionPart 5 = .ok (.lload_n 2, 1) := by decide +kernel
theorem dX11_fractionPart_6 : decode cX11_fractionPart 6 = .ok (.invokestatic 290, 3) := by decide +kernel
theorem dX11_fractionPart_9 : decode cX11_fractionPart 9 = .ok (.invokestatic 294, 3) := by decide +kernel
theorem dX11_fractionPart_12 : decode cX11_fractionPart 12 = .ok (.lstore 5, 2) := by decide +kernel
theorem dX11_fractionPart_14 : decode cX11_fractionPart 14 = .ok (.iload 4, 2) := by decide +kernel
theorem dX11_fractionPart_16 : decode cX11_fractionPart 16 = .ok (.ifCond .ne 10, 3) := by decide +kernel
theorem dX11_fractionPart_19 : decode cX11_fractionPart 19 = .ok (.lload_n 0, 1) := by decide +kernel
theorem dX11_fractionPart_20 : decode cX11_fractionPart 20 = .ok (.lload 5, 2) := by decide +kernel
theorem dX11_fractionPart_22 : decode cX11_fractionPart 22 = .ok (.ldiv, 1) := by decide +kernel
theorem dX11_fractionPart_23 : decode cX11_fractionPart 23 = .ok (.goto 7, 3) := by decide +kernel
theorem dX11_fractionPart_26 : decode cX11_fractionPart 26 = .ok (.lload_n 2, 1) := by decide +kernel
theorem dX11_fractionPart_27 : decode cX11_fractionPart 27 = .ok (.lload 5, 2) := by decide +kernel
theorem dX11_fractionPart_29 : decode cX11_fractionPart 29 = .ok (.ldiv, 1) := by decide +kernel
theorem dX11_fractionPart_30 : decode cX11_fractionPart 30 = .ok (.lreturn, 1) := by decide +kernel
theorem dX11_commonDivisor_0 : decode cX11_commonDivisor 0 = .ok (.iconst 0, 1) := by decide +kernel
theorem dX11_commonDivisor_1 : decode cX11_commonDivisor 1 = .ok (.istore 4, 2) := by decide +kernel
theorem dX11_commonDivisor_3 : decode cX11_commonDivisor 3 = .ok (.iload 4, 2) := by decide +kernel
theorem dX11_commonDivisor_5 : decode cX11_commonDivisor 5 = .ok (.bipush 100, 2) := by decide +kernel
theorem dX11_commonDivisor_7 : decode cX11_commonDivisor 7 = .ok (.if_icmp .ge 25, 3) := by decide +kernel
theorem dX11_commonDivisor_10 : decode cX11_commonDivisor 10 = .ok (.lload_n 2, 1) := by decide +kernel
theorem dX11_commonDivisor_11 : decode cX11_commonDivisor 11 = .ok (.lconst 0, 1) := by decide +kernel
theorem dX11_commonDivisor_12 : decode cX11_commonDivisor 12 = .ok (.lcmp, 1) := by decide +kernel
theorem dX11_commonDivisor_13 : decode cX11_commonDivisor 13 = .ok (.ifCond .eq 19, 3) := by decide +kernel
theorem dX11_commonDivisor_16 : decode cX11_commonDivisor 16 = .ok (.lload_n 0, 1) := by decide +kernel
theorem dX11_commonDivisor_17 : decode cX11_commonDivisor 17 = .ok (.lload_n 2, 1) := by decide +kernel
theorem dX11_commonDivisor_18 : decode cX11_commonDivisor 18 = .ok (.lrem, 1) := by decide +kernel
theorem dX11_commonDivisor_19 : decode cX11_commonDivisor 19 = .ok (.lstore 5, 2) := by decide +kernel
theorem dX11_commonDivisor_21 : decode cX11_commonDivisor 21 = .ok (.lload_n 2, 1) := by decide +kernel
theorem dX11_commonDivisor_22 : decode cX11_commonDivisor 22 = .ok (.lstore_n 0, 1) := by decide +kernel
theorem dX11_commonDivisor_23 : decode cX11_commonDivisor 23 = .ok (.lload 5, 2) := by decide +kernel
theorem dX11_commonDivisor_25 : decode cX11_commonDivisor 25 = .ok (.lstore_n 2, 1) := by decide +kernel
theorem dX11_commonDivisor_26 : decode cX11_commonDivisor 26 = .ok (.iinc 4 1, 3) := by decide +kernel
theorem dX11_commonDivisor_29 : decode cX11_commonDivisor 29 = .ok (.goto (-26), 3) := by decide +kernel
theorem dX11_commonDivisor_32 : decode cX11_commonDivisor 32 = .ok (.lload_n 0, 1) := by decide +kernel
theorem dX11_commonDivisor_33 : decode cX11_commonDivisor 33 = .ok (.lreturn, 1) := by decide +kernel
theorem dX12_init_0 : decode cX12_init 0 = .ok (.aload_n 0, 1) := by decide +kernel
theorem dX12_init_1 : decode cX12_init 1 = .ok (.invokespecial 3, 3) := by decide +kernel
theorem dX12_init_4 : decode cX12_init 4 = .ok (.aload_n 0, 1) := by decide +kernel
theorem dX12_init_5 : decode cX12_init 5 = .ok (.sipush 940, 3) := by decide +kernel
theorem dX12_init_8 : decode cX12_init 8 = .ok (.newarray .int, 2) := by decide +kernel
theorem dX12_init_10 : decode cX12_init 10 = .ok (.putfield 9, 3) := by decide +kernel
theorem dX12_init_13 : decode cX12_init 13 = .ok (.aload_n 0, 1) := by decide +kernel
theorem dX12_init_14 : decode cX12_init 14 = .ok (.sipush 940, 3) := by decide +kernel
theorem dX12_init_17 : decode cX12_init 17 = .ok (.newarray .int, 2) := by decide +kernel
theorem dX12_init_19 : decode cX12_init 19 = .ok (.putfield 15, 3) := by decide +kernel
theorem dX12_init_22 : decode cX12_init 22 = .ok (.aload_n 0, 1) := by decide +kernel
theorem dX12_init_23 : decode cX12_init 23 = .ok (.sipush 165, 3) := by decide +kernel
theorem dX12_init_26 : decode cX12_init 26 = .ok (.newarray .int, 2) := by decide +kernel
theorem dX12_init_28 : decode cX12_init 28 = .ok (.putfield 18, 3) := by decide +kernel
theorem dX12_init_31 : decode cX12_init 31 = .ok (.aload_n 0, 1) := by decide +kernel
theorem dX12_init_32 : decode cX12_init 32 = .ok (.iconst 5, 1) := by decide +kernel
theorem dX12_init_33 : decode cX12_init 33 = .ok (.newarray .int, 2) := by decide +kernel
theorem dX12_init_35 : decode cX12_init 35 = .ok (.putfield 21, 3) := by decide +kernel
theorem dX12_init_38 : decode cX12_init 38 = .ok (.aload_n 0, 1) := by decide +kernel
theorem dX12_init_39 : decode cX12_init 39 = .ok (.bipush 64, 2) := by decide +kernel
theorem dX12_init_41 : decode cX12_init 41 = .ok (.newarray .boolean, 2) := by decide +kernel
theorem dX12_init_43 : decode cX12_init 43 = .ok (.putfield 24, 3) := by decide +kernel
theorem dX12_init_46 : decode cX12_init 46 = .ok (.aload_n 0, 1) := by decide +kernel
theorem dX12_init_47 : decode cX12_init 47 = .ok (.bipush 6, 2) := by decide +kernel
theorem dX12_init_49 : decode cX12_init 49 = .ok (.newarray .boolean, 2) := by decide +kernel
theorem dX12_init_51 : decode cX12_init 51 = .ok (.putfield 28, 3) := by decide +kernel
theorem dX12_init_54 : decode cX12_init 54 = .ok (.aload_n 0, 1) := by decide +kernel
theorem dX12_init_55 : decode cX12_init 55 = .ok (.bipush 6, 2) := by decide +kernel
theorem dX12_init_57 : decode cX12_init 57 = .ok (.newarray .boolean, 2) := by decide +kernel
theorem dX12_init_59 : decode cX12_init 59 = .ok (.putfield 31, 3) := by decide +kernel
theorem dX12_init_62 : decode cX12_init 62 = .ok (.aload_n 0, 1) := by decide +kernel
theorem dX12_init_63 : decode cX12_init 63 = .ok (.bipush 6, 2) := by decide +kernel
theorem dX12_init_65 : decode cX12_init 65 = .ok (.newarray .boolean, 2) := by decide +kernel
theorem dX12_init_67 : decode cX12_init 67 = .ok (.putfield 34, 3) := by decide +kernel
theorem dX12_init_70 : decode cX12_init 70 = .ok (.aload_n 0, 1) := by decide +kernel
theorem dX12_init_71 : decode cX12_init 71 = .ok (.iconst 4, 1) := by decide +kernel
theorem dX12_init_72 : decode cX12_init 72 = .ok (.newarray .long, 2) := by decide +kernel
theorem dX12_init_74 : decode cX12_init 74 = .ok (.putfield 37, 3) := by decide +kernel
theorem dX12_init_77 : decode cX12_init 77 = .ok (.aload_n 0, 1) := by decide +kernel
theorem dX12_init_78 : decode cX12_init 78 = .ok (.iconst 4, 1) := by decide +kernel
theorem dX12_init_79 : decode cX12_init 79 = .ok (.newarray .int, 2) := by decide +kernel
theorem dX12_init_81 : decode cX12_init 81 = .ok (.putfield 41, 3) := by decide +kernel
theorem dX12_init_84 : decode cX12_init 84 = .ok (.aload_n 0, 1) := by decide +kernel
theorem dX12_init_85 : decode cX12_init 85 = .ok (.bipush 20, 2) := by decide +kernel
theorem dX12_init_87 : decode cX12_init 87 = .ok (.newarray .int, 2) := by decide +kernel
theorem dX12_init_89 : decode cX12_init 89 = .ok (.putfield 44, 3) := by decide +kernel
theorem dX12_init_92 : decode cX12_init 92 = .ok (.aload_n 0, 1) := by decide +kernel
theorem dX12_init_93 : decode cX12_init 93 = .ok (.getfield 9, 3) := by decide +kernel
theorem dX12_init_96 : decode cX12_init 96 = .ok (.bipush 20, 2) := by decide +kernel
theorem dX12_init_98 : decode cX12_init 98 = .ok (.iconst (-1), 1) := by decide +kernel
theorem dX12_init_99 : decode cX12_init 99 = .ok (.iastore, 1) := by decide +kernel
theorem dX12_init_100 : decode cX12_init 100 = .ok (.iconst 0, 1) := by decide +kernel
theorem dX12_init_101 : decode cX12_init 101 = .ok (.istore_n 1, 1) := by decide +kernel
theorem dX12_init_102 : decode cX12_init 102 = .ok (.iload_n 1, 1) := by decide +kernel
theorem dX12_init_103 : decode cX12_init 103 = .ok (.bipush 6, 2) := by decide +kernel
theorem dX12_init_105 : decode cX12_init 105 = .ok (.if_icmp .ge 20, 3) := by decide +kernel
theorem dX12_init_108 : decode cX12_init 108 = .ok (.aload_n 0, 1) := by decide +kernel
theorem dX12_init_109 : decode cX12_init 109 = .ok (.getfield 9, 3) := by decide +kernel
theorem dX12_init_112 : decode cX12_init 112 = .ok (.sipush 174, 3) := by decide +kernel
theorem dX12_init_115 : decode cX12_init 115 = .ok (.iload_n 1, 1) := by decide +kernel
theorem dX12_init_116 : decode cX12_init 116 = .ok (.iadd, 1) := by decide +kernel
theorem dX12_init_117 : decode cX12_init 117 = .ok (.iconst 1, 1) := by decide +kernel
theorem dX12_init_118 : decode cX12_init 118 = .ok (.iastore, 1) := by decide +kernel
theorem dX12_init_119 : decode cX12_init 119 = .ok (.iinc 1 1, 3) := by decide +kernel
theorem dX12_init_122 : decode cX12_init 122 = .ok (.goto (-20), 3) := by decide +kernel
theorem dX12_init_125 : decode cX12_init 125 = .ok (.return_, 1) := by decide +kernel
theorem dX12_in_0 : decode cX12_in 0 = .ok (.iload_n 0, 1) := by decide +kernel
theorem dX12_in_1 : decode cX12_in 1 = .ok (.iload_n 1, 1) := by decide +kernel
theorem dX12_in_2 : decode cX12_in 2 = .ok (.if_icmp .lt 12, 3) := by decide +kernel
theorem dX12_in_5 : decode cX12_in 5 = .ok (.iload_n 0, 1) := by decide +kernel
theorem dX12_in_6 : decode cX12_in 6 = .ok (.iload_n 2, 1) := by decide +kernel
theorem dX12_in_7 : decode cX12_in 7 = .ok (.if_icmp .gt 7, 3) := by decide +kernel
theorem dX12_in_10 : decode cX12_in 10 = .ok (.iconst 1, 1) := by decide +kernel
theorem dX12_in_11 : decode cX12_in 11 = .ok (.goto 4, 3) := by decide +kernel
theorem dX12_in_14 : decode cX12_in 14 = .ok (.iconst 0, 1) := by decide +kernel
theorem dX12_in_15 : decode cX12_in 15 = .ok (.ireturn, 1) := by decide +kernel
theorem dX12_isDoor_0 : decode cX12_isDoor 0 = .ok (.iload_n 0, 1) := by decide +kernel
theorem dX12_isDoor_1 : decode cX12_isDoor 1 = .ok (.iconst 0, 1) := by decide +kernel
theorem dX12_isDoor_2 : decode cX12_isDoor 2 = .ok (.iconst 3, 1) := by decide +kernel
theorem dX12_isDoor_3 : decode cX12_isDoor 3 = .ok (.invokestatic 51, 3) := by decide +kernel
theorem dX12_isDoor_6 : decode cX12_isDoor 6 = .ok (.ireturn, 1) := by decide +kernel
theorem dX12_isPerson_0 : decode cX12_isPerson 0 = .ok (.iload_n 1, 1) := by decide +kernel
theorem dX12_isPerson_1 : decode cX12_isPerson 1 = .ok (.iconst 0, 1) := by decide +kernel
theorem dX12_isPerson_2 : decode cX12_isPerson 2 = .ok (.aload_n 0, 1) := by decide +kernel
theorem dX12_isPerson_3 : decode cX12_isPerson 3 = .ok (.getfield 9, 3) := by decide +kernel
theorem dX12_isPerson_6 : decode cX12_isPerson 6 = .ok (.bipush 15, 2) := by decide +kernel
theorem dX12_isPerson_8 : decode cX12_isPerson 8 = .ok (.iaload, 1) := by decide +kernel
theorem dX12_isPerson_9 : decode cX12_isPerson 9 = .ok (.iconst 1, 1) := by decide +kernel
theorem dX12_isPerson_10 : decode cX12_isPerson 10 = .ok (.isub, 1) := by decide +kernel
theorem dX12_isPerson_11 : decode cX12_isPerson 11 = .ok (.invokestatic 51, 3) := by decide +kernel
theorem dX12_isPerson_14 : decode cX12_isPerson 14 = .ok (.ireturn, 1) := by decide +kernel
theorem dX12_umbrellas_0 : decode cX12_umbrellas 0 = .ok (.aload_n 0, 1) := by decide +kernel
theorem dX12_umbrellas_1 : decode cX12_umbrellas 1 = .ok (.getfield 9, 3) := by decide +kernel
theorem dX12_umbrellas_4 : decode cX12_umbrellas 4 = .ok (.iconst 0, 1) := by decide +kernel
theorem dX12_umbrellas_5 : decode cX12_umbrellas 5 = .ok (.iaload, 1) := by decide +kernel
theorem dX12_umbrellas_6 : decode cX12_umbrellas 6 = .ok (.aload_n 0, 1) := by decide +kernel
theorem dX12_umbrellas_7 : decode cX12_umbrellas 7 = .ok (.getfield 9, 3) := by decide +kernel
theorem dX12_umbrellas_10 : decode cX12_umbrellas 10 = .ok (.iconst 1, 1) := by decide +kernel
theorem dX12_umbrellas_11 : decode cX12_umbrellas 11 = .ok (.iaload, 1) := by decide +kernel
theorem dX12_umbrellas_12 : decode cX12_umbrellas 12 = .ok (.iadd, 1) := by decide +kernel
theorem dX12_umbrellas_13 : decode cX12_umbrellas 13 = .ok (.aload_n 0, 1) := by decide +kernel
theorem dX12_umbrellas_14 : decode cX12_umbrellas 14 = .ok (.getfield 9, 3) := by decide +kernel
theorem dX12_umbrellas_17 : decode cX12_umbrellas 17 = .ok (.iconst 2, 1) := by decide +kernel
theorem dX12_umbrellas_18 : decode cX12_umbrellas 18 = .ok (.iaload, 1) := by decide +kernel
theorem dX12_umbrellas_19 : decode cX12_umbrellas 19 = .ok (.iadd, 1) := by decide +kernel
theorem dX12_umbrellas_20 : decode cX12_umbrellas 20 = .ok (.aload_n 0, 1) := by decide +kernel
theorem dX12_umbrellas_21 : decode cX12_umbrellas 21 = .ok (.getfield 9, 3) := by decide +kernel
theorem dX12_umbrellas_24 : decode cX12_umbrellas 24 = .ok (.iconst 3, 1) := by decide +kernel
theorem dX12_umbrellas_25 : decode cX12_umbrellas 25 = .ok (.iaload, 1) := by decide +kernel
theorem dX12_umbrellas_26 : decode cX12_umbrellas 26 = .ok (.iadd, 1) := by decide +kernel
theorem dX12_umbrellas_27 : decode cX12_umbrellas 27 = .ok (.ireturn, 1) := by decide +kernel
theorem dX12_keeps_0 : decode cX12_keeps 0 = .ok (.iconst 0, 1) := by decide +kernel
theorem dX12_keeps_1 : decode cX12_keeps 1 = .ok (.istore_n 2, 1) := by decide +kernel
theorem dX12_keeps_2 : decode cX12_keeps 2 = .ok (.iload_n 2, 1) := by decide +kernel
theorem dX12_keeps_3 : decode cX12_keeps 3 = .ok (.bipush 15, 2) := by decide +kernel
theorem dX12_keeps_5 : decode cX12_keeps 5 = .ok (.if_icmp .ge 26, 3) := by decide +kernel
theorem dX12_keeps_8 : decode cX12_keeps 8 = .ok (.aload_n 0, 1) := by decide +kernel
theorem dX12_keeps_9 : decode cX12_keeps 9 = .ok (.getfield 18, 3) := by decide +kernel
theorem dX12_keeps_12 : decode cX12_keeps 12 = .ok (.bipush 15, 2) := by decide +kernel
theorem dX12_keeps_14 : decode cX12_keeps 14 = .ok (.iload_n 1, 1) := by decide +kernel
theorem dX12_keeps_15 : decode cX12_keeps 15 = .ok (.imul, 1) := by decide +kernel
theorem dX12_keeps_16 : decode cX12_keeps 16 = .ok (.iload_n 2, 1) := by decide +kernel
theorem dX12_keeps_17 : decode cX12_keeps 17 = .ok (.iadd, 1) := by decide +kernel
theorem dX12_keeps_18 : decode cX12_keeps 18 = .ok (.aload_n 0, 1) := by decide +kernel
theorem dX12_keeps_19 : decode cX12_keeps 19 = .ok (.getfield 9, 3) := by decide +kernel
theorem dX12_keeps_22 : decode cX12_keeps 22 = .ok (.iload_n 2, 1) := by decide +kernel
theorem dX12_keeps_23 : decode cX12_keeps 23 = .ok (.iaload, 1) := by decide +kernel
theorem dX12_keeps_24 : decode cX12_keeps 24 = .ok (.iastore, 1) := by decide +kernel
theorem dX12_keeps_25 : decode cX12_keeps 25 = .ok (.iinc 2 1, 3) := by decide +kernel
theorem dX12_keeps_28 : decode cX12_keeps 28 = .ok (.goto (-26), 3) := by decide +kernel
theorem dX12_keeps_31 : decode cX12_keeps 31 = .ok (.return_, 1) := by decide +kernel
theorem dX12_goesBackTo_0 : decode cX12_goesBackTo 0 = .ok (.iconst 0, 1) := by decide +kernel
theorem dX12_goesBackTo_1 : decode cX12_goesBackTo 1 = .ok (.istore_n 2, 1) := by decide +kernel
theorem dX12_goesBackTo_2 : decode cX12_goesBackTo 2 = .ok (.iload_n 2, 1) := by decide +kernel
theorem dX12_goesBackTo_3 : decode cX12_goesBackTo 3 = .ok (.bipush 15, 2) := by decide +kernel
theorem dX12_goesBackTo_5 : decode cX12_goesBackTo 5 = .ok (.if_icmp .ge 26, 3) := by decide +kernel
theorem dX12_goesBackTo_8 : decode cX12_goesBackTo 8 = .ok (.aload_n 0, 1) := by decide +kernel
theorem dX12_goesBackTo_9 : decode cX12_goesBackTo 9 = .ok (.getfield 9, 3) := by decide +kernel
theorem dX12_goesBackTo_12 : decode cX12_goesBackTo 12 = .ok (.iload_n 2, 1) := by decide +kernel
theorem dX12_goesBackTo_13 : decode cX12_goesBackTo 13 = .ok (.aload_n 0, 1) := by decide +kernel
theorem dX12_goesBackTo_14 : decode cX12_goesBackTo 14 = .ok (.getfield 18, 3) := by decide +kernel
theorem dX12_goesBackTo_17 : decode cX12_goesBackTo 17 = .ok (.bipush 15, 2) := by decide +kernel
theorem dX12_goesBackTo_19 : decode cX12_goesBackTo 19 = .ok (.iload_n 1, 1) := by decide +kernel
theorem dX12_goesBackTo_20 : decode cX12_goesBackTo 20 = .ok (.imul, 1) := by decide +kernel
theorem dX12_goesBackTo_21 : decode cX12_goesBackTo 21 = .ok (.iload_n 2, 1) := by decide +kernel
theorem dX12_goesBackTo_22 : decode cX12_goesBackTo 22 = .ok (.iadd, 1) := by decide +kernel
theorem dX12_goesBackTo_23 : decode cX12_goesBackTo 23 = .ok (.iaload, 1) := by decide +kernel
theorem dX12_goesBackTo_24 : decode cX12_goesBackTo 24 = .ok (.iastore, 1) := by decide +kernel
theorem dX12_goesBackTo_25 : decode cX12_goesBackTo 25 = .ok (.iinc 2 1, 3) := by decide +kernel
theorem dX12_goesBackTo_28 : decode cX12_goesBackTo 28 = .ok (.goto (-26), 3) := by decide +kernel
theorem dX12_goesBackTo_31 : decode cX12_goesBackTo 31 = .ok (.return_, 1) := by decide +kernel
theorem dX12_stand_0 : decode cX12_stand 0 = .ok (.iload_n 1, 1) := by decide +kernel
theorem dX12_stand_1 : decode cX12_stand 1 = .ok (.invokestatic 55, 3) := by decide +kernel
theorem dX12_stand_4 : decode cX12_stand 4 = .ok (.ifCond .ne 5, 3) := by decide +kernel
theorem dX12_stand_7 : decode cX12_stand 7 = .ok (.iconst (-1), 1) := by decide +kernel
theorem dX12_stand_8 : decode cX12_stand 8 = .ok (.ireturn, 1) := by decide +kernel
theorem dX12_stand_9 : decode cX12_stand 9 = .ok (.iload_n 2, 1) := by decide +kernel
theorem dX12_stand_10 : decode cX12_stand 10 = .ok (.iconst 0, 1) := by decide +kernel
theorem dX12_stand_11 : decode cX12_stand 11 = .ok (.bipush 9, 2) := by decide +kernel
theorem dX12_stand_13 : decode cX12_stand 13 = .ok (.invokestatic 51, 3) := by decide +kernel
theorem dX12_stand_16 : decode cX12_stand 16 = .ok (.ifCond .ne 6, 3) := by decide +kernel
theorem dX12_stand_19 : decode cX12_stand 19 = .ok (.bipush (-2), 2) := by decide +kernel
theorem dX12_stand_21 : decode cX12_stand 21 = .ok (.ireturn, 1) := by decide +kernel
theorem dX12_stand_22 : decode cX12_stand 22 = .ok (.aload_n 0, 1) := by decide +kernel
theorem dX12_stand_23 : decode cX12_stand 23 = .ok (.getfield 9, 3) := by decide +kernel
theorem dX12_stand_26 : decode cX12_stand 26 = .ok (.iconst 0, 1) := by decide +kernel
theorem dX12_stand_27 : decode cX12_stand 27 = .ok (.iload_n 1, 1) := by decide +kernel
theorem dX12_stand_28 : decode cX12_stand 28 = .ok (.iadd, 1) := by decide +kernel
theorem dX12_stand_29 : decode cX12_stand 29 = .ok (.iaload, 1) := by decide +kernel
theorem dX12_stand_30 : decode cX12_stand 30 = .ok (.istore_n 3, 1) := by decide +kernel
theorem dX12_stand_31 : decode cX12_stand 31 = .ok (.aload_n 0, 1) := by decide +kernel
theorem dX12_stand_32 : decode cX12_stand 32 = .ok (.getfield 9, 3) := by decide +kernel
theorem dX12_stand_35 : decode cX12_stand 35 = .ok (.iconst 0, 1) := by decide +kernel
theorem dX12_stand_36 : decode cX12_stand 36 = .ok (.iload_n 1, 1) := by decide +kernel
theorem dX12_stand_37 : decode cX12_stand 37 = .ok (.iadd, 1) := by decide +kernel
theorem dX12_stand_38 : decode cX12_stand 38 = .ok (.iload_n 2, 1) := by decide +kernel
theorem dX12_stand_39 : decode cX12_stand 39 = .ok (.iastore, 1) := by decide +kernel
theorem dX12_stand_40 : decode cX12_stand 40 = .ok (.iload_n 3, 1) := by decide +kernel
theorem dX12_stand_41 : decode cX12_stand 41 = .ok (.ireturn, 1) := by decide +kernel
theorem dX12_feed_0 : decode cX12_feed 0 = .ok (.iload_n 3, 1) := by decide +kernel
theorem dX12_feed_1 : decode cX12_feed 1 = .ok (.iconst 1, 1) := by decide +kernel
theorem dX12_feed_2 : decode cX12_feed 2 = .ok (.bipush 8, 2) := by decide +kernel
theorem dX12_feed_4 : decode cX12_feed 4 = .ok (.invokestatic 51, 3) := by decide +kernel
theorem dX12_feed_7 : decode cX12_feed 7 = .ok (.ifCond .ne 6, 3) := by decide +kernel
theorem dX12_feed_10 : decode cX12_feed 10 = .ok (.bipush (-2), 2) := by decide +kernel
theorem dX12_feed_12 : decode cX12_feed 12 = .ok (.ireturn, 1) := by decide +kernel
theorem dX12_feed_13 : decode cX12_feed 13 = .ok (.aload_n 0, 1) := by decide +kernel
theorem dX12_feed_14 : decode cX12_feed 14 = .ok (.getfield 9, 3) := by decide +kernel
theorem dX12_feed_17 : decode cX12_feed 17 = .ok (.bipush 19, 2) := by decide +kernel
theorem dX12_feed_19 : decode cX12_feed 19 = .ok (.iaload, 1) := by decide +kernel
theorem dX12_feed_20 : decode cX12_feed 20 = .ok (.iload_n 3, 1) := by decide +kernel
theorem dX12_feed_21 : decode cX12_feed 21 = .ok (.iadd, 1) := by decide +kernel
theorem dX12_feed_22 : decode cX12_feed 22 = .ok (.bipush 120, 2) := by decide +kernel
theorem dX12_feed_24 : decode cX12_feed 24 = .ok (.if_icmp .le 6, 3) := by decide +kernel
theorem dX12_feed_27 : decode cX12_feed 27 = .ok (.bipush (-4), 2) := by decide +kernel
theorem dX12_feed_29 : decode cX12_feed 29 = .ok (.ireturn, 1) := by decide +kernel
theorem dX12_feed_30 : decode cX12_feed 30 = .ok (.iload_n 3, 1) := by decide +kernel
theorem dX12_feed_31 : decode cX12_feed 31 = .ok (.iconst 1, 1) := by decide +kernel
theorem dX12_feed_32 : decode cX12_feed 32 = .ok (.isub, 1) := by decide +kernel
theorem dX12_feed_33 : decode cX12_feed 33 = .ok (.istore 4, 2) := by decide +kernel
theorem dX12_feed_35 : decode cX12_feed 35 = .ok (.iload 4, 2) := by decide +kernel
theorem dX12_feed_37 : decode cX12_feed 37 = .ok (.ifCond .lt 47, 3) := by decide +kernel
theorem dX12_feed_40 : decode cX12_feed 40 = .ok (.aload_n 0, 1) := by decide +kernel
theorem dX12_feed_41 : decode cX12_feed 41 = .ok (.getfield 9, 3) := by decide +kernel
theorem dX12_feed_44 : decode cX12_feed 44 = .ok (.bipush 30, 2) := by decide +kernel
theorem dX12_feed_46 : decode cX12_feed 46 = .ok (.aload_n 0, 1) := by decide +kernel
theorem dX12_feed_47 : decode cX12_feed 47 = .ok (.getfield 9, 3) := by decide +kernel
theorem dX12_feed_50 : decode cX12_feed 50 = .ok (.bipush 19, 2) := by decide +kernel
theorem dX12_feed_52 : decode cX12_feed 52 = .ok (.iaload, 1) := by decide +kernel
theorem dX12_feed_53 : decode cX12_feed 53 = .ok (.iadd, 1) := by decide +kernel
theorem dX12_feed_54 : decode cX12_feed 54 = .ok (.lload_n 1, 1) := by decide +kernel
theorem dX12_feed_55 : decode cX12_feed 55 = .ok (.bipush 8, 2) := by decide +kernel
theorem dX12_feed_57 : decode cX12_feed 57 = .ok (.iload 4, 2) := by decide +kernel
theorem dX12_feed_59 : decode cX12_feed 59 = .ok (.imul, 1) := by decide +kernel
theorem dX12_feed_60 : decode cX12_feed 60 = .ok (.lshr, 1) := by decide +kernel
theorem dX12_feed_61 : decode cX12_feed 61 = .ok (.ldc2_w 59, 3) := by decide +kernel
theorem dX12_feed_64 : decode cX12_feed 64 = .ok (.land, 1) := by decide +kernel
theorem dX12_feed_65 : decode cX12_feed 65 = .ok (.l2i, 1) := by decide +kernel
theorem dX12_feed_66 : decode cX12_feed 66 = .ok (.iastore, 1) := by decide +kernel
theorem dX12_feed_67 : decode cX12_feed 67 = .ok (.aload_n 0, 1) := by decide +kernel
theorem dX12_feed_68 : decode cX12_feed 68 = .ok (.getfield 9, 3) := by decide +kernel
theorem dX12_feed_71 : decode cX12_feed 71 = .ok (.bipush 19, 2) := by decide +kernel
theorem dX12_feed_73 : decode cX12_feed 73 = .ok (.dup2, 1) := by decide +kernel
theorem dX12_feed_74 : decode cX12_feed 74 = .ok (.iaload, 1) := by decide +kernel
theorem dX12_feed_75 : decode cX12_feed 75 = .ok (.iconst 1, 1) := by decide +kernel
theorem dX12_feed_76 : decode cX12_feed 76 = .ok (.iadd, 1) := by decide +kernel
theorem dX12_feed_77 : decode cX12_feed 77 = .ok (.iastore, 1) := by decide +kernel
theorem dX12_feed_78 : decode cX12_feed 78 = .ok (.iinc 4 (-1), 3) := by decide +kernel
theorem dX12_feed_81 : decode cX12_feed 81 = .ok (.goto (-46), 3) := by decide +kernel
theorem dX12_feed_84 : decode cX12_feed 84 = .ok (.aload_n 0, 1) := by decide +kernel
theorem dX12_feed_85 : decode cX12_feed 85 = .ok (.getfield 9, 3) := by decide +kernel
theorem dX12_feed_88 : decode cX12_feed 88 = .ok (.bipush 19, 2) := by decide +kernel
theorem dX12_feed_90 : decode cX12_feed 90 = .ok (.iaload, 1) := by decide +kernel
theorem dX12_feed_91 : decode cX12_feed 91 = .ok (.ireturn, 1) := by decide +kernel
theorem dX12_here_0 : decode cX12_here 0 = .ok (.aload_n 0, 1) := by decide +kernel
theorem dX12_here_1 : decode cX12_here 1 = .ok (.getfield 61, 3) := by decide +kernel
theorem dX12_here_4 : decode cX12_here 4 = .ok (.aload_n 0, 1) := by decide +kernel
theorem dX12_here_5 : decode cX12_here 5 = .ok (.getfield 64, 3) := by decide +kernel
theorem dX12_here_8 : decode cX12_here 8 = .ok (.if_icmp .ge 18, 3) := by decide +kernel
theorem dX12_here_11 : decode cX12_here 11 = .ok (.aload_n 0, 1) := by decide +kernel
theorem dX12_here_12 : decode cX12_here 12 = .ok (.getfield 9, 3) := by decide +kernel
theorem dX12_here_15 : decode cX12_here 15 = .ok (.bipush 30, 2) := by decide +kernel
theorem dX12_here_17 : decode cX12_here 17 = .ok (.aload_n 0, 1) := by decide +kernel
theorem dX12_here_18 : decode cX12_here 18 = .ok (.getfield 61, 3) := by decide +kernel
theorem dX12_here_21 : decode cX12_here 21 = .ok (.iadd, 1) := by decide +kernel
theorem dX12_here_22 : decode cX12_here 22 = .ok (.iaload, 1) := by decide +kernel
theorem dX12_here_23 : decode cX12_here 23 = .ok (.goto 4, 3) := by decide +kernel
theorem dX12_here_26 : decode cX12_here 26 = .ok (.iconst (-1), 1) := by decide +kernel
theorem dX12_here_27 : decode cX12_here 27 = .ok (.ireturn, 1) := by decide +kernel
theorem dX12_must_0 : decode cX12_must 0 = .ok (.aload_n 0, 1) := by decide +kernel
theorem dX12_must_1 : decode cX12_must 1 = .ok (.aload_n 0, 1) := by decide +kernel
theorem dX12_must_2 : decode cX12_must 2 = .ok (.getfield 67, 3) := by decide +kernel
theorem dX12_must_5 : decode cX12_must 5 = .ok (.ifCond .ne 11, 3) := by decide +kernel
theorem dX12_must_8 : decode cX12_must 8 = .ok (.aload_n 0, 1) := by decide +kernel
theorem dX12_must_9 : decode cX12_must 9 = .ok (.invokevirtual 71, 3) := by decide +kernel
theorem dX12_must_12 : decode cX12_must 12 = .ok (.iload_n 1, 1) := by decide +kernel
theorem dX12_must_13 : decode cX12_must 13 = .ok (.if_icmp .eq 7, 3) := by decide +kernel
theorem dX12_must_16 : decode cX12_must 16 = .ok (.iconst 1, 1) := by decide +kernel
theorem dX12_must_17 : decode cX12_must 17 = .ok (.goto 4, 3) := by decide +kernel
theorem dX12_must_20 : decode cX12_must 20 = .ok (.iconst 0, 1) := by decide +kernel
theorem dX12_must_21 : decode cX12_must 21 = .ok (.putfield 67, 3) := by decide +kernel
theorem dX12_must_24 : decode cX12_must 24 = .ok (.aload_n 0, 1) := by decide +kernel
theorem dX12_must_25 : decode cX12_must 25 = .ok (.dup, 1) := by decide +kernel
theorem dX12_must_26 : decode cX12_must 26 = .ok (.getfield 61, 3) := by decide +kernel
theorem dX12_must_29 : decode cX12_must 29 = .ok (.aload_n 0, 1) := by decide +kernel
theorem dX12_must_30 : decode cX12_must 30 = .ok (.getfield 67, 3) := by decide +kernel
theorem dX12_must_33 : decode cX12_must 33 = .ok (.ifCond .eq 7, 3) := by decide +kernel
theorem dX12_must_36 : decode cX12_must 36 = .ok (.iconst 0, 1) := by decide +kernel
theorem dX12_must_37 : decode cX12_must 37 = .ok (.goto 4, 3) := by decide +kernel
theorem dX12_must_40 : decode cX12_must 40 = .ok (.iconst 1, 1) := by decide +kernel
theorem dX12_must_41 : decode cX12_must 41 = .ok (.iadd, 1) := by decide +kernel
theorem dX12_must_42 : decode cX12_must 42 = .ok (.putfield 61, 3) := by decide +kernel
theorem dX12_must_45 : decode cX12_must 45 = .ok (.return_, 1) := by decide +kernel
theorem dX12_spells_0 : decode cX12_spells 0 = .ok (.iconst 0, 1) := by decide +kernel
theorem dX12_spells_1 : decode cX12_spells 1 = .ok (.istore_n 2, 1) := by decide +kernel
theorem dX12_spells_2 : decode cX12_spells 2 = .ok (.iload_n 2, 1) := by decide +kernel
theorem dX12_spells_3 : decode cX12_spells 3 = .ok (.aload_n 1, 1) := by decide +kernel
theorem dX12_spells_4 : decode cX12_spells 4 = .ok (.invokevirtual 75, 3) := by decide +kernel
theorem dX12_spells_7 : decode cX12_spells 7 = .ok (.if_icmp .ge 18, 3) := by decide +kernel
theorem dX12_spells_10 : decode cX12_spells 10 = .ok (.aload_n 0, 1) := by decide +kernel
theorem dX12_spells_11 : decode cX12_spells 11 = .ok (.aload_n 1, 1) := by decide +kernel
theorem dX12_spells_12 : decode cX12_spells 12 = .ok (.iload_n 2, 1) := by decide +kernel
theorem dX12_spells_13 : decode cX12_spells 13 = .ok (.invokevirtual 80, 3) := by decide +kernel
theorem dX12_spells_16 : decode cX12_spells 16 = .ok (.invokevirtual 84, 3) := by decide +kernel
theorem dX12_spells_19 : decode cX12_spells 19 = .ok (.iinc 2 1, 3) := by decide +kernel
theorem dX12_spells_22 : decode cX12_spells 22 = .ok (.goto (-20), 3) := by decide +kernel
theorem dX12_spells_25 : decode cX12_spells 25 = .ok (.return_, 1) := by decide +kernel
theorem dX12_figures_0 : decode cX12_figures 0 = .ok (.aload_n 0, 1) := by decide +kernel
theorem dX12_figures_1 : decode cX12_figures 1 = .ok (.aload_n 0, 1) := by decide +kernel
theorem dX12_figures_2 : decode cX12_figures 2 = .ok (.getfield 67, 3) := by decide +kernel
theorem dX12_figures_5 : decode cX12_figures 5 = .ok (.ifCond .ne 17, 3) := by decide +kernel
theorem dX12_figures_8 : decode cX12_figures 8 = .ok (.aload_n 0, 1) := by decide +kernel
theorem dX12_figures_9 : decode cX12_figures 9 = .ok (.invokevirtual 71, 3) := by decide +kernel
theorem dX12_figures_12 : decode cX12_figures 12 = .ok (.bipush 48, 2) := by decide +kernel
theorem dX12_figures_14 : decode cX12_figures 14 = .ok (.bipush 57, 2) := by decide +kernel
theorem dX12_figures_16 : decode cX12_figures 16 = .ok (.invokestatic 51, 3) := by decide +kernel
theorem dX12_figures_19 : decode cX12_figures 19 = .ok (.ifCond .ne 7, 3) := by decide +kernel
theorem dX12_figures_22 : decode cX12_figures 22 = .ok (.iconst 1, 1) := by decide +kernel
theorem dX12_figures_23 : decode cX12_figures 23 = .ok (.goto 4, 3) := by decide +kernel
theorem dX12_figures_26 : decode cX12_figures 26 = .ok (.iconst 0, 1) := by decide +kernel
theorem dX12_figures_27 : decode cX12_figures 27 = .ok (.putfield 67, 3) := by decide +kernel
theorem dX12_figures_30 : decode cX12_figures 30 = .ok (.iconst 0, 1) := by decide +kernel
theorem dX12_figures_31 : decode cX12_figures 31 = .ok (.istore_n 1, 1) := by decide +kernel
theorem dX12_figures_32 : decode cX12_figures 32 = .ok (.iconst 0, 1) := by decide +kernel
theorem dX12_figures_33 : decode cX12_figures 33 = .ok (.istore_n 2, 1) := by decide +kernel
theorem dX12_figures_34 : decode cX12_figures 34 = .ok (.iload_n 2, 1) := by decide +kernel
theorem dX12_figures_35 : decode cX12_figures 35 = .ok (.iconst 2, 1) := by decide +kernel
theorem dX12_figures_36 : decode cX12_figures 36 = .ok (.if_icmp .ge 61, 3) := by decide +kernel
theorem dX12_figures_39 : decode cX12_figures 39 = .ok (.aload_n 0, 1) := by decide +kernel
theorem dX12_figures_40 : decode cX12_figures 40 = .ok (.getfield 67, 3) := by decide +kernel
theorem dX12_figures_43 : decode cX12_figures 43 = .ok (.ifCond .ne 54, 3) := by decide +kernel
theorem dX12_figures_46 : decode cX12_figures 46 = .ok (.aload_n 0, 1) := by decide +kernel
theorem dX12_figures_47 : decode cX12_figures 47 = .ok (.invokevirtual 71, 3) := by decide +kernel
theorem dX12_figures_50 : decode cX12_figures 50 = .ok (.bipush 48, 2) := by decide +kernel
theorem dX12_figures_52 : decode cX12_figures 52 = .ok (.bipush 57, 2) := by decide +kernel
theorem dX12_figures_54 : decode cX12_figures 54 = .ok (.invokestatic 51, 3) := by decide +kernel
theorem dX12_figures_57 : decode cX12_figures 57 = .ok (.ifCond .eq 40, 3) := by decide +kernel
theorem dX12_figures_60 : decode cX12_figures 60 = .ok (.iload_n 2, 1) := by decide +kernel
theorem dX12_figures_61 : decode cX12_figures 61 = .ok (.ifCond .eq 7, 3) := by decide +kernel
theorem dX12_figures_64 : decode cX12_figures 64 = .ok (.iload_n 1, 1) := by decide +kernel
theorem dX12_figures_65 : decode cX12_figures 65 = .ok (.ifCond .le 32, 3) := by decide +kernel
theorem dX12_figures_68 : decode cX12_figures 68 = .ok (.bipush 10, 2) := by decide +kernel
theorem dX12_figures_70 : decode cX12_figures 70 = .ok (.iload_n 1, 1) := by decide +kernel
theorem dX12_figures_71 : decode cX12_figures 71 = .ok (.imul, 1) := by decide +kernel
theorem dX12_figures_72 : decode cX12_figures 72 = .ok (.aload_n 0, 1) := by decide +kernel
theorem dX12_figures_73 : decode cX12_figures 73 = .ok (.invokevirtual 71, 3) := by decide +kernel
theorem dX12_figures_76 : decode cX12_figures 76 = .ok (.iadd, 1) := by decide +kernel
theorem dX12_figures_77 : decode cX12_figures 77 = .ok (.bipush 48, 2) := by decide +kernel
theorem dX12_figures_79 : decode cX12_figures 79 = .ok (.isub, 1) := by decide +kernel
theorem dX12_figures_80 : decode cX12_figures 80 = .ok (.istore_n 1, 1) := by decide +kernel
theorem dX12_figures_81 : decode cX12_figures 81 = .ok (.aload_n 0, 1) := by decide +kernel
theorem dX12_figures_82 : decode cX12_figures 82 = .ok (.dup, 1) := by decide +kernel
theorem dX12_figures_83 : decode cX12_figures 83 = .ok (.getfield 61, 3) := by decide +kernel
theorem dX12_figures_86 : decode cX12_figures 86 = .ok (.iconst 1, 1) := by decide +kernel
theorem dX12_figures_87 : decode cX12_figures 87 = .ok (.iadd, 1) := by decide +kernel
theorem dX12_figures_88 : decode cX12_figures 88 = .ok (.putfield 61, 3) := by decide +kernel
theorem dX12_figures_91 : decode cX12_figures 91 = .ok (.iinc 2 1, 3) := by decide +kernel
theorem dX12_figures_94 : decode cX12_figures 94 = .ok (.goto (-60), 3) := by decide +kernel
theorem dX12_figures_97 : decode cX12_figures 97 = .ok (.iload_n 1, 1) := by decide +kernel
theorem dX12_figures_98 : decode cX12_figures 98 = .ok (.ireturn, 1) := by decide +kernel
theorem dX12_among_0 : decode cX12_among 0 = .ok (.iconst 0, 1) := by decide +kernel
theorem dX12_among_1 : decode cX12_among 1 = .ok (.istore_n 2, 1) := by decide +kernel
theorem dX12_among_2 : decode cX12_among 2 = .ok (.iload_n 2, 1) := by decide +kernel
theorem dX12_among_3 : decode cX12_among 3 = .ok (.aload_n 1, 1) := by decide +kernel
theorem dX12_among_4 : decode cX12_among 4 = .ok (.invokevirtual 75, 3) := by decide +kernel
theorem dX12_among_7 : decode cX12_among 7 = .ok (.if_icmp .ge 33, 3) := by decide +kernel
theorem dX12_among_10 : decode cX12_among 10 = .ok (.aload_n 0, 1) := by decide +kernel
theorem dX12_among_11 : decode cX12_among 11 = .ok (.invokevirtual 71, 3) := by decide +kernel
theorem dX12_among_14 : decode cX12_among 14 = .ok (.aload_n 1, 1) := by decide +kernel
theorem dX12_among_15 : decode cX12_among 15 = .ok (.iload_n 2, 1) := by decide +kernel
theorem dX12_among_16 : decode cX12_among 16 = .ok (.invokevirtual 80, 3) := by decide +kernel
theorem dX12_among_19 : decode cX12_among 19 = .ok (.if_icmp .ne 15, 3) := by decide +kernel
theorem dX12_among_22 : decode cX12_among 22 = .ok (.aload_n 0, 1) := by decide +kernel
theorem dX12_among_23 : decode cX12_among 23 = .ok (.dup, 1) := by decide +kernel
theorem dX12_among_24 : decode cX12_among 24 = .ok (.getfield 61, 3) := by decide +kernel
theorem dX12_among_27 : decode cX12_among 27 = .ok (.iconst 1, 1) := by decide +kernel
theorem dX12_among_28 : decode cX12_among 28 = .ok (.iadd, 1) := by decide +kernel
theorem dX12_among_29 : decode cX12_among 29 = .ok (.putfield 61, 3) := by decide +kernel
theorem dX12_among_32 : decode cX12_among 32 = .ok (.iload_n 2, 1) := by decide +kernel
theorem dX12_among_33 : decode cX12_among 33 = .ok (.ireturn, 1) := by decide +kernel
theorem dX12_among_34 : decode cX12_among 34 = .ok (.iinc 2 1, 3) := by decide +kernel
theorem dX12_among_37 : decode cX12_among 37 = .ok (.goto (-35), 3) := by decide +kernel
theorem dX12_among_40 : decode cX12_among 40 = .ok (.iconst (-1), 1) := by decide +kernel
theorem dX12_among_41 : decode cX12_among 41 = .ok (.ireturn, 1) := by decide +kernel
theorem dX12_emits_0 : decode cX12_emits 0 = .ok (.aload_n 0, 1) := by decide +kernel
theorem dX12_emits_1 : decode cX12_emits 1 = .ok (.getfield 67, 3) := by decide +kernel
theorem dX12_emits_4 : decode cX12_emits 4 = .ok (.ifCond .ne 52, 3) := by decide +kernel
theorem dX12_emits_7 : decode cX12_emits 7 = .ok (.aload_n 0, 1) := by decide +kernel
theorem dX12_emits_8 : decode cX12_emits 8 = .ok (.getfield 9, 3) := by decide +kernel
theorem dX12_emits_11 : decode cX12_emits 11 = .ok (.sipush 240, 3) := by decide +kernel
theorem dX12_emits_14 : decode cX12_emits 14 = .ok (.sipush 140, 3) := by decide +kernel
theorem dX12_emits_17 : decode cX12_emits 17 = .ok (.aload_n 0, 1) := by decide +kernel
theorem dX12_emits_18 : decode cX12_emits 18 = .ok (.getfield 88, 3) := by decide +kernel
theorem dX12_emits_21 : decode cX12_emits 21 = .ok (.imul, 1) := by decide +kernel
theorem dX12_emits_22 : decode cX12_emits 22 = .ok (.iadd, 1) := by decide +kernel
theorem dX12_emits_23 : decode cX12_emits 23 = .ok (.aload_n 0, 1) := by decide +kernel
theorem dX12_emits_24 : decode cX12_emits 24 = .ok (.getfield 9, 3) := by decide +kernel
theorem dX12_emits_27 : decode cX12_emits 27 = .ok (.sipush 235, 3) := by decide +kernel
theorem dX12_emits_30 : decode cX12_emits 30 = .ok (.aload_n 0, 1) := by decide +kernel
theorem dX12_emits_31 : decode cX12_emits 31 = .ok (.getfield 88, 3) := by decide +kernel
theorem dX12_emits_34 : decode cX12_emits 34 = .ok (.iadd, 1) := by decide +kernel
theorem dX12_emits_35 : decode cX12_emits 35 = .ok (.iaload, 1) := by decide +kernel
theorem dX12_emits_36 : decode cX12_emits 36 = .ok (.iadd, 1) := by decide +kernel
theorem dX12_emits_37 : decode cX12_emits 37 = .ok (.iload_n 1, 1) := by decide +kernel
theorem dX12_emits_38 : decode cX12_emits 38 = .ok (.iastore, 1) := by decide +kernel
theorem dX12_emits_39 : decode cX12_emits 39 = .ok (.aload_n 0, 1) := by decide +kernel
theorem dX12_emits_40 : decode cX12_emits 40 = .ok (.getfield 9, 3) := by decide +kernel
theorem dX12_emits_43 : decode cX12_emits 43 = .ok (.sipush 235, 3) := by decide +kernel
theorem dX12_emits_46 : decode cX12_emits 46 = .ok (.aload_n 0, 1) := by decide +kernel
theorem dX12_emits_47 : decode cX12_emits 47 = .ok (.getfield 88, 3) := by decide +kernel
theorem dX12_emits_50 : decode cX12_emits 50 = .ok (.iadd, 1) := by decide +kernel
theorem dX12_emits_51 : decode cX12_emits 51 = .ok (.dup2, 1) := by decide +kernel
theorem dX12_emits_52 : decode cX12_emits 52 = .ok (.iaload, 1) := by decide +kernel
theorem dX12_emits_53 : decode cX12_emits 53 = .ok (.iconst 1, 1) := by decide +kernel
theorem dX12_emits_54 : decode cX12_emits 54 = .ok (.iadd, 1) := by decide +kernel
theorem dX12_emits_55 : decode cX12_emits 55 = .ok (.iastore, 1) := by decide +kernel
theorem dX12_emits_56 : decode cX12_emits 56 = .ok (.return_, 1) := by decide +kernel
theorem dX12_factor_0 : decode cX12_factor 0 = .ok (.aload_n 0, 1) := by decide +kernel
theorem dX12_factor_1 : decode cX12_factor 1 = .ok (.getfield 67, 3) := by decide +kernel
theorem dX12_factor_4 : decode cX12_factor 4 = .ok (.ifCond .eq 4, 3) := by decide +kernel
theorem dX12_factor_7 : decode cX12_factor 7 = .ok (.return_, 1) := by decide +kernel
theorem dX12_factor_8 : decode cX12_factor 8 = .ok (.aload_n 0, 1) := by decide +kernel
theorem dX12_factor_9 : decode cX12_factor 9 = .ok (.invokevirtual 71, 3) := by decide +kernel
theorem dX12_factor_12 : decode cX12_factor 12 = .ok (.istore_n 1, 1) := by decide +kernel
theorem dX12_factor_13 : decode cX12_factor 13 = .ok (.iload_n 1, 1) := by decide +kernel
theorem dX12_factor_14 : decode cX12_factor 14 = .ok (.bipush 33, 2) := by decide +kernel
theorem dX12_factor_16 : decode cX12_factor 16 = .ok (.if_icmp .eq 9, 3) := by decide +kernel
theorem dX12_factor_19 : decode cX12_factor 19 = .ok (.iload_n 1, 1) := by decide +kernel
theorem dX12_factor_20 : decode cX12_factor 20 = .ok (.bipush 40, 2) := by decide +kernel
theorem dX12_factor_22 : decode cX12_factor 22 = .ok (.if_icmp .ne 90, 3) := by decide +kernel
theorem dX12_factor_25 : decode cX12_factor 25 = .ok (.aload_n 0, 1) := by decide +kernel
theorem dX12_factor_26 : decode cX12_factor 26 = .ok (.aload_n 0, 1) := by decide +kernel
theorem dX12_factor_27 : decode cX12_factor 27 = .ok (.getfield 91, 3) := by decide +kernel
theorem dX12_factor_30 : decode cX12_factor 30 = .ok (.iconst 5, 1) := by decide +kernel
theorem dX12_factor_31 : decode cX12_factor 31 = .ok (.if_icmp .ne 7, 3) := by decide +kernel
