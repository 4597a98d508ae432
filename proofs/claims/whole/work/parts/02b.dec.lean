theorem dX7_readEither_0 : decode cX7_readEither 0 = .ok (.aload_n 0, 1) := by decide +kernel
theorem dX7_readEither_1 : decode cX7_readEither 1 = .ok (.iload_n 1, 1) := by decide +kernel
theorem dX7_readEither_2 : decode cX7_readEither 2 = .ok (.invokevirtual 135, 3) := by decide +kernel
theorem dX7_readEither_5 : decode cX7_readEither 5 = .ok (.ifCond .ne 5, 3) := by decide +kernel
theorem dX7_readEither_8 : decode cX7_readEither 8 = .ok (.iconst 0, 1) := by decide +kernel
theorem dX7_readEither_9 : decode cX7_readEither 9 = .ok (.ireturn, 1) := by decide +kernel
theorem dX7_readEither_10 : decode cX7_readEither 10 = .ok (.iconst 0, 1) := by decide +kernel
theorem dX7_readEither_11 : decode cX7_readEither 11 = .ok (.istore_n 2, 1) := by decide +kernel
theorem dX7_readEither_12 : decode cX7_readEither 12 = .ok (.iload_n 2, 1) := by decide +kernel
theorem dX7_readEither_13 : decode cX7_readEither 13 = .ok (.bipush 120, 2) := by decide +kernel
theorem dX7_readEither_15 : decode cX7_readEither 15 = .ok (.if_icmp .ge 37, 3) := by decide +kernel
theorem dX7_readEither_18 : decode cX7_readEither 18 = .ok (.aload_n 0, 1) := by decide +kernel
theorem dX7_readEither_19 : decode cX7_readEither 19 = .ok (.bipush 124, 2) := by decide +kernel
theorem dX7_readEither_21 : decode cX7_readEither 21 = .ok (.invokevirtual 72, 3) := by decide +kernel
theorem dX7_readEither_24 : decode cX7_readEither 24 = .ok (.ifCond .eq 28, 3) := by decide +kernel
theorem dX7_readEither_27 : decode cX7_readEither 27 = .ok (.aload_n 0, 1) := by decide +kernel
theorem dX7_readEither_28 : decode cX7_readEither 28 = .ok (.iload_n 1, 1) := by decide +kernel
theorem dX7_readEither_29 : decode cX7_readEither 29 = .ok (.invokevirtual 135, 3) := by decide +kernel
theorem dX7_readEither_32 : decode cX7_readEither 32 = .ok (.ifCond .eq 12, 3) := by decide +kernel
theorem dX7_readEither_35 : decode cX7_readEither 35 = .ok (.aload_n 0, 1) := by decide +kernel
theorem dX7_readEither_36 : decode cX7_readEither 36 = .ok (.bipush (-3), 2) := by decide +kernel
theorem dX7_readEither_38 : decode cX7_readEither 38 = .ok (.invokevirtual 138, 3) := by decide +kernel
theorem dX7_readEither_41 : decode cX7_readEither 41 = .ok (.ifCond .ne 5, 3) := by decide +kernel
theorem dX7_readEither_44 : decode cX7_readEither 44 = .ok (.iconst 0, 1) := by decide +kernel
theorem dX7_readEither_45 : decode cX7_readEither 45 = .ok (.ireturn, 1) := by decide +kernel
theorem dX7_readEither_46 : decode cX7_readEither 46 = .ok (.iinc 2 1, 3) := by decide +kernel
theorem dX7_readEither_49 : decode cX7_readEither 49 = .ok (.goto (-37), 3) := by decide +kernel
theorem dX7_readEither_52 : decode cX7_readEither 52 = .ok (.iconst 1, 1) := by decide +kernel
theorem dX7_readEither_53 : decode cX7_readEither 53 = .ok (.ireturn, 1) := by decide +kernel
theorem dX7_readBoth_0 : decode cX7_readBoth 0 = .ok (.aload_n 0, 1) := by decide +kernel
theorem dX7_readBoth_1 : decode cX7_readBoth 1 = .ok (.iload_n 1, 1) := by decide +kernel
theorem dX7_readBoth_2 : decode cX7_readBoth 2 = .ok (.invokevirtual 141, 3) := by decide +kernel
theorem dX7_readBoth_5 : decode cX7_readBoth 5 = .ok (.ifCond .ne 5, 3) := by decide +kernel
theorem dX7_readBoth_8 : decode cX7_readBoth 8 = .ok (.iconst 0, 1) := by decide +kernel
theorem dX7_readBoth_9 : decode cX7_readBoth 9 = .ok (.ireturn, 1) := by decide +kernel
theorem dX7_readBoth_10 : decode cX7_readBoth 10 = .ok (.iconst 0, 1) := by decide +kernel
theorem dX7_readBoth_11 : decode cX7_readBoth 11 = .ok (.istore_n 2, 1) := by decide +kernel
theorem dX7_readBoth_12 : decode cX7_readBoth 12 = .ok (.iload_n 2, 1) := by decide +kernel
theorem dX7_readBoth_13 : decode cX7_readBoth 13 = .ok (.bipush 120, 2) := by decide +kernel
theorem dX7_readBoth_15 : decode cX7_readBoth 15 = .ok (.if_icmp .ge 37, 3) := by decide +kernel
theorem dX7_readBoth_18 : decode cX7_readBoth 18 = .ok (.aload_n 0, 1) := by decide +kernel
theorem dX7_readBoth_19 : decode cX7_readBoth 19 = .ok (.bipush 38, 2) := by decide +kernel
theorem dX7_readBoth_21 : decode cX7_readBoth 21 = .ok (.invokevirtual 72, 3) := by decide +kernel
theorem dX7_readBoth_24 : decode cX7_readBoth 24 = .ok (.ifCond .eq 28, 3) := by decide +kernel
theorem dX7_readBoth_27 : decode cX7_readBoth 27 = .ok (.aload_n 0, 1) := by decide +kernel
theorem dX7_readBoth_28 : decode cX7_readBoth 28 = .ok (.iload_n 1, 1) := by decide +kernel
theorem dX7_readBoth_29 : decode cX7_readBoth 29 = .ok (.invokevirtual 141, 3) := by decide +kernel
theorem dX7_readBoth_32 : decode cX7_readBoth 32 = .ok (.ifCond .eq 12, 3) := by decide +kernel
theorem dX7_readBoth_35 : decode cX7_readBoth 35 = .ok (.aload_n 0, 1) := by decide +kernel
theorem dX7_readBoth_36 : decode cX7_readBoth 36 = .ok (.bipush (-2), 2) := by decide +kernel
theorem dX7_readBoth_38 : decode cX7_readBoth 38 = .ok (.invokevirtual 138, 3) := by decide +kernel
theorem dX7_readBoth_41 : decode cX7_readBoth 41 = .ok (.ifCond .ne 5, 3) := by decide +kernel
theorem dX7_readBoth_44 : decode cX7_readBoth 44 = .ok (.iconst 0, 1) := by decide +kernel
theorem dX7_readBoth_45 : decode cX7_readBoth 45 = .ok (.ireturn, 1) := by decide +kernel
theorem dX7_readBoth_46 : decode cX7_readBoth 46 = .ok (.iinc 2 1, 3) := by decide +kernel
theorem dX7_readBoth_49 : decode cX7_readBoth 49 = .ok (.goto (-37), 3) := by decide +kernel
theorem dX7_readBoth_52 : decode cX7_readBoth 52 = .ok (.iconst 1, 1) := by decide +kernel
theorem dX7_readBoth_53 : decode cX7_readBoth 53 = .ok (.ireturn, 1) := by decide +kernel
theorem dX7_readSingle_0 : decode cX7_readSingle 0 = .ok (.iload_n 1, 1) := by decide +kernel
theorem dX7_readSingle_1 : decode cX7_readSingle 1 = .ok (.iconst 5, 1) := by decide +kernel
theorem dX7_readSingle_2 : decode cX7_readSingle 2 = .ok (.if_icmp .ge 36, 3) := by decide +kernel
theorem dX7_readSingle_5 : decode cX7_readSingle 5 = .ok (.aload_n 0, 1) := by decide +kernel
theorem dX7_readSingle_6 : decode cX7_readSingle 6 = .ok (.bipush 33, 2) := by decide +kernel
theorem dX7_readSingle_8 : decode cX7_readSingle 8 = .ok (.invokevirtual 72, 3) := by decide +kernel
theorem dX7_readSingle_11 : decode cX7_readSingle 11 = .ok (.ifCond .eq 27, 3) := by decide +kernel
theorem dX7_readSingle_14 : decode cX7_readSingle 14 = .ok (.aload_n 0, 1) := by decide +kernel
theorem dX7_readSingle_15 : decode cX7_readSingle 15 = .ok (.iload_n 1, 1) := by decide +kernel
theorem dX7_readSingle_16 : decode cX7_readSingle 16 = .ok (.iconst 1, 1) := by decide +kernel
theorem dX7_readSingle_17 : decode cX7_readSingle 17 = .ok (.iadd, 1) := by decide +kernel
theorem dX7_readSingle_18 : decode cX7_readSingle 18 = .ok (.invokevirtual 141, 3) := by decide +kernel
theorem dX7_readSingle_21 : decode cX7_readSingle 21 = .ok (.ifCond .eq 15, 3) := by decide +kernel
theorem dX7_readSingle_24 : decode cX7_readSingle 24 = .ok (.aload_n 0, 1) := by decide +kernel
theorem dX7_readSingle_25 : decode cX7_readSingle 25 = .ok (.iconst (-1), 1) := by decide +kernel
theorem dX7_readSingle_26 : decode cX7_readSingle 26 = .ok (.invokevirtual 138, 3) := by decide +kernel
theorem dX7_readSingle_29 : decode cX7_readSingle 29 = .ok (.ifCond .eq 7, 3) := by decide +kernel
theorem dX7_readSingle_32 : decode cX7_readSingle 32 = .ok (.iconst 1, 1) := by decide +kernel
theorem dX7_readSingle_33 : decode cX7_readSingle 33 = .ok (.goto 4, 3) := by decide +kernel
theorem dX7_readSingle_36 : decode cX7_readSingle 36 = .ok (.iconst 0, 1) := by decide +kernel
theorem dX7_readSingle_37 : decode cX7_readSingle 37 = .ok (.ireturn, 1) := by decide +kernel
theorem dX7_readSingle_38 : decode cX7_readSingle 38 = .ok (.iload_n 1, 1) := by decide +kernel
theorem dX7_readSingle_39 : decode cX7_readSingle 39 = .ok (.iconst 5, 1) := by decide +kernel
theorem dX7_readSingle_40 : decode cX7_readSingle 40 = .ok (.if_icmp .ge 37, 3) := by decide +kernel
theorem dX7_readSingle_43 : decode cX7_readSingle 43 = .ok (.aload_n 0, 1) := by decide +kernel
theorem dX7_readSingle_44 : decode cX7_readSingle 44 = .ok (.bipush 40, 2) := by decide +kernel
theorem dX7_readSingle_46 : decode cX7_readSingle 46 = .ok (.invokevirtual 72, 3) := by decide +kernel
theorem dX7_readSingle_49 : decode cX7_readSingle 49 = .ok (.ifCond .eq 28, 3) := by decide +kernel
theorem dX7_readSingle_52 : decode cX7_readSingle 52 = .ok (.aload_n 0, 1) := by decide +kernel
theorem dX7_readSingle_53 : decode cX7_readSingle 53 = .ok (.iload_n 1, 1) := by decide +kernel
theorem dX7_readSingle_54 : decode cX7_readSingle 54 = .ok (.iconst 1, 1) := by decide +kernel
theorem dX7_readSingle_55 : decode cX7_readSingle 55 = .ok (.iadd, 1) := by decide +kernel
theorem dX7_readSingle_56 : decode cX7_readSingle 56 = .ok (.invokevirtual 83, 3) := by decide +kernel
theorem dX7_readSingle_59 : decode cX7_readSingle 59 = .ok (.ifCond .eq 16, 3) := by decide +kernel
theorem dX7_readSingle_62 : decode cX7_readSingle 62 = .ok (.aload_n 0, 1) := by decide +kernel
theorem dX7_readSingle_63 : decode cX7_readSingle 63 = .ok (.bipush 41, 2) := by decide +kernel
theorem dX7_readSingle_65 : decode cX7_readSingle 65 = .ok (.invokevirtual 72, 3) := by decide +kernel
theorem dX7_readSingle_68 : decode cX7_readSingle 68 = .ok (.ifCond .eq 7, 3) := by decide +kernel
theorem dX7_readSingle_71 : decode cX7_readSingle 71 = .ok (.iconst 1, 1) := by decide +kernel
theorem dX7_readSingle_72 : decode cX7_readSingle 72 = .ok (.goto 4, 3) := by decide +kernel
theorem dX7_readSingle_75 : decode cX7_readSingle 75 = .ok (.iconst 0, 1) := by decide +kernel
theorem dX7_readSingle_76 : decode cX7_readSingle 76 = .ok (.ireturn, 1) := by decide +kernel
theorem dX7_readSingle_77 : decode cX7_readSingle 77 = .ok (.aload_n 0, 1) := by decide +kernel
theorem dX7_readSingle_78 : decode cX7_readSingle 78 = .ok (.invokevirtual 144, 3) := by decide +kernel
theorem dX7_readSingle_81 : decode cX7_readSingle 81 = .ok (.ireturn, 1) := by decide +kernel
theorem dX7_readTest_0 : decode cX7_readTest 0 = .ok (.ldc 147, 2) := by decide +kernel
theorem dX7_readTest_2 : decode cX7_readTest 2 = .ok (.aload_n 0, 1) := by decide +kernel
theorem dX7_readTest_3 : decode cX7_readTest 3 = .ok (.aload_n 0, 1) := by decide +kernel
theorem dX7_readTest_4 : decode cX7_readTest 4 = .ok (.getfield 53, 3) := by decide +kernel
theorem dX7_readTest_7 : decode cX7_readTest 7 = .ok (.invokevirtual 127, 3) := by decide +kernel
theorem dX7_readTest_10 : decode cX7_readTest 10 = .ok (.i2c, 1) := by decide +kernel
theorem dX7_readTest_11 : decode cX7_readTest 11 = .ok (.invokevirtual 149, 3) := by decide +kernel
theorem dX7_readTest_14 : decode cX7_readTest 14 = .ok (.istore_n 1, 1) := by decide +kernel
theorem dX7_readTest_15 : decode cX7_readTest 15 = .ok (.iload_n 1, 1) := by decide +kernel
theorem dX7_readTest_16 : decode cX7_readTest 16 = .ok (.ifCond .ge 5, 3) := by decide +kernel
theorem dX7_readTest_19 : decode cX7_readTest 19 = .ok (.iconst 0, 1) := by decide +kernel
theorem dX7_readTest_20 : decode cX7_readTest 20 = .ok (.ireturn, 1) := by decide +kernel
theorem dX7_readTest_21 : decode cX7_readTest 21 = .ok (.aload_n 0, 1) := by decide +kernel
theorem dX7_readTest_22 : decode cX7_readTest 22 = .ok (.dup, 1) := by decide +kernel
theorem dX7_readTest_23 : decode cX7_readTest 23 = .ok (.getfield 53, 3) := by decide +kernel
theorem dX7_readTest_26 : decode cX7_readTest 26 = .ok (.iconst 1, 1) := by decide +kernel
theorem dX7_readTest_27 : decode cX7_readTest 27 = .ok (.iadd, 1) := by decide +kernel
theorem dX7_readTest_28 : decode cX7_readTest 28 = .ok (.putfield 53, 3) := by decide +kernel
theorem dX7_readTest_31 : decode cX7_readTest 31 = .ok (.ldc 152, 2) := by decide +kernel
theorem dX7_readTest_33 : decode cX7_readTest 33 = .ok (.aload_n 0, 1) := by decide +kernel
theorem dX7_readTest_34 : decode cX7_readTest 34 = .ok (.aload_n 0, 1) := by decide +kernel
theorem dX7_readTest_35 : decode cX7_readTest 35 = .ok (.getfield 53, 3) := by decide +kernel
theorem dX7_readTest_38 : decode cX7_readTest 38 = .ok (.invokevirtual 127, 3) := by decide +kernel
theorem dX7_readTest_41 : decode cX7_readTest 41 = .ok (.i2c, 1) := by decide +kernel
theorem dX7_readTest_42 : decode cX7_readTest 42 = .ok (.invokevirtual 149, 3) := by decide +kernel
theorem dX7_readTest_45 : decode cX7_readTest 45 = .ok (.istore_n 2, 1) := by decide +kernel
theorem dX7_readTest_46 : decode cX7_readTest 46 = .ok (.iload_n 2, 1) := by decide +kernel
theorem dX7_readTest_47 : decode cX7_readTest 47 = .ok (.ifCond .ge 5, 3) := by decide +kernel
theorem dX7_readTest_50 : decode cX7_readTest 50 = .ok (.iconst 0, 1) := by decide +kernel
theorem dX7_readTest_51 : decode cX7_readTest 51 = .ok (.ireturn, 1) := by decide +kernel
theorem dX7_readTest_52 : decode cX7_readTest 52 = .ok (.aload_n 0, 1) := by decide +kernel
theorem dX7_readTest_53 : decode cX7_readTest 53 = .ok (.dup, 1) := by decide +kernel
theorem dX7_readTest_54 : decode cX7_readTest 54 = .ok (.getfield 53, 3) := by decide +kernel
theorem dX7_readTest_57 : decode cX7_readTest 57 = .ok (.iconst 1, 1) := by decide +kernel
theorem dX7_readTest_58 : decode cX7_readTest 58 = .ok (.iadd, 1) := by decide +kernel
theorem dX7_readTest_59 : decode cX7_readTest 59 = .ok (.putfield 53, 3) := by decide +kernel
theorem dX7_readTest_62 : decode cX7_readTest 62 = .ok (.aload_n 0, 1) := by decide +kernel
theorem dX7_readTest_63 : decode cX7_readTest 63 = .ok (.invokevirtual 80, 3) := by decide +kernel
theorem dX7_readTest_66 : decode cX7_readTest 66 = .ok (.istore_n 3, 1) := by decide +kernel
theorem dX7_readTest_67 : decode cX7_readTest 67 = .ok (.iload_n 3, 1) := by decide +kernel
theorem dX7_readTest_68 : decode cX7_readTest 68 = .ok (.iconst (-1), 1) := by decide +kernel
theorem dX7_readTest_69 : decode cX7_readTest 69 = .ok (.if_icmp .eq 23, 3) := by decide +kernel
theorem dX7_readTest_72 : decode cX7_readTest 72 = .ok (.aload_n 0, 1) := by decide +kernel
theorem dX7_readTest_73 : decode cX7_readTest 73 = .ok (.iload_n 3, 1) := by decide +kernel
theorem dX7_readTest_74 : decode cX7_readTest 74 = .ok (.iconst 5, 1) := by decide +kernel
theorem dX7_readTest_75 : decode cX7_readTest 75 = .ok (.imul, 1) := by decide +kernel
theorem dX7_readTest_76 : decode cX7_readTest 76 = .ok (.iload_n 1, 1) := by decide +kernel
theorem dX7_readTest_77 : decode cX7_readTest 77 = .ok (.iadd, 1) := by decide +kernel
theorem dX7_readTest_78 : decode cX7_readTest 78 = .ok (.iconst 3, 1) := by decide +kernel
theorem dX7_readTest_79 : decode cX7_readTest 79 = .ok (.imul, 1) := by decide +kernel
theorem dX7_readTest_80 : decode cX7_readTest 80 = .ok (.iload_n 2, 1) := by decide +kernel
theorem dX7_readTest_81 : decode cX7_readTest 81 = .ok (.iadd, 1) := by decide +kernel
theorem dX7_readTest_82 : decode cX7_readTest 82 = .ok (.invokevirtual 138, 3) := by decide +kernel
theorem dX7_readTest_85 : decode cX7_readTest 85 = .ok (.ifCond .eq 7, 3) := by decide +kernel
theorem dX7_readTest_88 : decode cX7_readTest 88 = .ok (.iconst 1, 1) := by decide +kernel
theorem dX7_readTest_89 : decode cX7_readTest 89 = .ok (.goto 4, 3) := by decide +kernel
theorem dX7_readTest_92 : decode cX7_readTest 92 = .ok (.iconst 0, 1) := by decide +kernel
theorem dX7_readTest_93 : decode cX7_readTest 93 = .ok (.ireturn, 1) := by decide +kernel
theorem dX7_skip_0 : decode cX7_skip 0 = .ok (.aload_n 0, 1) := by decide +kernel
theorem dX7_skip_1 : decode cX7_skip 1 = .ok (.aload_n 0, 1) := by decide +kernel
theorem dX7_skip_2 : decode cX7_skip 2 = .ok (.getfield 53, 3) := by decide +kernel
theorem dX7_skip_5 : decode cX7_skip 5 = .ok (.invokevirtual 127, 3) := by decide +kernel
theorem dX7_skip_8 : decode cX7_skip 8 = .ok (.iload_n 1, 1) := by decide +kernel
theorem dX7_skip_9 : decode cX7_skip 9 = .ok (.if_icmp .eq 5, 3) := by decide +kernel
theorem dX7_skip_12 : decode cX7_skip 12 = .ok (.iconst 0, 1) := by decide +kernel
theorem dX7_skip_13 : decode cX7_skip 13 = .ok (.ireturn, 1) := by decide +kernel
theorem dX7_skip_14 : decode cX7_skip 14 = .ok (.aload_n 0, 1) := by decide +kernel
theorem dX7_skip_15 : decode cX7_skip 15 = .ok (.dup, 1) := by decide +kernel
theorem dX7_skip_16 : decode cX7_skip 16 = .ok (.getfield 53, 3) := by decide +kernel
theorem dX7_skip_19 : decode cX7_skip 19 = .ok (.iconst 1, 1) := by decide +kernel
theorem dX7_skip_20 : decode cX7_skip 20 = .ok (.iadd, 1) := by decide +kernel
theorem dX7_skip_21 : decode cX7_skip 21 = .ok (.putfield 53, 3) := by decide +kernel
theorem dX7_skip_24 : decode cX7_skip 24 = .ok (.iconst 1, 1) := by decide +kernel
theorem dX7_skip_25 : decode cX7_skip 25 = .ok (.ireturn, 1) := by decide +kernel
theorem dX7_byteAt_0 : decode cX7_byteAt 0 = .ok (.aload_n 0, 1) := by decide +kernel
theorem dX7_byteAt_1 : decode cX7_byteAt 1 = .ok (.getfield 46, 3) := by decide +kernel
theorem dX7_byteAt_4 : decode cX7_byteAt 4 = .ok (.ifnull 37, 3) := by decide +kernel
theorem dX7_byteAt_7 : decode cX7_byteAt 7 = .ok (.iload_n 1, 1) := by decide +kernel
theorem dX7_byteAt_8 : decode cX7_byteAt 8 = .ok (.ifCond .lt 33, 3) := by decide +kernel
theorem dX7_byteAt_11 : decode cX7_byteAt 11 = .ok (.iload_n 1, 1) := by decide +kernel
theorem dX7_byteAt_12 : decode cX7_byteAt 12 = .ok (.aload_n 0, 1) := by decide +kernel
theorem dX7_byteAt_13 : decode cX7_byteAt 13 = .ok (.getfield 50, 3) := by decide +kernel
theorem dX7_byteAt_16 : decode cX7_byteAt 16 = .ok (.if_icmp .ge 25, 3) := by decide +kernel
theorem dX7_byteAt_19 : decode cX7_byteAt 19 = .ok (.iload_n 1, 1) := by decide +kernel
theorem dX7_byteAt_20 : decode cX7_byteAt 20 = .ok (.aload_n 0, 1) := by decide +kernel
theorem dX7_byteAt_21 : decode cX7_byteAt 21 = .ok (.getfield 46, 3) := by decide +kernel
theorem dX7_byteAt_24 : decode cX7_byteAt 24 = .ok (.arraylength, 1) := by decide +kernel
theorem dX7_byteAt_25 : decode cX7_byteAt 25 = .ok (.if_icmp .ge 16, 3) := by decide +kernel
theorem dX7_byteAt_28 : decode cX7_byteAt 28 = .ok (.aload_n 0, 1) := by decide +kernel
theorem dX7_byteAt_29 : decode cX7_byteAt 29 = .ok (.getfield 46, 3) := by decide +kernel
theorem dX7_byteAt_32 : decode cX7_byteAt 32 = .ok (.iload_n 1, 1) := by decide +kernel
theorem dX7_byteAt_33 : decode cX7_byteAt 33 = .ok (.baload, 1) := by decide +kernel
theorem dX7_byteAt_34 : decode cX7_byteAt 34 = .ok (.sipush 255, 3) := by decide +kernel
theorem dX7_byteAt_37 : decode cX7_byteAt 37 = .ok (.iand, 1) := by decide +kernel
theorem dX7_byteAt_38 : decode cX7_byteAt 38 = .ok (.goto 4, 3) := by decide +kernel
theorem dX7_byteAt_41 : decode cX7_byteAt 41 = .ok (.iconst 0, 1) := by decide +kernel
theorem dX7_byteAt_42 : decode cX7_byteAt 42 = .ok (.ireturn, 1) := by decide +kernel
theorem dX7_put_0 : decode cX7_put 0 = .ok (.aload_n 0, 1) := by decide +kernel
theorem dX7_put_1 : decode cX7_put 1 = .ok (.getfield 40, 3) := by decide +kernel
theorem dX7_put_4 : decode cX7_put 4 = .ok (.aload_n 0, 1) := by decide +kernel
theorem dX7_put_5 : decode cX7_put 5 = .ok (.getfield 37, 3) := by decide +kernel
theorem dX7_put_8 : decode cX7_put 8 = .ok (.arraylength, 1) := by decide +kernel
theorem dX7_put_9 : decode cX7_put 9 = .ok (.if_icmp .lt 5, 3) := by decide +kernel
theorem dX7_put_12 : decode cX7_put 12 = .ok (.iconst 0, 1) := by decide +kernel
theorem dX7_put_13 : decode cX7_put 13 = .ok (.ireturn, 1) := by decide +kernel
theorem dX7_put_14 : decode cX7_put 14 = .ok (.aload_n 0, 1) := by decide +kernel
theorem dX7_put_15 : decode cX7_put 15 = .ok (.getfield 37, 3) := by decide +kernel
theorem dX7_put_18 : decode cX7_put 18 = .ok (.aload_n 0, 1) := by decide +kernel
theorem dX7_put_19 : decode cX7_put 19 = .ok (.getfield 40, 3) := by decide +kernel
theorem dX7_put_22 : decode cX7_put 22 = .ok (.iload_n 1, 1) := by decide +kernel
theorem dX7_put_23 : decode cX7_put 23 = .ok (.iastore, 1) := by decide +kernel
theorem dX7_put_24 : decode cX7_put 24 = .ok (.aload_n 0, 1) := by decide +kernel
theorem dX7_put_25 : decode cX7_put 25 = .ok (.dup, 1) := by decide +kernel
theorem dX7_put_26 : decode cX7_put 26 = .ok (.getfield 40, 3) := by decide +kernel
theorem dX7_put_29 : decode cX7_put 29 = .ok (.iconst 1, 1) := by decide +kernel
theorem dX7_put_30 : decode cX7_put 30 = .ok (.iadd, 1) := by decide +kernel
theorem dX7_put_31 : decode cX7_put 31 = .ok (.putfield 40, 3) := by decide +kernel
theorem dX7_put_34 : decode cX7_put 34 = .ok (.iconst 1, 1) := by decide +kernel
theorem dX7_put_35 : decode cX7_put 35 = .ok (.ireturn, 1) := by decide +kernel
theorem dX8_init_0 : decode cX8_init 0 = .ok (.aload_n 0, 1) := by decide +kernel
theorem dX8_init_1 : decode cX8_init 1 = .ok (.invokespecial 3, 3) := by decide +kernel
theorem dX8_init_4 : decode cX8_init 4 = .ok (.aload_n 0, 1) := by decide +kernel
theorem dX8_init_5 : decode cX8_init 5 = .ok (.bipush 20, 2) := by decide +kernel
theorem dX8_init_7 : decode cX8_init 7 = .ok (.newarray .int, 2) := by decide +kernel
theorem dX8_init_9 : decode cX8_init 9 = .ok (.putfield 9, 3) := by decide +kernel
theorem dX8_init_12 : decode cX8_init 12 = .ok (.aload_n 0, 1) := by decide +kernel
theorem dX8_init_13 : decode cX8_init 13 = .ok (.iconst 0, 1) := by decide +kernel
theorem dX8_init_14 : decode cX8_init 14 = .ok (.putfield 15, 3) := by decide +kernel
theorem dX8_init_17 : decode cX8_init 17 = .ok (.return_, 1) := by decide +kernel
theorem dX8_began_0 : decode cX8_began 0 = .ok (.aload_n 0, 1) := by decide +kernel
theorem dX8_began_1 : decode cX8_began 1 = .ok (.getfield 15, 3) := by decide +kernel
theorem dX8_began_4 : decode cX8_began 4 = .ok (.bipush 20, 2) := by decide +kernel
theorem dX8_began_6 : decode cX8_began 6 = .ok (.if_icmp .ge 13, 3) := by decide +kernel
theorem dX8_began_9 : decode cX8_began 9 = .ok (.aload_n 0, 1) := by decide +kernel
theorem dX8_began_10 : decode cX8_began 10 = .ok (.getfield 9, 3) := by decide +kernel
theorem dX8_began_13 : decode cX8_began 13 = .ok (.aload_n 0, 1) := by decide +kernel
theorem dX8_began_14 : decode cX8_began 14 = .ok (.getfield 15, 3) := by decide +kernel
theorem dX8_began_17 : decode cX8_began 17 = .ok (.iload_n 1, 1) := by decide +kernel
theorem dX8_began_18 : decode cX8_began 18 = .ok (.iastore, 1) := by decide +kernel
theorem dX8_began_19 : decode cX8_began 19 = .ok (.aload_n 0, 1) := by decide +kernel
theorem dX8_began_20 : decode cX8_began 20 = .ok (.dup, 1) := by decide +kernel
theorem dX8_began_21 : decode cX8_began 21 = .ok (.getfield 15, 3) := by decide +kernel
theorem dX8_began_24 : decode cX8_began 24 = .ok (.iconst 1, 1) := by decide +kernel
theorem dX8_began_25 : decode cX8_began 25 = .ok (.iadd, 1) := by decide +kernel
theorem dX8_began_26 : decode cX8_began 26 = .ok (.putfield 15, 3) := by decide +kernel
theorem dX8_began_29 : decode cX8_began 29 = .ok (.return_, 1) := by decide +kernel
theorem dX9_init_0 : decode cX9_init 0 = .ok (.aload_n 0, 1) := by decide +kernel
theorem dX9_init_1 : decode cX9_init 1 = .ok (.invokespecial 3, 3) := by decide +kernel
theorem dX9_init_4 : decode cX9_init 4 = .ok (.aload_n 0, 1) := by decide +kernel
theorem dX9_init_5 : decode cX9_init 5 = .ok (.iload_n 1, 1) := by decide +kernel
theorem dX9_init_6 : decode cX9_init 6 = .ok (.putfield 9, 3) := by decide +kernel
theorem dX9_init_9 : decode cX9_init 9 = .ok (.aload_n 0, 1) := by decide +kernel
theorem dX9_init_10 : decode cX9_init 10 = .ok (.iload_n 2, 1) := by decide +kernel
theorem dX9_init_11 : decode cX9_init 11 = .ok (.putfield 15, 3) := by decide +kernel
theorem dX9_init_14 : decode cX9_init 14 = .ok (.aload_n 0, 1) := by decide +kernel
theorem dX9_init_15 : decode cX9_init 15 = .ok (.iload_n 3, 1) := by decide +kernel
theorem dX9_init_16 : decode cX9_init 16 = .ok (.putfield 18, 3) := by decide +kernel
theorem dX9_init_19 : decode cX9_init 19 = .ok (.aload_n 0, 1) := by decide +kernel
theorem dX9_init_20 : decode cX9_init 20 = .ok (.iload 4, 2) := by decide +kernel
theorem dX9_init_22 : decode cX9_init 22 = .ok (.putfield 21, 3) := by decide +kernel
theorem dX9_init_25 : decode cX9_init 25 = .ok (.aload_n 0, 1) := by decide +kernel
theorem dX9_init_26 : decode cX9_init 26 = .ok (.iload 5, 2) := by decide +kernel
theorem dX9_init_28 : decode cX9_init 28 = .ok (.putfield 24, 3) := by decide +kernel
theorem dX9_init_31 : decode cX9_init 31 = .ok (.return_, 1) := by decide +kernel
theorem dX9_otherDoor_0 : decode cX9_otherDoor 0 = .ok (.iload_n 1, 1) := by decide +kernel
theorem dX9_otherDoor_1 : decode cX9_otherDoor 1 = .ok (.aload_n 0, 1) := by decide +kernel
theorem dX9_otherDoor_2 : decode cX9_otherDoor 2 = .ok (.getfield 21, 3) := by decide +kernel
theorem dX9_otherDoor_5 : decode cX9_otherDoor 5 = .ok (.if_icmp .ne 10, 3) := by decide +kernel
theorem dX9_otherDoor_8 : decode cX9_otherDoor 8 = .ok (.aload_n 0, 1) := by decide +kernel
theorem dX9_otherDoor_9 : decode cX9_otherDoor 9 = .ok (.getfield 24, 3) := by decide +kernel
theorem dX9_otherDoor_12 : decode cX9_otherDoor 12 = .ok (.goto 7, 3) := by decide +kernel
theorem dX9_otherDoor_15 : decode cX9_otherDoor 15 = .ok (.aload_n 0, 1) := by decide +kernel
theorem dX9_otherDoor_16 : decode cX9_otherDoor 16 = .ok (.getfield 21, 3) := by decide +kernel
theorem dX9_otherDoor_19 : decode cX9_otherDoor 19 = .ok (.ireturn, 1) := by decide +kernel
theorem dX9_wants_0 : decode cX9_wants 0 = .ok (.iload_n 3, 1) := by decide +kernel
theorem dX9_wants_1 : decode cX9_wants 1 = .ok (.iconst 1, 1) := by decide +kernel
theorem dX9_wants_2 : decode cX9_wants 2 = .ok (.if_icmp .ne 7, 3) := by decide +kernel
theorem dX9_wants_5 : decode cX9_wants 5 = .ok (.iconst 1, 1) := by decide +kernel
theorem dX9_wants_6 : decode cX9_wants 6 = .ok (.goto 4, 3) := by decide +kernel
theorem dX9_wants_9 : decode cX9_wants 9 = .ok (.iconst 0, 1) := by decide +kernel
theorem dX9_wants_10 : decode cX9_wants 10 = .ok (.ireturn, 1) := by decide +kernel
theorem dX9_shares_0 : decode cX9_shares 0 = .ok (.iconst 0, 1) := by decide +kernel
theorem dX9_shares_1 : decode cX9_shares 1 = .ok (.ireturn, 1) := by decide +kernel
theorem dX9_takes_0 : decode cX9_takes 0 = .ok (.aload_n 2, 1) := by decide +kernel
theorem dX9_takes_1 : decode cX9_takes 1 = .ok (.iconst 1, 1) := by decide +kernel
theorem dX9_takes_2 : decode cX9_takes 2 = .ok (.invokevirtual 27, 3) := by decide +kernel
theorem dX9_takes_5 : decode cX9_takes 5 = .ok (.iload_n 1, 1) := by decide +kernel
theorem dX9_takes_6 : decode cX9_takes 6 = .ok (.aload_n 0, 1) := by decide +kernel
theorem dX9_takes_7 : decode cX9_takes 7 = .ok (.getfield 15, 3) := by decide +kernel
theorem dX9_takes_10 : decode cX9_takes 10 = .ok (.iadd, 1) := by decide +kernel
theorem dX9_takes_11 : decode cX9_takes 11 = .ok (.ireturn, 1) := by decide +kernel
theorem dX9_walks_0 : decode cX9_walks 0 = .ok (.aload_n 2, 1) := by decide +kernel
theorem dX9_walks_1 : decode cX9_walks 1 = .ok (.iconst 2, 1) := by decide +kernel
theorem dX9_walks_2 : decode cX9_walks 2 = .ok (.invokevirtual 27, 3) := by decide +kernel
theorem dX9_walks_5 : decode cX9_walks 5 = .ok (.aload_n 0, 1) := by decide +kernel
theorem dX9_walks_6 : decode cX9_walks 6 = .ok (.iload_n 1, 1) := by decide +kernel
theorem dX9_walks_7 : decode cX9_walks 7 = .ok (.aload_n 2, 1) := by decide +kernel
theorem dX9_walks_8 : decode cX9_walks 8 = .ok (.invokevirtual 33, 3) := by decide +kernel
theorem dX9_walks_11 : decode cX9_walks 11 = .ok (.aload_n 0, 1) := by decide +kernel
theorem dX9_walks_12 : decode cX9_walks 12 = .ok (.getfield 18, 3) := by decide +kernel
theorem dX9_walks_15 : decode cX9_walks 15 = .ok (.isub, 1) := by decide +kernel
theorem dX9_walks_16 : decode cX9_walks 16 = .ok (.ireturn, 1) := by decide +kernel
theorem dX9_tells_0 : decode cX9_tells 0 = .ok (.aload_n 2, 1) := by decide +kernel
theorem dX9_tells_1 : decode cX9_tells 1 = .ok (.iconst 3, 1) := by decide +kernel
theorem dX9_tells_2 : decode cX9_tells 2 = .ok (.invokevirtual 27, 3) := by decide +kernel
theorem dX9_tells_5 : decode cX9_tells 5 = .ok (.aload_n 0, 1) := by decide +kernel
theorem dX9_tells_6 : decode cX9_tells 6 = .ok (.iload_n 1, 1) := by decide +kernel
theorem dX9_tells_7 : decode cX9_tells 7 = .ok (.aload_n 2, 1) := by decide +kernel
theorem dX9_tells_8 : decode cX9_tells 8 = .ok (.invokevirtual 37, 3) := by decide +kernel
theorem dX9_tells_11 : decode cX9_tells 11 = .ok (.iconst 2, 1) := by decide +kernel
theorem dX9_tells_12 : decode cX9_tells 12 = .ok (.imul, 1) := by decide +kernel
theorem dX9_tells_13 : decode cX9_tells 13 = .ok (.ireturn, 1) := by decide +kernel
theorem dX10_init_0 : decode cX10_init 0 = .ok (.aload_n 0, 1) := by decide +kernel
theorem dX10_init_1 : decode cX10_init 1 = .ok (.invokespecial 3, 3) := by decide +kernel
theorem dX10_init_4 : decode cX10_init 4 = .ok (.aload_n 0, 1) := by decide +kernel
theorem dX10_init_5 : decode cX10_init 5 = .ok (.iconst 4, 1) := by decide +kernel
theorem dX10_init_6 : decode cX10_init 6 = .ok (.newarray .int, 2) := by decide +kernel
theorem dX10_init_8 : decode cX10_init 8 = .ok (.putfield 9, 3) := by decide +kernel
theorem dX10_init_11 : decode cX10_init 11 = .ok (.aload_n 0, 1) := by decide +kernel
theorem dX10_init_12 : decode cX10_init 12 = .ok (.bipush 6, 2) := by decide +kernel
theorem dX10_init_14 : decode cX10_init 14 = .ok (.newarray .int, 2) := by decide +kernel
theorem dX10_init_16 : decode cX10_init 16 = .ok (.putfield 15, 3) := by decide +kernel
theorem dX10_init_19 : decode cX10_init 19 = .ok (.aload_n 0, 1) := by decide +kernel
theorem dX10_init_20 : decode cX10_init 20 = .ok (.iconst 0, 1) := by decide +kernel
theorem dX10_init_21 : decode cX10_init 21 = .ok (.putfield 18, 3) := by decide +kernel
theorem dX10_init_24 : decode cX10_init 24 = .ok (.aload_n 0, 1) := by decide +kernel
theorem dX10_init_25 : decode cX10_init 25 = .ok (.iconst 0, 1) := by decide +kernel
theorem dX10_init_26 : decode cX10_init 26 = .ok (.putfield 22, 3) := by decide +kernel
theorem dX10_init_29 : decode cX10_init 29 = .ok (.aload_n 0, 1) := by decide +kernel
theorem dX10_init_30 : decode cX10_init 30 = .ok (.iconst 0, 1) := by decide +kernel
theorem dX10_init_31 : decode cX10_init 31 = .ok (.putfield 25, 3) := by decide +kernel
theorem dX10_init_34 : decode cX10_init 34 = .ok (.aload_n 0, 1) := by decide +kernel
theorem dX10_init_35 : decode cX10_init 35 = .ok (.iconst 0, 1) := by decide +kernel
theorem dX10_init_36 : decode cX10_init 36 = .ok (.putfield 28, 3) := by decide +kernel
theorem dX10_init_39 : decode cX10_init 39 = .ok (.aload_n 0, 1) := by decide +kernel
theorem dX10_init_40 : decode cX10_init 40 = .ok (.iconst 0, 1) := by decide +kernel
theorem dX10_init_41 : decode cX10_init 41 = .ok (.putfield 31, 3) := by decide +kernel
theorem dX10_init_44 : decode cX10_init 44 = .ok (.aload_n 0, 1) := by decide +kernel
theorem dX10_init_45 : decode cX10_init 45 = .ok (.iconst 4, 1) := by decide +kernel
theorem dX10_init_46 : decode cX10_init 46 = .ok (.newarray .int, 2) := by decide +kernel
theorem dX10_init_48 : decode cX10_init 48 = .ok (.putfield 34, 3) := by decide +kernel
theorem dX10_init_51 : decode cX10_init 51 = .ok (.aload_n 0, 1) := by decide +kernel
theorem dX10_init_52 : decode cX10_init 52 = .ok (.iconst 0, 1) := by decide +kernel
theorem dX10_init_53 : decode cX10_init 53 = .ok (.putfield 37, 3) := by decide +kernel
theorem dX10_init_56 : decode cX10_init 56 = .ok (.return_, 1) := by decide +kernel
theorem dX10_copyFrom_0 : decode cX10_copyFrom 0 = .ok (.iconst 0, 1) := by decide +kernel
theorem dX10_copyFrom_1 : decode cX10_copyFrom 1 = .ok (.istore_n 2, 1) := by decide +kernel
theorem dX10_copyFrom_2 : decode cX10_copyFrom 2 = .ok (.iload_n 2, 1) := by decide +kernel
theorem dX10_copyFrom_3 : decode cX10_copyFrom 3 = .ok (.iconst 4, 1) := by decide +kernel
theorem dX10_copyFrom_4 : decode cX10_copyFrom 4 = .ok (.if_icmp .ge 21, 3) := by decide +kernel
theorem dX10_copyFrom_7 : decode cX10_copyFrom 7 = .ok (.aload_n 0, 1) := by decide +kernel
theorem dX10_copyFrom_8 : decode cX10_copyFrom 8 = .ok (.getfield 9, 3) := by decide +kernel
theorem dX10_copyFrom_11 : decode cX10_copyFrom 11 = .ok (.iload_n 2, 1) := by decide +kernel
theorem dX10_copyFrom_12 : decode cX10_copyFrom 12 = .ok (.aload_n 1, 1) := by decide +kernel
theorem dX10_copyFrom_13 : decode cX10_copyFrom 13 = .ok (.getfield 9, 3) := by decide +kernel
theorem dX10_copyFrom_16 : decode cX10_copyFrom 16 = .ok (.iload_n 2, 1) := by decide +kernel
theorem dX10_copyFrom_17 : decode cX10_copyFrom 17 = .ok (.iaload, 1) := by decide +kernel
theorem dX10_copyFrom_18 : decode cX10_copyFrom 18 = .ok (.iastore, 1) := by decide +kernel
theorem dX10_copyFrom_19 : decode cX10_copyFrom 19 = .ok (.iinc 2 1, 3) := by decide +kernel
theorem dX10_copyFrom_22 : decode cX10_copyFrom 22 = .ok (.goto (-20), 3) := by decide +kernel
theorem dX10_copyFrom_25 : decode cX10_copyFrom 25 = .ok (.iconst 0, 1) := by decide +kernel
theorem dX10_copyFrom_26 : decode cX10_copyFrom 26 = .ok (.istore_n 2, 1) := by decide +kernel
theorem dX10_copyFrom_27 : decode cX10_copyFrom 27 = .ok (.iload_n 2, 1) := by decide +kernel
theorem dX10_copyFrom_28 : decode cX10_copyFrom 28 = .ok (.bipush 6, 2) := by decide +kernel
theorem dX10_copyFrom_30 : decode cX10_copyFrom 30 = .ok (.if_icmp .ge 21, 3) := by decide +kernel
theorem dX10_copyFrom_33 : decode cX10_copyFrom 33 = .ok (.aload_n 0, 1) := by decide +kernel
theorem dX10_copyFrom_34 : decode cX10_copyFrom 34 = .ok (.getfield 15, 3) := by decide +kernel
theorem dX10_copyFrom_37 : decode cX10_copyFrom 37 = .ok (.iload_n 2, 1) := by decide +kernel
theorem dX10_copyFrom_38 : decode cX10_copyFrom 38 = .ok (.aload_n 1, 1) := by decide +kernel
theorem dX10_copyFrom_39 : decode cX10_copyFrom 39 = .ok (.getfield 15, 3) := by decide +kernel
theorem dX10_copyFrom_42 : decode cX10_copyFrom 42 = .ok (.iload_n 2, 1) := by decide +kernel
theorem dX10_copyFrom_43 : decode cX10_copyFrom 43 = .ok (.iaload, 1) := by decide +kernel
theorem dX10_copyFrom_44 : decode cX10_copyFrom 44 = .ok (.iastore, 1) := by decide +kernel
theorem dX10_copyFrom_45 : decode cX10_copyFrom 45 = .ok (.iinc 2 1, 3) := by decide +kernel
theorem dX10_copyFrom_48 : decode cX10_copyFrom 48 = .ok (.goto (-21), 3) := by decide +kernel
theorem dX10_copyFrom_51 : decode cX10_copyFrom 51 = .ok (.aload_n 0, 1) := by decide +kernel
theorem dX10_copyFrom_52 : decode cX10_copyFrom 52 = .ok (.aload_n 1, 1) := by decide +kernel
theorem dX10_copyFrom_53 : decode cX10_copyFrom 53 = .ok (.getfield 18, 3) := by decide +kernel
theorem dX10_copyFrom_56 : decode cX10_copyFrom 56 = .ok (.putfield 18, 3) := by decide +kernel
theorem dX10_copyFrom_59 : decode cX10_copyFrom 59 = .ok (.aload_n 0, 1) := by decide +kernel
theorem dX10_copyFrom_60 : decode cX10_copyFrom 60 = .ok (.aload_n 1, 1) := by decide +kernel
theorem dX10_copyFrom_61 : decode cX10_copyFrom 61 = .ok (.getfield 22, 3) := by decide +kernel
theorem dX10_copyFrom_64 : decode cX10_copyFrom 64 = .ok (.putfield 22, 3) := by decide +kernel
theorem dX10_copyFrom_67 : decode cX10_copyFrom 67 = .ok (.aload_n 0, 1) := by decide +kernel
theorem dX10_copyFrom_68 : decode cX10_copyFrom 68 = .ok (.aload_n 1, 1) := by decide +kernel
theorem dX10_copyFrom_69 : decode cX10_copyFrom 69 = .ok (.getfield 25, 3) := by decide +kernel
theorem dX10_copyFrom_72 : decode cX10_copyFrom 72 = .ok (.putfield 25, 3) := by decide +kernel
theorem dX10_copyFrom_75 : decode cX10_copyFrom 75 = .ok (.aload_n 0, 1) := by decide +kernel
theorem dX10_copyFrom_76 : decode cX10_copyFrom 76 = .ok (.aload_n 1, 1) := by decide +kernel
theorem dX10_copyFrom_77 : decode cX10_copyFrom 77 = .ok (.getfield 28, 3) := by decide +kernel
theorem dX10_copyFrom_80 : decode cX10_copyFrom 80 = .ok (.putfield 28, 3) := by decide +kernel
theorem dX10_copyFrom_83 : decode cX10_copyFrom 83 = .ok (.aload_n 0, 1) := by decide +kernel
theorem dX10_copyFrom_84 : decode cX10_copyFrom 84 = .ok (.aload_n 1, 1) := by decide +kernel
theorem dX10_copyFrom_85 : decode cX10_copyFrom 85 = .ok (.getfield 31, 3) := by decide +kernel
theorem dX10_copyFrom_88 : decode cX10_copyFrom 88 = .ok (.putfield 31, 3) := by decide +kernel
theorem dX10_copyFrom_91 : decode cX10_copyFrom 91 = .ok (.return_, 1) := by decide +kernel
theorem dX10_forgetTallies_0 : decode cX10_forgetTallies 0 = .ok (.aload_n 0, 1) := by decide +kernel
theorem dX10_forgetTallies_1 : decode cX10_forgetTallies 1 = .ok (.iconst 0, 1) := by decide +kernel
theorem dX10_forgetTallies_2 : decode cX10_forgetTallies 2 = .ok (.putfield 25, 3) := by decide +kernel
theorem dX10_forgetTallies_5 : decode cX10_forgetTallies 5 = .ok (.aload_n 0, 1) := by decide +kernel
theorem dX10_forgetTallies_6 : decode cX10_forgetTallies 6 = .ok (.iconst 0, 1) := by decide +kernel
theorem dX10_forgetTallies_7 : decode cX10_forgetTallies 7 = .ok (.putfield 28, 3) := by decide +kernel
theorem dX10_forgetTallies_10 : decode cX10_forgetTallies 10 = .ok (.aload_n 0, 1) := by decide +kernel
theorem dX10_forgetTallies_11 : decode cX10_forgetTallies 11 = .ok (.iconst 0, 1) := by decide +kernel
theorem dX10_forgetTallies_12 : decode cX10_forgetTallies 12 = .ok (.putfield 31, 3) := by decide +kernel
theorem dX10_forgetTallies_15 : decode cX10_forgetTallies 15 = .ok (.return_, 1) := by decide +kernel
theorem dX10_layStands_0 : decode cX10_layStands 0 = .ok (.aload_n 0, 1) := by decide +kernel
theorem dX10_layStands_1 : decode cX10_layStands 1 = .ok (.getfield 9, 3) := by decide +kernel
theorem dX10_layStands_4 : decode cX10_layStands 4 = .ok (.iconst 0, 1) := by decide +kernel
theorem dX10_layStands_5 : decode cX10_layStands 5 = .ok (.iload_n 1, 1) := by decide +kernel
theorem dX10_layStands_6 : decode cX10_layStands 6 = .ok (.iastore, 1) := by decide +kernel
theorem dX10_layStands_7 : decode cX10_layStands 7 = .ok (.aload_n 0, 1) := by decide +kernel
theorem dX10_layStands_8 : decode cX10_layStands 8 = .ok (.getfield 9, 3) := by decide +kernel
theorem dX10_layStands_11 : decode cX10_layStands 11 = .ok (.iconst 1, 1) := by decide +kernel
theorem dX10_layStands_12 : decode cX10_layStands 12 = .ok (.iload_n 2, 1) := by decide +kernel
theorem dX10_layStands_13 : decode cX10_layStands 13 = .ok (.iastore, 1) := by decide +kernel
theorem dX10_layStands_14 : decode cX10_layStands 14 = .ok (.aload_n 0, 1) := by decide +kernel
theorem dX10_layStands_15 : decode cX10_layStands 15 = .ok (.getfield 9, 3) := by decide +kernel
theorem dX10_layStands_18 : decode cX10_layStands 18 = .ok (.iconst 2, 1) := by decide +kernel
theorem dX10_layStands_19 : decode cX10_layStands 19 = .ok (.iload_n 3, 1) := by decide +kernel
theorem dX10_layStands_20 : decode cX10_layStands 20 = .ok (.iastore, 1) := by decide +kernel
theorem dX10_layStands_21 : decode cX10_layStands 21 = .ok (.aload_n 0, 1) := by decide +kernel
theorem dX10_layStands_22 : decode cX10_layStands 22 = .ok (.getfield 9, 3) := by decide +kernel
theorem dX10_layStands_25 : decode cX10_layStands 25 = .ok (.iconst 3, 1) := by decide +kernel
theorem dX10_layStands_26 : decode cX10_layStands 26 = .ok (.iload 4, 2) := by decide +kernel
theorem dX10_layStands_28 : decode cX10_layStands 28 = .ok (.iastore, 1) := by decide +kernel
theorem dX10_layStands_29 : decode cX10_layStands 29 = .ok (.return_, 1) := by decide +kernel
theorem dX10_standingInAll_0 : decode cX10_standingInAll 0 = .ok (.aload_n 0, 1) := by decide +kernel
theorem dX10_standingInAll_1 : decode cX10_standingInAll 1 = .ok (.getfield 9, 3) := by decide +kernel
theorem dX10_standingInAll_4 : decode cX10_standingInAll 4 = .ok (.iconst 0, 1) := by decide +kernel
theorem dX10_standingInAll_5 : decode cX10_standingInAll 5 = .ok (.iaload, 1) := by decide +kernel
theorem dX10_standingInAll_6 : decode cX10_standingInAll 6 = .ok (.aload_n 0, 1) := by decide +kernel
theorem dX10_standingInAll_7 : decode cX10_standingInAll 7 = .ok (.getfield 9, 3) := by decide +kernel
theorem dX10_standingInAll_10 : decode cX10_standingInAll 10 = .ok (.iconst 1, 1) := by decide +kernel
theorem dX10_standingInAll_11 : decode cX10_standingInAll 11 = .ok (.iaload, 1) := by decide +kernel
theorem dX10_standingInAll_12 : decode cX10_standingInAll 12 = .ok (.iadd, 1) := by decide +kernel
theorem dX10_standingInAll_13 : decode cX10_standingInAll 13 = .ok (.aload_n 0, 1) := by decide +kernel
theorem dX10_standingInAll_14 : decode cX10_standingInAll 14 = .ok (.getfield 9, 3) := by decide +kernel
theorem dX10_standingInAll_17 : decode cX10_standingInAll 17 = .ok (.iconst 2, 1) := by decide +kernel
theorem dX10_standingInAll_18 : decode cX10_standingInAll 18 = .ok (.iaload, 1) := by decide +kernel
theorem dX10_standingInAll_19 : decode cX10_standingInAll 19 = .ok (.iadd, 1) := by decide +kernel
theorem dX10_standingInAll_20 : decode cX10_standingInAll 20 = .ok (.aload_n 0, 1) := by decide +kernel
theorem dX10_standingInAll_21 : decode cX10_standingInAll 21 = .ok (.getfield 9, 3) := by decide +kernel
theorem dX10_standingInAll_24 : decode cX10_standingInAll 24 = .ok (.iconst 3, 1) := by decide +kernel
theorem dX10_standingInAll_25 : decode cX10_standingInAll 25 = .ok (.iaload, 1) := by decide +kernel
theorem dX10_standingInAll_26 : decode cX10_standingInAll 26 = .ok (.iadd, 1) := by decide +kernel
theorem dX10_standingInAll_27 : decode cX10_standingInAll 27 = .ok (.ireturn, 1) := by decide +kernel
theorem dX10_wouldTake_0 : decode cX10_wouldTake 0 = .ok (.aload_n 0, 1) := by decide +kernel
theorem dX10_wouldTake_1 : decode cX10_wouldTake 1 = .ok (.getfield 9, 3) := by decide +kernel
theorem dX10_wouldTake_4 : decode cX10_wouldTake 4 = .ok (.aload_n 0, 1) := by decide +kernel
theorem dX10_wouldTake_5 : decode cX10_wouldTake 5 = .ok (.getfield 15, 3) := by decide +kernel
theorem dX10_wouldTake_8 : decode cX10_wouldTake 8 = .ok (.aload_n 1, 1) := by decide +kernel
theorem dX10_wouldTake_9 : decode cX10_wouldTake 9 = .ok (.getfield 40, 3) := by decide +kernel
theorem dX10_wouldTake_12 : decode cX10_wouldTake 12 = .ok (.iaload, 1) := by decide +kernel
theorem dX10_wouldTake_13 : decode cX10_wouldTake 13 = .ok (.iaload, 1) := by decide +kernel
theorem dX10_wouldTake_14 : decode cX10_wouldTake 14 = .ok (.ifCond .le 17, 3) := by decide +kernel
theorem dX10_wouldTake_17 : decode cX10_wouldTake 17 = .ok (.aload_n 1, 1) := by decide +kernel
theorem dX10_wouldTake_18 : decode cX10_wouldTake 18 = .ok (.aload_n 0, 1) := by decide +kernel
theorem dX10_wouldTake_19 : decode cX10_wouldTake 19 = .ok (.aload_n 2, 1) := by decide +kernel
theorem dX10_wouldTake_20 : decode cX10_wouldTake 20 = .ok (.iload_n 3, 1) := by decide +kernel
theorem dX10_wouldTake_21 : decode cX10_wouldTake 21 = .ok (.invokevirtual 45, 3) := by decide +kernel
theorem dX10_wouldTake_24 : decode cX10_wouldTake 24 = .ok (.ifCond .eq 7, 3) := by decide +kernel
theorem dX10_wouldTake_27 : decode cX10_wouldTake 27 = .ok (.iconst 1, 1) := by decide +kernel
theorem dX10_wouldTake_28 : decode cX10_wouldTake 28 = .ok (.goto 4, 3) := by decide +kernel
theorem dX10_wouldTake_31 : decode cX10_wouldTake 31 = .ok (.iconst 0, 1) := by decide +kernel
theorem dX10_wouldTake_32 : decode cX10_wouldTake 32 = .ok (.ireturn, 1) := by decide +kernel
theorem dX10_pass_0 : decode cX10_pass 0 = .ok (.aload_n 0, 1) := by decide +kernel
theorem dX10_pass_1 : decode cX10_pass 1 = .ok (.iload_n 2, 1) := by decide +kernel
theorem dX10_pass_2 : decode cX10_pass 2 = .ok (.putfield 22, 3) := by decide +kernel
theorem dX10_pass_5 : decode cX10_pass 5 = .ok (.aload_n 0, 1) := by decide +kernel
theorem dX10_pass_6 : decode cX10_pass 6 = .ok (.iconst 0, 1) := by decide +kernel
theorem dX10_pass_7 : decode cX10_pass 7 = .ok (.putfield 37, 3) := by decide +kernel
theorem dX10_pass_10 : decode cX10_pass 10 = .ok (.iconst 0, 1) := by decide +kernel
theorem dX10_pass_11 : decode cX10_pass 11 = .ok (.istore_n 3, 1) := by decide +kernel
theorem dX10_pass_12 : decode cX10_pass 12 = .ok (.iload_n 3, 1) := by decide +kernel
theorem dX10_pass_13 : decode cX10_pass 13 = .ok (.aload_n 1, 1) := by decide +kernel
theorem dX10_pass_14 : decode cX10_pass 14 = .ok (.getfield 49, 3) := by decide +kernel
theorem dX10_pass_17 : decode cX10_pass 17 = .ok (.if_icmp .ge 55, 3) := by decide +kernel
theorem dX10_pass_20 : decode cX10_pass 20 = .ok (.aload_n 1, 1) := by decide +kernel
theorem dX10_pass_21 : decode cX10_pass 21 = .ok (.getfield 54, 3) := by decide +kernel
theorem dX10_pass_24 : decode cX10_pass 24 = .ok (.iload_n 3, 1) := by decide +kernel
theorem dX10_pass_25 : decode cX10_pass 25 = .ok (.aaload, 1) := by decide +kernel
theorem dX10_pass_26 : decode cX10_pass 26 = .ok (.astore 4, 2) := by decide +kernel
theorem dX10_pass_28 : decode cX10_pass 28 = .ok (.aload_n 1, 1) := by decide +kernel
theorem dX10_pass_29 : decode cX10_pass 29 = .ok (.getfield 58, 3) := by decide +kernel
theorem dX10_pass_32 : decode cX10_pass 32 = .ok (.iload_n 3, 1) := by decide +kernel
theorem dX10_pass_33 : decode cX10_pass 33 = .ok (.iaload, 1) := by decide +kernel
theorem dX10_pass_34 : decode cX10_pass 34 = .ok (.istore 5, 2) := by decide +kernel
theorem dX10_pass_36 : decode cX10_pass 36 = .ok (.aload 4, 2) := by decide +kernel
theorem dX10_pass_38 : decode cX10_pass 38 = .ok (.ifnull 28, 3) := by decide +kernel
theorem dX10_pass_41 : decode cX10_pass 41 = .ok (.iload 5, 2) := by decide +kernel
theorem dX10_pass_43 : decode cX10_pass 43 = .ok (.ifCond .le 23, 3) := by decide +kernel
theorem dX10_pass_46 : decode cX10_pass 46 = .ok (.aload_n 0, 1) := by decide +kernel
theorem dX10_pass_47 : decode cX10_pass 47 = .ok (.getfield 18, 3) := by decide +kernel
theorem dX10_pass_50 : decode cX10_pass 50 = .ok (.iload 5, 2) := by decide +kernel
theorem dX10_pass_52 : decode cX10_pass 52 = .ok (.irem, 1) := by decide +kernel
theorem dX10_pass_53 : decode cX10_pass 53 = .ok (.ifCond .ne 13, 3) := by decide +kernel
theorem dX10_pass_56 : decode cX10_pass 56 = .ok (.aload_n 0, 1) := by decide +kernel
theorem dX10_pass_57 : decode cX10_pass 57 = .ok (.aload 4, 2) := by decide +kernel
theorem dX10_pass_59 : decode cX10_pass 59 = .ok (.aload_n 1, 1) := by decide +kernel
theorem dX10_pass_60 : decode cX10_pass 60 = .ok (.getfield 61, 3) := by decide +kernel
theorem dX10_pass_63 : decode cX10_pass 63 = .ok (.invokevirtual 65, 3) := by decide +kernel
theorem dX10_pass_66 : decode cX10_pass 66 = .ok (.iinc 3 1, 3) := by decide +kernel
theorem dX10_pass_69 : decode cX10_pass 69 = .ok (.goto (-57), 3) := by decide +kernel
theorem dX10_pass_72 : decode cX10_pass 72 = .ok (.aload_n 0, 1) := by decide +kernel
theorem dX10_pass_73 : decode cX10_pass 73 = .ok (.invokevirtual 69, 3) := by decide +kernel
theorem dX10_pass_76 : decode cX10_pass 76 = .ok (.aload_n 0, 1) := by decide +kernel
theorem dX10_pass_77 : decode cX10_pass 77 = .ok (.dup, 1) := by decide +kernel
theorem dX10_pass_78 : decode cX10_pass 78 = .ok (.getfield 18, 3) := by decide +kernel
theorem dX10_pass_81 : decode cX10_pass 81 = .ok (.iconst 1, 1) := by decide +kernel
theorem dX10_pass_82 : decode cX10_pass 82 = .ok (.iadd, 1) := by decide +kernel
theorem dX10_pass_83 : decode cX10_pass 83 = .ok (.putfield 18, 3) := by decide +kernel
theorem dX10_pass_86 : decode cX10_pass 86 = .ok (.return_, 1) := by decide +kernel
theorem dX10_walk_0 : decode cX10_walk 0 = .ok (.aload_n 0, 1) := by decide +kernel
theorem dX10_walk_1 : decode cX10_walk 1 = .ok (.getfield 15, 3) := by decide +kernel
theorem dX10_walk_4 : decode cX10_walk 4 = .ok (.aload_n 1, 1) := by decide +kernel
theorem dX10_walk_5 : decode cX10_walk 5 = .ok (.getfield 40, 3) := by decide +kernel
theorem dX10_walk_8 : decode cX10_walk 8 = .ok (.iaload, 1) := by decide +kernel
theorem dX10_walk_9 : decode cX10_walk 9 = .ok (.istore_n 3, 1) := by decide +kernel
theorem dX10_walk_10 : decode cX10_walk 10 = .ok (.aload_n 1, 1) := by decide +kernel
theorem dX10_walk_11 : decode cX10_walk 11 = .ok (.iload_n 3, 1) := by decide +kernel
theorem dX10_walk_12 : decode cX10_walk 12 = .ok (.invokevirtual 72, 3) := by decide +kernel
theorem dX10_walk_15 : decode cX10_walk 15 = .ok (.istore 4, 2) := by decide +kernel
theorem dX10_walk_17 : decode cX10_walk 17 = .ok (.iconst 1, 1) := by decide +kernel
theorem dX10_walk_18 : decode cX10_walk 18 = .ok (.iload_n 3, 1) := by decide +kernel
theorem dX10_walk_19 : decode cX10_walk 19 = .ok (.iconst 4, 1) := by decide +kernel
theorem dX10_walk_20 : decode cX10_walk 20 = .ok (.imul, 1) := by decide +kernel
theorem dX10_walk_21 : decode cX10_walk 21 = .ok (.iload 4, 2) := by decide +kernel
theorem dX10_walk_23 : decode cX10_walk 23 = .ok (.iadd, 1) := by decide +kernel
theorem dX10_walk_24 : decode cX10_walk 24 = .ok (.ishl, 1) := by decide +kernel
theorem dX10_walk_25 : decode cX10_walk 25 = .ok (.istore 5, 2) := by decide +kernel
theorem dX10_walk_27 : decode cX10_walk 27 = .ok (.aload_n 0, 1) := by decide +kernel
theorem dX10_walk_28 : decode cX10_walk 28 = .ok (.getfield 9, 3) := by decide +kernel
theorem dX10_walk_31 : decode cX10_walk 31 = .ok (.iload_n 3, 1) := by decide +kernel
theorem dX10_walk_32 : decode cX10_walk 32 = .ok (.iaload, 1) := by decide +kernel
theorem dX10_walk_33 : decode cX10_walk 33 = .ok (.istore 6, 2) := by decide +kernel
theorem dX10_walk_35 : decode cX10_walk 35 = .ok (.iload 6, 2) := by decide +kernel
theorem dX10_walk_37 : decode cX10_walk 37 = .ok (.ifCond .le 106, 3) := by decide +kernel
theorem dX10_walk_40 : decode cX10_walk 40 = .ok (.aload_n 1, 1) := by decide +kernel
theorem dX10_walk_41 : decode cX10_walk 41 = .ok (.aload_n 0, 1) := by decide +kernel
theorem dX10_walk_42 : decode cX10_walk 42 = .ok (.aload_n 2, 1) := by decide +kernel
theorem dX10_walk_43 : decode cX10_walk 43 = .ok (.aload_n 0, 1) := by decide +kernel
theorem dX10_walk_44 : decode cX10_walk 44 = .ok (.getfield 22, 3) := by decide +kernel
theorem dX10_walk_47 : decode cX10_walk 47 = .ok (.invokevirtual 45, 3) := by decide +kernel
theorem dX10_walk_50 : decode cX10_walk 50 = .ok (.ifCond .eq 93, 3) := by decide +kernel
theorem dX10_walk_53 : decode cX10_walk 53 = .ok (.aload_n 0, 1) := by decide +kernel
theorem dX10_walk_54 : decode cX10_walk 54 = .ok (.getfield 9, 3) := by decide +kernel
theorem dX10_walk_57 : decode cX10_walk 57 = .ok (.iload_n 3, 1) := by decide +kernel
theorem dX10_walk_58 : decode cX10_walk 58 = .ok (.iload 6, 2) := by decide +kernel
theorem dX10_walk_60 : decode cX10_walk 60 = .ok (.iconst 1, 1) := by decide +kernel
theorem dX10_walk_61 : decode cX10_walk 61 = .ok (.isub, 1) := by decide +kernel
theorem dX10_walk_62 : decode cX10_walk 62 = .ok (.iastore, 1) := by decide +kernel
theorem dX10_walk_63 : decode cX10_walk 63 = .ok (.aload_n 0, 1) := by decide +kernel
theorem dX10_walk_64 : decode cX10_walk 64 = .ok (.dup, 1) := by decide +kernel
theorem dX10_walk_65 : decode cX10_walk 65 = .ok (.getfield 37, 3) := by decide +kernel
theorem dX10_walk_68 : decode cX10_walk 68 = .ok (.iload 5, 2) := by decide +kernel
theorem dX10_walk_70 : decode cX10_walk 70 = .ok (.ior, 1) := by decide +kernel
theorem dX10_walk_71 : decode cX10_walk 71 = .ok (.putfield 37, 3) := by decide +kernel
theorem dX10_walk_74 : decode cX10_walk 74 = .ok (.aload_n 0, 1) := by decide +kernel
theorem dX10_walk_75 : decode cX10_walk 75 = .ok (.getfield 22, 3) := by decide +kernel
theorem dX10_walk_78 : decode cX10_walk 78 = .ok (.ifCond .ne 16, 3) := by decide +kernel
theorem dX10_walk_81 : decode cX10_walk 81 = .ok (.aload_n 0, 1) := by decide +kernel
theorem dX10_walk_82 : decode cX10_walk 82 = .ok (.dup, 1) := by decide +kernel
theorem dX10_walk_83 : decode cX10_walk 83 = .ok (.getfield 25, 3) := by decide +kernel
theorem dX10_walk_86 : decode cX10_walk 86 = .ok (.aload_n 2, 1) := by decide +kernel
theorem dX10_walk_87 : decode cX10_walk 87 = .ok (.getfield 76, 3) := by decide +kernel
theorem dX10_walk_90 : decode cX10_walk 90 = .ok (.iadd, 1) := by decide +kernel
theorem dX10_walk_91 : decode cX10_walk 91 = .ok (.putfield 25, 3) := by decide +kernel
theorem dX10_walk_94 : decode cX10_walk 94 = .ok (.aload_n 2, 1) := by decide +kernel
theorem dX10_walk_95 : decode cX10_walk 95 = .ok (.aload_n 0, 1) := by decide +kernel
theorem dX10_walk_96 : decode cX10_walk 96 = .ok (.getfield 18, 3) := by decide +kernel
theorem dX10_walk_99 : decode cX10_walk 99 = .ok (.aload_n 0, 1) := by decide +kernel
theorem dX10_walk_100 : decode cX10_walk 100 = .ok (.getfield 22, 3) := by decide +kernel
theorem dX10_walk_103 : decode cX10_walk 103 = .ok (.aload_n 1, 1) := by decide +kernel
theorem dX10_walk_104 : decode cX10_walk 104 = .ok (.getfield 40, 3) := by decide +kernel
theorem dX10_walk_107 : decode cX10_walk 107 = .ok (.iload_n 3, 1) := by decide +kernel
theorem dX10_walk_108 : decode cX10_walk 108 = .ok (.iload 6, 2) := by decide +kernel
theorem dX10_walk_110 : decode cX10_walk 110 = .ok (.invokevirtual 81, 3) := by decide +kernel
theorem dX10_walk_113 : decode cX10_walk 113 = .ok (.ifCond .eq 16, 3) := by decide +kernel
theorem dX10_walk_116 : decode cX10_walk 116 = .ok (.aload_n 0, 1) := by decide +kernel
theorem dX10_walk_117 : decode cX10_walk 117 = .ok (.dup, 1) := by decide +kernel
theorem dX10_walk_118 : decode cX10_walk 118 = .ok (.getfield 31, 3) := by decide +kernel
theorem dX10_walk_121 : decode cX10_walk 121 = .ok (.iconst 1, 1) := by decide +kernel
theorem dX10_walk_122 : decode cX10_walk 122 = .ok (.iadd, 1) := by decide +kernel
theorem dX10_walk_123 : decode cX10_walk 123 = .ok (.putfield 31, 3) := by decide +kernel
theorem dX10_walk_126 : decode cX10_walk 126 = .ok (.goto 65, 3) := by decide +kernel
theorem dX10_walk_129 : decode cX10_walk 129 = .ok (.aload_n 0, 1) := by decide +kernel
theorem dX10_walk_130 : decode cX10_walk 130 = .ok (.getfield 34, 3) := by decide +kernel
theorem dX10_walk_133 : decode cX10_walk 133 = .ok (.iload 4, 2) := by decide +kernel
theorem dX10_walk_135 : decode cX10_walk 135 = .ok (.dup2, 1) := by decide +kernel
theorem dX10_walk_136 : decode cX10_walk 136 = .ok (.iaload, 1) := by decide +kernel
theorem dX10_walk_137 : decode cX10_walk 137 = .ok (.iconst 1, 1) := by decide +kernel
theorem dX10_walk_138 : decode cX10_walk 138 = .ok (.iadd, 1) := by decide +kernel
theorem dX10_walk_139 : decode cX10_walk 139 = .ok (.iastore, 1) := by decide +kernel
theorem dX10_walk_140 : decode cX10_walk 140 = .ok (.goto 51, 3) := by decide +kernel
theorem dX10_walk_143 : decode cX10_walk 143 = .ok (.aload_n 0, 1) := by decide +kernel
theorem dX10_walk_144 : decode cX10_walk 144 = .ok (.getfield 22, 3) := by decide +kernel
theorem dX10_walk_147 : decode cX10_walk 147 = .ok (.iconst 1, 1) := by decide +kernel
theorem dX10_walk_148 : decode cX10_walk 148 = .ok (.if_icmp .ne 43, 3) := by decide +kernel
theorem dX10_walk_151 : decode cX10_walk 151 = .ok (.aload_n 1, 1) := by decide +kernel
theorem dX10_walk_152 : decode cX10_walk 152 = .ok (.invokevirtual 85, 3) := by decide +kernel
theorem dX10_walk_155 : decode cX10_walk 155 = .ok (.ifCond .eq 13, 3) := by decide +kernel
theorem dX10_walk_158 : decode cX10_walk 158 = .ok (.aload_n 0, 1) := by decide +kernel
theorem dX10_walk_159 : decode cX10_walk 159 = .ok (.getfield 37, 3) := by decide +kernel
theorem dX10_walk_162 : decode cX10_walk 162 = .ok (.iload 5, 2) := by decide +kernel
theorem dX10_walk_164 : decode cX10_walk 164 = .ok (.iand, 1) := by decide +kernel
theorem dX10_walk_165 : decode cX10_walk 165 = .ok (.ifCond .ne 26, 3) := by decide +kernel
theorem dX10_walk_168 : decode cX10_walk 168 = .ok (.aload_n 0, 1) := by decide +kernel
theorem dX10_walk_169 : decode cX10_walk 169 = .ok (.dup, 1) := by decide +kernel
theorem dX10_walk_170 : decode cX10_walk 170 = .ok (.getfield 28, 3) := by decide +kernel
theorem dX10_walk_173 : decode cX10_walk 173 = .ok (.iconst 1, 1) := by decide +kernel
theorem dX10_walk_174 : decode cX10_walk 174 = .ok (.iadd, 1) := by decide +kernel
theorem dX10_walk_175 : decode cX10_walk 175 = .ok (.putfield 28, 3) := by decide +kernel
theorem dX10_walk_178 : decode cX10_walk 178 = .ok (.aload_n 0, 1) := by decide +kernel
theorem dX10_walk_179 : decode cX10_walk 179 = .ok (.dup, 1) := by decide +kernel
theorem dX10_walk_180 : decode cX10_walk 180 = .ok (.getfield 25, 3) := by decide +kernel
theorem dX10_walk_183 : decode cX10_walk 183 = .ok (.aload_n 2, 1) := by decide +kernel
theorem dX10_walk_184 : decode cX10_walk 184 = .ok (.getfield 89, 3) := by decide +kernel
theorem dX10_walk_187 : decode cX10_walk 187 = .ok (.iadd, 1) := by decide +kernel
theorem dX10_walk_188 : decode cX10_walk 188 = .ok (.putfield 25, 3) := by decide +kernel
theorem dX10_walk_191 : decode cX10_walk 191 = .ok (.aload_n 0, 1) := by decide +kernel
theorem dX10_walk_192 : decode cX10_walk 192 = .ok (.getfield 15, 3) := by decide +kernel
theorem dX10_walk_195 : decode cX10_walk 195 = .ok (.aload_n 1, 1) := by decide +kernel
theorem dX10_walk_196 : decode cX10_walk 196 = .ok (.getfield 40, 3) := by decide +kernel
theorem dX10_walk_199 : decode cX10_walk 199 = .ok (.iload 4, 2) := by decide +kernel
theorem dX10_walk_201 : decode cX10_walk 201 = .ok (.iastore, 1) := by decide +kernel
theorem dX10_walk_202 : decode cX10_walk 202 = .ok (.return_, 1) := by decide +kernel
theorem dX10_putDown_0 : decode cX10_putDown 0 = .ok (.iconst 0, 1) := by decide +kernel
theorem dX10_putDown_1 : decode cX10_putDown 1 = .ok (.istore_n 1, 1) := by decide +kernel
theorem dX10_putDown_2 : decode cX10_putDown 2 = .ok (.iload_n 1, 1) := by decide +kernel
theorem dX10_putDown_3 : decode cX10_putDown 3 = .ok (.iconst 4, 1) := by decide +kernel
theorem dX10_putDown_4 : decode cX10_putDown 4 = .ok (.if_icmp .ge 59, 3) := by decide +kernel
theorem dX10_putDown_7 : decode cX10_putDown 7 = .ok (.aload_n 0, 1) := by decide +kernel
theorem dX10_putDown_8 : decode cX10_putDown 8 = .ok (.getfield 9, 3) := by decide +kernel
theorem dX10_putDown_11 : decode cX10_putDown 11 = .ok (.iload_n 1, 1) := by decide +kernel
theorem dX10_putDown_12 : decode cX10_putDown 12 = .ok (.iaload, 1) := by decide +kernel
theorem dX10_putDown_13 : decode cX10_putDown 13 = .ok (.aload_n 0, 1) := by decide +kernel
theorem dX10_putDown_14 : decode cX10_putDown 14 = .ok (.getfield 34, 3) := by decide +kernel
theorem dX10_putDown_17 : decode cX10_putDown 17 = .ok (.iload_n 1, 1) := by decide +kernel
theorem dX10_putDown_18 : decode cX10_putDown 18 = .ok (.iaload, 1) := by decide +kernel
theorem dX10_putDown_19 : decode cX10_putDown 19 = .ok (.iadd, 1) := by decide +kernel
theorem dX10_putDown_20 : decode cX10_putDown 20 = .ok (.istore_n 2, 1) := by decide +kernel
theorem dX10_putDown_21 : decode cX10_putDown 21 = .ok (.aload_n 0, 1) := by decide +kernel
theorem dX10_putDown_22 : decode cX10_putDown 22 = .ok (.getfield 9, 3) := by decide +kernel
theorem dX10_putDown_25 : decode cX10_putDown 25 = .ok (.iload_n 1, 1) := by decide +kernel
theorem dX10_putDown_26 : decode cX10_putDown 26 = .ok (.iload_n 2, 1) := by decide +kernel
theorem dX10_putDown_27 : decode cX10_putDown 27 = .ok (.bipush 9, 2) := by decide +kernel
theorem dX10_putDown_29 : decode cX10_putDown 29 = .ok (.invokestatic 92, 3) := by decide +kernel
theorem dX10_putDown_32 : decode cX10_putDown 32 = .ok (.iastore, 1) := by decide +kernel
theorem dX10_putDown_33 : decode cX10_putDown 33 = .ok (.aload_n 0, 1) := by decide +kernel
theorem dX10_putDown_34 : decode cX10_putDown 34 = .ok (.dup, 1) := by decide +kernel
theorem dX10_putDown_35 : decode cX10_putDown 35 = .ok (.getfield 31, 3) := by decide +kernel
theorem dX10_putDown_38 : decode cX10_putDown 38 = .ok (.iload_n 2, 1) := by decide +kernel
theorem dX10_putDown_39 : decode cX10_putDown 39 = .ok (.aload_n 0, 1) := by decide +kernel
theorem dX10_putDown_40 : decode cX10_putDown 40 = .ok (.getfield 9, 3) := by decide +kernel
theorem dX10_putDown_43 : decode cX10_putDown 43 = .ok (.iload_n 1, 1) := by decide +kernel
theorem dX10_putDown_44 : decode cX10_putDown 44 = .ok (.iaload, 1) := by decide +kernel
theorem dX10_putDown_45 : decode cX10_putDown 45 = .ok (.isub, 1) := by decide +kernel
theorem dX10_putDown_46 : decode cX10_putDown 46 = .ok (.iadd, 1) := by decide +kernel
theorem dX10_putDown_47 : decode cX10_putDown 47 = .ok (.putfield 31, 3) := by decide +kernel
theorem dX10_putDown_50 : decode cX10_putDown 50 = .ok (.aload_n 0, 1) := by decide +kernel
theorem dX10_putDown_51 : decode cX10_putDown 51 = .ok (.getfield 34, 3) := by decide +kernel
theorem dX10_putDown_54 : decode cX10_putDown 54 = .ok (.iload_n 1, 1) := by decide +kernel
theorem dX10_putDown_55 : decode cX10_putDown 55 = .ok (.iconst 0, 1) := by decide +kernel
theorem dX10_putDown_56 : decode cX10_putDown 56 = .ok (.iastore, 1) := by decide +kernel
theorem dX10_putDown_57 : decode cX10_putDown 57 = .ok (.iinc 1 1, 3) := by decide +kernel
theorem dX10_putDown_60 : decode cX10_putDown 60 = .ok (.goto (-58), 3) := by decide +kernel
theorem dX10_putDown_63 : decode cX10_putDown 63 = .ok (.return_, 1) := by decide +kernel
theorem dX10_moveCart_0 : decode cX10_moveCart 0 = .ok (.iconst 0, 1) := by decide +kernel
theorem dX10_moveCart_1 : decode cX10_moveCart 1 = .ok (.istore_n 2, 1) := by decide +kernel
theorem dX10_moveCart_2 : decode cX10_moveCart 2 = .ok (.iconst 0, 1) := by decide +kernel
theorem dX10_moveCart_3 : decode cX10_moveCart 3 = .ok (.istore_n 3, 1) := by decide +kernel
theorem dX10_moveCart_4 : decode cX10_moveCart 4 = .ok (.iconst 1, 1) := by decide +kernel
theorem dX10_moveCart_5 : decode cX10_moveCart 5 = .ok (.istore 4, 2) := by decide +kernel
theorem dX10_moveCart_7 : decode cX10_moveCart 7 = .ok (.iload 4, 2) := by decide +kernel
theorem dX10_moveCart_9 : decode cX10_moveCart 9 = .ok (.iconst 4, 1) := by decide +kernel
theorem dX10_moveCart_10 : decode cX10_moveCart 10 = .ok (.if_icmp .ge 47, 3) := by decide +kernel
theorem dX10_moveCart_13 : decode cX10_moveCart 13 = .ok (.aload_n 0, 1) := by decide +kernel
theorem dX10_moveCart_14 : decode cX10_moveCart 14 = .ok (.getfield 9, 3) := by decide +kernel
theorem dX10_moveCart_17 : decode cX10_moveCart 17 = .ok (.iload 4, 2) := by decide +kernel
theorem dX10_moveCart_19 : decode cX10_moveCart 19 = .ok (.iaload, 1) := by decide +kernel
theorem dX10_moveCart_20 : decode cX10_moveCart 20 = .ok (.aload_n 0, 1) := by decide +kernel
theorem dX10_moveCart_21 : decode cX10_moveCart 21 = .ok (.getfield 9, 3) := by decide +kernel
theorem dX10_moveCart_24 : decode cX10_moveCart 24 = .ok (.iload_n 2, 1) := by decide +kernel
theorem dX10_moveCart_25 : decode cX10_moveCart 25 = .ok (.iaload, 1) := by decide +kernel
theorem dX10_moveCart_26 : decode cX10_moveCart 26 = .ok (.if_icmp .le 6, 3) := by decide +kernel
theorem dX10_moveCart_29 : decode cX10_moveCart 29 = .ok (.iload 4, 2) := by decide +kernel
theorem dX10_moveCart_31 : decode cX10_moveCart 31 = .ok (.istore_n 2, 1) := by decide +kernel
theorem dX10_moveCart_32 : decode cX10_moveCart 32 = .ok (.aload_n 0, 1) := by decide +kernel
theorem dX10_moveCart_33 : decode cX10_moveCart 33 = .ok (.getfield 9, 3) := by decide +kernel
theorem dX10_moveCart_36 : decode cX10_moveCart 36 = .ok (.iload 4, 2) := by decide +kernel
theorem dX10_moveCart_38 : decode cX10_moveCart 38 = .ok (.iaload, 1) := by decide +kernel
theorem dX10_moveCart_39 : decode cX10_moveCart 39 = .ok (.aload_n 0, 1) := by decide +kernel
theorem dX10_moveCart_40 : decode cX10_moveCart 40 = .ok (.getfield 9, 3) := by decide +kernel
theorem dX10_moveCart_43 : decode cX10_moveCart 43 = .ok (.iload_n 3, 1) := by decide +kernel
theorem dX10_moveCart_44 : decode cX10_moveCart 44 = .ok (.iaload, 1) := by decide +kernel
theorem dX10_moveCart_45 : decode cX10_moveCart 45 = .ok (.if_icmp .ge 6, 3) := by decide +kernel
theorem dX10_moveCart_48 : decode cX10_moveCart 48 = .ok (.iload 4, 2) := by decide +kernel
theorem dX10_moveCart_50 : decode cX10_moveCart 50 = .ok (.istore_n 3, 1) := by decide +kernel
theorem dX10_moveCart_51 : decode cX10_moveCart 51 = .ok (.iinc 4 1, 3) := by decide +kernel
theorem dX10_moveCart_54 : decode cX10_moveCart 54 = .ok (.goto (-47), 3) := by decide +kernel
theorem dX10_moveCart_57 : decode cX10_moveCart 57 = .ok (.iload_n 2, 1) := by decide +kernel
theorem dX10_moveCart_58 : decode cX10_moveCart 58 = .ok (.iload_n 3, 1) := by decide +kernel
theorem dX10_moveCart_59 : decode cX10_moveCart 59 = .ok (.if_icmp .ne 5, 3) := by decide +kernel
theorem dX10_moveCart_62 : decode cX10_moveCart 62 = .ok (.iconst 0, 1) := by decide +kernel
theorem dX10_moveCart_63 : decode cX10_moveCart 63 = .ok (.ireturn, 1) := by decide +kernel
theorem dX10_moveCart_64 : decode cX10_moveCart 64 = .ok (.bipush 9, 2) := by decide +kernel
theorem dX10_moveCart_66 : decode cX10_moveCart 66 = .ok (.aload_n 0, 1) := by decide +kernel
theorem dX10_moveCart_67 : decode cX10_moveCart 67 = .ok (.getfield 9, 3) := by decide +kernel
theorem dX10_moveCart_70 : decode cX10_moveCart 70 = .ok (.iload_n 3, 1) := by decide +kernel
theorem dX10_moveCart_71 : decode cX10_moveCart 71 = .ok (.iaload, 1) := by decide +kernel
theorem dX10_moveCart_72 : decode cX10_moveCart 72 = .ok (.isub, 1) := by decide +kernel
theorem dX10_moveCart_73 : decode cX10_moveCart 73 = .ok (.istore 4, 2) := by decide +kernel
theorem dX10_moveCart_75 : decode cX10_moveCart 75 = .ok (.iload_n 1, 1) := by decide +kernel
theorem dX10_moveCart_76 : decode cX10_moveCart 76 = .ok (.aload_n 0, 1) := by decide +kernel
theorem dX10_moveCart_77 : decode cX10_moveCart 77 = .ok (.getfield 9, 3) := by decide +kernel
theorem dX10_moveCart_80 : decode cX10_moveCart 80 = .ok (.iload_n 2, 1) := by decide +kernel
theorem dX10_moveCart_81 : decode cX10_moveCart 81 = .ok (.iaload, 1) := by decide +kernel
theorem dX10_moveCart_82 : decode cX10_moveCart 82 = .ok (.iload 4, 2) := by decide +kernel
theorem dX10_moveCart_84 : decode cX10_moveCart 84 = .ok (.invokestatic 92, 3) := by decide +kernel
theorem dX10_moveCart_87 : decode cX10_moveCart 87 = .ok (.invokestatic 92, 3) := by decide +kernel
theorem dX10_moveCart_90 : decode cX10_moveCart 90 = .ok (.istore 5, 2) := by decide +kernel
theorem dX10_moveCart_92 : decode cX10_moveCart 92 = .ok (.aload_n 0, 1) := by decide +kernel
theorem dX10_moveCart_93 : decode cX10_moveCart 93 = .ok (.getfield 9, 3) := by decide +kernel
theorem dX10_moveCart_96 : decode cX10_moveCart 96 = .ok (.iload_n 2, 1) := by decide +kernel
theorem dX10_moveCart_97 : decode cX10_moveCart 97 = .ok (.dup2, 1) := by decide +kernel
theorem dX10_moveCart_98 : decode cX10_moveCart 98 = .ok (.iaload, 1) := by decide +kernel
theorem dX10_moveCart_99 : decode cX10_moveCart 99 = .ok (.iload 5, 2) := by decide +kernel
theorem dX10_moveCart_101 : decode cX10_moveCart 101 = .ok (.isub, 1) := by decide +kernel
theorem dX10_moveCart_102 : decode cX10_moveCart 102 = .ok (.iastore, 1) := by decide +kernel
theorem dX10_moveCart_103 : decode cX10_moveCart 103 = .ok (.aload_n 0, 1) := by decide +kernel
theorem dX10_moveCart_104 : decode cX10_moveCart 104 = .ok (.getfield 9, 3) := by decide +kernel
theorem dX10_moveCart_107 : decode cX10_moveCart 107 = .ok (.iload_n 3, 1) := by decide +kernel
theorem dX10_moveCart_108 : decode cX10_moveCart 108 = .ok (.dup2, 1) := by decide +kernel
theorem dX10_moveCart_109 : decode cX10_moveCart 109 = .ok (.iaload, 1) := by decide +kernel
theorem dX10_moveCart_110 : decode cX10_moveCart 110 = .ok (.iload 5, 2) := by decide +kernel
theorem dX10_moveCart_112 : decode cX10_moveCart 112 = .ok (.iadd, 1) := by decide +kernel
theorem dX10_moveCart_113 : decode cX10_moveCart 113 = .ok (.iastore, 1) := by decide +kernel
theorem dX10_moveCart_114 : decode cX10_moveCart 114 = .ok (.iload 5, 2) := by decide +kernel
theorem dX10_moveCart_116 : decode cX10_moveCart 116 = .ok (.ireturn, 1) := by decide +kernel
theorem dX11_init_0 : decode cX11_init 0 = .ok (.aload_n 0, 1) := by decide +kernel
theorem dX11_init_1 : decode cX11_init 1 = .ok (.invokespecial 3, 3) := by decide +kernel
theorem dX11_init_4 : decode cX11_init 4 = .ok (.aload_n 0, 1) := by decide +kernel
theorem dX11_init_5 : decode cX11_init 5 = .ok (.new 9, 3) := by decide +kernel
theorem dX11_init_8 : decode cX11_init 8 = .ok (.dup, 1) := by decide +kernel
theorem dX11_init_9 : decode cX11_init 9 = .ok (.invokespecial 11, 3) := by decide +kernel
theorem dX11_init_12 : decode cX11_init 12 = .ok (.putfield 12, 3) := by decide +kernel
theorem dX11_init_15 : decode cX11_init 15 = .ok (.aload_n 0, 1) := by decide +kernel
theorem dX11_init_16 : decode cX11_init 16 = .ok (.new 9, 3) := by decide +kernel
theorem dX11_init_19 : decode cX11_init 19 = .ok (.dup, 1) := by decide +kernel
theorem dX11_init_20 : decode cX11_init 20 = .ok (.invokespecial 11, 3) := by decide +kernel
theorem dX11_init_23 : decode cX11_init 23 = .ok (.putfield 18, 3) := by decide +kernel
theorem dX11_init_26 : decode cX11_init 26 = .ok (.aload_n 0, 1) := by decide +kernel
theorem dX11_init_27 : decode cX11_init 27 = .ok (.iconst 0, 1) := by decide +kernel
theorem dX11_init_28 : decode cX11_init 28 = .ok (.putfield 21, 3) := by decide +kernel
theorem dX11_init_31 : decode cX11_init 31 = .ok (.aload_n 0, 1) := by decide +kernel
theorem dX11_init_32 : decode cX11_init 32 = .ok (.new 25, 3) := by decide +kernel
theorem dX11_init_35 : decode cX11_init 35 = .ok (.dup, 1) := by decide +kernel
theorem dX11_init_36 : decode cX11_init 36 = .ok (.invokespecial 27, 3) := by decide +kernel
theorem dX11_init_39 : decode cX11_init 39 = .ok (.putfield 28, 3) := by decide +kernel
theorem dX11_init_42 : decode cX11_init 42 = .ok (.aload_n 0, 1) := by decide +kernel
theorem dX11_init_43 : decode cX11_init 43 = .ok (.bipush 13, 2) := by decide +kernel
theorem dX11_init_45 : decode cX11_init 45 = .ok (.anewarray 32, 3) := by decide +kernel
theorem dX11_init_48 : decode cX11_init 48 = .ok (.putfield 34, 3) := by decide +kernel
theorem dX11_init_51 : decode cX11_init 51 = .ok (.aload_n 0, 1) := by decide +kernel
theorem dX11_init_52 : decode cX11_init 52 = .ok (.iconst 4, 1) := by decide +kernel
theorem dX11_init_53 : decode cX11_init 53 = .ok (.newarray .long, 2) := by decide +kernel
theorem dX11_init_55 : decode cX11_init 55 = .ok (.putfield 38, 3) := by decide +kernel
theorem dX11_init_58 : decode cX11_init 58 = .ok (.aload_n 0, 1) := by decide +kernel
theorem dX11_init_59 : decode cX11_init 59 = .ok (.lconst 0, 1) := by decide +kernel
theorem dX11_init_60 : decode cX11_init 60 = .ok (.putfield 42, 3) := by decide +kernel
theorem dX11_init_63 : decode cX11_init 63 = .ok (.aload_n 0, 1) := by decide +kernel
theorem dX11_init_64 : decode cX11_init 64 = .ok (.lconst 0, 1) := by decide +kernel
theorem dX11_init_65 : decode cX11_init 65 = .ok (.putfield 46, 3) := by decide +kernel
theorem dX11_init_68 : decode cX11_init 68 = .ok (.aload_n 0, 1) := by decide +kernel
theorem dX11_init_69 : decode cX11_init 69 = .ok (.bipush (-5), 2) := by decide +kernel
theorem dX11_init_71 : decode cX11_init 71 = .ok (.putfield 49, 3) := by decide +kernel
theorem dX11_init_74 : decode cX11_init 74 = .ok (.iconst 0, 1) := by decide +kernel
theorem dX11_init_75 : decode cX11_init 75 = .ok (.istore_n 1, 1) := by decide +kernel
theorem dX11_init_76 : decode cX11_init 76 = .ok (.iload_n 1, 1) := by decide +kernel
theorem dX11_init_77 : decode cX11_init 77 = .ok (.aload_n 0, 1) := by decide +kernel
theorem dX11_init_78 : decode cX11_init 78 = .ok (.getfield 34, 3) := by decide +kernel
theorem dX11_init_81 : decode cX11_init 81 = .ok (.arraylength, 1) := by decide +kernel
theorem dX11_init_82 : decode cX11_init 82 = .ok (.if_icmp .ge 22, 3) := by decide +kernel
theorem dX11_init_85 : decode cX11_init 85 = .ok (.aload_n 0, 1) := by decide +kernel
theorem dX11_init_86 : decode cX11_init 86 = .ok (.getfield 34, 3) := by decide +kernel
theorem dX11_init_89 : decode cX11_init 89 = .ok (.iload_n 1, 1) := by decide +kernel
theorem dX11_init_90 : decode cX11_init 90 = .ok (.new 32, 3) := by decide +kernel
theorem dX11_init_93 : decode cX11_init 93 = .ok (.dup, 1) := by decide +kernel
theorem dX11_init_94 : decode cX11_init 94 = .ok (.invokespecial 53, 3) := by decide +kernel
theorem dX11_init_97 : decode cX11_init 97 = .ok (.aastore, 1) := by decide +kernel
theorem dX11_init_98 : decode cX11_init 98 = .ok (.iinc 1 1, 3) := by decide +kernel
theorem dX11_init_101 : decode cX11_init 101 = .ok (.goto (-25), 3) := by decide +kernel
theorem dX11_init_104 : decode cX11_init 104 = .ok (.return_, 1) := by decide +kernel
theorem dX11_stand_0 : decode cX11_stand 0 = .ok (.iload_n 1, 1) := by decide +kernel
theorem dX11_stand_1 : decode cX11_stand 1 = .ok (.invokestatic 54, 3) := by decide +kernel
theorem dX11_stand_4 : decode cX11_stand 4 = .ok (.ifCond .ne 5, 3) := by decide +kernel
theorem dX11_stand_7 : decode cX11_stand 7 = .ok (.iconst (-1), 1) := by decide +kernel
theorem dX11_stand_8 : decode cX11_stand 8 = .ok (.ireturn, 1) := by decide +kernel
theorem dX11_stand_9 : decode cX11_stand 9 = .ok (.iload_n 2, 1) := by decide +kernel
theorem dX11_stand_10 : decode cX11_stand 10 = .ok (.ifCond .lt 9, 3) := by decide +kernel
theorem dX11_stand_13 : decode cX11_stand 13 = .ok (.iload_n 2, 1) := by decide +kernel
theorem dX11_stand_14 : decode cX11_stand 14 = .ok (.bipush 9, 2) := by decide +kernel
theorem dX11_stand_16 : decode cX11_stand 16 = .ok (.if_icmp .le 6, 3) := by decide +kernel
theorem dX11_stand_19 : decode cX11_stand 19 = .ok (.bipush (-2), 2) := by decide +kernel
theorem dX11_stand_21 : decode cX11_stand 21 = .ok (.ireturn, 1) := by decide +kernel
theorem dX11_stand_22 : decode cX11_stand 22 = .ok (.aload_n 0, 1) := by decide +kernel
theorem dX11_stand_23 : decode cX11_stand 23 = .ok (.getfield 12, 3) := by decide +kernel
theorem dX11_stand_26 : decode cX11_stand 26 = .ok (.getfield 58, 3) := by decide +kernel
theorem dX11_stand_29 : decode cX11_stand 29 = .ok (.getfield 62, 3) := by decide +kernel
theorem dX11_stand_32 : decode cX11_stand 32 = .ok (.iload_n 1, 1) := by decide +kernel
theorem dX11_stand_33 : decode cX11_stand 33 = .ok (.iaload, 1) := by decide +kernel
theorem dX11_stand_34 : decode cX11_stand 34 = .ok (.istore_n 3, 1) := by decide +kernel
theorem dX11_stand_35 : decode cX11_stand 35 = .ok (.aload_n 0, 1) := by decide +kernel
theorem dX11_stand_36 : decode cX11_stand 36 = .ok (.getfield 12, 3) := by decide +kernel
theorem dX11_stand_39 : decode cX11_stand 39 = .ok (.getfield 58, 3) := by decide +kernel
theorem dX11_stand_42 : decode cX11_stand 42 = .ok (.getfield 62, 3) := by decide +kernel
theorem dX11_stand_45 : decode cX11_stand 45 = .ok (.iload_n 1, 1) := by decide +kernel
theorem dX11_stand_46 : decode cX11_stand 46 = .ok (.iload_n 2, 1) := by decide +kernel
theorem dX11_stand_47 : decode cX11_stand 47 = .ok (.iastore, 1) := by decide +kernel
theorem dX11_stand_48 : decode cX11_stand 48 = .ok (.iload_n 3, 1) := by decide +kernel
theorem dX11_stand_49 : decode cX11_stand 49 = .ok (.ireturn, 1) := by decide +kernel
theorem dX11_feed_0 : decode cX11_feed 0 = .ok (.iload_n 3, 1) := by decide +kernel
theorem dX11_feed_1 : decode cX11_feed 1 = .ok (.iconst 1, 1) := by decide +kernel
theorem dX11_feed_2 : decode cX11_feed 2 = .ok (.if_icmp .lt 9, 3) := by decide +kernel
theorem dX11_feed_5 : decode cX11_feed 5 = .ok (.iload_n 3, 1) := by decide +kernel
theorem dX11_feed_6 : decode cX11_feed 6 = .ok (.bipush 8, 2) := by decide +kernel
theorem dX11_feed_8 : decode cX11_feed 8 = .ok (.if_icmp .le 6, 3) := by decide +kernel
theorem dX11_feed_11 : decode cX11_feed 11 = .ok (.bipush (-2), 2) := by decide +kernel
theorem dX11_feed_13 : decode cX11_feed 13 = .ok (.ireturn, 1) := by decide +kernel
theorem dX11_feed_14 : decode cX11_feed 14 = .ok (.aload_n 0, 1) := by decide +kernel
theorem dX11_feed_15 : decode cX11_feed 15 = .ok (.getfield 12, 3) := by decide +kernel
theorem dX11_feed_18 : decode cX11_feed 18 = .ok (.getfield 66, 3) := by decide +kernel
theorem dX11_feed_21 : decode cX11_feed 21 = .ok (.iload_n 3, 1) := by decide +kernel
theorem dX11_feed_22 : decode cX11_feed 22 = .ok (.iadd, 1) := by decide +kernel
theorem dX11_feed_23 : decode cX11_feed 23 = .ok (.bipush 120, 2) := by decide +kernel
theorem dX11_feed_25 : decode cX11_feed 25 = .ok (.if_icmp .le 6, 3) := by decide +kernel
theorem dX11_feed_28 : decode cX11_feed 28 = .ok (.bipush (-4), 2) := by decide +kernel
theorem dX11_feed_30 : decode cX11_feed 30 = .ok (.ireturn, 1) := by decide +kernel
theorem dX11_feed_31 : decode cX11_feed 31 = .ok (.iload_n 3, 1) := by decide +kernel
theorem dX11_feed_32 : decode cX11_feed 32 = .ok (.iconst 1, 1) := by decide +kernel
theorem dX11_feed_33 : decode cX11_feed 33 = .ok (.isub, 1) := by decide +kernel
theorem dX11_feed_34 : decode cX11_feed 34 = .ok (.istore 4, 2) := by decide +kernel
theorem dX11_feed_36 : decode cX11_feed 36 = .ok (.iload 4, 2) := by decide +kernel
theorem dX11_feed_38 : decode cX11_feed 38 = .ok (.ifCond .lt 46, 3) := by decide +kernel
theorem dX11_feed_41 : decode cX11_feed 41 = .ok (.aload_n 0, 1) := by decide +kernel
theorem dX11_feed_42 : decode cX11_feed 42 = .ok (.getfield 12, 3) := by decide +kernel
theorem dX11_feed_45 : decode cX11_feed 45 = .ok (.getfield 69, 3) := by decide +kernel
theorem dX11_feed_48 : decode cX11_feed 48 = .ok (.aload_n 0, 1) := by decide +kernel
theorem dX11_feed_49 : decode cX11_feed 49 = .ok (.getfield 12, 3) := by decide +kernel
theorem dX11_feed_52 : decode cX11_feed 52 = .ok (.getfield 66, 3) := by decide +kernel
theorem dX11_feed_55 : decode cX11_feed 55 = .ok (.lload_n 1, 1) := by decide +kernel
theorem dX11_feed_56 : decode cX11_feed 56 = .ok (.bipush 8, 2) := by decide +kernel
theorem dX11_feed_58 : decode cX11_feed 58 = .ok (.iload 4, 2) := by decide +kernel
theorem dX11_feed_60 : decode cX11_feed 60 = .ok (.imul, 1) := by decide +kernel
theorem dX11_feed_61 : decode cX11_feed 61 = .ok (.lushr, 1) := by decide +kernel
theorem dX11_feed_62 : decode cX11_feed 62 = .ok (.l2i, 1) := by decide +kernel
theorem dX11_feed_63 : decode cX11_feed 63 = .ok (.i2b, 1) := by decide +kernel
theorem dX11_feed_64 : decode cX11_feed 64 = .ok (.bastore, 1) := by decide +kernel
theorem dX11_feed_65 : decode cX11_feed 65 = .ok (.aload_n 0, 1) := by decide +kernel
theorem dX11_feed_66 : decode cX11_feed 66 = .ok (.getfield 12, 3) := by decide +kernel
theorem dX11_feed_69 : decode cX11_feed 69 = .ok (.dup, 1) := by decide +kernel
theorem dX11_feed_70 : decode cX11_feed 70 = .ok (.getfield 66, 3) := by decide +kernel
theorem dX11_feed_73 : decode cX11_feed 73 = .ok (.iconst 1, 1) := by decide +kernel
theorem dX11_feed_74 : decode cX11_feed 74 = .ok (.iadd, 1) := by decide +kernel
theorem dX11_feed_75 : decode cX11_feed 75 = .ok (.putfield 66, 3) := by decide +kernel
theorem dX11_feed_78 : decode cX11_feed 78 = .ok (.iinc 4 (-1), 3) := by decide +kernel
theorem dX11_feed_81 : decode cX11_feed 81 = .ok (.goto (-45), 3) := by decide +kernel
theorem dX11_feed_84 : decode cX11_feed 84 = .ok (.aload_n 0, 1) := by decide +kernel
theorem dX11_feed_85 : decode cX11_feed 85 = .ok (.getfield 12, 3) := by decide +kernel
theorem dX11_feed_88 : decode cX11_feed 88 = .ok (.getfield 66, 3) := by decide +kernel
theorem dX11_feed_91 : decode cX11_feed 91 = .ok (.ireturn, 1) := by decide +kernel
theorem dX11_town_0 : decode cX11_town 0 = .ok (.aload_n 0, 1) := by decide +kernel
theorem dX11_town_1 : decode cX11_town 1 = .ok (.getfield 12, 3) := by decide +kernel
theorem dX11_town_4 : decode cX11_town 4 = .ok (.getfield 73, 3) := by decide +kernel
theorem dX11_town_7 : decode cX11_town 7 = .ok (.iconst 5, 1) := by decide +kernel
theorem dX11_town_8 : decode cX11_town 8 = .ok (.if_icmp .lt 6, 3) := by decide +kernel
theorem dX11_town_11 : decode cX11_town 11 = .ok (.bipush (-4), 2) := by decide +kernel
theorem dX11_town_13 : decode cX11_town 13 = .ok (.ireturn, 1) := by decide +kernel
theorem dX11_town_14 : decode cX11_town 14 = .ok (.new 76, 3) := by decide +kernel
theorem dX11_town_17 : decode cX11_town 17 = .ok (.dup, 1) := by decide +kernel
theorem dX11_town_18 : decode cX11_town 18 = .ok (.invokespecial 78, 3) := by decide +kernel
theorem dX11_town_21 : decode cX11_town 21 = .ok (.astore_n 1, 1) := by decide +kernel
theorem dX11_town_22 : decode cX11_town 22 = .ok (.aload_n 1, 1) := by decide +kernel
theorem dX11_town_23 : decode cX11_town 23 = .ok (.aload_n 0, 1) := by decide +kernel
theorem dX11_town_24 : decode cX11_town 24 = .ok (.getfield 12, 3) := by decide +kernel
theorem dX11_town_27 : decode cX11_town 27 = .ok (.getfield 69, 3) := by decide +kernel
theorem dX11_town_30 : decode cX11_town 30 = .ok (.aload_n 0, 1) := by decide +kernel
theorem dX11_town_31 : decode cX11_town 31 = .ok (.getfield 12, 3) := by decide +kernel
theorem dX11_town_34 : decode cX11_town 34 = .ok (.getfield 66, 3) := by decide +kernel
theorem dX11_town_37 : decode cX11_town 37 = .ok (.invokevirtual 79, 3) := by decide +kernel
theorem dX11_town_40 : decode cX11_town 40 = .ok (.istore_n 2, 1) := by decide +kernel
theorem dX11_town_41 : decode cX11_town 41 = .ok (.aload_n 0, 1) := by decide +kernel
theorem dX11_town_42 : decode cX11_town 42 = .ok (.getfield 12, 3) := by decide +kernel
theorem dX11_town_45 : decode cX11_town 45 = .ok (.iconst 0, 1) := by decide +kernel
theorem dX11_town_46 : decode cX11_town 46 = .ok (.putfield 66, 3) := by decide +kernel
theorem dX11_town_49 : decode cX11_town 49 = .ok (.iload_n 2, 1) := by decide +kernel
theorem dX11_town_50 : decode cX11_town 50 = .ok (.iconst (-1), 1) := by decide +kernel
theorem dX11_town_51 : decode cX11_town 51 = .ok (.if_icmp .eq 8, 3) := by decide +kernel
theorem dX11_town_54 : decode cX11_town 54 = .ok (.bipush (-10), 2) := by decide +kernel
theorem dX11_town_56 : decode cX11_town 56 = .ok (.iload_n 2, 1) := by decide +kernel
theorem dX11_town_57 : decode cX11_town 57 = .ok (.isub, 1) := by decide +kernel
theorem dX11_town_58 : decode cX11_town 58 = .ok (.ireturn, 1) := by decide +kernel
theorem dX11_town_59 : decode cX11_town 59 = .ok (.aload_n 0, 1) := by decide +kernel
theorem dX11_town_60 : decode cX11_town 60 = .ok (.getfield 12, 3) := by decide +kernel
theorem dX11_town_63 : decode cX11_town 63 = .ok (.aload_n 1, 1) := by decide +kernel
theorem dX11_town_64 : decode cX11_town 64 = .ok (.putfield 83, 3) := by decide +kernel
theorem dX11_town_67 : decode cX11_town 67 = .ok (.aload_n 0, 1) := by decide +kernel
theorem dX11_town_68 : decode cX11_town 68 = .ok (.getfield 12, 3) := by decide +kernel
