theorem dX0_init_0 : decode cX0_init 0 = .ok (.aload_n 0, 1) := by decide +kernel
theorem dX0_init_1 : decode cX0_init 1 = .ok (.iload_n 1, 1) := by decide +kernel
theorem dX0_init_2 : decode cX0_init 2 = .ok (.iload_n 2, 1) := by decide +kernel
theorem dX0_init_3 : decode cX0_init 3 = .ok (.iload_n 3, 1) := by decide +kernel
theorem dX0_init_4 : decode cX0_init 4 = .ok (.iload 4, 2) := by decide +kernel
theorem dX0_init_6 : decode cX0_init 6 = .ok (.iload 5, 2) := by decide +kernel
theorem dX0_init_8 : decode cX0_init 8 = .ok (.invokespecial 3, 3) := by decide +kernel
theorem dX0_init_11 : decode cX0_init 11 = .ok (.return_, 1) := by decide +kernel
theorem dX0_wants_0 : decode cX0_wants 0 = .ok (.iload_n 3, 1) := by decide +kernel
theorem dX0_wants_1 : decode cX0_wants 1 = .ok (.iconst 1, 1) := by decide +kernel
theorem dX0_wants_2 : decode cX0_wants 2 = .ok (.if_icmp .eq 21, 3) := by decide +kernel
theorem dX0_wants_5 : decode cX0_wants 5 = .ok (.aload_n 2, 1) := by decide +kernel
theorem dX0_wants_6 : decode cX0_wants 6 = .ok (.aload_n 1, 1) := by decide +kernel
theorem dX0_wants_7 : decode cX0_wants 7 = .ok (.getfield 9, 3) := by decide +kernel
theorem dX0_wants_10 : decode cX0_wants 10 = .ok (.iconst 1, 1) := by decide +kernel
theorem dX0_wants_11 : decode cX0_wants 11 = .ok (.iadd, 1) := by decide +kernel
theorem dX0_wants_12 : decode cX0_wants 12 = .ok (.iload_n 3, 1) := by decide +kernel
theorem dX0_wants_13 : decode cX0_wants 13 = .ok (.invokevirtual 15, 3) := by decide +kernel
theorem dX0_wants_16 : decode cX0_wants 16 = .ok (.aload_n 0, 1) := by decide +kernel
theorem dX0_wants_17 : decode cX0_wants 17 = .ok (.getfield 21, 3) := by decide +kernel
theorem dX0_wants_20 : decode cX0_wants 20 = .ok (.if_icmp .lt 7, 3) := by decide +kernel
theorem dX0_wants_23 : decode cX0_wants 23 = .ok (.iconst 1, 1) := by decide +kernel
theorem dX0_wants_24 : decode cX0_wants 24 = .ok (.goto 4, 3) := by decide +kernel
theorem dX0_wants_27 : decode cX0_wants 27 = .ok (.iconst 0, 1) := by decide +kernel
theorem dX0_wants_28 : decode cX0_wants 28 = .ok (.ireturn, 1) := by decide +kernel
theorem dX0_takes_0 : decode cX0_takes 0 = .ok (.aload_n 2, 1) := by decide +kernel
theorem dX0_takes_1 : decode cX0_takes 1 = .ok (.bipush 11, 2) := by decide +kernel
theorem dX0_takes_3 : decode cX0_takes 3 = .ok (.invokevirtual 26, 3) := by decide +kernel
theorem dX0_takes_6 : decode cX0_takes 6 = .ok (.aload_n 0, 1) := by decide +kernel
theorem dX0_takes_7 : decode cX0_takes 7 = .ok (.iload_n 1, 1) := by decide +kernel
theorem dX0_takes_8 : decode cX0_takes 8 = .ok (.iconst 3, 1) := by decide +kernel
theorem dX0_takes_9 : decode cX0_takes 9 = .ok (.imul, 1) := by decide +kernel
theorem dX0_takes_10 : decode cX0_takes 10 = .ok (.aload_n 2, 1) := by decide +kernel
theorem dX0_takes_11 : decode cX0_takes 11 = .ok (.invokespecial 32, 3) := by decide +kernel
theorem dX0_takes_14 : decode cX0_takes 14 = .ok (.ireturn, 1) := by decide +kernel
theorem dX1_init_0 : decode cX1_init 0 = .ok (.aload_n 0, 1) := by decide +kernel
theorem dX1_init_1 : decode cX1_init 1 = .ok (.iload_n 1, 1) := by decide +kernel
theorem dX1_init_2 : decode cX1_init 2 = .ok (.iload_n 2, 1) := by decide +kernel
theorem dX1_init_3 : decode cX1_init 3 = .ok (.iload_n 3, 1) := by decide +kernel
theorem dX1_init_4 : decode cX1_init 4 = .ok (.iload 4, 2) := by decide +kernel
theorem dX1_init_6 : decode cX1_init 6 = .ok (.iload 5, 2) := by decide +kernel
theorem dX1_init_8 : decode cX1_init 8 = .ok (.invokespecial 1, 3) := by decide +kernel
theorem dX1_init_11 : decode cX1_init 11 = .ok (.return_, 1) := by decide +kernel
theorem dX1_wants_0 : decode cX1_wants 0 = .ok (.iconst 1, 1) := by decide +kernel
theorem dX1_wants_1 : decode cX1_wants 1 = .ok (.ireturn, 1) := by decide +kernel
theorem dX1_tells_0 : decode cX1_tells 0 = .ok (.aload_n 2, 1) := by decide +kernel
theorem dX1_tells_1 : decode cX1_tells 1 = .ok (.bipush 41, 2) := by decide +kernel
theorem dX1_tells_3 : decode cX1_tells 3 = .ok (.invokevirtual 7, 3) := by decide +kernel
theorem dX1_tells_6 : decode cX1_tells 6 = .ok (.aload_n 0, 1) := by decide +kernel
theorem dX1_tells_7 : decode cX1_tells 7 = .ok (.iload_n 1, 1) := by decide +kernel
theorem dX1_tells_8 : decode cX1_tells 8 = .ok (.iconst 1, 1) := by decide +kernel
theorem dX1_tells_9 : decode cX1_tells 9 = .ok (.isub, 1) := by decide +kernel
theorem dX1_tells_10 : decode cX1_tells 10 = .ok (.aload_n 2, 1) := by decide +kernel
theorem dX1_tells_11 : decode cX1_tells 11 = .ok (.invokespecial 13, 3) := by decide +kernel
theorem dX1_tells_14 : decode cX1_tells 14 = .ok (.istore_n 3, 1) := by decide +kernel
theorem dX1_tells_15 : decode cX1_tells 15 = .ok (.iload_n 3, 1) := by decide +kernel
theorem dX1_tells_16 : decode cX1_tells 16 = .ok (.aload_n 0, 1) := by decide +kernel
theorem dX1_tells_17 : decode cX1_tells 17 = .ok (.iconst 2, 1) := by decide +kernel
theorem dX1_tells_18 : decode cX1_tells 18 = .ok (.aload_n 2, 1) := by decide +kernel
theorem dX1_tells_19 : decode cX1_tells 19 = .ok (.invokevirtual 17, 3) := by decide +kernel
theorem dX1_tells_22 : decode cX1_tells 22 = .ok (.iadd, 1) := by decide +kernel
theorem dX1_tells_23 : decode cX1_tells 23 = .ok (.ireturn, 1) := by decide +kernel
theorem dX2_init_0 : decode cX2_init 0 = .ok (.aload_n 0, 1) := by decide +kernel
theorem dX2_init_1 : decode cX2_init 1 = .ok (.iload_n 1, 1) := by decide +kernel
theorem dX2_init_2 : decode cX2_init 2 = .ok (.iload_n 2, 1) := by decide +kernel
theorem dX2_init_3 : decode cX2_init 3 = .ok (.iload_n 3, 1) := by decide +kernel
theorem dX2_init_4 : decode cX2_init 4 = .ok (.iload 4, 2) := by decide +kernel
theorem dX2_init_6 : decode cX2_init 6 = .ok (.iload 5, 2) := by decide +kernel
theorem dX2_init_8 : decode cX2_init 8 = .ok (.invokespecial 3, 3) := by decide +kernel
theorem dX2_init_11 : decode cX2_init 11 = .ok (.return_, 1) := by decide +kernel
theorem dX2_wants_0 : decode cX2_wants 0 = .ok (.aload_n 1, 1) := by decide +kernel
theorem dX2_wants_1 : decode cX2_wants 1 = .ok (.getfield 9, 3) := by decide +kernel
theorem dX2_wants_4 : decode cX2_wants 4 = .ok (.aload_n 0, 1) := by decide +kernel
theorem dX2_wants_5 : decode cX2_wants 5 = .ok (.getfield 15, 3) := by decide +kernel
theorem dX2_wants_8 : decode cX2_wants 8 = .ok (.iaload, 1) := by decide +kernel
theorem dX2_wants_9 : decode cX2_wants 9 = .ok (.istore 4, 2) := by decide +kernel
theorem dX2_wants_11 : decode cX2_wants 11 = .ok (.aload_n 1, 1) := by decide +kernel
theorem dX2_wants_12 : decode cX2_wants 12 = .ok (.getfield 21, 3) := by decide +kernel
theorem dX2_wants_15 : decode cX2_wants 15 = .ok (.iload 4, 2) := by decide +kernel
theorem dX2_wants_17 : decode cX2_wants 17 = .ok (.iaload, 1) := by decide +kernel
theorem dX2_wants_18 : decode cX2_wants 18 = .ok (.istore 5, 2) := by decide +kernel
theorem dX2_wants_20 : decode cX2_wants 20 = .ok (.iload_n 3, 1) := by decide +kernel
theorem dX2_wants_21 : decode cX2_wants 21 = .ok (.iconst 1, 1) := by decide +kernel
theorem dX2_wants_22 : decode cX2_wants 22 = .ok (.if_icmp .eq 28, 3) := by decide +kernel
theorem dX2_wants_25 : decode cX2_wants 25 = .ok (.iload 5, 2) := by decide +kernel
theorem dX2_wants_27 : decode cX2_wants 27 = .ok (.aload_n 0, 1) := by decide +kernel
theorem dX2_wants_28 : decode cX2_wants 28 = .ok (.getfield 24, 3) := by decide +kernel
theorem dX2_wants_31 : decode cX2_wants 31 = .ok (.if_icmp .lt 23, 3) := by decide +kernel
theorem dX2_wants_34 : decode cX2_wants 34 = .ok (.iload 5, 2) := by decide +kernel
theorem dX2_wants_36 : decode cX2_wants 36 = .ok (.aload_n 1, 1) := by decide +kernel
theorem dX2_wants_37 : decode cX2_wants 37 = .ok (.getfield 21, 3) := by decide +kernel
theorem dX2_wants_40 : decode cX2_wants 40 = .ok (.aload_n 0, 1) := by decide +kernel
theorem dX2_wants_41 : decode cX2_wants 41 = .ok (.iload 4, 2) := by decide +kernel
theorem dX2_wants_43 : decode cX2_wants 43 = .ok (.invokevirtual 27, 3) := by decide +kernel
theorem dX2_wants_46 : decode cX2_wants 46 = .ok (.iaload, 1) := by decide +kernel
theorem dX2_wants_47 : decode cX2_wants 47 = .ok (.if_icmp .le 7, 3) := by decide +kernel
theorem dX2_wants_50 : decode cX2_wants 50 = .ok (.iconst 1, 1) := by decide +kernel
theorem dX2_wants_51 : decode cX2_wants 51 = .ok (.goto 4, 3) := by decide +kernel
theorem dX2_wants_54 : decode cX2_wants 54 = .ok (.iconst 0, 1) := by decide +kernel
theorem dX2_wants_55 : decode cX2_wants 55 = .ok (.ireturn, 1) := by decide +kernel
theorem dX2_walks_0 : decode cX2_walks 0 = .ok (.aload_n 2, 1) := by decide +kernel
theorem dX2_walks_1 : decode cX2_walks 1 = .ok (.bipush 21, 2) := by decide +kernel
theorem dX2_walks_3 : decode cX2_walks 3 = .ok (.invokevirtual 31, 3) := by decide +kernel
theorem dX2_walks_6 : decode cX2_walks 6 = .ok (.aload_n 0, 1) := by decide +kernel
theorem dX2_walks_7 : decode cX2_walks 7 = .ok (.iload_n 1, 1) := by decide +kernel
theorem dX2_walks_8 : decode cX2_walks 8 = .ok (.aload_n 2, 1) := by decide +kernel
theorem dX2_walks_9 : decode cX2_walks 9 = .ok (.invokespecial 37, 3) := by decide +kernel
theorem dX2_walks_12 : decode cX2_walks 12 = .ok (.ineg, 1) := by decide +kernel
theorem dX2_walks_13 : decode cX2_walks 13 = .ok (.ireturn, 1) := by decide +kernel
theorem dX3_init_0 : decode cX3_init 0 = .ok (.aload_n 0, 1) := by decide +kernel
theorem dX3_init_1 : decode cX3_init 1 = .ok (.iload_n 1, 1) := by decide +kernel
theorem dX3_init_2 : decode cX3_init 2 = .ok (.iload_n 2, 1) := by decide +kernel
theorem dX3_init_3 : decode cX3_init 3 = .ok (.iload_n 3, 1) := by decide +kernel
theorem dX3_init_4 : decode cX3_init 4 = .ok (.iload 4, 2) := by decide +kernel
theorem dX3_init_6 : decode cX3_init 6 = .ok (.iload 5, 2) := by decide +kernel
theorem dX3_init_8 : decode cX3_init 8 = .ok (.invokespecial 3, 3) := by decide +kernel
theorem dX3_init_11 : decode cX3_init 11 = .ok (.return_, 1) := by decide +kernel
theorem dX3_wants_0 : decode cX3_wants 0 = .ok (.aload_n 1, 1) := by decide +kernel
theorem dX3_wants_1 : decode cX3_wants 1 = .ok (.getfield 9, 3) := by decide +kernel
theorem dX3_wants_4 : decode cX3_wants 4 = .ok (.aload_n 1, 1) := by decide +kernel
theorem dX3_wants_5 : decode cX3_wants 5 = .ok (.getfield 15, 3) := by decide +kernel
theorem dX3_wants_8 : decode cX3_wants 8 = .ok (.aload_n 0, 1) := by decide +kernel
theorem dX3_wants_9 : decode cX3_wants 9 = .ok (.getfield 18, 3) := by decide +kernel
theorem dX3_wants_12 : decode cX3_wants 12 = .ok (.iaload, 1) := by decide +kernel
theorem dX3_wants_13 : decode cX3_wants 13 = .ok (.iaload, 1) := by decide +kernel
theorem dX3_wants_14 : decode cX3_wants 14 = .ok (.iconst 1, 1) := by decide +kernel
theorem dX3_wants_15 : decode cX3_wants 15 = .ok (.if_icmp .ne 7, 3) := by decide +kernel
theorem dX3_wants_18 : decode cX3_wants 18 = .ok (.iconst 1, 1) := by decide +kernel
theorem dX3_wants_19 : decode cX3_wants 19 = .ok (.goto 4, 3) := by decide +kernel
theorem dX3_wants_22 : decode cX3_wants 22 = .ok (.iconst 0, 1) := by decide +kernel
theorem dX3_wants_23 : decode cX3_wants 23 = .ok (.istore 4, 2) := by decide +kernel
theorem dX3_wants_25 : decode cX3_wants 25 = .ok (.aload_n 0, 1) := by decide +kernel
theorem dX3_wants_26 : decode cX3_wants 26 = .ok (.aload_n 1, 1) := by decide +kernel
theorem dX3_wants_27 : decode cX3_wants 27 = .ok (.aload_n 2, 1) := by decide +kernel
theorem dX3_wants_28 : decode cX3_wants 28 = .ok (.iload_n 3, 1) := by decide +kernel
theorem dX3_wants_29 : decode cX3_wants 29 = .ok (.invokespecial 24, 3) := by decide +kernel
theorem dX3_wants_32 : decode cX3_wants 32 = .ok (.ifCond .eq 16, 3) := by decide +kernel
theorem dX3_wants_35 : decode cX3_wants 35 = .ok (.iload_n 3, 1) := by decide +kernel
theorem dX3_wants_36 : decode cX3_wants 36 = .ok (.ifCond .ne 8, 3) := by decide +kernel
theorem dX3_wants_39 : decode cX3_wants 39 = .ok (.iload 4, 2) := by decide +kernel
theorem dX3_wants_41 : decode cX3_wants 41 = .ok (.ifCond .ne 7, 3) := by decide +kernel
theorem dX3_wants_44 : decode cX3_wants 44 = .ok (.iconst 1, 1) := by decide +kernel
theorem dX3_wants_45 : decode cX3_wants 45 = .ok (.goto 4, 3) := by decide +kernel
theorem dX3_wants_48 : decode cX3_wants 48 = .ok (.iconst 0, 1) := by decide +kernel
theorem dX3_wants_49 : decode cX3_wants 49 = .ok (.ireturn, 1) := by decide +kernel
theorem dX3_walks_0 : decode cX3_walks 0 = .ok (.aload_n 2, 1) := by decide +kernel
theorem dX3_walks_1 : decode cX3_walks 1 = .ok (.bipush 61, 2) := by decide +kernel
theorem dX3_walks_3 : decode cX3_walks 3 = .ok (.invokevirtual 28, 3) := by decide +kernel
theorem dX3_walks_6 : decode cX3_walks 6 = .ok (.aload_n 0, 1) := by decide +kernel
theorem dX3_walks_7 : decode cX3_walks 7 = .ok (.iload_n 1, 1) := by decide +kernel
theorem dX3_walks_8 : decode cX3_walks 8 = .ok (.aload_n 2, 1) := by decide +kernel
theorem dX3_walks_9 : decode cX3_walks 9 = .ok (.invokespecial 34, 3) := by decide +kernel
theorem dX3_walks_12 : decode cX3_walks 12 = .ok (.aload_n 0, 1) := by decide +kernel
theorem dX3_walks_13 : decode cX3_walks 13 = .ok (.getfield 38, 3) := by decide +kernel
theorem dX3_walks_16 : decode cX3_walks 16 = .ok (.iadd, 1) := by decide +kernel
theorem dX3_walks_17 : decode cX3_walks 17 = .ok (.ireturn, 1) := by decide +kernel
theorem dX4_init_0 : decode cX4_init 0 = .ok (.aload_n 0, 1) := by decide +kernel
theorem dX4_init_1 : decode cX4_init 1 = .ok (.iload_n 1, 1) := by decide +kernel
theorem dX4_init_2 : decode cX4_init 2 = .ok (.iload_n 2, 1) := by decide +kernel
theorem dX4_init_3 : decode cX4_init 3 = .ok (.iload_n 3, 1) := by decide +kernel
theorem dX4_init_4 : decode cX4_init 4 = .ok (.iload 4, 2) := by decide +kernel
theorem dX4_init_6 : decode cX4_init 6 = .ok (.iload 5, 2) := by decide +kernel
theorem dX4_init_8 : decode cX4_init 8 = .ok (.invokespecial 3, 3) := by decide +kernel
theorem dX4_init_11 : decode cX4_init 11 = .ok (.return_, 1) := by decide +kernel
theorem dX4_wants_0 : decode cX4_wants 0 = .ok (.iload_n 3, 1) := by decide +kernel
theorem dX4_wants_1 : decode cX4_wants 1 = .ok (.iconst 1, 1) := by decide +kernel
theorem dX4_wants_2 : decode cX4_wants 2 = .ok (.if_icmp .ne 21, 3) := by decide +kernel
theorem dX4_wants_5 : decode cX4_wants 5 = .ok (.aload_n 1, 1) := by decide +kernel
theorem dX4_wants_6 : decode cX4_wants 6 = .ok (.getfield 9, 3) := by decide +kernel
theorem dX4_wants_9 : decode cX4_wants 9 = .ok (.bipush 10, 2) := by decide +kernel
theorem dX4_wants_11 : decode cX4_wants 11 = .ok (.irem, 1) := by decide +kernel
theorem dX4_wants_12 : decode cX4_wants 12 = .ok (.aload_n 0, 1) := by decide +kernel
theorem dX4_wants_13 : decode cX4_wants 13 = .ok (.getfield 15, 3) := by decide +kernel
theorem dX4_wants_16 : decode cX4_wants 16 = .ok (.if_icmp .eq 7, 3) := by decide +kernel
theorem dX4_wants_19 : decode cX4_wants 19 = .ok (.iconst 1, 1) := by decide +kernel
theorem dX4_wants_20 : decode cX4_wants 20 = .ok (.goto 4, 3) := by decide +kernel
theorem dX4_wants_23 : decode cX4_wants 23 = .ok (.iconst 0, 1) := by decide +kernel
theorem dX4_wants_24 : decode cX4_wants 24 = .ok (.ireturn, 1) := by decide +kernel
theorem dX4_tells_0 : decode cX4_tells 0 = .ok (.aload_n 2, 1) := by decide +kernel
theorem dX4_tells_1 : decode cX4_tells 1 = .ok (.bipush 31, 2) := by decide +kernel
theorem dX4_tells_3 : decode cX4_tells 3 = .ok (.invokevirtual 20, 3) := by decide +kernel
theorem dX4_tells_6 : decode cX4_tells 6 = .ok (.aload_n 0, 1) := by decide +kernel
theorem dX4_tells_7 : decode cX4_tells 7 = .ok (.iload_n 1, 1) := by decide +kernel
theorem dX4_tells_8 : decode cX4_tells 8 = .ok (.aload_n 2, 1) := by decide +kernel
theorem dX4_tells_9 : decode cX4_tells 9 = .ok (.invokespecial 26, 3) := by decide +kernel
theorem dX4_tells_12 : decode cX4_tells 12 = .ok (.bipush 7, 2) := by decide +kernel
theorem dX4_tells_14 : decode cX4_tells 14 = .ok (.ixor, 1) := by decide +kernel
theorem dX4_tells_15 : decode cX4_tells 15 = .ok (.ireturn, 1) := by decide +kernel
theorem dX5_init_0 : decode cX5_init 0 = .ok (.aload_n 0, 1) := by decide +kernel
theorem dX5_init_1 : decode cX5_init 1 = .ok (.iload_n 1, 1) := by decide +kernel
theorem dX5_init_2 : decode cX5_init 2 = .ok (.iload_n 2, 1) := by decide +kernel
theorem dX5_init_3 : decode cX5_init 3 = .ok (.iload_n 3, 1) := by decide +kernel
theorem dX5_init_4 : decode cX5_init 4 = .ok (.iload 4, 2) := by decide +kernel
theorem dX5_init_6 : decode cX5_init 6 = .ok (.iload 5, 2) := by decide +kernel
theorem dX5_init_8 : decode cX5_init 8 = .ok (.invokespecial 1, 3) := by decide +kernel
theorem dX5_init_11 : decode cX5_init 11 = .ok (.return_, 1) := by decide +kernel
theorem dX5_shares_0 : decode cX5_shares 0 = .ok (.iconst 1, 1) := by decide +kernel
theorem dX5_shares_1 : decode cX5_shares 1 = .ok (.ireturn, 1) := by decide +kernel
theorem dX5_takes_0 : decode cX5_takes 0 = .ok (.aload_n 2, 1) := by decide +kernel
theorem dX5_takes_1 : decode cX5_takes 1 = .ok (.bipush 51, 2) := by decide +kernel
theorem dX5_takes_3 : decode cX5_takes 3 = .ok (.invokevirtual 7, 3) := by decide +kernel
theorem dX5_takes_6 : decode cX5_takes 6 = .ok (.aload_n 0, 1) := by decide +kernel
theorem dX5_takes_7 : decode cX5_takes 7 = .ok (.iload_n 1, 1) := by decide +kernel
theorem dX5_takes_8 : decode cX5_takes 8 = .ok (.aload_n 2, 1) := by decide +kernel
theorem dX5_takes_9 : decode cX5_takes 9 = .ok (.invokespecial 13, 3) := by decide +kernel
theorem dX5_takes_12 : decode cX5_takes 12 = .ok (.aload_n 0, 1) := by decide +kernel
theorem dX5_takes_13 : decode cX5_takes 13 = .ok (.getfield 17, 3) := by decide +kernel
theorem dX5_takes_16 : decode cX5_takes 16 = .ok (.ixor, 1) := by decide +kernel
theorem dX5_takes_17 : decode cX5_takes 17 = .ok (.ireturn, 1) := by decide +kernel
theorem dX6_init_0 : decode cX6_init 0 = .ok (.aload_n 0, 1) := by decide +kernel
theorem dX6_init_1 : decode cX6_init 1 = .ok (.invokespecial 3, 3) := by decide +kernel
theorem dX6_init_4 : decode cX6_init 4 = .ok (.aload_n 0, 1) := by decide +kernel
theorem dX6_init_5 : decode cX6_init 5 = .ok (.new 9, 3) := by decide +kernel
theorem dX6_init_8 : decode cX6_init 8 = .ok (.dup, 1) := by decide +kernel
theorem dX6_init_9 : decode cX6_init 9 = .ok (.invokespecial 11, 3) := by decide +kernel
theorem dX6_init_12 : decode cX6_init 12 = .ok (.putfield 12, 3) := by decide +kernel
theorem dX6_init_15 : decode cX6_init 15 = .ok (.aload_n 0, 1) := by decide +kernel
theorem dX6_init_16 : decode cX6_init 16 = .ok (.bipush 6, 2) := by decide +kernel
theorem dX6_init_18 : decode cX6_init 18 = .ok (.anewarray 18, 3) := by decide +kernel
theorem dX6_init_21 : decode cX6_init 21 = .ok (.putfield 20, 3) := by decide +kernel
theorem dX6_init_24 : decode cX6_init 24 = .ok (.aload_n 0, 1) := by decide +kernel
theorem dX6_init_25 : decode cX6_init 25 = .ok (.bipush 6, 2) := by decide +kernel
theorem dX6_init_27 : decode cX6_init 27 = .ok (.newarray .int, 2) := by decide +kernel
theorem dX6_init_29 : decode cX6_init 29 = .ok (.putfield 24, 3) := by decide +kernel
theorem dX6_init_32 : decode cX6_init 32 = .ok (.aload_n 0, 1) := by decide +kernel
theorem dX6_init_33 : decode cX6_init 33 = .ok (.iconst 0, 1) := by decide +kernel
theorem dX6_init_34 : decode cX6_init 34 = .ok (.putfield 28, 3) := by decide +kernel
theorem dX6_init_37 : decode cX6_init 37 = .ok (.aload_n 0, 1) := by decide +kernel
theorem dX6_init_38 : decode cX6_init 38 = .ok (.new 32, 3) := by decide +kernel
theorem dX6_init_41 : decode cX6_init 41 = .ok (.dup, 1) := by decide +kernel
theorem dX6_init_42 : decode cX6_init 42 = .ok (.invokespecial 34, 3) := by decide +kernel
theorem dX6_init_45 : decode cX6_init 45 = .ok (.putfield 35, 3) := by decide +kernel
theorem dX6_init_48 : decode cX6_init 48 = .ok (.aload_n 0, 1) := by decide +kernel
theorem dX6_init_49 : decode cX6_init 49 = .ok (.iconst 0, 1) := by decide +kernel
theorem dX6_init_50 : decode cX6_init 50 = .ok (.putfield 39, 3) := by decide +kernel
theorem dX6_init_53 : decode cX6_init 53 = .ok (.aload_n 0, 1) := by decide +kernel
theorem dX6_init_54 : decode cX6_init 54 = .ok (.bipush 120, 2) := by decide +kernel
theorem dX6_init_56 : decode cX6_init 56 = .ok (.newarray .byte, 2) := by decide +kernel
theorem dX6_init_58 : decode cX6_init 58 = .ok (.putfield 42, 3) := by decide +kernel
theorem dX6_init_61 : decode cX6_init 61 = .ok (.aload_n 0, 1) := by decide +kernel
theorem dX6_init_62 : decode cX6_init 62 = .ok (.iconst 0, 1) := by decide +kernel
theorem dX6_init_63 : decode cX6_init 63 = .ok (.putfield 46, 3) := by decide +kernel
theorem dX6_init_66 : decode cX6_init 66 = .ok (.aload_n 0, 1) := by decide +kernel
theorem dX6_init_67 : decode cX6_init 67 = .ok (.bipush 20, 2) := by decide +kernel
theorem dX6_init_69 : decode cX6_init 69 = .ok (.newarray .int, 2) := by decide +kernel
theorem dX6_init_71 : decode cX6_init 71 = .ok (.putfield 49, 3) := by decide +kernel
theorem dX6_init_74 : decode cX6_init 74 = .ok (.aload_n 0, 1) := by decide +kernel
theorem dX6_init_75 : decode cX6_init 75 = .ok (.iconst 0, 1) := by decide +kernel
theorem dX6_init_76 : decode cX6_init 76 = .ok (.putfield 52, 3) := by decide +kernel
theorem dX6_init_79 : decode cX6_init 79 = .ok (.aload_n 0, 1) := by decide +kernel
theorem dX6_init_80 : decode cX6_init 80 = .ok (.bipush 10, 2) := by decide +kernel
theorem dX6_init_82 : decode cX6_init 82 = .ok (.newarray .int, 2) := by decide +kernel
theorem dX6_init_84 : decode cX6_init 84 = .ok (.putfield 55, 3) := by decide +kernel
theorem dX6_init_87 : decode cX6_init 87 = .ok (.aload_n 0, 1) := by decide +kernel
theorem dX6_init_88 : decode cX6_init 88 = .ok (.bipush 10, 2) := by decide +kernel
theorem dX6_init_90 : decode cX6_init 90 = .ok (.newarray .int, 2) := by decide +kernel
theorem dX6_init_92 : decode cX6_init 92 = .ok (.putfield 58, 3) := by decide +kernel
theorem dX6_init_95 : decode cX6_init 95 = .ok (.aload_n 0, 1) := by decide +kernel
theorem dX6_init_96 : decode cX6_init 96 = .ok (.iconst 0, 1) := by decide +kernel
theorem dX6_init_97 : decode cX6_init 97 = .ok (.putfield 61, 3) := by decide +kernel
theorem dX6_init_100 : decode cX6_init 100 = .ok (.return_, 1) := by decide +kernel
theorem dX6_copyFrom_0 : decode cX6_copyFrom 0 = .ok (.aload_n 0, 1) := by decide +kernel
theorem dX6_copyFrom_1 : decode cX6_copyFrom 1 = .ok (.getfield 12, 3) := by decide +kernel
theorem dX6_copyFrom_4 : decode cX6_copyFrom 4 = .ok (.aload_n 1, 1) := by decide +kernel
theorem dX6_copyFrom_5 : decode cX6_copyFrom 5 = .ok (.getfield 12, 3) := by decide +kernel
theorem dX6_copyFrom_8 : decode cX6_copyFrom 8 = .ok (.invokevirtual 64, 3) := by decide +kernel
theorem dX6_copyFrom_11 : decode cX6_copyFrom 11 = .ok (.iconst 0, 1) := by decide +kernel
theorem dX6_copyFrom_12 : decode cX6_copyFrom 12 = .ok (.istore_n 2, 1) := by decide +kernel
theorem dX6_copyFrom_13 : decode cX6_copyFrom 13 = .ok (.iload_n 2, 1) := by decide +kernel
theorem dX6_copyFrom_14 : decode cX6_copyFrom 14 = .ok (.bipush 6, 2) := by decide +kernel
theorem dX6_copyFrom_16 : decode cX6_copyFrom 16 = .ok (.if_icmp .ge 33, 3) := by decide +kernel
theorem dX6_copyFrom_19 : decode cX6_copyFrom 19 = .ok (.aload_n 0, 1) := by decide +kernel
theorem dX6_copyFrom_20 : decode cX6_copyFrom 20 = .ok (.getfield 20, 3) := by decide +kernel
theorem dX6_copyFrom_23 : decode cX6_copyFrom 23 = .ok (.iload_n 2, 1) := by decide +kernel
theorem dX6_copyFrom_24 : decode cX6_copyFrom 24 = .ok (.aload_n 1, 1) := by decide +kernel
theorem dX6_copyFrom_25 : decode cX6_copyFrom 25 = .ok (.getfield 20, 3) := by decide +kernel
theorem dX6_copyFrom_28 : decode cX6_copyFrom 28 = .ok (.iload_n 2, 1) := by decide +kernel
theorem dX6_copyFrom_29 : decode cX6_copyFrom 29 = .ok (.aaload, 1) := by decide +kernel
theorem dX6_copyFrom_30 : decode cX6_copyFrom 30 = .ok (.aastore, 1) := by decide +kernel
theorem dX6_copyFrom_31 : decode cX6_copyFrom 31 = .ok (.aload_n 0, 1) := by decide +kernel
theorem dX6_copyFrom_32 : decode cX6_copyFrom 32 = .ok (.getfield 24, 3) := by decide +kernel
theorem dX6_copyFrom_35 : decode cX6_copyFrom 35 = .ok (.iload_n 2, 1) := by decide +kernel
theorem dX6_copyFrom_36 : decode cX6_copyFrom 36 = .ok (.aload_n 1, 1) := by decide +kernel
theorem dX6_copyFrom_37 : decode cX6_copyFrom 37 = .ok (.getfield 24, 3) := by decide +kernel
theorem dX6_copyFrom_40 : decode cX6_copyFrom 40 = .ok (.iload_n 2, 1) := by decide +kernel
theorem dX6_copyFrom_41 : decode cX6_copyFrom 41 = .ok (.iaload, 1) := by decide +kernel
theorem dX6_copyFrom_42 : decode cX6_copyFrom 42 = .ok (.iastore, 1) := by decide +kernel
theorem dX6_copyFrom_43 : decode cX6_copyFrom 43 = .ok (.iinc 2 1, 3) := by decide +kernel
theorem dX6_copyFrom_46 : decode cX6_copyFrom 46 = .ok (.goto (-33), 3) := by decide +kernel
theorem dX6_copyFrom_49 : decode cX6_copyFrom 49 = .ok (.aload_n 0, 1) := by decide +kernel
theorem dX6_copyFrom_50 : decode cX6_copyFrom 50 = .ok (.aload_n 1, 1) := by decide +kernel
theorem dX6_copyFrom_51 : decode cX6_copyFrom 51 = .ok (.getfield 28, 3) := by decide +kernel
theorem dX6_copyFrom_54 : decode cX6_copyFrom 54 = .ok (.putfield 28, 3) := by decide +kernel
theorem dX6_copyFrom_57 : decode cX6_copyFrom 57 = .ok (.aload_n 0, 1) := by decide +kernel
theorem dX6_copyFrom_58 : decode cX6_copyFrom 58 = .ok (.aload_n 1, 1) := by decide +kernel
theorem dX6_copyFrom_59 : decode cX6_copyFrom 59 = .ok (.getfield 35, 3) := by decide +kernel
theorem dX6_copyFrom_62 : decode cX6_copyFrom 62 = .ok (.putfield 35, 3) := by decide +kernel
theorem dX6_copyFrom_65 : decode cX6_copyFrom 65 = .ok (.aload_n 0, 1) := by decide +kernel
theorem dX6_copyFrom_66 : decode cX6_copyFrom 66 = .ok (.aload_n 1, 1) := by decide +kernel
theorem dX6_copyFrom_67 : decode cX6_copyFrom 67 = .ok (.getfield 39, 3) := by decide +kernel
theorem dX6_copyFrom_70 : decode cX6_copyFrom 70 = .ok (.putfield 39, 3) := by decide +kernel
theorem dX6_copyFrom_73 : decode cX6_copyFrom 73 = .ok (.aload_n 1, 1) := by decide +kernel
theorem dX6_copyFrom_74 : decode cX6_copyFrom 74 = .ok (.getfield 42, 3) := by decide +kernel
theorem dX6_copyFrom_77 : decode cX6_copyFrom 77 = .ok (.iconst 0, 1) := by decide +kernel
theorem dX6_copyFrom_78 : decode cX6_copyFrom 78 = .ok (.aload_n 0, 1) := by decide +kernel
theorem dX6_copyFrom_79 : decode cX6_copyFrom 79 = .ok (.getfield 42, 3) := by decide +kernel
theorem dX6_copyFrom_82 : decode cX6_copyFrom 82 = .ok (.iconst 0, 1) := by decide +kernel
theorem dX6_copyFrom_83 : decode cX6_copyFrom 83 = .ok (.bipush 120, 2) := by decide +kernel
theorem dX6_copyFrom_85 : decode cX6_copyFrom 85 = .ok (.invokestatic 68, 3) := by decide +kernel
theorem dX6_copyFrom_88 : decode cX6_copyFrom 88 = .ok (.aload_n 0, 1) := by decide +kernel
theorem dX6_copyFrom_89 : decode cX6_copyFrom 89 = .ok (.aload_n 1, 1) := by decide +kernel
theorem dX6_copyFrom_90 : decode cX6_copyFrom 90 = .ok (.getfield 46, 3) := by decide +kernel
theorem dX6_copyFrom_93 : decode cX6_copyFrom 93 = .ok (.putfield 46, 3) := by decide +kernel
theorem dX6_copyFrom_96 : decode cX6_copyFrom 96 = .ok (.aload_n 1, 1) := by decide +kernel
theorem dX6_copyFrom_97 : decode cX6_copyFrom 97 = .ok (.getfield 49, 3) := by decide +kernel
theorem dX6_copyFrom_100 : decode cX6_copyFrom 100 = .ok (.iconst 0, 1) := by decide +kernel
theorem dX6_copyFrom_101 : decode cX6_copyFrom 101 = .ok (.aload_n 0, 1) := by decide +kernel
theorem dX6_copyFrom_102 : decode cX6_copyFrom 102 = .ok (.getfield 49, 3) := by decide +kernel
theorem dX6_copyFrom_105 : decode cX6_copyFrom 105 = .ok (.iconst 0, 1) := by decide +kernel
theorem dX6_copyFrom_106 : decode cX6_copyFrom 106 = .ok (.bipush 20, 2) := by decide +kernel
theorem dX6_copyFrom_108 : decode cX6_copyFrom 108 = .ok (.invokestatic 68, 3) := by decide +kernel
theorem dX6_copyFrom_111 : decode cX6_copyFrom 111 = .ok (.aload_n 0, 1) := by decide +kernel
theorem dX6_copyFrom_112 : decode cX6_copyFrom 112 = .ok (.aload_n 1, 1) := by decide +kernel
theorem dX6_copyFrom_113 : decode cX6_copyFrom 113 = .ok (.getfield 52, 3) := by decide +kernel
theorem dX6_copyFrom_116 : decode cX6_copyFrom 116 = .ok (.putfield 52, 3) := by decide +kernel
theorem dX6_copyFrom_119 : decode cX6_copyFrom 119 = .ok (.aload_n 1, 1) := by decide +kernel
theorem dX6_copyFrom_120 : decode cX6_copyFrom 120 = .ok (.getfield 55, 3) := by decide +kernel
theorem dX6_copyFrom_123 : decode cX6_copyFrom 123 = .ok (.iconst 0, 1) := by decide +kernel
theorem dX6_copyFrom_124 : decode cX6_copyFrom 124 = .ok (.aload_n 0, 1) := by decide +kernel
theorem dX6_copyFrom_125 : decode cX6_copyFrom 125 = .ok (.getfield 55, 3) := by decide +kernel
theorem dX6_copyFrom_128 : decode cX6_copyFrom 128 = .ok (.iconst 0, 1) := by decide +kernel
theorem dX6_copyFrom_129 : decode cX6_copyFrom 129 = .ok (.bipush 10, 2) := by decide +kernel
theorem dX6_copyFrom_131 : decode cX6_copyFrom 131 = .ok (.invokestatic 68, 3) := by decide +kernel
theorem dX6_copyFrom_134 : decode cX6_copyFrom 134 = .ok (.aload_n 1, 1) := by decide +kernel
theorem dX6_copyFrom_135 : decode cX6_copyFrom 135 = .ok (.getfield 58, 3) := by decide +kernel
theorem dX6_copyFrom_138 : decode cX6_copyFrom 138 = .ok (.iconst 0, 1) := by decide +kernel
theorem dX6_copyFrom_139 : decode cX6_copyFrom 139 = .ok (.aload_n 0, 1) := by decide +kernel
theorem dX6_copyFrom_140 : decode cX6_copyFrom 140 = .ok (.getfield 58, 3) := by decide +kernel
theorem dX6_copyFrom_143 : decode cX6_copyFrom 143 = .ok (.iconst 0, 1) := by decide +kernel
theorem dX6_copyFrom_144 : decode cX6_copyFrom 144 = .ok (.bipush 10, 2) := by decide +kernel
theorem dX6_copyFrom_146 : decode cX6_copyFrom 146 = .ok (.invokestatic 68, 3) := by decide +kernel
theorem dX6_copyFrom_149 : decode cX6_copyFrom 149 = .ok (.aload_n 0, 1) := by decide +kernel
theorem dX6_copyFrom_150 : decode cX6_copyFrom 150 = .ok (.aload_n 1, 1) := by decide +kernel
theorem dX6_copyFrom_151 : decode cX6_copyFrom 151 = .ok (.getfield 61, 3) := by decide +kernel
theorem dX6_copyFrom_154 : decode cX6_copyFrom 154 = .ok (.putfield 61, 3) := by decide +kernel
theorem dX6_copyFrom_157 : decode cX6_copyFrom 157 = .ok (.return_, 1) := by decide +kernel
theorem dX6_vanishedAt_0 : decode cX6_vanishedAt 0 = .ok (.iconst (-1), 1) := by decide +kernel
theorem dX6_vanishedAt_1 : decode cX6_vanishedAt 1 = .ok (.istore_n 2, 1) := by decide +kernel
theorem dX6_vanishedAt_2 : decode cX6_vanishedAt 2 = .ok (.iconst 0, 1) := by decide +kernel
theorem dX6_vanishedAt_3 : decode cX6_vanishedAt 3 = .ok (.istore_n 3, 1) := by decide +kernel
theorem dX6_vanishedAt_4 : decode cX6_vanishedAt 4 = .ok (.iload_n 3, 1) := by decide +kernel
theorem dX6_vanishedAt_5 : decode cX6_vanishedAt 5 = .ok (.aload_n 0, 1) := by decide +kernel
theorem dX6_vanishedAt_6 : decode cX6_vanishedAt 6 = .ok (.getfield 61, 3) := by decide +kernel
theorem dX6_vanishedAt_9 : decode cX6_vanishedAt 9 = .ok (.if_icmp .ge 32, 3) := by decide +kernel
theorem dX6_vanishedAt_12 : decode cX6_vanishedAt 12 = .ok (.aload_n 0, 1) := by decide +kernel
theorem dX6_vanishedAt_13 : decode cX6_vanishedAt 13 = .ok (.getfield 55, 3) := by decide +kernel
theorem dX6_vanishedAt_16 : decode cX6_vanishedAt 16 = .ok (.iload_n 3, 1) := by decide +kernel
theorem dX6_vanishedAt_17 : decode cX6_vanishedAt 17 = .ok (.iaload, 1) := by decide +kernel
theorem dX6_vanishedAt_18 : decode cX6_vanishedAt 18 = .ok (.iload_n 1, 1) := by decide +kernel
theorem dX6_vanishedAt_19 : decode cX6_vanishedAt 19 = .ok (.if_icmp .ne 16, 3) := by decide +kernel
theorem dX6_vanishedAt_22 : decode cX6_vanishedAt 22 = .ok (.iload_n 2, 1) := by decide +kernel
theorem dX6_vanishedAt_23 : decode cX6_vanishedAt 23 = .ok (.iconst 0, 1) := by decide +kernel
theorem dX6_vanishedAt_24 : decode cX6_vanishedAt 24 = .ok (.invokestatic 74, 3) := by decide +kernel
theorem dX6_vanishedAt_27 : decode cX6_vanishedAt 27 = .ok (.aload_n 0, 1) := by decide +kernel
theorem dX6_vanishedAt_28 : decode cX6_vanishedAt 28 = .ok (.getfield 58, 3) := by decide +kernel
theorem dX6_vanishedAt_31 : decode cX6_vanishedAt 31 = .ok (.iload_n 3, 1) := by decide +kernel
theorem dX6_vanishedAt_32 : decode cX6_vanishedAt 32 = .ok (.iaload, 1) := by decide +kernel
theorem dX6_vanishedAt_33 : decode cX6_vanishedAt 33 = .ok (.iadd, 1) := by decide +kernel
theorem dX6_vanishedAt_34 : decode cX6_vanishedAt 34 = .ok (.istore_n 2, 1) := by decide +kernel
theorem dX6_vanishedAt_35 : decode cX6_vanishedAt 35 = .ok (.iinc 3 1, 3) := by decide +kernel
theorem dX6_vanishedAt_38 : decode cX6_vanishedAt 38 = .ok (.goto (-34), 3) := by decide +kernel
theorem dX6_vanishedAt_41 : decode cX6_vanishedAt 41 = .ok (.iload_n 2, 1) := by decide +kernel
theorem dX6_vanishedAt_42 : decode cX6_vanishedAt 42 = .ok (.ireturn, 1) := by decide +kernel
theorem dX7_init_0 : decode cX7_init 0 = .ok (.aload_n 0, 1) := by decide +kernel
theorem dX7_init_1 : decode cX7_init 1 = .ok (.invokespecial 3, 3) := by decide +kernel
theorem dX7_init_4 : decode cX7_init 4 = .ok (.aload_n 0, 1) := by decide +kernel
theorem dX7_init_5 : decode cX7_init 5 = .ok (.bipush 9, 2) := by decide +kernel
theorem dX7_init_7 : decode cX7_init 7 = .ok (.putfield 9, 3) := by decide +kernel
theorem dX7_init_10 : decode cX7_init 10 = .ok (.aload_n 0, 1) := by decide +kernel
theorem dX7_init_11 : decode cX7_init 11 = .ok (.iconst 1, 1) := by decide +kernel
theorem dX7_init_12 : decode cX7_init 12 = .ok (.putfield 15, 3) := by decide +kernel
theorem dX7_init_15 : decode cX7_init 15 = .ok (.aload_n 0, 1) := by decide +kernel
theorem dX7_init_16 : decode cX7_init 16 = .ok (.iconst 2, 1) := by decide +kernel
theorem dX7_init_17 : decode cX7_init 17 = .ok (.putfield 18, 3) := by decide +kernel
theorem dX7_init_20 : decode cX7_init 20 = .ok (.aload_n 0, 1) := by decide +kernel
theorem dX7_init_21 : decode cX7_init 21 = .ok (.bipush 48, 2) := by decide +kernel
theorem dX7_init_23 : decode cX7_init 23 = .ok (.newarray .int, 2) := by decide +kernel
theorem dX7_init_25 : decode cX7_init 25 = .ok (.putfield 21, 3) := by decide +kernel
theorem dX7_init_28 : decode cX7_init 28 = .ok (.aload_n 0, 1) := by decide +kernel
theorem dX7_init_29 : decode cX7_init 29 = .ok (.bipush 10, 2) := by decide +kernel
theorem dX7_init_31 : decode cX7_init 31 = .ok (.newarray .int, 2) := by decide +kernel
theorem dX7_init_33 : decode cX7_init 33 = .ok (.putfield 25, 3) := by decide +kernel
theorem dX7_init_36 : decode cX7_init 36 = .ok (.aload_n 0, 1) := by decide +kernel
theorem dX7_init_37 : decode cX7_init 37 = .ok (.bipush 10, 2) := by decide +kernel
theorem dX7_init_39 : decode cX7_init 39 = .ok (.newarray .int, 2) := by decide +kernel
theorem dX7_init_41 : decode cX7_init 41 = .ok (.putfield 28, 3) := by decide +kernel
theorem dX7_init_44 : decode cX7_init 44 = .ok (.aload_n 0, 1) := by decide +kernel
theorem dX7_init_45 : decode cX7_init 45 = .ok (.bipush 10, 2) := by decide +kernel
theorem dX7_init_47 : decode cX7_init 47 = .ok (.newarray .int, 2) := by decide +kernel
theorem dX7_init_49 : decode cX7_init 49 = .ok (.putfield 31, 3) := by decide +kernel
theorem dX7_init_52 : decode cX7_init 52 = .ok (.aload_n 0, 1) := by decide +kernel
theorem dX7_init_53 : decode cX7_init 53 = .ok (.iconst 0, 1) := by decide +kernel
theorem dX7_init_54 : decode cX7_init 54 = .ok (.putfield 34, 3) := by decide +kernel
theorem dX7_init_57 : decode cX7_init 57 = .ok (.aload_n 0, 1) := by decide +kernel
theorem dX7_init_58 : decode cX7_init 58 = .ok (.bipush 120, 2) := by decide +kernel
theorem dX7_init_60 : decode cX7_init 60 = .ok (.newarray .int, 2) := by decide +kernel
theorem dX7_init_62 : decode cX7_init 62 = .ok (.putfield 37, 3) := by decide +kernel
theorem dX7_init_65 : decode cX7_init 65 = .ok (.aload_n 0, 1) := by decide +kernel
theorem dX7_init_66 : decode cX7_init 66 = .ok (.iconst 0, 1) := by decide +kernel
theorem dX7_init_67 : decode cX7_init 67 = .ok (.putfield 40, 3) := by decide +kernel
theorem dX7_init_70 : decode cX7_init 70 = .ok (.aload_n 0, 1) := by decide +kernel
theorem dX7_init_71 : decode cX7_init 71 = .ok (.iconst 5, 1) := by decide +kernel
theorem dX7_init_72 : decode cX7_init 72 = .ok (.newarray .int, 2) := by decide +kernel
theorem dX7_init_74 : decode cX7_init 74 = .ok (.putfield 43, 3) := by decide +kernel
theorem dX7_init_77 : decode cX7_init 77 = .ok (.aload_n 0, 1) := by decide +kernel
theorem dX7_init_78 : decode cX7_init 78 = .ok (.aconst_null, 1) := by decide +kernel
theorem dX7_init_79 : decode cX7_init 79 = .ok (.putfield 46, 3) := by decide +kernel
theorem dX7_init_82 : decode cX7_init 82 = .ok (.aload_n 0, 1) := by decide +kernel
theorem dX7_init_83 : decode cX7_init 83 = .ok (.iconst 0, 1) := by decide +kernel
theorem dX7_init_84 : decode cX7_init 84 = .ok (.putfield 50, 3) := by decide +kernel
theorem dX7_init_87 : decode cX7_init 87 = .ok (.aload_n 0, 1) := by decide +kernel
theorem dX7_init_88 : decode cX7_init 88 = .ok (.iconst 0, 1) := by decide +kernel
theorem dX7_init_89 : decode cX7_init 89 = .ok (.putfield 53, 3) := by decide +kernel
theorem dX7_init_92 : decode cX7_init 92 = .ok (.return_, 1) := by decide +kernel
theorem dX7_rainOf_0 : decode cX7_rainOf 0 = .ok (.aload_n 0, 1) := by decide +kernel
theorem dX7_rainOf_1 : decode cX7_rainOf 1 = .ok (.getfield 21, 3) := by decide +kernel
theorem dX7_rainOf_4 : decode cX7_rainOf 4 = .ok (.iload_n 1, 1) := by decide +kernel
theorem dX7_rainOf_5 : decode cX7_rainOf 5 = .ok (.bipush 24, 2) := by decide +kernel
theorem dX7_rainOf_7 : decode cX7_rainOf 7 = .ok (.irem, 1) := by decide +kernel
theorem dX7_rainOf_8 : decode cX7_rainOf 8 = .ok (.iconst 2, 1) := by decide +kernel
theorem dX7_rainOf_9 : decode cX7_rainOf 9 = .ok (.imul, 1) := by decide +kernel
theorem dX7_rainOf_10 : decode cX7_rainOf 10 = .ok (.iload_n 2, 1) := by decide +kernel
theorem dX7_rainOf_11 : decode cX7_rainOf 11 = .ok (.iadd, 1) := by decide +kernel
theorem dX7_rainOf_12 : decode cX7_rainOf 12 = .ok (.iaload, 1) := by decide +kernel
theorem dX7_rainOf_13 : decode cX7_rainOf 13 = .ok (.ireturn, 1) := by decide +kernel
theorem dX7_loses_0 : decode cX7_loses 0 = .ok (.iconst 0, 1) := by decide +kernel
theorem dX7_loses_1 : decode cX7_loses 1 = .ok (.istore 6, 2) := by decide +kernel
theorem dX7_loses_3 : decode cX7_loses 3 = .ok (.iload 6, 2) := by decide +kernel
theorem dX7_loses_5 : decode cX7_loses 5 = .ok (.aload_n 0, 1) := by decide +kernel
theorem dX7_loses_6 : decode cX7_loses 6 = .ok (.getfield 34, 3) := by decide +kernel
theorem dX7_loses_9 : decode cX7_loses 9 = .ok (.if_icmp .ge 69, 3) := by decide +kernel
theorem dX7_loses_12 : decode cX7_loses 12 = .ok (.aload_n 0, 1) := by decide +kernel
theorem dX7_loses_13 : decode cX7_loses 13 = .ok (.getfield 25, 3) := by decide +kernel
theorem dX7_loses_16 : decode cX7_loses 16 = .ok (.iload 6, 2) := by decide +kernel
theorem dX7_loses_18 : decode cX7_loses 18 = .ok (.iaload, 1) := by decide +kernel
theorem dX7_loses_19 : decode cX7_loses 19 = .ok (.istore 7, 2) := by decide +kernel
theorem dX7_loses_21 : decode cX7_loses 21 = .ok (.iload 7, 2) := by decide +kernel
theorem dX7_loses_23 : decode cX7_loses 23 = .ok (.ifCond .le 49, 3) := by decide +kernel
theorem dX7_loses_26 : decode cX7_loses 26 = .ok (.iload_n 1, 1) := by decide +kernel
theorem dX7_loses_27 : decode cX7_loses 27 = .ok (.iconst 1, 1) := by decide +kernel
theorem dX7_loses_28 : decode cX7_loses 28 = .ok (.iadd, 1) := by decide +kernel
theorem dX7_loses_29 : decode cX7_loses 29 = .ok (.iload 7, 2) := by decide +kernel
theorem dX7_loses_31 : decode cX7_loses 31 = .ok (.irem, 1) := by decide +kernel
theorem dX7_loses_32 : decode cX7_loses 32 = .ok (.ifCond .ne 40, 3) := by decide +kernel
theorem dX7_loses_35 : decode cX7_loses 35 = .ok (.aload_n 0, 1) := by decide +kernel
theorem dX7_loses_36 : decode cX7_loses 36 = .ok (.iload_n 2, 1) := by decide +kernel
theorem dX7_loses_37 : decode cX7_loses 37 = .ok (.iload_n 1, 1) := by decide +kernel
theorem dX7_loses_38 : decode cX7_loses 38 = .ok (.bipush 24, 2) := by decide +kernel
theorem dX7_loses_40 : decode cX7_loses 40 = .ok (.irem, 1) := by decide +kernel
theorem dX7_loses_41 : decode cX7_loses 41 = .ok (.iload_n 3, 1) := by decide +kernel
theorem dX7_loses_42 : decode cX7_loses 42 = .ok (.iload 4, 2) := by decide +kernel
theorem dX7_loses_44 : decode cX7_loses 44 = .ok (.iload 5, 2) := by decide +kernel
theorem dX7_loses_46 : decode cX7_loses 46 = .ok (.invokevirtual 56, 3) := by decide +kernel
theorem dX7_loses_49 : decode cX7_loses 49 = .ok (.aload_n 0, 1) := by decide +kernel
theorem dX7_loses_50 : decode cX7_loses 50 = .ok (.aload_n 0, 1) := by decide +kernel
theorem dX7_loses_51 : decode cX7_loses 51 = .ok (.getfield 28, 3) := by decide +kernel
theorem dX7_loses_54 : decode cX7_loses 54 = .ok (.iload 6, 2) := by decide +kernel
theorem dX7_loses_56 : decode cX7_loses 56 = .ok (.iaload, 1) := by decide +kernel
theorem dX7_loses_57 : decode cX7_loses 57 = .ok (.aload_n 0, 1) := by decide +kernel
theorem dX7_loses_58 : decode cX7_loses 58 = .ok (.getfield 31, 3) := by decide +kernel
theorem dX7_loses_61 : decode cX7_loses 61 = .ok (.iload 6, 2) := by decide +kernel
theorem dX7_loses_63 : decode cX7_loses 63 = .ok (.iaload, 1) := by decide +kernel
theorem dX7_loses_64 : decode cX7_loses 64 = .ok (.invokevirtual 60, 3) := by decide +kernel
theorem dX7_loses_67 : decode cX7_loses 67 = .ok (.ifCond .eq 5, 3) := by decide +kernel
theorem dX7_loses_70 : decode cX7_loses 70 = .ok (.iconst 1, 1) := by decide +kernel
theorem dX7_loses_71 : decode cX7_loses 71 = .ok (.ireturn, 1) := by decide +kernel
theorem dX7_loses_72 : decode cX7_loses 72 = .ok (.iinc 6 1, 3) := by decide +kernel
theorem dX7_loses_75 : decode cX7_loses 75 = .ok (.goto (-72), 3) := by decide +kernel
theorem dX7_loses_78 : decode cX7_loses 78 = .ok (.iconst 0, 1) := by decide +kernel
theorem dX7_loses_79 : decode cX7_loses 79 = .ok (.ireturn, 1) := by decide +kernel
theorem dX7_layFacts_0 : decode cX7_layFacts 0 = .ok (.aload_n 0, 1) := by decide +kernel
theorem dX7_layFacts_1 : decode cX7_layFacts 1 = .ok (.getfield 43, 3) := by decide +kernel
theorem dX7_layFacts_4 : decode cX7_layFacts 4 = .ok (.iconst 0, 1) := by decide +kernel
theorem dX7_layFacts_5 : decode cX7_layFacts 5 = .ok (.iload_n 1, 1) := by decide +kernel
theorem dX7_layFacts_6 : decode cX7_layFacts 6 = .ok (.iastore, 1) := by decide +kernel
theorem dX7_layFacts_7 : decode cX7_layFacts 7 = .ok (.aload_n 0, 1) := by decide +kernel
theorem dX7_layFacts_8 : decode cX7_layFacts 8 = .ok (.getfield 43, 3) := by decide +kernel
theorem dX7_layFacts_11 : decode cX7_layFacts 11 = .ok (.iconst 1, 1) := by decide +kernel
theorem dX7_layFacts_12 : decode cX7_layFacts 12 = .ok (.iload_n 2, 1) := by decide +kernel
theorem dX7_layFacts_13 : decode cX7_layFacts 13 = .ok (.iastore, 1) := by decide +kernel
theorem dX7_layFacts_14 : decode cX7_layFacts 14 = .ok (.aload_n 0, 1) := by decide +kernel
theorem dX7_layFacts_15 : decode cX7_layFacts 15 = .ok (.getfield 43, 3) := by decide +kernel
theorem dX7_layFacts_18 : decode cX7_layFacts 18 = .ok (.iconst 2, 1) := by decide +kernel
theorem dX7_layFacts_19 : decode cX7_layFacts 19 = .ok (.iload_n 3, 1) := by decide +kernel
theorem dX7_layFacts_20 : decode cX7_layFacts 20 = .ok (.iastore, 1) := by decide +kernel
theorem dX7_layFacts_21 : decode cX7_layFacts 21 = .ok (.aload_n 0, 1) := by decide +kernel
theorem dX7_layFacts_22 : decode cX7_layFacts 22 = .ok (.getfield 43, 3) := by decide +kernel
theorem dX7_layFacts_25 : decode cX7_layFacts 25 = .ok (.iconst 3, 1) := by decide +kernel
theorem dX7_layFacts_26 : decode cX7_layFacts 26 = .ok (.iload 4, 2) := by decide +kernel
theorem dX7_layFacts_28 : decode cX7_layFacts 28 = .ok (.iastore, 1) := by decide +kernel
theorem dX7_layFacts_29 : decode cX7_layFacts 29 = .ok (.aload_n 0, 1) := by decide +kernel
theorem dX7_layFacts_30 : decode cX7_layFacts 30 = .ok (.getfield 43, 3) := by decide +kernel
theorem dX7_layFacts_33 : decode cX7_layFacts 33 = .ok (.iconst 4, 1) := by decide +kernel
theorem dX7_layFacts_34 : decode cX7_layFacts 34 = .ok (.iload 5, 2) := by decide +kernel
theorem dX7_layFacts_36 : decode cX7_layFacts 36 = .ok (.iastore, 1) := by decide +kernel
theorem dX7_layFacts_37 : decode cX7_layFacts 37 = .ok (.return_, 1) := by decide +kernel
theorem dX7_holds_0 : decode cX7_holds 0 = .ok (.iconst 0, 1) := by decide +kernel
theorem dX7_holds_1 : decode cX7_holds 1 = .ok (.istore_n 3, 1) := by decide +kernel
theorem dX7_holds_2 : decode cX7_holds 2 = .ok (.iload_n 1, 1) := by decide +kernel
theorem dX7_holds_3 : decode cX7_holds 3 = .ok (.istore 4, 2) := by decide +kernel
theorem dX7_holds_5 : decode cX7_holds 5 = .ok (.iload 4, 2) := by decide +kernel
theorem dX7_holds_7 : decode cX7_holds 7 = .ok (.iload_n 2, 1) := by decide +kernel
theorem dX7_holds_8 : decode cX7_holds 8 = .ok (.if_icmp .ge 92, 3) := by decide +kernel
theorem dX7_holds_11 : decode cX7_holds 11 = .ok (.aload_n 0, 1) := by decide +kernel
theorem dX7_holds_12 : decode cX7_holds 12 = .ok (.getfield 37, 3) := by decide +kernel
theorem dX7_holds_15 : decode cX7_holds 15 = .ok (.iload 4, 2) := by decide +kernel
theorem dX7_holds_17 : decode cX7_holds 17 = .ok (.iaload, 1) := by decide +kernel
theorem dX7_holds_18 : decode cX7_holds 18 = .ok (.istore 5, 2) := by decide +kernel
theorem dX7_holds_20 : decode cX7_holds 20 = .ok (.iload_n 3, 1) := by decide +kernel
theorem dX7_holds_21 : decode cX7_holds 21 = .ok (.iconst 1, 1) := by decide +kernel
theorem dX7_holds_22 : decode cX7_holds 22 = .ok (.iand, 1) := by decide +kernel
theorem dX7_holds_23 : decode cX7_holds 23 = .ok (.istore 6, 2) := by decide +kernel
theorem dX7_holds_25 : decode cX7_holds 25 = .ok (.iload 5, 2) := by decide +kernel
theorem dX7_holds_27 : decode cX7_holds 27 = .ok (.iconst (-1), 1) := by decide +kernel
theorem dX7_holds_28 : decode cX7_holds 28 = .ok (.if_icmp .ne 10, 3) := by decide +kernel
theorem dX7_holds_31 : decode cX7_holds 31 = .ok (.iload_n 3, 1) := by decide +kernel
theorem dX7_holds_32 : decode cX7_holds 32 = .ok (.iconst 1, 1) := by decide +kernel
theorem dX7_holds_33 : decode cX7_holds 33 = .ok (.ixor, 1) := by decide +kernel
theorem dX7_holds_34 : decode cX7_holds 34 = .ok (.istore_n 3, 1) := by decide +kernel
theorem dX7_holds_35 : decode cX7_holds 35 = .ok (.goto 59, 3) := by decide +kernel
theorem dX7_holds_38 : decode cX7_holds 38 = .ok (.iload 5, 2) := by decide +kernel
theorem dX7_holds_40 : decode cX7_holds 40 = .ok (.bipush (-2), 2) := by decide +kernel
theorem dX7_holds_42 : decode cX7_holds 42 = .ok (.if_icmp .ne 16, 3) := by decide +kernel
theorem dX7_holds_45 : decode cX7_holds 45 = .ok (.iload_n 3, 1) := by decide +kernel
theorem dX7_holds_46 : decode cX7_holds 46 = .ok (.iconst 1, 1) := by decide +kernel
theorem dX7_holds_47 : decode cX7_holds 47 = .ok (.iushr, 1) := by decide +kernel
theorem dX7_holds_48 : decode cX7_holds 48 = .ok (.iload 6, 2) := by decide +kernel
theorem dX7_holds_50 : decode cX7_holds 50 = .ok (.bipush (-2), 2) := by decide +kernel
theorem dX7_holds_52 : decode cX7_holds 52 = .ok (.ior, 1) := by decide +kernel
theorem dX7_holds_53 : decode cX7_holds 53 = .ok (.iand, 1) := by decide +kernel
theorem dX7_holds_54 : decode cX7_holds 54 = .ok (.istore_n 3, 1) := by decide +kernel
theorem dX7_holds_55 : decode cX7_holds 55 = .ok (.goto 39, 3) := by decide +kernel
theorem dX7_holds_58 : decode cX7_holds 58 = .ok (.iload 5, 2) := by decide +kernel
theorem dX7_holds_60 : decode cX7_holds 60 = .ok (.bipush (-3), 2) := by decide +kernel
theorem dX7_holds_62 : decode cX7_holds 62 = .ok (.if_icmp .ne 13, 3) := by decide +kernel
theorem dX7_holds_65 : decode cX7_holds 65 = .ok (.iload_n 3, 1) := by decide +kernel
theorem dX7_holds_66 : decode cX7_holds 66 = .ok (.iconst 1, 1) := by decide +kernel
theorem dX7_holds_67 : decode cX7_holds 67 = .ok (.iushr, 1) := by decide +kernel
theorem dX7_holds_68 : decode cX7_holds 68 = .ok (.iload 6, 2) := by decide +kernel
theorem dX7_holds_70 : decode cX7_holds 70 = .ok (.ior, 1) := by decide +kernel
theorem dX7_holds_71 : decode cX7_holds 71 = .ok (.istore_n 3, 1) := by decide +kernel
theorem dX7_holds_72 : decode cX7_holds 72 = .ok (.goto 22, 3) := by decide +kernel
theorem dX7_holds_75 : decode cX7_holds 75 = .ok (.iload_n 3, 1) := by decide +kernel
theorem dX7_holds_76 : decode cX7_holds 76 = .ok (.iconst 1, 1) := by decide +kernel
theorem dX7_holds_77 : decode cX7_holds 77 = .ok (.ishl, 1) := by decide +kernel
theorem dX7_holds_78 : decode cX7_holds 78 = .ok (.aload_n 0, 1) := by decide +kernel
theorem dX7_holds_79 : decode cX7_holds 79 = .ok (.iload 5, 2) := by decide +kernel
theorem dX7_holds_81 : decode cX7_holds 81 = .ok (.invokevirtual 64, 3) := by decide +kernel
theorem dX7_holds_84 : decode cX7_holds 84 = .ok (.ifCond .eq 7, 3) := by decide +kernel
theorem dX7_holds_87 : decode cX7_holds 87 = .ok (.iconst 1, 1) := by decide +kernel
theorem dX7_holds_88 : decode cX7_holds 88 = .ok (.goto 4, 3) := by decide +kernel
theorem dX7_holds_91 : decode cX7_holds 91 = .ok (.iconst 0, 1) := by decide +kernel
theorem dX7_holds_92 : decode cX7_holds 92 = .ok (.ior, 1) := by decide +kernel
theorem dX7_holds_93 : decode cX7_holds 93 = .ok (.istore_n 3, 1) := by decide +kernel
theorem dX7_holds_94 : decode cX7_holds 94 = .ok (.iinc 4 1, 3) := by decide +kernel
theorem dX7_holds_97 : decode cX7_holds 97 = .ok (.goto (-92), 3) := by decide +kernel
theorem dX7_holds_100 : decode cX7_holds 100 = .ok (.iload_n 3, 1) := by decide +kernel
theorem dX7_holds_101 : decode cX7_holds 101 = .ok (.iconst 1, 1) := by decide +kernel
theorem dX7_holds_102 : decode cX7_holds 102 = .ok (.iand, 1) := by decide +kernel
theorem dX7_holds_103 : decode cX7_holds 103 = .ok (.iconst 1, 1) := by decide +kernel
theorem dX7_holds_104 : decode cX7_holds 104 = .ok (.if_icmp .ne 7, 3) := by decide +kernel
theorem dX7_holds_107 : decode cX7_holds 107 = .ok (.iconst 1, 1) := by decide +kernel
theorem dX7_holds_108 : decode cX7_holds 108 = .ok (.goto 4, 3) := by decide +kernel
theorem dX7_holds_111 : decode cX7_holds 111 = .ok (.iconst 0, 1) := by decide +kernel
theorem dX7_holds_112 : decode cX7_holds 112 = .ok (.ireturn, 1) := by decide +kernel
theorem dX7_testHolds_0 : decode cX7_testHolds 0 = .ok (.aload_n 0, 1) := by decide +kernel
theorem dX7_testHolds_1 : decode cX7_testHolds 1 = .ok (.getfield 43, 3) := by decide +kernel
theorem dX7_testHolds_4 : decode cX7_testHolds 4 = .ok (.iload_n 1, 1) := by decide +kernel
theorem dX7_testHolds_5 : decode cX7_testHolds 5 = .ok (.iconst 3, 1) := by decide +kernel
theorem dX7_testHolds_6 : decode cX7_testHolds 6 = .ok (.idiv, 1) := by decide +kernel
theorem dX7_testHolds_7 : decode cX7_testHolds 7 = .ok (.iconst 5, 1) := by decide +kernel
theorem dX7_testHolds_8 : decode cX7_testHolds 8 = .ok (.irem, 1) := by decide +kernel
theorem dX7_testHolds_9 : decode cX7_testHolds 9 = .ok (.iaload, 1) := by decide +kernel
theorem dX7_testHolds_10 : decode cX7_testHolds 10 = .ok (.istore_n 2, 1) := by decide +kernel
theorem dX7_testHolds_11 : decode cX7_testHolds 11 = .ok (.iload_n 1, 1) := by decide +kernel
theorem dX7_testHolds_12 : decode cX7_testHolds 12 = .ok (.bipush 15, 2) := by decide +kernel
theorem dX7_testHolds_14 : decode cX7_testHolds 14 = .ok (.idiv, 1) := by decide +kernel
theorem dX7_testHolds_15 : decode cX7_testHolds 15 = .ok (.istore_n 3, 1) := by decide +kernel
theorem dX7_testHolds_16 : decode cX7_testHolds 16 = .ok (.iload_n 1, 1) := by decide +kernel
theorem dX7_testHolds_17 : decode cX7_testHolds 17 = .ok (.iconst 3, 1) := by decide +kernel
theorem dX7_testHolds_18 : decode cX7_testHolds 18 = .ok (.irem, 1) := by decide +kernel
theorem dX7_testHolds_19 : decode cX7_testHolds 19 = .ok (.lookupswitch 47 #[(0, 25), (1, 36)], 25) := by decide +kernel
theorem dX7_testHolds_44 : decode cX7_testHolds 44 = .ok (.iload_n 2, 1) := by decide +kernel
theorem dX7_testHolds_45 : decode cX7_testHolds 45 = .ok (.iload_n 3, 1) := by decide +kernel
theorem dX7_testHolds_46 : decode cX7_testHolds 46 = .ok (.if_icmp .ge 7, 3) := by decide +kernel
theorem dX7_testHolds_49 : decode cX7_testHolds 49 = .ok (.iconst 1, 1) := by decide +kernel
theorem dX7_testHolds_50 : decode cX7_testHolds 50 = .ok (.goto 4, 3) := by decide +kernel
theorem dX7_testHolds_53 : decode cX7_testHolds 53 = .ok (.iconst 0, 1) := by decide +kernel
theorem dX7_testHolds_54 : decode cX7_testHolds 54 = .ok (.ireturn, 1) := by decide +kernel
theorem dX7_testHolds_55 : decode cX7_testHolds 55 = .ok (.iload_n 2, 1) := by decide +kernel
theorem dX7_testHolds_56 : decode cX7_testHolds 56 = .ok (.iload_n 3, 1) := by decide +kernel
theorem dX7_testHolds_57 : decode cX7_testHolds 57 = .ok (.if_icmp .ne 7, 3) := by decide +kernel
theorem dX7_testHolds_60 : decode cX7_testHolds 60 = .ok (.iconst 1, 1) := by decide +kernel
theorem dX7_testHolds_61 : decode cX7_testHolds 61 = .ok (.goto 4, 3) := by decide +kernel
theorem dX7_testHolds_64 : decode cX7_testHolds 64 = .ok (.iconst 0, 1) := by decide +kernel
theorem dX7_testHolds_65 : decode cX7_testHolds 65 = .ok (.ireturn, 1) := by decide +kernel
theorem dX7_testHolds_66 : decode cX7_testHolds 66 = .ok (.iload_n 2, 1) := by decide +kernel
theorem dX7_testHolds_67 : decode cX7_testHolds 67 = .ok (.iload_n 3, 1) := by decide +kernel
theorem dX7_testHolds_68 : decode cX7_testHolds 68 = .ok (.if_icmp .le 7, 3) := by decide +kernel
theorem dX7_testHolds_71 : decode cX7_testHolds 71 = .ok (.iconst 1, 1) := by decide +kernel
theorem dX7_testHolds_72 : decode cX7_testHolds 72 = .ok (.goto 4, 3) := by decide +kernel
theorem dX7_testHolds_75 : decode cX7_testHolds 75 = .ok (.iconst 0, 1) := by decide +kernel
theorem dX7_testHolds_76 : decode cX7_testHolds 76 = .ok (.ireturn, 1) := by decide +kernel
theorem dX7_readFrom_0 : decode cX7_readFrom 0 = .ok (.aload_n 0, 1) := by decide +kernel
theorem dX7_readFrom_1 : decode cX7_readFrom 1 = .ok (.aload_n 1, 1) := by decide +kernel
theorem dX7_readFrom_2 : decode cX7_readFrom 2 = .ok (.putfield 46, 3) := by decide +kernel
theorem dX7_readFrom_5 : decode cX7_readFrom 5 = .ok (.aload_n 0, 1) := by decide +kernel
theorem dX7_readFrom_6 : decode cX7_readFrom 6 = .ok (.iload_n 2, 1) := by decide +kernel
theorem dX7_readFrom_7 : decode cX7_readFrom 7 = .ok (.putfield 50, 3) := by decide +kernel
theorem dX7_readFrom_10 : decode cX7_readFrom 10 = .ok (.iconst 0, 1) := by decide +kernel
theorem dX7_readFrom_11 : decode cX7_readFrom 11 = .ok (.istore_n 3, 1) := by decide +kernel
theorem dX7_readFrom_12 : decode cX7_readFrom 12 = .ok (.iload_n 3, 1) := by decide +kernel
theorem dX7_readFrom_13 : decode cX7_readFrom 13 = .ok (.bipush 10, 2) := by decide +kernel
theorem dX7_readFrom_15 : decode cX7_readFrom 15 = .ok (.if_icmp .ge 56, 3) := by decide +kernel
theorem dX7_readFrom_18 : decode cX7_readFrom 18 = .ok (.aload_n 0, 1) := by decide +kernel
theorem dX7_readFrom_19 : decode cX7_readFrom 19 = .ok (.invokevirtual 68, 3) := by decide +kernel
theorem dX7_readFrom_22 : decode cX7_readFrom 22 = .ok (.ifCond .ne 8, 3) := by decide +kernel
theorem dX7_readFrom_25 : decode cX7_readFrom 25 = .ok (.aload_n 0, 1) := by decide +kernel
theorem dX7_readFrom_26 : decode cX7_readFrom 26 = .ok (.getfield 53, 3) := by decide +kernel
theorem dX7_readFrom_29 : decode cX7_readFrom 29 = .ok (.ireturn, 1) := by decide +kernel
theorem dX7_readFrom_30 : decode cX7_readFrom 30 = .ok (.aload_n 0, 1) := by decide +kernel
theorem dX7_readFrom_31 : decode cX7_readFrom 31 = .ok (.getfield 53, 3) := by decide +kernel
theorem dX7_readFrom_34 : decode cX7_readFrom 34 = .ok (.aload_n 0, 1) := by decide +kernel
theorem dX7_readFrom_35 : decode cX7_readFrom 35 = .ok (.getfield 50, 3) := by decide +kernel
theorem dX7_readFrom_38 : decode cX7_readFrom 38 = .ok (.if_icmp .lt 5, 3) := by decide +kernel
theorem dX7_readFrom_41 : decode cX7_readFrom 41 = .ok (.iconst (-1), 1) := by decide +kernel
theorem dX7_readFrom_42 : decode cX7_readFrom 42 = .ok (.ireturn, 1) := by decide +kernel
theorem dX7_readFrom_43 : decode cX7_readFrom 43 = .ok (.iload_n 3, 1) := by decide +kernel
theorem dX7_readFrom_44 : decode cX7_readFrom 44 = .ok (.iconst 1, 1) := by decide +kernel
theorem dX7_readFrom_45 : decode cX7_readFrom 45 = .ok (.iadd, 1) := by decide +kernel
theorem dX7_readFrom_46 : decode cX7_readFrom 46 = .ok (.bipush 10, 2) := by decide +kernel
theorem dX7_readFrom_48 : decode cX7_readFrom 48 = .ok (.if_icmp .ge 17, 3) := by decide +kernel
theorem dX7_readFrom_51 : decode cX7_readFrom 51 = .ok (.aload_n 0, 1) := by decide +kernel
theorem dX7_readFrom_52 : decode cX7_readFrom 52 = .ok (.bipush 59, 2) := by decide +kernel
theorem dX7_readFrom_54 : decode cX7_readFrom 54 = .ok (.invokevirtual 72, 3) := by decide +kernel
theorem dX7_readFrom_57 : decode cX7_readFrom 57 = .ok (.ifCond .ne 8, 3) := by decide +kernel
theorem dX7_readFrom_60 : decode cX7_readFrom 60 = .ok (.aload_n 0, 1) := by decide +kernel
theorem dX7_readFrom_61 : decode cX7_readFrom 61 = .ok (.getfield 53, 3) := by decide +kernel
theorem dX7_readFrom_64 : decode cX7_readFrom 64 = .ok (.ireturn, 1) := by decide +kernel
theorem dX7_readFrom_65 : decode cX7_readFrom 65 = .ok (.iinc 3 1, 3) := by decide +kernel
theorem dX7_readFrom_68 : decode cX7_readFrom 68 = .ok (.goto (-56), 3) := by decide +kernel
theorem dX7_readFrom_71 : decode cX7_readFrom 71 = .ok (.aload_n 0, 1) := by decide +kernel
theorem dX7_readFrom_72 : decode cX7_readFrom 72 = .ok (.getfield 53, 3) := by decide +kernel
theorem dX7_readFrom_75 : decode cX7_readFrom 75 = .ok (.ireturn, 1) := by decide +kernel
theorem dX7_readClause_0 : decode cX7_readClause 0 = .ok (.aload_n 0, 1) := by decide +kernel
theorem dX7_readClause_1 : decode cX7_readClause 1 = .ok (.invokevirtual 76, 3) := by decide +kernel
theorem dX7_readClause_4 : decode cX7_readClause 4 = .ok (.istore_n 1, 1) := by decide +kernel
theorem dX7_readClause_5 : decode cX7_readClause 5 = .ok (.iload_n 1, 1) := by decide +kernel
theorem dX7_readClause_6 : decode cX7_readClause 6 = .ok (.iconst (-1), 1) := by decide +kernel
theorem dX7_readClause_7 : decode cX7_readClause 7 = .ok (.if_icmp .eq 12, 3) := by decide +kernel
theorem dX7_readClause_10 : decode cX7_readClause 10 = .ok (.aload_n 0, 1) := by decide +kernel
theorem dX7_readClause_11 : decode cX7_readClause 11 = .ok (.bipush 32, 2) := by decide +kernel
theorem dX7_readClause_13 : decode cX7_readClause 13 = .ok (.invokevirtual 72, 3) := by decide +kernel
theorem dX7_readClause_16 : decode cX7_readClause 16 = .ok (.ifCond .ne 5, 3) := by decide +kernel
theorem dX7_readClause_19 : decode cX7_readClause 19 = .ok (.iconst 0, 1) := by decide +kernel
theorem dX7_readClause_20 : decode cX7_readClause 20 = .ok (.ireturn, 1) := by decide +kernel
theorem dX7_readClause_21 : decode cX7_readClause 21 = .ok (.aload_n 0, 1) := by decide +kernel
theorem dX7_readClause_22 : decode cX7_readClause 22 = .ok (.invokevirtual 80, 3) := by decide +kernel
theorem dX7_readClause_25 : decode cX7_readClause 25 = .ok (.istore_n 2, 1) := by decide +kernel
theorem dX7_readClause_26 : decode cX7_readClause 26 = .ok (.iload_n 2, 1) := by decide +kernel
theorem dX7_readClause_27 : decode cX7_readClause 27 = .ok (.iconst (-1), 1) := by decide +kernel
theorem dX7_readClause_28 : decode cX7_readClause 28 = .ok (.if_icmp .ne 5, 3) := by decide +kernel
theorem dX7_readClause_31 : decode cX7_readClause 31 = .ok (.iconst 0, 1) := by decide +kernel
theorem dX7_readClause_32 : decode cX7_readClause 32 = .ok (.ireturn, 1) := by decide +kernel
theorem dX7_readClause_33 : decode cX7_readClause 33 = .ok (.aload_n 0, 1) := by decide +kernel
theorem dX7_readClause_34 : decode cX7_readClause 34 = .ok (.getfield 40, 3) := by decide +kernel
theorem dX7_readClause_37 : decode cX7_readClause 37 = .ok (.istore_n 3, 1) := by decide +kernel
theorem dX7_readClause_38 : decode cX7_readClause 38 = .ok (.iload_n 1, 1) := by decide +kernel
theorem dX7_readClause_39 : decode cX7_readClause 39 = .ok (.ifCond .eq 8, 3) := by decide +kernel
theorem dX7_readClause_42 : decode cX7_readClause 42 = .ok (.iload_n 1, 1) := by decide +kernel
theorem dX7_readClause_43 : decode cX7_readClause 43 = .ok (.iconst 3, 1) := by decide +kernel
theorem dX7_readClause_44 : decode cX7_readClause 44 = .ok (.if_icmp .ne 22, 3) := by decide +kernel
theorem dX7_readClause_47 : decode cX7_readClause 47 = .ok (.aload_n 0, 1) := by decide +kernel
theorem dX7_readClause_48 : decode cX7_readClause 48 = .ok (.bipush 32, 2) := by decide +kernel
theorem dX7_readClause_50 : decode cX7_readClause 50 = .ok (.invokevirtual 72, 3) := by decide +kernel
theorem dX7_readClause_53 : decode cX7_readClause 53 = .ok (.ifCond .eq 11, 3) := by decide +kernel
theorem dX7_readClause_56 : decode cX7_readClause 56 = .ok (.aload_n 0, 1) := by decide +kernel
theorem dX7_readClause_57 : decode cX7_readClause 57 = .ok (.iconst 0, 1) := by decide +kernel
theorem dX7_readClause_58 : decode cX7_readClause 58 = .ok (.invokevirtual 83, 3) := by decide +kernel
theorem dX7_readClause_61 : decode cX7_readClause 61 = .ok (.ifCond .ne 5, 3) := by decide +kernel
theorem dX7_readClause_64 : decode cX7_readClause 64 = .ok (.iconst 0, 1) := by decide +kernel
theorem dX7_readClause_65 : decode cX7_readClause 65 = .ok (.ireturn, 1) := by decide +kernel
theorem dX7_readClause_66 : decode cX7_readClause 66 = .ok (.aload_n 0, 1) := by decide +kernel
theorem dX7_readClause_67 : decode cX7_readClause 67 = .ok (.iload_n 1, 1) := by decide +kernel
theorem dX7_readClause_68 : decode cX7_readClause 68 = .ok (.iload_n 2, 1) := by decide +kernel
theorem dX7_readClause_69 : decode cX7_readClause 69 = .ok (.iload_n 3, 1) := by decide +kernel
theorem dX7_readClause_70 : decode cX7_readClause 70 = .ok (.invokevirtual 86, 3) := by decide +kernel
theorem dX7_readClause_73 : decode cX7_readClause 73 = .ok (.iconst 1, 1) := by decide +kernel
theorem dX7_readClause_74 : decode cX7_readClause 74 = .ok (.ireturn, 1) := by decide +kernel
theorem dX7_keepClause_0 : decode cX7_keepClause 0 = .ok (.iload_n 1, 1) := by decide +kernel
theorem dX7_keepClause_1 : decode cX7_keepClause 1 = .ok (.tableswitch 68 0 4 #[35, 44, 52, 68, 60], 35) := by decide +kernel
theorem dX7_keepClause_36 : decode cX7_keepClause 36 = .ok (.aload_n 0, 1) := by decide +kernel
theorem dX7_keepClause_37 : decode cX7_keepClause 37 = .ok (.iload_n 2, 1) := by decide +kernel
theorem dX7_keepClause_38 : decode cX7_keepClause 38 = .ok (.iload_n 3, 1) := by decide +kernel
theorem dX7_keepClause_39 : decode cX7_keepClause 39 = .ok (.invokevirtual 90, 3) := by decide +kernel
theorem dX7_keepClause_42 : decode cX7_keepClause 42 = .ok (.goto 33, 3) := by decide +kernel
theorem dX7_keepClause_45 : decode cX7_keepClause 45 = .ok (.aload_n 0, 1) := by decide +kernel
theorem dX7_keepClause_46 : decode cX7_keepClause 46 = .ok (.iload_n 2, 1) := by decide +kernel
theorem dX7_keepClause_47 : decode cX7_keepClause 47 = .ok (.putfield 9, 3) := by decide +kernel
theorem dX7_keepClause_50 : decode cX7_keepClause 50 = .ok (.goto 25, 3) := by decide +kernel
theorem dX7_keepClause_53 : decode cX7_keepClause 53 = .ok (.aload_n 0, 1) := by decide +kernel
theorem dX7_keepClause_54 : decode cX7_keepClause 54 = .ok (.iload_n 2, 1) := by decide +kernel
theorem dX7_keepClause_55 : decode cX7_keepClause 55 = .ok (.putfield 15, 3) := by decide +kernel
theorem dX7_keepClause_58 : decode cX7_keepClause 58 = .ok (.goto 17, 3) := by decide +kernel
theorem dX7_keepClause_61 : decode cX7_keepClause 61 = .ok (.aload_n 0, 1) := by decide +kernel
theorem dX7_keepClause_62 : decode cX7_keepClause 62 = .ok (.iload_n 2, 1) := by decide +kernel
theorem dX7_keepClause_63 : decode cX7_keepClause 63 = .ok (.putfield 18, 3) := by decide +kernel
theorem dX7_keepClause_66 : decode cX7_keepClause 66 = .ok (.goto 9, 3) := by decide +kernel
theorem dX7_keepClause_69 : decode cX7_keepClause 69 = .ok (.aload_n 0, 1) := by decide +kernel
theorem dX7_keepClause_70 : decode cX7_keepClause 70 = .ok (.iload_n 2, 1) := by decide +kernel
theorem dX7_keepClause_71 : decode cX7_keepClause 71 = .ok (.iload_n 3, 1) := by decide +kernel
theorem dX7_keepClause_72 : decode cX7_keepClause 72 = .ok (.invokevirtual 94, 3) := by decide +kernel
theorem dX7_keepClause_75 : decode cX7_keepClause 75 = .ok (.return_, 1) := by decide +kernel
theorem dX7_addRain_0 : decode cX7_addRain 0 = .ok (.iconst 0, 1) := by decide +kernel
theorem dX7_addRain_1 : decode cX7_addRain 1 = .ok (.istore_n 3, 1) := by decide +kernel
theorem dX7_addRain_2 : decode cX7_addRain 2 = .ok (.iload_n 3, 1) := by decide +kernel
theorem dX7_addRain_3 : decode cX7_addRain 3 = .ok (.aload_n 0, 1) := by decide +kernel
theorem dX7_addRain_4 : decode cX7_addRain 4 = .ok (.getfield 21, 3) := by decide +kernel
theorem dX7_addRain_7 : decode cX7_addRain 7 = .ok (.arraylength, 1) := by decide +kernel
theorem dX7_addRain_8 : decode cX7_addRain 8 = .ok (.if_icmp .ge 56, 3) := by decide +kernel
theorem dX7_addRain_11 : decode cX7_addRain 11 = .ok (.aload_n 0, 1) := by decide +kernel
theorem dX7_addRain_12 : decode cX7_addRain 12 = .ok (.iload_n 3, 1) := by decide +kernel
theorem dX7_addRain_13 : decode cX7_addRain 13 = .ok (.iconst 2, 1) := by decide +kernel
theorem dX7_addRain_14 : decode cX7_addRain 14 = .ok (.irem, 1) := by decide +kernel
theorem dX7_addRain_15 : decode cX7_addRain 15 = .ok (.iload_n 3, 1) := by decide +kernel
theorem dX7_addRain_16 : decode cX7_addRain 16 = .ok (.iconst 2, 1) := by decide +kernel
theorem dX7_addRain_17 : decode cX7_addRain 17 = .ok (.idiv, 1) := by decide +kernel
theorem dX7_addRain_18 : decode cX7_addRain 18 = .ok (.bipush 99, 2) := by decide +kernel
theorem dX7_addRain_20 : decode cX7_addRain 20 = .ok (.bipush 99, 2) := by decide +kernel
theorem dX7_addRain_22 : decode cX7_addRain 22 = .ok (.bipush 99, 2) := by decide +kernel
theorem dX7_addRain_24 : decode cX7_addRain 24 = .ok (.invokevirtual 56, 3) := by decide +kernel
theorem dX7_addRain_27 : decode cX7_addRain 27 = .ok (.aload_n 0, 1) := by decide +kernel
theorem dX7_addRain_28 : decode cX7_addRain 28 = .ok (.iload_n 2, 1) := by decide +kernel
theorem dX7_addRain_29 : decode cX7_addRain 29 = .ok (.aload_n 0, 1) := by decide +kernel
theorem dX7_addRain_30 : decode cX7_addRain 30 = .ok (.getfield 40, 3) := by decide +kernel
theorem dX7_addRain_33 : decode cX7_addRain 33 = .ok (.invokevirtual 60, 3) := by decide +kernel
theorem dX7_addRain_36 : decode cX7_addRain 36 = .ok (.ifCond .eq 22, 3) := by decide +kernel
theorem dX7_addRain_39 : decode cX7_addRain 39 = .ok (.aload_n 0, 1) := by decide +kernel
theorem dX7_addRain_40 : decode cX7_addRain 40 = .ok (.getfield 21, 3) := by decide +kernel
theorem dX7_addRain_43 : decode cX7_addRain 43 = .ok (.iload_n 3, 1) := by decide +kernel
theorem dX7_addRain_44 : decode cX7_addRain 44 = .ok (.aload_n 0, 1) := by decide +kernel
theorem dX7_addRain_45 : decode cX7_addRain 45 = .ok (.getfield 21, 3) := by decide +kernel
theorem dX7_addRain_48 : decode cX7_addRain 48 = .ok (.iload_n 3, 1) := by decide +kernel
theorem dX7_addRain_49 : decode cX7_addRain 49 = .ok (.iaload, 1) := by decide +kernel
theorem dX7_addRain_50 : decode cX7_addRain 50 = .ok (.iload_n 1, 1) := by decide +kernel
theorem dX7_addRain_51 : decode cX7_addRain 51 = .ok (.iadd, 1) := by decide +kernel
theorem dX7_addRain_52 : decode cX7_addRain 52 = .ok (.bipush 10, 2) := by decide +kernel
theorem dX7_addRain_54 : decode cX7_addRain 54 = .ok (.invokestatic 97, 3) := by decide +kernel
theorem dX7_addRain_57 : decode cX7_addRain 57 = .ok (.iastore, 1) := by decide +kernel
theorem dX7_addRain_58 : decode cX7_addRain 58 = .ok (.iinc 3 1, 3) := by decide +kernel
theorem dX7_addRain_61 : decode cX7_addRain 61 = .ok (.goto (-59), 3) := by decide +kernel
theorem dX7_addRain_64 : decode cX7_addRain 64 = .ok (.return_, 1) := by decide +kernel
theorem dX7_addLost_0 : decode cX7_addLost 0 = .ok (.aload_n 0, 1) := by decide +kernel
theorem dX7_addLost_1 : decode cX7_addLost 1 = .ok (.getfield 34, 3) := by decide +kernel
theorem dX7_addLost_4 : decode cX7_addLost 4 = .ok (.bipush 10, 2) := by decide +kernel
theorem dX7_addLost_6 : decode cX7_addLost 6 = .ok (.if_icmp .ge 46, 3) := by decide +kernel
theorem dX7_addLost_9 : decode cX7_addLost 9 = .ok (.aload_n 0, 1) := by decide +kernel
theorem dX7_addLost_10 : decode cX7_addLost 10 = .ok (.getfield 25, 3) := by decide +kernel
theorem dX7_addLost_13 : decode cX7_addLost 13 = .ok (.aload_n 0, 1) := by decide +kernel
theorem dX7_addLost_14 : decode cX7_addLost 14 = .ok (.getfield 34, 3) := by decide +kernel
theorem dX7_addLost_17 : decode cX7_addLost 17 = .ok (.iload_n 1, 1) := by decide +kernel
theorem dX7_addLost_18 : decode cX7_addLost 18 = .ok (.iastore, 1) := by decide +kernel
theorem dX7_addLost_19 : decode cX7_addLost 19 = .ok (.aload_n 0, 1) := by decide +kernel
theorem dX7_addLost_20 : decode cX7_addLost 20 = .ok (.getfield 28, 3) := by decide +kernel
theorem dX7_addLost_23 : decode cX7_addLost 23 = .ok (.aload_n 0, 1) := by decide +kernel
theorem dX7_addLost_24 : decode cX7_addLost 24 = .ok (.getfield 34, 3) := by decide +kernel
theorem dX7_addLost_27 : decode cX7_addLost 27 = .ok (.iload_n 2, 1) := by decide +kernel
theorem dX7_addLost_28 : decode cX7_addLost 28 = .ok (.iastore, 1) := by decide +kernel
theorem dX7_addLost_29 : decode cX7_addLost 29 = .ok (.aload_n 0, 1) := by decide +kernel
theorem dX7_addLost_30 : decode cX7_addLost 30 = .ok (.getfield 31, 3) := by decide +kernel
theorem dX7_addLost_33 : decode cX7_addLost 33 = .ok (.aload_n 0, 1) := by decide +kernel
theorem dX7_addLost_34 : decode cX7_addLost 34 = .ok (.getfield 34, 3) := by decide +kernel
theorem dX7_addLost_37 : decode cX7_addLost 37 = .ok (.aload_n 0, 1) := by decide +kernel
theorem dX7_addLost_38 : decode cX7_addLost 38 = .ok (.getfield 40, 3) := by decide +kernel
theorem dX7_addLost_41 : decode cX7_addLost 41 = .ok (.iastore, 1) := by decide +kernel
theorem dX7_addLost_42 : decode cX7_addLost 42 = .ok (.aload_n 0, 1) := by decide +kernel
theorem dX7_addLost_43 : decode cX7_addLost 43 = .ok (.dup, 1) := by decide +kernel
theorem dX7_addLost_44 : decode cX7_addLost 44 = .ok (.getfield 34, 3) := by decide +kernel
theorem dX7_addLost_47 : decode cX7_addLost 47 = .ok (.iconst 1, 1) := by decide +kernel
theorem dX7_addLost_48 : decode cX7_addLost 48 = .ok (.iadd, 1) := by decide +kernel
theorem dX7_addLost_49 : decode cX7_addLost 49 = .ok (.putfield 34, 3) := by decide +kernel
theorem dX7_addLost_52 : decode cX7_addLost 52 = .ok (.return_, 1) := by decide +kernel
theorem dX7_readWord_0 : decode cX7_readWord 0 = .ok (.iconst 0, 1) := by decide +kernel
theorem dX7_readWord_1 : decode cX7_readWord 1 = .ok (.istore_n 1, 1) := by decide +kernel
theorem dX7_readWord_2 : decode cX7_readWord 2 = .ok (.iconst 0, 1) := by decide +kernel
theorem dX7_readWord_3 : decode cX7_readWord 3 = .ok (.istore_n 2, 1) := by decide +kernel
theorem dX7_readWord_4 : decode cX7_readWord 4 = .ok (.iload_n 2, 1) := by decide +kernel
theorem dX7_readWord_5 : decode cX7_readWord 5 = .ok (.iconst 5, 1) := by decide +kernel
theorem dX7_readWord_6 : decode cX7_readWord 6 = .ok (.if_icmp .ge 50, 3) := by decide +kernel
theorem dX7_readWord_9 : decode cX7_readWord 9 = .ok (.iload_n 2, 1) := by decide +kernel
theorem dX7_readWord_10 : decode cX7_readWord 10 = .ok (.invokestatic 103, 3) := by decide +kernel
theorem dX7_readWord_13 : decode cX7_readWord 13 = .ok (.astore_n 3, 1) := by decide +kernel
theorem dX7_readWord_14 : decode cX7_readWord 14 = .ok (.aload_n 0, 1) := by decide +kernel
theorem dX7_readWord_15 : decode cX7_readWord 15 = .ok (.aload_n 3, 1) := by decide +kernel
theorem dX7_readWord_16 : decode cX7_readWord 16 = .ok (.invokevirtual 107, 3) := by decide +kernel
theorem dX7_readWord_19 : decode cX7_readWord 19 = .ok (.istore 4, 2) := by decide +kernel
theorem dX7_readWord_21 : decode cX7_readWord 21 = .ok (.iload 4, 2) := by decide +kernel
theorem dX7_readWord_23 : decode cX7_readWord 23 = .ok (.aload_n 3, 1) := by decide +kernel
theorem dX7_readWord_24 : decode cX7_readWord 24 = .ok (.invokevirtual 111, 3) := by decide +kernel
theorem dX7_readWord_27 : decode cX7_readWord 27 = .ok (.if_icmp .ne 16, 3) := by decide +kernel
theorem dX7_readWord_30 : decode cX7_readWord 30 = .ok (.aload_n 0, 1) := by decide +kernel
theorem dX7_readWord_31 : decode cX7_readWord 31 = .ok (.dup, 1) := by decide +kernel
theorem dX7_readWord_32 : decode cX7_readWord 32 = .ok (.getfield 53, 3) := by decide +kernel
theorem dX7_readWord_35 : decode cX7_readWord 35 = .ok (.iload 4, 2) := by decide +kernel
theorem dX7_readWord_37 : decode cX7_readWord 37 = .ok (.iadd, 1) := by decide +kernel
theorem dX7_readWord_38 : decode cX7_readWord 38 = .ok (.putfield 53, 3) := by decide +kernel
theorem dX7_readWord_41 : decode cX7_readWord 41 = .ok (.iload_n 2, 1) := by decide +kernel
theorem dX7_readWord_42 : decode cX7_readWord 42 = .ok (.ireturn, 1) := by decide +kernel
theorem dX7_readWord_43 : decode cX7_readWord 43 = .ok (.iload_n 1, 1) := by decide +kernel
theorem dX7_readWord_44 : decode cX7_readWord 44 = .ok (.iload 4, 2) := by decide +kernel
theorem dX7_readWord_46 : decode cX7_readWord 46 = .ok (.invokestatic 116, 3) := by decide +kernel
theorem dX7_readWord_49 : decode cX7_readWord 49 = .ok (.istore_n 1, 1) := by decide +kernel
theorem dX7_readWord_50 : decode cX7_readWord 50 = .ok (.iinc 2 1, 3) := by decide +kernel
theorem dX7_readWord_53 : decode cX7_readWord 53 = .ok (.goto (-49), 3) := by decide +kernel
theorem dX7_readWord_56 : decode cX7_readWord 56 = .ok (.aload_n 0, 1) := by decide +kernel
theorem dX7_readWord_57 : decode cX7_readWord 57 = .ok (.dup, 1) := by decide +kernel
theorem dX7_readWord_58 : decode cX7_readWord 58 = .ok (.getfield 53, 3) := by decide +kernel
theorem dX7_readWord_61 : decode cX7_readWord 61 = .ok (.iload_n 1, 1) := by decide +kernel
theorem dX7_readWord_62 : decode cX7_readWord 62 = .ok (.iadd, 1) := by decide +kernel
theorem dX7_readWord_63 : decode cX7_readWord 63 = .ok (.putfield 53, 3) := by decide +kernel
theorem dX7_readWord_66 : decode cX7_readWord 66 = .ok (.iconst (-1), 1) := by decide +kernel
theorem dX7_readWord_67 : decode cX7_readWord 67 = .ok (.ireturn, 1) := by decide +kernel
theorem dX7_wordOf_0 : decode cX7_wordOf 0 = .ok (.iload_n 0, 1) := by decide +kernel
theorem dX7_wordOf_1 : decode cX7_wordOf 1 = .ok (.tableswitch 43 0 3 #[31, 34, 37, 40], 31) := by decide +kernel
theorem dX7_wordOf_32 : decode cX7_wordOf 32 = .ok (.ldc 119, 2) := by decide +kernel
theorem dX7_wordOf_34 : decode cX7_wordOf 34 = .ok (.areturn, 1) := by decide +kernel
theorem dX7_wordOf_35 : decode cX7_wordOf 35 = .ok (.ldc 121, 2) := by decide +kernel
theorem dX7_wordOf_37 : decode cX7_wordOf 37 = .ok (.areturn, 1) := by decide +kernel
theorem dX7_wordOf_38 : decode cX7_wordOf 38 = .ok (.ldc 122, 2) := by decide +kernel
theorem dX7_wordOf_40 : decode cX7_wordOf 40 = .ok (.areturn, 1) := by decide +kernel
theorem dX7_wordOf_41 : decode cX7_wordOf 41 = .ok (.ldc 123, 2) := by decide +kernel
theorem dX7_wordOf_43 : decode cX7_wordOf 43 = .ok (.areturn, 1) := by decide +kernel
theorem dX7_wordOf_44 : decode cX7_wordOf 44 = .ok (.ldc 125, 2) := by decide +kernel
theorem dX7_wordOf_46 : decode cX7_wordOf 46 = .ok (.areturn, 1) := by decide +kernel
theorem dX7_alikeWith_0 : decode cX7_alikeWith 0 = .ok (.iconst 0, 1) := by decide +kernel
theorem dX7_alikeWith_1 : decode cX7_alikeWith 1 = .ok (.istore_n 2, 1) := by decide +kernel
theorem dX7_alikeWith_2 : decode cX7_alikeWith 2 = .ok (.iload_n 2, 1) := by decide +kernel
theorem dX7_alikeWith_3 : decode cX7_alikeWith 3 = .ok (.aload_n 1, 1) := by decide +kernel
theorem dX7_alikeWith_4 : decode cX7_alikeWith 4 = .ok (.invokevirtual 111, 3) := by decide +kernel
theorem dX7_alikeWith_7 : decode cX7_alikeWith 7 = .ok (.if_icmp .ge 27, 3) := by decide +kernel
theorem dX7_alikeWith_10 : decode cX7_alikeWith 10 = .ok (.aload_n 0, 1) := by decide +kernel
theorem dX7_alikeWith_11 : decode cX7_alikeWith 11 = .ok (.aload_n 0, 1) := by decide +kernel
theorem dX7_alikeWith_12 : decode cX7_alikeWith 12 = .ok (.getfield 53, 3) := by decide +kernel
theorem dX7_alikeWith_15 : decode cX7_alikeWith 15 = .ok (.iload_n 2, 1) := by decide +kernel
theorem dX7_alikeWith_16 : decode cX7_alikeWith 16 = .ok (.iadd, 1) := by decide +kernel
theorem dX7_alikeWith_17 : decode cX7_alikeWith 17 = .ok (.invokevirtual 127, 3) := by decide +kernel
theorem dX7_alikeWith_20 : decode cX7_alikeWith 20 = .ok (.aload_n 1, 1) := by decide +kernel
theorem dX7_alikeWith_21 : decode cX7_alikeWith 21 = .ok (.iload_n 2, 1) := by decide +kernel
theorem dX7_alikeWith_22 : decode cX7_alikeWith 22 = .ok (.invokevirtual 131, 3) := by decide +kernel
theorem dX7_alikeWith_25 : decode cX7_alikeWith 25 = .ok (.if_icmp .ne 9, 3) := by decide +kernel
theorem dX7_alikeWith_28 : decode cX7_alikeWith 28 = .ok (.iinc 2 1, 3) := by decide +kernel
theorem dX7_alikeWith_31 : decode cX7_alikeWith 31 = .ok (.goto (-29), 3) := by decide +kernel
theorem dX7_alikeWith_34 : decode cX7_alikeWith 34 = .ok (.iload_n 2, 1) := by decide +kernel
theorem dX7_alikeWith_35 : decode cX7_alikeWith 35 = .ok (.ireturn, 1) := by decide +kernel
theorem dX7_readNumber_0 : decode cX7_readNumber 0 = .ok (.aload_n 0, 1) := by decide +kernel
theorem dX7_readNumber_1 : decode cX7_readNumber 1 = .ok (.aload_n 0, 1) := by decide +kernel
theorem dX7_readNumber_2 : decode cX7_readNumber 2 = .ok (.getfield 53, 3) := by decide +kernel
theorem dX7_readNumber_5 : decode cX7_readNumber 5 = .ok (.invokevirtual 127, 3) := by decide +kernel
theorem dX7_readNumber_8 : decode cX7_readNumber 8 = .ok (.bipush 48, 2) := by decide +kernel
theorem dX7_readNumber_10 : decode cX7_readNumber 10 = .ok (.isub, 1) := by decide +kernel
theorem dX7_readNumber_11 : decode cX7_readNumber 11 = .ok (.istore_n 1, 1) := by decide +kernel
theorem dX7_readNumber_12 : decode cX7_readNumber 12 = .ok (.iload_n 1, 1) := by decide +kernel
theorem dX7_readNumber_13 : decode cX7_readNumber 13 = .ok (.ifCond .lt 9, 3) := by decide +kernel
theorem dX7_readNumber_16 : decode cX7_readNumber 16 = .ok (.iload_n 1, 1) := by decide +kernel
theorem dX7_readNumber_17 : decode cX7_readNumber 17 = .ok (.bipush 9, 2) := by decide +kernel
theorem dX7_readNumber_19 : decode cX7_readNumber 19 = .ok (.if_icmp .le 5, 3) := by decide +kernel
theorem dX7_readNumber_22 : decode cX7_readNumber 22 = .ok (.iconst (-1), 1) := by decide +kernel
theorem dX7_readNumber_23 : decode cX7_readNumber 23 = .ok (.ireturn, 1) := by decide +kernel
theorem dX7_readNumber_24 : decode cX7_readNumber 24 = .ok (.aload_n 0, 1) := by decide +kernel
theorem dX7_readNumber_25 : decode cX7_readNumber 25 = .ok (.dup, 1) := by decide +kernel
theorem dX7_readNumber_26 : decode cX7_readNumber 26 = .ok (.getfield 53, 3) := by decide +kernel
theorem dX7_readNumber_29 : decode cX7_readNumber 29 = .ok (.iconst 1, 1) := by decide +kernel
theorem dX7_readNumber_30 : decode cX7_readNumber 30 = .ok (.iadd, 1) := by decide +kernel
theorem dX7_readNumber_31 : decode cX7_readNumber 31 = .ok (.putfield 53, 3) := by decide +kernel
theorem dX7_readNumber_34 : decode cX7_readNumber 34 = .ok (.aload_n 0, 1) := by decide +kernel
theorem dX7_readNumber_35 : decode cX7_readNumber 35 = .ok (.aload_n 0, 1) := by decide +kernel
theorem dX7_readNumber_36 : decode cX7_readNumber 36 = .ok (.getfield 53, 3) := by decide +kernel
theorem dX7_readNumber_39 : decode cX7_readNumber 39 = .ok (.invokevirtual 127, 3) := by decide +kernel
theorem dX7_readNumber_42 : decode cX7_readNumber 42 = .ok (.bipush 48, 2) := by decide +kernel
theorem dX7_readNumber_44 : decode cX7_readNumber 44 = .ok (.isub, 1) := by decide +kernel
theorem dX7_readNumber_45 : decode cX7_readNumber 45 = .ok (.istore_n 2, 1) := by decide +kernel
theorem dX7_readNumber_46 : decode cX7_readNumber 46 = .ok (.iload_n 1, 1) := by decide +kernel
theorem dX7_readNumber_47 : decode cX7_readNumber 47 = .ok (.ifCond .eq 13, 3) := by decide +kernel
theorem dX7_readNumber_50 : decode cX7_readNumber 50 = .ok (.iload_n 2, 1) := by decide +kernel
theorem dX7_readNumber_51 : decode cX7_readNumber 51 = .ok (.ifCond .lt 9, 3) := by decide +kernel
theorem dX7_readNumber_54 : decode cX7_readNumber 54 = .ok (.iload_n 2, 1) := by decide +kernel
theorem dX7_readNumber_55 : decode cX7_readNumber 55 = .ok (.bipush 9, 2) := by decide +kernel
theorem dX7_readNumber_57 : decode cX7_readNumber 57 = .ok (.if_icmp .le 5, 3) := by decide +kernel
theorem dX7_readNumber_60 : decode cX7_readNumber 60 = .ok (.iload_n 1, 1) := by decide +kernel
theorem dX7_readNumber_61 : decode cX7_readNumber 61 = .ok (.ireturn, 1) := by decide +kernel
theorem dX7_readNumber_62 : decode cX7_readNumber 62 = .ok (.aload_n 0, 1) := by decide +kernel
theorem dX7_readNumber_63 : decode cX7_readNumber 63 = .ok (.dup, 1) := by decide +kernel
theorem dX7_readNumber_64 : decode cX7_readNumber 64 = .ok (.getfield 53, 3) := by decide +kernel
theorem dX7_readNumber_67 : decode cX7_readNumber 67 = .ok (.iconst 1, 1) := by decide +kernel
theorem dX7_readNumber_68 : decode cX7_readNumber 68 = .ok (.iadd, 1) := by decide +kernel
theorem dX7_readNumber_69 : decode cX7_readNumber 69 = .ok (.putfield 53, 3) := by decide +kernel
theorem dX7_readNumber_72 : decode cX7_readNumber 72 = .ok (.iload_n 1, 1) := by decide +kernel
theorem dX7_readNumber_73 : decode cX7_readNumber 73 = .ok (.bipush 10, 2) := by decide +kernel
theorem dX7_readNumber_75 : decode cX7_readNumber 75 = .ok (.imul, 1) := by decide +kernel
theorem dX7_readNumber_76 : decode cX7_readNumber 76 = .ok (.iload_n 2, 1) := by decide +kernel
theorem dX7_readNumber_77 : decode cX7_readNumber 77 = .ok (.iadd, 1) := by decide +kernel
theorem dX7_readNumber_78 : decode cX7_readNumber 78 = .ok (.ireturn, 1) := by decide +kernel
